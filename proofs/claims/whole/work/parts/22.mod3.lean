/-- the reference's kinds and values in the class's words -/
def jkof (s g : Int) : Int := if s = 0 then 108 else if s = 1 then 119 else if s = 2 then 111 else if s = 3 then (if g ≠ 0 then 74 else 106) else if s = 4 then 97 else 103
def jmK (σ : JM) (i : Int) : Int := jkof (σ 44 i) (σ 50 i)
def jmV (σ : JM) (i : Int) : Int := if σ 44 i = 2 then 100 * σ 36 (σ 43 i) + σ 45 i else σ 45 i
/-- what is true of the reference's items -/
def jmok (σ : JM) : Prop := (0 ≤ σ 7 16 ∧ σ 7 16 ≤ 200) ∧ ∀ i, 0 ≤ i → i < σ 7 16 → (0 ≤ σ 44 i ∧ σ 44 i ≤ 5) ∧ (σ 44 i = 5 → 2 ≤ σ 45 i ∧ σ 45 i ≤ 8) ∧ (0 ≤ σ 45 i ∧ σ 45 i ≤ 999) ∧ (0 ≤ σ 43 i ∧ σ 43 i < 80) ∧ (σ 44 i = 2 → 0 ≤ σ 36 (σ 43 i) ∧ σ 36 (σ 43 i) ≤ 99)
theorem sp_X7_sizeOf {σ : JM} {x a : Int} (hx : 0 ≤ x ∧ x < 200) (ha : 0 ≤ a) (hs : 0 ≤ σ 44 x ∧ σ 44 x ≤ 5) (hv : σ 44 x = 5 → 2 ≤ σ 45 x ∧ σ 45 x ≤ 8) : JSp mX7_sizeOf 0 0 [(2, 7), (0, x), (0, a)] σ (jrv (jtk (jmK σ x) (jmV σ x) a) σ) jno := by
  have e : ∀ y, y = jtk (jmK σ x) (jmV σ x) a ↔ y = (if σ 44 x = 0 then 0 else if σ 44 x = 3 ∧ σ 50 x ≠ 0 then 2 else if σ 44 x = 5 then (if a % σ 45 x = 0 then 0 else σ 45 x - a % σ 45 x) else 1) := fun y => by
    have : jtk (jmK σ x) (jmV σ x) a = (if σ 44 x = 0 then 0 else if σ 44 x = 3 ∧ σ 50 x ≠ 0 then 2 else if σ 44 x = 5 then (if a % σ 45 x = 0 then 0 else σ 45 x - a % σ 45 x) else 1) := by
      unfold jtk jmK jmV jkof jmul
      by_cases c5 : σ 44 x = 5
      · have := hv c5
        simp [c5, show ¬ σ 45 x < 2 by omega]
      · by_cases c3 : σ 44 x = 3
        · by_cases g : σ 50 x = 0 <;> simp [c3, g]
        · have : σ 44 x = 0 ∨ σ 44 x = 1 ∨ σ 44 x = 2 ∨ σ 44 x = 4 := by omega
          rcases this with h | h | h | h <;> simp [h]
    rw [this]
  refine JSp.of [(2, 7), (0, x), (0, a), (9, 0), (9, 0)] rfl (by decide +kernel) rfl rfl rfl (fun l E hA => ?_)
  refine V.aload_n dX7_sizeOf_0 rfl ?_
  refine V.getR fa_X7_48 rfl dX7_sizeOf_1 ?_
  refine V.iload_n dX7_sizeOf_4 rfl ?_
  refine V.iald (cell := 44) 0 rfl rfl rfl rfl dX7_sizeOf_5 (by omega) (by omega) (fun _ => ?_)
  refine V.istore_n (L' := [_, _, _, _, _]) dX7_sizeOf_6 rfl rfl ?_
  refine V.iload_n dX7_sizeOf_7 rfl ?_
  refine V.iconst dX7_sizeOf_8 ⟨by decide, by decide⟩ ?_
  refine V.icmp_ne (tgt := 23) dX7_sizeOf_9 (by decide) (fun g9 => ?_) (fun g9 => ?_)
  · refine V.iconst dX7_sizeOf_23 ⟨by decide, by decide⟩ ?_
    refine V.istore (L' := [_, _, _, _, _]) dX7_sizeOf_24 rfl rfl ?_
    refine V.iload_n dX7_sizeOf_26 rfl ?_
    refine V.if_ne (tgt := 34) dX7_sizeOf_27 (by decide) (fun g27 => ?_) (fun g27 => ?_)
    · refine V.iload_n dX7_sizeOf_34 rfl ?_
      refine V.iconst dX7_sizeOf_35 ⟨by decide, by decide⟩ ?_
      refine V.icmp_ne (tgt := 52) dX7_sizeOf_36 (by decide) (fun g36 => ?_) (fun g36 => ?_)
      · refine V.iload_n dX7_sizeOf_52 rfl ?_
        refine V.iconst dX7_sizeOf_53 ⟨by decide, by decide⟩ ?_
        refine V.icmp_eq (tgt := 61) dX7_sizeOf_54 (by decide) (fun g54 => ?_) (fun g54 => ?_)
        · refine V.iload dX7_sizeOf_61 rfl ?_
          refine V.if_ne (tgt := 70) dX7_sizeOf_63 (by decide) (fun g63 => ?_) (fun g63 => ?_)
          · refine V.aload_n dX7_sizeOf_70 rfl ?_
            refine V.getR fa_X7_51 rfl dX7_sizeOf_71 ?_
            refine V.iload_n dX7_sizeOf_74 rfl ?_
            refine V.iald (cell := 45) 0 rfl rfl rfl rfl dX7_sizeOf_75 (by omega) (by omega) (fun _ => ?_)
            refine V.iload dX7_sizeOf_76 rfl ?_
            refine V.isub dX7_sizeOf_78 ⟨(by first | omega | (have := hv g9; omega) | (have := hv g54; omega)), (by first | omega | (have := hv g9; omega) | (have := hv g54; omega))⟩ ?_
            exact V.iret (jret_i dX7_sizeOf_79 rfl) ⟨jsm ((e _).mpr (by (repeat' split) <;> first | rfl | omega)), rfl⟩
          · refine V.iconst dX7_sizeOf_66 ⟨by decide, by decide⟩ ?_
            refine V.goto (tgt := 79) dX7_sizeOf_67 (by decide) ?_
            exact V.iret (jret_i dX7_sizeOf_79 rfl) ⟨jsm ((e _).mpr (by (repeat' split) <;> first | rfl | omega)), rfl⟩
        · refine V.iconst dX7_sizeOf_57 ⟨by decide, by decide⟩ ?_
          refine V.goto (tgt := 79) dX7_sizeOf_58 (by decide) ?_
          exact V.iret (jret_i dX7_sizeOf_79 rfl) ⟨jsm ((e _).mpr (by (repeat' split) <;> first | rfl | omega)), rfl⟩
      · refine V.aload_n dX7_sizeOf_39 rfl ?_
        refine V.getR fa_X7_66 rfl dX7_sizeOf_40 ?_
        refine V.iload_n dX7_sizeOf_43 rfl ?_
        refine V.zald (cell := 50) 0 rfl rfl rfl rfl dX7_sizeOf_44 (by omega) (by omega) (fun _ => ?_)
        refine V.if_eq (tgt := 52) dX7_sizeOf_45 (by decide) (fun g45 => ?_) (fun g45 => ?_)
        · refine V.iload_n dX7_sizeOf_52 rfl ?_
          refine V.iconst dX7_sizeOf_53 ⟨by decide, by decide⟩ ?_
          refine V.icmp_eq (tgt := 61) dX7_sizeOf_54 (by decide) (fun g54 => ?_) (fun g54 => ?_)
          · refine V.iload dX7_sizeOf_61 rfl ?_
            refine V.if_ne (tgt := 70) dX7_sizeOf_63 (by decide) (fun g63 => ?_) (fun g63 => ?_)
            · refine V.aload_n dX7_sizeOf_70 rfl ?_
              refine V.getR fa_X7_51 rfl dX7_sizeOf_71 ?_
              refine V.iload_n dX7_sizeOf_74 rfl ?_
              refine V.iald (cell := 45) 0 rfl rfl rfl rfl dX7_sizeOf_75 (by omega) (by omega) (fun _ => ?_)
              refine V.iload dX7_sizeOf_76 rfl ?_
              refine V.isub dX7_sizeOf_78 ⟨(by first | omega | (have := hv g9; omega) | (have := hv g54; omega)), (by first | omega | (have := hv g9; omega) | (have := hv g54; omega))⟩ ?_
              exact V.iret (jret_i dX7_sizeOf_79 rfl) ⟨jsm ((e _).mpr (by (repeat' split) <;> first | rfl | omega)), rfl⟩
            · refine V.iconst dX7_sizeOf_66 ⟨by decide, by decide⟩ ?_
              refine V.goto (tgt := 79) dX7_sizeOf_67 (by decide) ?_
              exact V.iret (jret_i dX7_sizeOf_79 rfl) ⟨jsm ((e _).mpr (by (repeat' split) <;> first | rfl | omega)), rfl⟩
          · refine V.iconst dX7_sizeOf_57 ⟨by decide, by decide⟩ ?_
            refine V.goto (tgt := 79) dX7_sizeOf_58 (by decide) ?_
            exact V.iret (jret_i dX7_sizeOf_79 rfl) ⟨jsm ((e _).mpr (by (repeat' split) <;> first | rfl | omega)), rfl⟩
        · refine V.iconst dX7_sizeOf_48 ⟨by decide, by decide⟩ ?_
          refine V.goto (tgt := 79) dX7_sizeOf_49 (by decide) ?_
          exact V.iret (jret_i dX7_sizeOf_79 rfl) ⟨jsm ((e _).mpr (by (repeat' split) <;> first | rfl | omega)), rfl⟩
    · refine V.iconst dX7_sizeOf_30 ⟨by decide, by decide⟩ ?_
      refine V.goto (tgt := 79) dX7_sizeOf_31 (by decide) ?_
      exact V.iret (jret_i dX7_sizeOf_79 rfl) ⟨jsm ((e _).mpr (by (repeat' split) <;> first | rfl | omega)), rfl⟩
  · refine V.iload_n dX7_sizeOf_12 rfl ?_
    refine V.aload_n dX7_sizeOf_13 rfl ?_
    refine V.getR fa_X7_51 rfl dX7_sizeOf_14 ?_
    refine V.iload_n dX7_sizeOf_17 rfl ?_
    refine V.iald (cell := 45) 0 rfl rfl rfl rfl dX7_sizeOf_18 (by omega) (by omega) (fun _ => ?_)
    refine V.irem dX7_sizeOf_19 (by omega) (by have := hv g9; omega) ?_
    have q1 := Int.emod_nonneg a (show σ 45 x ≠ 0 by have := hv g9; omega)
    have q2 := Int.emod_lt_of_pos a (show 0 < σ 45 x by have := hv g9; omega)
    refine V.goto (tgt := 24) dX7_sizeOf_20 (by decide) ?_
    refine V.istore (L' := [_, _, _, _, _]) dX7_sizeOf_24 rfl rfl ?_
    refine V.iload_n dX7_sizeOf_26 rfl ?_
    refine V.if_ne (tgt := 34) dX7_sizeOf_27 (by decide) (fun g27 => ?_) (fun g27 => ?_)
    · refine V.iload_n dX7_sizeOf_34 rfl ?_
      refine V.iconst dX7_sizeOf_35 ⟨by decide, by decide⟩ ?_
      refine V.icmp_ne (tgt := 52) dX7_sizeOf_36 (by decide) (fun g36 => ?_) (fun g36 => ?_)
      · refine V.iload_n dX7_sizeOf_52 rfl ?_
        refine V.iconst dX7_sizeOf_53 ⟨by decide, by decide⟩ ?_
        refine V.icmp_eq (tgt := 61) dX7_sizeOf_54 (by decide) (fun g54 => ?_) (fun g54 => ?_)
        · refine V.iload dX7_sizeOf_61 rfl ?_
          refine V.if_ne (tgt := 70) dX7_sizeOf_63 (by decide) (fun g63 => ?_) (fun g63 => ?_)
          · refine V.aload_n dX7_sizeOf_70 rfl ?_
            refine V.getR fa_X7_51 rfl dX7_sizeOf_71 ?_
            refine V.iload_n dX7_sizeOf_74 rfl ?_
            refine V.iald (cell := 45) 0 rfl rfl rfl rfl dX7_sizeOf_75 (by omega) (by omega) (fun _ => ?_)
            refine V.iload dX7_sizeOf_76 rfl ?_
            refine V.isub dX7_sizeOf_78 ⟨(by first | omega | (have := hv g9; omega) | (have := hv g54; omega)), (by first | omega | (have := hv g9; omega) | (have := hv g54; omega))⟩ ?_
            exact V.iret (jret_i dX7_sizeOf_79 rfl) ⟨jsm ((e _).mpr (by (repeat' split) <;> first | rfl | omega)), rfl⟩
          · refine V.iconst dX7_sizeOf_66 ⟨by decide, by decide⟩ ?_
            refine V.goto (tgt := 79) dX7_sizeOf_67 (by decide) ?_
            exact V.iret (jret_i dX7_sizeOf_79 rfl) ⟨jsm ((e _).mpr (by (repeat' split) <;> first | rfl | omega)), rfl⟩
        · refine V.iconst dX7_sizeOf_57 ⟨by decide, by decide⟩ ?_
          refine V.goto (tgt := 79) dX7_sizeOf_58 (by decide) ?_
          exact V.iret (jret_i dX7_sizeOf_79 rfl) ⟨jsm ((e _).mpr (by (repeat' split) <;> first | rfl | omega)), rfl⟩
      · refine V.aload_n dX7_sizeOf_39 rfl ?_
        refine V.getR fa_X7_66 rfl dX7_sizeOf_40 ?_
        refine V.iload_n dX7_sizeOf_43 rfl ?_
        refine V.zald (cell := 50) 0 rfl rfl rfl rfl dX7_sizeOf_44 (by omega) (by omega) (fun _ => ?_)
        refine V.if_eq (tgt := 52) dX7_sizeOf_45 (by decide) (fun g45 => ?_) (fun g45 => ?_)
        · refine V.iload_n dX7_sizeOf_52 rfl ?_
          refine V.iconst dX7_sizeOf_53 ⟨by decide, by decide⟩ ?_
          refine V.icmp_eq (tgt := 61) dX7_sizeOf_54 (by decide) (fun g54 => ?_) (fun g54 => ?_)
          · refine V.iload dX7_sizeOf_61 rfl ?_
            refine V.if_ne (tgt := 70) dX7_sizeOf_63 (by decide) (fun g63 => ?_) (fun g63 => ?_)
            · refine V.aload_n dX7_sizeOf_70 rfl ?_
              refine V.getR fa_X7_51 rfl dX7_sizeOf_71 ?_
              refine V.iload_n dX7_sizeOf_74 rfl ?_
              refine V.iald (cell := 45) 0 rfl rfl rfl rfl dX7_sizeOf_75 (by omega) (by omega) (fun _ => ?_)
              refine V.iload dX7_sizeOf_76 rfl ?_
              refine V.isub dX7_sizeOf_78 ⟨(by first | omega | (have := hv g9; omega) | (have := hv g54; omega)), (by first | omega | (have := hv g9; omega) | (have := hv g54; omega))⟩ ?_
              exact V.iret (jret_i dX7_sizeOf_79 rfl) ⟨jsm ((e _).mpr (by (repeat' split) <;> first | rfl | omega)), rfl⟩
            · refine V.iconst dX7_sizeOf_66 ⟨by decide, by decide⟩ ?_
              refine V.goto (tgt := 79) dX7_sizeOf_67 (by decide) ?_
              exact V.iret (jret_i dX7_sizeOf_79 rfl) ⟨jsm ((e _).mpr (by (repeat' split) <;> first | rfl | omega)), rfl⟩
          · refine V.iconst dX7_sizeOf_57 ⟨by decide, by decide⟩ ?_
            refine V.goto (tgt := 79) dX7_sizeOf_58 (by decide) ?_
            exact V.iret (jret_i dX7_sizeOf_79 rfl) ⟨jsm ((e _).mpr (by (repeat' split) <;> first | rfl | omega)), rfl⟩
        · refine V.iconst dX7_sizeOf_48 ⟨by decide, by decide⟩ ?_
          refine V.goto (tgt := 79) dX7_sizeOf_49 (by decide) ?_
          exact V.iret (jret_i dX7_sizeOf_79 rfl) ⟨jsm ((e _).mpr (by (repeat' split) <;> first | rfl | omega)), rfl⟩
    · refine V.iconst dX7_sizeOf_30 ⟨by decide, by decide⟩ ?_
      refine V.goto (tgt := 79) dX7_sizeOf_31 (by decide) ?_
      exact V.iret (jret_i dX7_sizeOf_79 rfl) ⟨jsm ((e _).mpr (by (repeat' split) <;> first | rfl | omega)), rfl⟩
def jmPl (σ : JM) : JM := jset (jfill σ 48 (σ 7 16) (jad (jmK σ) (jmV σ))) 7 19 (jad (jmK σ) (jmV σ) (σ 7 16))
theorem jkof_5 {s g : Int} (h : 0 ≤ s ∧ s ≤ 5) : jkof s g = 103 ↔ s = 5 := by
  unfold jkof
  have : s = 0 ∨ s = 1 ∨ s = 2 ∨ s = 3 ∨ s = 4 ∨ s = 5 := by omega
  rcases this with h | h | h | h | h | h <;> subst h <;> simp
  by_cases q : g = 0 <;> simp [q]
theorem jmsz {σ : JM} (h : jmok σ) : ∀ i, 0 ≤ i → i < σ 7 16 → jmK σ i = 103 → jmV σ i ≤ 8 := by
  intro i h0 h1 hk
  obtain ⟨a, b, -⟩ := h.2 i h0 h1
  have := (jkof_5 a).mp hk
  unfold jmV
  rw [if_neg (by omega)]
  exact (b this).2
theorem sp_X7_places {σ : JM} (h : jmok σ) : JSp mX7_places 1 0 [(2, 7)] σ (jvv (jmPl σ)) jno := by
  have h0 := h.1.1
  have h1 := h.1.2
  have hs := jmsz h
  refine JSp.of [(2, 7), (9, 0), (9, 0)] rfl (by decide +kernel) rfl rfl rfl (fun l E hA => ?_)
  have loop : ∀ (m : Nat) (x : Int), 0 ≤ x → x ≤ σ 7 16 → σ 7 16 - x < m → V l E mX7_places 1 0 (jvv (jmPl σ)) jno 4 [(2, 7), (0, jad (jmK σ) (jmV σ) x), (0, x)] [] (jfill σ 48 x (jad (jmK σ) (jmV σ))) := by
    intro m
    induction m with
    | zero => intro x a1 a2 a3; omega
    | succ m ih =>
      intro x a1 a2 a3
      have b1 := jad_b hs a1 (show x ≤ σ 7 16 by omega)
      have b2 := jad_s (jmK σ) (jmV σ) a1
      have b3 := ih (x + 1) (by omega)
      have b5 := jfill_s σ 48 a1 (jad (jmK σ) (jmV σ))
      have eK : jmK (jfill σ 48 (x + 1) (jad (jmK σ) (jmV σ))) x = jmK σ x := rfl
      have eV : jmV (jfill σ 48 (x + 1) (jad (jmK σ) (jmV σ))) x = jmV σ x := rfl
      refine V.iload_n dX7_places_4 rfl ?_
      refine V.aload_n dX7_places_5 rfl ?_
      refine V.getI fa_X7_124 (by decide) rfl dX7_places_6 (fun _ => ?_)
      rw [jfill_ne σ (by decide)]
      refine V.icmp_ge (tgt := 34) dX7_places_9 (by decide) (fun h9 => ?_) (fun h9 => ?_)
      · refine V.aload_n dX7_places_34 rfl ?_
        refine V.iload_n dX7_places_35 rfl ?_
        refine V.putI fa_X7_162 (by decide) rfl dX7_places_36 (Or.inl rfl) ?_
        exact V.vret (jret_v dX7_places_39 rfl) ⟨rfl, by rw [show x = σ 7 16 by omega]; rfl⟩
      · refine V.aload_n dX7_places_12 rfl ?_
        refine V.getR fa_X7_60 rfl dX7_places_13 ?_
        refine V.iload_n dX7_places_16 rfl ?_
        refine V.iload_n dX7_places_17 rfl ?_
        refine V.iast (cell := 48) 0 rfl rfl rfl rfl dX7_places_18 (by omega) (by omega) ?_
        rw [b5]
        refine V.iload_n dX7_places_19 rfl ?_
        refine V.aload_n dX7_places_20 rfl ?_
        refine V.iload_n dX7_places_21 rfl ?_
        refine V.iload_n dX7_places_22 rfl ?_
        refine V.cV [_, _] rfl kc_X7_158 rfl dX7_places_23 (by decide) rfl rfl (sp_X7_sizeOf (σ := jfill σ 48 (x + 1) (jad (jmK σ) (jmV σ))) ⟨a1, by omega⟩ b1.1 (h.2 x a1 (by omega)).1 (h.2 x a1 (by omega)).2.1) (fun _ => ?_)
        rw [eK, eV]
        have b4 := jtk_le (k := jmK σ x) (v := jmV σ x) (a := jad (jmK σ) (jmV σ) x) (hs x a1 (by omega)) b1.1
        refine V.iadd dX7_places_26 ⟨(by omega), (by omega)⟩ ?_
        refine V.istore_n (L' := [_, _, _]) dX7_places_27 rfl rfl ?_
        refine V.iinc (L' := [_, _, _]) dX7_places_28 rfl ⟨(by omega), (by omega)⟩ rfl ?_
        refine V.goto (tgt := 4) dX7_places_31 (by decide) ?_
        rw [b2] at b3; exact b3 (by omega) (by omega)
  refine V.iconst dX7_places_0 ⟨by decide, by decide⟩ ?_
  refine V.istore_n (L' := [_, _, _]) dX7_places_1 rfl rfl ?_
  refine V.iconst dX7_places_2 ⟨by decide, by decide⟩ ?_
  refine V.istore_n (L' := [_, _, _]) dX7_places_3 rfl rfl ?_
  have := loop ((σ 7 16).toNat + 1) 0 (by omega) h0 (by omega)
  rw [jfill_0] at this
  exact this
def jmds (σ : JM) (i : Int) : Int := σ 48 (σ 49 i) - σ 48 i - 1
theorem sp_X7_distance {σ : JM} {x : Int} (hx : 0 ≤ x ∧ x < 200) (ht : 0 ≤ σ 49 x ∧ σ 49 x < 200) (h1 : 0 ≤ σ 48 (σ 49 x) ∧ σ 48 (σ 49 x) ≤ 10000) (h2 : 0 ≤ σ 48 x ∧ σ 48 x ≤ 10000) : JSp mX7_distance 0 0 [(2, 7), (0, x)] σ (jrv (jmds σ x) σ) jno := by
  refine JSp.of [(2, 7), (0, x)] rfl (by decide +kernel) rfl rfl rfl (fun l E hA => ?_)
  refine V.aload_n dX7_distance_0 rfl ?_
  refine V.getR fa_X7_60 rfl dX7_distance_1 ?_
  refine V.aload_n dX7_distance_4 rfl ?_
  refine V.getR fa_X7_63 rfl dX7_distance_5 ?_
  refine V.iload_n dX7_distance_8 rfl ?_
  refine V.iald (cell := 49) 0 rfl rfl rfl rfl dX7_distance_9 (by omega) (by omega) (fun _ => ?_)
  refine V.iald (cell := 48) 0 rfl rfl rfl rfl dX7_distance_10 (by omega) (by omega) (fun _ => ?_)
  refine V.aload_n dX7_distance_11 rfl ?_
  refine V.getR fa_X7_60 rfl dX7_distance_12 ?_
  refine V.iload_n dX7_distance_15 rfl ?_
  refine V.iald (cell := 48) 0 rfl rfl rfl rfl dX7_distance_16 (by omega) (by omega) (fun _ => ?_)
  refine V.isub dX7_distance_17 ⟨(by omega), (by omega)⟩ ?_
  refine V.iconst dX7_distance_18 ⟨by decide, by decide⟩ ?_
  refine V.isub dX7_distance_19 ⟨(by omega), (by omega)⟩ ?_
  exact V.iret (jret_i dX7_distance_20 rfl) ⟨rfl, rfl⟩
abbrev jmfr (σ : JM) (i : Int) : Prop := σ 44 i = 3 ∧ σ 50 i = 0 ∧ ¬ (-8 ≤ jmds σ i ∧ jmds σ i ≤ 7)
def jmL (σ : JM) (i : Int) : Int := if jmfr σ i then 1 else σ 50 i
def jmg (σ : JM) (i : Int) : Int := if jmfr σ i then 1 else 0
def jmLn (σ : JM) : JM := jfill (jmPl σ) 50 (σ 7 16) (jmL (jmPl σ))
theorem sp_X7_lengthens {σ : JM} (h : jmok σ) (hT : ∀ i, 0 ≤ i → i < σ 7 16 → σ 44 i = 3 → 0 ≤ σ 49 i ∧ σ 49 i < σ 7 16) : JSp mX7_lengthens 2 0 [(2, 7)] σ (jrv (if 0 < jsum (jmg (jmPl σ)) (σ 7 16) then 1 else 0) (jmLn σ)) jno := by
  have h0 := h.1.1
  have h1 := h.1.2
  have bd : ∀ i, 0 ≤ i → i < σ 7 16 → 0 ≤ jmPl σ 48 i ∧ jmPl σ 48 i ≤ 10000 := fun i i0 i1 => by
    have e : jmPl σ 48 i = jad (jmK σ) (jmV σ) i := by unfold jmPl; rw [jset_nk _ (by decide), jfill_in σ 48 i0 i1]
    have := jad_b (jmsz h) i0 (Int.le_of_lt i1)
    rw [e]; omega
  obtain ⟨ρ, hρ⟩ : ∃ ρ, jmPl σ = ρ := ⟨_, rfl⟩
  have r0 : ∀ a b, a ≠ 48 → ¬ (a = 7 ∧ b = 19) → ρ a b = σ a b := fun a b c1 c2 => by rw [← hρ]; unfold jmPl; rw [jset_ne _ c2, jfill_ne σ c1]
  have r16 : ρ 7 16 = σ 7 16 := r0 7 16 (by decide) (by decide)
  have g0 : ∀ x, 0 ≤ x → 0 ≤ jsum (jmg ρ) x := fun x hx => (jsum_le (g := jmg ρ) (c := 1) hx (fun i _ _ => by unfold jmg; split <;> omega)).1
  unfold jmLn
  rw [hρ] at bd ⊢
  refine JSp.of [(2, 7), (9, 0), (9, 0)] rfl (by decide +kernel) rfl rfl rfl (fun l E hA => ?_)
  have loop : ∀ (m : Nat) (x : Int), 0 ≤ x → x ≤ σ 7 16 → σ 7 16 - x < m → V l E mX7_lengthens 2 0 (jrv (if 0 < jsum (jmg ρ) (σ 7 16) then 1 else 0) (jfill ρ 50 (σ 7 16) (jmL ρ))) jno 8 [(2, 7), (0, if 0 < jsum (jmg ρ) x then 1 else 0), (0, x)] [] (jfill ρ 50 x (jmL ρ)) := by
    intro m
    induction m with
    | zero => intro x a1 a2 a3; omega
    | succ m ih =>
      intro x a1 a2 a3
      have b1 := jsum_s (jmg ρ) a1
      have b2 := g0 x a1
      have b3 := ih (x + 1) (by omega)
      have b4 := jfill_s ρ 50 a1 (jmL ρ)
      have b5 : jfill ρ 50 x (jmL ρ) 50 x = ρ 50 x := jfill_out ρ 50 (by omega) _
      have b8 : jfill ρ 50 x (jmL ρ) 44 x = ρ 44 x := rfl
      have keep : x < σ 7 16 → ¬ jmfr ρ x → V l E mX7_lengthens 2 0 (jrv (if 0 < jsum (jmg ρ) (σ 7 16) then 1 else 0) (jfill ρ 50 (σ 7 16) (jmL ρ))) jno 62 [(2, 7), (0, if 0 < jsum (jmg ρ) x then 1 else 0), (0, x)] [] (jfill ρ 50 x (jmL ρ)) := by
        intro hx b6
        have b3 := b3
        rw [jfill_k ρ 50 a1 (show jmL ρ x = ρ 50 x by unfold jmL; rw [if_neg b6]), b1, show jmg ρ x = 0 by unfold jmg; rw [if_neg b6], Int.add_zero] at b3
        refine V.iinc (L' := [_, _, _]) dX7_lengthens_62 rfl ⟨(by omega), (by omega)⟩ rfl ?_
        refine V.goto (tgt := 8) dX7_lengthens_65 (by decide) ?_
        exact b3 (by omega) (by omega)
      refine V.iload_n dX7_lengthens_8 rfl ?_
      refine V.aload_n dX7_lengthens_9 rfl ?_
      refine V.getI fa_X7_124 (by decide) rfl dX7_lengthens_10 (fun _ => ?_)
      rw [show jfill ρ 50 x (jmL ρ) 7 16 = σ 7 16 from r16]
      refine V.icmp_ge (tgt := 68) dX7_lengthens_13 (by decide) (fun h13 => ?_) (fun h13 => ?_)
      · refine V.iload_n dX7_lengthens_68 rfl ?_
        exact V.iret (jret_z dX7_lengthens_69 rfl (by split <;> simp)) ⟨by rw [show x = σ 7 16 by omega], by rw [show x = σ 7 16 by omega]⟩
      · refine V.aload_n dX7_lengthens_16 rfl ?_
        refine V.getR fa_X7_48 rfl dX7_lengthens_17 ?_
        refine V.iload_n dX7_lengthens_20 rfl ?_
        refine V.iald (cell := 44) 0 rfl rfl rfl rfl dX7_lengthens_21 (by omega) (by omega) (fun _ => ?_)
        refine V.iconst dX7_lengthens_22 ⟨by decide, by decide⟩ ?_
        rw [b8]
        refine V.icmp_ne (tgt := 62) dX7_lengthens_23 (by decide) (fun h23 => ?_) (fun h23 => ?_)
        · exact keep h13 (fun q => h23 q.1)
        · refine V.aload_n dX7_lengthens_26 rfl ?_
          refine V.getR fa_X7_66 rfl dX7_lengthens_27 ?_
          refine V.iload_n dX7_lengthens_30 rfl ?_
          refine V.zald (cell := 50) 0 rfl rfl rfl rfl dX7_lengthens_31 (by omega) (by omega) (fun _ => ?_)
          rw [b5]
          refine V.if_ne (tgt := 62) dX7_lengthens_32 (by decide) (fun h32 => ?_) (fun h32 => ?_)
          · exact keep h13 (fun q => h32 q.2.1)
          · refine V.aload_n dX7_lengthens_35 rfl ?_
            refine V.iload_n dX7_lengthens_36 rfl ?_
            have ht := hT x a1 h13 (by rw [← r0 44 x (by decide) (by omega)]; exact h23)
            rw [← r0 49 x (by decide) (by omega)] at ht
            refine V.cV [_] rfl kc_X7_168 rfl dX7_lengthens_37 (by decide) rfl rfl (sp_X7_distance (σ := jfill ρ 50 x (jmL ρ)) ⟨a1, by omega⟩ (show 0 ≤ ρ 49 x ∧ ρ 49 x < 200 by omega) (show 0 ≤ ρ 48 (ρ 49 x) ∧ ρ 48 (ρ 49 x) ≤ 10000 from bd _ ht.1 ht.2) (show 0 ≤ ρ 48 x ∧ ρ 48 x ≤ 10000 from bd x a1 h13)) (fun _ => ?_)
            rw [show jmds (jfill ρ 50 x (jmL ρ)) x = jmds ρ x from rfl]
            refine V.bipush dX7_lengthens_40 ⟨by decide, by decide⟩ ?_
            refine V.bipush dX7_lengthens_42 ⟨by decide, by decide⟩ ?_
            refine V.cS [_, _, _] rfl kc_X7_85 dX7_lengthens_44 (by decide) rfl rfl (sp_X7_in) (fun _ => ?_)
            refine V.if_eq (tgt := 53) dX7_lengthens_47 (by decide) (fun h47 => ?_) (fun h47 => ?_)
            · refine V.aload_n dX7_lengthens_53 rfl ?_
              refine V.getR fa_X7_66 rfl dX7_lengthens_54 ?_
              refine V.iload_n dX7_lengthens_57 rfl ?_
              refine V.iconst dX7_lengthens_58 ⟨by decide, by decide⟩ ?_
              refine V.zast (cell := 50) 0 rfl rfl rfl rfl dX7_lengthens_59 (by omega) (by omega) (Or.inr rfl) ?_
              refine V.iconst dX7_lengthens_60 ⟨by decide, by decide⟩ ?_
              refine V.istore_n (L' := [_, _, _]) dX7_lengthens_61 rfl rfl ?_
              refine V.iinc (L' := [_, _, _]) dX7_lengthens_62 rfl ⟨(by omega), (by omega)⟩ rfl ?_
              refine V.goto (tgt := 8) dX7_lengthens_65 (by decide) ?_
              have b6 : jmfr ρ x := ⟨h23, h32, jb0.mp h47⟩
              rw [show (1 : Int) = jmL ρ x by unfold jmL; rw [if_pos b6], b4]
              rw [b1, if_pos (show 0 < jsum (jmg ρ) x + jmg ρ x by unfold jmg at b2 ⊢; rw [if_pos b6]; omega)] at b3
              rw [show jmL ρ x = 1 by unfold jmL; rw [if_pos b6]]
              exact b3 (by omega) (by omega)
            · refine V.goto (tgt := 62) dX7_lengthens_50 (by decide) ?_
              exact keep h13 (fun q => q.2.2 (jb1.mp h47))
  refine V.iconst dX7_lengthens_0 ⟨by decide, by decide⟩ ?_
  refine V.istore_n (L' := [_, _, _]) dX7_lengthens_1 rfl rfl ?_
  refine V.aload_n dX7_lengthens_2 rfl ?_
  refine V.cV0 [] rfl kc_X7_165 rfl dX7_lengthens_3 (by decide) rfl rfl (sp_X7_places h) ?_
  rw [hρ]
  refine V.iconst dX7_lengthens_6 ⟨by decide, by decide⟩ ?_
  refine V.istore_n (L' := [_, _, _]) dX7_lengthens_7 rfl rfl ?_
  have := loop ((σ 7 16).toNat + 1) 0 (by omega) h0 (by omega)
  rw [jfill_0] at this
  exact this
