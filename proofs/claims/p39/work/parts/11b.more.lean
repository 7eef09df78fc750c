/-! ===== more rows: ghosts, the law's row, booleans, numbers that wrap around, floats' constants, drawing ===== -/
def jwrp (z : Int) : Int := (jI z).toInt
theorem jwrp_I (z : Int) : jI (jwrp z) = jI z := jI_to _
theorem jwrp_r (z : Int) : jrI (jwrp z) := jrI_to _
section JR39
variable {l : Launch} {E : JE} {i : JI} {d n : Nat} {Qr Qr' : Option JV → JM → Prop} {Qx Qx' : String → JM → Prop} {pc : Nat} {L L' st : List JV} {σ τ : JM} {r : Int}
theorem jsh_gh (m : Nat) : jsh (m + 34) = (9, 0, []) := rfl
/-- a memory that agrees on the cells that stand on the heap -/
def jGh (σ σ' : JM) : Prop := (∀ k : Nat, k < 34 → k ≠ 7 → ∀ j, σ' k j = σ k j) ∧ ∀ j, 100 ≤ j → σ' 7 j = σ 7 j
theorem V.gh {σ' : JM} (h : jGh σ σ') (kk : V l E i d n Qr Qx pc L st σ') : V l E i d n Qr Qx pc L st σ := by
  intro p e R s m args below meth c A cm sm Z hF hX hZ H locs cells slots ls hT
  obtain ⟨g1, g2, g3, g4, g5, g6, g7, g8⟩ := hT
  have e1 : jw E σ' = jw E σ := by
    unfold jw
    apply List.map_congr_left
    intro k hk
    have hk : k < 34 := List.mem_range.mp hk
    by_cases e : k = 7
    · subst e
      show (E.1 7, (Sum.inl (E.2.2.1 2, 21, Sum.inl (fun j : Nat => jI (σ' 7 ((j : Int) + 100)))) : va_E)) = (E.1 7, (Sum.inl (E.2.2.1 2, 21, Sum.inl (fun j : Nat => jI (σ 7 ((j : Int) + 100)))) : va_E))
      have : (fun j : Nat => jI (σ' 7 ((j : Int) + 100))) = (fun j : Nat => jI (σ 7 ((j : Int) + 100))) := by
        funext j
        rw [h.2 _ (by omega)]
      rw [this]
    · rw [show σ' k = σ k from funext (fun j => h.1 k hk e j)]
  have e2 : jokm σ' := fun k j => by
    by_cases hk : k < 34
    · by_cases e : k = 7
      · subst e
        by_cases c : 100 ≤ j
        · rw [h.2 j c]; exact g2 7 j
        · have : jrt 7 j = 9 := by
            show (if 100 ≤ j then 6 else 9) = 9
            exact if_neg c
          rw [this]; trivial
      · rw [h.1 k hk e j]; exact g2 k j
    · obtain ⟨m, rfl⟩ : ∃ m, k = m + 34 := ⟨k - 34, by omega⟩
      have : jrt (m + 34) j = 9 := by unfold jrt; rw [jsh_gh]; rfl
      rw [this]; trivial
  refine kk p e R s m args below meth c A cm sm Z hF hX hZ H locs cells slots ls ⟨?_, e2, g3, g4, g5, g6, g7, g8⟩
  unfold jWd at g1 ⊢
  rw [e1]; exact g1
theorem jrt_h {j : Int} (h : 100 ≤ j) : jrt 7 j = 6 := by
  show (if 100 ≤ j then 6 else 9) = 6
  exact if_pos h
theorem jcell_h (E : JE) (row : Int → Int) : jcell E 7 row = .inl (E.2.2.1 2, 21, .inl (fun j : Nat => jI (row ((j : Int) + 100)))) := rfl
/-- the law's own row of booleans -/
theorem V.hald {x : Int} (hd : decode i.2.1 pc = .ok (.baload, 1)) (h0 : 0 ≤ x) (h1 : x < 21) (kk : (σ 7 (x + 100) = 0 ∨ σ 7 (x + 100) = 1) → V l E i d n Qr Qx (pc + 1) L ((0, σ 7 (x + 100)) :: st) σ) : V l E i d n Qr Qx pc L ((0, x) :: (2, 7) :: st) σ := by
  intro p e R s m args below meth c A cm sm Z hF hX hZ H locs cells slots ls hT
  obtain ⟨g1, g2, g3, g4, g5, g6, g7, g8⟩ := hT
  have hr : jrng 6 (σ 7 (x + 100)) := by have := g2 7 (x + 100); rw [jrt_h (by omega)] at this; exact this
  have e1 : (jI x).toNatClampNeg = x.toNat := jI_clamp h0 (by omega)
  refine va_zald (D := E.2.1) (cl := jcl) (ws := jw E σ) (tys := jtys E) (a := E.1 7) hF.1 hF.2.1 g1.2.2 g1.1 7 2 (by rw [jw_get E σ (by decide), jcell_h]) rfl (jI_in h0 h1 (by decide)) hd ?_
  rw [e1, show ((x.toNat : Nat) : Int) = x from Int.toNat_of_nonneg h0]
  exact kk hr p e R s m args below meth _ A cm sm Z hF hX hZ H locs cells slots ls ⟨g1, g2, g3, g4, g5, g6, g7, ok_cs (v := (0, _)) (jrng_int (Or.inr (Or.inl rfl)) hr) (ok_tl (ok_tl g8))⟩
theorem V.hast {x v : Int} (hd : decode i.2.1 pc = .ok (.bastore, 1)) (h0 : 0 ≤ x) (h1 : x < 21) (hv : v = 0 ∨ v = 1) (kk : V l E i d n Qr Qx (pc + 1) L st (jset σ 7 (x + 100) v)) : V l E i d n Qr Qx pc L ((0, v) :: (0, x) :: (2, 7) :: st) σ := by
  intro p e R s m args below meth c A cm sm Z hF hX hZ H locs cells slots ls hT
  obtain ⟨g1, g2, g3, g4, g5, g6, g7, g8⟩ := hT
  have e1 : (jI x).toNatClampNeg = x.toNat := jI_clamp h0 (by omega)
  have e2 : vp_nar .boolean (jI v) = jI v := by rcases hv with rfl | rfl <;> decide +kernel
  have e3 : upd (fun j : Nat => jI (σ 7 ((j : Int) + 100))) x.toNat (jI v) = fun j : Nat => jI (jset σ 7 (x + 100) v 7 ((j : Int) + 100)) := by
    funext j
    show (if j = x.toNat then jI v else jI (σ 7 ((j : Int) + 100))) = _
    by_cases h : (j : Int) = x
    · rw [if_pos (by omega), h, jset_same]
    · rw [if_neg (by omega), jset_ne σ (fun q => h (by omega))]
  refine va_zast (D := E.2.1) (cl := jcl) (ws := jw E σ) (tys := jtys E) (a := E.1 7) hF.1 hF.2.1 g1.2.2 g1.1 g1.2.1 g3 7 2 (by rw [jw_get E σ (by decide), jcell_h]) rfl (jI_in h0 h1 (by decide)) hd (fun H1 locs1 hP hD hS => ?_)
  rw [e1, e2, e3, jw_set E σ (k := 7) (x + 100) v _ (jcell_h E _)] at hP hD
  exact kk p e R s m args below meth _ A cm sm Z hF hX hZ H1 locs1 cells slots ls ⟨⟨hP, hD, g1.2.2⟩, jokm_set g2 (by rw [jrt_h (by omega)]; exact hv), hS, g4, g5, g6, g7, ok_tl (ok_tl (ok_tl g8))⟩
theorem V.dup2 {v w : JV} (hd : decode i.2.1 pc = .ok (.dup2, 1)) (hv : (jtr E v).category = 1) (hw : (jtr E w).category = 1) (k : V l E i d n Qr Qx (pc + 1) L (v :: w :: v :: w :: st) σ) : V l E i d n Qr Qx pc L (v :: w :: st) σ :=
  V.op (fun _ h => ok_cs (ok_hd h) (ok_cs (ok_hd (ok_tl h)) h)) (fun hF _ q => lv_dup2_11 hF.1 hF.2.1 hd hv hw q) k
theorem V.iandB {x y : Int} (hd : decode i.2.1 pc = .ok (.iand, 1)) (hx : x = 0 ∨ x = 1) (hy : y = 0 ∨ y = 1) (k : V l E i d n Qr Qx (pc + 1) L ((0, if x = 1 ∧ y = 1 then 1 else 0) :: st) σ) : V l E i d n Qr Qx pc L ((0, y) :: (0, x) :: st) σ := by
  refine V.op (fun _ h => ok_cs (v := (0, if x = 1 ∧ y = 1 then 1 else 0)) (jok0 (by split <;> exact ⟨by decide, by decide⟩)) (ok_tl (ok_tl h))) (fun hF hT w => lv_iand hF.1 hF.2.1 hd ?_) k
  have e : jI x &&& jI y = jI (if x = 1 ∧ y = 1 then 1 else 0) := by rcases hx with rfl | rfl <;> rcases hy with rfl | rfl <;> decide +kernel
  rw [List.map_cons, jtr0, ← e] at w
  exact w
theorem V.iorB {x y : Int} (hd : decode i.2.1 pc = .ok (.ior, 1)) (hx : x = 0 ∨ x = 1) (hy : y = 0 ∨ y = 1) (k : V l E i d n Qr Qx (pc + 1) L ((0, if x = 1 ∨ y = 1 then 1 else 0) :: st) σ) : V l E i d n Qr Qx pc L ((0, y) :: (0, x) :: st) σ := by
  refine V.op (fun _ h => ok_cs (v := (0, if x = 1 ∨ y = 1 then 1 else 0)) (jok0 (by split <;> exact ⟨by decide, by decide⟩)) (ok_tl (ok_tl h))) (fun hF hT w => lv_ior hF.1 hF.2.1 hd ?_) k
  have e : jI x ||| jI y = jI (if x = 1 ∨ y = 1 then 1 else 0) := by rcases hx with rfl | rfl <;> rcases hy with rfl | rfl <;> decide +kernel
  rw [List.map_cons, jtr0, ← e] at w
  exact w
theorem V.iaddW {x y : Int} (hd : decode i.2.1 pc = .ok (.iadd, 1)) (k : V l E i d n Qr Qx (pc + 1) L ((0, jwrp (x + y)) :: st) σ) : V l E i d n Qr Qx pc L ((0, y) :: (0, x) :: st) σ :=
  V.op (fun _ h => ok_cs (v := (0, jwrp (x + y))) (jok0 (jwrp_r _)) (ok_tl (ok_tl h))) (fun hF _ w => lv_iadd hF.1 hF.2.1 hd (by rw [jI_add, ← jwrp_I (x + y)]; exact w)) k
theorem V.imulW {x y : Int} (hd : decode i.2.1 pc = .ok (.imul, 1)) (k : V l E i d n Qr Qx (pc + 1) L ((0, jwrp (x * y)) :: st) σ) : V l E i d n Qr Qx pc L ((0, y) :: (0, x) :: st) σ :=
  V.op (fun _ h => ok_cs (v := (0, jwrp (x * y))) (jok0 (jwrp_r _)) (ok_tl (ok_tl h))) (fun hF _ w => lv_imul hF.1 hF.2.1 hd (by rw [jI_mul, ← jwrp_I (x * y)]; exact w)) k
theorem V.ldcF {ix : Nat} {x : Int} (hd : decode i.2.1 pc = .ok (.ldc ix, 2)) (hx : 0 ≤ x ∧ x < 4294967296) (hw : Cond.constantFloat i.1.cls ix (jF x) ∈ jG) (k : V l E i d n Qr Qx (pc + 2) L ((4, x) :: st) σ) : V l E i d n Qr Qx pc L st σ :=
  V.op (fun _ h => ok_cs (v := (4, x)) hx h) (fun hF _ w => lv_ldcf hF.1 hF.2.1 hF.2.2.2.1 (hF.2.2.2.2.1 _ hw) hd w) k
end JR39
