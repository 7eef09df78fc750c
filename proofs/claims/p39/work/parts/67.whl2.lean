section EQ
variable {n : Int} {K v T : Int → Int}
theorem jFN_b (h : jlok K v T n) : ∀ m : Nat, (m : Int) ≤ n → ∀ b, (0 ≤ jFN K v T m b ∧ jFN K v T m b ≤ 100000) ∧ (jGN K v m b = 0 ∨ jGN K v m b = 1) := by
  obtain ⟨n0, n2, hh⟩ := h
  have ab : ∀ x, 0 ≤ x → x ≤ n → 0 ≤ jad K v x ∧ jad K v x ≤ 1400 := fun x x0 x1 => by
    have := jad_b (K := K) (v := v) (N := n) (fun i i0 i1 => (hh i i0 i1).1) x0 x1
    omega
  intro m
  induction m with
  | zero => intro _ b; exact ⟨⟨Int.le_refl 0, show (0 : Int) ≤ 100000 by decide⟩, Or.inl rfl⟩
  | succ m ih =>
    intro hm b
    have i := ih (by omega) b
    have g := hh m (by omega) (by omega)
    have am := ab m (by omega) (by omega)
    have e1 : jFN K v T (m + 1) b = if b < jad K v m then jFN K v T m b else jwv K v T m (b - jad K v m) := rfl
    have e3 : jGN K v (m + 1) b = if b < jad K v m then jGN K v m b else jwm K m (b - jad K v m) := rfl
    rw [e1, e3]
    by_cases z : b < jad K v m
    · rw [if_pos z, if_pos z]; exact i
    · rw [if_neg z, if_neg z]
      refine ⟨?_, by unfold jwm; split <;> omega⟩
      unfold jwv
      by_cases c1 : K m = 119 ∨ K m = 111
      · rw [if_pos c1]; omega
      rw [if_neg c1]
      by_cases c2 : K m = 97 ∨ K m = 106 ∨ K m = 74
      · have t := ab (T m) (g.2.1 (by omega)).1 (by have := (g.2.1 (by omega)).2; omega)
        have et : jtd K v T m = jad K v (T m) := rfl
        rw [et]
        repeat' split
        all_goals omega
      · rw [if_neg (by omega), if_neg (by omega), if_neg (by omega)]; omega
end EQ
theorem jmpn_le {σ : JM} {x : Int} (h : 0 ≤ x) : jmpn σ x ≤ x := by
  have e : jmpn σ x = jsum (fun i => (if σ 16 i = 106 then 1 else 0) + (if σ 16 i = 74 then 1 else 0)) x := (jsum_add h).symm
  have := (jsum_le (g := fun i => (if σ 16 i = 106 then (1 : Int) else 0) + (if σ 16 i = 74 then 1 else 0)) (c := 1) h (fun i _ _ => by
    show 0 ≤ (if σ 16 i = 106 then (1 : Int) else 0) + (if σ 16 i = 74 then 1 else 0) ∧ (if σ 16 i = 106 then (1 : Int) else 0) + (if σ 16 i = 74 then 1 else 0) ≤ 1
    by_cases a : σ 16 i = 106
    · rw [if_pos a, if_neg (by omega)]; decide
    · rw [if_neg a]; split <;> decide)).2
  omega
theorem jWh.c {σ τ : JM} (e : jck σ τ) (h : jWh σ) : jWh τ := by
  have r : ∀ a : Nat, ¬ (31 ≤ a ∧ a ≤ 33) → τ a = σ a := fun a ha => funext fun b => e a b ha
  have ec : jcn 7000 τ 0 (τ 7 1) 0 0 = jcn 7000 σ 0 (σ 7 1) 0 0 := by rw [r 7 (by decide)]; exact jcn_cg (fun a b z => e a b (by omega)) _ _ _ _ _
  unfold jWh at h ⊢
  rw [ec]
  unfold junf jat jadr jlb jat at h ⊢
  rw [r 4 (by decide), r 1 (by decide), r 13 (by decide), r 14 (by decide), r 2 (by decide), r 16 (by decide), r 18 (by decide), r 19 (by decide), r 20 (by decide), r 5 (by decide), r 15 (by decide), r 17 (by decide), r 29 (by decide), r 30 (by decide), r 21 (by decide)]
  exact h
theorem jck.sm {σ τ : JM} (e : jck σ τ) : jSm σ τ := ⟨e 4 9 (by decide), e 4 10 (by decide), e 2 6 (by decide), e 5 2 (by decide), fun b => e 29 b (by decide)⟩
section ISW2
variable {l : Launch} {E : JE} {Qr : Option JV → JM → Prop} {σ : JM}
theorem wl_all (hW : jWh σ) {N : Nat} (fin : ∀ (nn : Nat) (l8 l9 l10 l11 l12 l13 : JV), N ≤ nn → V l E mL_isWhole 40 nn Qr jno 542 [(2, 0), (0, σ 5 2), (0, σ 5 2), (0, jmpn σ (σ 2 6)), (0, jlgn σ (σ 2 6)), (0, 0), (0, 1), (0, σ 2 6), l8, l9, l10, l11, l12, l13] [] σ) : ∀ (m : Nat) (i : Int), 0 ≤ i → i ≤ σ 2 6 → σ 2 6 - i < m → jWL l E Qr σ (N + (σ 2 6 - i).toNat) i := by
  intro m
  induction m with
  | zero => intro i h0 h1 h2; omega
  | succ m ih =>
    intro i h0 h1 h2 nn l8 l9 l10 l11 l12 l13 hn
    have bn := hW.n
    refine V.iload dL_isWhole_90 rfl ?_
    refine V.aload_n dL_isWhole_92 rfl ?_
    refine V.cA [_] rfl kc_L_199 dL_isWhole_93 (by decide) (by omega) rfl rfl (ws_items hW) (fun _ => ?_)
    refine V.icmp_ge (tgt := 542) dL_isWhole_96 (by decide) (fun h96 => ?_) (fun h96 => ?_)
    · have ei : i = σ 2 6 := by omega
      subst ei
      have := fin (nn - 0) l8 l9 l10 l11 l12 l13 (by omega)
      rw [show jAd σ (σ 2 6) = σ 5 2 from hW.w.symm]
      exact this
    · have hi : 0 ≤ i ∧ i < σ 2 6 := ⟨h0, h96⟩
      refine V.iload dL_isWhole_99 rfl ?_
      refine V.if_eq (tgt := 542) dL_isWhole_101 (by decide) (fun hh => ?_) (fun hh => ?_)
      · exfalso; omega
      · refine V.aload_n dL_isWhole_104 rfl ?_
        refine V.iload dL_isWhole_105 rfl ?_
        refine V.cA [_, _] rfl kc_L_215 dL_isWhole_107 (by decide) (by omega) rfl rfl (ws_kind hW hi rfl) (fun _ => ?_)
        rcases wf_k hW hi with q | q | q | q | q | q | q
        · rw [q]; exact wk_108 hW hi q (N := N + (σ 2 6 - (i + 1)).toNat) (by omega) (ih (i + 1) (by omega) (by omega) (by omega))
        · rw [q]; exact wk_119 hW hi q (N := N + (σ 2 6 - (i + 1)).toNat) (by omega) (ih (i + 1) (by omega) (by omega) (by omega))
        · rw [q]; exact wk_111 hW hi q (N := N + (σ 2 6 - (i + 1)).toNat) (by omega) (ih (i + 1) (by omega) (by omega) (by omega))
        · rw [q]; exact wk_106 hW hi q (N := N + (σ 2 6 - (i + 1)).toNat) (by omega) (ih (i + 1) (by omega) (by omega) (by omega))
        · rw [q]; exact wk_74 hW hi q (N := N + (σ 2 6 - (i + 1)).toNat) (by omega) (ih (i + 1) (by omega) (by omega) (by omega))
        · rw [q]; exact wk_97 hW hi q (N := N + (σ 2 6 - (i + 1)).toNat) (by omega) (ih (i + 1) (by omega) (by omega) (by omega))
        · rw [q]; exact wk_103 hW hi q (N := N + (σ 2 6 - (i + 1)).toNat) (by omega) (ih (i + 1) (by omega) (by omega) (by omega))
theorem wl_load (hW : jWh σ) {N : Nat} {A J G : Int} (fin : ∀ (nn : Nat) (l8 l9 l10 l11 l12 l13 : JV), N ≤ nn → V l E mL_isWhole 40 nn Qr jno 615 [(2, 0), (0, σ 5 2), (0, A), (0, J), (0, G), (0, σ 5 3), (0, 1), (0, σ 5 2), l8, l9, l10, l11, l12, l13] [] σ) : ∀ (m : Nat) (x : Int) (nn : Nat) (l8 l9 l10 l11 l12 l13 : JV), 0 ≤ x → x ≤ σ 5 2 → σ 5 2 - x < m → N ≤ nn → V l E mL_isWhole 40 nn Qr jno 545 [(2, 0), (0, σ 5 2), (0, A), (0, J), (0, G), (0, jsum (jGN (σ 16) (σ 18) (σ 2 6).toNat) x), (0, 1), (0, x), l8, l9, l10, l11, l12, l13] [] σ := by
  intro m
  induction m with
  | zero => intro x nn l8 l9 l10 l11 l12 l13 h0 h1 h2 h3; omega
  | succ m ih =>
    intro x nn l8 l9 l10 l11 l12 l13 h0 h1 h2 h3
    have bn := hW.n
    have bw := hW.w1
    have sb := jsum_bd (g := jGN (σ 16) (σ 18) (σ 2 6).toNat) (x := σ 5 2) (c := 1) bw.1 (fun i i0 i1 => by have := (jFN_b hW.lo (σ 2 6).toNat (by omega) i).2; omega) x h0 h1
    have ss := jsum_s (jGN (σ 16) (σ 18) (σ 2 6).toNat) h0
    refine V.iload dL_isWhole_545 rfl ?_
    refine V.iload_n dL_isWhole_547 rfl ?_
    refine V.icmp_ge (tgt := 615) dL_isWhole_548 (by decide) (fun h545 => ?_) (fun h545 => ?_)
    · have ex : x = σ 5 2 := by omega
      subst ex
      rw [← hW.rel]
      exact fin _ _ _ _ _ _ _ (by omega)
    · refine V.iload dL_isWhole_551 rfl ?_
      refine V.if_eq (tgt := 615) dL_isWhole_553 (by decide) (fun hh => ?_) (fun hh => ?_)
      · exfalso; omega
      · have hx : 0 ≤ x ∧ x < σ 5 2 := ⟨h0, h545⟩
        have wd := hW.wd hx
        have wb := jFN_b hW.lo (σ 2 6).toNat (by omega) x
        rw [← wd.1, ← wd.2] at wb
        rw [← wd.2] at ss
        by_cases gg : σ 30 x = 0
        · refine V.aload_n dL_isWhole_556 rfl ?_
          refine V.iload dL_isWhole_557 rfl ?_
          refine V.sipush dL_isWhole_559 ⟨by decide, by decide⟩ ?_
          refine V.cA [_, _, _] rfl kc_L_227 dL_isWhole_562 (by decide) (by omega) rfl rfl (aw_loadedWord hW.n9 hx (by decide) bw.2 wb.1) (fun _ => ?_)
          rw [if_neg (fun z => z gg)]
          refine V.aload_n dL_isWhole_565 rfl ?_
          refine V.iload dL_isWhole_566 rfl ?_
          refine V.cA [_, _] rfl kc_L_201 dL_isWhole_568 (by decide) (by omega) rfl rfl (ws_word hW hx) (fun _ => ?_)
          refine V.isub dL_isWhole_571 ⟨(by omega), (by omega)⟩ ?_
          refine V.istore (L' := [_, _, _, _, _, _, _, _, _, _, _, _, _, _]) dL_isWhole_572 rfl rfl ?_
          refine V.iload dL_isWhole_574 rfl ?_
          refine V.if_eq (tgt := 587) dL_isWhole_576 (by decide) (fun hh => ?_) (fun hh => ?_)
          · refine V.iconst dL_isWhole_587 ⟨by decide, by decide⟩ ?_
            refine V.goto (tgt := 592) dL_isWhole_588 (by decide) ?_
            refine V.istore (L' := [_, _, _, _, _, _, _, _, _, _, _, _, _, _]) dL_isWhole_592 rfl rfl ?_
            refine V.iload dL_isWhole_594 rfl ?_
            refine V.iload dL_isWhole_596 rfl ?_
            refine V.if_ne (tgt := 605) dL_isWhole_598 (by decide) (fun hh => ?_) (fun hh => ?_)
            · exfalso; omega
            · refine V.iconst dL_isWhole_601 ⟨by decide, by decide⟩ ?_
              refine V.goto (tgt := 606) dL_isWhole_602 (by decide) ?_
              refine V.iadd dL_isWhole_606 ⟨(by omega), (by omega)⟩ ?_
              refine V.istore (L' := [_, _, _, _, _, _, _, _, _, _, _, _, _, _]) dL_isWhole_607 rfl rfl ?_
              refine V.iinc (L' := [_, _, _, _, _, _, _, _, _, _, _, _, _, _]) dL_isWhole_609 rfl ⟨(by omega), (by omega)⟩ rfl ?_
              refine V.goto (tgt := 545) dL_isWhole_612 (by decide) ?_
              rw [show jsum (jGN (σ 16) (σ 18) (σ 2 6).toNat) x + 0 = jsum (jGN (σ 16) (σ 18) (σ 2 6).toNat) (x + 1) by rw [ss]; omega]
              exact ih (x + 1) _ _ _ _ _ _ _ (by omega) (by omega) (by omega) (by omega)
          · exfalso; omega
        · refine V.aload_n dL_isWhole_556 rfl ?_
          refine V.iload dL_isWhole_557 rfl ?_
          refine V.sipush dL_isWhole_559 ⟨by decide, by decide⟩ ?_
          refine V.cA [_, _, _] rfl kc_L_227 dL_isWhole_562 (by decide) (by omega) rfl rfl (aw_loadedWord hW.n9 hx (by decide) bw.2 wb.1) (fun _ => ?_)
          rw [if_pos gg]
          refine V.aload_n dL_isWhole_565 rfl ?_
          refine V.iload dL_isWhole_566 rfl ?_
          refine V.cA [_, _] rfl kc_L_201 dL_isWhole_568 (by decide) (by omega) rfl rfl (ws_word hW hx) (fun _ => ?_)
          refine V.isub dL_isWhole_571 ⟨(by omega), (by omega)⟩ ?_
          refine V.istore (L' := [_, _, _, _, _, _, _, _, _, _, _, _, _, _]) dL_isWhole_572 rfl rfl ?_
          refine V.iload dL_isWhole_574 rfl ?_
          refine V.if_eq (tgt := 587) dL_isWhole_576 (by decide) (fun hh => ?_) (fun hh => ?_)
          · exfalso; omega
          · refine V.iload dL_isWhole_579 rfl ?_
            refine V.sipush dL_isWhole_581 ⟨by decide, by decide⟩ ?_
            refine V.icmp_ne (tgt := 591) dL_isWhole_584 (by decide) (fun hh => ?_) (fun hh => ?_)
            · exfalso; omega
            · refine V.iconst dL_isWhole_587 ⟨by decide, by decide⟩ ?_
              refine V.goto (tgt := 592) dL_isWhole_588 (by decide) ?_
              refine V.istore (L' := [_, _, _, _, _, _, _, _, _, _, _, _, _, _]) dL_isWhole_592 rfl rfl ?_
              refine V.iload dL_isWhole_594 rfl ?_
              refine V.iload dL_isWhole_596 rfl ?_
              refine V.if_ne (tgt := 605) dL_isWhole_598 (by decide) (fun hh => ?_) (fun hh => ?_)
              · refine V.iconst dL_isWhole_605 ⟨by decide, by decide⟩ ?_
                refine V.iadd dL_isWhole_606 ⟨(by omega), (by omega)⟩ ?_
                refine V.istore (L' := [_, _, _, _, _, _, _, _, _, _, _, _, _, _]) dL_isWhole_607 rfl rfl ?_
                refine V.iinc (L' := [_, _, _, _, _, _, _, _, _, _, _, _, _, _]) dL_isWhole_609 rfl ⟨(by omega), (by omega)⟩ rfl ?_
                refine V.goto (tgt := 545) dL_isWhole_612 (by decide) ?_
                rw [show jsum (jGN (σ 16) (σ 18) (σ 2 6).toNat) x + 1 = jsum (jGN (σ 16) (σ 18) (σ 2 6).toNat) (x + 1) by rw [ss]; omega]
                exact ih (x + 1) _ _ _ _ _ _ _ (by omega) (by omega) (by omega) (by omega)
              · exfalso; omega
theorem jlA_b (hW : jWh σ) (x : Int) : jlA σ x = -75 ∨ (0 ≤ jlA σ x ∧ jlA σ x ≤ σ 5 2) := by
  unfold jlA
  rcases hW.2.2.2.2.2.2.2.2.1 x with h | h
  · rw [if_pos h]; exact Or.inl rfl
  · have bn := hW.n
    have := hW.b h
    rw [if_neg (by omega), jat_in h.1 (by omega), hW.ad h]
    exact Or.inr ⟨this.1, by omega⟩
theorem wl_lab (hW : jWh σ) {N : Nat} {A J G M : Int} (fin : ∀ (nn : Nat) (l7 l8 l9 l10 l11 l12 l13 : JV), N ≤ nn → V l E mL_isWhole 40 nn Qr jno 669 [(2, 0), (0, σ 5 2), (0, A), (0, J), (0, G), (0, M), (0, 1), l7, l8, l9, l10, l11, l12, l13] [] σ) : ∀ (m : Nat) (x : Int) (nn : Nat) (l8 l9 l10 l11 l12 l13 : JV), 0 ≤ x → x ≤ 20 → 20 - x < m → N + (20 - x).toNat ≤ nn → V l E mL_isWhole 40 nn Qr jno 618 [(2, 0), (0, σ 5 2), (0, A), (0, J), (0, G), (0, M), (0, 1), (0, x), l8, l9, l10, l11, l12, l13] [] σ := by
  intro m
  induction m with
  | zero => intro x nn l8 l9 l10 l11 l12 l13 h0 h1 h2 h3; omega
  | succ m ih =>
    intro x nn l8 l9 l10 l11 l12 l13 h0 h1 h2 h3
    have lb := jlA_b hW x
    have c1 := jca_1 σ x
    refine V.iload dL_isWhole_618 rfl ?_
    refine V.bipush dL_isWhole_620 ⟨by decide, by decide⟩ ?_
    refine V.icmp_ge (tgt := 669) dL_isWhole_622 (by decide) (fun h622 => ?_) (fun h622 => ?_)
    · exact fin _ _ _ _ _ _ _ _ (by omega)
    · refine V.iload dL_isWhole_625 rfl ?_
      refine V.if_eq (tgt := 669) dL_isWhole_627 (by decide) (fun hh => ?_) (fun hh => ?_)
      · exfalso; omega
      · refine V.aload_n dL_isWhole_630 rfl ?_
        refine V.iload dL_isWhole_631 rfl ?_
        refine V.cA [_, _] rfl kc_L_206 dL_isWhole_633 (by decide) (by omega) rfl rfl (aw_labelAddress hW.n9) (fun _ => ?_)
        refine V.istore (L' := [_, _, _, _, _, _, _, _, _, _, _, _, _, _]) dL_isWhole_636 rfl rfl ?_
        refine V.iload dL_isWhole_638 rfl ?_
        refine V.bipush dL_isWhole_640 ⟨by decide, by decide⟩ ?_
        refine V.icmp_eq (tgt := 656) dL_isWhole_642 (by decide) (fun h642 => ?_) (fun h642 => ?_)
        · refine V.iconst dL_isWhole_656 ⟨by decide, by decide⟩ ?_
          refine V.goto (tgt := 661) dL_isWhole_657 (by decide) ?_
          refine V.istore (L' := [_, _, _, _, _, _, _, _, _, _, _, _, _, _]) dL_isWhole_661 rfl rfl ?_
          refine V.iinc (L' := [_, _, _, _, _, _, _, _, _, _, _, _, _, _]) dL_isWhole_663 rfl ⟨(by omega), (by omega)⟩ rfl ?_
          refine V.goto (tgt := 618) dL_isWhole_666 (by decide) ?_
          exact ih (x + 1) _ _ l9 l10 l11 l12 l13 (by omega) (by omega) (by omega) (by omega)
        · refine V.iload dL_isWhole_645 rfl ?_
          refine V.if_lt (tgt := 660) dL_isWhole_647 (by decide) (fun h647 => ?_) (fun h647 => ?_)
          · exfalso; omega
          · refine V.iload dL_isWhole_650 rfl ?_
            refine V.iload_n dL_isWhole_652 rfl ?_
            refine V.icmp_gt (tgt := 660) dL_isWhole_653 (by decide) (fun h653 => ?_) (fun h653 => ?_)
            · exfalso; omega
            · refine V.iconst dL_isWhole_656 ⟨by decide, by decide⟩ ?_
              refine V.goto (tgt := 661) dL_isWhole_657 (by decide) ?_
              refine V.istore (L' := [_, _, _, _, _, _, _, _, _, _, _, _, _, _]) dL_isWhole_661 rfl rfl ?_
              refine V.iinc (L' := [_, _, _, _, _, _, _, _, _, _, _, _, _, _]) dL_isWhole_663 rfl ⟨(by omega), (by omega)⟩ rfl ?_
              refine V.goto (tgt := 618) dL_isWhole_666 (by decide) ?_
              exact ih (x + 1) _ _ l9 l10 l11 l12 l13 (by omega) (by omega) (by omega) (by omega)
theorem wl_end (hW : jWh σ) {nn : Nat} {l7 l8 l9 l10 l11 l12 l13 : JV} (hn : 1 ≤ nn) (hq : Qr (some (0, 1)) σ) : V l E mL_isWhole 40 nn Qr jno 669 [(2, 0), (0, σ 5 2), (0, σ 5 2), (0, jmpn σ (σ 2 6)), (0, jlgn σ (σ 2 6)), (0, σ 5 3), (0, 1), l7, l8, l9, l10, l11, l12, l13] [] σ := by
  have bn := hW.n
  have mb := jmpn_b (σ := σ) bn.1
  have ml := jmpn_le (σ := σ) bn.1
  have es : jmpn σ (σ 2 6) = jcnt σ 106 (σ 2 6) + jcnt σ 74 (σ 2 6) := rfl
  have e74 : jlgn σ (σ 2 6) = jcnt σ 74 (σ 2 6) := rfl
  have c6 := jcnt_le (σ := σ) (k := 106) bn.1
  have c4 := jcnt_le (σ := σ) (k := 74) bn.1
  by_cases hz : jmpn σ (σ 2 6) = 0
  · refine V.iload dL_isWhole_669 rfl ?_
    refine V.if_eq (tgt := 721) dL_isWhole_671 (by decide) (fun hh => ?_) (fun hh => ?_)
    · exfalso; omega
    · refine V.iload dL_isWhole_674 rfl ?_
      refine V.aload_n dL_isWhole_676 rfl ?_
      refine V.cA [_] rfl kc_L_229 dL_isWhole_677 (by decide) (by omega) rfl rfl (aw_relocations hW.n9) (fun _ => ?_)
      refine V.icmp_ne (tgt := 721) dL_isWhole_680 (by decide) (fun hh => ?_) (fun hh => ?_)
      · exact absurd rfl hh
      · refine V.iload dL_isWhole_683 rfl ?_
        refine V.aload_n dL_isWhole_685 rfl ?_
        refine V.cA [_] rfl kc_L_213 dL_isWhole_686 (by decide) (by omega) rfl rfl ((aw_longJumps hW.n9 bn).eq e74.symm rfl) (fun _ => ?_)
        refine V.icmp_ne (tgt := 721) dL_isWhole_689 (by decide) (fun hh => ?_) (fun hh => ?_)
        · exact absurd rfl hh
        · refine V.aload_n dL_isWhole_692 rfl ?_
          refine V.cA [_] rfl kc_L_203 dL_isWhole_693 (by decide) (by omega) rfl rfl (aw_shortShareA hW.n9 bn (by omega)) (fun _ => ?_)
          refine V.iload_n dL_isWhole_696 rfl ?_
          refine V.if_ne (tgt := 705) dL_isWhole_697 (by decide) (fun hh => ?_) (fun hh => ?_)
          · exact absurd hz hh
          · refine V.ldcF (x := 3264479232) dL_isWhole_700 ⟨by decide, by decide⟩ (by have h := kg1185; rwa [show (3264479232 : UInt32) = jF 3264479232 by decide +kernel] at h) ?_
            refine V.goto (tgt := 713) dL_isWhole_702 (by decide) ?_
            refine V.fcmp dL_isWhole_713 ?_
            rw [fc74]
            refine V.if_ne (tgt := 721) dL_isWhole_714 (by decide) (fun hh => ?_) (fun hh => ?_)
            · exact absurd rfl hh
            · refine V.iconst dL_isWhole_717 ⟨by decide, by decide⟩ ?_
              refine V.goto (tgt := 722) dL_isWhole_718 (by decide) ?_
              exact V.iret (jret_z dL_isWhole_722 rfl (by decide)) hq
  · refine V.iload dL_isWhole_669 rfl ?_
    refine V.if_eq (tgt := 721) dL_isWhole_671 (by decide) (fun hh => ?_) (fun hh => ?_)
    · exfalso; omega
    · refine V.iload dL_isWhole_674 rfl ?_
      refine V.aload_n dL_isWhole_676 rfl ?_
      refine V.cA [_] rfl kc_L_229 dL_isWhole_677 (by decide) (by omega) rfl rfl (aw_relocations hW.n9) (fun _ => ?_)
      refine V.icmp_ne (tgt := 721) dL_isWhole_680 (by decide) (fun hh => ?_) (fun hh => ?_)
      · exact absurd rfl hh
      · refine V.iload dL_isWhole_683 rfl ?_
        refine V.aload_n dL_isWhole_685 rfl ?_
        refine V.cA [_] rfl kc_L_213 dL_isWhole_686 (by decide) (by omega) rfl rfl ((aw_longJumps hW.n9 bn).eq e74.symm rfl) (fun _ => ?_)
        refine V.icmp_ne (tgt := 721) dL_isWhole_689 (by decide) (fun hh => ?_) (fun hh => ?_)
        · exact absurd rfl hh
        · refine V.aload_n dL_isWhole_692 rfl ?_
          refine V.cA [_] rfl kc_L_203 dL_isWhole_693 (by decide) (by omega) rfl rfl (aw_shortShare hW.n9 bn (by omega) (by omega)) (fun _ => ?_)
          refine V.iload_n dL_isWhole_696 rfl ?_
          refine V.if_ne (tgt := 705) dL_isWhole_697 (by decide) (fun hh => ?_) (fun hh => ?_)
          · refine V.iload_n dL_isWhole_705 rfl ?_
            refine V.iload dL_isWhole_706 rfl ?_
            refine V.isub dL_isWhole_708 ⟨by omega, by omega⟩ ?_
            refine V.i2f dL_isWhole_709 ?_
            refine V.iload_n dL_isWhole_710 rfl ?_
            refine V.i2f dL_isWhole_711 ?_
            refine V.fdiv dL_isWhole_712 (by rw [jF_u, jF_u]; exact nn_fdiv ⟨by omega, by omega⟩ ⟨by omega, by omega⟩) ?_
            rw [jF_u, jF_u, show jmpn σ (σ 2 6) - jlgn σ (σ 2 6) = jcnt σ 106 (σ 2 6) by omega, show (((FP.fdiv (FP.i2f (jI (jcnt σ 106 (σ 2 6)))) (FP.i2f (jI (jmpn σ (σ 2 6))))).toNat : Nat) : Int) = jFd (jcnt σ 106 (σ 2 6)) (jcnt σ 106 (σ 2 6) + jcnt σ 74 (σ 2 6)) from rfl]
            refine V.fcmp dL_isWhole_713 ?_
            rw [jFd_c ⟨c6.1, by omega⟩ ⟨by omega, by omega⟩]
            refine V.if_ne (tgt := 721) dL_isWhole_714 (by decide) (fun hh => ?_) (fun hh => ?_)
            · exact absurd rfl hh
            · refine V.iconst dL_isWhole_717 ⟨by decide, by decide⟩ ?_
              refine V.goto (tgt := 722) dL_isWhole_718 (by decide) ?_
              exact V.iret (jret_z dL_isWhole_722 rfl (by decide)) hq
          · exact absurd hh hz
end ISW2
theorem sp_L_isWhole {g : Int} {σ : JM} (h : jINV g σ) (hg : g ≤ 100000) (hW : jWh σ) : JSp mL_isWhole 40 230 [(2, 0), (0, σ 5 2)] σ (fun v t => v = some (0, 1) ∧ jINV g t ∧ jck σ t) jno := by
  have S := h.1
  have a1 := S.a1
  have a2 := S.a2
  have u := S.unf
  have nb := u.1.mp hW.1.2
  have hs := S.sc nb.1 nb.2
  have hf := S.wf nb.1 nb.2
  have g4 := h.2.2.2.1
  have hc1 := hW.2.2.2.2.2.2.2.2.2.1
  have hc2 := hW.2.2.2.2.2.2.2.2.2.2
  have c1 := jcf_1 σ
  have q1 : jqf σ = 110 := by unfold jqf; rw [if_neg (by have := hW.n9; omega)]; exact hW.n9
  have q2 : jqL σ = -75 := if_pos (Or.inr hW.n9)
  have z0 : jc0 σ = 0 := if_neg (by have := hW.n9; omega)
  refine JSp.of [(2, 0), (0, σ 5 2), (9, 0), (9, 0), (9, 0), (9, 0), (9, 0), (9, 0), (9, 0), (9, 0), (9, 0), (9, 0), (9, 0), (9, 0)] rfl (by decide +kernel) rfl rfl rfl (fun l E hE => ?_)
  refine V.iconst dL_isWhole_0 ⟨by decide, by decide⟩ ?_
  refine V.istore_n (L' := [_, _, _, _, _, _, _, _, _, _, _, _, _, _]) dL_isWhole_1 rfl rfl ?_
  refine V.iconst dL_isWhole_2 ⟨by decide, by decide⟩ ?_
  refine V.istore_n (L' := [_, _, _, _, _, _, _, _, _, _, _, _, _, _]) dL_isWhole_3 rfl rfl ?_
  refine V.iconst dL_isWhole_4 ⟨by decide, by decide⟩ ?_
  refine V.istore (L' := [_, _, _, _, _, _, _, _, _, _, _, _, _, _]) dL_isWhole_5 rfl rfl ?_
  refine V.iconst dL_isWhole_7 ⟨by decide, by decide⟩ ?_
  refine V.istore (L' := [_, _, _, _, _, _, _, _, _, _, _, _, _, _]) dL_isWhole_8 rfl rfl ?_
  refine V.aload_n dL_isWhole_10 rfl ?_
  refine V.cA [_] rfl kc_L_193 dL_isWhole_11 (by decide) (by omega) rfl rfl (aq_fault ⟨by have := hW.n9; omega, by have := hW.n9; omega⟩) (fun _ => ?_)
  rw [q1]
  refine V.bipush dL_isWhole_14 ⟨by decide, by decide⟩ ?_
  refine V.icmp_ne (tgt := 84) dL_isWhole_16 (by decide) (fun hh => ?_) (fun hh => ?_)
  · exact absurd rfl hh
  · refine V.aload_n dL_isWhole_19 rfl ?_
    refine V.cA [_] rfl kc_L_195 dL_isWhole_20 (by decide) (by omega) rfl rfl (aq_faultLine) (fun _ => ?_)
    rw [q2]
    refine V.bipush dL_isWhole_23 ⟨by decide, by decide⟩ ?_
    refine V.icmp_ne (tgt := 84) dL_isWhole_25 (by decide) (fun hh => ?_) (fun hh => ?_)
    · exact absurd rfl hh
    · refine V.aload_n dL_isWhole_28 rfl ?_
      refine V.cA [_] rfl kc_L_197 dL_isWhole_29 (by decide) (by omega) rfl rfl (ws_words hW) (fun _ => ?_)
      refine V.iload_n dL_isWhole_32 rfl ?_
      refine V.icmp_ne (tgt := 84) dL_isWhole_33 (by decide) (fun hh => ?_) (fun hh => ?_)
      · exact absurd rfl hh
      · refine V.aload_n dL_isWhole_36 rfl ?_
        refine V.cA [_] rfl kc_L_199 dL_isWhole_37 (by decide) (by omega) rfl rfl (ws_items hW) (fun _ => ?_)
        refine V.sipush dL_isWhole_40 ⟨by decide, by decide⟩ ?_
        refine V.icmp_gt (tgt := 84) dL_isWhole_43 (by decide) (fun hh => ?_) (fun hh => ?_)
        · exfalso; have := hW.n; omega
        · refine V.aload_n dL_isWhole_46 rfl ?_
          refine V.callH [_] rfl kc_L_208 dL_isWhole_47 (d' := 32) (by decide) (by omega) rfl (fun _ _ => sp_L_itemsByCounting (sp_X6_itemsByCounting (by omega) (by omega) hW.1.2 hs hf (by omega) (h.2.1.mo nb.2)) (fun v t q => ⟨_, q.2.2⟩) (fun X t q => Or.inr q.1)) rfl (fun v t q hv => ?_) (fun X t hx => hx.elim)
          obtain ⟨r, rfl, ⟨k1, k2⟩, r1, r2⟩ := Or.resolve_right q (fun z => by
            rcases z with ⟨y, -⟩ | ⟨⟨-, -, y⟩, -⟩
            · exact absurd y.1 (by decide)
            · exact hc1 y)
          have er : r = min (jcn 7000 σ 0 (σ 7 1) 0 0).1 1000000 := by injection r2 with r2; injection r2
          rw [er, hc2]
          have T := hW.c k1
          have I := h.cnt nb.1 nb.2 k1 k2
          have e26 : t 2 6 = σ 2 6 := k1 2 6 (by decide)
          have e52 : t 5 2 = σ 5 2 := k1 5 2 (by decide)
          have pb := T.2.2.2.2.2.1
          have bn := T.n
          have lb := jmpn_b (σ := t) bn.1
          have e74 : jlgn t (t 2 6) = jc74 (t 16) (t 2 6) := rfl
          rw [← e26, ← e52]
          refine V.aload_n dL_isWhole_50 rfl ?_
          refine V.cA [_] rfl kc_L_199 dL_isWhole_51 (by decide) (by omega) rfl rfl (ws_items T) (fun _ => ?_)
          refine V.i2l dL_isWhole_54 ?_
          refine V.lcmp dL_isWhole_55 ?_
          rw [if_neg (Int.lt_irrefl _), if_pos rfl]
          refine V.if_ne (tgt := 84) dL_isWhole_56 (by decide) (fun hh => ?_) (fun hh => ?_)
          · exact absurd rfl hh
          · refine V.aload_n dL_isWhole_59 rfl ?_
            refine V.cA [_] rfl kc_L_211 dL_isWhole_60 (by decide) (by omega) rfl rfl (aw_passes T.n9) (fun _ => ?_)
            refine V.iconst dL_isWhole_63 ⟨by decide, by decide⟩ ?_
            refine V.icmp_lt (tgt := 84) dL_isWhole_64 (by decide) (fun hh => ?_) (fun hh => ?_)
            · exfalso; omega
            · refine V.aload_n dL_isWhole_67 rfl ?_
              refine V.cA [_] rfl kc_L_211 dL_isWhole_68 (by decide) (by omega) rfl rfl (aw_passes T.n9) (fun _ => ?_)
              refine V.aload_n dL_isWhole_71 rfl ?_
              refine V.cA [_] rfl kc_L_213 dL_isWhole_72 (by decide) (by omega) rfl rfl ((aw_longJumps T.n9 bn).eq (r' := jlgn t (t 2 6)) rfl rfl) (fun _ => ?_)
              refine V.iconst dL_isWhole_75 ⟨by decide, by decide⟩ ?_
              refine V.iadd dL_isWhole_76 ⟨(by omega), (by omega)⟩ ?_
              refine V.icmp_gt (tgt := 84) dL_isWhole_77 (by decide) (fun hh => ?_) (fun hh => ?_)
              · exfalso; omega
              · refine V.iconst dL_isWhole_80 ⟨by decide, by decide⟩ ?_
                refine V.goto (tgt := 85) dL_isWhole_81 (by decide) ?_
                refine V.istore (L' := [_, _, _, _, _, _, _, _, _, _, _, _, _, _]) dL_isWhole_85 rfl rfl ?_
                refine V.iconst dL_isWhole_87 ⟨by decide, by decide⟩ ?_
                refine V.istore (L' := [_, _, _, _, _, _, _, _, _, _, _, _, _, _]) dL_isWhole_88 rfl rfl ?_
                refine wl_all (Qr := fun v t2 => v = some (0, 1) ∧ jINV g t2 ∧ jck σ t2) (l := l) (E := E) T (N := 22) (fun nn l8 l9 l10 l11 l12 l13 hn => ?_) ((t 2 6).toNat + 1) 0 (Int.le_refl 0) bn.1 (by omega) _ (9, 0) (9, 0) (9, 0) (9, 0) (9, 0) (9, 0) (by show 22 + (t 2 6 - 0).toNat ≤ _; omega)
                refine V.iconst dL_isWhole_542 ⟨by decide, by decide⟩ ?_
                refine V.istore (L' := [_, _, _, _, _, _, _, _, _, _, _, _, _, _]) dL_isWhole_543 rfl rfl ?_
                refine wl_load (N := 21) T (fun nn l8 l9 l10 l11 l12 l13 hn => ?_) ((t 5 2).toNat + 1) 0 _ _ _ _ _ _ _ (Int.le_refl 0) T.w1.1 (by omega) (by omega)
                refine V.iconst dL_isWhole_615 ⟨by decide, by decide⟩ ?_
                refine V.istore (L' := [_, _, _, _, _, _, _, _, _, _, _, _, _, _]) dL_isWhole_616 rfl rfl ?_
                exact wl_lab (N := 1) T (fun nn l7 l8 l9 l10 l11 l12 l13 hn => wl_end T hn ⟨rfl, I, k1⟩) 21 0 _ _ _ _ _ _ _ (Int.le_refl 0) (by decide) (by decide) (by show 1 + 20 ≤ _; omega)
