-- ===== YOUR PART BEGINS =====
set_option maxHeartbeats 4000000 in
set_option maxRecDepth 100000 in
theorem whole_start {p : Program} {e : Env} {s : State} {m : MethodId} {below : List Frame} {meth : Method} {c : Code} (l : Launch) (hflags : l.flags = flags0) {b L : Nat} {xs : Nat → Int32} (hL : L ≤ 2048) (htab : c.exceptionTable.toList = []) (C0 : lw_At p s m meth c b L xs) : W p l e room_1 s m #[Value.ref b] below meth c s.heap [] 0 0 (lw_Z below #[Value.ref b] s) (entryFrame m ([Value.ref b] : List Value).toArray 9) := by
  obtain ⟨hx, hb, hr, hml, hown, hts0, hX, hbl, hlocks, hgv⟩ := id C0
  have hown : s.vm.findClass RL = some m.cls := hown
  have hts : ∀ w ∈ jG, w.before #[Value.ref b] s = true := fun w hw => hts0 w (List.mem_filter.mp hw).1
  have hCX := jCX_start hts0 hgv
  have hNw := hCX.1
  obtain ⟨A, hAe⟩ : ∃ A : Nat → Prop, (fun q : Nat => s.heap.size ≤ q) = A := ⟨_, rfl⟩
  have hA : ∀ q : Nat, s.heap.size ≤ q → A q := fun q h => by rw [← hAe]; exact h
  have hbA : ¬ A b := by rw [← hAe]; exact Nat.not_le.mpr hbl
  have hAf : ∀ q, A q → s.heap.size ≤ q := fun q h => by rw [← hAe] at h; exact h
  rw [hAe] at hCX
  obtain ⟨c0, i0, hKn0⟩ := u_known (C := RX0) (T := TX0) (N := 5) (n := 5) hts jin0 (hts (.instantiable RX0 5) kg197)
  obtain ⟨c1, i1, hKn1⟩ := u_known (C := RX1) (T := TX1) (N := 11) (n := 11) hts jin1 (hts (.instantiable RX1 11) kg137)
  obtain ⟨c2, i2, hKn2⟩ := u_known (C := RX2) (T := TX2) (N := 4) (n := 4) hts jin2 (hts (.instantiable RX2 4) kg177)
  obtain ⟨c3, i3, hKn3⟩ := u_known (C := RX3) (T := TX3) (N := 8) (n := 8) hts jin3 (hts (.instantiable RX3 8) kg81)
  obtain ⟨c4, i4, hKn4⟩ := u_known (C := RX4) (T := TX4) (N := 6) (n := 6) hts jin4 (hts (.instantiable RX4 6) kg112)
  obtain ⟨c5, i5, hKn5⟩ := u_known (C := RX5) (T := TX5) (N := 11) (n := 11) hts jin5 (hts (.instantiable RX5 11) kg40)
  obtain ⟨c6, i6, hKn6⟩ := u_known (C := RX6) (T := TX6) (N := 6) (n := 6) hts jin6 (hts (.instantiable RX6 6) kg32)
  obtain ⟨c7, i7, hKn7⟩ := u_known (C := RX7) (T := TX7) (N := 35) (n := 35) hts jin7 (hts (.instantiable RX7 35) kg1361)
  obtain ⟨kI, kI1, pI1, fI1, gI1, rI1⟩ := Cond.arrayClass_spec (hts _ kg79)
  have hI1 : ArrOfT s kI .int := fun n z => ⟨fun k h => (by cases h), kI1, gI1, pI1, rI1⟩
  have hI2 : va_RA s kI .int := fI1
  obtain ⟨kJ, kJ1, pJ1, fJ1, gJ1, rJ1⟩ := Cond.arrayClass_spec (hts _ kg218)
  have hJ1 : ArrOfT s kJ .long := fun n z => ⟨fun k h => (by cases h), kJ1, gJ1, pJ1, rJ1⟩
  have hJ2 : va_RA s kJ .long := fJ1
  obtain ⟨kZ, kZ1, pZ1, fZ1, gZ1, rZ1⟩ := Cond.arrayClass_spec (hts _ kg195)
  have hZ1 : ArrOfT s kZ .boolean := fun n z => ⟨fun k h => (by cases h), kZ1, gZ1, pZ1, rZ1⟩
  have hZ2 : va_RA s kZ .boolean := fZ1
  obtain ⟨kD, kD1, pD1, fD1, gD1, rD1⟩ := Cond.arrayClass_spec (hts _ kg1732)
  have hD1 : ArrOfT s kD .double := fun n z => ⟨fun k h => (by cases h), kD1, gD1, pD1, rD1⟩
  have hD2 : va_RA s kD .double := fD1
  obtain ⟨D, hKc⟩ : ∃ (D : va_G), ∀ (k : Nat) (q : vw_C), jcl[k]? = some q → u_Kn s q.1 q.2.1 q.2.2 (D.1 k) (D.2 k) := by
    refine ⟨(fun k => if k = 0 then c0 else if k = 1 then c1 else if k = 2 then c2 else if k = 3 then c3 else if k = 4 then c4 else if k = 5 then c5 else if k = 6 then c6 else c7, fun k => if k = 0 then i0 else if k = 1 then i1 else if k = 2 then i2 else if k = 3 then i3 else if k = 4 then i4 else if k = 5 then i5 else if k = 6 then i6 else i7), ?_⟩
    intro k q hq
    match k, hq with
    | 0, hq => cases hq; exact hKn0
    | 1, hq => cases hq; exact hKn1
    | 2, hq => cases hq; exact hKn2
    | 3, hq => cases hq; exact hKn3
    | 4, hq => cases hq; exact hKn4
    | 5, hq => cases hq; exact hKn5
    | 6, hq => cases hq; exact hKn6
    | 7, hq => cases hq; exact hKn7
    | k + 8, hq => simp [jcl] at hq
  obtain ⟨kT, hK⟩ : ∃ kT : Nat → ClassId, va_K D jcl [(kT 0, .int), (kT 1, .long), (kT 2, .boolean), (kT 3, .double)] s := by
    refine ⟨fun k => if k = 0 then kI else if k = 1 then kJ else if k = 2 then kZ else kD, hKc, ?_⟩
    intro k q hq
    match k, hq with
    | 0, hq => cases hq; exact ⟨hI1, hI2⟩
    | 1, hq => cases hq; exact ⟨hJ1, hJ2⟩
    | 2, hq => cases hq; exact ⟨hZ1, hZ2⟩
    | 3, hq => cases hq; exact ⟨hD1, hD2⟩
    | k + 4, hq => simp at hq
  have hS : va_S A s.heap s.heap [] := va_S.rf
  have hP : va_P D jcl [] s.heap := fun k q h => by simp at h
  have hD : va_D A [] := ⟨fun i j p q h => by simp at h, fun k q h => by simp at h⟩
  have hl := lv_entry ([.ref b]) (n := 9) (Nat.le_of_ble_eq_true rfl)
  rw [lg_entry_eq]
  generalize (lg_sl ([.ref b]) ++ List.replicate (9 - (lg_sl ([.ref b])).length) Slot.unset).toArray = ls at hl ⊢
  have hl : lv_has ls 9 [(0, .ref b)] := hl
  refine va_new (ci := 6) (fs := [.null, .null, .null, .null, .null, .null]) (C := RX6) (T := TX6) (N := 6) hx hb hts jin6 tyX6 tyX6_ok hown (hts (.classLink RL 8 RX6) kg31) (hts (.instantiable RX6 6) kg32) (hts (.initialized RX6) kg1) hK hP hD hS hA rfl (fun j hj => by rcases (show j = 0 ∨ j = 1 ∨ j = 2 ∨ j = 3 ∨ j = 4 ∨ j = 5 by omega) with rfl | rfl | rfl | rfl | rfl | rfl <;> rfl) (Nat.le_of_ble_eq_true rfl) (Nat.le_of_ble_eq_true rfl) dL_law_0 (fun n6 H hP hD hS => ?_)
  have hP : va_P D jcl [(n6, .inr (6, [.null, .null, .null, .null, .null, .null]))] H := hP
  have hD : va_D A [(n6, .inr (6, [.null, .null, .null, .null, .null, .null]))] := hD
  refine lv_dup hx hb dL_law_3 rfl ?_
  have hPc := hP.sub (ws' := [(n6, .inr (6, [.null, .null, .null, .null, .null, .null]))]) [0] rfl
  have hDc := hD.sub (ws' := [(n6, .inr (6, [.null, .null, .null, .null, .null, .null]))]) [0] (by decide) rfl
  have hFc := va_free (wc := [(n6, .inr (6, [.null, .null, .null, .null, .null, .null]))]) hD hS hA [0] rfl
  refine va_callv (va_runI (As := []) (rest := [.ref n6]) ⟨hx, hb, hml, hown, hts⟩ (cc_6 l D kT n6 H.size) (cwI 0 hts (jG_good (List.forall_mem_cons.mpr ⟨kg35, fun _ h => h⟩)) rfl rfl rfl (hts (.initialized RX6) kg1) (hts (.methodLink RL 126 yX6_init) kg33) (hts (.instanceMethod yX6_init) kg34) rfl (by decide +kernel) ⟨Nat.le_of_ble_eq_true rfl, Nat.le_of_ble_eq_true rfl⟩) ⟨fun a U g mk q => by obtain ⟨q0, q1, qP, qK, qD, qN⟩ := q; exact ⟨q0, q1, qP, va_K.moved (u := U) (U := U.calling g mk a) (Vm.Alike.refl U.vm) qK, qD, fun w hw => va_Nw.warmM (U := U.calling g mk a) (State.WarmedH.refl U) (qN w hw)⟩, fun U hU hW => ⟨rfl, by rw [hU], by rw [hU]; exact hPc, va_K.moved hW.alike hK, hDc.weaken (fun _ _ _ _ => trivial), fun w hw => va_Nw.warmM hW (hNw w hw)⟩⟩ rfl rfl hl.1 rfl (lv_room (Nat.le_of_ble_eq_true rfl)) dL_law_4 ⟨Nat.le_of_ble_eq_true rfl, Nat.le_of_ble_eq_true rfl⟩) hS (fun q _ h => hFc q h) hFc (fun a6 t H1 locs ht hvm hw hB hz1 hk1 hS => ?_)
  subst hw
  obtain ⟨hP1, hK1, hD1⟩ := hB
  rw [ht] at hP1
  obtain ⟨hP, hD⟩ := va_join (wr := []) (w1 := cW6 kT a6) hP hD [0] [] rfl rfl (by decide) (by decide) hk1 hFc hP1 hD1
  generalize H1 = H at hP hS ⊢
  have hP : va_P D jcl (cW6 kT a6) H := hP
  have hD : va_D A (cW6 kT a6) := hD
  refine lv_astore_n (lv' := [(1, .ref (a6 0)), (0, .ref b)]) hx hb dL_law_7 rfl hl (by decide) rfl (fun ls hl => ?_)
  refine va_new (ci := 7) (fs := [.int (jI 0), .int (jI 0), .int (jI 0), .int (jI 0), .int (jI 0), .null, .null, .null, .null, .null, .null, .null, .null, .int (jI 0), .int (jI 0), .int (jI 0), .int (jI 0), .int (jI 0), .int (jI 0), .int (jI 0), .int (jI 0), .null, .null, .null, .null, .null, .null, .null, .null, .null, .null, .null, .null, .null, .int (jI 0)]) (C := RX7) (T := TX7) (N := 35) hx hb hts jin7 tyX7 tyX7_ok hown (hts (.classLink RL 127 RX7) kg1360) (hts (.instantiable RX7 35) kg1361) (hts (.initialized RX7) kg8) hK hP hD hS hA rfl (fun j hj => by rcases (show j = 0 ∨ j = 1 ∨ j = 2 ∨ j = 3 ∨ j = 4 ∨ j = 5 ∨ j = 6 ∨ j = 7 ∨ j = 8 ∨ j = 9 ∨ j = 10 ∨ j = 11 ∨ j = 12 ∨ j = 13 ∨ j = 14 ∨ j = 15 ∨ j = 16 ∨ j = 17 ∨ j = 18 ∨ j = 19 ∨ j = 20 ∨ j = 21 ∨ j = 22 ∨ j = 23 ∨ j = 24 ∨ j = 25 ∨ j = 26 ∨ j = 27 ∨ j = 28 ∨ j = 29 ∨ j = 30 ∨ j = 31 ∨ j = 32 ∨ j = 33 ∨ j = 34 by omega) with rfl | rfl | rfl | rfl | rfl | rfl | rfl | rfl | rfl | rfl | rfl | rfl | rfl | rfl | rfl | rfl | rfl | rfl | rfl | rfl | rfl | rfl | rfl | rfl | rfl | rfl | rfl | rfl | rfl | rfl | rfl | rfl | rfl | rfl | rfl <;> rfl) (Nat.le_of_ble_eq_true rfl) (Nat.le_of_ble_eq_true rfl) dL_law_8 (fun n7 H hP hD hS => ?_)
  refine lv_dup hx hb dL_law_11 rfl ?_
  have hPc := hP.sub (ws' := [(n7, .inr (7, [.int (jI 0), .int (jI 0), .int (jI 0), .int (jI 0), .int (jI 0), .null, .null, .null, .null, .null, .null, .null, .null, .int (jI 0), .int (jI 0), .int (jI 0), .int (jI 0), .int (jI 0), .int (jI 0), .int (jI 0), .int (jI 0), .null, .null, .null, .null, .null, .null, .null, .null, .null, .null, .null, .null, .null, .int (jI 0)]))]) [33] rfl
  have hDc := hD.sub (ws' := [(n7, .inr (7, [.int (jI 0), .int (jI 0), .int (jI 0), .int (jI 0), .int (jI 0), .null, .null, .null, .null, .null, .null, .null, .null, .int (jI 0), .int (jI 0), .int (jI 0), .int (jI 0), .int (jI 0), .int (jI 0), .int (jI 0), .int (jI 0), .null, .null, .null, .null, .null, .null, .null, .null, .null, .null, .null, .null, .null, .int (jI 0)]))]) [33] (by decide) rfl
  have hFc := va_free (wc := [(n7, .inr (7, [.int (jI 0), .int (jI 0), .int (jI 0), .int (jI 0), .int (jI 0), .null, .null, .null, .null, .null, .null, .null, .null, .int (jI 0), .int (jI 0), .int (jI 0), .int (jI 0), .int (jI 0), .int (jI 0), .int (jI 0), .int (jI 0), .null, .null, .null, .null, .null, .null, .null, .null, .null, .null, .null, .null, .null, .int (jI 0)]))]) hD hS hA [33] rfl
  refine va_callv (va_runI (As := []) (rest := [.ref n7]) ⟨hx, hb, hml, hown, hts⟩ (cc_7 l D kT n7 H.size) (cwI 0 hts (jG_good (List.forall_mem_cons.mpr ⟨kg1364, fun _ h => h⟩)) rfl rfl rfl (hts (.initialized RX7) kg8) (hts (.methodLink RL 129 yX7_init) kg1362) (hts (.instanceMethod yX7_init) kg1363) rfl (by decide +kernel) ⟨Nat.le_of_ble_eq_true rfl, Nat.le_of_ble_eq_true rfl⟩) ⟨fun a U g mk q => by obtain ⟨q0, q1, qP, qK, qD⟩ := q; exact ⟨q0, q1, qP, va_K.moved (u := U) (U := U.calling g mk a) (Vm.Alike.refl U.vm) qK, qD⟩, fun U hU hW => ⟨rfl, by rw [hU], by rw [hU]; exact hPc, va_K.moved hW.alike hK, hDc.weaken (fun _ _ _ _ => trivial)⟩⟩ rfl rfl hl.1 rfl (lv_room (Nat.le_of_ble_eq_true rfl)) dL_law_12 ⟨Nat.le_of_ble_eq_true rfl, Nat.le_of_ble_eq_true rfl⟩) hS (fun q _ h => hFc q h) hFc (fun a7 t H1 locs ht hvm hw hB hz1 hk1 hS => ?_)
  subst hw
  obtain ⟨hP1, hK1, hD1⟩ := hB
  rw [ht] at hP1
  obtain ⟨hP, hD⟩ := va_join (wr := cW6 kT a6) (w1 := cW7 kT a7) hP hD [33] [0, 1, 2, 3, 4, 5, 6, 7, 8, 9, 10, 11, 12, 13, 14, 15, 16, 17, 18, 19, 20, 21, 22, 23, 24, 25, 26, 27, 28, 29, 30, 31, 32] rfl rfl (by decide) (by decide) hk1 hFc hP1 hD1
  generalize H1 = H at hP hS ⊢
  refine lv_astore_n (lv' := [(2, .ref (a7 7)), (1, .ref (a6 0)), (0, .ref b)]) hx hb dL_law_15 rfl hl (by decide) rfl (fun ls hl => ?_)
  refine lv_iconst (v := jI 1) hx hb dL_law_16 rfl ?_
  refine jnewa (atype := .long) (ty := .long) (k0 := 1) (kA := kT 1) hx hb (hts _ kg218) rfl (fun _ => rfl) hK rfl hP hD hS hA (N' := 1) (a0 := (1, .inr (.inl (fun _ => jL 0)))) (fun _ => rfl) (by decide) (by decide) (Nat.le_of_ble_eq_true rfl) (Nat.le_of_ble_eq_true rfl) (Nat.le_of_ble_eq_true rfl) dL_law_17 (fun q55 H hP hD hS => ?_)
  refine lv_astore_n (lv' := [(3, .ref q55), (2, .ref (a7 7)), (1, .ref (a6 0)), (0, .ref b)]) hx hb dL_law_19 rfl hl (by decide) rfl (fun ls hl => ?_)
  refine lv_iconst (v := jI 1) hx hb dL_law_20 rfl ?_
  refine jnewa (atype := .double) (ty := .double) (k0 := 3) (kA := kT 3) hx hb (hts _ kg1732) rfl (fun _ => rfl) hK rfl hP hD hS hA (N' := 1) (a0 := (1, .inr (.inr (.inr (.inl (fun _ => jD 0)))))) (fun _ => rfl) (by decide) (by decide) (Nat.le_of_ble_eq_true rfl) (Nat.le_of_ble_eq_true rfl) (Nat.le_of_ble_eq_true rfl) dL_law_21 (fun q56 H hP hD hS => ?_)
  refine lv_astore (lv' := [(4, .ref q56), (3, .ref q55), (2, .ref (a7 7)), (1, .ref (a6 0)), (0, .ref b)]) hx hb dL_law_23 hl (by decide) rfl (fun ls hl => ?_)
  refine lv_iconst (v := jI 0) hx hb dL_law_25 rfl ?_
  refine lv_istore (lv' := [(5, .int (jI 0)), (4, .ref q56), (3, .ref q55), (2, .ref (a7 7)), (1, .ref (a6 0)), (0, .ref b)]) hx hb dL_law_26 hl (by decide) rfl (fun ls hl => ?_)
  rw [← cad_w] at hP hD
  have e1 : a6 0 = cad a6 a7 q55 q56 0 := cad_6 a6 a7 q55 q56 (by decide)
  have e2 : a7 7 = cad a6 a7 q55 q56 7 := cad_7 a6 a7 q55 q56 (by decide)
  have e3 : q55 = cad a6 a7 q55 q56 55 := rfl
  have e4 : q56 = cad a6 a7 q55 q56 56 := rfl
  generalize cad a6 a7 q55 q56 = ad at hP hD e1 e2 e3 e4
  have hPj : va_P D jcl (jw (ad, D, kT, (b, L, xs)) jz0) H := by rw [jw_list]; exact hP.sub _ (cWa_q kT ad)
  have hDj : va_D A (jw (ad, D, kT, (b, L, xs)) jz0) := by rw [jw_list]; exact hD.sub _ (by decide) (cWa_p kT ad)
  have hV := @lw_loop l (ad, D, kT, (b, L, xs)) 0 hL (L + 1) 0 512 (9, 0) (9, 0) (9, 0) jz0 (Int.le_refl 0) (show (0 : Int) ≤ ((L : Nat) : Int) by omega) (show ((L : Nat) : Int) - 0 < ((L + 1 : Nat) : Int) by omega) (show ((L : Nat) : Int) ≤ 0 + 4 * ((512 : Nat) : Int) + 3 by omega) jz0_inv
  have hfl : l.stackTraces = false := by unfold Launch.stackTraces; rw [hflags]; decide +kernel
  have hF : jFix l mL_law 100 p room_1 s m #[Value.ref b] meth c A 603072 7211114 := ⟨hx, hb, hml, hown, hts, hfl, Nat.le_of_ble_eq_true rfl, Nat.le_of_ble_eq_true rfl, Nat.le_of_ble_eq_true rfl, Nat.le_of_ble_eq_true rfl, hA, hCX, htab, hlocks⟩
  refine hV p e room_1 s m #[Value.ref b] below meth c A 603072 7211114 (lw_Z below #[Value.ref b] s) hF (fun _ => ⟨hX, hbl, hbA⟩) ⟨fun H locs cells slots σ v pc ls h1 h2 h3 hc hs hq hok hret => ?_, Or.inr (fun X σ h => h)⟩ H locs _ _ ls ⟨⟨hPj, hDj, hK⟩, jz0_ok, hS, Nat.le_of_ble_eq_true rfl, Nat.le_of_ble_eq_true rfl, ⟨hl.1, hl.2.1, rfl, fun i v hv h8 => ?_⟩, fun v hv => ?_, fun v hv => absurd hv List.not_mem_nil⟩
  · cases hq
    refine va_forget (fun q hq => hAf _ (h3.2.2 q hq)) ?_
    refine W.widen hc hs ?_
    refine W.base ?_
    have e9 : jI 1 = 1 := by decide
    show W p l e room_1 (s.setDrawn s.drawn) m #[Value.ref b] below meth c H [] 603072 7211114 _ (F0 m pc ls [.int (jI 1)])
    rw [e9]
    exact lw_ret (Drawn.sameBut.refl s.drawn lw_cs) hx hb hr hlocks hret.1
  · match i, hv with
    | 0, hv => cases hv; exact hl.2.2 (0, .ref b) (by simp)
    | 1, hv => cases hv; rw [show jtr (ad, D, kT, (b, L, xs)) (2, 0) = .ref (a6 0) from congrArg Value.ref e1.symm]; exact hl.2.2 (1, .ref (a6 0)) (by simp)
    | 2, hv => cases hv; rw [show jtr (ad, D, kT, (b, L, xs)) (2, 7) = .ref (a7 7) from congrArg Value.ref e2.symm]; exact hl.2.2 (2, .ref (a7 7)) (by simp)
    | 3, hv => cases hv; rw [show jtr (ad, D, kT, (b, L, xs)) (2, 55) = .ref q55 from congrArg Value.ref e3.symm]; exact hl.2.2 (3, .ref q55) (by simp)
    | 4, hv => cases hv; rw [show jtr (ad, D, kT, (b, L, xs)) (2, 56) = .ref q56 from congrArg Value.ref e4.symm]; exact hl.2.2 (4, .ref q56) (by simp)
    | 5, hv => cases hv; exact hl.2.2 (5, .int (jI 0)) (by simp)
    | 6, hv => cases hv; exact absurd h8 (by decide)
    | 7, hv => cases hv; exact absurd h8 (by decide)
    | 8, hv => cases hv; exact absurd h8 (by decide)
    | k + 9, hv => simp at hv
  · simp only [List.mem_cons, List.not_mem_nil, or_false] at hv
    rcases hv with rfl | rfl | rfl | rfl | rfl | rfl | rfl | rfl | rfl
    all_goals first | trivial | exact (⟨by decide, by decide⟩ : jrI 0)
