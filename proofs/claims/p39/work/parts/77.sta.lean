-- ===== YOUR PART BEGINS =====
set_option maxHeartbeats 4000000 in
set_option maxRecDepth 100000 in
theorem whole_start {p : Program} {e : Env} {s : State} {m : MethodId} {below : List Frame} {meth : Method} {c : Code} (l : Launch) (hflags : l.flags = flags0) {b L : Nat} {xs : Nat → Int32} (hL : L ≤ 260) (htab : c.exceptionTable.toList = []) (C0 : lw_At p s m meth c b L xs) : W p l e room_1 s m #[Value.ref b] below meth c s.heap [] 0 0 (lw_Z below #[Value.ref b] s) (entryFrame m ([Value.ref b] : List Value).toArray 17) := by
  obtain ⟨hx, hb, hr, hml, hown, hts0, hX, hbl, hlocks, hgv⟩ := id C0
  have hown : s.vm.findClass RL = some m.cls := hown
  have hts : ∀ w ∈ jG, w.before #[Value.ref b] s = true := fun w hw => hts0 w (List.mem_filter.mp hw).1
  have hCX := jCX_start hts0 hgv
  have hNw := hCX.1
  obtain ⟨A, hAe⟩ : ∃ A : Nat → Prop, (fun q : Nat => s.heap.size ≤ q) = A := ⟨_, rfl⟩
  have hA : ∀ q : Nat, s.heap.size ≤ q → A q := fun q h => by rw [← hAe]; exact h
  have hbA : ¬ A b := by rw [← hAe]; exact Nat.not_le.mpr hbl
  have hAf : ∀ q, A q → s.heap.size ≤ q := fun q h => by rw [← hAe] at h; exact h
  rw [hAe] at hCX
  obtain ⟨c0, i0, hKn0⟩ := u_known (C := RX0) (T := TX0) (N := 5) (n := 5) hts jin0 (hts (.instantiable RX0 5) kg196)
  obtain ⟨c1, i1, hKn1⟩ := u_known (C := RX1) (T := TX1) (N := 11) (n := 11) hts jin1 (hts (.instantiable RX1 11) kg136)
  obtain ⟨c2, i2, hKn2⟩ := u_known (C := RX2) (T := TX2) (N := 4) (n := 4) hts jin2 (hts (.instantiable RX2 4) kg176)
  obtain ⟨c3, i3, hKn3⟩ := u_known (C := RX3) (T := TX3) (N := 8) (n := 8) hts jin3 (hts (.instantiable RX3 8) kg80)
  obtain ⟨c4, i4, hKn4⟩ := u_known (C := RX4) (T := TX4) (N := 6) (n := 6) hts jin4 (hts (.instantiable RX4 6) kg111)
  obtain ⟨c5, i5, hKn5⟩ := u_known (C := RX5) (T := TX5) (N := 11) (n := 11) hts jin5 (hts (.instantiable RX5 11) kg39)
  obtain ⟨c6, i6, hKn6⟩ := u_known (C := RX6) (T := TX6) (N := 6) (n := 6) hts jin6 (hts (.instantiable RX6 6) kg31)
  obtain ⟨kI, kI1, pI1, fI1, gI1, rI1⟩ := Cond.arrayClass_spec (hts _ kg78)
  have hI1 : ArrOfT s kI .int := fun n z => ⟨fun k h => (by cases h), kI1, gI1, pI1, rI1⟩
  have hI2 : va_RA s kI .int := fI1
  obtain ⟨kJ, kJ1, pJ1, fJ1, gJ1, rJ1⟩ := Cond.arrayClass_spec (hts _ kg217)
  have hJ1 : ArrOfT s kJ .long := fun n z => ⟨fun k h => (by cases h), kJ1, gJ1, pJ1, rJ1⟩
  have hJ2 : va_RA s kJ .long := fJ1
  obtain ⟨kZ, kZ1, pZ1, fZ1, gZ1, rZ1⟩ := Cond.arrayClass_spec (hts _ kg194)
  have hZ1 : ArrOfT s kZ .boolean := fun n z => ⟨fun k h => (by cases h), kZ1, gZ1, pZ1, rZ1⟩
  have hZ2 : va_RA s kZ .boolean := fZ1
  obtain ⟨D, hKc⟩ : ∃ (D : va_G), ∀ (k : Nat) (q : vw_C), jcl[k]? = some q → u_Kn s q.1 q.2.1 q.2.2 (D.1 k) (D.2 k) := by
    refine ⟨(fun k => if k = 0 then c0 else if k = 1 then c1 else if k = 2 then c2 else if k = 3 then c3 else if k = 4 then c4 else if k = 5 then c5 else c6, fun k => if k = 0 then i0 else if k = 1 then i1 else if k = 2 then i2 else if k = 3 then i3 else if k = 4 then i4 else if k = 5 then i5 else i6), ?_⟩
    intro k q hq
    match k, hq with
    | 0, hq => cases hq; exact hKn0
    | 1, hq => cases hq; exact hKn1
    | 2, hq => cases hq; exact hKn2
    | 3, hq => cases hq; exact hKn3
    | 4, hq => cases hq; exact hKn4
    | 5, hq => cases hq; exact hKn5
    | 6, hq => cases hq; exact hKn6
    | k + 7, hq => simp [jcl] at hq
  obtain ⟨kT, hK⟩ : ∃ kT : Nat → ClassId, va_K D jcl [(kT 0, .int), (kT 1, .long), (kT 2, .boolean)] s := by
    refine ⟨fun k => if k = 0 then kI else if k = 1 then kJ else kZ, hKc, ?_⟩
    intro k q hq
    match k, hq with
    | 0, hq => cases hq; exact ⟨hI1, hI2⟩
    | 1, hq => cases hq; exact ⟨hJ1, hJ2⟩
    | 2, hq => cases hq; exact ⟨hZ1, hZ2⟩
    | k + 3, hq => simp at hq
  have hS : va_S A s.heap s.heap [] := va_S.rf
  have hP : va_P D jcl [] s.heap := fun k q h => by simp at h
  have hD : va_D A [] := ⟨fun i j p q h => by simp at h, fun k q h => by simp at h⟩
  have hl := lv_entry ([.ref b]) (n := 17) (Nat.le_of_ble_eq_true rfl)
  rw [lg_entry_eq]
  generalize (lg_sl ([.ref b]) ++ List.replicate (17 - (lg_sl ([.ref b])).length) Slot.unset).toArray = ls at hl ⊢
  have hl : lv_has ls 17 [(0, .ref b)] := hl
  refine va_new (ci := 6) (fs := [.null, .null, .null, .null, .null, .null]) (C := RX6) (T := TX6) (N := 6) hx hb hts jin6 tyX6 tyX6_ok hown (hts (.classLink RL 15 RX6) kg30) (hts (.instantiable RX6 6) kg31) (hts (.initialized RX6) kg1) hK hP hD hS hA rfl (fun j hj => by rcases (show j = 0 ∨ j = 1 ∨ j = 2 ∨ j = 3 ∨ j = 4 ∨ j = 5 by omega) with rfl | rfl | rfl | rfl | rfl | rfl <;> rfl) (Nat.le_of_ble_eq_true rfl) (Nat.le_of_ble_eq_true rfl) dL_law_0 (fun n6 H hP hD hS => ?_)
  have hP : va_P D jcl [(n6, .inr (6, [.null, .null, .null, .null, .null, .null]))] H := hP
  have hD : va_D A [(n6, .inr (6, [.null, .null, .null, .null, .null, .null]))] := hD
  refine lv_dup hx hb dL_law_3 rfl ?_
  have hPc := hP.sub (ws' := [(n6, .inr (6, [.null, .null, .null, .null, .null, .null]))]) [0] rfl
  have hDc := hD.sub (ws' := [(n6, .inr (6, [.null, .null, .null, .null, .null, .null]))]) [0] (by decide) rfl
  have hFc := va_free (wc := [(n6, .inr (6, [.null, .null, .null, .null, .null, .null]))]) hD hS hA [0] rfl
  refine va_callv (va_runI (As := []) (rest := [.ref n6]) ⟨hx, hb, hml, hown, hts⟩ (cc_6 l D kT n6 H.size) (cwI 0 hts (jG_good (List.forall_mem_cons.mpr ⟨kg34, fun _ h => h⟩)) rfl rfl rfl (hts (.initialized RX6) kg1) (hts (.methodLink RL 135 yX6_init) kg32) (hts (.instanceMethod yX6_init) kg33) rfl (by decide +kernel) ⟨Nat.le_of_ble_eq_true rfl, Nat.le_of_ble_eq_true rfl⟩) ⟨fun a U g mk q => by obtain ⟨q0, q1, qP, qK, qD, qN⟩ := q; exact ⟨q0, q1, qP, va_K.moved (u := U) (U := U.calling g mk a) (Vm.Alike.refl U.vm) qK, qD, fun w hw => va_Nw.warmM (U := U.calling g mk a) (State.WarmedH.refl U) (qN w hw)⟩, fun U hU hW => ⟨rfl, by rw [hU], by rw [hU]; exact hPc, va_K.moved hW.alike hK, hDc.weaken (fun _ _ _ _ => trivial), fun w hw => va_Nw.warmM hW (hNw w hw)⟩⟩ rfl rfl hl.1 rfl (lv_room (Nat.le_of_ble_eq_true rfl)) dL_law_4 ⟨Nat.le_of_ble_eq_true rfl, Nat.le_of_ble_eq_true rfl⟩) hS (fun q _ h => hFc q h) hFc (fun a6 t H1 locs ht hvm hw hB hz1 hk1 hS => ?_)
  subst hw
  obtain ⟨hP1, hK1, hD1⟩ := hB
  rw [ht] at hP1
  obtain ⟨hP, hD⟩ := va_join (wr := []) (w1 := cW6 kT a6) hP hD [0] [] rfl rfl (by decide) (by decide) hk1 hFc hP1 hD1
  generalize H1 = H at hP hS ⊢
  have hP : va_P D jcl (cW6 kT a6) H := hP
  have hD : va_D A (cW6 kT a6) := hD
  refine lv_astore_n (lv' := [(1, .ref (a6 0)), (0, .ref b)]) hx hb dL_law_7 rfl hl (by decide) rfl (fun ls hl => ?_)
  refine lv_iconst (v := jI 1) hx hb dL_law_8 rfl ?_
  refine lv_aload_n hx hb dL_law_9 rfl (lv_at hl 1 rfl) ?_
  refine lv_iconst (v := jI 0) hx hb dL_law_10 rfl ?_
  refine lv_iconst (v := jI 5) hx hb dL_law_11 rfl ?_
  refine va_calli (A1 := fun _ => False) (va_runS (As := [.ref b, .int (jI 0), .int (jI 5)]) (rest := [.int (jI 1)]) ⟨hx, hb, hml, hown, hts⟩ (c_pick l b L 0 5 xs (by omega) ⟨by decide, by decide⟩ ⟨by decide, by decide⟩) (cwS 3 hts (jG_ks kc_L_136 rfl) rfl rfl rfl ⟨rfl, by decide +kernel, by decide +kernel, by decide +kernel⟩ ⟨Nat.le_of_ble_eq_true rfl, Nat.le_of_ble_eq_true rfl⟩) ⟨fun a U g mk z => by obtain ⟨q0, q1, q2⟩ := z; exact ⟨q0, q1, q2⟩, fun U hU hW => ⟨rfl, by rw [hU]; exact va_X.moved hW.alike (hX.kept (hS.2.1 _ hbl hbA)), by rw [hU]; exact Nat.lt_of_lt_of_le hbl hS.1⟩⟩ rfl rfl hl.1 rfl (lv_room (Nat.le_of_ble_eq_true rfl)) dL_law_12 ⟨Nat.le_of_ble_eq_true rfl, Nat.le_of_ble_eq_true rfl⟩) hS (fun q _ h => h.elim) (fun q h => h.elim) (fun r u t H1 locs ht hvm hp hB hz hk1 hS => ?_)
  obtain ⟨rfl, u0, u1⟩ := hp
  have hP : va_P D jcl (cW6 kT a6) H1 := hP.kept (fun k q hk => hk1 q.1 (hP k q hk).lt (fun h => h))
  generalize H1 = H at hP hS ⊢
  refine lv_iadd hx hb dL_law_15 ?_
  rw [jI_add]
  refine lv_istore_n (lv' := [(2, .int (jI (1 + u))), (1, .ref (a6 0)), (0, .ref b)]) hx hb dL_law_16 rfl hl (by decide) rfl (fun ls hl => ?_)
  refine lv_iconst (v := jI 1) hx hb dL_law_17 rfl ?_
  refine lv_istore_n (lv' := [(3, .int (jI 1)), (2, .int (jI (1 + u))), (1, .ref (a6 0)), (0, .ref b)]) hx hb dL_law_18 rfl hl (by decide) rfl (fun ls hl => ?_)
  refine lv_iconst (v := jI 0) hx hb dL_law_19 rfl ?_
  refine lv_istore (lv' := [(4, .int (jI 0)), (3, .int (jI 1)), (2, .int (jI (1 + u))), (1, .ref (a6 0)), (0, .ref b)]) hx hb dL_law_20 hl (by decide) rfl (fun ls hl => ?_)
  refine lv_iconst (v := jI 0) hx hb dL_law_22 rfl ?_
  refine lv_istore (lv' := [(5, .int (jI 0)), (4, .int (jI 0)), (3, .int (jI 1)), (2, .int (jI (1 + u))), (1, .ref (a6 0)), (0, .ref b)]) hx hb dL_law_23 hl (by decide) rfl (fun ls hl => ?_)
  refine lv_iconst (v := jI 1) hx hb dL_law_25 rfl ?_
  refine lv_istore (lv' := [(6, .int (jI 1)), (5, .int (jI 0)), (4, .int (jI 0)), (3, .int (jI 1)), (2, .int (jI (1 + u))), (1, .ref (a6 0)), (0, .ref b)]) hx hb dL_law_26 hl (by decide) rfl (fun ls hl => ?_)
  refine lv_bipush hx hb dL_law_28 (jc_int (by decide) (by decide)) ?_
  refine jnewa (atype := .boolean) (ty := .boolean) (k0 := 2) (kA := kT 2) hx hb (hts _ kg194) rfl (fun _ => rfl) hK rfl hP hD hS hA (N' := 21) (a0 := (21, .inl (fun _ => jI 0))) (fun _ => rfl) (by decide) (by decide) (Nat.le_of_ble_eq_true rfl) (Nat.le_of_ble_eq_true rfl) (Nat.le_of_ble_eq_true rfl) dL_law_30 (fun q7 H hP hD hS => ?_)
  refine lv_astore (lv' := [(7, .ref q7), (6, .int (jI 1)), (5, .int (jI 0)), (4, .int (jI 0)), (3, .int (jI 1)), (2, .int (jI (1 + u))), (1, .ref (a6 0)), (0, .ref b)]) hx hb dL_law_32 hl (by decide) rfl (fun ls hl => ?_)
  rw [← cad_w] at hP hD
  have e1 : a6 0 = cad a6 q7 0 := cad_6 a6 q7 (by decide)
  have e2 : q7 = cad a6 q7 7 := rfl
  generalize cad a6 q7 = ad at hP hD e1 e2
  have hPj : va_P D jcl (jw (ad, D, kT, (b, L, xs)) jz0) H := by rw [jw_list]; exact hP.sub _ (cWa_q kT ad)
  have hDj : va_D A (jw (ad, D, kT, (b, L, xs)) jz0) := by rw [jw_list]; exact hD.sub _ (by decide) (cWa_p kT ad)
  have hV := @lw_body l (ad, D, kT, (b, L, xs)) 16000 0 (1 + u) (9, 0) (9, 0) (9, 0) (9, 0) (9, 0) (9, 0) (9, 0) (9, 0) jz0 (9, 0) (show L ≤ 2048 by omega) (by omega) jz0_inv (Nat.le_refl _) rfl rfl
  have hfl : l.stackTraces = false := by unfold Launch.stackTraces; rw [hflags]; decide +kernel
  have hF : jFix l mL_law 60 p room_1 s m #[Value.ref b] meth c A 992992 6112872 := ⟨hx, hb, hml, hown, hts, hfl, Nat.le_of_ble_eq_true rfl, Nat.le_of_ble_eq_true rfl, Nat.le_of_ble_eq_true rfl, Nat.le_of_ble_eq_true rfl, hA, hCX, htab, hlocks⟩
  refine hV p e room_1 s m #[Value.ref b] below meth c A 992992 6112872 (lw_Z below #[Value.ref b] s) hF (fun _ => ⟨hX, hbl, hbA⟩) ⟨fun H locs cells slots σ v pc ls h1 h2 h3 hc hs hq hok hret => ?_, Or.inr (fun X σ h => h)⟩ H locs _ _ ls ⟨⟨hPj, hDj, hK⟩, jz0_ok, hS, Nat.le_of_ble_eq_true rfl, Nat.le_of_ble_eq_true rfl, ⟨hl.1, hl.2.1, rfl, fun i v hv h8 => ?_⟩, fun v hv => ?_, fun v hv => absurd hv List.not_mem_nil⟩
  · cases hq
    refine va_forget (fun q hq => hAf _ (h3.2.2 q hq)) ?_
    refine W.widen hc hs ?_
    refine W.base ?_
    have e9 : jI 1 = 1 := by decide
    show W p l e room_1 (s.setDrawn s.drawn) m #[Value.ref b] below meth c H [] 992992 6112872 _ (F0 m pc ls [.int (jI 1)])
    rw [e9]
    exact lw_ret (Drawn.sameBut.refl s.drawn lw_cs) hx hb hr hlocks hret.1
  · match i, hv with
    | 0, hv => cases hv; exact hl.2.2 (0, .ref b) (by simp)
    | 1, hv => cases hv; rw [show jtr (ad, D, kT, (b, L, xs)) (2, 0) = .ref (a6 0) from congrArg Value.ref e1.symm]; exact hl.2.2 (1, .ref (a6 0)) (by simp)
    | 2, hv => cases hv; exact hl.2.2 (2, .int (jI (1 + u))) (by simp)
    | 3, hv => cases hv; exact hl.2.2 (3, .int (jI 1)) (by simp)
    | 4, hv => cases hv; exact hl.2.2 (4, .int (jI 0)) (by simp)
    | 5, hv => cases hv; exact hl.2.2 (5, .int (jI 0)) (by simp)
    | 6, hv => cases hv; exact hl.2.2 (6, .int (jI 1)) (by simp)
    | 7, hv => cases hv; rw [show jtr (ad, D, kT, (b, L, xs)) (2, 7) = .ref q7 from congrArg Value.ref e2.symm]; exact hl.2.2 (7, .ref q7) (by simp)
    | 8, hv => cases hv; exact absurd h8 (by decide)
    | 9, hv => cases hv; exact absurd h8 (by decide)
    | 10, hv => cases hv; exact absurd h8 (by decide)
    | 11, hv => cases hv; exact absurd h8 (by decide)
    | 12, hv => cases hv; exact absurd h8 (by decide)
    | 13, hv => cases hv; exact absurd h8 (by decide)
    | 14, hv => cases hv; exact absurd h8 (by decide)
    | 15, hv => cases hv; exact absurd h8 (by decide)
    | 16, hv => cases hv; exact absurd h8 (by decide)
    | k + 17, hv => simp at hv
  · simp only [List.mem_cons, List.not_mem_nil, or_false] at hv
    rcases hv with rfl | rfl | rfl | rfl | rfl | rfl | rfl | rfl | rfl | rfl | rfl | rfl | rfl | rfl | rfl | rfl | rfl
    all_goals first | trivial | exact (⟨by decide, by decide⟩ : jrI 0) | exact (⟨by decide, by decide⟩ : jrI 1) | exact (⟨by omega, by omega⟩ : jrI (1 + u))
