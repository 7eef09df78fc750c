/-! ===== the first cells in their order ===== -/
def cWs (kT : Nat → ClassId) (ad : Nat → Nat) : va_W := [(ad 0, .inr (6, [.ref (ad 1), .ref (ad 2), .ref (ad 3), .ref (ad 4), .ref (ad 5), .ref (ad 6)])), (ad 1, .inr (5, [.ref (ad 8), .ref (ad 9), .ref (ad 10), .ref (ad 11), .ref (ad 12), .ref (ad 13), .ref (ad 14), .int (jI 0), .int (jI 0), .int (jI 0), .int (jI 0)])), (ad 2, .inr (3, [.ref (ad 15), .ref (ad 16), .ref (ad 17), .ref (ad 18), .ref (ad 19), .ref (ad 20), .int (jI 0), .int (jI 0)])), (ad 3, .inr (4, [.ref (ad 2), .ref (ad 21), .ref (ad 22), .ref (ad 23), .ref (ad 24), .int (jI 0)])), (ad 4, .inr (1, [.ref (ad 1), .ref (ad 2), .ref (ad 3), .ref (ad 25), .ref (ad 26), .ref (ad 27), .ref (ad 28), .int (jI 0), .int (jI 0), .int (jI 0), .int (jI 0)])), (ad 5, .inr (2, [.ref (ad 29), .ref (ad 30), .int (jI 0), .int (jI 0)])), (ad 6, .inr (0, [.ref (ad 1), .ref (ad 31), .ref (ad 32), .ref (ad 33), .long (jL 1)])), (ad 7, .inl (kT 2, 21, .inl (fun _ => jI 0))), (ad 8, .inl (kT 0, 80, .inl (fun _ => jI 0))), (ad 9, .inl (kT 0, 80, .inl (fun _ => jI 0))), (ad 10, .inl (kT 0, 80, .inl (fun _ => jI 0))), (ad 11, .inl (kT 0, 80, .inl (fun _ => jI 0))), (ad 12, .inl (kT 0, 80, .inl (fun _ => jI 0))), (ad 13, .inl (kT 0, 80, .inl (fun _ => jI 0))), (ad 14, .inl (kT 0, 8, .inl (fun _ => jI 0))), (ad 15, .inl (kT 0, 200, .inl (fun _ => jI 0))), (ad 16, .inl (kT 0, 200, .inl (fun _ => jI 0))), (ad 17, .inl (kT 0, 200, .inl (fun _ => jI 0))), (ad 18, .inl (kT 0, 200, .inl (fun _ => jI 0))), (ad 19, .inl (kT 0, 200, .inl (fun _ => jI 0))), (ad 20, .inl (kT 0, 200, .inl (fun _ => jI 0))), (ad 21, .inl (kT 0, 1620, .inl (fun _ => jI 0))), (ad 22, .inl (kT 0, 81, .inl (fun _ => jI 0))), (ad 23, .inl (kT 0, 81, .inl (fun _ => jI 0))), (ad 24, .inl (kT 0, 200, .inl (fun _ => jI 0))), (ad 25, .inl (kT 0, 80, .inl (fun _ => jI 0))), (ad 26, .inl (kT 0, 9, .inl (fun _ => jI 0))), (ad 27, .inl (kT 0, 18, .inl (fun _ => jI 0))), (ad 28, .inl (kT 0, 18, .inl (fun _ => jI 0))), (ad 29, .inl (kT 0, 1400, .inl (fun _ => jI 0))), (ad 30, .inl (kT 2, 1400, .inl (fun _ => jI 0))), (ad 31, .inl (kT 0, 80, .inl (fun _ => jI 0))), (ad 32, .inl (kT 1, 4096, .inr (.inl (fun _ => jL 0)))), (ad 33, .inl (kT 0, 4096, .inl (fun _ => jI 0)))]
theorem jcell0_0 (E : JE) : jcell E 0 (jz0 0) = .inr (6, [.ref (E.1 1), .ref (E.1 2), .ref (E.1 3), .ref (E.1 4), .ref (E.1 5), .ref (E.1 6)]) := rfl
theorem jcell0_1 (E : JE) : jcell E 1 (jz0 1) = .inr (5, [.ref (E.1 8), .ref (E.1 9), .ref (E.1 10), .ref (E.1 11), .ref (E.1 12), .ref (E.1 13), .ref (E.1 14), .int (jI 0), .int (jI 0), .int (jI 0), .int (jI 0)]) := rfl
theorem jcell0_2 (E : JE) : jcell E 2 (jz0 2) = .inr (3, [.ref (E.1 15), .ref (E.1 16), .ref (E.1 17), .ref (E.1 18), .ref (E.1 19), .ref (E.1 20), .int (jI 0), .int (jI 0)]) := rfl
theorem jcell0_3 (E : JE) : jcell E 3 (jz0 3) = .inr (4, [.ref (E.1 2), .ref (E.1 21), .ref (E.1 22), .ref (E.1 23), .ref (E.1 24), .int (jI 0)]) := rfl
theorem jcell0_4 (E : JE) : jcell E 4 (jz0 4) = .inr (1, [.ref (E.1 1), .ref (E.1 2), .ref (E.1 3), .ref (E.1 25), .ref (E.1 26), .ref (E.1 27), .ref (E.1 28), .int (jI 0), .int (jI 0), .int (jI 0), .int (jI 0)]) := rfl
theorem jcell0_5 (E : JE) : jcell E 5 (jz0 5) = .inr (2, [.ref (E.1 29), .ref (E.1 30), .int (jI 0), .int (jI 0)]) := rfl
theorem jcell0_6 (E : JE) : jcell E 6 (jz0 6) = .inr (0, [.ref (E.1 1), .ref (E.1 31), .ref (E.1 32), .ref (E.1 33), .long (jL 1)]) := rfl
theorem jcell0_7 (E : JE) : jcell E 7 (jz0 7) = .inl (E.2.2.1 2, 21, .inl (fun _ => jI 0)) := by
  rw [jcell_h]
  have e : (fun j : Nat => jI (jz0 7 ((j : Int) + 100))) = fun _ => jI 0 := by
    funext j
    rw [jz0_0 (by omega) (by omega)]
  rw [e]
theorem jcell0_8 (E : JE) : jcell E 8 (jz0 8) = .inl (E.2.2.1 0, 80, .inl (fun _ => jI 0)) := rfl
theorem jcell0_9 (E : JE) : jcell E 9 (jz0 9) = .inl (E.2.2.1 0, 80, .inl (fun _ => jI 0)) := rfl
theorem jcell0_10 (E : JE) : jcell E 10 (jz0 10) = .inl (E.2.2.1 0, 80, .inl (fun _ => jI 0)) := rfl
theorem jcell0_11 (E : JE) : jcell E 11 (jz0 11) = .inl (E.2.2.1 0, 80, .inl (fun _ => jI 0)) := rfl
theorem jcell0_12 (E : JE) : jcell E 12 (jz0 12) = .inl (E.2.2.1 0, 80, .inl (fun _ => jI 0)) := rfl
theorem jcell0_13 (E : JE) : jcell E 13 (jz0 13) = .inl (E.2.2.1 0, 80, .inl (fun _ => jI 0)) := rfl
theorem jcell0_14 (E : JE) : jcell E 14 (jz0 14) = .inl (E.2.2.1 0, 8, .inl (fun _ => jI 0)) := rfl
theorem jcell0_15 (E : JE) : jcell E 15 (jz0 15) = .inl (E.2.2.1 0, 200, .inl (fun _ => jI 0)) := rfl
theorem jcell0_16 (E : JE) : jcell E 16 (jz0 16) = .inl (E.2.2.1 0, 200, .inl (fun _ => jI 0)) := rfl
theorem jcell0_17 (E : JE) : jcell E 17 (jz0 17) = .inl (E.2.2.1 0, 200, .inl (fun _ => jI 0)) := rfl
theorem jcell0_18 (E : JE) : jcell E 18 (jz0 18) = .inl (E.2.2.1 0, 200, .inl (fun _ => jI 0)) := rfl
theorem jcell0_19 (E : JE) : jcell E 19 (jz0 19) = .inl (E.2.2.1 0, 200, .inl (fun _ => jI 0)) := rfl
theorem jcell0_20 (E : JE) : jcell E 20 (jz0 20) = .inl (E.2.2.1 0, 200, .inl (fun _ => jI 0)) := rfl
theorem jcell0_21 (E : JE) : jcell E 21 (jz0 21) = .inl (E.2.2.1 0, 1620, .inl (fun _ => jI 0)) := rfl
theorem jcell0_22 (E : JE) : jcell E 22 (jz0 22) = .inl (E.2.2.1 0, 81, .inl (fun _ => jI 0)) := rfl
theorem jcell0_23 (E : JE) : jcell E 23 (jz0 23) = .inl (E.2.2.1 0, 81, .inl (fun _ => jI 0)) := rfl
theorem jcell0_24 (E : JE) : jcell E 24 (jz0 24) = .inl (E.2.2.1 0, 200, .inl (fun _ => jI 0)) := rfl
theorem jcell0_25 (E : JE) : jcell E 25 (jz0 25) = .inl (E.2.2.1 0, 80, .inl (fun _ => jI 0)) := rfl
theorem jcell0_26 (E : JE) : jcell E 26 (jz0 26) = .inl (E.2.2.1 0, 9, .inl (fun _ => jI 0)) := rfl
theorem jcell0_27 (E : JE) : jcell E 27 (jz0 27) = .inl (E.2.2.1 0, 18, .inl (fun _ => jI 0)) := rfl
theorem jcell0_28 (E : JE) : jcell E 28 (jz0 28) = .inl (E.2.2.1 0, 18, .inl (fun _ => jI 0)) := rfl
theorem jcell0_29 (E : JE) : jcell E 29 (jz0 29) = .inl (E.2.2.1 0, 1400, .inl (fun _ => jI 0)) := rfl
theorem jcell0_30 (E : JE) : jcell E 30 (jz0 30) = .inl (E.2.2.1 2, 1400, .inl (fun _ => jI 0)) := rfl
theorem jcell0_31 (E : JE) : jcell E 31 (jz0 31) = .inl (E.2.2.1 0, 80, .inl (fun _ => jI 0)) := rfl
theorem jcell0_32 (E : JE) : jcell E 32 (jz0 32) = .inl (E.2.2.1 1, 4096, .inr (.inl (fun _ => jL 0))) := rfl
theorem jcell0_33 (E : JE) : jcell E 33 (jz0 33) = .inl (E.2.2.1 0, 4096, .inl (fun _ => jI 0)) := rfl
theorem jw_list (E : JE) : jw E jz0 = cWs E.2.2.1 E.1 := by
  have e : jw E jz0 = [(E.1 0, jcell E 0 (jz0 0)), (E.1 1, jcell E 1 (jz0 1)), (E.1 2, jcell E 2 (jz0 2)), (E.1 3, jcell E 3 (jz0 3)), (E.1 4, jcell E 4 (jz0 4)), (E.1 5, jcell E 5 (jz0 5)), (E.1 6, jcell E 6 (jz0 6)), (E.1 7, jcell E 7 (jz0 7)), (E.1 8, jcell E 8 (jz0 8)), (E.1 9, jcell E 9 (jz0 9)), (E.1 10, jcell E 10 (jz0 10)), (E.1 11, jcell E 11 (jz0 11)), (E.1 12, jcell E 12 (jz0 12)), (E.1 13, jcell E 13 (jz0 13)), (E.1 14, jcell E 14 (jz0 14)), (E.1 15, jcell E 15 (jz0 15)), (E.1 16, jcell E 16 (jz0 16)), (E.1 17, jcell E 17 (jz0 17)), (E.1 18, jcell E 18 (jz0 18)), (E.1 19, jcell E 19 (jz0 19)), (E.1 20, jcell E 20 (jz0 20)), (E.1 21, jcell E 21 (jz0 21)), (E.1 22, jcell E 22 (jz0 22)), (E.1 23, jcell E 23 (jz0 23)), (E.1 24, jcell E 24 (jz0 24)), (E.1 25, jcell E 25 (jz0 25)), (E.1 26, jcell E 26 (jz0 26)), (E.1 27, jcell E 27 (jz0 27)), (E.1 28, jcell E 28 (jz0 28)), (E.1 29, jcell E 29 (jz0 29)), (E.1 30, jcell E 30 (jz0 30)), (E.1 31, jcell E 31 (jz0 31)), (E.1 32, jcell E 32 (jz0 32)), (E.1 33, jcell E 33 (jz0 33))] := rfl
  rw [e, jcell0_0, jcell0_1, jcell0_2, jcell0_3, jcell0_4, jcell0_5, jcell0_6, jcell0_7, jcell0_8, jcell0_9, jcell0_10, jcell0_11, jcell0_12, jcell0_13, jcell0_14, jcell0_15, jcell0_16, jcell0_17, jcell0_18, jcell0_19, jcell0_20, jcell0_21, jcell0_22, jcell0_23, jcell0_24, jcell0_25, jcell0_26, jcell0_27, jcell0_28, jcell0_29, jcell0_30, jcell0_31, jcell0_32, jcell0_33]
  rfl
abbrev cWa (kT : Nat → ClassId) (ad : Nat → Nat) : va_W := cW6 kT ad ++ [(ad 7, .inl (kT 2, 21, .inl (fun _ => jI 0)))]
theorem cWa_p (kT : Nat → ClassId) (ad : Nat → Nat) : ([0, 1, 9, 16, 21, 26, 29, 33, 2, 3, 4, 5, 6, 7, 8, 10, 11, 12, 13, 14, 15, 17, 18, 19, 20, 22, 23, 24, 25, 27, 28, 30, 31, 32] : List Nat).map (fun i => (cWa kT ad)[i]?) = (cWs kT ad).map some := rfl
theorem cWa_q (kT : Nat → ClassId) (ad : Nat → Nat) : ([0, 1, 9, 16, 21, 26, 29, 33, 2, 3, 4, 5, 6, 7, 8, 10, 11, 12, 13, 14, 15, 17, 18, 19, 20, 22, 23, 24, 25, 27, 28, 30, 31, 32] : List Nat).filterMap (fun i => (cWa kT ad)[i]?) = cWs kT ad := rfl
def cad (a6 : Nat → Nat) (q7 : Nat) : Nat → Nat := fun k => if k = 7 then q7 else a6 k
theorem cad_6 (a6 : Nat → Nat) (q7 : Nat) {k : Nat} (h : k ≠ 7) : a6 k = cad a6 q7 k := (if_neg h).symm
theorem cad_w (kT : Nat → ClassId) (a6 : Nat → Nat) (q7 : Nat) : cWa kT (cad a6 q7) = cW6 kT a6 ++ [(q7, .inl (kT 2, 21, .inl (fun _ => jI 0)))] := by
  have e6 : cW6 kT a6 = cW6 kT (cad a6 q7) := by
    unfold cW6
    rw [cad_6 a6 q7 (k := 0) (by decide), cad_6 a6 q7 (k := 1) (by decide), cad_6 a6 q7 (k := 8) (by decide), cad_6 a6 q7 (k := 9) (by decide), cad_6 a6 q7 (k := 10) (by decide), cad_6 a6 q7 (k := 11) (by decide), cad_6 a6 q7 (k := 12) (by decide), cad_6 a6 q7 (k := 13) (by decide), cad_6 a6 q7 (k := 14) (by decide), cad_6 a6 q7 (k := 2) (by decide), cad_6 a6 q7 (k := 15) (by decide), cad_6 a6 q7 (k := 16) (by decide), cad_6 a6 q7 (k := 17) (by decide), cad_6 a6 q7 (k := 18) (by decide), cad_6 a6 q7 (k := 19) (by decide), cad_6 a6 q7 (k := 20) (by decide), cad_6 a6 q7 (k := 3) (by decide), cad_6 a6 q7 (k := 21) (by decide), cad_6 a6 q7 (k := 22) (by decide), cad_6 a6 q7 (k := 23) (by decide), cad_6 a6 q7 (k := 24) (by decide), cad_6 a6 q7 (k := 4) (by decide), cad_6 a6 q7 (k := 25) (by decide), cad_6 a6 q7 (k := 26) (by decide), cad_6 a6 q7 (k := 27) (by decide), cad_6 a6 q7 (k := 28) (by decide), cad_6 a6 q7 (k := 5) (by decide), cad_6 a6 q7 (k := 29) (by decide), cad_6 a6 q7 (k := 30) (by decide), cad_6 a6 q7 (k := 6) (by decide), cad_6 a6 q7 (k := 31) (by decide), cad_6 a6 q7 (k := 32) (by decide), cad_6 a6 q7 (k := 33) (by decide)]
  rw [e6]
  rfl
