theorem ush52 (u : UInt64) : 0 ≤ (u >>> 52).toInt64.toInt ∧ (u >>> 52).toInt64.toInt < 4096 := by
  have h : (u >>> 52).toNat < 4096 := by
    have e : (u >>> 52).toNat = u.toNat >>> 52 := UInt64.toNat_shiftRight u 52
    rw [e, Nat.shiftRight_eq_div_pow]
    have := u.toNat_lt
    omega
  have e : (u >>> 52).toInt64.toInt = ((u >>> 52).toNat : Int) := by
    show (u >>> 52).toBitVec.toInt = _
    rw [BitVec.toInt_eq_toNat_of_lt (by show 2 * (u >>> 52).toNat < 2 ^ 64; omega)]
    rfl
  omega
section JR8
variable {l : Launch} {E : JE} {i : JI} {d n : Nat} {Qr : Option JV → JM → Prop} {Qx : String → JM → Prop} {pc : Nat} {L st : List JV} {σ : JM}
theorem V.lushr52 {x : Int} (hd : decode i.2.1 pc = .ok (.lushr, 1)) (k : ∀ z : Int, 0 ≤ z ∧ z < 4096 → V l E i d n Qr Qx (pc + 1) L ((1, z) :: st) σ) : V l E i d n Qr Qx pc L ((0, 52) :: (1, x) :: st) σ := by
  obtain ⟨r, hr⟩ : ∃ r : Int64, ((jL x).toUInt64 >>> ((jI 52).toInt64.toUInt64 &&& Int64.toUInt64 63)).toInt64 = r := ⟨_, rfl⟩
  have hb : 0 ≤ r.toInt ∧ r.toInt < 4096 := by
    rw [← hr, show ((jI 52).toInt64.toUInt64 &&& Int64.toUInt64 63) = 52 by decide +kernel]
    exact ush52 _
  have hz : jrL r.toInt := ⟨by omega, by omega⟩
  refine V.op (fun _ h => ok_cs (v := (1, r.toInt)) hz (ok_tl (ok_tl h))) (fun hF _ w => lv_lushr hF.1 hF.2.1 hd hr ?_) (k _ hb)
  rw [List.map_cons, jtr1, show jL r.toInt = r from Int64.ofInt_toInt _] at w
  exact w
end JR8
theorem sp_X0_placeOf {σ : JM} {key : Int} (hg : 0 ≤ σ 6 4 ∧ σ 6 4 ≤ 1000000) : JSp mX0_placeOf 0 0 [(2, 6), (1, key)] σ (jrp (fun r => 0 ≤ r ∧ r < 4096) σ) jno := by
  refine JSp.of [(2, 6), (1, key), (9, 0), (9, 0), (9, 0), (9, 0), (9, 0)] rfl (by decide +kernel) rfl rfl rfl (fun l E hA => ?_)
  have loop : ∀ (m : Nat) (z f o : Int), 0 ≤ z → z < 4096 → 0 ≤ f → f < 4096 → -1 ≤ o → o ≤ 7 → o + 1 < m → V l E mX0_placeOf 0 0 (jrp (fun r => 0 ≤ r ∧ r < 4096) σ) jno 21 [(2, 6), (1, key), (9, 0), (0, z), (0, f), (0, o), (9, 0)] [] σ := by
    intro m
    induction m with
    | zero => intro z f o z0 z1 f0 f1 o0 o1 o2; omega
    | succ m ih =>
      intro z f o z0 z1 f0 f1 o0 o1 o2
      have q0 := Int.emod_nonneg (z + o) (show (4096 : Int) ≠ 0 by decide)
      have q1 := Int.emod_lt_of_pos (z + o) (show (0 : Int) < 4096 by decide)
      refine V.iload dX0_placeOf_21 rfl ?_
      refine V.if_lt (tgt := 80) dX0_placeOf_23 (by decide) (fun h23 => ?_) (fun h23 => ?_)
      · refine V.iload dX0_placeOf_80 rfl ?_
        exact V.iret (jret_i dX0_placeOf_82 rfl) ⟨_, rfl, ⟨f0, f1⟩, rfl⟩
      · refine V.iload_n dX0_placeOf_26 rfl ?_
        refine V.iload dX0_placeOf_27 rfl ?_
        refine V.iadd dX0_placeOf_29 ⟨(by omega), (by omega)⟩ ?_
        refine V.sipush dX0_placeOf_30 ⟨by decide, by decide⟩ ?_
        refine V.iand4096 dX0_placeOf_33 ?_
        refine V.istore (L' := [_, _, _, _, _, _, _]) dX0_placeOf_34 rfl rfl ?_
        refine V.aload_n dX0_placeOf_36 rfl ?_
        refine V.getR fa_X0_15 rfl dX0_placeOf_37 ?_
        refine V.iload dX0_placeOf_40 rfl ?_
        refine V.lald (cell := 32) 0 rfl rfl rfl rfl dX0_placeOf_42 (by omega) (by omega) (fun _ => ?_)
        refine V.lload_n dX0_placeOf_43 rfl ?_
        refine V.lcmp dX0_placeOf_44 ?_
        refine V.if_ne (tgt := 51) dX0_placeOf_45 (by decide) (fun h45 => ?_) (fun h45 => ?_)
        · refine V.aload_n dX0_placeOf_51 rfl ?_
          refine V.getR fa_X0_15 rfl dX0_placeOf_52 ?_
          refine V.iload dX0_placeOf_55 rfl ?_
          refine V.lald (cell := 32) 0 rfl rfl rfl rfl dX0_placeOf_57 (by omega) (by omega) (fun _ => ?_)
          refine V.aload_n dX0_placeOf_58 rfl ?_
          refine V.getL fa_X0_22 rfl dX0_placeOf_59 (fun _ => ?_)
          refine V.ldc2 (x := 8000000) dX0_placeOf_62 ⟨by decide, by decide⟩ (by have h := kg1256; rwa [show (8000000 : Int64) = jL (8000000) by decide +kernel] at h) ?_
          refine V.lmul dX0_placeOf_65 ⟨(by omega), (by omega)⟩ ?_
          refine V.lcmp dX0_placeOf_66 ?_
          refine V.if_ge (tgt := 74) dX0_placeOf_67 (by decide) (fun h67 => ?_) (fun h67 => ?_)
          · refine V.iinc (L' := [_, _, _, _, _, _, _]) dX0_placeOf_74 rfl ⟨(by omega), (by omega)⟩ rfl ?_
            refine V.goto (tgt := 21) dX0_placeOf_77 (by decide) ?_
            refine V.fg [6] rfl ?_
            first
            | exact ih z _ _ z0 z1 q0 q1 (by omega) (by omega) (by omega)
            | exact ih z f _ z0 z1 f0 f1 (by omega) (by omega) (by omega)
          · refine V.iload dX0_placeOf_70 rfl ?_
            refine V.istore (L' := [_, _, _, _, _, _, _]) dX0_placeOf_72 rfl rfl ?_
            refine V.iinc (L' := [_, _, _, _, _, _, _]) dX0_placeOf_74 rfl ⟨(by omega), (by omega)⟩ rfl ?_
            refine V.goto (tgt := 21) dX0_placeOf_77 (by decide) ?_
            refine V.fg [6] rfl ?_
            first
            | exact ih z _ _ z0 z1 q0 q1 (by omega) (by omega) (by omega)
            | exact ih z f _ z0 z1 f0 f1 (by omega) (by omega) (by omega)
        · refine V.iload dX0_placeOf_48 rfl ?_
          exact V.iret (jret_i dX0_placeOf_50 rfl) ⟨_, rfl, ⟨q0, q1⟩, rfl⟩
  refine V.lload_n dX0_placeOf_0 rfl ?_
  refine V.ldc2 (x := -7046029254386353131) dX0_placeOf_1 ⟨by decide, by decide⟩ (by have h := kg1255; rwa [show (-7046029254386353131 : Int64) = jL (-7046029254386353131) by decide +kernel] at h) ?_
  refine V.lmulA dX0_placeOf_4 (fun y yr => ?_)
  refine V.bipush dX0_placeOf_5 ⟨by decide, by decide⟩ ?_
  refine V.lushr52 dX0_placeOf_7 (fun z zr => ?_)
  refine V.l2i dX0_placeOf_8 ⟨(by omega), (by omega)⟩ ?_
  refine V.istore_n (L' := [_, _, _, _, _, _, _]) dX0_placeOf_9 rfl rfl ?_
  refine V.iload_n dX0_placeOf_10 rfl ?_
  refine V.sipush dX0_placeOf_11 ⟨by decide, by decide⟩ ?_
  refine V.iand4096 dX0_placeOf_14 ?_
  refine V.istore (L' := [_, _, _, _, _, _, _]) dX0_placeOf_15 rfl rfl ?_
  refine V.bipush dX0_placeOf_17 ⟨by decide, by decide⟩ ?_
  refine V.istore (L' := [_, _, _, _, _, _, _]) dX0_placeOf_19 rfl rfl ?_
  exact loop 9 z _ 7 zr.1 zr.2 (Int.emod_nonneg z (by decide)) (Int.emod_lt_of_pos z (by decide)) (by decide) (by decide) (by decide)
theorem sp_X0_limited {σ : JM} {v : Int} (hv : 0 ≤ v) : JSp mX0_limited 1 0 [(1, v)] σ (jrv (min v 1000000) σ) jno := by
  refine JSp.of [(1, v), (9, 0)] rfl (by decide +kernel) rfl rfl rfl (fun l E hA => ?_)
  refine V.lload_n dX0_limited_0 rfl ?_
  refine V.ldc2 (x := 1000000) dX0_limited_1 ⟨by decide, by decide⟩ (by have h := kg1229; rwa [show (1000000 : Int64) = jL (1000000) by decide +kernel] at h) ?_
  refine V.mminL dX0_limited_4 kg1230 kg1231 kg23 kg1232 (by omega) rfl ?_
  refine V.l2i dX0_limited_7 ⟨(by omega), (by omega)⟩ ?_
  exact V.iret (jret_i dX0_limited_8 rfl) ⟨rfl, rfl⟩
