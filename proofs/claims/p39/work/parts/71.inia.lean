/-! ===== the constructors ===== -/
section JNEW
variable {p : Program} {l : Launch} {e : Env} {R : Room} {s : State} {m : MethodId} {args : Array Value} {below : List Frame} {meth : Method} {c : Code} {H H0 : Heap} {locs : List Loc} {cells slots : Nat} {Q : State → Prop} {A : Nat → Prop} {cc : ByteArray} {D : va_G} {cl : List vw_C} {tys : List (ClassId × FieldType)} {ws : va_W} {pc : Nat} {ls : Array Slot} {rest : List Value}
theorem jnewa (hexec : p.tables.exec = Jvm.exec) (hb : c.code = cc) {atype : ArrayType} (harr : (Cond.arrayClass (newarray.typeOf atype)).before args s = true) {ty : FieldType} (hty : newarray.typeOf atype = ty) {nm : String} (hR : ∀ cA, va_RA s cA ty = (s.vm.findClass nm = some cA)) {k0 : Nat} {kA : ClassId} (hK : va_K D cl tys s) (hk : tys[k0]? = some (kA, ty)) (hP : va_P D cl ws H) (hD : va_D A ws) (hS : va_S A H0 H locs) (hA : ∀ q, H0.size ≤ q → A q)
    {n : Int32} {N' : Nat} {a0 : vp_A} (ha : ∀ cA : ClassId, vp_cell cA a0 = arrV cA N' (fun _ => defaultValue ty)) (hn : ¬ n < 0) (hN : n.toNatClampNeg = N') (hbytes : N' * componentBytes ty ≤ 536870912) (hcells : cells + 1 ≤ R.cells) (hslots : slots + N' ≤ R.slots) (hdg : decode cc pc = .ok (.newarray atype, 2))
    (kk : ∀ (q : Nat) (H1 : Heap), va_P D cl (ws ++ [(q, .inl (kA, a0))]) H1 → va_D A (ws ++ [(q, .inl (kA, a0))]) → va_S A H0 H1 locs →
      W p l e R s m args below meth c H1 locs (cells + 1) (slots + N') Q (F0 m (pc + 2) ls (.ref q :: rest))) : W p l e R s m args below meth c H locs cells slots Q (F0 m pc ls (.int n :: rest)) := by
  refine va_newa hexec hb harr hty hK hP hD hS hA ha hn hN hbytes hcells hslots hdg (fun q cA H1 hK1 hP1 hD1 hS1 => ?_)
  have e1 := (hK.2 k0 (kA, ty) hk).2
  have e2 := (hK1.2 tys.length (cA, ty) (by rw [List.getElem?_append_right (Nat.le_refl _), Nat.sub_self]; rfl)).2
  rw [hR] at e1 e2
  have e3 : cA = kA := Option.some.inj (e2.symm.trans e1)
  subst e3
  exact kk q H1 hP1 hD1 hS1
end JNEW
/-- the cells that MacroBench$Source makes -/
def cW5 (kT : Nat → ClassId) (ad : Nat → Nat) : va_W := [(ad 1, .inr (5, [.ref (ad 8), .ref (ad 9), .ref (ad 10), .ref (ad 11), .ref (ad 12), .ref (ad 13), .ref (ad 14), .int (jI 0), .int (jI 0), .int (jI 0), .int (jI 0)])), (ad 8, .inl (kT 0, 80, .inl (fun _ => jI 0))), (ad 9, .inl (kT 0, 80, .inl (fun _ => jI 0))), (ad 10, .inl (kT 0, 80, .inl (fun _ => jI 0))), (ad 11, .inl (kT 0, 80, .inl (fun _ => jI 0))), (ad 12, .inl (kT 0, 80, .inl (fun _ => jI 0))), (ad 13, .inl (kT 0, 80, .inl (fun _ => jI 0))), (ad 14, .inl (kT 0, 8, .inl (fun _ => jI 0)))]
set_option maxHeartbeats 4000000 in
set_option maxRecDepth 100000 in
theorem cc_5 (l : Launch) (D : va_G) (kT : Nat → ClassId) (h0 sz : Nat) : Met l yX5_init (Cond.code yX5_init cX5_init 1 none :: jG) ({ frames := 1, cells := 7, slots := 488, locals := 46 }) (va_Pc [.ref h0] (fun U => U.heap.size = sz ∧ va_P D jcl [(h0, .inr (5, [.null, .null, .null, .null, .null, .null, .null, .int (jI 0), .int (jI 0), .int (jI 0), .int (jI 0)]))] U.heap ∧ va_K D jcl [(kT 0, .int), (kT 1, .long), (kT 2, .boolean)] U ∧ va_D (fun _ => True) [(h0, .inr (5, [.null, .null, .null, .null, .null, .null, .null, .int (jI 0), .int (jI 0), .int (jI 0), .int (jI 0)]))])) (va_Qv (fun ad : Nat → Nat => ad 1 = h0) (fun ad t => va_P D jcl (cW5 kT ad) t.heap ∧ va_K D jcl [(kT 0, .int), (kT 1, .long), (kT 2, .boolean)] t ∧ va_D (va_A [(h0, .inr (5, [.null, .null, .null, .null, .null, .null, .null, .int (jI 0), .int (jI 0), .int (jI 0), .int (jI 0)]))] sz) (cW5 kT ad)) (va_A [(h0, .inr (5, [.null, .null, .null, .null, .null, .null, .null, .int (jI 0), .int (jI 0), .int (jI 0), .int (jI 0)]))] sz)) 7 488 (va_A [(h0, .inr (5, [.null, .null, .null, .null, .null, .null, .null, .int (jI 0), .int (jI 0), .int (jI 0), .int (jI 0)]))] sz) := by
  refine Met.ofW (cc := cX5_init) (maxL := 1) (ret := none) (by decide) rfl ?_
  intro p e s m args below meth c s₁ B hml hv
  obtain ⟨rfl, hsz, hP, hK, hD0⟩ := hv
  have hx := B.exec
  have hb := B.bytes
  have hr := B.returns
  have hts0 := atoms_spec (ws := Cond.code yX5_init cX5_init 1 none :: jG) B.pre
  have hts : ∀ w ∈ jG, w.before _ s = true := fun w hw => hts0 w (List.mem_cons_of_mem _ hw)
  have hown : s.vm.findClass RX5 = some m.cls := findClass_of_methodNamed B.named
  have hlocks := B.notSynchronized
  have hin : meth.name = "<init>" := (name_of_methodNamed B.named B.method).1
  subst hsz
  have hD := hD0.self (sz := s.heap.size)
  generalize hAe : va_A [(h0, .inr (5, [.null, .null, .null, .null, .null, .null, .null, .int (jI 0), .int (jI 0), .int (jI 0), .int (jI 0)]))] s.heap.size = A at hD ⊢
  have hA : ∀ q : Nat, s.heap.size ≤ q → A q := fun q h => by rw [← hAe]; exact Or.inr h
  have hS : va_S A s.heap s.heap [] := va_S.rf
  have hl := lv_entry ([.ref h0]) (n := 1) (Nat.le_of_ble_eq_true rfl)
  rw [lg_entry_eq]
  generalize (lg_sl ([.ref h0]) ++ List.replicate (1 - (lg_sl ([.ref h0])).length) Slot.unset).toArray = ls at hl ⊢
  have hl : lv_has ls 1 [(0, .ref h0)] := hl
  refine lv_aload_n hx hb dX5_init_0 rfl (lv_at hl 0 rfl) ?_
  refine W.objInit hx hb hown (hts (.methodLink RX5 3 objectInit) kg43) (hts (.instanceMethod objectInit) kg36) (hts _ kg37) rfl (by rw [hml]; exact hl.1) rfl dX5_init_1 (Nat.le_of_ble_eq_true rfl) (Nat.le_of_ble_eq_true rfl) ?_
  refine W.eq (g2 := F0 m 4 ls []) rfl ?_
  refine lv_aload_n hx hb dX5_init_4 rfl (lv_at hl 0 rfl) ?_
  refine lv_bipush hx hb dX5_init_5 (jc_int (by decide) (by decide)) ?_
  refine jnewa (atype := .int) (ty := .int) (k0 := 0) (kA := kT 0) hx hb (hts _ kg78) rfl (fun _ => rfl) hK rfl hP hD hS hA (N' := 80) (a0 := (80, .inl (fun _ => jI 0))) (fun _ => rfl) (by decide) (by decide) (Nat.le_of_ble_eq_true rfl) (Nat.le_of_ble_eq_true rfl) (Nat.le_of_ble_eq_true rfl) dX5_init_7 (fun q8 H hP hD hS => ?_)
  have hP : va_P D jcl [(h0, .inr (5, [.null, .null, .null, .null, .null, .null, .null, .int (jI 0), .int (jI 0), .int (jI 0), .int (jI 0)])), (q8, .inl (kT 0, 80, .inl (fun _ => jI 0)))] H := hP
  have hD : va_D A [(h0, .inr (5, [.null, .null, .null, .null, .null, .null, .null, .int (jI 0), .int (jI 0), .int (jI 0), .int (jI 0)])), (q8, .inl (kT 0, 80, .inl (fun _ => jI 0)))] := hD
  refine va_putF (D := D) (ci := 5) (v := .ref q8) (ty := tyX5 0) (C := RX5) (T := TX5) (N := 11) hx hb hts jin5 tyX5 tyX5_ok nmX5 hown hK hP hD hS 0 rfl rfl 0 (by decide) (hts (.fieldLink RX5 9 "MacroBench$Source" "kinds" "[I") kg44) (fun _ h9 => h9) rfl hin rfl (tyX5_ok 0 (by decide)) rfl rfl (Nat.le_of_ble_eq_true rfl) dX5_init_9 (fun H locs hP hD hS => ?_)
  have hP : va_P D jcl [(h0, .inr (5, [.ref q8, .null, .null, .null, .null, .null, .null, .int (jI 0), .int (jI 0), .int (jI 0), .int (jI 0)])), (q8, .inl (kT 0, 80, .inl (fun _ => jI 0)))] H := hP
  have hD : va_D A [(h0, .inr (5, [.ref q8, .null, .null, .null, .null, .null, .null, .int (jI 0), .int (jI 0), .int (jI 0), .int (jI 0)])), (q8, .inl (kT 0, 80, .inl (fun _ => jI 0)))] := hD
  refine lv_aload_n hx hb dX5_init_12 rfl (lv_at hl 0 rfl) ?_
  refine lv_bipush hx hb dX5_init_13 (jc_int (by decide) (by decide)) ?_
  refine jnewa (atype := .int) (ty := .int) (k0 := 0) (kA := kT 0) hx hb (hts _ kg78) rfl (fun _ => rfl) hK rfl hP hD hS hA (N' := 80) (a0 := (80, .inl (fun _ => jI 0))) (fun _ => rfl) (by decide) (by decide) (Nat.le_of_ble_eq_true rfl) (Nat.le_of_ble_eq_true rfl) (Nat.le_of_ble_eq_true rfl) dX5_init_15 (fun q9 H hP hD hS => ?_)
  have hP : va_P D jcl [(h0, .inr (5, [.ref q8, .null, .null, .null, .null, .null, .null, .int (jI 0), .int (jI 0), .int (jI 0), .int (jI 0)])), (q8, .inl (kT 0, 80, .inl (fun _ => jI 0))), (q9, .inl (kT 0, 80, .inl (fun _ => jI 0)))] H := hP
  have hD : va_D A [(h0, .inr (5, [.ref q8, .null, .null, .null, .null, .null, .null, .int (jI 0), .int (jI 0), .int (jI 0), .int (jI 0)])), (q8, .inl (kT 0, 80, .inl (fun _ => jI 0))), (q9, .inl (kT 0, 80, .inl (fun _ => jI 0)))] := hD
  refine va_putF (D := D) (ci := 5) (v := .ref q9) (ty := tyX5 1) (C := RX5) (T := TX5) (N := 11) hx hb hts jin5 tyX5 tyX5_ok nmX5 hown hK hP hD hS 0 rfl rfl 1 (by decide) (hts (.fieldLink RX5 15 "MacroBench$Source" "firsts" "[I") kg45) (fun _ h9 => h9) rfl hin rfl (tyX5_ok 1 (by decide)) rfl rfl (Nat.le_of_ble_eq_true rfl) dX5_init_17 (fun H locs hP hD hS => ?_)
  have hP : va_P D jcl [(h0, .inr (5, [.ref q8, .ref q9, .null, .null, .null, .null, .null, .int (jI 0), .int (jI 0), .int (jI 0), .int (jI 0)])), (q8, .inl (kT 0, 80, .inl (fun _ => jI 0))), (q9, .inl (kT 0, 80, .inl (fun _ => jI 0)))] H := hP
  have hD : va_D A [(h0, .inr (5, [.ref q8, .ref q9, .null, .null, .null, .null, .null, .int (jI 0), .int (jI 0), .int (jI 0), .int (jI 0)])), (q8, .inl (kT 0, 80, .inl (fun _ => jI 0))), (q9, .inl (kT 0, 80, .inl (fun _ => jI 0)))] := hD
  refine lv_aload_n hx hb dX5_init_20 rfl (lv_at hl 0 rfl) ?_
  refine lv_bipush hx hb dX5_init_21 (jc_int (by decide) (by decide)) ?_
  refine jnewa (atype := .int) (ty := .int) (k0 := 0) (kA := kT 0) hx hb (hts _ kg78) rfl (fun _ => rfl) hK rfl hP hD hS hA (N' := 80) (a0 := (80, .inl (fun _ => jI 0))) (fun _ => rfl) (by decide) (by decide) (Nat.le_of_ble_eq_true rfl) (Nat.le_of_ble_eq_true rfl) (Nat.le_of_ble_eq_true rfl) dX5_init_23 (fun q10 H hP hD hS => ?_)
  have hP : va_P D jcl [(h0, .inr (5, [.ref q8, .ref q9, .null, .null, .null, .null, .null, .int (jI 0), .int (jI 0), .int (jI 0), .int (jI 0)])), (q8, .inl (kT 0, 80, .inl (fun _ => jI 0))), (q9, .inl (kT 0, 80, .inl (fun _ => jI 0))), (q10, .inl (kT 0, 80, .inl (fun _ => jI 0)))] H := hP
  have hD : va_D A [(h0, .inr (5, [.ref q8, .ref q9, .null, .null, .null, .null, .null, .int (jI 0), .int (jI 0), .int (jI 0), .int (jI 0)])), (q8, .inl (kT 0, 80, .inl (fun _ => jI 0))), (q9, .inl (kT 0, 80, .inl (fun _ => jI 0))), (q10, .inl (kT 0, 80, .inl (fun _ => jI 0)))] := hD
  refine va_putF (D := D) (ci := 5) (v := .ref q10) (ty := tyX5 2) (C := RX5) (T := TX5) (N := 11) hx hb hts jin5 tyX5 tyX5_ok nmX5 hown hK hP hD hS 0 rfl rfl 2 (by decide) (hts (.fieldLink RX5 18 "MacroBench$Source" "seconds" "[I") kg46) (fun _ h9 => h9) rfl hin rfl (tyX5_ok 2 (by decide)) rfl rfl (Nat.le_of_ble_eq_true rfl) dX5_init_25 (fun H locs hP hD hS => ?_)
  have hP : va_P D jcl [(h0, .inr (5, [.ref q8, .ref q9, .ref q10, .null, .null, .null, .null, .int (jI 0), .int (jI 0), .int (jI 0), .int (jI 0)])), (q8, .inl (kT 0, 80, .inl (fun _ => jI 0))), (q9, .inl (kT 0, 80, .inl (fun _ => jI 0))), (q10, .inl (kT 0, 80, .inl (fun _ => jI 0)))] H := hP
  have hD : va_D A [(h0, .inr (5, [.ref q8, .ref q9, .ref q10, .null, .null, .null, .null, .int (jI 0), .int (jI 0), .int (jI 0), .int (jI 0)])), (q8, .inl (kT 0, 80, .inl (fun _ => jI 0))), (q9, .inl (kT 0, 80, .inl (fun _ => jI 0))), (q10, .inl (kT 0, 80, .inl (fun _ => jI 0)))] := hD
  refine lv_aload_n hx hb dX5_init_28 rfl (lv_at hl 0 rfl) ?_
  refine lv_bipush hx hb dX5_init_29 (jc_int (by decide) (by decide)) ?_
  refine jnewa (atype := .int) (ty := .int) (k0 := 0) (kA := kT 0) hx hb (hts _ kg78) rfl (fun _ => rfl) hK rfl hP hD hS hA (N' := 80) (a0 := (80, .inl (fun _ => jI 0))) (fun _ => rfl) (by decide) (by decide) (Nat.le_of_ble_eq_true rfl) (Nat.le_of_ble_eq_true rfl) (Nat.le_of_ble_eq_true rfl) dX5_init_31 (fun q11 H hP hD hS => ?_)
  have hP : va_P D jcl [(h0, .inr (5, [.ref q8, .ref q9, .ref q10, .null, .null, .null, .null, .int (jI 0), .int (jI 0), .int (jI 0), .int (jI 0)])), (q8, .inl (kT 0, 80, .inl (fun _ => jI 0))), (q9, .inl (kT 0, 80, .inl (fun _ => jI 0))), (q10, .inl (kT 0, 80, .inl (fun _ => jI 0))), (q11, .inl (kT 0, 80, .inl (fun _ => jI 0)))] H := hP
  have hD : va_D A [(h0, .inr (5, [.ref q8, .ref q9, .ref q10, .null, .null, .null, .null, .int (jI 0), .int (jI 0), .int (jI 0), .int (jI 0)])), (q8, .inl (kT 0, 80, .inl (fun _ => jI 0))), (q9, .inl (kT 0, 80, .inl (fun _ => jI 0))), (q10, .inl (kT 0, 80, .inl (fun _ => jI 0))), (q11, .inl (kT 0, 80, .inl (fun _ => jI 0)))] := hD
  refine va_putF (D := D) (ci := 5) (v := .ref q11) (ty := tyX5 3) (C := RX5) (T := TX5) (N := 11) hx hb hts jin5 tyX5 tyX5_ok nmX5 hown hK hP hD hS 0 rfl rfl 3 (by decide) (hts (.fieldLink RX5 21 "MacroBench$Source" "fixeds" "[I") kg47) (fun _ h9 => h9) rfl hin rfl (tyX5_ok 3 (by decide)) rfl rfl (Nat.le_of_ble_eq_true rfl) dX5_init_33 (fun H locs hP hD hS => ?_)
  have hP : va_P D jcl [(h0, .inr (5, [.ref q8, .ref q9, .ref q10, .ref q11, .null, .null, .null, .int (jI 0), .int (jI 0), .int (jI 0), .int (jI 0)])), (q8, .inl (kT 0, 80, .inl (fun _ => jI 0))), (q9, .inl (kT 0, 80, .inl (fun _ => jI 0))), (q10, .inl (kT 0, 80, .inl (fun _ => jI 0))), (q11, .inl (kT 0, 80, .inl (fun _ => jI 0)))] H := hP
  have hD : va_D A [(h0, .inr (5, [.ref q8, .ref q9, .ref q10, .ref q11, .null, .null, .null, .int (jI 0), .int (jI 0), .int (jI 0), .int (jI 0)])), (q8, .inl (kT 0, 80, .inl (fun _ => jI 0))), (q9, .inl (kT 0, 80, .inl (fun _ => jI 0))), (q10, .inl (kT 0, 80, .inl (fun _ => jI 0))), (q11, .inl (kT 0, 80, .inl (fun _ => jI 0)))] := hD
  refine lv_aload_n hx hb dX5_init_36 rfl (lv_at hl 0 rfl) ?_
  refine lv_bipush hx hb dX5_init_37 (jc_int (by decide) (by decide)) ?_
  refine jnewa (atype := .int) (ty := .int) (k0 := 0) (kA := kT 0) hx hb (hts _ kg78) rfl (fun _ => rfl) hK rfl hP hD hS hA (N' := 80) (a0 := (80, .inl (fun _ => jI 0))) (fun _ => rfl) (by decide) (by decide) (Nat.le_of_ble_eq_true rfl) (Nat.le_of_ble_eq_true rfl) (Nat.le_of_ble_eq_true rfl) dX5_init_39 (fun q12 H hP hD hS => ?_)
  have hP : va_P D jcl [(h0, .inr (5, [.ref q8, .ref q9, .ref q10, .ref q11, .null, .null, .null, .int (jI 0), .int (jI 0), .int (jI 0), .int (jI 0)])), (q8, .inl (kT 0, 80, .inl (fun _ => jI 0))), (q9, .inl (kT 0, 80, .inl (fun _ => jI 0))), (q10, .inl (kT 0, 80, .inl (fun _ => jI 0))), (q11, .inl (kT 0, 80, .inl (fun _ => jI 0))), (q12, .inl (kT 0, 80, .inl (fun _ => jI 0)))] H := hP
  have hD : va_D A [(h0, .inr (5, [.ref q8, .ref q9, .ref q10, .ref q11, .null, .null, .null, .int (jI 0), .int (jI 0), .int (jI 0), .int (jI 0)])), (q8, .inl (kT 0, 80, .inl (fun _ => jI 0))), (q9, .inl (kT 0, 80, .inl (fun _ => jI 0))), (q10, .inl (kT 0, 80, .inl (fun _ => jI 0))), (q11, .inl (kT 0, 80, .inl (fun _ => jI 0))), (q12, .inl (kT 0, 80, .inl (fun _ => jI 0)))] := hD
  refine va_putF (D := D) (ci := 5) (v := .ref q12) (ty := tyX5 4) (C := RX5) (T := TX5) (N := 11) hx hb hts jin5 tyX5 tyX5_ok nmX5 hown hK hP hD hS 0 rfl rfl 4 (by decide) (hts (.fieldLink RX5 24 "MacroBench$Source" "partners" "[I") kg48) (fun _ h9 => h9) rfl hin rfl (tyX5_ok 4 (by decide)) rfl rfl (Nat.le_of_ble_eq_true rfl) dX5_init_41 (fun H locs hP hD hS => ?_)
  have hP : va_P D jcl [(h0, .inr (5, [.ref q8, .ref q9, .ref q10, .ref q11, .ref q12, .null, .null, .int (jI 0), .int (jI 0), .int (jI 0), .int (jI 0)])), (q8, .inl (kT 0, 80, .inl (fun _ => jI 0))), (q9, .inl (kT 0, 80, .inl (fun _ => jI 0))), (q10, .inl (kT 0, 80, .inl (fun _ => jI 0))), (q11, .inl (kT 0, 80, .inl (fun _ => jI 0))), (q12, .inl (kT 0, 80, .inl (fun _ => jI 0)))] H := hP
  have hD : va_D A [(h0, .inr (5, [.ref q8, .ref q9, .ref q10, .ref q11, .ref q12, .null, .null, .int (jI 0), .int (jI 0), .int (jI 0), .int (jI 0)])), (q8, .inl (kT 0, 80, .inl (fun _ => jI 0))), (q9, .inl (kT 0, 80, .inl (fun _ => jI 0))), (q10, .inl (kT 0, 80, .inl (fun _ => jI 0))), (q11, .inl (kT 0, 80, .inl (fun _ => jI 0))), (q12, .inl (kT 0, 80, .inl (fun _ => jI 0)))] := hD
  refine lv_aload_n hx hb dX5_init_44 rfl (lv_at hl 0 rfl) ?_
  refine lv_bipush hx hb dX5_init_45 (jc_int (by decide) (by decide)) ?_
  refine jnewa (atype := .int) (ty := .int) (k0 := 0) (kA := kT 0) hx hb (hts _ kg78) rfl (fun _ => rfl) hK rfl hP hD hS hA (N' := 80) (a0 := (80, .inl (fun _ => jI 0))) (fun _ => rfl) (by decide) (by decide) (Nat.le_of_ble_eq_true rfl) (Nat.le_of_ble_eq_true rfl) (Nat.le_of_ble_eq_true rfl) dX5_init_47 (fun q13 H hP hD hS => ?_)
  have hP : va_P D jcl [(h0, .inr (5, [.ref q8, .ref q9, .ref q10, .ref q11, .ref q12, .null, .null, .int (jI 0), .int (jI 0), .int (jI 0), .int (jI 0)])), (q8, .inl (kT 0, 80, .inl (fun _ => jI 0))), (q9, .inl (kT 0, 80, .inl (fun _ => jI 0))), (q10, .inl (kT 0, 80, .inl (fun _ => jI 0))), (q11, .inl (kT 0, 80, .inl (fun _ => jI 0))), (q12, .inl (kT 0, 80, .inl (fun _ => jI 0))), (q13, .inl (kT 0, 80, .inl (fun _ => jI 0)))] H := hP
  have hD : va_D A [(h0, .inr (5, [.ref q8, .ref q9, .ref q10, .ref q11, .ref q12, .null, .null, .int (jI 0), .int (jI 0), .int (jI 0), .int (jI 0)])), (q8, .inl (kT 0, 80, .inl (fun _ => jI 0))), (q9, .inl (kT 0, 80, .inl (fun _ => jI 0))), (q10, .inl (kT 0, 80, .inl (fun _ => jI 0))), (q11, .inl (kT 0, 80, .inl (fun _ => jI 0))), (q12, .inl (kT 0, 80, .inl (fun _ => jI 0))), (q13, .inl (kT 0, 80, .inl (fun _ => jI 0)))] := hD
  refine va_putF (D := D) (ci := 5) (v := .ref q13) (ty := tyX5 5) (C := RX5) (T := TX5) (N := 11) hx hb hts jin5 tyX5 tyX5_ok nmX5 hown hK hP hD hS 0 rfl rfl 5 (by decide) (hts (.fieldLink RX5 27 "MacroBench$Source" "openGroups" "[I") kg49) (fun _ h9 => h9) rfl hin rfl (tyX5_ok 5 (by decide)) rfl rfl (Nat.le_of_ble_eq_true rfl) dX5_init_49 (fun H locs hP hD hS => ?_)
  have hP : va_P D jcl [(h0, .inr (5, [.ref q8, .ref q9, .ref q10, .ref q11, .ref q12, .ref q13, .null, .int (jI 0), .int (jI 0), .int (jI 0), .int (jI 0)])), (q8, .inl (kT 0, 80, .inl (fun _ => jI 0))), (q9, .inl (kT 0, 80, .inl (fun _ => jI 0))), (q10, .inl (kT 0, 80, .inl (fun _ => jI 0))), (q11, .inl (kT 0, 80, .inl (fun _ => jI 0))), (q12, .inl (kT 0, 80, .inl (fun _ => jI 0))), (q13, .inl (kT 0, 80, .inl (fun _ => jI 0)))] H := hP
  have hD : va_D A [(h0, .inr (5, [.ref q8, .ref q9, .ref q10, .ref q11, .ref q12, .ref q13, .null, .int (jI 0), .int (jI 0), .int (jI 0), .int (jI 0)])), (q8, .inl (kT 0, 80, .inl (fun _ => jI 0))), (q9, .inl (kT 0, 80, .inl (fun _ => jI 0))), (q10, .inl (kT 0, 80, .inl (fun _ => jI 0))), (q11, .inl (kT 0, 80, .inl (fun _ => jI 0))), (q12, .inl (kT 0, 80, .inl (fun _ => jI 0))), (q13, .inl (kT 0, 80, .inl (fun _ => jI 0)))] := hD
  refine lv_aload_n hx hb dX5_init_52 rfl (lv_at hl 0 rfl) ?_
  refine lv_bipush hx hb dX5_init_53 (jc_int (by decide) (by decide)) ?_
  refine jnewa (atype := .int) (ty := .int) (k0 := 0) (kA := kT 0) hx hb (hts _ kg78) rfl (fun _ => rfl) hK rfl hP hD hS hA (N' := 8) (a0 := (8, .inl (fun _ => jI 0))) (fun _ => rfl) (by decide) (by decide) (Nat.le_of_ble_eq_true rfl) (Nat.le_of_ble_eq_true rfl) (Nat.le_of_ble_eq_true rfl) dX5_init_55 (fun q14 H hP hD hS => ?_)
  have hP : va_P D jcl [(h0, .inr (5, [.ref q8, .ref q9, .ref q10, .ref q11, .ref q12, .ref q13, .null, .int (jI 0), .int (jI 0), .int (jI 0), .int (jI 0)])), (q8, .inl (kT 0, 80, .inl (fun _ => jI 0))), (q9, .inl (kT 0, 80, .inl (fun _ => jI 0))), (q10, .inl (kT 0, 80, .inl (fun _ => jI 0))), (q11, .inl (kT 0, 80, .inl (fun _ => jI 0))), (q12, .inl (kT 0, 80, .inl (fun _ => jI 0))), (q13, .inl (kT 0, 80, .inl (fun _ => jI 0))), (q14, .inl (kT 0, 8, .inl (fun _ => jI 0)))] H := hP
  have hD : va_D A [(h0, .inr (5, [.ref q8, .ref q9, .ref q10, .ref q11, .ref q12, .ref q13, .null, .int (jI 0), .int (jI 0), .int (jI 0), .int (jI 0)])), (q8, .inl (kT 0, 80, .inl (fun _ => jI 0))), (q9, .inl (kT 0, 80, .inl (fun _ => jI 0))), (q10, .inl (kT 0, 80, .inl (fun _ => jI 0))), (q11, .inl (kT 0, 80, .inl (fun _ => jI 0))), (q12, .inl (kT 0, 80, .inl (fun _ => jI 0))), (q13, .inl (kT 0, 80, .inl (fun _ => jI 0))), (q14, .inl (kT 0, 8, .inl (fun _ => jI 0)))] := hD
  refine va_putF (D := D) (ci := 5) (v := .ref q14) (ty := tyX5 6) (C := RX5) (T := TX5) (N := 11) hx hb hts jin5 tyX5 tyX5_ok nmX5 hown hK hP hD hS 0 rfl rfl 6 (by decide) (hts (.fieldLink RX5 30 "MacroBench$Source" "macroLines" "[I") kg50) (fun _ h9 => h9) rfl hin rfl (tyX5_ok 6 (by decide)) rfl rfl (Nat.le_of_ble_eq_true rfl) dX5_init_57 (fun H locs hP hD hS => ?_)
  have hP : va_P D jcl [(h0, .inr (5, [.ref q8, .ref q9, .ref q10, .ref q11, .ref q12, .ref q13, .ref q14, .int (jI 0), .int (jI 0), .int (jI 0), .int (jI 0)])), (q8, .inl (kT 0, 80, .inl (fun _ => jI 0))), (q9, .inl (kT 0, 80, .inl (fun _ => jI 0))), (q10, .inl (kT 0, 80, .inl (fun _ => jI 0))), (q11, .inl (kT 0, 80, .inl (fun _ => jI 0))), (q12, .inl (kT 0, 80, .inl (fun _ => jI 0))), (q13, .inl (kT 0, 80, .inl (fun _ => jI 0))), (q14, .inl (kT 0, 8, .inl (fun _ => jI 0)))] H := hP
  have hD : va_D A [(h0, .inr (5, [.ref q8, .ref q9, .ref q10, .ref q11, .ref q12, .ref q13, .ref q14, .int (jI 0), .int (jI 0), .int (jI 0), .int (jI 0)])), (q8, .inl (kT 0, 80, .inl (fun _ => jI 0))), (q9, .inl (kT 0, 80, .inl (fun _ => jI 0))), (q10, .inl (kT 0, 80, .inl (fun _ => jI 0))), (q11, .inl (kT 0, 80, .inl (fun _ => jI 0))), (q12, .inl (kT 0, 80, .inl (fun _ => jI 0))), (q13, .inl (kT 0, 80, .inl (fun _ => jI 0))), (q14, .inl (kT 0, 8, .inl (fun _ => jI 0)))] := hD
  exact W.vret hx hb hr (fun t ht hW => ⟨⟨(fun k => if k = 1 then h0 else if k = 8 then q8 else if k = 9 then q9 else if k = 10 then q10 else if k = 11 then q11 else if k = 12 then q12 else if k = 13 then q13 else if k = 14 then q14 else 0), rfl, rfl, by rw [ht]; exact hP, va_K.moved hW.alike hK, hD⟩, hS.F ht⟩) hS.2.2 dX5_init_60
/-- the cells that MacroBench$Listing makes -/
def cW3 (kT : Nat → ClassId) (ad : Nat → Nat) : va_W := [(ad 2, .inr (3, [.ref (ad 15), .ref (ad 16), .ref (ad 17), .ref (ad 18), .ref (ad 19), .ref (ad 20), .int (jI 0), .int (jI 0)])), (ad 15, .inl (kT 0, 200, .inl (fun _ => jI 0))), (ad 16, .inl (kT 0, 200, .inl (fun _ => jI 0))), (ad 17, .inl (kT 0, 200, .inl (fun _ => jI 0))), (ad 18, .inl (kT 0, 200, .inl (fun _ => jI 0))), (ad 19, .inl (kT 0, 200, .inl (fun _ => jI 0))), (ad 20, .inl (kT 0, 200, .inl (fun _ => jI 0)))]
set_option maxHeartbeats 4000000 in
set_option maxRecDepth 100000 in
theorem cc_3 (l : Launch) (D : va_G) (kT : Nat → ClassId) (h0 sz : Nat) : Met l yX3_init (Cond.code yX3_init cX3_init 1 none :: jG) ({ frames := 1, cells := 6, slots := 1200, locals := 46 }) (va_Pc [.ref h0] (fun U => U.heap.size = sz ∧ va_P D jcl [(h0, .inr (3, [.null, .null, .null, .null, .null, .null, .int (jI 0), .int (jI 0)]))] U.heap ∧ va_K D jcl [(kT 0, .int), (kT 1, .long), (kT 2, .boolean)] U ∧ va_D (fun _ => True) [(h0, .inr (3, [.null, .null, .null, .null, .null, .null, .int (jI 0), .int (jI 0)]))])) (va_Qv (fun ad : Nat → Nat => ad 2 = h0) (fun ad t => va_P D jcl (cW3 kT ad) t.heap ∧ va_K D jcl [(kT 0, .int), (kT 1, .long), (kT 2, .boolean)] t ∧ va_D (va_A [(h0, .inr (3, [.null, .null, .null, .null, .null, .null, .int (jI 0), .int (jI 0)]))] sz) (cW3 kT ad)) (va_A [(h0, .inr (3, [.null, .null, .null, .null, .null, .null, .int (jI 0), .int (jI 0)]))] sz)) 6 1200 (va_A [(h0, .inr (3, [.null, .null, .null, .null, .null, .null, .int (jI 0), .int (jI 0)]))] sz) := by
  refine Met.ofW (cc := cX3_init) (maxL := 1) (ret := none) (by decide) rfl ?_
  intro p e s m args below meth c s₁ B hml hv
  obtain ⟨rfl, hsz, hP, hK, hD0⟩ := hv
  have hx := B.exec
  have hb := B.bytes
  have hr := B.returns
  have hts0 := atoms_spec (ws := Cond.code yX3_init cX3_init 1 none :: jG) B.pre
  have hts : ∀ w ∈ jG, w.before _ s = true := fun w hw => hts0 w (List.mem_cons_of_mem _ hw)
  have hown : s.vm.findClass RX3 = some m.cls := findClass_of_methodNamed B.named
  have hlocks := B.notSynchronized
  have hin : meth.name = "<init>" := (name_of_methodNamed B.named B.method).1
  subst hsz
  have hD := hD0.self (sz := s.heap.size)
  generalize hAe : va_A [(h0, .inr (3, [.null, .null, .null, .null, .null, .null, .int (jI 0), .int (jI 0)]))] s.heap.size = A at hD ⊢
  have hA : ∀ q : Nat, s.heap.size ≤ q → A q := fun q h => by rw [← hAe]; exact Or.inr h
  have hS : va_S A s.heap s.heap [] := va_S.rf
  have hl := lv_entry ([.ref h0]) (n := 1) (Nat.le_of_ble_eq_true rfl)
  rw [lg_entry_eq]
  generalize (lg_sl ([.ref h0]) ++ List.replicate (1 - (lg_sl ([.ref h0])).length) Slot.unset).toArray = ls at hl ⊢
  have hl : lv_has ls 1 [(0, .ref h0)] := hl
  refine lv_aload_n hx hb dX3_init_0 rfl (lv_at hl 0 rfl) ?_
  refine W.objInit hx hb hown (hts (.methodLink RX3 3 objectInit) kg84) (hts (.instanceMethod objectInit) kg36) (hts _ kg37) rfl (by rw [hml]; exact hl.1) rfl dX3_init_1 (Nat.le_of_ble_eq_true rfl) (Nat.le_of_ble_eq_true rfl) ?_
  refine W.eq (g2 := F0 m 4 ls []) rfl ?_
  refine lv_aload_n hx hb dX3_init_4 rfl (lv_at hl 0 rfl) ?_
  refine lv_sipush hx hb dX3_init_5 (jc_int16 (by decide) (by decide)) ?_
  refine jnewa (atype := .int) (ty := .int) (k0 := 0) (kA := kT 0) hx hb (hts _ kg78) rfl (fun _ => rfl) hK rfl hP hD hS hA (N' := 200) (a0 := (200, .inl (fun _ => jI 0))) (fun _ => rfl) (by decide) (by decide) (Nat.le_of_ble_eq_true rfl) (Nat.le_of_ble_eq_true rfl) (Nat.le_of_ble_eq_true rfl) dX3_init_8 (fun q15 H hP hD hS => ?_)
  have hP : va_P D jcl [(h0, .inr (3, [.null, .null, .null, .null, .null, .null, .int (jI 0), .int (jI 0)])), (q15, .inl (kT 0, 200, .inl (fun _ => jI 0)))] H := hP
  have hD : va_D A [(h0, .inr (3, [.null, .null, .null, .null, .null, .null, .int (jI 0), .int (jI 0)])), (q15, .inl (kT 0, 200, .inl (fun _ => jI 0)))] := hD
  refine va_putF (D := D) (ci := 3) (v := .ref q15) (ty := tyX3 0) (C := RX3) (T := TX3) (N := 8) hx hb hts jin3 tyX3 tyX3_ok nmX3 hown hK hP hD hS 0 rfl rfl 0 (by decide) (hts (.fieldLink RX3 9 "MacroBench$Listing" "lines" "[I") kg85) (fun _ h9 => h9) rfl hin rfl (tyX3_ok 0 (by decide)) rfl rfl (Nat.le_of_ble_eq_true rfl) dX3_init_10 (fun H locs hP hD hS => ?_)
  have hP : va_P D jcl [(h0, .inr (3, [.ref q15, .null, .null, .null, .null, .null, .int (jI 0), .int (jI 0)])), (q15, .inl (kT 0, 200, .inl (fun _ => jI 0)))] H := hP
  have hD : va_D A [(h0, .inr (3, [.ref q15, .null, .null, .null, .null, .null, .int (jI 0), .int (jI 0)])), (q15, .inl (kT 0, 200, .inl (fun _ => jI 0)))] := hD
  refine lv_aload_n hx hb dX3_init_13 rfl (lv_at hl 0 rfl) ?_
  refine lv_sipush hx hb dX3_init_14 (jc_int16 (by decide) (by decide)) ?_
  refine jnewa (atype := .int) (ty := .int) (k0 := 0) (kA := kT 0) hx hb (hts _ kg78) rfl (fun _ => rfl) hK rfl hP hD hS hA (N' := 200) (a0 := (200, .inl (fun _ => jI 0))) (fun _ => rfl) (by decide) (by decide) (Nat.le_of_ble_eq_true rfl) (Nat.le_of_ble_eq_true rfl) (Nat.le_of_ble_eq_true rfl) dX3_init_17 (fun q16 H hP hD hS => ?_)
  have hP : va_P D jcl [(h0, .inr (3, [.ref q15, .null, .null, .null, .null, .null, .int (jI 0), .int (jI 0)])), (q15, .inl (kT 0, 200, .inl (fun _ => jI 0))), (q16, .inl (kT 0, 200, .inl (fun _ => jI 0)))] H := hP
  have hD : va_D A [(h0, .inr (3, [.ref q15, .null, .null, .null, .null, .null, .int (jI 0), .int (jI 0)])), (q15, .inl (kT 0, 200, .inl (fun _ => jI 0))), (q16, .inl (kT 0, 200, .inl (fun _ => jI 0)))] := hD
  refine va_putF (D := D) (ci := 3) (v := .ref q16) (ty := tyX3 1) (C := RX3) (T := TX3) (N := 8) hx hb hts jin3 tyX3 tyX3_ok nmX3 hown hK hP hD hS 0 rfl rfl 1 (by decide) (hts (.fieldLink RX3 15 "MacroBench$Listing" "kinds" "[I") kg86) (fun _ h9 => h9) rfl hin rfl (tyX3_ok 1 (by decide)) rfl rfl (Nat.le_of_ble_eq_true rfl) dX3_init_19 (fun H locs hP hD hS => ?_)
  have hP : va_P D jcl [(h0, .inr (3, [.ref q15, .ref q16, .null, .null, .null, .null, .int (jI 0), .int (jI 0)])), (q15, .inl (kT 0, 200, .inl (fun _ => jI 0))), (q16, .inl (kT 0, 200, .inl (fun _ => jI 0)))] H := hP
  have hD : va_D A [(h0, .inr (3, [.ref q15, .ref q16, .null, .null, .null, .null, .int (jI 0), .int (jI 0)])), (q15, .inl (kT 0, 200, .inl (fun _ => jI 0))), (q16, .inl (kT 0, 200, .inl (fun _ => jI 0)))] := hD
  refine lv_aload_n hx hb dX3_init_22 rfl (lv_at hl 0 rfl) ?_
  refine lv_sipush hx hb dX3_init_23 (jc_int16 (by decide) (by decide)) ?_
  refine jnewa (atype := .int) (ty := .int) (k0 := 0) (kA := kT 0) hx hb (hts _ kg78) rfl (fun _ => rfl) hK rfl hP hD hS hA (N' := 200) (a0 := (200, .inl (fun _ => jI 0))) (fun _ => rfl) (by decide) (by decide) (Nat.le_of_ble_eq_true rfl) (Nat.le_of_ble_eq_true rfl) (Nat.le_of_ble_eq_true rfl) dX3_init_26 (fun q17 H hP hD hS => ?_)
  have hP : va_P D jcl [(h0, .inr (3, [.ref q15, .ref q16, .null, .null, .null, .null, .int (jI 0), .int (jI 0)])), (q15, .inl (kT 0, 200, .inl (fun _ => jI 0))), (q16, .inl (kT 0, 200, .inl (fun _ => jI 0))), (q17, .inl (kT 0, 200, .inl (fun _ => jI 0)))] H := hP
  have hD : va_D A [(h0, .inr (3, [.ref q15, .ref q16, .null, .null, .null, .null, .int (jI 0), .int (jI 0)])), (q15, .inl (kT 0, 200, .inl (fun _ => jI 0))), (q16, .inl (kT 0, 200, .inl (fun _ => jI 0))), (q17, .inl (kT 0, 200, .inl (fun _ => jI 0)))] := hD
  refine va_putF (D := D) (ci := 3) (v := .ref q17) (ty := tyX3 2) (C := RX3) (T := TX3) (N := 8) hx hb hts jin3 tyX3 tyX3_ok nmX3 hown hK hP hD hS 0 rfl rfl 2 (by decide) (hts (.fieldLink RX3 18 "MacroBench$Listing" "depths" "[I") kg87) (fun _ h9 => h9) rfl hin rfl (tyX3_ok 2 (by decide)) rfl rfl (Nat.le_of_ble_eq_true rfl) dX3_init_28 (fun H locs hP hD hS => ?_)
  have hP : va_P D jcl [(h0, .inr (3, [.ref q15, .ref q16, .ref q17, .null, .null, .null, .int (jI 0), .int (jI 0)])), (q15, .inl (kT 0, 200, .inl (fun _ => jI 0))), (q16, .inl (kT 0, 200, .inl (fun _ => jI 0))), (q17, .inl (kT 0, 200, .inl (fun _ => jI 0)))] H := hP
  have hD : va_D A [(h0, .inr (3, [.ref q15, .ref q16, .ref q17, .null, .null, .null, .int (jI 0), .int (jI 0)])), (q15, .inl (kT 0, 200, .inl (fun _ => jI 0))), (q16, .inl (kT 0, 200, .inl (fun _ => jI 0))), (q17, .inl (kT 0, 200, .inl (fun _ => jI 0)))] := hD
  refine lv_aload_n hx hb dX3_init_31 rfl (lv_at hl 0 rfl) ?_
  refine lv_sipush hx hb dX3_init_32 (jc_int16 (by decide) (by decide)) ?_
  refine jnewa (atype := .int) (ty := .int) (k0 := 0) (kA := kT 0) hx hb (hts _ kg78) rfl (fun _ => rfl) hK rfl hP hD hS hA (N' := 200) (a0 := (200, .inl (fun _ => jI 0))) (fun _ => rfl) (by decide) (by decide) (Nat.le_of_ble_eq_true rfl) (Nat.le_of_ble_eq_true rfl) (Nat.le_of_ble_eq_true rfl) dX3_init_35 (fun q18 H hP hD hS => ?_)
  have hP : va_P D jcl [(h0, .inr (3, [.ref q15, .ref q16, .ref q17, .null, .null, .null, .int (jI 0), .int (jI 0)])), (q15, .inl (kT 0, 200, .inl (fun _ => jI 0))), (q16, .inl (kT 0, 200, .inl (fun _ => jI 0))), (q17, .inl (kT 0, 200, .inl (fun _ => jI 0))), (q18, .inl (kT 0, 200, .inl (fun _ => jI 0)))] H := hP
  have hD : va_D A [(h0, .inr (3, [.ref q15, .ref q16, .ref q17, .null, .null, .null, .int (jI 0), .int (jI 0)])), (q15, .inl (kT 0, 200, .inl (fun _ => jI 0))), (q16, .inl (kT 0, 200, .inl (fun _ => jI 0))), (q17, .inl (kT 0, 200, .inl (fun _ => jI 0))), (q18, .inl (kT 0, 200, .inl (fun _ => jI 0)))] := hD
  refine va_putF (D := D) (ci := 3) (v := .ref q18) (ty := tyX3 3) (C := RX3) (T := TX3) (N := 8) hx hb hts jin3 tyX3 tyX3_ok nmX3 hown hK hP hD hS 0 rfl rfl 3 (by decide) (hts (.fieldLink RX3 21 "MacroBench$Listing" "values" "[I") kg88) (fun _ h9 => h9) rfl hin rfl (tyX3_ok 3 (by decide)) rfl rfl (Nat.le_of_ble_eq_true rfl) dX3_init_37 (fun H locs hP hD hS => ?_)
  have hP : va_P D jcl [(h0, .inr (3, [.ref q15, .ref q16, .ref q17, .ref q18, .null, .null, .int (jI 0), .int (jI 0)])), (q15, .inl (kT 0, 200, .inl (fun _ => jI 0))), (q16, .inl (kT 0, 200, .inl (fun _ => jI 0))), (q17, .inl (kT 0, 200, .inl (fun _ => jI 0))), (q18, .inl (kT 0, 200, .inl (fun _ => jI 0)))] H := hP
  have hD : va_D A [(h0, .inr (3, [.ref q15, .ref q16, .ref q17, .ref q18, .null, .null, .int (jI 0), .int (jI 0)])), (q15, .inl (kT 0, 200, .inl (fun _ => jI 0))), (q16, .inl (kT 0, 200, .inl (fun _ => jI 0))), (q17, .inl (kT 0, 200, .inl (fun _ => jI 0))), (q18, .inl (kT 0, 200, .inl (fun _ => jI 0)))] := hD
  refine lv_aload_n hx hb dX3_init_40 rfl (lv_at hl 0 rfl) ?_
  refine lv_sipush hx hb dX3_init_41 (jc_int16 (by decide) (by decide)) ?_
  refine jnewa (atype := .int) (ty := .int) (k0 := 0) (kA := kT 0) hx hb (hts _ kg78) rfl (fun _ => rfl) hK rfl hP hD hS hA (N' := 200) (a0 := (200, .inl (fun _ => jI 0))) (fun _ => rfl) (by decide) (by decide) (Nat.le_of_ble_eq_true rfl) (Nat.le_of_ble_eq_true rfl) (Nat.le_of_ble_eq_true rfl) dX3_init_44 (fun q19 H hP hD hS => ?_)
  have hP : va_P D jcl [(h0, .inr (3, [.ref q15, .ref q16, .ref q17, .ref q18, .null, .null, .int (jI 0), .int (jI 0)])), (q15, .inl (kT 0, 200, .inl (fun _ => jI 0))), (q16, .inl (kT 0, 200, .inl (fun _ => jI 0))), (q17, .inl (kT 0, 200, .inl (fun _ => jI 0))), (q18, .inl (kT 0, 200, .inl (fun _ => jI 0))), (q19, .inl (kT 0, 200, .inl (fun _ => jI 0)))] H := hP
  have hD : va_D A [(h0, .inr (3, [.ref q15, .ref q16, .ref q17, .ref q18, .null, .null, .int (jI 0), .int (jI 0)])), (q15, .inl (kT 0, 200, .inl (fun _ => jI 0))), (q16, .inl (kT 0, 200, .inl (fun _ => jI 0))), (q17, .inl (kT 0, 200, .inl (fun _ => jI 0))), (q18, .inl (kT 0, 200, .inl (fun _ => jI 0))), (q19, .inl (kT 0, 200, .inl (fun _ => jI 0)))] := hD
  refine va_putF (D := D) (ci := 3) (v := .ref q19) (ty := tyX3 4) (C := RX3) (T := TX3) (N := 8) hx hb hts jin3 tyX3 tyX3_ok nmX3 hown hK hP hD hS 0 rfl rfl 4 (by decide) (hts (.fieldLink RX3 24 "MacroBench$Listing" "targets" "[I") kg89) (fun _ h9 => h9) rfl hin rfl (tyX3_ok 4 (by decide)) rfl rfl (Nat.le_of_ble_eq_true rfl) dX3_init_46 (fun H locs hP hD hS => ?_)
  have hP : va_P D jcl [(h0, .inr (3, [.ref q15, .ref q16, .ref q17, .ref q18, .ref q19, .null, .int (jI 0), .int (jI 0)])), (q15, .inl (kT 0, 200, .inl (fun _ => jI 0))), (q16, .inl (kT 0, 200, .inl (fun _ => jI 0))), (q17, .inl (kT 0, 200, .inl (fun _ => jI 0))), (q18, .inl (kT 0, 200, .inl (fun _ => jI 0))), (q19, .inl (kT 0, 200, .inl (fun _ => jI 0)))] H := hP
  have hD : va_D A [(h0, .inr (3, [.ref q15, .ref q16, .ref q17, .ref q18, .ref q19, .null, .int (jI 0), .int (jI 0)])), (q15, .inl (kT 0, 200, .inl (fun _ => jI 0))), (q16, .inl (kT 0, 200, .inl (fun _ => jI 0))), (q17, .inl (kT 0, 200, .inl (fun _ => jI 0))), (q18, .inl (kT 0, 200, .inl (fun _ => jI 0))), (q19, .inl (kT 0, 200, .inl (fun _ => jI 0)))] := hD
  refine lv_aload_n hx hb dX3_init_49 rfl (lv_at hl 0 rfl) ?_
  refine lv_sipush hx hb dX3_init_50 (jc_int16 (by decide) (by decide)) ?_
  refine jnewa (atype := .int) (ty := .int) (k0 := 0) (kA := kT 0) hx hb (hts _ kg78) rfl (fun _ => rfl) hK rfl hP hD hS hA (N' := 200) (a0 := (200, .inl (fun _ => jI 0))) (fun _ => rfl) (by decide) (by decide) (Nat.le_of_ble_eq_true rfl) (Nat.le_of_ble_eq_true rfl) (Nat.le_of_ble_eq_true rfl) dX3_init_53 (fun q20 H hP hD hS => ?_)
  have hP : va_P D jcl [(h0, .inr (3, [.ref q15, .ref q16, .ref q17, .ref q18, .ref q19, .null, .int (jI 0), .int (jI 0)])), (q15, .inl (kT 0, 200, .inl (fun _ => jI 0))), (q16, .inl (kT 0, 200, .inl (fun _ => jI 0))), (q17, .inl (kT 0, 200, .inl (fun _ => jI 0))), (q18, .inl (kT 0, 200, .inl (fun _ => jI 0))), (q19, .inl (kT 0, 200, .inl (fun _ => jI 0))), (q20, .inl (kT 0, 200, .inl (fun _ => jI 0)))] H := hP
  have hD : va_D A [(h0, .inr (3, [.ref q15, .ref q16, .ref q17, .ref q18, .ref q19, .null, .int (jI 0), .int (jI 0)])), (q15, .inl (kT 0, 200, .inl (fun _ => jI 0))), (q16, .inl (kT 0, 200, .inl (fun _ => jI 0))), (q17, .inl (kT 0, 200, .inl (fun _ => jI 0))), (q18, .inl (kT 0, 200, .inl (fun _ => jI 0))), (q19, .inl (kT 0, 200, .inl (fun _ => jI 0))), (q20, .inl (kT 0, 200, .inl (fun _ => jI 0)))] := hD
  refine va_putF (D := D) (ci := 3) (v := .ref q20) (ty := tyX3 5) (C := RX3) (T := TX3) (N := 8) hx hb hts jin3 tyX3 tyX3_ok nmX3 hown hK hP hD hS 0 rfl rfl 5 (by decide) (hts (.fieldLink RX3 27 "MacroBench$Listing" "addresses" "[I") kg90) (fun _ h9 => h9) rfl hin rfl (tyX3_ok 5 (by decide)) rfl rfl (Nat.le_of_ble_eq_true rfl) dX3_init_55 (fun H locs hP hD hS => ?_)
  have hP : va_P D jcl [(h0, .inr (3, [.ref q15, .ref q16, .ref q17, .ref q18, .ref q19, .ref q20, .int (jI 0), .int (jI 0)])), (q15, .inl (kT 0, 200, .inl (fun _ => jI 0))), (q16, .inl (kT 0, 200, .inl (fun _ => jI 0))), (q17, .inl (kT 0, 200, .inl (fun _ => jI 0))), (q18, .inl (kT 0, 200, .inl (fun _ => jI 0))), (q19, .inl (kT 0, 200, .inl (fun _ => jI 0))), (q20, .inl (kT 0, 200, .inl (fun _ => jI 0)))] H := hP
  have hD : va_D A [(h0, .inr (3, [.ref q15, .ref q16, .ref q17, .ref q18, .ref q19, .ref q20, .int (jI 0), .int (jI 0)])), (q15, .inl (kT 0, 200, .inl (fun _ => jI 0))), (q16, .inl (kT 0, 200, .inl (fun _ => jI 0))), (q17, .inl (kT 0, 200, .inl (fun _ => jI 0))), (q18, .inl (kT 0, 200, .inl (fun _ => jI 0))), (q19, .inl (kT 0, 200, .inl (fun _ => jI 0))), (q20, .inl (kT 0, 200, .inl (fun _ => jI 0)))] := hD
  exact W.vret hx hb hr (fun t ht hW => ⟨⟨(fun k => if k = 2 then h0 else if k = 15 then q15 else if k = 16 then q16 else if k = 17 then q17 else if k = 18 then q18 else if k = 19 then q19 else if k = 20 then q20 else 0), rfl, rfl, by rw [ht]; exact hP, va_K.moved hW.alike hK, hD⟩, hS.F ht⟩) hS.2.2 dX3_init_58
/-- the cells that MacroBench$Image makes -/
def cW2 (kT : Nat → ClassId) (ad : Nat → Nat) : va_W := [(ad 5, .inr (2, [.ref (ad 29), .ref (ad 30), .int (jI 0), .int (jI 0)])), (ad 29, .inl (kT 0, 1400, .inl (fun _ => jI 0))), (ad 30, .inl (kT 2, 1400, .inl (fun _ => jI 0)))]
set_option maxHeartbeats 4000000 in
set_option maxRecDepth 100000 in
theorem cc_2 (l : Launch) (D : va_G) (kT : Nat → ClassId) (h0 sz : Nat) : Met l yX2_init (Cond.code yX2_init cX2_init 1 none :: jG) ({ frames := 1, cells := 2, slots := 2800, locals := 46 }) (va_Pc [.ref h0] (fun U => U.heap.size = sz ∧ va_P D jcl [(h0, .inr (2, [.null, .null, .int (jI 0), .int (jI 0)]))] U.heap ∧ va_K D jcl [(kT 0, .int), (kT 1, .long), (kT 2, .boolean)] U ∧ va_D (fun _ => True) [(h0, .inr (2, [.null, .null, .int (jI 0), .int (jI 0)]))])) (va_Qv (fun ad : Nat → Nat => ad 5 = h0) (fun ad t => va_P D jcl (cW2 kT ad) t.heap ∧ va_K D jcl [(kT 0, .int), (kT 1, .long), (kT 2, .boolean)] t ∧ va_D (va_A [(h0, .inr (2, [.null, .null, .int (jI 0), .int (jI 0)]))] sz) (cW2 kT ad)) (va_A [(h0, .inr (2, [.null, .null, .int (jI 0), .int (jI 0)]))] sz)) 2 2800 (va_A [(h0, .inr (2, [.null, .null, .int (jI 0), .int (jI 0)]))] sz) := by
  refine Met.ofW (cc := cX2_init) (maxL := 1) (ret := none) (by decide) rfl ?_
  intro p e s m args below meth c s₁ B hml hv
  obtain ⟨rfl, hsz, hP, hK, hD0⟩ := hv
  have hx := B.exec
  have hb := B.bytes
  have hr := B.returns
  have hts0 := atoms_spec (ws := Cond.code yX2_init cX2_init 1 none :: jG) B.pre
  have hts : ∀ w ∈ jG, w.before _ s = true := fun w hw => hts0 w (List.mem_cons_of_mem _ hw)
  have hown : s.vm.findClass RX2 = some m.cls := findClass_of_methodNamed B.named
  have hlocks := B.notSynchronized
  have hin : meth.name = "<init>" := (name_of_methodNamed B.named B.method).1
  subst hsz
  have hD := hD0.self (sz := s.heap.size)
  generalize hAe : va_A [(h0, .inr (2, [.null, .null, .int (jI 0), .int (jI 0)]))] s.heap.size = A at hD ⊢
  have hA : ∀ q : Nat, s.heap.size ≤ q → A q := fun q h => by rw [← hAe]; exact Or.inr h
  have hS : va_S A s.heap s.heap [] := va_S.rf
  have hl := lv_entry ([.ref h0]) (n := 1) (Nat.le_of_ble_eq_true rfl)
  rw [lg_entry_eq]
  generalize (lg_sl ([.ref h0]) ++ List.replicate (1 - (lg_sl ([.ref h0])).length) Slot.unset).toArray = ls at hl ⊢
  have hl : lv_has ls 1 [(0, .ref h0)] := hl
  refine lv_aload_n hx hb dX2_init_0 rfl (lv_at hl 0 rfl) ?_
  refine W.objInit hx hb hown (hts (.methodLink RX2 3 objectInit) kg180) (hts (.instanceMethod objectInit) kg36) (hts _ kg37) rfl (by rw [hml]; exact hl.1) rfl dX2_init_1 (Nat.le_of_ble_eq_true rfl) (Nat.le_of_ble_eq_true rfl) ?_
  refine W.eq (g2 := F0 m 4 ls []) rfl ?_
  refine lv_aload_n hx hb dX2_init_4 rfl (lv_at hl 0 rfl) ?_
  refine lv_sipush hx hb dX2_init_5 (jc_int16 (by decide) (by decide)) ?_
  refine jnewa (atype := .int) (ty := .int) (k0 := 0) (kA := kT 0) hx hb (hts _ kg78) rfl (fun _ => rfl) hK rfl hP hD hS hA (N' := 1400) (a0 := (1400, .inl (fun _ => jI 0))) (fun _ => rfl) (by decide) (by decide) (Nat.le_of_ble_eq_true rfl) (Nat.le_of_ble_eq_true rfl) (Nat.le_of_ble_eq_true rfl) dX2_init_8 (fun q29 H hP hD hS => ?_)
  have hP : va_P D jcl [(h0, .inr (2, [.null, .null, .int (jI 0), .int (jI 0)])), (q29, .inl (kT 0, 1400, .inl (fun _ => jI 0)))] H := hP
  have hD : va_D A [(h0, .inr (2, [.null, .null, .int (jI 0), .int (jI 0)])), (q29, .inl (kT 0, 1400, .inl (fun _ => jI 0)))] := hD
  refine va_putF (D := D) (ci := 2) (v := .ref q29) (ty := tyX2 0) (C := RX2) (T := TX2) (N := 4) hx hb hts jin2 tyX2 tyX2_ok nmX2 hown hK hP hD hS 0 rfl rfl 0 (by decide) (hts (.fieldLink RX2 9 "MacroBench$Image" "values" "[I") kg181) (fun _ h9 => h9) rfl hin rfl (tyX2_ok 0 (by decide)) rfl rfl (Nat.le_of_ble_eq_true rfl) dX2_init_10 (fun H locs hP hD hS => ?_)
  have hP : va_P D jcl [(h0, .inr (2, [.ref q29, .null, .int (jI 0), .int (jI 0)])), (q29, .inl (kT 0, 1400, .inl (fun _ => jI 0)))] H := hP
  have hD : va_D A [(h0, .inr (2, [.ref q29, .null, .int (jI 0), .int (jI 0)])), (q29, .inl (kT 0, 1400, .inl (fun _ => jI 0)))] := hD
  refine lv_aload_n hx hb dX2_init_13 rfl (lv_at hl 0 rfl) ?_
  refine lv_sipush hx hb dX2_init_14 (jc_int16 (by decide) (by decide)) ?_
  refine jnewa (atype := .boolean) (ty := .boolean) (k0 := 2) (kA := kT 2) hx hb (hts _ kg194) rfl (fun _ => rfl) hK rfl hP hD hS hA (N' := 1400) (a0 := (1400, .inl (fun _ => jI 0))) (fun _ => rfl) (by decide) (by decide) (Nat.le_of_ble_eq_true rfl) (Nat.le_of_ble_eq_true rfl) (Nat.le_of_ble_eq_true rfl) dX2_init_17 (fun q30 H hP hD hS => ?_)
  have hP : va_P D jcl [(h0, .inr (2, [.ref q29, .null, .int (jI 0), .int (jI 0)])), (q29, .inl (kT 0, 1400, .inl (fun _ => jI 0))), (q30, .inl (kT 2, 1400, .inl (fun _ => jI 0)))] H := hP
  have hD : va_D A [(h0, .inr (2, [.ref q29, .null, .int (jI 0), .int (jI 0)])), (q29, .inl (kT 0, 1400, .inl (fun _ => jI 0))), (q30, .inl (kT 2, 1400, .inl (fun _ => jI 0)))] := hD
  refine va_putF (D := D) (ci := 2) (v := .ref q30) (ty := tyX2 1) (C := RX2) (T := TX2) (N := 4) hx hb hts jin2 tyX2 tyX2_ok nmX2 hown hK hP hD hS 0 rfl rfl 1 (by decide) (hts (.fieldLink RX2 15 "MacroBench$Image" "holders" "[Z") kg182) (fun _ h9 => h9) rfl hin rfl (tyX2_ok 1 (by decide)) rfl rfl (Nat.le_of_ble_eq_true rfl) dX2_init_19 (fun H locs hP hD hS => ?_)
  have hP : va_P D jcl [(h0, .inr (2, [.ref q29, .ref q30, .int (jI 0), .int (jI 0)])), (q29, .inl (kT 0, 1400, .inl (fun _ => jI 0))), (q30, .inl (kT 2, 1400, .inl (fun _ => jI 0)))] H := hP
  have hD : va_D A [(h0, .inr (2, [.ref q29, .ref q30, .int (jI 0), .int (jI 0)])), (q29, .inl (kT 0, 1400, .inl (fun _ => jI 0))), (q30, .inl (kT 2, 1400, .inl (fun _ => jI 0)))] := hD
  exact W.vret hx hb hr (fun t ht hW => ⟨⟨(fun k => if k = 5 then h0 else if k = 29 then q29 else if k = 30 then q30 else 0), rfl, rfl, by rw [ht]; exact hP, va_K.moved hW.alike hK, hD⟩, hS.F ht⟩) hS.2.2 dX2_init_22
/-- the cells that MacroBench$Scopes makes -/
def cW4 (kT : Nat → ClassId) (h1 : Nat) (ad : Nat → Nat) : va_W := [(ad 3, .inr (4, [.ref (h1), .ref (ad 21), .ref (ad 22), .ref (ad 23), .ref (ad 24), .int (jI 0)])), (ad 21, .inl (kT 0, 1620, .inl (fun _ => jI 0))), (ad 22, .inl (kT 0, 81, .inl (fun _ => jI 0))), (ad 23, .inl (kT 0, 81, .inl (fun _ => jI 0))), (ad 24, .inl (kT 0, 200, .inl (fun _ => jI 0)))]
set_option maxHeartbeats 4000000 in
set_option maxRecDepth 100000 in
theorem cc_4 (l : Launch) (D : va_G) (kT : Nat → ClassId) (h0 h1 sz : Nat) : Met l yX4_init (Cond.code yX4_init cX4_init 2 none :: jG) ({ frames := 1, cells := 4, slots := 1982, locals := 46 }) (va_Pc [.ref h0, .ref h1] (fun U => U.heap.size = sz ∧ va_P D jcl [(h0, .inr (4, [.null, .null, .null, .null, .null, .int (jI 0)]))] U.heap ∧ va_K D jcl [(kT 0, .int), (kT 1, .long), (kT 2, .boolean)] U ∧ va_D (fun _ => True) [(h0, .inr (4, [.null, .null, .null, .null, .null, .int (jI 0)]))])) (va_Qv (fun ad : Nat → Nat => ad 3 = h0) (fun ad t => va_P D jcl (cW4 kT h1 ad) t.heap ∧ va_K D jcl [(kT 0, .int), (kT 1, .long), (kT 2, .boolean)] t ∧ va_D (va_A [(h0, .inr (4, [.null, .null, .null, .null, .null, .int (jI 0)]))] sz) (cW4 kT h1 ad)) (va_A [(h0, .inr (4, [.null, .null, .null, .null, .null, .int (jI 0)]))] sz)) 4 1982 (va_A [(h0, .inr (4, [.null, .null, .null, .null, .null, .int (jI 0)]))] sz) := by
  refine Met.ofW (cc := cX4_init) (maxL := 2) (ret := none) (by decide) rfl ?_
  intro p e s m args below meth c s₁ B hml hv
  obtain ⟨rfl, hsz, hP, hK, hD0⟩ := hv
  have hx := B.exec
  have hb := B.bytes
  have hr := B.returns
  have hts0 := atoms_spec (ws := Cond.code yX4_init cX4_init 2 none :: jG) B.pre
  have hts : ∀ w ∈ jG, w.before _ s = true := fun w hw => hts0 w (List.mem_cons_of_mem _ hw)
  have hown : s.vm.findClass RX4 = some m.cls := findClass_of_methodNamed B.named
  have hlocks := B.notSynchronized
  have hin : meth.name = "<init>" := (name_of_methodNamed B.named B.method).1
  subst hsz
  have hD := hD0.self (sz := s.heap.size)
  generalize hAe : va_A [(h0, .inr (4, [.null, .null, .null, .null, .null, .int (jI 0)]))] s.heap.size = A at hD ⊢
  have hA : ∀ q : Nat, s.heap.size ≤ q → A q := fun q h => by rw [← hAe]; exact Or.inr h
  have hS : va_S A s.heap s.heap [] := va_S.rf
  have hl := lv_entry ([.ref h0, .ref h1]) (n := 2) (Nat.le_of_ble_eq_true rfl)
  rw [lg_entry_eq]
  generalize (lg_sl ([.ref h0, .ref h1]) ++ List.replicate (2 - (lg_sl ([.ref h0, .ref h1])).length) Slot.unset).toArray = ls at hl ⊢
  have hl : lv_has ls 2 [(0, .ref h0), (1, .ref h1)] := hl
  refine lv_aload_n hx hb dX4_init_0 rfl (lv_at hl 0 rfl) ?_
  refine W.objInit hx hb hown (hts (.methodLink RX4 3 objectInit) kg115) (hts (.instanceMethod objectInit) kg36) (hts _ kg37) rfl (by rw [hml]; exact hl.1) rfl dX4_init_1 (Nat.le_of_ble_eq_true rfl) (Nat.le_of_ble_eq_true rfl) ?_
  refine W.eq (g2 := F0 m 4 ls []) rfl ?_
  refine lv_aload_n hx hb dX4_init_4 rfl (lv_at hl 0 rfl) ?_
  refine lv_sipush hx hb dX4_init_5 (jc_int16 (by decide) (by decide)) ?_
  refine jnewa (atype := .int) (ty := .int) (k0 := 0) (kA := kT 0) hx hb (hts _ kg78) rfl (fun _ => rfl) hK rfl hP hD hS hA (N' := 1620) (a0 := (1620, .inl (fun _ => jI 0))) (fun _ => rfl) (by decide) (by decide) (Nat.le_of_ble_eq_true rfl) (Nat.le_of_ble_eq_true rfl) (Nat.le_of_ble_eq_true rfl) dX4_init_8 (fun q21 H hP hD hS => ?_)
  have hP : va_P D jcl [(h0, .inr (4, [.null, .null, .null, .null, .null, .int (jI 0)])), (q21, .inl (kT 0, 1620, .inl (fun _ => jI 0)))] H := hP
  have hD : va_D A [(h0, .inr (4, [.null, .null, .null, .null, .null, .int (jI 0)])), (q21, .inl (kT 0, 1620, .inl (fun _ => jI 0)))] := hD
  refine va_putF (D := D) (ci := 4) (v := .ref q21) (ty := tyX4 1) (C := RX4) (T := TX4) (N := 6) hx hb hts jin4 tyX4 tyX4_ok nmX4 hown hK hP hD hS 0 rfl rfl 1 (by decide) (hts (.fieldLink RX4 9 "MacroBench$Scopes" "labels" "[I") kg117) (fun _ h9 => h9) rfl hin rfl (tyX4_ok 1 (by decide)) rfl rfl (Nat.le_of_ble_eq_true rfl) dX4_init_10 (fun H locs hP hD hS => ?_)
  have hP : va_P D jcl [(h0, .inr (4, [.null, .ref q21, .null, .null, .null, .int (jI 0)])), (q21, .inl (kT 0, 1620, .inl (fun _ => jI 0)))] H := hP
  have hD : va_D A [(h0, .inr (4, [.null, .ref q21, .null, .null, .null, .int (jI 0)])), (q21, .inl (kT 0, 1620, .inl (fun _ => jI 0)))] := hD
  refine lv_aload_n hx hb dX4_init_13 rfl (lv_at hl 0 rfl) ?_
  refine lv_bipush hx hb dX4_init_14 (jc_int (by decide) (by decide)) ?_
  refine jnewa (atype := .int) (ty := .int) (k0 := 0) (kA := kT 0) hx hb (hts _ kg78) rfl (fun _ => rfl) hK rfl hP hD hS hA (N' := 81) (a0 := (81, .inl (fun _ => jI 0))) (fun _ => rfl) (by decide) (by decide) (Nat.le_of_ble_eq_true rfl) (Nat.le_of_ble_eq_true rfl) (Nat.le_of_ble_eq_true rfl) dX4_init_16 (fun q22 H hP hD hS => ?_)
  have hP : va_P D jcl [(h0, .inr (4, [.null, .ref q21, .null, .null, .null, .int (jI 0)])), (q21, .inl (kT 0, 1620, .inl (fun _ => jI 0))), (q22, .inl (kT 0, 81, .inl (fun _ => jI 0)))] H := hP
  have hD : va_D A [(h0, .inr (4, [.null, .ref q21, .null, .null, .null, .int (jI 0)])), (q21, .inl (kT 0, 1620, .inl (fun _ => jI 0))), (q22, .inl (kT 0, 81, .inl (fun _ => jI 0)))] := hD
  refine va_putF (D := D) (ci := 4) (v := .ref q22) (ty := tyX4 2) (C := RX4) (T := TX4) (N := 6) hx hb hts jin4 tyX4 tyX4_ok nmX4 hown hK hP hD hS 0 rfl rfl 2 (by decide) (hts (.fieldLink RX4 15 "MacroBench$Scopes" "outers" "[I") kg118) (fun _ h9 => h9) rfl hin rfl (tyX4_ok 2 (by decide)) rfl rfl (Nat.le_of_ble_eq_true rfl) dX4_init_18 (fun H locs hP hD hS => ?_)
  have hP : va_P D jcl [(h0, .inr (4, [.null, .ref q21, .ref q22, .null, .null, .int (jI 0)])), (q21, .inl (kT 0, 1620, .inl (fun _ => jI 0))), (q22, .inl (kT 0, 81, .inl (fun _ => jI 0)))] H := hP
  have hD : va_D A [(h0, .inr (4, [.null, .ref q21, .ref q22, .null, .null, .int (jI 0)])), (q21, .inl (kT 0, 1620, .inl (fun _ => jI 0))), (q22, .inl (kT 0, 81, .inl (fun _ => jI 0)))] := hD
  refine lv_aload_n hx hb dX4_init_21 rfl (lv_at hl 0 rfl) ?_
  refine lv_bipush hx hb dX4_init_22 (jc_int (by decide) (by decide)) ?_
  refine jnewa (atype := .int) (ty := .int) (k0 := 0) (kA := kT 0) hx hb (hts _ kg78) rfl (fun _ => rfl) hK rfl hP hD hS hA (N' := 81) (a0 := (81, .inl (fun _ => jI 0))) (fun _ => rfl) (by decide) (by decide) (Nat.le_of_ble_eq_true rfl) (Nat.le_of_ble_eq_true rfl) (Nat.le_of_ble_eq_true rfl) dX4_init_24 (fun q23 H hP hD hS => ?_)
  have hP : va_P D jcl [(h0, .inr (4, [.null, .ref q21, .ref q22, .null, .null, .int (jI 0)])), (q21, .inl (kT 0, 1620, .inl (fun _ => jI 0))), (q22, .inl (kT 0, 81, .inl (fun _ => jI 0))), (q23, .inl (kT 0, 81, .inl (fun _ => jI 0)))] H := hP
  have hD : va_D A [(h0, .inr (4, [.null, .ref q21, .ref q22, .null, .null, .int (jI 0)])), (q21, .inl (kT 0, 1620, .inl (fun _ => jI 0))), (q22, .inl (kT 0, 81, .inl (fun _ => jI 0))), (q23, .inl (kT 0, 81, .inl (fun _ => jI 0)))] := hD
  refine va_putF (D := D) (ci := 4) (v := .ref q23) (ty := tyX4 3) (C := RX4) (T := TX4) (N := 6) hx hb hts jin4 tyX4 tyX4_ok nmX4 hown hK hP hD hS 0 rfl rfl 3 (by decide) (hts (.fieldLink RX4 18 "MacroBench$Scopes" "firstItems" "[I") kg119) (fun _ h9 => h9) rfl hin rfl (tyX4_ok 3 (by decide)) rfl rfl (Nat.le_of_ble_eq_true rfl) dX4_init_26 (fun H locs hP hD hS => ?_)
  have hP : va_P D jcl [(h0, .inr (4, [.null, .ref q21, .ref q22, .ref q23, .null, .int (jI 0)])), (q21, .inl (kT 0, 1620, .inl (fun _ => jI 0))), (q22, .inl (kT 0, 81, .inl (fun _ => jI 0))), (q23, .inl (kT 0, 81, .inl (fun _ => jI 0)))] H := hP
  have hD : va_D A [(h0, .inr (4, [.null, .ref q21, .ref q22, .ref q23, .null, .int (jI 0)])), (q21, .inl (kT 0, 1620, .inl (fun _ => jI 0))), (q22, .inl (kT 0, 81, .inl (fun _ => jI 0))), (q23, .inl (kT 0, 81, .inl (fun _ => jI 0)))] := hD
  refine lv_aload_n hx hb dX4_init_29 rfl (lv_at hl 0 rfl) ?_
  refine lv_sipush hx hb dX4_init_30 (jc_int16 (by decide) (by decide)) ?_
  refine jnewa (atype := .int) (ty := .int) (k0 := 0) (kA := kT 0) hx hb (hts _ kg78) rfl (fun _ => rfl) hK rfl hP hD hS hA (N' := 200) (a0 := (200, .inl (fun _ => jI 0))) (fun _ => rfl) (by decide) (by decide) (Nat.le_of_ble_eq_true rfl) (Nat.le_of_ble_eq_true rfl) (Nat.le_of_ble_eq_true rfl) dX4_init_33 (fun q24 H hP hD hS => ?_)
  have hP : va_P D jcl [(h0, .inr (4, [.null, .ref q21, .ref q22, .ref q23, .null, .int (jI 0)])), (q21, .inl (kT 0, 1620, .inl (fun _ => jI 0))), (q22, .inl (kT 0, 81, .inl (fun _ => jI 0))), (q23, .inl (kT 0, 81, .inl (fun _ => jI 0))), (q24, .inl (kT 0, 200, .inl (fun _ => jI 0)))] H := hP
  have hD : va_D A [(h0, .inr (4, [.null, .ref q21, .ref q22, .ref q23, .null, .int (jI 0)])), (q21, .inl (kT 0, 1620, .inl (fun _ => jI 0))), (q22, .inl (kT 0, 81, .inl (fun _ => jI 0))), (q23, .inl (kT 0, 81, .inl (fun _ => jI 0))), (q24, .inl (kT 0, 200, .inl (fun _ => jI 0)))] := hD
  refine va_putF (D := D) (ci := 4) (v := .ref q24) (ty := tyX4 4) (C := RX4) (T := TX4) (N := 6) hx hb hts jin4 tyX4 tyX4_ok nmX4 hown hK hP hD hS 0 rfl rfl 4 (by decide) (hts (.fieldLink RX4 21 "MacroBench$Scopes" "homes" "[I") kg120) (fun _ h9 => h9) rfl hin rfl (tyX4_ok 4 (by decide)) rfl rfl (Nat.le_of_ble_eq_true rfl) dX4_init_35 (fun H locs hP hD hS => ?_)
  have hP : va_P D jcl [(h0, .inr (4, [.null, .ref q21, .ref q22, .ref q23, .ref q24, .int (jI 0)])), (q21, .inl (kT 0, 1620, .inl (fun _ => jI 0))), (q22, .inl (kT 0, 81, .inl (fun _ => jI 0))), (q23, .inl (kT 0, 81, .inl (fun _ => jI 0))), (q24, .inl (kT 0, 200, .inl (fun _ => jI 0)))] H := hP
  have hD : va_D A [(h0, .inr (4, [.null, .ref q21, .ref q22, .ref q23, .ref q24, .int (jI 0)])), (q21, .inl (kT 0, 1620, .inl (fun _ => jI 0))), (q22, .inl (kT 0, 81, .inl (fun _ => jI 0))), (q23, .inl (kT 0, 81, .inl (fun _ => jI 0))), (q24, .inl (kT 0, 200, .inl (fun _ => jI 0)))] := hD
  refine lv_aload_n hx hb dX4_init_38 rfl (lv_at hl 0 rfl) ?_
  refine lv_aload_n hx hb dX4_init_39 rfl (lv_at hl 1 rfl) ?_
  refine va_putF (D := D) (ci := 4) (v := .ref h1) (ty := tyX4 0) (C := RX4) (T := TX4) (N := 6) hx hb hts jin4 tyX4 tyX4_ok nmX4 hown hK hP hD hS 0 rfl rfl 0 (by decide) (hts (.fieldLink RX4 24 "MacroBench$Scopes" "listing" "LMacroBench$Listing;") kg116) (fun _ h9 => h9) rfl hin rfl (tyX4_ok 0 (by decide)) rfl rfl (Nat.le_of_ble_eq_true rfl) dX4_init_40 (fun H locs hP hD hS => ?_)
  have hP : va_P D jcl [(h0, .inr (4, [.ref h1, .ref q21, .ref q22, .ref q23, .ref q24, .int (jI 0)])), (q21, .inl (kT 0, 1620, .inl (fun _ => jI 0))), (q22, .inl (kT 0, 81, .inl (fun _ => jI 0))), (q23, .inl (kT 0, 81, .inl (fun _ => jI 0))), (q24, .inl (kT 0, 200, .inl (fun _ => jI 0)))] H := hP
  have hD : va_D A [(h0, .inr (4, [.ref h1, .ref q21, .ref q22, .ref q23, .ref q24, .int (jI 0)])), (q21, .inl (kT 0, 1620, .inl (fun _ => jI 0))), (q22, .inl (kT 0, 81, .inl (fun _ => jI 0))), (q23, .inl (kT 0, 81, .inl (fun _ => jI 0))), (q24, .inl (kT 0, 200, .inl (fun _ => jI 0)))] := hD
  exact W.vret hx hb hr (fun t ht hW => ⟨⟨(fun k => if k = 3 then h0 else if k = 21 then q21 else if k = 22 then q22 else if k = 23 then q23 else if k = 24 then q24 else 0), rfl, rfl, by rw [ht]; exact hP, va_K.moved hW.alike hK, hD⟩, hS.F ht⟩) hS.2.2 dX4_init_43
/-- the cells that MacroBench$Expander makes -/
def cW1 (kT : Nat → ClassId) (h1 : Nat) (h2 : Nat) (h3 : Nat) (ad : Nat → Nat) : va_W := [(ad 4, .inr (1, [.ref (h1), .ref (h2), .ref (h3), .ref (ad 25), .ref (ad 26), .ref (ad 27), .ref (ad 28), .int (jI 0), .int (jI 0), .int (jI 0), .int (jI 0)])), (ad 25, .inl (kT 0, 80, .inl (fun _ => jI 0))), (ad 26, .inl (kT 0, 9, .inl (fun _ => jI 0))), (ad 27, .inl (kT 0, 18, .inl (fun _ => jI 0))), (ad 28, .inl (kT 0, 18, .inl (fun _ => jI 0)))]
set_option maxHeartbeats 4000000 in
set_option maxRecDepth 100000 in
theorem cc_1 (l : Launch) (D : va_G) (kT : Nat → ClassId) (h0 h1 h2 h3 sz : Nat) : Met l yX1_init (Cond.code yX1_init cX1_init 4 none :: jG) ({ frames := 1, cells := 4, slots := 125, locals := 46 }) (va_Pc [.ref h0, .ref h1, .ref h2, .ref h3] (fun U => U.heap.size = sz ∧ va_P D jcl [(h0, .inr (1, [.null, .null, .null, .null, .null, .null, .null, .int (jI 0), .int (jI 0), .int (jI 0), .int (jI 0)]))] U.heap ∧ va_K D jcl [(kT 0, .int), (kT 1, .long), (kT 2, .boolean)] U ∧ va_D (fun _ => True) [(h0, .inr (1, [.null, .null, .null, .null, .null, .null, .null, .int (jI 0), .int (jI 0), .int (jI 0), .int (jI 0)]))])) (va_Qv (fun ad : Nat → Nat => ad 4 = h0) (fun ad t => va_P D jcl (cW1 kT h1 h2 h3 ad) t.heap ∧ va_K D jcl [(kT 0, .int), (kT 1, .long), (kT 2, .boolean)] t ∧ va_D (va_A [(h0, .inr (1, [.null, .null, .null, .null, .null, .null, .null, .int (jI 0), .int (jI 0), .int (jI 0), .int (jI 0)]))] sz) (cW1 kT h1 h2 h3 ad)) (va_A [(h0, .inr (1, [.null, .null, .null, .null, .null, .null, .null, .int (jI 0), .int (jI 0), .int (jI 0), .int (jI 0)]))] sz)) 4 125 (va_A [(h0, .inr (1, [.null, .null, .null, .null, .null, .null, .null, .int (jI 0), .int (jI 0), .int (jI 0), .int (jI 0)]))] sz) := by
  refine Met.ofW (cc := cX1_init) (maxL := 4) (ret := none) (by decide) rfl ?_
  intro p e s m args below meth c s₁ B hml hv
  obtain ⟨rfl, hsz, hP, hK, hD0⟩ := hv
  have hx := B.exec
  have hb := B.bytes
  have hr := B.returns
  have hts0 := atoms_spec (ws := Cond.code yX1_init cX1_init 4 none :: jG) B.pre
  have hts : ∀ w ∈ jG, w.before _ s = true := fun w hw => hts0 w (List.mem_cons_of_mem _ hw)
  have hown : s.vm.findClass RX1 = some m.cls := findClass_of_methodNamed B.named
  have hlocks := B.notSynchronized
  have hin : meth.name = "<init>" := (name_of_methodNamed B.named B.method).1
  subst hsz
  have hD := hD0.self (sz := s.heap.size)
  generalize hAe : va_A [(h0, .inr (1, [.null, .null, .null, .null, .null, .null, .null, .int (jI 0), .int (jI 0), .int (jI 0), .int (jI 0)]))] s.heap.size = A at hD ⊢
  have hA : ∀ q : Nat, s.heap.size ≤ q → A q := fun q h => by rw [← hAe]; exact Or.inr h
  have hS : va_S A s.heap s.heap [] := va_S.rf
  have hl := lv_entry ([.ref h0, .ref h1, .ref h2, .ref h3]) (n := 4) (Nat.le_of_ble_eq_true rfl)
  rw [lg_entry_eq]
  generalize (lg_sl ([.ref h0, .ref h1, .ref h2, .ref h3]) ++ List.replicate (4 - (lg_sl ([.ref h0, .ref h1, .ref h2, .ref h3])).length) Slot.unset).toArray = ls at hl ⊢
  have hl : lv_has ls 4 [(0, .ref h0), (1, .ref h1), (2, .ref h2), (3, .ref h3)] := hl
  refine lv_aload_n hx hb dX1_init_0 rfl (lv_at hl 0 rfl) ?_
  refine W.objInit hx hb hown (hts (.methodLink RX1 3 objectInit) kg140) (hts (.instanceMethod objectInit) kg36) (hts _ kg37) rfl (by rw [hml]; exact hl.1) rfl dX1_init_1 (Nat.le_of_ble_eq_true rfl) (Nat.le_of_ble_eq_true rfl) ?_
  refine W.eq (g2 := F0 m 4 ls []) rfl ?_
  refine lv_aload_n hx hb dX1_init_4 rfl (lv_at hl 0 rfl) ?_
  refine lv_bipush hx hb dX1_init_5 (jc_int (by decide) (by decide)) ?_
  refine jnewa (atype := .int) (ty := .int) (k0 := 0) (kA := kT 0) hx hb (hts _ kg78) rfl (fun _ => rfl) hK rfl hP hD hS hA (N' := 80) (a0 := (80, .inl (fun _ => jI 0))) (fun _ => rfl) (by decide) (by decide) (Nat.le_of_ble_eq_true rfl) (Nat.le_of_ble_eq_true rfl) (Nat.le_of_ble_eq_true rfl) dX1_init_7 (fun q25 H hP hD hS => ?_)
  have hP : va_P D jcl [(h0, .inr (1, [.null, .null, .null, .null, .null, .null, .null, .int (jI 0), .int (jI 0), .int (jI 0), .int (jI 0)])), (q25, .inl (kT 0, 80, .inl (fun _ => jI 0)))] H := hP
  have hD : va_D A [(h0, .inr (1, [.null, .null, .null, .null, .null, .null, .null, .int (jI 0), .int (jI 0), .int (jI 0), .int (jI 0)])), (q25, .inl (kT 0, 80, .inl (fun _ => jI 0)))] := hD
  refine va_putF (D := D) (ci := 1) (v := .ref q25) (ty := tyX1 3) (C := RX1) (T := TX1) (N := 11) hx hb hts jin1 tyX1 tyX1_ok nmX1 hown hK hP hD hS 0 rfl rfl 3 (by decide) (hts (.fieldLink RX1 9 "MacroBench$Expander" "roundsLeft" "[I") kg144) (fun _ h9 => h9) rfl hin rfl (tyX1_ok 3 (by decide)) rfl rfl (Nat.le_of_ble_eq_true rfl) dX1_init_9 (fun H locs hP hD hS => ?_)
  have hP : va_P D jcl [(h0, .inr (1, [.null, .null, .null, .ref q25, .null, .null, .null, .int (jI 0), .int (jI 0), .int (jI 0), .int (jI 0)])), (q25, .inl (kT 0, 80, .inl (fun _ => jI 0)))] H := hP
  have hD : va_D A [(h0, .inr (1, [.null, .null, .null, .ref q25, .null, .null, .null, .int (jI 0), .int (jI 0), .int (jI 0), .int (jI 0)])), (q25, .inl (kT 0, 80, .inl (fun _ => jI 0)))] := hD
  refine lv_aload_n hx hb dX1_init_12 rfl (lv_at hl 0 rfl) ?_
  refine lv_bipush hx hb dX1_init_13 (jc_int (by decide) (by decide)) ?_
  refine jnewa (atype := .int) (ty := .int) (k0 := 0) (kA := kT 0) hx hb (hts _ kg78) rfl (fun _ => rfl) hK rfl hP hD hS hA (N' := 9) (a0 := (9, .inl (fun _ => jI 0))) (fun _ => rfl) (by decide) (by decide) (Nat.le_of_ble_eq_true rfl) (Nat.le_of_ble_eq_true rfl) (Nat.le_of_ble_eq_true rfl) dX1_init_15 (fun q26 H hP hD hS => ?_)
  have hP : va_P D jcl [(h0, .inr (1, [.null, .null, .null, .ref q25, .null, .null, .null, .int (jI 0), .int (jI 0), .int (jI 0), .int (jI 0)])), (q25, .inl (kT 0, 80, .inl (fun _ => jI 0))), (q26, .inl (kT 0, 9, .inl (fun _ => jI 0)))] H := hP
  have hD : va_D A [(h0, .inr (1, [.null, .null, .null, .ref q25, .null, .null, .null, .int (jI 0), .int (jI 0), .int (jI 0), .int (jI 0)])), (q25, .inl (kT 0, 80, .inl (fun _ => jI 0))), (q26, .inl (kT 0, 9, .inl (fun _ => jI 0)))] := hD
  refine va_putF (D := D) (ci := 1) (v := .ref q26) (ty := tyX1 4) (C := RX1) (T := TX1) (N := 11) hx hb hts jin1 tyX1 tyX1_ok nmX1 hown hK hP hD hS 0 rfl rfl 4 (by decide) (hts (.fieldLink RX1 15 "MacroBench$Expander" "callLines" "[I") kg145) (fun _ h9 => h9) rfl hin rfl (tyX1_ok 4 (by decide)) rfl rfl (Nat.le_of_ble_eq_true rfl) dX1_init_17 (fun H locs hP hD hS => ?_)
  have hP : va_P D jcl [(h0, .inr (1, [.null, .null, .null, .ref q25, .ref q26, .null, .null, .int (jI 0), .int (jI 0), .int (jI 0), .int (jI 0)])), (q25, .inl (kT 0, 80, .inl (fun _ => jI 0))), (q26, .inl (kT 0, 9, .inl (fun _ => jI 0)))] H := hP
  have hD : va_D A [(h0, .inr (1, [.null, .null, .null, .ref q25, .ref q26, .null, .null, .int (jI 0), .int (jI 0), .int (jI 0), .int (jI 0)])), (q25, .inl (kT 0, 80, .inl (fun _ => jI 0))), (q26, .inl (kT 0, 9, .inl (fun _ => jI 0)))] := hD
  refine lv_aload_n hx hb dX1_init_20 rfl (lv_at hl 0 rfl) ?_
  refine lv_bipush hx hb dX1_init_21 (jc_int (by decide) (by decide)) ?_
  refine jnewa (atype := .int) (ty := .int) (k0 := 0) (kA := kT 0) hx hb (hts _ kg78) rfl (fun _ => rfl) hK rfl hP hD hS hA (N' := 18) (a0 := (18, .inl (fun _ => jI 0))) (fun _ => rfl) (by decide) (by decide) (Nat.le_of_ble_eq_true rfl) (Nat.le_of_ble_eq_true rfl) (Nat.le_of_ble_eq_true rfl) dX1_init_23 (fun q27 H hP hD hS => ?_)
  have hP : va_P D jcl [(h0, .inr (1, [.null, .null, .null, .ref q25, .ref q26, .null, .null, .int (jI 0), .int (jI 0), .int (jI 0), .int (jI 0)])), (q25, .inl (kT 0, 80, .inl (fun _ => jI 0))), (q26, .inl (kT 0, 9, .inl (fun _ => jI 0))), (q27, .inl (kT 0, 18, .inl (fun _ => jI 0)))] H := hP
  have hD : va_D A [(h0, .inr (1, [.null, .null, .null, .ref q25, .ref q26, .null, .null, .int (jI 0), .int (jI 0), .int (jI 0), .int (jI 0)])), (q25, .inl (kT 0, 80, .inl (fun _ => jI 0))), (q26, .inl (kT 0, 9, .inl (fun _ => jI 0))), (q27, .inl (kT 0, 18, .inl (fun _ => jI 0)))] := hD
  refine va_putF (D := D) (ci := 1) (v := .ref q27) (ty := tyX1 5) (C := RX1) (T := TX1) (N := 11) hx hb hts jin1 tyX1 tyX1_ok nmX1 hown hK hP hD hS 0 rfl rfl 5 (by decide) (hts (.fieldLink RX1 18 "MacroBench$Expander" "arguments" "[I") kg146) (fun _ h9 => h9) rfl hin rfl (tyX1_ok 5 (by decide)) rfl rfl (Nat.le_of_ble_eq_true rfl) dX1_init_25 (fun H locs hP hD hS => ?_)
  have hP : va_P D jcl [(h0, .inr (1, [.null, .null, .null, .ref q25, .ref q26, .ref q27, .null, .int (jI 0), .int (jI 0), .int (jI 0), .int (jI 0)])), (q25, .inl (kT 0, 80, .inl (fun _ => jI 0))), (q26, .inl (kT 0, 9, .inl (fun _ => jI 0))), (q27, .inl (kT 0, 18, .inl (fun _ => jI 0)))] H := hP
  have hD : va_D A [(h0, .inr (1, [.null, .null, .null, .ref q25, .ref q26, .ref q27, .null, .int (jI 0), .int (jI 0), .int (jI 0), .int (jI 0)])), (q25, .inl (kT 0, 80, .inl (fun _ => jI 0))), (q26, .inl (kT 0, 9, .inl (fun _ => jI 0))), (q27, .inl (kT 0, 18, .inl (fun _ => jI 0)))] := hD
  refine lv_aload_n hx hb dX1_init_28 rfl (lv_at hl 0 rfl) ?_
  refine lv_bipush hx hb dX1_init_29 (jc_int (by decide) (by decide)) ?_
  refine jnewa (atype := .int) (ty := .int) (k0 := 0) (kA := kT 0) hx hb (hts _ kg78) rfl (fun _ => rfl) hK rfl hP hD hS hA (N' := 18) (a0 := (18, .inl (fun _ => jI 0))) (fun _ => rfl) (by decide) (by decide) (Nat.le_of_ble_eq_true rfl) (Nat.le_of_ble_eq_true rfl) (Nat.le_of_ble_eq_true rfl) dX1_init_31 (fun q28 H hP hD hS => ?_)
  have hP : va_P D jcl [(h0, .inr (1, [.null, .null, .null, .ref q25, .ref q26, .ref q27, .null, .int (jI 0), .int (jI 0), .int (jI 0), .int (jI 0)])), (q25, .inl (kT 0, 80, .inl (fun _ => jI 0))), (q26, .inl (kT 0, 9, .inl (fun _ => jI 0))), (q27, .inl (kT 0, 18, .inl (fun _ => jI 0))), (q28, .inl (kT 0, 18, .inl (fun _ => jI 0)))] H := hP
  have hD : va_D A [(h0, .inr (1, [.null, .null, .null, .ref q25, .ref q26, .ref q27, .null, .int (jI 0), .int (jI 0), .int (jI 0), .int (jI 0)])), (q25, .inl (kT 0, 80, .inl (fun _ => jI 0))), (q26, .inl (kT 0, 9, .inl (fun _ => jI 0))), (q27, .inl (kT 0, 18, .inl (fun _ => jI 0))), (q28, .inl (kT 0, 18, .inl (fun _ => jI 0)))] := hD
  refine va_putF (D := D) (ci := 1) (v := .ref q28) (ty := tyX1 6) (C := RX1) (T := TX1) (N := 11) hx hb hts jin1 tyX1 tyX1_ok nmX1 hown hK hP hD hS 0 rfl rfl 6 (by decide) (hts (.fieldLink RX1 21 "MacroBench$Expander" "argumentScopes" "[I") kg147) (fun _ h9 => h9) rfl hin rfl (tyX1_ok 6 (by decide)) rfl rfl (Nat.le_of_ble_eq_true rfl) dX1_init_33 (fun H locs hP hD hS => ?_)
  have hP : va_P D jcl [(h0, .inr (1, [.null, .null, .null, .ref q25, .ref q26, .ref q27, .ref q28, .int (jI 0), .int (jI 0), .int (jI 0), .int (jI 0)])), (q25, .inl (kT 0, 80, .inl (fun _ => jI 0))), (q26, .inl (kT 0, 9, .inl (fun _ => jI 0))), (q27, .inl (kT 0, 18, .inl (fun _ => jI 0))), (q28, .inl (kT 0, 18, .inl (fun _ => jI 0)))] H := hP
  have hD : va_D A [(h0, .inr (1, [.null, .null, .null, .ref q25, .ref q26, .ref q27, .ref q28, .int (jI 0), .int (jI 0), .int (jI 0), .int (jI 0)])), (q25, .inl (kT 0, 80, .inl (fun _ => jI 0))), (q26, .inl (kT 0, 9, .inl (fun _ => jI 0))), (q27, .inl (kT 0, 18, .inl (fun _ => jI 0))), (q28, .inl (kT 0, 18, .inl (fun _ => jI 0)))] := hD
  refine lv_aload_n hx hb dX1_init_36 rfl (lv_at hl 0 rfl) ?_
  refine lv_iconst hx hb dX1_init_37 rfl ?_
  refine va_put (D := D) (ci := 1) (v := .int (jI 0)) (ty := tyX1 9) (C := RX1) (T := TX1) (N := 11) hx hb hts jin1 tyX1 tyX1_ok nmX1 hown hK hP hD hS 0 rfl rfl 9 (by decide) (hts (.fieldLink RX1 24 "MacroBench$Expander" "faultKind" "I") kg150) (fun _ h9 => h9) rfl (tyX1_ok 9 (by decide)) (jfit (t := 0) (Or.inl rfl) (show jrng 0 (0) from ⟨by decide, by decide⟩)).1 (jfit (t := 0) (Or.inl rfl) (show jrng 0 (0) from ⟨by decide, by decide⟩)).2 (Nat.le_of_ble_eq_true rfl) dX1_init_38 (fun H locs hP hD hS => ?_)
  have hP : va_P D jcl [(h0, .inr (1, [.null, .null, .null, .ref q25, .ref q26, .ref q27, .ref q28, .int (jI 0), .int (jI 0), .int (jI 0), .int (jI 0)])), (q25, .inl (kT 0, 80, .inl (fun _ => jI 0))), (q26, .inl (kT 0, 9, .inl (fun _ => jI 0))), (q27, .inl (kT 0, 18, .inl (fun _ => jI 0))), (q28, .inl (kT 0, 18, .inl (fun _ => jI 0)))] H := hP
  have hD : va_D A [(h0, .inr (1, [.null, .null, .null, .ref q25, .ref q26, .ref q27, .ref q28, .int (jI 0), .int (jI 0), .int (jI 0), .int (jI 0)])), (q25, .inl (kT 0, 80, .inl (fun _ => jI 0))), (q26, .inl (kT 0, 9, .inl (fun _ => jI 0))), (q27, .inl (kT 0, 18, .inl (fun _ => jI 0))), (q28, .inl (kT 0, 18, .inl (fun _ => jI 0)))] := hD
  refine lv_aload_n hx hb dX1_init_41 rfl (lv_at hl 0 rfl) ?_
  refine lv_aload_n hx hb dX1_init_42 rfl (lv_at hl 1 rfl) ?_
  refine va_putF (D := D) (ci := 1) (v := .ref h1) (ty := tyX1 0) (C := RX1) (T := TX1) (N := 11) hx hb hts jin1 tyX1 tyX1_ok nmX1 hown hK hP hD hS 0 rfl rfl 0 (by decide) (hts (.fieldLink RX1 28 "MacroBench$Expander" "source" "LMacroBench$Source;") kg141) (fun _ h9 => h9) rfl hin rfl (tyX1_ok 0 (by decide)) rfl rfl (Nat.le_of_ble_eq_true rfl) dX1_init_43 (fun H locs hP hD hS => ?_)
  have hP : va_P D jcl [(h0, .inr (1, [.ref h1, .null, .null, .ref q25, .ref q26, .ref q27, .ref q28, .int (jI 0), .int (jI 0), .int (jI 0), .int (jI 0)])), (q25, .inl (kT 0, 80, .inl (fun _ => jI 0))), (q26, .inl (kT 0, 9, .inl (fun _ => jI 0))), (q27, .inl (kT 0, 18, .inl (fun _ => jI 0))), (q28, .inl (kT 0, 18, .inl (fun _ => jI 0)))] H := hP
  have hD : va_D A [(h0, .inr (1, [.ref h1, .null, .null, .ref q25, .ref q26, .ref q27, .ref q28, .int (jI 0), .int (jI 0), .int (jI 0), .int (jI 0)])), (q25, .inl (kT 0, 80, .inl (fun _ => jI 0))), (q26, .inl (kT 0, 9, .inl (fun _ => jI 0))), (q27, .inl (kT 0, 18, .inl (fun _ => jI 0))), (q28, .inl (kT 0, 18, .inl (fun _ => jI 0)))] := hD
  refine lv_aload_n hx hb dX1_init_46 rfl (lv_at hl 0 rfl) ?_
  refine lv_aload_n hx hb dX1_init_47 rfl (lv_at hl 2 rfl) ?_
  refine va_putF (D := D) (ci := 1) (v := .ref h2) (ty := tyX1 1) (C := RX1) (T := TX1) (N := 11) hx hb hts jin1 tyX1 tyX1_ok nmX1 hown hK hP hD hS 0 rfl rfl 1 (by decide) (hts (.fieldLink RX1 32 "MacroBench$Expander" "listing" "LMacroBench$Listing;") kg142) (fun _ h9 => h9) rfl hin rfl (tyX1_ok 1 (by decide)) rfl rfl (Nat.le_of_ble_eq_true rfl) dX1_init_48 (fun H locs hP hD hS => ?_)
  have hP : va_P D jcl [(h0, .inr (1, [.ref h1, .ref h2, .null, .ref q25, .ref q26, .ref q27, .ref q28, .int (jI 0), .int (jI 0), .int (jI 0), .int (jI 0)])), (q25, .inl (kT 0, 80, .inl (fun _ => jI 0))), (q26, .inl (kT 0, 9, .inl (fun _ => jI 0))), (q27, .inl (kT 0, 18, .inl (fun _ => jI 0))), (q28, .inl (kT 0, 18, .inl (fun _ => jI 0)))] H := hP
  have hD : va_D A [(h0, .inr (1, [.ref h1, .ref h2, .null, .ref q25, .ref q26, .ref q27, .ref q28, .int (jI 0), .int (jI 0), .int (jI 0), .int (jI 0)])), (q25, .inl (kT 0, 80, .inl (fun _ => jI 0))), (q26, .inl (kT 0, 9, .inl (fun _ => jI 0))), (q27, .inl (kT 0, 18, .inl (fun _ => jI 0))), (q28, .inl (kT 0, 18, .inl (fun _ => jI 0)))] := hD
  refine lv_aload_n hx hb dX1_init_51 rfl (lv_at hl 0 rfl) ?_
  refine lv_aload_n hx hb dX1_init_52 rfl (lv_at hl 3 rfl) ?_
  refine va_putF (D := D) (ci := 1) (v := .ref h3) (ty := tyX1 2) (C := RX1) (T := TX1) (N := 11) hx hb hts jin1 tyX1 tyX1_ok nmX1 hown hK hP hD hS 0 rfl rfl 2 (by decide) (hts (.fieldLink RX1 36 "MacroBench$Expander" "scopes" "LMacroBench$Scopes;") kg143) (fun _ h9 => h9) rfl hin rfl (tyX1_ok 2 (by decide)) rfl rfl (Nat.le_of_ble_eq_true rfl) dX1_init_53 (fun H locs hP hD hS => ?_)
  have hP : va_P D jcl [(h0, .inr (1, [.ref h1, .ref h2, .ref h3, .ref q25, .ref q26, .ref q27, .ref q28, .int (jI 0), .int (jI 0), .int (jI 0), .int (jI 0)])), (q25, .inl (kT 0, 80, .inl (fun _ => jI 0))), (q26, .inl (kT 0, 9, .inl (fun _ => jI 0))), (q27, .inl (kT 0, 18, .inl (fun _ => jI 0))), (q28, .inl (kT 0, 18, .inl (fun _ => jI 0)))] H := hP
  have hD : va_D A [(h0, .inr (1, [.ref h1, .ref h2, .ref h3, .ref q25, .ref q26, .ref q27, .ref q28, .int (jI 0), .int (jI 0), .int (jI 0), .int (jI 0)])), (q25, .inl (kT 0, 80, .inl (fun _ => jI 0))), (q26, .inl (kT 0, 9, .inl (fun _ => jI 0))), (q27, .inl (kT 0, 18, .inl (fun _ => jI 0))), (q28, .inl (kT 0, 18, .inl (fun _ => jI 0)))] := hD
  exact W.vret hx hb hr (fun t ht hW => ⟨⟨(fun k => if k = 4 then h0 else if k = 25 then q25 else if k = 26 then q26 else if k = 27 then q27 else if k = 28 then q28 else 0), rfl, rfl, by rw [ht]; exact hP, va_K.moved hW.alike hK, hD⟩, hS.F ht⟩) hS.2.2 dX1_init_56
/-- the cells that MacroBench$Counter makes -/
def cW0 (kT : Nat → ClassId) (h1 : Nat) (ad : Nat → Nat) : va_W := [(ad 6, .inr (0, [.ref (h1), .ref (ad 31), .ref (ad 32), .ref (ad 33), .long (jL 1)])), (ad 31, .inl (kT 0, 80, .inl (fun _ => jI 0))), (ad 32, .inl (kT 1, 4096, .inr (.inl (fun _ => jL 0)))), (ad 33, .inl (kT 0, 4096, .inl (fun _ => jI 0)))]
set_option maxHeartbeats 4000000 in
set_option maxRecDepth 100000 in
theorem cc_0 (l : Launch) (D : va_G) (kT : Nat → ClassId) (h0 h1 sz : Nat) : Met l yX0_init (Cond.code yX0_init cX0_init 2 none :: jG) ({ frames := 1, cells := 3, slots := 8272, locals := 46 }) (va_Pc [.ref h0, .ref h1] (fun U => U.heap.size = sz ∧ va_P D jcl [(h0, .inr (0, [.null, .null, .null, .null, .long (jL 0)]))] U.heap ∧ va_K D jcl [(kT 0, .int), (kT 1, .long), (kT 2, .boolean)] U ∧ va_D (fun _ => True) [(h0, .inr (0, [.null, .null, .null, .null, .long (jL 0)]))])) (va_Qv (fun ad : Nat → Nat => ad 6 = h0) (fun ad t => va_P D jcl (cW0 kT h1 ad) t.heap ∧ va_K D jcl [(kT 0, .int), (kT 1, .long), (kT 2, .boolean)] t ∧ va_D (va_A [(h0, .inr (0, [.null, .null, .null, .null, .long (jL 0)]))] sz) (cW0 kT h1 ad)) (va_A [(h0, .inr (0, [.null, .null, .null, .null, .long (jL 0)]))] sz)) 3 8272 (va_A [(h0, .inr (0, [.null, .null, .null, .null, .long (jL 0)]))] sz) := by
  refine Met.ofW (cc := cX0_init) (maxL := 2) (ret := none) (by decide) rfl ?_
  intro p e s m args below meth c s₁ B hml hv
  obtain ⟨rfl, hsz, hP, hK, hD0⟩ := hv
  have hx := B.exec
  have hb := B.bytes
  have hr := B.returns
  have hts0 := atoms_spec (ws := Cond.code yX0_init cX0_init 2 none :: jG) B.pre
  have hts : ∀ w ∈ jG, w.before _ s = true := fun w hw => hts0 w (List.mem_cons_of_mem _ hw)
  have hown : s.vm.findClass RX0 = some m.cls := findClass_of_methodNamed B.named
  have hlocks := B.notSynchronized
  have hin : meth.name = "<init>" := (name_of_methodNamed B.named B.method).1
  subst hsz
  have hD := hD0.self (sz := s.heap.size)
  generalize hAe : va_A [(h0, .inr (0, [.null, .null, .null, .null, .long (jL 0)]))] s.heap.size = A at hD ⊢
  have hA : ∀ q : Nat, s.heap.size ≤ q → A q := fun q h => by rw [← hAe]; exact Or.inr h
  have hS : va_S A s.heap s.heap [] := va_S.rf
  have hl := lv_entry ([.ref h0, .ref h1]) (n := 2) (Nat.le_of_ble_eq_true rfl)
  rw [lg_entry_eq]
  generalize (lg_sl ([.ref h0, .ref h1]) ++ List.replicate (2 - (lg_sl ([.ref h0, .ref h1])).length) Slot.unset).toArray = ls at hl ⊢
  have hl : lv_has ls 2 [(0, .ref h0), (1, .ref h1)] := hl
  refine lv_aload_n hx hb dX0_init_0 rfl (lv_at hl 0 rfl) ?_
  refine W.objInit hx hb hown (hts (.methodLink RX0 5 objectInit) kg200) (hts (.instanceMethod objectInit) kg36) (hts _ kg37) rfl (by rw [hml]; exact hl.1) rfl dX0_init_1 (Nat.le_of_ble_eq_true rfl) (Nat.le_of_ble_eq_true rfl) ?_
  refine W.eq (g2 := F0 m 4 ls []) rfl ?_
  refine lv_aload_n hx hb dX0_init_4 rfl (lv_at hl 0 rfl) ?_
  refine lv_bipush hx hb dX0_init_5 (jc_int (by decide) (by decide)) ?_
  refine jnewa (atype := .int) (ty := .int) (k0 := 0) (kA := kT 0) hx hb (hts _ kg78) rfl (fun _ => rfl) hK rfl hP hD hS hA (N' := 80) (a0 := (80, .inl (fun _ => jI 0))) (fun _ => rfl) (by decide) (by decide) (Nat.le_of_ble_eq_true rfl) (Nat.le_of_ble_eq_true rfl) (Nat.le_of_ble_eq_true rfl) dX0_init_7 (fun q31 H hP hD hS => ?_)
  have hP : va_P D jcl [(h0, .inr (0, [.null, .null, .null, .null, .long (jL 0)])), (q31, .inl (kT 0, 80, .inl (fun _ => jI 0)))] H := hP
  have hD : va_D A [(h0, .inr (0, [.null, .null, .null, .null, .long (jL 0)])), (q31, .inl (kT 0, 80, .inl (fun _ => jI 0)))] := hD
  refine va_putF (D := D) (ci := 0) (v := .ref q31) (ty := tyX0 1) (C := RX0) (T := TX0) (N := 5) hx hb hts jin0 tyX0 tyX0_ok nmX0 hown hK hP hD hS 0 rfl rfl 1 (by decide) (hts (.fieldLink RX0 11 "MacroBench$Counter" "outerFactors" "[I") kg202) (fun _ h9 => h9) rfl hin rfl (tyX0_ok 1 (by decide)) rfl rfl (Nat.le_of_ble_eq_true rfl) dX0_init_9 (fun H locs hP hD hS => ?_)
  have hP : va_P D jcl [(h0, .inr (0, [.null, .ref q31, .null, .null, .long (jL 0)])), (q31, .inl (kT 0, 80, .inl (fun _ => jI 0)))] H := hP
  have hD : va_D A [(h0, .inr (0, [.null, .ref q31, .null, .null, .long (jL 0)])), (q31, .inl (kT 0, 80, .inl (fun _ => jI 0)))] := hD
  refine lv_aload_n hx hb dX0_init_12 rfl (lv_at hl 0 rfl) ?_
  refine lv_sipush hx hb dX0_init_13 (jc_int16 (by decide) (by decide)) ?_
  refine jnewa (atype := .long) (ty := .long) (k0 := 1) (kA := kT 1) hx hb (hts _ kg217) rfl (fun _ => rfl) hK rfl hP hD hS hA (N' := 4096) (a0 := (4096, .inr (.inl (fun _ => jL 0)))) (fun _ => rfl) (by decide) (by decide) (Nat.le_of_ble_eq_true rfl) (Nat.le_of_ble_eq_true rfl) (Nat.le_of_ble_eq_true rfl) dX0_init_16 (fun q32 H hP hD hS => ?_)
  have hP : va_P D jcl [(h0, .inr (0, [.null, .ref q31, .null, .null, .long (jL 0)])), (q31, .inl (kT 0, 80, .inl (fun _ => jI 0))), (q32, .inl (kT 1, 4096, .inr (.inl (fun _ => jL 0))))] H := hP
  have hD : va_D A [(h0, .inr (0, [.null, .ref q31, .null, .null, .long (jL 0)])), (q31, .inl (kT 0, 80, .inl (fun _ => jI 0))), (q32, .inl (kT 1, 4096, .inr (.inl (fun _ => jL 0))))] := hD
  refine va_putF (D := D) (ci := 0) (v := .ref q32) (ty := tyX0 2) (C := RX0) (T := TX0) (N := 5) hx hb hts jin0 tyX0 tyX0_ok nmX0 hown hK hP hD hS 0 rfl rfl 2 (by decide) (hts (.fieldLink RX0 15 "MacroBench$Counter" "keys" "[J") kg203) (fun _ h9 => h9) rfl hin rfl (tyX0_ok 2 (by decide)) rfl rfl (Nat.le_of_ble_eq_true rfl) dX0_init_18 (fun H locs hP hD hS => ?_)
  have hP : va_P D jcl [(h0, .inr (0, [.null, .ref q31, .ref q32, .null, .long (jL 0)])), (q31, .inl (kT 0, 80, .inl (fun _ => jI 0))), (q32, .inl (kT 1, 4096, .inr (.inl (fun _ => jL 0))))] H := hP
  have hD : va_D A [(h0, .inr (0, [.null, .ref q31, .ref q32, .null, .long (jL 0)])), (q31, .inl (kT 0, 80, .inl (fun _ => jI 0))), (q32, .inl (kT 1, 4096, .inr (.inl (fun _ => jL 0))))] := hD
  refine lv_aload_n hx hb dX0_init_21 rfl (lv_at hl 0 rfl) ?_
  refine lv_sipush hx hb dX0_init_22 (jc_int16 (by decide) (by decide)) ?_
  refine jnewa (atype := .int) (ty := .int) (k0 := 0) (kA := kT 0) hx hb (hts _ kg78) rfl (fun _ => rfl) hK rfl hP hD hS hA (N' := 4096) (a0 := (4096, .inl (fun _ => jI 0))) (fun _ => rfl) (by decide) (by decide) (Nat.le_of_ble_eq_true rfl) (Nat.le_of_ble_eq_true rfl) (Nat.le_of_ble_eq_true rfl) dX0_init_25 (fun q33 H hP hD hS => ?_)
  have hP : va_P D jcl [(h0, .inr (0, [.null, .ref q31, .ref q32, .null, .long (jL 0)])), (q31, .inl (kT 0, 80, .inl (fun _ => jI 0))), (q32, .inl (kT 1, 4096, .inr (.inl (fun _ => jL 0)))), (q33, .inl (kT 0, 4096, .inl (fun _ => jI 0)))] H := hP
  have hD : va_D A [(h0, .inr (0, [.null, .ref q31, .ref q32, .null, .long (jL 0)])), (q31, .inl (kT 0, 80, .inl (fun _ => jI 0))), (q32, .inl (kT 1, 4096, .inr (.inl (fun _ => jL 0)))), (q33, .inl (kT 0, 4096, .inl (fun _ => jI 0)))] := hD
  refine va_putF (D := D) (ci := 0) (v := .ref q33) (ty := tyX0 3) (C := RX0) (T := TX0) (N := 5) hx hb hts jin0 tyX0 tyX0_ok nmX0 hown hK hP hD hS 0 rfl rfl 3 (by decide) (hts (.fieldLink RX0 19 "MacroBench$Counter" "counts" "[I") kg204) (fun _ h9 => h9) rfl hin rfl (tyX0_ok 3 (by decide)) rfl rfl (Nat.le_of_ble_eq_true rfl) dX0_init_27 (fun H locs hP hD hS => ?_)
  have hP : va_P D jcl [(h0, .inr (0, [.null, .ref q31, .ref q32, .ref q33, .long (jL 0)])), (q31, .inl (kT 0, 80, .inl (fun _ => jI 0))), (q32, .inl (kT 1, 4096, .inr (.inl (fun _ => jL 0)))), (q33, .inl (kT 0, 4096, .inl (fun _ => jI 0)))] H := hP
  have hD : va_D A [(h0, .inr (0, [.null, .ref q31, .ref q32, .ref q33, .long (jL 0)])), (q31, .inl (kT 0, 80, .inl (fun _ => jI 0))), (q32, .inl (kT 1, 4096, .inr (.inl (fun _ => jL 0)))), (q33, .inl (kT 0, 4096, .inl (fun _ => jI 0)))] := hD
  refine lv_aload_n hx hb dX0_init_30 rfl (lv_at hl 0 rfl) ?_
  refine lv_lconst (v := jL 1) hx hb dX0_init_31 (by decide) ?_
  refine va_put (D := D) (ci := 0) (v := .long (jL 1)) (ty := tyX0 4) (C := RX0) (T := TX0) (N := 5) hx hb hts jin0 tyX0 tyX0_ok nmX0 hown hK hP hD hS 0 rfl rfl 4 (by decide) (hts (.fieldLink RX0 22 "MacroBench$Counter" "generation" "J") kg205) (fun _ h9 => h9) rfl (tyX0_ok 4 (by decide)) rfl rfl (Nat.le_of_ble_eq_true rfl) dX0_init_32 (fun H locs hP hD hS => ?_)
  have hP : va_P D jcl [(h0, .inr (0, [.null, .ref q31, .ref q32, .ref q33, .long (jL 1)])), (q31, .inl (kT 0, 80, .inl (fun _ => jI 0))), (q32, .inl (kT 1, 4096, .inr (.inl (fun _ => jL 0)))), (q33, .inl (kT 0, 4096, .inl (fun _ => jI 0)))] H := hP
  have hD : va_D A [(h0, .inr (0, [.null, .ref q31, .ref q32, .ref q33, .long (jL 1)])), (q31, .inl (kT 0, 80, .inl (fun _ => jI 0))), (q32, .inl (kT 1, 4096, .inr (.inl (fun _ => jL 0)))), (q33, .inl (kT 0, 4096, .inl (fun _ => jI 0)))] := hD
  refine lv_aload_n hx hb dX0_init_35 rfl (lv_at hl 0 rfl) ?_
  refine lv_aload_n hx hb dX0_init_36 rfl (lv_at hl 1 rfl) ?_
  refine va_putF (D := D) (ci := 0) (v := .ref h1) (ty := tyX0 0) (C := RX0) (T := TX0) (N := 5) hx hb hts jin0 tyX0 tyX0_ok nmX0 hown hK hP hD hS 0 rfl rfl 0 (by decide) (hts (.fieldLink RX0 26 "MacroBench$Counter" "source" "LMacroBench$Source;") kg201) (fun _ h9 => h9) rfl hin rfl (tyX0_ok 0 (by decide)) rfl rfl (Nat.le_of_ble_eq_true rfl) dX0_init_37 (fun H locs hP hD hS => ?_)
  have hP : va_P D jcl [(h0, .inr (0, [.ref h1, .ref q31, .ref q32, .ref q33, .long (jL 1)])), (q31, .inl (kT 0, 80, .inl (fun _ => jI 0))), (q32, .inl (kT 1, 4096, .inr (.inl (fun _ => jL 0)))), (q33, .inl (kT 0, 4096, .inl (fun _ => jI 0)))] H := hP
  have hD : va_D A [(h0, .inr (0, [.ref h1, .ref q31, .ref q32, .ref q33, .long (jL 1)])), (q31, .inl (kT 0, 80, .inl (fun _ => jI 0))), (q32, .inl (kT 1, 4096, .inr (.inl (fun _ => jL 0)))), (q33, .inl (kT 0, 4096, .inl (fun _ => jI 0)))] := hD
  exact W.vret hx hb hr (fun t ht hW => ⟨⟨(fun k => if k = 6 then h0 else if k = 31 then q31 else if k = 32 then q32 else if k = 33 then q33 else 0), rfl, rfl, by rw [ht]; exact hP, va_K.moved hW.alike hK, hD⟩, hS.F ht⟩) hS.2.2 dX0_init_40
