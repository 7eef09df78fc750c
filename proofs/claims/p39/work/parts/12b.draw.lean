/-! ===== drawing numbers of the script: at the kit's level, so that it serves ahead of the law's row too ===== -/
theorem ush_1 (x : Int32) : ∃ a : Nat, a < 2147483648 ∧ (x.toUInt32 >>> ((jI 1).toUInt32 &&& Int32.toUInt32 31)).toInt32 = jI (a : Int) := by
  rw [show (jI 1).toUInt32 &&& Int32.toUInt32 31 = 1 by decide +kernel]
  refine ⟨(x.toUInt32 >>> 1).toNat, ?_, ?_⟩
  · have h1 : (x.toUInt32 >>> 1).toNat = x.toUInt32.toNat / 2 := by
      rw [UInt32.toNat_shiftRight]
      show x.toUInt32.toNat >>> 1 = _
      rw [Nat.shiftRight_eq_div_pow]
    have h2 := x.toUInt32.toNat_lt
    omega
  · apply Int32.toBitVec_inj.mp
    show (x.toUInt32 >>> 1).toBitVec = BitVec.ofInt 32 (((x.toUInt32 >>> 1).toBitVec.toNat : Nat) : Int)
    rw [BitVec.ofInt_natCast, BitVec.ofNat_toNat, BitVec.setWidth_eq]
theorem jG_ks {own : String} {ix na : Nat} {k : JI} (kv : jKS own ix k na) (ho : k.1.cls = own) : GoodIn jG (wsS own ix k.1 (Cond.code k.1 k.2.1 k.2.2.1 k.2.2.2.1 :: jG)) := jG_good (fun w hw => by
  simp only [wsS, List.cons_append, List.nil_append, List.mem_cons] at hw
  rcases hw with rfl | rfl | rfl | rfl | hw
  · exact kv.1
  · exact kv.2.1
  · rw [← ho]; exact kv.2.2.1
  · exact kv.2.2.2.1
  · exact hw)
set_option maxRecDepth 100000 in
theorem c_cell (l : Launch) (b L : Nat) (k : Int) (xs : Nat → Int32) (hL : L ≤ 2048) (hk : 0 ≤ k ∧ k ≤ 1000) : Met l yL_cell (Cond.code yL_cell cL_cell 2 (some .int) :: jG) ({ frames := 0, cells := 0, slots := 0, locals := 0 }) (va_Pc [.ref b, .int (jI k)] (fun U => va_X b L xs U U.heap ∧ b < U.heap.size)) (va_Qi (fun (_ : Int32) (_ : Unit) => True) (fun _ _ => True) (fun _ => False)) 0 0 (fun _ => False) := by
  refine Met.ofW (cc := cL_cell) (maxL := 2) (ret := some .int) (by decide) rfl ?_
  intro p e s m args below meth c s₁ B hml hv
  obtain ⟨rfl, hX, hbl⟩ := hv
  have hx := B.exec
  have hb := B.bytes
  have hr := B.returns
  have hts0 := atoms_spec (ws := Cond.code yL_cell cL_cell 2 (some .int) :: jG) B.pre
  have hts : ∀ w ∈ jG, w.before _ s = true := fun w hw => hts0 w (List.mem_cons_of_mem _ hw)
  have hown : s.vm.findClass RL = some m.cls := findClass_of_methodNamed B.named
  have hS : va_S (fun _ => False) s.heap s.heap [] := va_S.rf
  have hl := lv_entry ([.ref b, .int (jI k)]) (n := 2) (Nat.le_of_ble_eq_true rfl)
  rw [lg_entry_eq]
  generalize (lg_sl ([.ref b, .int (jI k)]) ++ List.replicate (2 - (lg_sl ([.ref b, .int (jI k)])).length) Slot.unset).toArray = ls at hl ⊢
  have hl : lv_has ls 2 [(0, .ref b), (1, .int (jI k))] := hl
  have rk : jrI k := ⟨by omega, by omega⟩
  have rL : jrI (L : Int) := ⟨by omega, by omega⟩
  refine lv_iload_n hx hb dL_cell_0 rfl (lv_at hl 1 rfl) ?_
  refine lv_aload_n hx hb dL_cell_1 rfl (lv_at hl 0 rfl) ?_
  refine va_slen hx hb hX hbl (fun h => h) hS dL_cell_2 ?_
  refine lv_icmp_ge (tgt := 12) hx hb dL_cell_3 (by decide) (fun q => ?_) (fun q => ?_)
  · refine lv_ldc hx hb hown (hts (.constant RL 7 40503) kg887) dL_cell_12 ?_
    refine lv_iload_n hx hb dL_cell_14 rfl (lv_at hl 1 rfl) ?_
    refine lv_imul hx hb dL_cell_15 ?_
    exact W.iret (v := _) hx hb hr (fun t ht hW => ⟨⟨_, (), rfl, trivial, trivial⟩, hS.F ht⟩) hS.2.2 dL_cell_16
  · have q : ¬ jI (L : Int) ≤ jI k := q
    rw [jI_le rL rk] at q
    refine lv_aload_n hx hb dL_cell_6 rfl (lv_at hl 0 rfl) ?_
    refine lv_iload_n hx hb dL_cell_7 rfl (lv_at hl 1 rfl) ?_
    refine va_sld hx hb hX hbl (fun h => h) hS (jI_in hk.1 (by omega) (by omega)) dL_cell_8 ?_
    refine lv_goto (tgt := 16) hx hb dL_cell_9 (by decide) ?_
    exact W.iret (v := _) hx hb hr (fun t ht hW => ⟨⟨_, (), rfl, trivial, trivial⟩, hS.F ht⟩) hS.2.2 dL_cell_16
set_option maxRecDepth 100000 in
theorem c_pick (l : Launch) (b L : Nat) (k n : Int) (xs : Nat → Int32) (hL : L ≤ 2048) (hk : 0 ≤ k ∧ k ≤ 1000) (hn : 0 < n ∧ n ≤ 1000) : Met l yL_pick (Cond.code yL_pick cL_pick 3 (some .int) :: jG) ({ frames := 1, cells := 0, slots := 0, locals := 46 }) (va_Pc [.ref b, .int (jI k), .int (jI n)] (fun U => va_X b L xs U U.heap ∧ b < U.heap.size)) (va_Qi (fun (r : Int32) (u : Int) => r = jI u ∧ 0 ≤ u ∧ u < n) (fun _ _ => True) (fun _ => False)) 0 0 (fun _ => False) := by
  refine Met.ofW (cc := cL_pick) (maxL := 3) (ret := some .int) (by decide) rfl ?_
  intro p e s m args below meth c s₁ B hml hv
  obtain ⟨rfl, hX, hbl⟩ := hv
  have hx := B.exec
  have hb := B.bytes
  have hr := B.returns
  have hts0 := atoms_spec (ws := Cond.code yL_pick cL_pick 3 (some .int) :: jG) B.pre
  have hts : ∀ w ∈ jG, w.before _ s = true := fun w hw => hts0 w (List.mem_cons_of_mem _ hw)
  have hown : s.vm.findClass RL = some m.cls := findClass_of_methodNamed B.named
  have hS : va_S (fun _ => False) s.heap s.heap [] := va_S.rf
  have hl := lv_entry ([.ref b, .int (jI k), .int (jI n)]) (n := 3) (Nat.le_of_ble_eq_true rfl)
  rw [lg_entry_eq]
  generalize (lg_sl ([.ref b, .int (jI k), .int (jI n)]) ++ List.replicate (3 - (lg_sl ([.ref b, .int (jI k), .int (jI n)])).length) Slot.unset).toArray = ls at hl ⊢
  have hl : lv_has ls 3 [(0, .ref b), (1, .int (jI k)), (2, .int (jI n))] := hl
  refine lv_aload_n hx hb dL_pick_0 rfl (lv_at hl 0 rfl) ?_
  refine lv_iload_n hx hb dL_pick_1 rfl (lv_at hl 1 rfl) ?_
  refine va_calli (va_runS (As := [.ref b, .int (jI k)]) (rest := []) ⟨hx, hb, hml, hown, hts⟩ (c_cell l b L k xs hL hk) (cwS 2 hts (jG_ks kc_L_8 rfl) rfl rfl rfl ⟨rfl, by decide +kernel, by decide +kernel, by decide +kernel⟩ ⟨Nat.le_of_ble_eq_true rfl, Nat.le_of_ble_eq_true rfl⟩) ⟨fun a U g mk q => by obtain ⟨q0, q1, q2⟩ := q; exact ⟨q0, q1, q2⟩, fun U hU hW => ⟨rfl, by rw [hU]; exact va_X.moved hW.alike hX, by rw [hU]; exact hbl⟩⟩ rfl rfl hl.1 rfl (lv_room (Nat.le_of_ble_eq_true rfl)) dL_pick_2 ⟨Nat.le_of_ble_eq_true rfl, Nat.le_of_ble_eq_true rfl⟩) hS (fun q _ h => h) (fun q h => h) (fun r u t H1 locs1 ht hvm hp hB hz hk1 hS => ?_)
  obtain ⟨a, ha, ea⟩ := ush_1 r
  obtain ⟨nn, rfl⟩ : ∃ nn : Nat, n = (nn : Int) := ⟨n.toNat, by omega⟩
  refine lv_iconst hx hb dL_pick_5 (jc_int (n := 1) (by decide) (by decide)) ?_
  refine lv_iushr (v := jI (a : Int)) hx hb dL_pick_6 ea ?_
  refine lv_iload_n hx hb dL_pick_7 rfl (lv_at hl 2 rfl) ?_
  refine lv_irem hx hb dL_pick_8 (fun q => ?_) ?_
  · have := (jI_eq (x := (nn : Int)) (y := 0) ⟨by omega, by omega⟩ ⟨by decide, by decide⟩).mp q
    omega
  · have e : jI (a : Int) - jI (a : Int) / jI (nn : Int) * jI (nn : Int) = jI ((a : Int) % (nn : Int)) := pk_rem (by omega) (by omega) (by omega)
    rw [e]
    have m0 := Int.emod_nonneg (a : Int) (show (nn : Int) ≠ 0 by omega)
    have m1 := Int.emod_lt_of_pos (a : Int) (show (0 : Int) < nn by omega)
    exact W.iret (v := _) hx hb hr (fun t ht hW => ⟨⟨_, (a : Int) % (nn : Int), rfl, ⟨rfl, m0, m1⟩, trivial⟩, hS.F ht⟩) hS.2.2 dL_pick_9
section JRP
variable {l : Launch} {E : JE} {i : JI} {d n : Nat} {Qr : Option JV → JM → Prop} {Qx : String → JM → Prop} {pc : Nat} {L : List JV} {σ : JM}
/-- a number from 0 to nn - 1, whichever -/
theorem V.pick {ix : Nat} {q k nn : Int} (hs : i.2.2.2.2.2 = true) (hL : E.2.2.2.2.1 ≤ 2048) (kv : jKS i.1.cls ix mL_pick 3) (ho : RL = i.1.cls) (hd : decode i.2.1 pc = .ok (.invokestatic ix, 3)) (hdd : 2 ≤ d) (hk : 0 ≤ k ∧ k ≤ 1000) (hn : 0 < nn ∧ nn ≤ 1000) (kk : ∀ r : Int, 0 ≤ r → r < nn → V l E i d n Qr Qx (pc + 3) L [(0, r)] σ) : V l E i d n Qr Qx pc L [(0, nn), (0, k), (7, q)] σ := by
  intro p e R s m args below meth c A cm sm Z hF hX hZ H locs cells slots ls hT
  obtain ⟨x1, x2, x3⟩ := hX hs
  obtain ⟨g1, g2, g3, g4, g5, g6, g7, g8⟩ := hT
  have hXH : va_X E.2.2.2.1 E.2.2.2.2.1 E.2.2.2.2.2 s H := x1.kept (g3.2.1 _ x2 x3)
  have hR := hF.2.2.2.2.2.2.1
  have hR2 := hF.2.2.2.2.2.2.2.1
  have hc1 := hF.2.2.2.2.2.2.2.2.1
  have hc2 := hF.2.2.2.2.2.2.2.2.2.1
  refine va_calli (A1 := fun _ => False) (va_runS (As := [.ref E.2.2.2.1, .int (jI k), .int (jI nn)]) (rest := []) ⟨hF.1, hF.2.1, hF.2.2.1, hF.2.2.2.1, hF.2.2.2.2.1⟩ (c_pick l E.2.2.2.1 E.2.2.2.2.1 k nn E.2.2.2.2.2 hL hk hn) (cwS 3 hF.2.2.2.2.1 (jG_ks kv ho) rfl rfl rfl ⟨ho, by decide +kernel, by decide +kernel, by decide +kernel⟩ ⟨by show 1 + 1 ≤ R.frames; omega, by show 8 + (3 + 11) + 46 ≤ R.locals; omega⟩) ⟨fun a U g mk z => by obtain ⟨q0, q1, q2⟩ := z; exact ⟨q0, q1, q2⟩, fun U hU hW => ⟨rfl, by rw [hU]; exact va_X.moved hW.alike hXH, by rw [hU]; exact Nat.lt_of_lt_of_le x2 g3.1⟩⟩ rfl rfl g6.1 rfl (lv_room (Nat.le_of_ble_eq_true rfl)) hd ⟨by omega, by omega⟩) g3 (fun q _ h => h.elim) (fun q h => h.elim) (fun r u t H1 locs1 ht hvm hp hB hz hk1 hS => ?_)
  obtain ⟨rfl, u0, u1⟩ := hp
  exact kk u u0 u1 p e R s m args below meth c A cm sm Z hF hX hZ H1 locs1 cells slots ls ⟨⟨g1.1.kept (fun k q hk => hk1 q.1 (g1.1 k q hk).lt (fun h => h)), g1.2.1, g1.2.2⟩, g2, hS, g4, g5, g6, g7, fun v hv => by rw [List.mem_singleton.mp hv]; exact (⟨by omega, by omega⟩ : jrI u)⟩
end JRP
