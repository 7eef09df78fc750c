theorem cat_L_address_0 : jcatch mL_address 4 "java/lang/IllegalArgumentException" 12 := ⟨[], (0, 9, 12, 13), [(0, 9, 15, 15)], rfl, fun _ h => absurd h List.not_mem_nil, by decide, by decide, kg885, by decide +kernel, rfl⟩
theorem hdl_L_address_0 {l : Launch} {E : JE} {dd n : Nat} {Qr : Option JV → JM → Prop} {p : Int} {t : JM} {q0 : Int} (hq : Qr (some (0, 1)) t) : V l E mL_address dd n Qr jno 12 [(2, 0), (0, p), (2, 55), (9, 0)] [(3, q0)] t := by
  refine V.astore_n (L' := [_, _, _, _]) dL_address_12 rfl rfl ?_
  refine V.iconst dL_address_13 ⟨by decide, by decide⟩ ?_
  exact V.iret (jret_i dL_address_14 rfl) hq
theorem cat_L_address_1 : jcatch mL_address 4 "java/lang/IllegalStateException" 15 := ⟨[(0, 9, 12, 13)], (0, 9, 15, 15), [], rfl, List.forall_mem_cons.mpr ⟨⟨by decide, "java/lang/IllegalArgumentException", kg885, by decide +kernel⟩, fun _ h => absurd h List.not_mem_nil⟩, by decide, by decide, kg886, by decide +kernel, rfl⟩
theorem hdl_L_address_1 {l : Launch} {E : JE} {dd n : Nat} {Qr : Option JV → JM → Prop} {p : Int} {t : JM} {q0 : Int} (hq : Qr (some (0, 2)) t) : V l E mL_address dd n Qr jno 15 [(2, 0), (0, p), (2, 55), (9, 0)] [(3, q0)] t := by
  refine V.astore_n (L' := [_, _, _, _]) dL_address_15 rfl rfl ?_
  refine V.iconst dL_address_16 ⟨by decide, by decide⟩ ?_
  exact V.iret (jret_i dL_address_17 rfl) hq
def jLQ_address (Qr : Option JV → JM → Prop) (Qx : String → JM → Prop) : Option JV → JM → Prop := fun v t => (∃ r t', Qr (some (0, r)) t' ∧ v = some (0, 0) ∧ t = jset t' 55 0 r) ∨ (Qx "java/lang/IllegalArgumentException" t ∧ v = some (0, 1)) ∨ (Qx "java/lang/IllegalStateException" t ∧ v = some (0, 2))
theorem sp_L_address {σ : JM} {p : Int} {n d0 : Nat} {Qr : Option JV → JM → Prop} {Qx : String → JM → Prop} (hn : n ≤ 1) (h : JSp mX6_address d0 n [(2, 0), (0, p)] σ Qr Qx) (hr : ∀ v t, Qr v t → ∃ r, v = some (0, r)) (hx : ∀ X t, Qx X t → X = "java/lang/IllegalArgumentException" ∨ X = "java/lang/IllegalStateException") : JSpH mL_address (d0 + 1) 1 [(2, 0), (0, p), (2, 55)] σ (jLQ_address Qr Qx) jno := by
  refine JSpH.of [(2, 0), (0, p), (2, 55), (9, 0)] (by decide +kernel) rfl rfl rfl (fun l E hA => ?_)
  refine V.aload_n dL_address_0 rfl ?_
  refine V.iconst dL_address_1 ⟨by decide, by decide⟩ ?_
  refine V.aload_n dL_address_2 rfl ?_
  refine V.iload_n dL_address_3 rfl ?_
  refine V.callVC [_] rfl kc_L_27 rfl dL_address_4 (d' := d0) (Nat.lt_succ_self _) hn rfl (fun _ _ => h) (fun v t' hq hv => ?_) (fun X t hx2 => by
      rcases hx X t hx2 with rfl | rfl
      · exact ⟨12, cat_L_address_0, fun q => hdl_L_address_0 (Or.inr (Or.inl ⟨hx2, rfl⟩))⟩
      · exact ⟨15, cat_L_address_1, fun q => hdl_L_address_1 (Or.inr (Or.inr ⟨hx2, rfl⟩))⟩)
  obtain ⟨r, rfl⟩ := hr v t' hq
  refine V.i2l dL_address_7 ?_
  refine V.last (cell := 55) 0 rfl rfl rfl rfl dL_address_8 (by omega) (by omega) ?_
  refine V.goto (tgt := 18) dL_address_9 (by decide) ?_
  refine V.iconst dL_address_18 ⟨by decide, by decide⟩ ?_
  exact V.iret (jret_i dL_address_19 rfl) (Or.inl ⟨r, t', hq, rfl, rfl⟩)
theorem cat_L_addressByAdding_0 : jcatch mL_addressByAdding 4 "java/util/NoSuchElementException" 12 := ⟨[], (0, 9, 12, 37), [(0, 9, 15, 77)], rfl, fun _ h => absurd h List.not_mem_nil, by decide, by decide, kg968, by decide +kernel, rfl⟩
theorem hdl_L_addressByAdding_0 {l : Launch} {E : JE} {dd n : Nat} {Qr : Option JV → JM → Prop} {p : Int} {t : JM} {q0 : Int} (hq : Qr (some (0, 1)) t) : V l E mL_addressByAdding dd n Qr jno 12 [(2, 0), (0, p), (2, 55), (9, 0)] [(3, q0)] t := by
  refine V.astore_n (L' := [_, _, _, _]) dL_addressByAdding_12 rfl rfl ?_
  refine V.iconst dL_addressByAdding_13 ⟨by decide, by decide⟩ ?_
  exact V.iret (jret_i dL_addressByAdding_14 rfl) hq
theorem cat_L_addressByAdding_1 : jcatch mL_addressByAdding 4 "java/lang/IndexOutOfBoundsException" 15 := ⟨[(0, 9, 12, 37)], (0, 9, 15, 77), [], rfl, List.forall_mem_cons.mpr ⟨⟨by decide, "java/util/NoSuchElementException", kg968, by decide +kernel⟩, fun _ h => absurd h List.not_mem_nil⟩, by decide, by decide, kg1173, by decide +kernel, rfl⟩
theorem hdl_L_addressByAdding_1 {l : Launch} {E : JE} {dd n : Nat} {Qr : Option JV → JM → Prop} {p : Int} {t : JM} {q0 : Int} (hq : Qr (some (0, 2)) t) : V l E mL_addressByAdding dd n Qr jno 15 [(2, 0), (0, p), (2, 55), (9, 0)] [(3, q0)] t := by
  refine V.astore_n (L' := [_, _, _, _]) dL_addressByAdding_15 rfl rfl ?_
  refine V.iconst dL_addressByAdding_16 ⟨by decide, by decide⟩ ?_
  exact V.iret (jret_i dL_addressByAdding_17 rfl) hq
def jLQ_addressByAdding (Qr : Option JV → JM → Prop) (Qx : String → JM → Prop) : Option JV → JM → Prop := fun v t => (∃ r t', Qr (some (0, r)) t' ∧ v = some (0, 0) ∧ t = jset t' 55 0 r) ∨ (Qx "java/util/NoSuchElementException" t ∧ v = some (0, 1)) ∨ (Qx "java/lang/IndexOutOfBoundsException" t ∧ v = some (0, 2))
theorem sp_L_addressByAdding {σ : JM} {p : Int} {n d0 : Nat} {Qr : Option JV → JM → Prop} {Qx : String → JM → Prop} (hn : n ≤ 1) (h : JSp mX6_addressByAdding d0 n [(2, 0), (0, p)] σ Qr Qx) (hr : ∀ v t, Qr v t → ∃ r, v = some (0, r)) (hx : ∀ X t, Qx X t → X = "java/util/NoSuchElementException" ∨ X = "java/lang/IndexOutOfBoundsException") : JSpH mL_addressByAdding (d0 + 1) 1 [(2, 0), (0, p), (2, 55)] σ (jLQ_addressByAdding Qr Qx) jno := by
  refine JSpH.of [(2, 0), (0, p), (2, 55), (9, 0)] (by decide +kernel) rfl rfl rfl (fun l E hA => ?_)
  refine V.aload_n dL_addressByAdding_0 rfl ?_
  refine V.iconst dL_addressByAdding_1 ⟨by decide, by decide⟩ ?_
  refine V.aload_n dL_addressByAdding_2 rfl ?_
  refine V.iload_n dL_addressByAdding_3 rfl ?_
  refine V.callVC [_] rfl kc_L_110 rfl dL_addressByAdding_4 (d' := d0) (Nat.lt_succ_self _) hn rfl (fun _ _ => h) (fun v t' hq hv => ?_) (fun X t hx2 => by
      rcases hx X t hx2 with rfl | rfl
      · exact ⟨12, cat_L_addressByAdding_0, fun q => hdl_L_addressByAdding_0 (Or.inr (Or.inl ⟨hx2, rfl⟩))⟩
      · exact ⟨15, cat_L_addressByAdding_1, fun q => hdl_L_addressByAdding_1 (Or.inr (Or.inr ⟨hx2, rfl⟩))⟩)
  obtain ⟨r, rfl⟩ := hr v t' hq
  refine V.i2l dL_addressByAdding_7 ?_
  refine V.last (cell := 55) 0 rfl rfl rfl rfl dL_addressByAdding_8 (by omega) (by omega) ?_
  refine V.goto (tgt := 18) dL_addressByAdding_9 (by decide) ?_
  refine V.iconst dL_addressByAdding_18 ⟨by decide, by decide⟩ ?_
  exact V.iret (jret_i dL_addressByAdding_19 rfl) (Or.inl ⟨r, t', hq, rfl, rfl⟩)
theorem cat_L_addressOf_0 : jcatch mL_addressOf 4 "java/util/NoSuchElementException" 12 := ⟨[], (0, 9, 12, 37), [(0, 9, 15, 77)], rfl, fun _ h => absurd h List.not_mem_nil, by decide, by decide, kg968, by decide +kernel, rfl⟩
theorem hdl_L_addressOf_0 {l : Launch} {E : JE} {dd n : Nat} {Qr : Option JV → JM → Prop} {p : Int} {t : JM} {q0 : Int} (hq : Qr (some (0, 1)) t) : V l E mL_addressOf dd n Qr jno 12 [(2, 0), (0, p), (2, 55), (9, 0)] [(3, q0)] t := by
  refine V.astore_n (L' := [_, _, _, _]) dL_addressOf_12 rfl rfl ?_
  refine V.iconst dL_addressOf_13 ⟨by decide, by decide⟩ ?_
  exact V.iret (jret_i dL_addressOf_14 rfl) hq
theorem cat_L_addressOf_1 : jcatch mL_addressOf 4 "java/lang/IndexOutOfBoundsException" 15 := ⟨[(0, 9, 12, 37)], (0, 9, 15, 77), [], rfl, List.forall_mem_cons.mpr ⟨⟨by decide, "java/util/NoSuchElementException", kg968, by decide +kernel⟩, fun _ h => absurd h List.not_mem_nil⟩, by decide, by decide, kg1173, by decide +kernel, rfl⟩
theorem hdl_L_addressOf_1 {l : Launch} {E : JE} {dd n : Nat} {Qr : Option JV → JM → Prop} {p : Int} {t : JM} {q0 : Int} (hq : Qr (some (0, 2)) t) : V l E mL_addressOf dd n Qr jno 15 [(2, 0), (0, p), (2, 55), (9, 0)] [(3, q0)] t := by
  refine V.astore_n (L' := [_, _, _, _]) dL_addressOf_15 rfl rfl ?_
  refine V.iconst dL_addressOf_16 ⟨by decide, by decide⟩ ?_
  exact V.iret (jret_i dL_addressOf_17 rfl) hq
def jLQ_addressOf (Qr : Option JV → JM → Prop) (Qx : String → JM → Prop) : Option JV → JM → Prop := fun v t => (∃ r t', Qr (some (0, r)) t' ∧ v = some (0, 0) ∧ t = jset t' 55 0 r) ∨ (Qx "java/util/NoSuchElementException" t ∧ v = some (0, 1)) ∨ (Qx "java/lang/IndexOutOfBoundsException" t ∧ v = some (0, 2))
theorem sp_L_addressOf {σ : JM} {p : Int} {n d0 : Nat} {Qr : Option JV → JM → Prop} {Qx : String → JM → Prop} (hn : n ≤ 1) (h : JSp mX6_addressOf d0 n [(2, 0), (0, p)] σ Qr Qx) (hr : ∀ v t, Qr v t → ∃ r, v = some (0, r)) (hx : ∀ X t, Qx X t → X = "java/util/NoSuchElementException" ∨ X = "java/lang/IndexOutOfBoundsException") : JSpH mL_addressOf (d0 + 1) 1 [(2, 0), (0, p), (2, 55)] σ (jLQ_addressOf Qr Qx) jno := by
  refine JSpH.of [(2, 0), (0, p), (2, 55), (9, 0)] (by decide +kernel) rfl rfl rfl (fun l E hA => ?_)
  refine V.aload_n dL_addressOf_0 rfl ?_
  refine V.iconst dL_addressOf_1 ⟨by decide, by decide⟩ ?_
  refine V.aload_n dL_addressOf_2 rfl ?_
  refine V.iload_n dL_addressOf_3 rfl ?_
  refine V.callVC [_] rfl kc_L_107 rfl dL_addressOf_4 (d' := d0) (Nat.lt_succ_self _) hn rfl (fun _ _ => h) (fun v t' hq hv => ?_) (fun X t hx2 => by
      rcases hx X t hx2 with rfl | rfl
      · exact ⟨12, cat_L_addressOf_0, fun q => hdl_L_addressOf_0 (Or.inr (Or.inl ⟨hx2, rfl⟩))⟩
      · exact ⟨15, cat_L_addressOf_1, fun q => hdl_L_addressOf_1 (Or.inr (Or.inr ⟨hx2, rfl⟩))⟩)
  obtain ⟨r, rfl⟩ := hr v t' hq
  refine V.i2l dL_addressOf_7 ?_
  refine V.last (cell := 55) 0 rfl rfl rfl rfl dL_addressOf_8 (by omega) (by omega) ?_
  refine V.goto (tgt := 18) dL_addressOf_9 (by decide) ?_
  refine V.iconst dL_addressOf_18 ⟨by decide, by decide⟩ ?_
  exact V.iret (jret_i dL_addressOf_19 rfl) (Or.inl ⟨r, t', hq, rfl, rfl⟩)
theorem cat_L_align_0 : jcatch mL_align 4 "java/lang/IllegalArgumentException" 12 := ⟨[], (0, 9, 12, 13), [(0, 9, 15, 15)], rfl, fun _ h => absurd h List.not_mem_nil, by decide, by decide, kg885, by decide +kernel, rfl⟩
theorem hdl_L_align_0 {l : Launch} {E : JE} {dd n : Nat} {Qr : Option JV → JM → Prop} {p : Int} {t : JM} {q0 : Int} (hq : Qr (some (0, 1)) t) : V l E mL_align dd n Qr jno 12 [(2, 0), (0, p), (2, 55), (9, 0)] [(3, q0)] t := by
  refine V.astore_n (L' := [_, _, _, _]) dL_align_12 rfl rfl ?_
  refine V.iconst dL_align_13 ⟨by decide, by decide⟩ ?_
  exact V.iret (jret_i dL_align_14 rfl) hq
theorem cat_L_align_1 : jcatch mL_align 4 "java/lang/IllegalStateException" 15 := ⟨[(0, 9, 12, 13)], (0, 9, 15, 15), [], rfl, List.forall_mem_cons.mpr ⟨⟨by decide, "java/lang/IllegalArgumentException", kg885, by decide +kernel⟩, fun _ h => absurd h List.not_mem_nil⟩, by decide, by decide, kg886, by decide +kernel, rfl⟩
theorem hdl_L_align_1 {l : Launch} {E : JE} {dd n : Nat} {Qr : Option JV → JM → Prop} {p : Int} {t : JM} {q0 : Int} (hq : Qr (some (0, 2)) t) : V l E mL_align dd n Qr jno 15 [(2, 0), (0, p), (2, 55), (9, 0)] [(3, q0)] t := by
  refine V.astore_n (L' := [_, _, _, _]) dL_align_15 rfl rfl ?_
  refine V.iconst dL_align_16 ⟨by decide, by decide⟩ ?_
  exact V.iret (jret_i dL_align_17 rfl) hq
def jLQ_align (Qr : Option JV → JM → Prop) (Qx : String → JM → Prop) : Option JV → JM → Prop := fun v t => (∃ r t', Qr (some (0, r)) t' ∧ v = some (0, 0) ∧ t = jset t' 55 0 r) ∨ (Qx "java/lang/IllegalArgumentException" t ∧ v = some (0, 1)) ∨ (Qx "java/lang/IllegalStateException" t ∧ v = some (0, 2))
theorem sp_L_align {σ : JM} {p : Int} {n d0 : Nat} {Qr : Option JV → JM → Prop} {Qx : String → JM → Prop} (hn : n ≤ 1) (h : JSp mX6_align d0 n [(2, 0), (0, p)] σ Qr Qx) (hr : ∀ v t, Qr v t → ∃ r, v = some (0, r)) (hx : ∀ X t, Qx X t → X = "java/lang/IllegalArgumentException" ∨ X = "java/lang/IllegalStateException") : JSpH mL_align (d0 + 1) 1 [(2, 0), (0, p), (2, 55)] σ (jLQ_align Qr Qx) jno := by
  refine JSpH.of [(2, 0), (0, p), (2, 55), (9, 0)] (by decide +kernel) rfl rfl rfl (fun l E hA => ?_)
  refine V.aload_n dL_align_0 rfl ?_
  refine V.iconst dL_align_1 ⟨by decide, by decide⟩ ?_
  refine V.aload_n dL_align_2 rfl ?_
  refine V.iload_n dL_align_3 rfl ?_
  refine V.callVC [_] rfl kc_L_30 rfl dL_align_4 (d' := d0) (Nat.lt_succ_self _) hn rfl (fun _ _ => h) (fun v t' hq hv => ?_) (fun X t hx2 => by
      rcases hx X t hx2 with rfl | rfl
      · exact ⟨12, cat_L_align_0, fun q => hdl_L_align_0 (Or.inr (Or.inl ⟨hx2, rfl⟩))⟩
      · exact ⟨15, cat_L_align_1, fun q => hdl_L_align_1 (Or.inr (Or.inr ⟨hx2, rfl⟩))⟩)
  obtain ⟨r, rfl⟩ := hr v t' hq
  refine V.i2l dL_align_7 ?_
  refine V.last (cell := 55) 0 rfl rfl rfl rfl dL_align_8 (by omega) (by omega) ?_
  refine V.goto (tgt := 18) dL_align_9 (by decide) ?_
  refine V.iconst dL_align_18 ⟨by decide, by decide⟩ ?_
  exact V.iret (jret_i dL_align_19 rfl) (Or.inl ⟨r, t', hq, rfl, rfl⟩)
theorem cat_L_block_0 : jcatch mL_block 3 "java/lang/IllegalStateException" 11 := ⟨[], (0, 8, 11, 15), [], rfl, fun _ h => absurd h List.not_mem_nil, by decide, by decide, kg886, by decide +kernel, rfl⟩
theorem hdl_L_block_0 {l : Launch} {E : JE} {dd n : Nat} {Qr : Option JV → JM → Prop}  {t : JM} {q0 : Int} (hq : Qr (some (0, 1)) t) : V l E mL_block dd n Qr jno 11 [(2, 0), (2, 55), (9, 0)] [(3, q0)] t := by
  refine V.astore_n (L' := [_, _, _]) dL_block_11 rfl rfl ?_
  refine V.iconst dL_block_12 ⟨by decide, by decide⟩ ?_
  exact V.iret (jret_i dL_block_13 rfl) hq
def jLQ_block (Qr : Option JV → JM → Prop) (Qx : String → JM → Prop) : Option JV → JM → Prop := fun v t => (∃ r t', Qr (some (0, r)) t' ∧ v = some (0, 0) ∧ t = jset t' 55 0 r) ∨ (Qx "java/lang/IllegalStateException" t ∧ v = some (0, 1))
theorem sp_L_block {σ : JM}  {n d0 : Nat} {Qr : Option JV → JM → Prop} {Qx : String → JM → Prop} (hn : n ≤ 1) (h : JSp mX6_block d0 n [(2, 0)] σ Qr Qx) (hr : ∀ v t, Qr v t → ∃ r, v = some (0, r)) (hx : ∀ X t, Qx X t → X = "java/lang/IllegalStateException") : JSpH mL_block (d0 + 1) 1 [(2, 0), (2, 55)] σ (jLQ_block Qr Qx) jno := by
  refine JSpH.of [(2, 0), (2, 55), (9, 0)] (by decide +kernel) rfl rfl rfl (fun l E hA => ?_)
  refine V.aload_n dL_block_0 rfl ?_
  refine V.iconst dL_block_1 ⟨by decide, by decide⟩ ?_
  refine V.aload_n dL_block_2 rfl ?_
  refine V.callVC [] rfl kc_L_39 rfl dL_block_3 (d' := d0) (Nat.lt_succ_self _) hn rfl (fun _ _ => h) (fun v t' hq hv => ?_) (fun X t hx2 => by
      rcases hx X t hx2 with rfl
      · exact ⟨11, cat_L_block_0, fun q => hdl_L_block_0 (Or.inr ⟨hx2, rfl⟩)⟩)
  obtain ⟨r, rfl⟩ := hr v t' hq
  refine V.i2l dL_block_6 ?_
  refine V.last (cell := 55) 0 rfl rfl rfl rfl dL_block_7 (by omega) (by omega) ?_
  refine V.goto (tgt := 14) dL_block_8 (by decide) ?_
  refine V.iconst dL_block_14 ⟨by decide, by decide⟩ ?_
  exact V.iret (jret_i dL_block_15 rfl) (Or.inl ⟨r, t', hq, rfl, rfl⟩)
theorem cat_L_call_0 : jcatch mL_call 7 "java/util/NoSuchElementException" 15 := ⟨[], (0, 12, 15, 37), [(0, 12, 19, 13), (0, 12, 23, 15)], rfl, fun _ h => absurd h List.not_mem_nil, by decide, by decide, kg968, by decide +kernel, rfl⟩
theorem hdl_L_call_0 {l : Launch} {E : JE} {dd n : Nat} {Qr : Option JV → JM → Prop} {p q r0 : Int} {t : JM} {q0 : Int} (hq : Qr (some (0, 1)) t) : V l E mL_call dd n Qr jno 15 [(2, 0), (0, p), (0, q), (0, r0), (2, 55), (9, 0)] [(3, q0)] t := by
  refine V.astore (L' := [_, _, _, _, _, _]) dL_call_15 rfl rfl ?_
  refine V.iconst dL_call_17 ⟨by decide, by decide⟩ ?_
  exact V.iret (jret_i dL_call_18 rfl) hq
theorem cat_L_call_1 : jcatch mL_call 7 "java/lang/IllegalArgumentException" 19 := ⟨[(0, 12, 15, 37)], (0, 12, 19, 13), [(0, 12, 23, 15)], rfl, List.forall_mem_cons.mpr ⟨⟨by decide, "java/util/NoSuchElementException", kg968, by decide +kernel⟩, fun _ h => absurd h List.not_mem_nil⟩, by decide, by decide, kg885, by decide +kernel, rfl⟩
theorem hdl_L_call_1 {l : Launch} {E : JE} {dd n : Nat} {Qr : Option JV → JM → Prop} {p q r0 : Int} {t : JM} {q0 : Int} (hq : Qr (some (0, 2)) t) : V l E mL_call dd n Qr jno 19 [(2, 0), (0, p), (0, q), (0, r0), (2, 55), (9, 0)] [(3, q0)] t := by
  refine V.astore (L' := [_, _, _, _, _, _]) dL_call_19 rfl rfl ?_
  refine V.iconst dL_call_21 ⟨by decide, by decide⟩ ?_
  exact V.iret (jret_i dL_call_22 rfl) hq
theorem cat_L_call_2 : jcatch mL_call 7 "java/lang/IllegalStateException" 23 := ⟨[(0, 12, 15, 37), (0, 12, 19, 13)], (0, 12, 23, 15), [], rfl, List.forall_mem_cons.mpr ⟨⟨by decide, "java/util/NoSuchElementException", kg968, by decide +kernel⟩, List.forall_mem_cons.mpr ⟨⟨by decide, "java/lang/IllegalArgumentException", kg885, by decide +kernel⟩, fun _ h => absurd h List.not_mem_nil⟩⟩, by decide, by decide, kg886, by decide +kernel, rfl⟩
theorem hdl_L_call_2 {l : Launch} {E : JE} {dd n : Nat} {Qr : Option JV → JM → Prop} {p q r0 : Int} {t : JM} {q0 : Int} (hq : Qr (some (0, 3)) t) : V l E mL_call dd n Qr jno 23 [(2, 0), (0, p), (0, q), (0, r0), (2, 55), (9, 0)] [(3, q0)] t := by
  refine V.astore (L' := [_, _, _, _, _, _]) dL_call_23 rfl rfl ?_
  refine V.iconst dL_call_25 ⟨by decide, by decide⟩ ?_
  exact V.iret (jret_i dL_call_26 rfl) hq
def jLQ_call (Qr : Option JV → JM → Prop) (Qx : String → JM → Prop) : Option JV → JM → Prop := fun v t => (∃ r t', Qr (some (0, r)) t' ∧ v = some (0, 0) ∧ t = jset t' 55 0 r) ∨ (Qx "java/util/NoSuchElementException" t ∧ v = some (0, 1)) ∨ (Qx "java/lang/IllegalArgumentException" t ∧ v = some (0, 2)) ∨ (Qx "java/lang/IllegalStateException" t ∧ v = some (0, 3))
theorem sp_L_call {σ : JM} {p q r0 : Int} {n d0 : Nat} {Qr : Option JV → JM → Prop} {Qx : String → JM → Prop} (hn : n ≤ 1) (h : JSp mX6_call d0 n [(2, 0), (0, p), (0, q), (0, r0)] σ Qr Qx) (hr : ∀ v t, Qr v t → ∃ r, v = some (0, r)) (hx : ∀ X t, Qx X t → X = "java/util/NoSuchElementException" ∨ X = "java/lang/IllegalArgumentException" ∨ X = "java/lang/IllegalStateException") : JSpH mL_call (d0 + 1) 1 [(2, 0), (0, p), (0, q), (0, r0), (2, 55)] σ (jLQ_call Qr Qx) jno := by
  refine JSpH.of [(2, 0), (0, p), (0, q), (0, r0), (2, 55), (9, 0)] (by decide +kernel) rfl rfl rfl (fun l E hA => ?_)
  refine V.aload dL_call_0 rfl ?_
  refine V.iconst dL_call_2 ⟨by decide, by decide⟩ ?_
  refine V.aload_n dL_call_3 rfl ?_
  refine V.iload_n dL_call_4 rfl ?_
  refine V.iload_n dL_call_5 rfl ?_
  refine V.iload_n dL_call_6 rfl ?_
  refine V.callVC [_, _, _] rfl kc_L_33 rfl dL_call_7 (d' := d0) (Nat.lt_succ_self _) hn rfl (fun _ _ => h) (fun v t' hq hv => ?_) (fun X t hx2 => by
      rcases hx X t hx2 with rfl | rfl | rfl
      · exact ⟨15, cat_L_call_0, fun q => hdl_L_call_0 (Or.inr (Or.inl ⟨hx2, rfl⟩))⟩
      · exact ⟨19, cat_L_call_1, fun q => hdl_L_call_1 (Or.inr (Or.inr (Or.inl ⟨hx2, rfl⟩)))⟩
      · exact ⟨23, cat_L_call_2, fun q => hdl_L_call_2 (Or.inr (Or.inr (Or.inr ⟨hx2, rfl⟩)))⟩)
  obtain ⟨r, rfl⟩ := hr v t' hq
  refine V.i2l dL_call_10 ?_
  refine V.last (cell := 55) 0 rfl rfl rfl rfl dL_call_11 (by omega) (by omega) ?_
  refine V.goto (tgt := 27) dL_call_12 (by decide) ?_
  refine V.iconst dL_call_27 ⟨by decide, by decide⟩ ?_
  exact V.iret (jret_i dL_call_28 rfl) (Or.inl ⟨r, t', hq, rfl, rfl⟩)
theorem cat_L_depthOf_0 : jcatch mL_depthOf 4 "java/util/NoSuchElementException" 12 := ⟨[], (0, 9, 12, 37), [(0, 9, 15, 77)], rfl, fun _ h => absurd h List.not_mem_nil, by decide, by decide, kg968, by decide +kernel, rfl⟩
theorem hdl_L_depthOf_0 {l : Launch} {E : JE} {dd n : Nat} {Qr : Option JV → JM → Prop} {p : Int} {t : JM} {q0 : Int} (hq : Qr (some (0, 1)) t) : V l E mL_depthOf dd n Qr jno 12 [(2, 0), (0, p), (2, 55), (9, 0)] [(3, q0)] t := by
  refine V.astore_n (L' := [_, _, _, _]) dL_depthOf_12 rfl rfl ?_
  refine V.iconst dL_depthOf_13 ⟨by decide, by decide⟩ ?_
  exact V.iret (jret_i dL_depthOf_14 rfl) hq
theorem cat_L_depthOf_1 : jcatch mL_depthOf 4 "java/lang/IndexOutOfBoundsException" 15 := ⟨[(0, 9, 12, 37)], (0, 9, 15, 77), [], rfl, List.forall_mem_cons.mpr ⟨⟨by decide, "java/util/NoSuchElementException", kg968, by decide +kernel⟩, fun _ h => absurd h List.not_mem_nil⟩, by decide, by decide, kg1173, by decide +kernel, rfl⟩
theorem hdl_L_depthOf_1 {l : Launch} {E : JE} {dd n : Nat} {Qr : Option JV → JM → Prop} {p : Int} {t : JM} {q0 : Int} (hq : Qr (some (0, 2)) t) : V l E mL_depthOf dd n Qr jno 15 [(2, 0), (0, p), (2, 55), (9, 0)] [(3, q0)] t := by
  refine V.astore_n (L' := [_, _, _, _]) dL_depthOf_15 rfl rfl ?_
  refine V.iconst dL_depthOf_16 ⟨by decide, by decide⟩ ?_
  exact V.iret (jret_i dL_depthOf_17 rfl) hq
def jLQ_depthOf (Qr : Option JV → JM → Prop) (Qx : String → JM → Prop) : Option JV → JM → Prop := fun v t => (∃ r t', Qr (some (0, r)) t' ∧ v = some (0, 0) ∧ t = jset t' 55 0 r) ∨ (Qx "java/util/NoSuchElementException" t ∧ v = some (0, 1)) ∨ (Qx "java/lang/IndexOutOfBoundsException" t ∧ v = some (0, 2))
theorem sp_L_depthOf {σ : JM} {p : Int} {n d0 : Nat} {Qr : Option JV → JM → Prop} {Qx : String → JM → Prop} (hn : n ≤ 1) (h : JSp mX6_depthOf d0 n [(2, 0), (0, p)] σ Qr Qx) (hr : ∀ v t, Qr v t → ∃ r, v = some (0, r)) (hx : ∀ X t, Qx X t → X = "java/util/NoSuchElementException" ∨ X = "java/lang/IndexOutOfBoundsException") : JSpH mL_depthOf (d0 + 1) 1 [(2, 0), (0, p), (2, 55)] σ (jLQ_depthOf Qr Qx) jno := by
  refine JSpH.of [(2, 0), (0, p), (2, 55), (9, 0)] (by decide +kernel) rfl rfl rfl (fun l E hA => ?_)
  refine V.aload_n dL_depthOf_0 rfl ?_
  refine V.iconst dL_depthOf_1 ⟨by decide, by decide⟩ ?_
  refine V.aload_n dL_depthOf_2 rfl ?_
  refine V.iload_n dL_depthOf_3 rfl ?_
  refine V.callVC [_] rfl kc_L_104 rfl dL_depthOf_4 (d' := d0) (Nat.lt_succ_self _) hn rfl (fun _ _ => h) (fun v t' hq hv => ?_) (fun X t hx2 => by
      rcases hx X t hx2 with rfl | rfl
      · exact ⟨12, cat_L_depthOf_0, fun q => hdl_L_depthOf_0 (Or.inr (Or.inl ⟨hx2, rfl⟩))⟩
      · exact ⟨15, cat_L_depthOf_1, fun q => hdl_L_depthOf_1 (Or.inr (Or.inr ⟨hx2, rfl⟩))⟩)
  obtain ⟨r, rfl⟩ := hr v t' hq
  refine V.i2l dL_depthOf_7 ?_
  refine V.last (cell := 55) 0 rfl rfl rfl rfl dL_depthOf_8 (by omega) (by omega) ?_
  refine V.goto (tgt := 18) dL_depthOf_9 (by decide) ?_
  refine V.iconst dL_depthOf_18 ⟨by decide, by decide⟩ ?_
  exact V.iret (jret_i dL_depthOf_19 rfl) (Or.inl ⟨r, t', hq, rfl, rfl⟩)
theorem cat_L_end_0 : jcatch mL_end 3 "java/lang/UnsupportedOperationException" 11 := ⟨[], (0, 8, 11, 52), [(0, 8, 14, 15)], rfl, fun _ h => absurd h List.not_mem_nil, by decide, by decide, kg1017, by decide +kernel, rfl⟩
theorem hdl_L_end_0 {l : Launch} {E : JE} {dd n : Nat} {Qr : Option JV → JM → Prop}  {t : JM} {q0 : Int} (hq : Qr (some (0, 1)) t) : V l E mL_end dd n Qr jno 11 [(2, 0), (2, 55), (9, 0)] [(3, q0)] t := by
  refine V.astore_n (L' := [_, _, _]) dL_end_11 rfl rfl ?_
  refine V.iconst dL_end_12 ⟨by decide, by decide⟩ ?_
  exact V.iret (jret_i dL_end_13 rfl) hq
theorem cat_L_end_1 : jcatch mL_end 3 "java/lang/IllegalStateException" 14 := ⟨[(0, 8, 11, 52)], (0, 8, 14, 15), [], rfl, List.forall_mem_cons.mpr ⟨⟨by decide, "java/lang/UnsupportedOperationException", kg1017, by decide +kernel⟩, fun _ h => absurd h List.not_mem_nil⟩, by decide, by decide, kg886, by decide +kernel, rfl⟩
theorem hdl_L_end_1 {l : Launch} {E : JE} {dd n : Nat} {Qr : Option JV → JM → Prop}  {t : JM} {q0 : Int} (hq : Qr (some (0, 2)) t) : V l E mL_end dd n Qr jno 14 [(2, 0), (2, 55), (9, 0)] [(3, q0)] t := by
  refine V.astore_n (L' := [_, _, _]) dL_end_14 rfl rfl ?_
  refine V.iconst dL_end_15 ⟨by decide, by decide⟩ ?_
  exact V.iret (jret_i dL_end_16 rfl) hq
def jLQ_end (Qr : Option JV → JM → Prop) (Qx : String → JM → Prop) : Option JV → JM → Prop := fun v t => (∃ r t', Qr (some (0, r)) t' ∧ v = some (0, 0) ∧ t = jset t' 55 0 r) ∨ (Qx "java/lang/UnsupportedOperationException" t ∧ v = some (0, 1)) ∨ (Qx "java/lang/IllegalStateException" t ∧ v = some (0, 2))
theorem sp_L_end {σ : JM}  {n d0 : Nat} {Qr : Option JV → JM → Prop} {Qx : String → JM → Prop} (hn : n ≤ 1) (h : JSp mX6_end d0 n [(2, 0)] σ Qr Qx) (hr : ∀ v t, Qr v t → ∃ r, v = some (0, r)) (hx : ∀ X t, Qx X t → X = "java/lang/UnsupportedOperationException" ∨ X = "java/lang/IllegalStateException") : JSpH mL_end (d0 + 1) 1 [(2, 0), (2, 55)] σ (jLQ_end Qr Qx) jno := by
  refine JSpH.of [(2, 0), (2, 55), (9, 0)] (by decide +kernel) rfl rfl rfl (fun l E hA => ?_)
  refine V.aload_n dL_end_0 rfl ?_
  refine V.iconst dL_end_1 ⟨by decide, by decide⟩ ?_
  refine V.aload_n dL_end_2 rfl ?_
  refine V.callVC [] rfl kc_L_49 rfl dL_end_3 (d' := d0) (Nat.lt_succ_self _) hn rfl (fun _ _ => h) (fun v t' hq hv => ?_) (fun X t hx2 => by
      rcases hx X t hx2 with rfl | rfl
      · exact ⟨11, cat_L_end_0, fun q => hdl_L_end_0 (Or.inr (Or.inl ⟨hx2, rfl⟩))⟩
      · exact ⟨14, cat_L_end_1, fun q => hdl_L_end_1 (Or.inr (Or.inr ⟨hx2, rfl⟩))⟩)
  obtain ⟨r, rfl⟩ := hr v t' hq
  refine V.i2l dL_end_6 ?_
  refine V.last (cell := 55) 0 rfl rfl rfl rfl dL_end_7 (by omega) (by omega) ?_
  refine V.goto (tgt := 17) dL_end_8 (by decide) ?_
  refine V.iconst dL_end_17 ⟨by decide, by decide⟩ ?_
  exact V.iret (jret_i dL_end_18 rfl) (Or.inl ⟨r, t', hq, rfl, rfl⟩)
theorem cat_L_endMacro_0 : jcatch mL_endMacro 3 "java/lang/UnsupportedOperationException" 11 := ⟨[], (0, 8, 11, 52), [(0, 8, 14, 15)], rfl, fun _ h => absurd h List.not_mem_nil, by decide, by decide, kg1017, by decide +kernel, rfl⟩
theorem hdl_L_endMacro_0 {l : Launch} {E : JE} {dd n : Nat} {Qr : Option JV → JM → Prop}  {t : JM} {q0 : Int} (hq : Qr (some (0, 1)) t) : V l E mL_endMacro dd n Qr jno 11 [(2, 0), (2, 55), (9, 0)] [(3, q0)] t := by
  refine V.astore_n (L' := [_, _, _]) dL_endMacro_11 rfl rfl ?_
  refine V.iconst dL_endMacro_12 ⟨by decide, by decide⟩ ?_
  exact V.iret (jret_i dL_endMacro_13 rfl) hq
theorem cat_L_endMacro_1 : jcatch mL_endMacro 3 "java/lang/IllegalStateException" 14 := ⟨[(0, 8, 11, 52)], (0, 8, 14, 15), [], rfl, List.forall_mem_cons.mpr ⟨⟨by decide, "java/lang/UnsupportedOperationException", kg1017, by decide +kernel⟩, fun _ h => absurd h List.not_mem_nil⟩, by decide, by decide, kg886, by decide +kernel, rfl⟩
theorem hdl_L_endMacro_1 {l : Launch} {E : JE} {dd n : Nat} {Qr : Option JV → JM → Prop}  {t : JM} {q0 : Int} (hq : Qr (some (0, 2)) t) : V l E mL_endMacro dd n Qr jno 14 [(2, 0), (2, 55), (9, 0)] [(3, q0)] t := by
  refine V.astore_n (L' := [_, _, _]) dL_endMacro_14 rfl rfl ?_
  refine V.iconst dL_endMacro_15 ⟨by decide, by decide⟩ ?_
  exact V.iret (jret_i dL_endMacro_16 rfl) hq
def jLQ_endMacro (Qr : Option JV → JM → Prop) (Qx : String → JM → Prop) : Option JV → JM → Prop := fun v t => (∃ r t', Qr (some (0, r)) t' ∧ v = some (0, 0) ∧ t = jset t' 55 0 r) ∨ (Qx "java/lang/UnsupportedOperationException" t ∧ v = some (0, 1)) ∨ (Qx "java/lang/IllegalStateException" t ∧ v = some (0, 2))
theorem sp_L_endMacro {σ : JM}  {n d0 : Nat} {Qr : Option JV → JM → Prop} {Qx : String → JM → Prop} (hn : n ≤ 1) (h : JSp mX6_endMacro d0 n [(2, 0)] σ Qr Qx) (hr : ∀ v t, Qr v t → ∃ r, v = some (0, r)) (hx : ∀ X t, Qx X t → X = "java/lang/UnsupportedOperationException" ∨ X = "java/lang/IllegalStateException") : JSpH mL_endMacro (d0 + 1) 1 [(2, 0), (2, 55)] σ (jLQ_endMacro Qr Qx) jno := by
  refine JSpH.of [(2, 0), (2, 55), (9, 0)] (by decide +kernel) rfl rfl rfl (fun l E hA => ?_)
  refine V.aload_n dL_endMacro_0 rfl ?_
  refine V.iconst dL_endMacro_1 ⟨by decide, by decide⟩ ?_
  refine V.aload_n dL_endMacro_2 rfl ?_
  refine V.callVC [] rfl kc_L_57 rfl dL_endMacro_3 (d' := d0) (Nat.lt_succ_self _) hn rfl (fun _ _ => h) (fun v t' hq hv => ?_) (fun X t hx2 => by
      rcases hx X t hx2 with rfl | rfl
      · exact ⟨11, cat_L_endMacro_0, fun q => hdl_L_endMacro_0 (Or.inr (Or.inl ⟨hx2, rfl⟩))⟩
      · exact ⟨14, cat_L_endMacro_1, fun q => hdl_L_endMacro_1 (Or.inr (Or.inr ⟨hx2, rfl⟩))⟩)
  obtain ⟨r, rfl⟩ := hr v t' hq
  refine V.i2l dL_endMacro_6 ?_
  refine V.last (cell := 55) 0 rfl rfl rfl rfl dL_endMacro_7 (by omega) (by omega) ?_
  refine V.goto (tgt := 17) dL_endMacro_8 (by decide) ?_
  refine V.iconst dL_endMacro_17 ⟨by decide, by decide⟩ ?_
  exact V.iret (jret_i dL_endMacro_18 rfl) (Or.inl ⟨r, t', hq, rfl, rfl⟩)
theorem cat_L_fault_0 : jcatch mL_fault 3 "java/util/NoSuchElementException" 11 := ⟨[], (0, 8, 11, 37), [], rfl, fun _ h => absurd h List.not_mem_nil, by decide, by decide, kg968, by decide +kernel, rfl⟩
theorem hdl_L_fault_0 {l : Launch} {E : JE} {dd n : Nat} {Qr : Option JV → JM → Prop}  {t : JM} {q0 : Int} (hq : Qr (some (0, 1)) t) : V l E mL_fault dd n Qr jno 11 [(2, 0), (2, 55), (9, 0)] [(3, q0)] t := by
  refine V.astore_n (L' := [_, _, _]) dL_fault_11 rfl rfl ?_
  refine V.iconst dL_fault_12 ⟨by decide, by decide⟩ ?_
  exact V.iret (jret_i dL_fault_13 rfl) hq
def jLQ_fault (Qr : Option JV → JM → Prop) (Qx : String → JM → Prop) : Option JV → JM → Prop := fun v t => (∃ r t', Qr (some (0, r)) t' ∧ v = some (0, 0) ∧ t = jset t' 55 0 r) ∨ (Qx "java/util/NoSuchElementException" t ∧ v = some (0, 1))
theorem sp_L_fault {σ : JM}  {n d0 : Nat} {Qr : Option JV → JM → Prop} {Qx : String → JM → Prop} (hn : n ≤ 1) (h : JSp mX6_fault d0 n [(2, 0)] σ Qr Qx) (hr : ∀ v t, Qr v t → ∃ r, v = some (0, r)) (hx : ∀ X t, Qx X t → X = "java/util/NoSuchElementException") : JSpH mL_fault (d0 + 1) 1 [(2, 0), (2, 55)] σ (jLQ_fault Qr Qx) jno := by
  refine JSpH.of [(2, 0), (2, 55), (9, 0)] (by decide +kernel) rfl rfl rfl (fun l E hA => ?_)
  refine V.aload_n dL_fault_0 rfl ?_
  refine V.iconst dL_fault_1 ⟨by decide, by decide⟩ ?_
  refine V.aload_n dL_fault_2 rfl ?_
  refine V.callVC [] rfl kc_L_60 rfl dL_fault_3 (d' := d0) (Nat.lt_succ_self _) hn rfl (fun _ _ => h) (fun v t' hq hv => ?_) (fun X t hx2 => by
      rcases hx X t hx2 with rfl
      · exact ⟨11, cat_L_fault_0, fun q => hdl_L_fault_0 (Or.inr ⟨hx2, rfl⟩)⟩)
  obtain ⟨r, rfl⟩ := hr v t' hq
  refine V.i2l dL_fault_6 ?_
  refine V.last (cell := 55) 0 rfl rfl rfl rfl dL_fault_7 (by omega) (by omega) ?_
  refine V.goto (tgt := 14) dL_fault_8 (by decide) ?_
  refine V.iconst dL_fault_14 ⟨by decide, by decide⟩ ?_
  exact V.iret (jret_i dL_fault_15 rfl) (Or.inl ⟨r, t', hq, rfl, rfl⟩)
theorem cat_L_faultLine_0 : jcatch mL_faultLine 3 "java/util/NoSuchElementException" 11 := ⟨[], (0, 8, 11, 37), [], rfl, fun _ h => absurd h List.not_mem_nil, by decide, by decide, kg968, by decide +kernel, rfl⟩
theorem hdl_L_faultLine_0 {l : Launch} {E : JE} {dd n : Nat} {Qr : Option JV → JM → Prop}  {t : JM} {q0 : Int} (hq : Qr (some (0, 1)) t) : V l E mL_faultLine dd n Qr jno 11 [(2, 0), (2, 55), (9, 0)] [(3, q0)] t := by
  refine V.astore_n (L' := [_, _, _]) dL_faultLine_11 rfl rfl ?_
  refine V.iconst dL_faultLine_12 ⟨by decide, by decide⟩ ?_
  exact V.iret (jret_i dL_faultLine_13 rfl) hq
def jLQ_faultLine (Qr : Option JV → JM → Prop) (Qx : String → JM → Prop) : Option JV → JM → Prop := fun v t => (∃ r t', Qr (some (0, r)) t' ∧ v = some (0, 0) ∧ t = jset t' 55 0 r) ∨ (Qx "java/util/NoSuchElementException" t ∧ v = some (0, 1))
theorem sp_L_faultLine {σ : JM}  {n d0 : Nat} {Qr : Option JV → JM → Prop} {Qx : String → JM → Prop} (hn : n ≤ 1) (h : JSp mX6_faultLine d0 n [(2, 0)] σ Qr Qx) (hr : ∀ v t, Qr v t → ∃ r, v = some (0, r)) (hx : ∀ X t, Qx X t → X = "java/util/NoSuchElementException") : JSpH mL_faultLine (d0 + 1) 1 [(2, 0), (2, 55)] σ (jLQ_faultLine Qr Qx) jno := by
  refine JSpH.of [(2, 0), (2, 55), (9, 0)] (by decide +kernel) rfl rfl rfl (fun l E hA => ?_)
  refine V.aload_n dL_faultLine_0 rfl ?_
  refine V.iconst dL_faultLine_1 ⟨by decide, by decide⟩ ?_
  refine V.aload_n dL_faultLine_2 rfl ?_
  refine V.callVC [] rfl kc_L_64 rfl dL_faultLine_3 (d' := d0) (Nat.lt_succ_self _) hn rfl (fun _ _ => h) (fun v t' hq hv => ?_) (fun X t hx2 => by
      rcases hx X t hx2 with rfl
      · exact ⟨11, cat_L_faultLine_0, fun q => hdl_L_faultLine_0 (Or.inr ⟨hx2, rfl⟩)⟩)
  obtain ⟨r, rfl⟩ := hr v t' hq
  refine V.i2l dL_faultLine_6 ?_
  refine V.last (cell := 55) 0 rfl rfl rfl rfl dL_faultLine_7 (by omega) (by omega) ?_
  refine V.goto (tgt := 14) dL_faultLine_8 (by decide) ?_
  refine V.iconst dL_faultLine_14 ⟨by decide, by decide⟩ ?_
  exact V.iret (jret_i dL_faultLine_15 rfl) (Or.inl ⟨r, t', hq, rfl, rfl⟩)
theorem cat_L_items_0 : jcatch mL_items 3 "java/util/NoSuchElementException" 11 := ⟨[], (0, 8, 11, 37), [], rfl, fun _ h => absurd h List.not_mem_nil, by decide, by decide, kg968, by decide +kernel, rfl⟩
theorem hdl_L_items_0 {l : Launch} {E : JE} {dd n : Nat} {Qr : Option JV → JM → Prop}  {t : JM} {q0 : Int} (hq : Qr (some (0, 1)) t) : V l E mL_items dd n Qr jno 11 [(2, 0), (2, 55), (9, 0)] [(3, q0)] t := by
  refine V.astore_n (L' := [_, _, _]) dL_items_11 rfl rfl ?_
  refine V.iconst dL_items_12 ⟨by decide, by decide⟩ ?_
  exact V.iret (jret_i dL_items_13 rfl) hq
def jLQ_items (Qr : Option JV → JM → Prop) (Qx : String → JM → Prop) : Option JV → JM → Prop := fun v t => (∃ r t', Qr (some (0, r)) t' ∧ v = some (0, 0) ∧ t = jset t' 55 0 r) ∨ (Qx "java/util/NoSuchElementException" t ∧ v = some (0, 1))
theorem sp_L_items {σ : JM}  {n d0 : Nat} {Qr : Option JV → JM → Prop} {Qx : String → JM → Prop} (hn : n ≤ 1) (h : JSp mX6_items d0 n [(2, 0)] σ Qr Qx) (hr : ∀ v t, Qr v t → ∃ r, v = some (0, r)) (hx : ∀ X t, Qx X t → X = "java/util/NoSuchElementException") : JSpH mL_items (d0 + 1) 1 [(2, 0), (2, 55)] σ (jLQ_items Qr Qx) jno := by
  refine JSpH.of [(2, 0), (2, 55), (9, 0)] (by decide +kernel) rfl rfl rfl (fun l E hA => ?_)
  refine V.aload_n dL_items_0 rfl ?_
  refine V.iconst dL_items_1 ⟨by decide, by decide⟩ ?_
  refine V.aload_n dL_items_2 rfl ?_
  refine V.callVC [] rfl kc_L_94 rfl dL_items_3 (d' := d0) (Nat.lt_succ_self _) hn rfl (fun _ _ => h) (fun v t' hq hv => ?_) (fun X t hx2 => by
      rcases hx X t hx2 with rfl
      · exact ⟨11, cat_L_items_0, fun q => hdl_L_items_0 (Or.inr ⟨hx2, rfl⟩)⟩)
  obtain ⟨r, rfl⟩ := hr v t' hq
  refine V.i2l dL_items_6 ?_
  refine V.last (cell := 55) 0 rfl rfl rfl rfl dL_items_7 (by omega) (by omega) ?_
  refine V.goto (tgt := 14) dL_items_8 (by decide) ?_
  refine V.iconst dL_items_14 ⟨by decide, by decide⟩ ?_
  exact V.iret (jret_i dL_items_15 rfl) (Or.inl ⟨r, t', hq, rfl, rfl⟩)
theorem cat_L_itemsByCounting_0 : jcatch mL_itemsByCounting 3 "java/lang/IllegalStateException" 10 := ⟨[], (0, 7, 10, 15), [(0, 7, 13, 52)], rfl, fun _ h => absurd h List.not_mem_nil, by decide, by decide, kg886, by decide +kernel, rfl⟩
theorem hdl_L_itemsByCounting_0 {l : Launch} {E : JE} {dd n : Nat} {Qr : Option JV → JM → Prop}  {t : JM} {q0 : Int} (hq : Qr (some (0, 1)) t) : V l E mL_itemsByCounting dd n Qr jno 10 [(2, 0), (2, 55), (9, 0)] [(3, q0)] t := by
  refine V.astore_n (L' := [_, _, _]) dL_itemsByCounting_10 rfl rfl ?_
  refine V.iconst dL_itemsByCounting_11 ⟨by decide, by decide⟩ ?_
  exact V.iret (jret_i dL_itemsByCounting_12 rfl) hq
theorem cat_L_itemsByCounting_1 : jcatch mL_itemsByCounting 3 "java/lang/UnsupportedOperationException" 13 := ⟨[(0, 7, 10, 15)], (0, 7, 13, 52), [], rfl, List.forall_mem_cons.mpr ⟨⟨by decide, "java/lang/IllegalStateException", kg886, by decide +kernel⟩, fun _ h => absurd h List.not_mem_nil⟩, by decide, by decide, kg1017, by decide +kernel, rfl⟩
theorem hdl_L_itemsByCounting_1 {l : Launch} {E : JE} {dd n : Nat} {Qr : Option JV → JM → Prop}  {t : JM} {q0 : Int} (hq : Qr (some (0, 2)) t) : V l E mL_itemsByCounting dd n Qr jno 13 [(2, 0), (2, 55), (9, 0)] [(3, q0)] t := by
  refine V.astore_n (L' := [_, _, _]) dL_itemsByCounting_13 rfl rfl ?_
  refine V.iconst dL_itemsByCounting_14 ⟨by decide, by decide⟩ ?_
  exact V.iret (jret_i dL_itemsByCounting_15 rfl) hq
def jLQ_itemsByCounting (Qr : Option JV → JM → Prop) (Qx : String → JM → Prop) : Option JV → JM → Prop := fun v t => (∃ r t', Qr (some (1, r)) t' ∧ v = some (0, 0) ∧ t = jset t' 55 0 r) ∨ (Qx "java/lang/IllegalStateException" t ∧ v = some (0, 1)) ∨ (Qx "java/lang/UnsupportedOperationException" t ∧ v = some (0, 2))
theorem sp_L_itemsByCounting {σ : JM}  {n d0 : Nat} {Qr : Option JV → JM → Prop} {Qx : String → JM → Prop} (hn : n ≤ 1) (h : JSp mX6_itemsByCounting d0 n [(2, 0)] σ Qr Qx) (hr : ∀ v t, Qr v t → ∃ r, v = some (1, r)) (hx : ∀ X t, Qx X t → X = "java/lang/IllegalStateException" ∨ X = "java/lang/UnsupportedOperationException") : JSpH mL_itemsByCounting (d0 + 1) 1 [(2, 0), (2, 55)] σ (jLQ_itemsByCounting Qr Qx) jno := by
  refine JSpH.of [(2, 0), (2, 55), (9, 0)] (by decide +kernel) rfl rfl rfl (fun l E hA => ?_)
  refine V.aload_n dL_itemsByCounting_0 rfl ?_
  refine V.iconst dL_itemsByCounting_1 ⟨by decide, by decide⟩ ?_
  refine V.aload_n dL_itemsByCounting_2 rfl ?_
  refine V.callVC [] rfl kc_L_67 rfl dL_itemsByCounting_3 (d' := d0) (Nat.lt_succ_self _) hn rfl (fun _ _ => h) (fun v t' hq hv => ?_) (fun X t hx2 => by
      rcases hx X t hx2 with rfl | rfl
      · exact ⟨10, cat_L_itemsByCounting_0, fun q => hdl_L_itemsByCounting_0 (Or.inr (Or.inl ⟨hx2, rfl⟩))⟩
      · exact ⟨13, cat_L_itemsByCounting_1, fun q => hdl_L_itemsByCounting_1 (Or.inr (Or.inr ⟨hx2, rfl⟩))⟩)
  obtain ⟨r, rfl⟩ := hr v t' hq
  refine V.last (cell := 55) 0 rfl rfl rfl rfl dL_itemsByCounting_6 (by omega) (by omega) ?_
  refine V.goto (tgt := 16) dL_itemsByCounting_7 (by decide) ?_
  refine V.iconst dL_itemsByCounting_16 ⟨by decide, by decide⟩ ?_
  exact V.iret (jret_i dL_itemsByCounting_17 rfl) (Or.inl ⟨r, t', hq, rfl, rfl⟩)
theorem cat_L_jump_0 : jcatch mL_jump 4 "java/lang/IllegalArgumentException" 12 := ⟨[], (0, 9, 12, 13), [(0, 9, 15, 15)], rfl, fun _ h => absurd h List.not_mem_nil, by decide, by decide, kg885, by decide +kernel, rfl⟩
theorem hdl_L_jump_0 {l : Launch} {E : JE} {dd n : Nat} {Qr : Option JV → JM → Prop} {p : Int} {t : JM} {q0 : Int} (hq : Qr (some (0, 1)) t) : V l E mL_jump dd n Qr jno 12 [(2, 0), (0, p), (2, 55), (9, 0)] [(3, q0)] t := by
  refine V.astore_n (L' := [_, _, _, _]) dL_jump_12 rfl rfl ?_
  refine V.iconst dL_jump_13 ⟨by decide, by decide⟩ ?_
  exact V.iret (jret_i dL_jump_14 rfl) hq
theorem cat_L_jump_1 : jcatch mL_jump 4 "java/lang/IllegalStateException" 15 := ⟨[(0, 9, 12, 13)], (0, 9, 15, 15), [], rfl, List.forall_mem_cons.mpr ⟨⟨by decide, "java/lang/IllegalArgumentException", kg885, by decide +kernel⟩, fun _ h => absurd h List.not_mem_nil⟩, by decide, by decide, kg886, by decide +kernel, rfl⟩
theorem hdl_L_jump_1 {l : Launch} {E : JE} {dd n : Nat} {Qr : Option JV → JM → Prop} {p : Int} {t : JM} {q0 : Int} (hq : Qr (some (0, 2)) t) : V l E mL_jump dd n Qr jno 15 [(2, 0), (0, p), (2, 55), (9, 0)] [(3, q0)] t := by
  refine V.astore_n (L' := [_, _, _, _]) dL_jump_15 rfl rfl ?_
  refine V.iconst dL_jump_16 ⟨by decide, by decide⟩ ?_
  exact V.iret (jret_i dL_jump_17 rfl) hq
def jLQ_jump (Qr : Option JV → JM → Prop) (Qx : String → JM → Prop) : Option JV → JM → Prop := fun v t => (∃ r t', Qr (some (0, r)) t' ∧ v = some (0, 0) ∧ t = jset t' 55 0 r) ∨ (Qx "java/lang/IllegalArgumentException" t ∧ v = some (0, 1)) ∨ (Qx "java/lang/IllegalStateException" t ∧ v = some (0, 2))
theorem sp_L_jump {σ : JM} {p : Int} {n d0 : Nat} {Qr : Option JV → JM → Prop} {Qx : String → JM → Prop} (hn : n ≤ 1) (h : JSp mX6_jump d0 n [(2, 0), (0, p)] σ Qr Qx) (hr : ∀ v t, Qr v t → ∃ r, v = some (0, r)) (hx : ∀ X t, Qx X t → X = "java/lang/IllegalArgumentException" ∨ X = "java/lang/IllegalStateException") : JSpH mL_jump (d0 + 1) 1 [(2, 0), (0, p), (2, 55)] σ (jLQ_jump Qr Qx) jno := by
  refine JSpH.of [(2, 0), (0, p), (2, 55), (9, 0)] (by decide +kernel) rfl rfl rfl (fun l E hA => ?_)
  refine V.aload_n dL_jump_0 rfl ?_
  refine V.iconst dL_jump_1 ⟨by decide, by decide⟩ ?_
  refine V.aload_n dL_jump_2 rfl ?_
  refine V.iload_n dL_jump_3 rfl ?_
  refine V.callVC [_] rfl kc_L_24 rfl dL_jump_4 (d' := d0) (Nat.lt_succ_self _) hn rfl (fun _ _ => h) (fun v t' hq hv => ?_) (fun X t hx2 => by
      rcases hx X t hx2 with rfl | rfl
      · exact ⟨12, cat_L_jump_0, fun q => hdl_L_jump_0 (Or.inr (Or.inl ⟨hx2, rfl⟩))⟩
      · exact ⟨15, cat_L_jump_1, fun q => hdl_L_jump_1 (Or.inr (Or.inr ⟨hx2, rfl⟩))⟩)
  obtain ⟨r, rfl⟩ := hr v t' hq
  refine V.i2l dL_jump_7 ?_
  refine V.last (cell := 55) 0 rfl rfl rfl rfl dL_jump_8 (by omega) (by omega) ?_
  refine V.goto (tgt := 18) dL_jump_9 (by decide) ?_
  refine V.iconst dL_jump_18 ⟨by decide, by decide⟩ ?_
  exact V.iret (jret_i dL_jump_19 rfl) (Or.inl ⟨r, t', hq, rfl, rfl⟩)
theorem cat_L_kindOf_0 : jcatch mL_kindOf 4 "java/util/NoSuchElementException" 12 := ⟨[], (0, 9, 12, 37), [(0, 9, 15, 77)], rfl, fun _ h => absurd h List.not_mem_nil, by decide, by decide, kg968, by decide +kernel, rfl⟩
theorem hdl_L_kindOf_0 {l : Launch} {E : JE} {dd n : Nat} {Qr : Option JV → JM → Prop} {p : Int} {t : JM} {q0 : Int} (hq : Qr (some (0, 1)) t) : V l E mL_kindOf dd n Qr jno 12 [(2, 0), (0, p), (2, 55), (9, 0)] [(3, q0)] t := by
  refine V.astore_n (L' := [_, _, _, _]) dL_kindOf_12 rfl rfl ?_
  refine V.iconst dL_kindOf_13 ⟨by decide, by decide⟩ ?_
  exact V.iret (jret_i dL_kindOf_14 rfl) hq
theorem cat_L_kindOf_1 : jcatch mL_kindOf 4 "java/lang/IndexOutOfBoundsException" 15 := ⟨[(0, 9, 12, 37)], (0, 9, 15, 77), [], rfl, List.forall_mem_cons.mpr ⟨⟨by decide, "java/util/NoSuchElementException", kg968, by decide +kernel⟩, fun _ h => absurd h List.not_mem_nil⟩, by decide, by decide, kg1173, by decide +kernel, rfl⟩
theorem hdl_L_kindOf_1 {l : Launch} {E : JE} {dd n : Nat} {Qr : Option JV → JM → Prop} {p : Int} {t : JM} {q0 : Int} (hq : Qr (some (0, 2)) t) : V l E mL_kindOf dd n Qr jno 15 [(2, 0), (0, p), (2, 55), (9, 0)] [(3, q0)] t := by
  refine V.astore_n (L' := [_, _, _, _]) dL_kindOf_15 rfl rfl ?_
  refine V.iconst dL_kindOf_16 ⟨by decide, by decide⟩ ?_
  exact V.iret (jret_i dL_kindOf_17 rfl) hq
def jLQ_kindOf (Qr : Option JV → JM → Prop) (Qx : String → JM → Prop) : Option JV → JM → Prop := fun v t => (∃ r t', Qr (some (0, r)) t' ∧ v = some (0, 0) ∧ t = jset t' 55 0 r) ∨ (Qx "java/util/NoSuchElementException" t ∧ v = some (0, 1)) ∨ (Qx "java/lang/IndexOutOfBoundsException" t ∧ v = some (0, 2))
theorem sp_L_kindOf {σ : JM} {p : Int} {n d0 : Nat} {Qr : Option JV → JM → Prop} {Qx : String → JM → Prop} (hn : n ≤ 1) (h : JSp mX6_kindOf d0 n [(2, 0), (0, p)] σ Qr Qx) (hr : ∀ v t, Qr v t → ∃ r, v = some (0, r)) (hx : ∀ X t, Qx X t → X = "java/util/NoSuchElementException" ∨ X = "java/lang/IndexOutOfBoundsException") : JSpH mL_kindOf (d0 + 1) 1 [(2, 0), (0, p), (2, 55)] σ (jLQ_kindOf Qr Qx) jno := by
  refine JSpH.of [(2, 0), (0, p), (2, 55), (9, 0)] (by decide +kernel) rfl rfl rfl (fun l E hA => ?_)
  refine V.aload_n dL_kindOf_0 rfl ?_
  refine V.iconst dL_kindOf_1 ⟨by decide, by decide⟩ ?_
  refine V.aload_n dL_kindOf_2 rfl ?_
  refine V.iload_n dL_kindOf_3 rfl ?_
  refine V.callVC [_] rfl kc_L_100 rfl dL_kindOf_4 (d' := d0) (Nat.lt_succ_self _) hn rfl (fun _ _ => h) (fun v t' hq hv => ?_) (fun X t hx2 => by
      rcases hx X t hx2 with rfl | rfl
      · exact ⟨12, cat_L_kindOf_0, fun q => hdl_L_kindOf_0 (Or.inr (Or.inl ⟨hx2, rfl⟩))⟩
      · exact ⟨15, cat_L_kindOf_1, fun q => hdl_L_kindOf_1 (Or.inr (Or.inr ⟨hx2, rfl⟩))⟩)
  obtain ⟨r, rfl⟩ := hr v t' hq
  refine V.i2l dL_kindOf_7 ?_
  refine V.last (cell := 55) 0 rfl rfl rfl rfl dL_kindOf_8 (by omega) (by omega) ?_
  refine V.goto (tgt := 18) dL_kindOf_9 (by decide) ?_
  refine V.iconst dL_kindOf_18 ⟨by decide, by decide⟩ ?_
  exact V.iret (jret_i dL_kindOf_19 rfl) (Or.inl ⟨r, t', hq, rfl, rfl⟩)
theorem cat_L_label_0 : jcatch mL_label 4 "java/lang/IllegalArgumentException" 12 := ⟨[], (0, 9, 12, 13), [(0, 9, 15, 15)], rfl, fun _ h => absurd h List.not_mem_nil, by decide, by decide, kg885, by decide +kernel, rfl⟩
theorem hdl_L_label_0 {l : Launch} {E : JE} {dd n : Nat} {Qr : Option JV → JM → Prop} {p : Int} {t : JM} {q0 : Int} (hq : Qr (some (0, 1)) t) : V l E mL_label dd n Qr jno 12 [(2, 0), (0, p), (2, 55), (9, 0)] [(3, q0)] t := by
  refine V.astore_n (L' := [_, _, _, _]) dL_label_12 rfl rfl ?_
  refine V.iconst dL_label_13 ⟨by decide, by decide⟩ ?_
  exact V.iret (jret_i dL_label_14 rfl) hq
theorem cat_L_label_1 : jcatch mL_label 4 "java/lang/IllegalStateException" 15 := ⟨[(0, 9, 12, 13)], (0, 9, 15, 15), [], rfl, List.forall_mem_cons.mpr ⟨⟨by decide, "java/lang/IllegalArgumentException", kg885, by decide +kernel⟩, fun _ h => absurd h List.not_mem_nil⟩, by decide, by decide, kg886, by decide +kernel, rfl⟩
theorem hdl_L_label_1 {l : Launch} {E : JE} {dd n : Nat} {Qr : Option JV → JM → Prop} {p : Int} {t : JM} {q0 : Int} (hq : Qr (some (0, 2)) t) : V l E mL_label dd n Qr jno 15 [(2, 0), (0, p), (2, 55), (9, 0)] [(3, q0)] t := by
  refine V.astore_n (L' := [_, _, _, _]) dL_label_15 rfl rfl ?_
  refine V.iconst dL_label_16 ⟨by decide, by decide⟩ ?_
  exact V.iret (jret_i dL_label_17 rfl) hq
def jLQ_label (Qr : Option JV → JM → Prop) (Qx : String → JM → Prop) : Option JV → JM → Prop := fun v t => (∃ r t', Qr (some (0, r)) t' ∧ v = some (0, 0) ∧ t = jset t' 55 0 r) ∨ (Qx "java/lang/IllegalArgumentException" t ∧ v = some (0, 1)) ∨ (Qx "java/lang/IllegalStateException" t ∧ v = some (0, 2))
theorem sp_L_label {σ : JM} {p : Int} {n d0 : Nat} {Qr : Option JV → JM → Prop} {Qx : String → JM → Prop} (hn : n ≤ 1) (h : JSp mX6_label d0 n [(2, 0), (0, p)] σ Qr Qx) (hr : ∀ v t, Qr v t → ∃ r, v = some (0, r)) (hx : ∀ X t, Qx X t → X = "java/lang/IllegalArgumentException" ∨ X = "java/lang/IllegalStateException") : JSpH mL_label (d0 + 1) 1 [(2, 0), (0, p), (2, 55)] σ (jLQ_label Qr Qx) jno := by
  refine JSpH.of [(2, 0), (0, p), (2, 55), (9, 0)] (by decide +kernel) rfl rfl rfl (fun l E hA => ?_)
  refine V.aload_n dL_label_0 rfl ?_
  refine V.iconst dL_label_1 ⟨by decide, by decide⟩ ?_
  refine V.aload_n dL_label_2 rfl ?_
  refine V.iload_n dL_label_3 rfl ?_
  refine V.callVC [_] rfl kc_L_7 rfl dL_label_4 (d' := d0) (Nat.lt_succ_self _) hn rfl (fun _ _ => h) (fun v t' hq hv => ?_) (fun X t hx2 => by
      rcases hx X t hx2 with rfl | rfl
      · exact ⟨12, cat_L_label_0, fun q => hdl_L_label_0 (Or.inr (Or.inl ⟨hx2, rfl⟩))⟩
      · exact ⟨15, cat_L_label_1, fun q => hdl_L_label_1 (Or.inr (Or.inr ⟨hx2, rfl⟩))⟩)
  obtain ⟨r, rfl⟩ := hr v t' hq
  refine V.i2l dL_label_7 ?_
  refine V.last (cell := 55) 0 rfl rfl rfl rfl dL_label_8 (by omega) (by omega) ?_
  refine V.goto (tgt := 18) dL_label_9 (by decide) ?_
  refine V.iconst dL_label_18 ⟨by decide, by decide⟩ ?_
  exact V.iret (jret_i dL_label_19 rfl) (Or.inl ⟨r, t', hq, rfl, rfl⟩)
theorem cat_L_labelAddress_0 : jcatch mL_labelAddress 4 "java/util/NoSuchElementException" 12 := ⟨[], (0, 9, 12, 37), [], rfl, fun _ h => absurd h List.not_mem_nil, by decide, by decide, kg968, by decide +kernel, rfl⟩
theorem hdl_L_labelAddress_0 {l : Launch} {E : JE} {dd n : Nat} {Qr : Option JV → JM → Prop} {p : Int} {t : JM} {q0 : Int} (hq : Qr (some (0, 1)) t) : V l E mL_labelAddress dd n Qr jno 12 [(2, 0), (0, p), (2, 55), (9, 0)] [(3, q0)] t := by
  refine V.astore_n (L' := [_, _, _, _]) dL_labelAddress_12 rfl rfl ?_
  refine V.iconst dL_labelAddress_13 ⟨by decide, by decide⟩ ?_
  exact V.iret (jret_i dL_labelAddress_14 rfl) hq
def jLQ_labelAddress (Qr : Option JV → JM → Prop) (Qx : String → JM → Prop) : Option JV → JM → Prop := fun v t => (∃ r t', Qr (some (0, r)) t' ∧ v = some (0, 0) ∧ t = jset t' 55 0 r) ∨ (Qx "java/util/NoSuchElementException" t ∧ v = some (0, 1))
theorem sp_L_labelAddress {σ : JM} {p : Int} {n d0 : Nat} {Qr : Option JV → JM → Prop} {Qx : String → JM → Prop} (hn : n ≤ 1) (h : JSp mX6_labelAddress d0 n [(2, 0), (0, p)] σ Qr Qx) (hr : ∀ v t, Qr v t → ∃ r, v = some (0, r)) (hx : ∀ X t, Qx X t → X = "java/util/NoSuchElementException") : JSpH mL_labelAddress (d0 + 1) 1 [(2, 0), (0, p), (2, 55)] σ (jLQ_labelAddress Qr Qx) jno := by
  refine JSpH.of [(2, 0), (0, p), (2, 55), (9, 0)] (by decide +kernel) rfl rfl rfl (fun l E hA => ?_)
  refine V.aload_n dL_labelAddress_0 rfl ?_
  refine V.iconst dL_labelAddress_1 ⟨by decide, by decide⟩ ?_
  refine V.aload_n dL_labelAddress_2 rfl ?_
  refine V.iload_n dL_labelAddress_3 rfl ?_
  refine V.callVC [_] rfl kc_L_85 rfl dL_labelAddress_4 (d' := d0) (Nat.lt_succ_self _) hn rfl (fun _ _ => h) (fun v t' hq hv => ?_) (fun X t hx2 => by
      rcases hx X t hx2 with rfl
      · exact ⟨12, cat_L_labelAddress_0, fun q => hdl_L_labelAddress_0 (Or.inr ⟨hx2, rfl⟩)⟩)
  obtain ⟨r, rfl⟩ := hr v t' hq
  refine V.i2l dL_labelAddress_7 ?_
  refine V.last (cell := 55) 0 rfl rfl rfl rfl dL_labelAddress_8 (by omega) (by omega) ?_
  refine V.goto (tgt := 15) dL_labelAddress_9 (by decide) ?_
  refine V.iconst dL_labelAddress_15 ⟨by decide, by decide⟩ ?_
  exact V.iret (jret_i dL_labelAddress_16 rfl) (Or.inl ⟨r, t', hq, rfl, rfl⟩)
theorem cat_L_lineOf_0 : jcatch mL_lineOf 4 "java/util/NoSuchElementException" 12 := ⟨[], (0, 9, 12, 37), [(0, 9, 15, 77)], rfl, fun _ h => absurd h List.not_mem_nil, by decide, by decide, kg968, by decide +kernel, rfl⟩
theorem hdl_L_lineOf_0 {l : Launch} {E : JE} {dd n : Nat} {Qr : Option JV → JM → Prop} {p : Int} {t : JM} {q0 : Int} (hq : Qr (some (0, 1)) t) : V l E mL_lineOf dd n Qr jno 12 [(2, 0), (0, p), (2, 55), (9, 0)] [(3, q0)] t := by
  refine V.astore_n (L' := [_, _, _, _]) dL_lineOf_12 rfl rfl ?_
  refine V.iconst dL_lineOf_13 ⟨by decide, by decide⟩ ?_
  exact V.iret (jret_i dL_lineOf_14 rfl) hq
theorem cat_L_lineOf_1 : jcatch mL_lineOf 4 "java/lang/IndexOutOfBoundsException" 15 := ⟨[(0, 9, 12, 37)], (0, 9, 15, 77), [], rfl, List.forall_mem_cons.mpr ⟨⟨by decide, "java/util/NoSuchElementException", kg968, by decide +kernel⟩, fun _ h => absurd h List.not_mem_nil⟩, by decide, by decide, kg1173, by decide +kernel, rfl⟩
theorem hdl_L_lineOf_1 {l : Launch} {E : JE} {dd n : Nat} {Qr : Option JV → JM → Prop} {p : Int} {t : JM} {q0 : Int} (hq : Qr (some (0, 2)) t) : V l E mL_lineOf dd n Qr jno 15 [(2, 0), (0, p), (2, 55), (9, 0)] [(3, q0)] t := by
  refine V.astore_n (L' := [_, _, _, _]) dL_lineOf_15 rfl rfl ?_
  refine V.iconst dL_lineOf_16 ⟨by decide, by decide⟩ ?_
  exact V.iret (jret_i dL_lineOf_17 rfl) hq
def jLQ_lineOf (Qr : Option JV → JM → Prop) (Qx : String → JM → Prop) : Option JV → JM → Prop := fun v t => (∃ r t', Qr (some (0, r)) t' ∧ v = some (0, 0) ∧ t = jset t' 55 0 r) ∨ (Qx "java/util/NoSuchElementException" t ∧ v = some (0, 1)) ∨ (Qx "java/lang/IndexOutOfBoundsException" t ∧ v = some (0, 2))
theorem sp_L_lineOf {σ : JM} {p : Int} {n d0 : Nat} {Qr : Option JV → JM → Prop} {Qx : String → JM → Prop} (hn : n ≤ 1) (h : JSp mX6_lineOf d0 n [(2, 0), (0, p)] σ Qr Qx) (hr : ∀ v t, Qr v t → ∃ r, v = some (0, r)) (hx : ∀ X t, Qx X t → X = "java/util/NoSuchElementException" ∨ X = "java/lang/IndexOutOfBoundsException") : JSpH mL_lineOf (d0 + 1) 1 [(2, 0), (0, p), (2, 55)] σ (jLQ_lineOf Qr Qx) jno := by
  refine JSpH.of [(2, 0), (0, p), (2, 55), (9, 0)] (by decide +kernel) rfl rfl rfl (fun l E hA => ?_)
  refine V.aload_n dL_lineOf_0 rfl ?_
  refine V.iconst dL_lineOf_1 ⟨by decide, by decide⟩ ?_
  refine V.aload_n dL_lineOf_2 rfl ?_
  refine V.iload_n dL_lineOf_3 rfl ?_
  refine V.callVC [_] rfl kc_L_97 rfl dL_lineOf_4 (d' := d0) (Nat.lt_succ_self _) hn rfl (fun _ _ => h) (fun v t' hq hv => ?_) (fun X t hx2 => by
      rcases hx X t hx2 with rfl | rfl
      · exact ⟨12, cat_L_lineOf_0, fun q => hdl_L_lineOf_0 (Or.inr (Or.inl ⟨hx2, rfl⟩))⟩
      · exact ⟨15, cat_L_lineOf_1, fun q => hdl_L_lineOf_1 (Or.inr (Or.inr ⟨hx2, rfl⟩))⟩)
  obtain ⟨r, rfl⟩ := hr v t' hq
  refine V.i2l dL_lineOf_7 ?_
  refine V.last (cell := 55) 0 rfl rfl rfl rfl dL_lineOf_8 (by omega) (by omega) ?_
  refine V.goto (tgt := 18) dL_lineOf_9 (by decide) ?_
  refine V.iconst dL_lineOf_18 ⟨by decide, by decide⟩ ?_
  exact V.iret (jret_i dL_lineOf_19 rfl) (Or.inl ⟨r, t', hq, rfl, rfl⟩)
theorem cat_L_loadedWord_0 : jcatch mL_loadedWord 5 "java/util/NoSuchElementException" 13 := ⟨[], (0, 10, 13, 37), [(0, 10, 17, 77), (0, 10, 21, 13)], rfl, fun _ h => absurd h List.not_mem_nil, by decide, by decide, kg968, by decide +kernel, rfl⟩
theorem hdl_L_loadedWord_0 {l : Launch} {E : JE} {dd n : Nat} {Qr : Option JV → JM → Prop} {p q : Int} {t : JM} {q0 : Int} (hq : Qr (some (0, 1)) t) : V l E mL_loadedWord dd n Qr jno 13 [(2, 0), (0, p), (0, q), (2, 55), (9, 0)] [(3, q0)] t := by
  refine V.astore (L' := [_, _, _, _, _]) dL_loadedWord_13 rfl rfl ?_
  refine V.iconst dL_loadedWord_15 ⟨by decide, by decide⟩ ?_
  exact V.iret (jret_i dL_loadedWord_16 rfl) hq
theorem cat_L_loadedWord_1 : jcatch mL_loadedWord 5 "java/lang/IndexOutOfBoundsException" 17 := ⟨[(0, 10, 13, 37)], (0, 10, 17, 77), [(0, 10, 21, 13)], rfl, List.forall_mem_cons.mpr ⟨⟨by decide, "java/util/NoSuchElementException", kg968, by decide +kernel⟩, fun _ h => absurd h List.not_mem_nil⟩, by decide, by decide, kg1173, by decide +kernel, rfl⟩
theorem hdl_L_loadedWord_1 {l : Launch} {E : JE} {dd n : Nat} {Qr : Option JV → JM → Prop} {p q : Int} {t : JM} {q0 : Int} (hq : Qr (some (0, 2)) t) : V l E mL_loadedWord dd n Qr jno 17 [(2, 0), (0, p), (0, q), (2, 55), (9, 0)] [(3, q0)] t := by
  refine V.astore (L' := [_, _, _, _, _]) dL_loadedWord_17 rfl rfl ?_
  refine V.iconst dL_loadedWord_19 ⟨by decide, by decide⟩ ?_
  exact V.iret (jret_i dL_loadedWord_20 rfl) hq
theorem cat_L_loadedWord_2 : jcatch mL_loadedWord 5 "java/lang/IllegalArgumentException" 21 := ⟨[(0, 10, 13, 37), (0, 10, 17, 77)], (0, 10, 21, 13), [], rfl, List.forall_mem_cons.mpr ⟨⟨by decide, "java/util/NoSuchElementException", kg968, by decide +kernel⟩, List.forall_mem_cons.mpr ⟨⟨by decide, "java/lang/IndexOutOfBoundsException", kg1173, by decide +kernel⟩, fun _ h => absurd h List.not_mem_nil⟩⟩, by decide, by decide, kg885, by decide +kernel, rfl⟩
theorem hdl_L_loadedWord_2 {l : Launch} {E : JE} {dd n : Nat} {Qr : Option JV → JM → Prop} {p q : Int} {t : JM} {q0 : Int} (hq : Qr (some (0, 3)) t) : V l E mL_loadedWord dd n Qr jno 21 [(2, 0), (0, p), (0, q), (2, 55), (9, 0)] [(3, q0)] t := by
  refine V.astore (L' := [_, _, _, _, _]) dL_loadedWord_21 rfl rfl ?_
  refine V.iconst dL_loadedWord_23 ⟨by decide, by decide⟩ ?_
  exact V.iret (jret_i dL_loadedWord_24 rfl) hq
def jLQ_loadedWord (Qr : Option JV → JM → Prop) (Qx : String → JM → Prop) : Option JV → JM → Prop := fun v t => (∃ r t', Qr (some (0, r)) t' ∧ v = some (0, 0) ∧ t = jset t' 55 0 r) ∨ (Qx "java/util/NoSuchElementException" t ∧ v = some (0, 1)) ∨ (Qx "java/lang/IndexOutOfBoundsException" t ∧ v = some (0, 2)) ∨ (Qx "java/lang/IllegalArgumentException" t ∧ v = some (0, 3))
theorem sp_L_loadedWord {σ : JM} {p q : Int} {n d0 : Nat} {Qr : Option JV → JM → Prop} {Qx : String → JM → Prop} (hn : n ≤ 1) (h : JSp mX6_loadedWord d0 n [(2, 0), (0, p), (0, q)] σ Qr Qx) (hr : ∀ v t, Qr v t → ∃ r, v = some (0, r)) (hx : ∀ X t, Qx X t → X = "java/util/NoSuchElementException" ∨ X = "java/lang/IndexOutOfBoundsException" ∨ X = "java/lang/IllegalArgumentException") : JSpH mL_loadedWord (d0 + 1) 1 [(2, 0), (0, p), (0, q), (2, 55)] σ (jLQ_loadedWord Qr Qx) jno := by
  refine JSpH.of [(2, 0), (0, p), (0, q), (2, 55), (9, 0)] (by decide +kernel) rfl rfl rfl (fun l E hA => ?_)
  refine V.aload_n dL_loadedWord_0 rfl ?_
  refine V.iconst dL_loadedWord_1 ⟨by decide, by decide⟩ ?_
  refine V.aload_n dL_loadedWord_2 rfl ?_
  refine V.iload_n dL_loadedWord_3 rfl ?_
  refine V.iload_n dL_loadedWord_4 rfl ?_
  refine V.callVC [_, _] rfl kc_L_82 rfl dL_loadedWord_5 (d' := d0) (Nat.lt_succ_self _) hn rfl (fun _ _ => h) (fun v t' hq hv => ?_) (fun X t hx2 => by
      rcases hx X t hx2 with rfl | rfl | rfl
      · exact ⟨13, cat_L_loadedWord_0, fun q => hdl_L_loadedWord_0 (Or.inr (Or.inl ⟨hx2, rfl⟩))⟩
      · exact ⟨17, cat_L_loadedWord_1, fun q => hdl_L_loadedWord_1 (Or.inr (Or.inr (Or.inl ⟨hx2, rfl⟩)))⟩
      · exact ⟨21, cat_L_loadedWord_2, fun q => hdl_L_loadedWord_2 (Or.inr (Or.inr (Or.inr ⟨hx2, rfl⟩)))⟩)
  obtain ⟨r, rfl⟩ := hr v t' hq
  refine V.i2l dL_loadedWord_8 ?_
  refine V.last (cell := 55) 0 rfl rfl rfl rfl dL_loadedWord_9 (by omega) (by omega) ?_
  refine V.goto (tgt := 25) dL_loadedWord_10 (by decide) ?_
  refine V.iconst dL_loadedWord_25 ⟨by decide, by decide⟩ ?_
  exact V.iret (jret_i dL_loadedWord_26 rfl) (Or.inl ⟨r, t', hq, rfl, rfl⟩)
theorem cat_L_longJumps_0 : jcatch mL_longJumps 3 "java/util/NoSuchElementException" 11 := ⟨[], (0, 8, 11, 37), [], rfl, fun _ h => absurd h List.not_mem_nil, by decide, by decide, kg968, by decide +kernel, rfl⟩
theorem hdl_L_longJumps_0 {l : Launch} {E : JE} {dd n : Nat} {Qr : Option JV → JM → Prop}  {t : JM} {q0 : Int} (hq : Qr (some (0, 1)) t) : V l E mL_longJumps dd n Qr jno 11 [(2, 0), (2, 55), (9, 0)] [(3, q0)] t := by
  refine V.astore_n (L' := [_, _, _]) dL_longJumps_11 rfl rfl ?_
  refine V.iconst dL_longJumps_12 ⟨by decide, by decide⟩ ?_
  exact V.iret (jret_i dL_longJumps_13 rfl) hq
def jLQ_longJumps (Qr : Option JV → JM → Prop) (Qx : String → JM → Prop) : Option JV → JM → Prop := fun v t => (∃ r t', Qr (some (0, r)) t' ∧ v = some (0, 0) ∧ t = jset t' 55 0 r) ∨ (Qx "java/util/NoSuchElementException" t ∧ v = some (0, 1))
theorem sp_L_longJumps {σ : JM}  {n d0 : Nat} {Qr : Option JV → JM → Prop} {Qx : String → JM → Prop} (hn : n ≤ 1) (h : JSp mX6_longJumps d0 n [(2, 0)] σ Qr Qx) (hr : ∀ v t, Qr v t → ∃ r, v = some (0, r)) (hx : ∀ X t, Qx X t → X = "java/util/NoSuchElementException") : JSpH mL_longJumps (d0 + 1) 1 [(2, 0), (2, 55)] σ (jLQ_longJumps Qr Qx) jno := by
  refine JSpH.of [(2, 0), (2, 55), (9, 0)] (by decide +kernel) rfl rfl rfl (fun l E hA => ?_)
  refine V.aload_n dL_longJumps_0 rfl ?_
  refine V.iconst dL_longJumps_1 ⟨by decide, by decide⟩ ?_
  refine V.aload_n dL_longJumps_2 rfl ?_
  refine V.callVC [] rfl kc_L_91 rfl dL_longJumps_3 (d' := d0) (Nat.lt_succ_self _) hn rfl (fun _ _ => h) (fun v t' hq hv => ?_) (fun X t hx2 => by
      rcases hx X t hx2 with rfl
      · exact ⟨11, cat_L_longJumps_0, fun q => hdl_L_longJumps_0 (Or.inr ⟨hx2, rfl⟩)⟩)
  obtain ⟨r, rfl⟩ := hr v t' hq
  refine V.i2l dL_longJumps_6 ?_
  refine V.last (cell := 55) 0 rfl rfl rfl rfl dL_longJumps_7 (by omega) (by omega) ?_
  refine V.goto (tgt := 14) dL_longJumps_8 (by decide) ?_
  refine V.iconst dL_longJumps_14 ⟨by decide, by decide⟩ ?_
  exact V.iret (jret_i dL_longJumps_15 rfl) (Or.inl ⟨r, t', hq, rfl, rfl⟩)
theorem cat_L_loop_0 : jcatch mL_loop 4 "java/lang/IllegalArgumentException" 12 := ⟨[], (0, 9, 12, 13), [(0, 9, 15, 15)], rfl, fun _ h => absurd h List.not_mem_nil, by decide, by decide, kg885, by decide +kernel, rfl⟩
theorem hdl_L_loop_0 {l : Launch} {E : JE} {dd n : Nat} {Qr : Option JV → JM → Prop} {p : Int} {t : JM} {q0 : Int} (hq : Qr (some (0, 1)) t) : V l E mL_loop dd n Qr jno 12 [(2, 0), (0, p), (2, 55), (9, 0)] [(3, q0)] t := by
  refine V.astore_n (L' := [_, _, _, _]) dL_loop_12 rfl rfl ?_
  refine V.iconst dL_loop_13 ⟨by decide, by decide⟩ ?_
  exact V.iret (jret_i dL_loop_14 rfl) hq
theorem cat_L_loop_1 : jcatch mL_loop 4 "java/lang/IllegalStateException" 15 := ⟨[(0, 9, 12, 13)], (0, 9, 15, 15), [], rfl, List.forall_mem_cons.mpr ⟨⟨by decide, "java/lang/IllegalArgumentException", kg885, by decide +kernel⟩, fun _ h => absurd h List.not_mem_nil⟩, by decide, by decide, kg886, by decide +kernel, rfl⟩
theorem hdl_L_loop_1 {l : Launch} {E : JE} {dd n : Nat} {Qr : Option JV → JM → Prop} {p : Int} {t : JM} {q0 : Int} (hq : Qr (some (0, 2)) t) : V l E mL_loop dd n Qr jno 15 [(2, 0), (0, p), (2, 55), (9, 0)] [(3, q0)] t := by
  refine V.astore_n (L' := [_, _, _, _]) dL_loop_15 rfl rfl ?_
  refine V.iconst dL_loop_16 ⟨by decide, by decide⟩ ?_
  exact V.iret (jret_i dL_loop_17 rfl) hq
def jLQ_loop (Qr : Option JV → JM → Prop) (Qx : String → JM → Prop) : Option JV → JM → Prop := fun v t => (∃ r t', Qr (some (0, r)) t' ∧ v = some (0, 0) ∧ t = jset t' 55 0 r) ∨ (Qx "java/lang/IllegalArgumentException" t ∧ v = some (0, 1)) ∨ (Qx "java/lang/IllegalStateException" t ∧ v = some (0, 2))
theorem sp_L_loop {σ : JM} {p : Int} {n d0 : Nat} {Qr : Option JV → JM → Prop} {Qx : String → JM → Prop} (hn : n ≤ 1) (h : JSp mX6_loop d0 n [(2, 0), (0, p)] σ Qr Qx) (hr : ∀ v t, Qr v t → ∃ r, v = some (0, r)) (hx : ∀ X t, Qx X t → X = "java/lang/IllegalArgumentException" ∨ X = "java/lang/IllegalStateException") : JSpH mL_loop (d0 + 1) 1 [(2, 0), (0, p), (2, 55)] σ (jLQ_loop Qr Qx) jno := by
  refine JSpH.of [(2, 0), (0, p), (2, 55), (9, 0)] (by decide +kernel) rfl rfl rfl (fun l E hA => ?_)
  refine V.aload_n dL_loop_0 rfl ?_
  refine V.iconst dL_loop_1 ⟨by decide, by decide⟩ ?_
  refine V.aload_n dL_loop_2 rfl ?_
  refine V.iload_n dL_loop_3 rfl ?_
  refine V.callVC [_] rfl kc_L_43 rfl dL_loop_4 (d' := d0) (Nat.lt_succ_self _) hn rfl (fun _ _ => h) (fun v t' hq hv => ?_) (fun X t hx2 => by
      rcases hx X t hx2 with rfl | rfl
      · exact ⟨12, cat_L_loop_0, fun q => hdl_L_loop_0 (Or.inr (Or.inl ⟨hx2, rfl⟩))⟩
      · exact ⟨15, cat_L_loop_1, fun q => hdl_L_loop_1 (Or.inr (Or.inr ⟨hx2, rfl⟩))⟩)
  obtain ⟨r, rfl⟩ := hr v t' hq
  refine V.i2l dL_loop_7 ?_
  refine V.last (cell := 55) 0 rfl rfl rfl rfl dL_loop_8 (by omega) (by omega) ?_
  refine V.goto (tgt := 18) dL_loop_9 (by decide) ?_
  refine V.iconst dL_loop_18 ⟨by decide, by decide⟩ ?_
  exact V.iret (jret_i dL_loop_19 rfl) (Or.inl ⟨r, t', hq, rfl, rfl⟩)
theorem cat_L_macro_0 : jcatch mL_macro 3 "java/lang/UnsupportedOperationException" 11 := ⟨[], (0, 8, 11, 52), [(0, 8, 14, 15)], rfl, fun _ h => absurd h List.not_mem_nil, by decide, by decide, kg1017, by decide +kernel, rfl⟩
theorem hdl_L_macro_0 {l : Launch} {E : JE} {dd n : Nat} {Qr : Option JV → JM → Prop}  {t : JM} {q0 : Int} (hq : Qr (some (0, 1)) t) : V l E mL_macro dd n Qr jno 11 [(2, 0), (2, 55), (9, 0)] [(3, q0)] t := by
  refine V.astore_n (L' := [_, _, _]) dL_macro_11 rfl rfl ?_
  refine V.iconst dL_macro_12 ⟨by decide, by decide⟩ ?_
  exact V.iret (jret_i dL_macro_13 rfl) hq
theorem cat_L_macro_1 : jcatch mL_macro 3 "java/lang/IllegalStateException" 14 := ⟨[(0, 8, 11, 52)], (0, 8, 14, 15), [], rfl, List.forall_mem_cons.mpr ⟨⟨by decide, "java/lang/UnsupportedOperationException", kg1017, by decide +kernel⟩, fun _ h => absurd h List.not_mem_nil⟩, by decide, by decide, kg886, by decide +kernel, rfl⟩
theorem hdl_L_macro_1 {l : Launch} {E : JE} {dd n : Nat} {Qr : Option JV → JM → Prop}  {t : JM} {q0 : Int} (hq : Qr (some (0, 2)) t) : V l E mL_macro dd n Qr jno 14 [(2, 0), (2, 55), (9, 0)] [(3, q0)] t := by
  refine V.astore_n (L' := [_, _, _]) dL_macro_14 rfl rfl ?_
  refine V.iconst dL_macro_15 ⟨by decide, by decide⟩ ?_
  exact V.iret (jret_i dL_macro_16 rfl) hq
def jLQ_macro (Qr : Option JV → JM → Prop) (Qx : String → JM → Prop) : Option JV → JM → Prop := fun v t => (∃ r t', Qr (some (0, r)) t' ∧ v = some (0, 0) ∧ t = jset t' 55 0 r) ∨ (Qx "java/lang/UnsupportedOperationException" t ∧ v = some (0, 1)) ∨ (Qx "java/lang/IllegalStateException" t ∧ v = some (0, 2))
theorem sp_L_macro {σ : JM}  {n d0 : Nat} {Qr : Option JV → JM → Prop} {Qx : String → JM → Prop} (hn : n ≤ 1) (h : JSp mX6_macro d0 n [(2, 0)] σ Qr Qx) (hr : ∀ v t, Qr v t → ∃ r, v = some (0, r)) (hx : ∀ X t, Qx X t → X = "java/lang/UnsupportedOperationException" ∨ X = "java/lang/IllegalStateException") : JSpH mL_macro (d0 + 1) 1 [(2, 0), (2, 55)] σ (jLQ_macro Qr Qx) jno := by
  refine JSpH.of [(2, 0), (2, 55), (9, 0)] (by decide +kernel) rfl rfl rfl (fun l E hA => ?_)
  refine V.aload_n dL_macro_0 rfl ?_
  refine V.iconst dL_macro_1 ⟨by decide, by decide⟩ ?_
  refine V.aload_n dL_macro_2 rfl ?_
  refine V.callVC [] rfl kc_L_54 rfl dL_macro_3 (d' := d0) (Nat.lt_succ_self _) hn rfl (fun _ _ => h) (fun v t' hq hv => ?_) (fun X t hx2 => by
      rcases hx X t hx2 with rfl | rfl
      · exact ⟨11, cat_L_macro_0, fun q => hdl_L_macro_0 (Or.inr (Or.inl ⟨hx2, rfl⟩))⟩
      · exact ⟨14, cat_L_macro_1, fun q => hdl_L_macro_1 (Or.inr (Or.inr ⟨hx2, rfl⟩))⟩)
  obtain ⟨r, rfl⟩ := hr v t' hq
  refine V.i2l dL_macro_6 ?_
  refine V.last (cell := 55) 0 rfl rfl rfl rfl dL_macro_7 (by omega) (by omega) ?_
  refine V.goto (tgt := 17) dL_macro_8 (by decide) ?_
  refine V.iconst dL_macro_17 ⟨by decide, by decide⟩ ?_
  exact V.iret (jret_i dL_macro_18 rfl) (Or.inl ⟨r, t', hq, rfl, rfl⟩)
theorem cat_L_meanWord_0 : jcatch mL_meanWord 3 "java/util/NoSuchElementException" 10 := ⟨[], (0, 7, 10, 37), [(0, 7, 13, 120)], rfl, fun _ h => absurd h List.not_mem_nil, by decide, by decide, kg968, by decide +kernel, rfl⟩
theorem hdl_L_meanWord_0 {l : Launch} {E : JE} {dd n : Nat} {Qr : Option JV → JM → Prop}  {t : JM} {q0 : Int} (hq : Qr (some (0, 1)) t) : V l E mL_meanWord dd n Qr jno 10 [(2, 0), (2, 56), (9, 0)] [(3, q0)] t := by
  refine V.astore_n (L' := [_, _, _]) dL_meanWord_10 rfl rfl ?_
  refine V.iconst dL_meanWord_11 ⟨by decide, by decide⟩ ?_
  exact V.iret (jret_i dL_meanWord_12 rfl) hq
theorem cat_L_meanWord_1 : jcatch mL_meanWord 3 "java/lang/ArithmeticException" 13 := ⟨[(0, 7, 10, 37)], (0, 7, 13, 120), [], rfl, List.forall_mem_cons.mpr ⟨⟨by decide, "java/util/NoSuchElementException", kg968, by decide +kernel⟩, fun _ h => absurd h List.not_mem_nil⟩, by decide, by decide, kg1327, by decide +kernel, rfl⟩
theorem hdl_L_meanWord_1 {l : Launch} {E : JE} {dd n : Nat} {Qr : Option JV → JM → Prop}  {t : JM} {q0 : Int} (hq : Qr (some (0, 2)) t) : V l E mL_meanWord dd n Qr jno 13 [(2, 0), (2, 56), (9, 0)] [(3, q0)] t := by
  refine V.astore_n (L' := [_, _, _]) dL_meanWord_13 rfl rfl ?_
  refine V.iconst dL_meanWord_14 ⟨by decide, by decide⟩ ?_
  exact V.iret (jret_i dL_meanWord_15 rfl) hq
def jLQ_meanWord (Qr : Option JV → JM → Prop) (Qx : String → JM → Prop) : Option JV → JM → Prop := fun v t => (∃ r t', Qr (some (5, r)) t' ∧ v = some (0, 0) ∧ t = jset t' 56 0 r) ∨ (Qx "java/util/NoSuchElementException" t ∧ v = some (0, 1)) ∨ (Qx "java/lang/ArithmeticException" t ∧ v = some (0, 2))
theorem sp_L_meanWord {σ : JM}  {n d0 : Nat} {Qr : Option JV → JM → Prop} {Qx : String → JM → Prop} (hn : n ≤ 1) (h : JSp mX6_meanWord d0 n [(2, 0)] σ Qr Qx) (hr : ∀ v t, Qr v t → ∃ r, v = some (5, r)) (hx : ∀ X t, Qx X t → X = "java/util/NoSuchElementException" ∨ X = "java/lang/ArithmeticException") : JSpH mL_meanWord (d0 + 1) 1 [(2, 0), (2, 56)] σ (jLQ_meanWord Qr Qx) jno := by
  refine JSpH.of [(2, 0), (2, 56), (9, 0)] (by decide +kernel) rfl rfl rfl (fun l E hA => ?_)
  refine V.aload_n dL_meanWord_0 rfl ?_
  refine V.iconst dL_meanWord_1 ⟨by decide, by decide⟩ ?_
  refine V.aload_n dL_meanWord_2 rfl ?_
  refine V.callVC [] rfl kc_L_122 rfl dL_meanWord_3 (d' := d0) (Nat.lt_succ_self _) hn rfl (fun _ _ => h) (fun v t' hq hv => ?_) (fun X t hx2 => by
      rcases hx X t hx2 with rfl | rfl
      · exact ⟨10, cat_L_meanWord_0, fun q => hdl_L_meanWord_0 (Or.inr (Or.inl ⟨hx2, rfl⟩))⟩
      · exact ⟨13, cat_L_meanWord_1, fun q => hdl_L_meanWord_1 (Or.inr (Or.inr ⟨hx2, rfl⟩))⟩)
  obtain ⟨r, rfl⟩ := hr v t' hq
  refine V.dast (cell := 56) 0 rfl rfl rfl rfl dL_meanWord_6 (by omega) (by omega) ?_
  refine V.goto (tgt := 16) dL_meanWord_7 (by decide) ?_
  refine V.iconst dL_meanWord_16 ⟨by decide, by decide⟩ ?_
  exact V.iret (jret_i dL_meanWord_17 rfl) (Or.inl ⟨r, t', hq, rfl, rfl⟩)
theorem cat_L_operation_0 : jcatch mL_operation 5 "java/lang/IllegalArgumentException" 13 := ⟨[], (0, 10, 13, 13), [(0, 10, 17, 15)], rfl, fun _ h => absurd h List.not_mem_nil, by decide, by decide, kg885, by decide +kernel, rfl⟩
theorem hdl_L_operation_0 {l : Launch} {E : JE} {dd n : Nat} {Qr : Option JV → JM → Prop} {p q : Int} {t : JM} {q0 : Int} (hq : Qr (some (0, 1)) t) : V l E mL_operation dd n Qr jno 13 [(2, 0), (0, p), (0, q), (2, 55), (9, 0)] [(3, q0)] t := by
  refine V.astore (L' := [_, _, _, _, _]) dL_operation_13 rfl rfl ?_
  refine V.iconst dL_operation_15 ⟨by decide, by decide⟩ ?_
  exact V.iret (jret_i dL_operation_16 rfl) hq
theorem cat_L_operation_1 : jcatch mL_operation 5 "java/lang/IllegalStateException" 17 := ⟨[(0, 10, 13, 13)], (0, 10, 17, 15), [], rfl, List.forall_mem_cons.mpr ⟨⟨by decide, "java/lang/IllegalArgumentException", kg885, by decide +kernel⟩, fun _ h => absurd h List.not_mem_nil⟩, by decide, by decide, kg886, by decide +kernel, rfl⟩
theorem hdl_L_operation_1 {l : Launch} {E : JE} {dd n : Nat} {Qr : Option JV → JM → Prop} {p q : Int} {t : JM} {q0 : Int} (hq : Qr (some (0, 2)) t) : V l E mL_operation dd n Qr jno 17 [(2, 0), (0, p), (0, q), (2, 55), (9, 0)] [(3, q0)] t := by
  refine V.astore (L' := [_, _, _, _, _]) dL_operation_17 rfl rfl ?_
  refine V.iconst dL_operation_19 ⟨by decide, by decide⟩ ?_
  exact V.iret (jret_i dL_operation_20 rfl) hq
def jLQ_operation (Qr : Option JV → JM → Prop) (Qx : String → JM → Prop) : Option JV → JM → Prop := fun v t => (∃ r t', Qr (some (0, r)) t' ∧ v = some (0, 0) ∧ t = jset t' 55 0 r) ∨ (Qx "java/lang/IllegalArgumentException" t ∧ v = some (0, 1)) ∨ (Qx "java/lang/IllegalStateException" t ∧ v = some (0, 2))
theorem sp_L_operation {σ : JM} {p q : Int} {n d0 : Nat} {Qr : Option JV → JM → Prop} {Qx : String → JM → Prop} (hn : n ≤ 1) (h : JSp mX6_operation d0 n [(2, 0), (0, p), (0, q)] σ Qr Qx) (hr : ∀ v t, Qr v t → ∃ r, v = some (0, r)) (hx : ∀ X t, Qx X t → X = "java/lang/IllegalArgumentException" ∨ X = "java/lang/IllegalStateException") : JSpH mL_operation (d0 + 1) 1 [(2, 0), (0, p), (0, q), (2, 55)] σ (jLQ_operation Qr Qx) jno := by
  refine JSpH.of [(2, 0), (0, p), (0, q), (2, 55), (9, 0)] (by decide +kernel) rfl rfl rfl (fun l E hA => ?_)
  refine V.aload_n dL_operation_0 rfl ?_
  refine V.iconst dL_operation_1 ⟨by decide, by decide⟩ ?_
  refine V.aload_n dL_operation_2 rfl ?_
  refine V.iload_n dL_operation_3 rfl ?_
  refine V.iload_n dL_operation_4 rfl ?_
  refine V.callVC [_, _] rfl kc_L_20 rfl dL_operation_5 (d' := d0) (Nat.lt_succ_self _) hn rfl (fun _ _ => h) (fun v t' hq hv => ?_) (fun X t hx2 => by
      rcases hx X t hx2 with rfl | rfl
      · exact ⟨13, cat_L_operation_0, fun q => hdl_L_operation_0 (Or.inr (Or.inl ⟨hx2, rfl⟩))⟩
      · exact ⟨17, cat_L_operation_1, fun q => hdl_L_operation_1 (Or.inr (Or.inr ⟨hx2, rfl⟩))⟩)
  obtain ⟨r, rfl⟩ := hr v t' hq
  refine V.i2l dL_operation_8 ?_
  refine V.last (cell := 55) 0 rfl rfl rfl rfl dL_operation_9 (by omega) (by omega) ?_
  refine V.goto (tgt := 21) dL_operation_10 (by decide) ?_
  refine V.iconst dL_operation_21 ⟨by decide, by decide⟩ ?_
  exact V.iret (jret_i dL_operation_22 rfl) (Or.inl ⟨r, t', hq, rfl, rfl⟩)
theorem cat_L_passes_0 : jcatch mL_passes 3 "java/util/NoSuchElementException" 11 := ⟨[], (0, 8, 11, 37), [], rfl, fun _ h => absurd h List.not_mem_nil, by decide, by decide, kg968, by decide +kernel, rfl⟩
theorem hdl_L_passes_0 {l : Launch} {E : JE} {dd n : Nat} {Qr : Option JV → JM → Prop}  {t : JM} {q0 : Int} (hq : Qr (some (0, 1)) t) : V l E mL_passes dd n Qr jno 11 [(2, 0), (2, 55), (9, 0)] [(3, q0)] t := by
  refine V.astore_n (L' := [_, _, _]) dL_passes_11 rfl rfl ?_
  refine V.iconst dL_passes_12 ⟨by decide, by decide⟩ ?_
  exact V.iret (jret_i dL_passes_13 rfl) hq
def jLQ_passes (Qr : Option JV → JM → Prop) (Qx : String → JM → Prop) : Option JV → JM → Prop := fun v t => (∃ r t', Qr (some (0, r)) t' ∧ v = some (0, 0) ∧ t = jset t' 55 0 r) ∨ (Qx "java/util/NoSuchElementException" t ∧ v = some (0, 1))
theorem sp_L_passes {σ : JM}  {n d0 : Nat} {Qr : Option JV → JM → Prop} {Qx : String → JM → Prop} (hn : n ≤ 1) (h : JSp mX6_passes d0 n [(2, 0)] σ Qr Qx) (hr : ∀ v t, Qr v t → ∃ r, v = some (0, r)) (hx : ∀ X t, Qx X t → X = "java/util/NoSuchElementException") : JSpH mL_passes (d0 + 1) 1 [(2, 0), (2, 55)] σ (jLQ_passes Qr Qx) jno := by
  refine JSpH.of [(2, 0), (2, 55), (9, 0)] (by decide +kernel) rfl rfl rfl (fun l E hA => ?_)
  refine V.aload_n dL_passes_0 rfl ?_
  refine V.iconst dL_passes_1 ⟨by decide, by decide⟩ ?_
  refine V.aload_n dL_passes_2 rfl ?_
  refine V.callVC [] rfl kc_L_88 rfl dL_passes_3 (d' := d0) (Nat.lt_succ_self _) hn rfl (fun _ _ => h) (fun v t' hq hv => ?_) (fun X t hx2 => by
      rcases hx X t hx2 with rfl
      · exact ⟨11, cat_L_passes_0, fun q => hdl_L_passes_0 (Or.inr ⟨hx2, rfl⟩)⟩)
  obtain ⟨r, rfl⟩ := hr v t' hq
  refine V.i2l dL_passes_6 ?_
  refine V.last (cell := 55) 0 rfl rfl rfl rfl dL_passes_7 (by omega) (by omega) ?_
  refine V.goto (tgt := 14) dL_passes_8 (by decide) ?_
  refine V.iconst dL_passes_14 ⟨by decide, by decide⟩ ?_
  exact V.iret (jret_i dL_passes_15 rfl) (Or.inl ⟨r, t', hq, rfl, rfl⟩)
theorem cat_L_relocations_0 : jcatch mL_relocations 3 "java/util/NoSuchElementException" 11 := ⟨[], (0, 8, 11, 37), [], rfl, fun _ h => absurd h List.not_mem_nil, by decide, by decide, kg968, by decide +kernel, rfl⟩
theorem hdl_L_relocations_0 {l : Launch} {E : JE} {dd n : Nat} {Qr : Option JV → JM → Prop}  {t : JM} {q0 : Int} (hq : Qr (some (0, 1)) t) : V l E mL_relocations dd n Qr jno 11 [(2, 0), (2, 55), (9, 0)] [(3, q0)] t := by
  refine V.astore_n (L' := [_, _, _]) dL_relocations_11 rfl rfl ?_
  refine V.iconst dL_relocations_12 ⟨by decide, by decide⟩ ?_
  exact V.iret (jret_i dL_relocations_13 rfl) hq
def jLQ_relocations (Qr : Option JV → JM → Prop) (Qx : String → JM → Prop) : Option JV → JM → Prop := fun v t => (∃ r t', Qr (some (0, r)) t' ∧ v = some (0, 0) ∧ t = jset t' 55 0 r) ∨ (Qx "java/util/NoSuchElementException" t ∧ v = some (0, 1))
theorem sp_L_relocations {σ : JM}  {n d0 : Nat} {Qr : Option JV → JM → Prop} {Qx : String → JM → Prop} (hn : n ≤ 1) (h : JSp mX6_relocations d0 n [(2, 0)] σ Qr Qx) (hr : ∀ v t, Qr v t → ∃ r, v = some (0, r)) (hx : ∀ X t, Qx X t → X = "java/util/NoSuchElementException") : JSpH mL_relocations (d0 + 1) 1 [(2, 0), (2, 55)] σ (jLQ_relocations Qr Qx) jno := by
  refine JSpH.of [(2, 0), (2, 55), (9, 0)] (by decide +kernel) rfl rfl rfl (fun l E hA => ?_)
  refine V.aload_n dL_relocations_0 rfl ?_
  refine V.iconst dL_relocations_1 ⟨by decide, by decide⟩ ?_
  refine V.aload_n dL_relocations_2 rfl ?_
  refine V.callVC [] rfl kc_L_79 rfl dL_relocations_3 (d' := d0) (Nat.lt_succ_self _) hn rfl (fun _ _ => h) (fun v t' hq hv => ?_) (fun X t hx2 => by
      rcases hx X t hx2 with rfl
      · exact ⟨11, cat_L_relocations_0, fun q => hdl_L_relocations_0 (Or.inr ⟨hx2, rfl⟩)⟩)
  obtain ⟨r, rfl⟩ := hr v t' hq
  refine V.i2l dL_relocations_6 ?_
  refine V.last (cell := 55) 0 rfl rfl rfl rfl dL_relocations_7 (by omega) (by omega) ?_
  refine V.goto (tgt := 14) dL_relocations_8 (by decide) ?_
  refine V.iconst dL_relocations_14 ⟨by decide, by decide⟩ ?_
  exact V.iret (jret_i dL_relocations_15 rfl) (Or.inl ⟨r, t', hq, rfl, rfl⟩)
theorem cat_L_shortShare_0 : jcatch mL_shortShare 3 "java/util/NoSuchElementException" 11 := ⟨[], (0, 8, 11, 37), [(0, 8, 14, 120)], rfl, fun _ h => absurd h List.not_mem_nil, by decide, by decide, kg968, by decide +kernel, rfl⟩
theorem hdl_L_shortShare_0 {l : Launch} {E : JE} {dd n : Nat} {Qr : Option JV → JM → Prop}  {t : JM} {q0 : Int} (hq : Qr (some (0, 1)) t) : V l E mL_shortShare dd n Qr jno 11 [(2, 0), (2, 56), (9, 0)] [(3, q0)] t := by
  refine V.astore_n (L' := [_, _, _]) dL_shortShare_11 rfl rfl ?_
  refine V.iconst dL_shortShare_12 ⟨by decide, by decide⟩ ?_
  exact V.iret (jret_i dL_shortShare_13 rfl) hq
theorem cat_L_shortShare_1 : jcatch mL_shortShare 3 "java/lang/ArithmeticException" 14 := ⟨[(0, 8, 11, 37)], (0, 8, 14, 120), [], rfl, List.forall_mem_cons.mpr ⟨⟨by decide, "java/util/NoSuchElementException", kg968, by decide +kernel⟩, fun _ h => absurd h List.not_mem_nil⟩, by decide, by decide, kg1327, by decide +kernel, rfl⟩
theorem hdl_L_shortShare_1 {l : Launch} {E : JE} {dd n : Nat} {Qr : Option JV → JM → Prop}  {t : JM} {q0 : Int} (hq : Qr (some (0, 2)) t) : V l E mL_shortShare dd n Qr jno 14 [(2, 0), (2, 56), (9, 0)] [(3, q0)] t := by
  refine V.astore_n (L' := [_, _, _]) dL_shortShare_14 rfl rfl ?_
  refine V.iconst dL_shortShare_15 ⟨by decide, by decide⟩ ?_
  exact V.iret (jret_i dL_shortShare_16 rfl) hq
def jLQ_shortShare (Qr : Option JV → JM → Prop) (Qx : String → JM → Prop) : Option JV → JM → Prop := fun v t => (∃ r t', Qr (some (4, r)) t' ∧ v = some (0, 0) ∧ t = jset t' 56 0 (((FP.f2d (jF r)).toNat : Nat) : Int)) ∨ (Qx "java/util/NoSuchElementException" t ∧ v = some (0, 1)) ∨ (Qx "java/lang/ArithmeticException" t ∧ v = some (0, 2))
theorem sp_L_shortShare {σ : JM}  {n d0 : Nat} {Qr : Option JV → JM → Prop} {Qx : String → JM → Prop} (hn : n ≤ 1) (h : JSp mX6_shortShare d0 n [(2, 0)] σ Qr Qx) (hr : ∀ v t, Qr v t → ∃ r, v = some (4, r)) (hx : ∀ X t, Qx X t → X = "java/util/NoSuchElementException" ∨ X = "java/lang/ArithmeticException") (hN : ∀ r t, Qr (some (4, r)) t → vf_n64 (FP.f2d (jF r))) : JSpH mL_shortShare (d0 + 1) 1 [(2, 0), (2, 56)] σ (jLQ_shortShare Qr Qx) jno := by
  refine JSpH.of [(2, 0), (2, 56), (9, 0)] (by decide +kernel) rfl rfl rfl (fun l E hA => ?_)
  refine V.aload_n dL_shortShare_0 rfl ?_
  refine V.iconst dL_shortShare_1 ⟨by decide, by decide⟩ ?_
  refine V.aload_n dL_shortShare_2 rfl ?_
  refine V.callVC [] rfl kc_L_116 rfl dL_shortShare_3 (d' := d0) (Nat.lt_succ_self _) hn rfl (fun _ _ => h) (fun v t' hq hv => ?_) (fun X t hx2 => by
      rcases hx X t hx2 with rfl | rfl
      · exact ⟨11, cat_L_shortShare_0, fun q => hdl_L_shortShare_0 (Or.inr (Or.inl ⟨hx2, rfl⟩))⟩
      · exact ⟨14, cat_L_shortShare_1, fun q => hdl_L_shortShare_1 (Or.inr (Or.inr ⟨hx2, rfl⟩))⟩)
  obtain ⟨r, rfl⟩ := hr v t' hq
  refine V.f2d dL_shortShare_6 (hN r t' hq) ?_
  refine V.dast (cell := 56) 0 rfl rfl rfl rfl dL_shortShare_7 (by omega) (by omega) ?_
  refine V.goto (tgt := 17) dL_shortShare_8 (by decide) ?_
  refine V.iconst dL_shortShare_17 ⟨by decide, by decide⟩ ?_
  exact V.iret (jret_i dL_shortShare_18 rfl) (Or.inl ⟨r, t', hq, rfl, rfl⟩)
theorem cat_L_targetOf_0 : jcatch mL_targetOf 4 "java/util/NoSuchElementException" 12 := ⟨[], (0, 9, 12, 37), [(0, 9, 15, 77), (0, 9, 18, 52)], rfl, fun _ h => absurd h List.not_mem_nil, by decide, by decide, kg968, by decide +kernel, rfl⟩
theorem hdl_L_targetOf_0 {l : Launch} {E : JE} {dd n : Nat} {Qr : Option JV → JM → Prop} {p : Int} {t : JM} {q0 : Int} (hq : Qr (some (0, 1)) t) : V l E mL_targetOf dd n Qr jno 12 [(2, 0), (0, p), (2, 55), (9, 0)] [(3, q0)] t := by
  refine V.astore_n (L' := [_, _, _, _]) dL_targetOf_12 rfl rfl ?_
  refine V.iconst dL_targetOf_13 ⟨by decide, by decide⟩ ?_
  exact V.iret (jret_i dL_targetOf_14 rfl) hq
theorem cat_L_targetOf_1 : jcatch mL_targetOf 4 "java/lang/IndexOutOfBoundsException" 15 := ⟨[(0, 9, 12, 37)], (0, 9, 15, 77), [(0, 9, 18, 52)], rfl, List.forall_mem_cons.mpr ⟨⟨by decide, "java/util/NoSuchElementException", kg968, by decide +kernel⟩, fun _ h => absurd h List.not_mem_nil⟩, by decide, by decide, kg1173, by decide +kernel, rfl⟩
theorem hdl_L_targetOf_1 {l : Launch} {E : JE} {dd n : Nat} {Qr : Option JV → JM → Prop} {p : Int} {t : JM} {q0 : Int} (hq : Qr (some (0, 2)) t) : V l E mL_targetOf dd n Qr jno 15 [(2, 0), (0, p), (2, 55), (9, 0)] [(3, q0)] t := by
  refine V.astore_n (L' := [_, _, _, _]) dL_targetOf_15 rfl rfl ?_
  refine V.iconst dL_targetOf_16 ⟨by decide, by decide⟩ ?_
  exact V.iret (jret_i dL_targetOf_17 rfl) hq
theorem cat_L_targetOf_2 : jcatch mL_targetOf 4 "java/lang/UnsupportedOperationException" 18 := ⟨[(0, 9, 12, 37), (0, 9, 15, 77)], (0, 9, 18, 52), [], rfl, List.forall_mem_cons.mpr ⟨⟨by decide, "java/util/NoSuchElementException", kg968, by decide +kernel⟩, List.forall_mem_cons.mpr ⟨⟨by decide, "java/lang/IndexOutOfBoundsException", kg1173, by decide +kernel⟩, fun _ h => absurd h List.not_mem_nil⟩⟩, by decide, by decide, kg1017, by decide +kernel, rfl⟩
theorem hdl_L_targetOf_2 {l : Launch} {E : JE} {dd n : Nat} {Qr : Option JV → JM → Prop} {p : Int} {t : JM} {q0 : Int} (hq : Qr (some (0, 3)) t) : V l E mL_targetOf dd n Qr jno 18 [(2, 0), (0, p), (2, 55), (9, 0)] [(3, q0)] t := by
  refine V.astore_n (L' := [_, _, _, _]) dL_targetOf_18 rfl rfl ?_
  refine V.iconst dL_targetOf_19 ⟨by decide, by decide⟩ ?_
  exact V.iret (jret_i dL_targetOf_20 rfl) hq
def jLQ_targetOf (Qr : Option JV → JM → Prop) (Qx : String → JM → Prop) : Option JV → JM → Prop := fun v t => (∃ r t', Qr (some (0, r)) t' ∧ v = some (0, 0) ∧ t = jset t' 55 0 r) ∨ (Qx "java/util/NoSuchElementException" t ∧ v = some (0, 1)) ∨ (Qx "java/lang/IndexOutOfBoundsException" t ∧ v = some (0, 2)) ∨ (Qx "java/lang/UnsupportedOperationException" t ∧ v = some (0, 3))
theorem sp_L_targetOf {σ : JM} {p : Int} {n d0 : Nat} {Qr : Option JV → JM → Prop} {Qx : String → JM → Prop} (hn : n ≤ 1) (h : JSp mX6_targetOf d0 n [(2, 0), (0, p)] σ Qr Qx) (hr : ∀ v t, Qr v t → ∃ r, v = some (0, r)) (hx : ∀ X t, Qx X t → X = "java/util/NoSuchElementException" ∨ X = "java/lang/IndexOutOfBoundsException" ∨ X = "java/lang/UnsupportedOperationException") : JSpH mL_targetOf (d0 + 1) 1 [(2, 0), (0, p), (2, 55)] σ (jLQ_targetOf Qr Qx) jno := by
  refine JSpH.of [(2, 0), (0, p), (2, 55), (9, 0)] (by decide +kernel) rfl rfl rfl (fun l E hA => ?_)
  refine V.aload_n dL_targetOf_0 rfl ?_
  refine V.iconst dL_targetOf_1 ⟨by decide, by decide⟩ ?_
  refine V.aload_n dL_targetOf_2 rfl ?_
  refine V.iload_n dL_targetOf_3 rfl ?_
  refine V.callVC [_] rfl kc_L_113 rfl dL_targetOf_4 (d' := d0) (Nat.lt_succ_self _) hn rfl (fun _ _ => h) (fun v t' hq hv => ?_) (fun X t hx2 => by
      rcases hx X t hx2 with rfl | rfl | rfl
      · exact ⟨12, cat_L_targetOf_0, fun q => hdl_L_targetOf_0 (Or.inr (Or.inl ⟨hx2, rfl⟩))⟩
      · exact ⟨15, cat_L_targetOf_1, fun q => hdl_L_targetOf_1 (Or.inr (Or.inr (Or.inl ⟨hx2, rfl⟩)))⟩
      · exact ⟨18, cat_L_targetOf_2, fun q => hdl_L_targetOf_2 (Or.inr (Or.inr (Or.inr ⟨hx2, rfl⟩)))⟩)
  obtain ⟨r, rfl⟩ := hr v t' hq
  refine V.i2l dL_targetOf_7 ?_
  refine V.last (cell := 55) 0 rfl rfl rfl rfl dL_targetOf_8 (by omega) (by omega) ?_
  refine V.goto (tgt := 21) dL_targetOf_9 (by decide) ?_
  refine V.iconst dL_targetOf_21 ⟨by decide, by decide⟩ ?_
  exact V.iret (jret_i dL_targetOf_22 rfl) (Or.inl ⟨r, t', hq, rfl, rfl⟩)
theorem cat_L_when_0 : jcatch mL_when 5 "java/lang/IllegalArgumentException" 13 := ⟨[], (0, 10, 13, 13), [(0, 10, 17, 15)], rfl, fun _ h => absurd h List.not_mem_nil, by decide, by decide, kg885, by decide +kernel, rfl⟩
theorem hdl_L_when_0 {l : Launch} {E : JE} {dd n : Nat} {Qr : Option JV → JM → Prop} {p q : Int} {t : JM} {q0 : Int} (hq : Qr (some (0, 1)) t) : V l E mL_when dd n Qr jno 13 [(2, 0), (0, p), (0, q), (2, 55), (9, 0)] [(3, q0)] t := by
  refine V.astore (L' := [_, _, _, _, _]) dL_when_13 rfl rfl ?_
  refine V.iconst dL_when_15 ⟨by decide, by decide⟩ ?_
  exact V.iret (jret_i dL_when_16 rfl) hq
theorem cat_L_when_1 : jcatch mL_when 5 "java/lang/IllegalStateException" 17 := ⟨[(0, 10, 13, 13)], (0, 10, 17, 15), [], rfl, List.forall_mem_cons.mpr ⟨⟨by decide, "java/lang/IllegalArgumentException", kg885, by decide +kernel⟩, fun _ h => absurd h List.not_mem_nil⟩, by decide, by decide, kg886, by decide +kernel, rfl⟩
theorem hdl_L_when_1 {l : Launch} {E : JE} {dd n : Nat} {Qr : Option JV → JM → Prop} {p q : Int} {t : JM} {q0 : Int} (hq : Qr (some (0, 2)) t) : V l E mL_when dd n Qr jno 17 [(2, 0), (0, p), (0, q), (2, 55), (9, 0)] [(3, q0)] t := by
  refine V.astore (L' := [_, _, _, _, _]) dL_when_17 rfl rfl ?_
  refine V.iconst dL_when_19 ⟨by decide, by decide⟩ ?_
  exact V.iret (jret_i dL_when_20 rfl) hq
def jLQ_when (Qr : Option JV → JM → Prop) (Qx : String → JM → Prop) : Option JV → JM → Prop := fun v t => (∃ r t', Qr (some (0, r)) t' ∧ v = some (0, 0) ∧ t = jset t' 55 0 r) ∨ (Qx "java/lang/IllegalArgumentException" t ∧ v = some (0, 1)) ∨ (Qx "java/lang/IllegalStateException" t ∧ v = some (0, 2))
theorem sp_L_when {σ : JM} {p q : Int} {n d0 : Nat} {Qr : Option JV → JM → Prop} {Qx : String → JM → Prop} (hn : n ≤ 1) (h : JSp mX6_when d0 n [(2, 0), (0, p), (0, q)] σ Qr Qx) (hr : ∀ v t, Qr v t → ∃ r, v = some (0, r)) (hx : ∀ X t, Qx X t → X = "java/lang/IllegalArgumentException" ∨ X = "java/lang/IllegalStateException") : JSpH mL_when (d0 + 1) 1 [(2, 0), (0, p), (0, q), (2, 55)] σ (jLQ_when Qr Qx) jno := by
  refine JSpH.of [(2, 0), (0, p), (0, q), (2, 55), (9, 0)] (by decide +kernel) rfl rfl rfl (fun l E hA => ?_)
  refine V.aload_n dL_when_0 rfl ?_
  refine V.iconst dL_when_1 ⟨by decide, by decide⟩ ?_
  refine V.aload_n dL_when_2 rfl ?_
  refine V.iload_n dL_when_3 rfl ?_
  refine V.iload_n dL_when_4 rfl ?_
  refine V.callVC [_, _] rfl kc_L_46 rfl dL_when_5 (d' := d0) (Nat.lt_succ_self _) hn rfl (fun _ _ => h) (fun v t' hq hv => ?_) (fun X t hx2 => by
      rcases hx X t hx2 with rfl | rfl
      · exact ⟨13, cat_L_when_0, fun q => hdl_L_when_0 (Or.inr (Or.inl ⟨hx2, rfl⟩))⟩
      · exact ⟨17, cat_L_when_1, fun q => hdl_L_when_1 (Or.inr (Or.inr ⟨hx2, rfl⟩))⟩)
  obtain ⟨r, rfl⟩ := hr v t' hq
  refine V.i2l dL_when_8 ?_
  refine V.last (cell := 55) 0 rfl rfl rfl rfl dL_when_9 (by omega) (by omega) ?_
  refine V.goto (tgt := 21) dL_when_10 (by decide) ?_
  refine V.iconst dL_when_21 ⟨by decide, by decide⟩ ?_
  exact V.iret (jret_i dL_when_22 rfl) (Or.inl ⟨r, t', hq, rfl, rfl⟩)
theorem cat_L_word_0 : jcatch mL_word 4 "java/lang/IllegalArgumentException" 12 := ⟨[], (0, 9, 12, 13), [(0, 9, 15, 15)], rfl, fun _ h => absurd h List.not_mem_nil, by decide, by decide, kg885, by decide +kernel, rfl⟩
theorem hdl_L_word_0 {l : Launch} {E : JE} {dd n : Nat} {Qr : Option JV → JM → Prop} {p : Int} {t : JM} {q0 : Int} (hq : Qr (some (0, 1)) t) : V l E mL_word dd n Qr jno 12 [(2, 0), (0, p), (2, 55), (9, 0)] [(3, q0)] t := by
  refine V.astore_n (L' := [_, _, _, _]) dL_word_12 rfl rfl ?_
  refine V.iconst dL_word_13 ⟨by decide, by decide⟩ ?_
  exact V.iret (jret_i dL_word_14 rfl) hq
theorem cat_L_word_1 : jcatch mL_word 4 "java/lang/IllegalStateException" 15 := ⟨[(0, 9, 12, 13)], (0, 9, 15, 15), [], rfl, List.forall_mem_cons.mpr ⟨⟨by decide, "java/lang/IllegalArgumentException", kg885, by decide +kernel⟩, fun _ h => absurd h List.not_mem_nil⟩, by decide, by decide, kg886, by decide +kernel, rfl⟩
theorem hdl_L_word_1 {l : Launch} {E : JE} {dd n : Nat} {Qr : Option JV → JM → Prop} {p : Int} {t : JM} {q0 : Int} (hq : Qr (some (0, 2)) t) : V l E mL_word dd n Qr jno 15 [(2, 0), (0, p), (2, 55), (9, 0)] [(3, q0)] t := by
  refine V.astore_n (L' := [_, _, _, _]) dL_word_15 rfl rfl ?_
  refine V.iconst dL_word_16 ⟨by decide, by decide⟩ ?_
  exact V.iret (jret_i dL_word_17 rfl) hq
def jLQ_word (Qr : Option JV → JM → Prop) (Qx : String → JM → Prop) : Option JV → JM → Prop := fun v t => (∃ r t', Qr (some (0, r)) t' ∧ v = some (0, 0) ∧ t = jset t' 55 0 r) ∨ (Qx "java/lang/IllegalArgumentException" t ∧ v = some (0, 1)) ∨ (Qx "java/lang/IllegalStateException" t ∧ v = some (0, 2))
theorem sp_L_word {σ : JM} {p : Int} {n d0 : Nat} {Qr : Option JV → JM → Prop} {Qx : String → JM → Prop} (hn : n ≤ 1) (h : JSp mX6_word d0 n [(2, 0), (0, p)] σ Qr Qx) (hr : ∀ v t, Qr v t → ∃ r, v = some (0, r)) (hx : ∀ X t, Qx X t → X = "java/lang/IllegalArgumentException" ∨ X = "java/lang/IllegalStateException") : JSpH mL_word (d0 + 1) 1 [(2, 0), (0, p), (2, 55)] σ (jLQ_word Qr Qx) jno := by
  refine JSpH.of [(2, 0), (0, p), (2, 55), (9, 0)] (by decide +kernel) rfl rfl rfl (fun l E hA => ?_)
  refine V.aload_n dL_word_0 rfl ?_
  refine V.iconst dL_word_1 ⟨by decide, by decide⟩ ?_
  refine V.aload_n dL_word_2 rfl ?_
  refine V.iload_n dL_word_3 rfl ?_
  refine V.callVC [_] rfl kc_L_17 rfl dL_word_4 (d' := d0) (Nat.lt_succ_self _) hn rfl (fun _ _ => h) (fun v t' hq hv => ?_) (fun X t hx2 => by
      rcases hx X t hx2 with rfl | rfl
      · exact ⟨12, cat_L_word_0, fun q => hdl_L_word_0 (Or.inr (Or.inl ⟨hx2, rfl⟩))⟩
      · exact ⟨15, cat_L_word_1, fun q => hdl_L_word_1 (Or.inr (Or.inr ⟨hx2, rfl⟩))⟩)
  obtain ⟨r, rfl⟩ := hr v t' hq
  refine V.i2l dL_word_7 ?_
  refine V.last (cell := 55) 0 rfl rfl rfl rfl dL_word_8 (by omega) (by omega) ?_
  refine V.goto (tgt := 18) dL_word_9 (by decide) ?_
  refine V.iconst dL_word_18 ⟨by decide, by decide⟩ ?_
  exact V.iret (jret_i dL_word_19 rfl) (Or.inl ⟨r, t', hq, rfl, rfl⟩)
theorem cat_L_wordAt_0 : jcatch mL_wordAt 4 "java/util/NoSuchElementException" 12 := ⟨[], (0, 9, 12, 37), [(0, 9, 15, 77)], rfl, fun _ h => absurd h List.not_mem_nil, by decide, by decide, kg968, by decide +kernel, rfl⟩
theorem hdl_L_wordAt_0 {l : Launch} {E : JE} {dd n : Nat} {Qr : Option JV → JM → Prop} {p : Int} {t : JM} {q0 : Int} (hq : Qr (some (0, 1)) t) : V l E mL_wordAt dd n Qr jno 12 [(2, 0), (0, p), (2, 55), (9, 0)] [(3, q0)] t := by
  refine V.astore_n (L' := [_, _, _, _]) dL_wordAt_12 rfl rfl ?_
  refine V.iconst dL_wordAt_13 ⟨by decide, by decide⟩ ?_
  exact V.iret (jret_i dL_wordAt_14 rfl) hq
theorem cat_L_wordAt_1 : jcatch mL_wordAt 4 "java/lang/IndexOutOfBoundsException" 15 := ⟨[(0, 9, 12, 37)], (0, 9, 15, 77), [], rfl, List.forall_mem_cons.mpr ⟨⟨by decide, "java/util/NoSuchElementException", kg968, by decide +kernel⟩, fun _ h => absurd h List.not_mem_nil⟩, by decide, by decide, kg1173, by decide +kernel, rfl⟩
theorem hdl_L_wordAt_1 {l : Launch} {E : JE} {dd n : Nat} {Qr : Option JV → JM → Prop} {p : Int} {t : JM} {q0 : Int} (hq : Qr (some (0, 2)) t) : V l E mL_wordAt dd n Qr jno 15 [(2, 0), (0, p), (2, 55), (9, 0)] [(3, q0)] t := by
  refine V.astore_n (L' := [_, _, _, _]) dL_wordAt_15 rfl rfl ?_
  refine V.iconst dL_wordAt_16 ⟨by decide, by decide⟩ ?_
  exact V.iret (jret_i dL_wordAt_17 rfl) hq
def jLQ_wordAt (Qr : Option JV → JM → Prop) (Qx : String → JM → Prop) : Option JV → JM → Prop := fun v t => (∃ r t', Qr (some (0, r)) t' ∧ v = some (0, 0) ∧ t = jset t' 55 0 r) ∨ (Qx "java/util/NoSuchElementException" t ∧ v = some (0, 1)) ∨ (Qx "java/lang/IndexOutOfBoundsException" t ∧ v = some (0, 2))
theorem sp_L_wordAt {σ : JM} {p : Int} {n d0 : Nat} {Qr : Option JV → JM → Prop} {Qx : String → JM → Prop} (hn : n ≤ 1) (h : JSp mX6_wordAt d0 n [(2, 0), (0, p)] σ Qr Qx) (hr : ∀ v t, Qr v t → ∃ r, v = some (0, r)) (hx : ∀ X t, Qx X t → X = "java/util/NoSuchElementException" ∨ X = "java/lang/IndexOutOfBoundsException") : JSpH mL_wordAt (d0 + 1) 1 [(2, 0), (0, p), (2, 55)] σ (jLQ_wordAt Qr Qx) jno := by
  refine JSpH.of [(2, 0), (0, p), (2, 55), (9, 0)] (by decide +kernel) rfl rfl rfl (fun l E hA => ?_)
  refine V.aload_n dL_wordAt_0 rfl ?_
  refine V.iconst dL_wordAt_1 ⟨by decide, by decide⟩ ?_
  refine V.aload_n dL_wordAt_2 rfl ?_
  refine V.iload_n dL_wordAt_3 rfl ?_
  refine V.callVC [_] rfl kc_L_74 rfl dL_wordAt_4 (d' := d0) (Nat.lt_succ_self _) hn rfl (fun _ _ => h) (fun v t' hq hv => ?_) (fun X t hx2 => by
      rcases hx X t hx2 with rfl | rfl
      · exact ⟨12, cat_L_wordAt_0, fun q => hdl_L_wordAt_0 (Or.inr (Or.inl ⟨hx2, rfl⟩))⟩
      · exact ⟨15, cat_L_wordAt_1, fun q => hdl_L_wordAt_1 (Or.inr (Or.inr ⟨hx2, rfl⟩))⟩)
  obtain ⟨r, rfl⟩ := hr v t' hq
  refine V.i2l dL_wordAt_7 ?_
  refine V.last (cell := 55) 0 rfl rfl rfl rfl dL_wordAt_8 (by omega) (by omega) ?_
  refine V.goto (tgt := 18) dL_wordAt_9 (by decide) ?_
  refine V.iconst dL_wordAt_18 ⟨by decide, by decide⟩ ?_
  exact V.iret (jret_i dL_wordAt_19 rfl) (Or.inl ⟨r, t', hq, rfl, rfl⟩)
theorem cat_L_words_0 : jcatch mL_words 3 "java/util/NoSuchElementException" 11 := ⟨[], (0, 8, 11, 37), [], rfl, fun _ h => absurd h List.not_mem_nil, by decide, by decide, kg968, by decide +kernel, rfl⟩
theorem hdl_L_words_0 {l : Launch} {E : JE} {dd n : Nat} {Qr : Option JV → JM → Prop}  {t : JM} {q0 : Int} (hq : Qr (some (0, 1)) t) : V l E mL_words dd n Qr jno 11 [(2, 0), (2, 55), (9, 0)] [(3, q0)] t := by
  refine V.astore_n (L' := [_, _, _]) dL_words_11 rfl rfl ?_
  refine V.iconst dL_words_12 ⟨by decide, by decide⟩ ?_
  exact V.iret (jret_i dL_words_13 rfl) hq
def jLQ_words (Qr : Option JV → JM → Prop) (Qx : String → JM → Prop) : Option JV → JM → Prop := fun v t => (∃ r t', Qr (some (0, r)) t' ∧ v = some (0, 0) ∧ t = jset t' 55 0 r) ∨ (Qx "java/util/NoSuchElementException" t ∧ v = some (0, 1))
theorem sp_L_words {σ : JM}  {n d0 : Nat} {Qr : Option JV → JM → Prop} {Qx : String → JM → Prop} (hn : n ≤ 1) (h : JSp mX6_words d0 n [(2, 0)] σ Qr Qx) (hr : ∀ v t, Qr v t → ∃ r, v = some (0, r)) (hx : ∀ X t, Qx X t → X = "java/util/NoSuchElementException") : JSpH mL_words (d0 + 1) 1 [(2, 0), (2, 55)] σ (jLQ_words Qr Qx) jno := by
  refine JSpH.of [(2, 0), (2, 55), (9, 0)] (by decide +kernel) rfl rfl rfl (fun l E hA => ?_)
  refine V.aload_n dL_words_0 rfl ?_
  refine V.iconst dL_words_1 ⟨by decide, by decide⟩ ?_
  refine V.aload_n dL_words_2 rfl ?_
  refine V.callVC [] rfl kc_L_71 rfl dL_words_3 (d' := d0) (Nat.lt_succ_self _) hn rfl (fun _ _ => h) (fun v t' hq hv => ?_) (fun X t hx2 => by
      rcases hx X t hx2 with rfl
      · exact ⟨11, cat_L_words_0, fun q => hdl_L_words_0 (Or.inr ⟨hx2, rfl⟩)⟩)
  obtain ⟨r, rfl⟩ := hr v t' hq
  refine V.i2l dL_words_6 ?_
  refine V.last (cell := 55) 0 rfl rfl rfl rfl dL_words_7 (by omega) (by omega) ?_
  refine V.goto (tgt := 14) dL_words_8 (by decide) ?_
  refine V.iconst dL_words_14 ⟨by decide, by decide⟩ ?_
  exact V.iret (jret_i dL_words_15 rfl) (Or.inl ⟨r, t', hq, rfl, rfl⟩)
