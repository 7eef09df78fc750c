def jLQ_address (Qr : Option JV → JM → Prop) (Qx : String → JM → Prop) : Option JV → JM → Prop := fun v t => (∃ r, v = some (0, r) ∧ Qr v t) ∨ (Qx "java/lang/IllegalArgumentException" t ∧ v = some (0, -78)) ∨ (Qx "java/lang/IllegalStateException" t ∧ v = some (0, -79))
theorem cat_L_address_0 : jcatch mL_address 2 "java/lang/IllegalArgumentException" 6 := ⟨[], (0, 5, 6, 20), [(0, 5, 10, 22)], rfl, fun _ h => absurd h List.not_mem_nil, by decide, by decide, kg891, by decide +kernel, rfl⟩
theorem hdl_L_address_0 {l : Launch} {E : JE} {dd n : Nat} {Qr : Option JV → JM → Prop} {p : Int} {t : JM} {q0 : Int} (hq : Qr (some (0, -78)) t) : V l E mL_address dd n Qr jno 6 [(2, 0), (0, p), (9, 0)] [(3, q0)] t := by
  refine V.astore_n (L' := [_, _, _]) dL_address_6 rfl rfl ?_
  refine V.bipush dL_address_7 ⟨by decide, by decide⟩ ?_
  exact V.iret (jret_i dL_address_9 rfl) hq
theorem cat_L_address_1 : jcatch mL_address 2 "java/lang/IllegalStateException" 10 := ⟨[(0, 5, 6, 20)], (0, 5, 10, 22), [], rfl, List.forall_mem_cons.mpr ⟨⟨by decide, "java/lang/IllegalArgumentException", kg891, by decide +kernel⟩, fun _ h => absurd h List.not_mem_nil⟩, by decide, by decide, kg892, by decide +kernel, rfl⟩
theorem hdl_L_address_1 {l : Launch} {E : JE} {dd n : Nat} {Qr : Option JV → JM → Prop} {p : Int} {t : JM} {q0 : Int} (hq : Qr (some (0, -79)) t) : V l E mL_address dd n Qr jno 10 [(2, 0), (0, p), (9, 0)] [(3, q0)] t := by
  refine V.astore_n (L' := [_, _, _]) dL_address_10 rfl rfl ?_
  refine V.bipush dL_address_11 ⟨by decide, by decide⟩ ?_
  exact V.iret (jret_i dL_address_13 rfl) hq
theorem sp_L_address {σ : JM} {p : Int} {n d0 : Nat} {Qr : Option JV → JM → Prop} {Qx : String → JM → Prop} (h : JSp mX6_address d0 n [(2, 0), (0, p)] σ Qr Qx) (hr : ∀ v t, Qr v t → ∃ r, v = some (0, r)) (hx : ∀ X t, Qx X t → X = "java/lang/IllegalArgumentException" ∨ X = "java/lang/IllegalStateException") : JSpH mL_address (d0 + 1) n [(2, 0), (0, p)] σ (jLQ_address Qr Qx) jno := by
  refine JSpH.of [(2, 0), (0, p), (9, 0)] (by decide +kernel) rfl rfl rfl (fun l E hA => ?_)
  refine V.aload_n dL_address_0 rfl ?_
  refine V.iload_n dL_address_1 rfl ?_
  refine V.callVC [_] rfl kc_L_34 rfl dL_address_2 (d' := d0) (Nat.lt_succ_self _) (Nat.le_refl _) rfl (fun _ _ => h) (fun v t' hq hv => ?_) (fun X t hx2 => by
      rcases hx X t hx2 with rfl | rfl
      · exact ⟨6, cat_L_address_0, fun q => hdl_L_address_0 (Or.inr (Or.inl ⟨hx2, rfl⟩))⟩
      · exact ⟨10, cat_L_address_1, fun q => hdl_L_address_1 (Or.inr (Or.inr ⟨hx2, rfl⟩))⟩)
  obtain ⟨r, rfl⟩ := hr v t' hq
  exact V.iret (jret_i dL_address_5 rfl) (Or.inl ⟨r, rfl, hq⟩)
theorem lr_address {r : Int} {τ : JM} {v : Option JV} {t : JM} (h : jLQ_address (fun v t => v = some (0, r) ∧ t = τ) jno v t) : v = some (0, r) ∧ t = τ := by
  rcases h with ⟨r2, -, h⟩ | h | h
  · exact h
  · exact h.1.elim
  · exact h.1.elim
theorem lx_address_1 {σ : JM} {v : Option JV} {t : JM} (h : jLQ_address jnr (jxx "java/lang/IllegalArgumentException" σ) v t) : v = some (0, -78) ∧ t = σ := by
  rcases h with ⟨r2, -, h1⟩ | ⟨⟨h1, h2⟩, h3⟩ | ⟨⟨h1, h2⟩, h3⟩
  · exact h1.elim
  · exact ⟨h3, h2⟩
  · exact absurd h1 (by decide)
theorem lx_address_2 {σ : JM} {v : Option JV} {t : JM} (h : jLQ_address jnr (jxx "java/lang/IllegalStateException" σ) v t) : v = some (0, -79) ∧ t = σ := by
  rcases h with ⟨r2, -, h1⟩ | ⟨⟨h1, h2⟩, h3⟩ | ⟨⟨h1, h2⟩, h3⟩
  · exact h1.elim
  · exact absurd h1 (by decide)
  · exact ⟨h3, h2⟩
def jLQ_addressByAdding (Qr : Option JV → JM → Prop) (Qx : String → JM → Prop) : Option JV → JM → Prop := fun v t => (∃ r, v = some (0, r) ∧ Qr v t) ∨ (Qx "java/util/NoSuchElementException" t ∧ v = some (0, -75)) ∨ (Qx "java/lang/IndexOutOfBoundsException" t ∧ v = some (0, -77))
theorem cat_L_addressByAdding_0 : jcatch mL_addressByAdding 2 "java/util/NoSuchElementException" 6 := ⟨[], (0, 5, 6, 44), [(0, 5, 10, 88)], rfl, fun _ h => absurd h List.not_mem_nil, by decide, by decide, kg974, by decide +kernel, rfl⟩
theorem hdl_L_addressByAdding_0 {l : Launch} {E : JE} {dd n : Nat} {Qr : Option JV → JM → Prop} {p : Int} {t : JM} {q0 : Int} (hq : Qr (some (0, -75)) t) : V l E mL_addressByAdding dd n Qr jno 6 [(2, 0), (0, p), (9, 0)] [(3, q0)] t := by
  refine V.astore_n (L' := [_, _, _]) dL_addressByAdding_6 rfl rfl ?_
  refine V.bipush dL_addressByAdding_7 ⟨by decide, by decide⟩ ?_
  exact V.iret (jret_i dL_addressByAdding_9 rfl) hq
theorem cat_L_addressByAdding_1 : jcatch mL_addressByAdding 2 "java/lang/IndexOutOfBoundsException" 10 := ⟨[(0, 5, 6, 44)], (0, 5, 10, 88), [], rfl, List.forall_mem_cons.mpr ⟨⟨by decide, "java/util/NoSuchElementException", kg974, by decide +kernel⟩, fun _ h => absurd h List.not_mem_nil⟩, by decide, by decide, kg1124, by decide +kernel, rfl⟩
theorem hdl_L_addressByAdding_1 {l : Launch} {E : JE} {dd n : Nat} {Qr : Option JV → JM → Prop} {p : Int} {t : JM} {q0 : Int} (hq : Qr (some (0, -77)) t) : V l E mL_addressByAdding dd n Qr jno 10 [(2, 0), (0, p), (9, 0)] [(3, q0)] t := by
  refine V.astore_n (L' := [_, _, _]) dL_addressByAdding_10 rfl rfl ?_
  refine V.bipush dL_addressByAdding_11 ⟨by decide, by decide⟩ ?_
  exact V.iret (jret_i dL_addressByAdding_13 rfl) hq
theorem sp_L_addressByAdding {σ : JM} {p : Int} {n d0 : Nat} {Qr : Option JV → JM → Prop} {Qx : String → JM → Prop} (h : JSp mX6_addressByAdding d0 n [(2, 0), (0, p)] σ Qr Qx) (hr : ∀ v t, Qr v t → ∃ r, v = some (0, r)) (hx : ∀ X t, Qx X t → X = "java/util/NoSuchElementException" ∨ X = "java/lang/IndexOutOfBoundsException") : JSpH mL_addressByAdding (d0 + 1) n [(2, 0), (0, p)] σ (jLQ_addressByAdding Qr Qx) jno := by
  refine JSpH.of [(2, 0), (0, p), (9, 0)] (by decide +kernel) rfl rfl rfl (fun l E hA => ?_)
  refine V.aload_n dL_addressByAdding_0 rfl ?_
  refine V.iload_n dL_addressByAdding_1 rfl ?_
  refine V.callVC [_] rfl kc_L_121 rfl dL_addressByAdding_2 (d' := d0) (Nat.lt_succ_self _) (Nat.le_refl _) rfl (fun _ _ => h) (fun v t' hq hv => ?_) (fun X t hx2 => by
      rcases hx X t hx2 with rfl | rfl
      · exact ⟨6, cat_L_addressByAdding_0, fun q => hdl_L_addressByAdding_0 (Or.inr (Or.inl ⟨hx2, rfl⟩))⟩
      · exact ⟨10, cat_L_addressByAdding_1, fun q => hdl_L_addressByAdding_1 (Or.inr (Or.inr ⟨hx2, rfl⟩))⟩)
  obtain ⟨r, rfl⟩ := hr v t' hq
  exact V.iret (jret_i dL_addressByAdding_5 rfl) (Or.inl ⟨r, rfl, hq⟩)
theorem lr_addressByAdding {r : Int} {τ : JM} {v : Option JV} {t : JM} (h : jLQ_addressByAdding (fun v t => v = some (0, r) ∧ t = τ) jno v t) : v = some (0, r) ∧ t = τ := by
  rcases h with ⟨r2, -, h⟩ | h | h
  · exact h
  · exact h.1.elim
  · exact h.1.elim
theorem lx_addressByAdding_1 {σ : JM} {v : Option JV} {t : JM} (h : jLQ_addressByAdding jnr (jxx "java/util/NoSuchElementException" σ) v t) : v = some (0, -75) ∧ t = σ := by
  rcases h with ⟨r2, -, h1⟩ | ⟨⟨h1, h2⟩, h3⟩ | ⟨⟨h1, h2⟩, h3⟩
  · exact h1.elim
  · exact ⟨h3, h2⟩
  · exact absurd h1 (by decide)
theorem lx_addressByAdding_2 {σ : JM} {v : Option JV} {t : JM} (h : jLQ_addressByAdding jnr (jxx "java/lang/IndexOutOfBoundsException" σ) v t) : v = some (0, -77) ∧ t = σ := by
  rcases h with ⟨r2, -, h1⟩ | ⟨⟨h1, h2⟩, h3⟩ | ⟨⟨h1, h2⟩, h3⟩
  · exact h1.elim
  · exact absurd h1 (by decide)
  · exact ⟨h3, h2⟩
def jLQ_addressOf (Qr : Option JV → JM → Prop) (Qx : String → JM → Prop) : Option JV → JM → Prop := fun v t => (∃ r, v = some (0, r) ∧ Qr v t) ∨ (Qx "java/util/NoSuchElementException" t ∧ v = some (0, -75)) ∨ (Qx "java/lang/IndexOutOfBoundsException" t ∧ v = some (0, -77))
theorem cat_L_addressOf_0 : jcatch mL_addressOf 2 "java/util/NoSuchElementException" 6 := ⟨[], (0, 5, 6, 44), [(0, 5, 10, 88)], rfl, fun _ h => absurd h List.not_mem_nil, by decide, by decide, kg974, by decide +kernel, rfl⟩
theorem hdl_L_addressOf_0 {l : Launch} {E : JE} {dd n : Nat} {Qr : Option JV → JM → Prop} {p : Int} {t : JM} {q0 : Int} (hq : Qr (some (0, -75)) t) : V l E mL_addressOf dd n Qr jno 6 [(2, 0), (0, p), (9, 0)] [(3, q0)] t := by
  refine V.astore_n (L' := [_, _, _]) dL_addressOf_6 rfl rfl ?_
  refine V.bipush dL_addressOf_7 ⟨by decide, by decide⟩ ?_
  exact V.iret (jret_i dL_addressOf_9 rfl) hq
theorem cat_L_addressOf_1 : jcatch mL_addressOf 2 "java/lang/IndexOutOfBoundsException" 10 := ⟨[(0, 5, 6, 44)], (0, 5, 10, 88), [], rfl, List.forall_mem_cons.mpr ⟨⟨by decide, "java/util/NoSuchElementException", kg974, by decide +kernel⟩, fun _ h => absurd h List.not_mem_nil⟩, by decide, by decide, kg1124, by decide +kernel, rfl⟩
theorem hdl_L_addressOf_1 {l : Launch} {E : JE} {dd n : Nat} {Qr : Option JV → JM → Prop} {p : Int} {t : JM} {q0 : Int} (hq : Qr (some (0, -77)) t) : V l E mL_addressOf dd n Qr jno 10 [(2, 0), (0, p), (9, 0)] [(3, q0)] t := by
  refine V.astore_n (L' := [_, _, _]) dL_addressOf_10 rfl rfl ?_
  refine V.bipush dL_addressOf_11 ⟨by decide, by decide⟩ ?_
  exact V.iret (jret_i dL_addressOf_13 rfl) hq
theorem sp_L_addressOf {σ : JM} {p : Int} {n d0 : Nat} {Qr : Option JV → JM → Prop} {Qx : String → JM → Prop} (h : JSp mX6_addressOf d0 n [(2, 0), (0, p)] σ Qr Qx) (hr : ∀ v t, Qr v t → ∃ r, v = some (0, r)) (hx : ∀ X t, Qx X t → X = "java/util/NoSuchElementException" ∨ X = "java/lang/IndexOutOfBoundsException") : JSpH mL_addressOf (d0 + 1) n [(2, 0), (0, p)] σ (jLQ_addressOf Qr Qx) jno := by
  refine JSpH.of [(2, 0), (0, p), (9, 0)] (by decide +kernel) rfl rfl rfl (fun l E hA => ?_)
  refine V.aload_n dL_addressOf_0 rfl ?_
  refine V.iload_n dL_addressOf_1 rfl ?_
  refine V.callVC [_] rfl kc_L_118 rfl dL_addressOf_2 (d' := d0) (Nat.lt_succ_self _) (Nat.le_refl _) rfl (fun _ _ => h) (fun v t' hq hv => ?_) (fun X t hx2 => by
      rcases hx X t hx2 with rfl | rfl
      · exact ⟨6, cat_L_addressOf_0, fun q => hdl_L_addressOf_0 (Or.inr (Or.inl ⟨hx2, rfl⟩))⟩
      · exact ⟨10, cat_L_addressOf_1, fun q => hdl_L_addressOf_1 (Or.inr (Or.inr ⟨hx2, rfl⟩))⟩)
  obtain ⟨r, rfl⟩ := hr v t' hq
  exact V.iret (jret_i dL_addressOf_5 rfl) (Or.inl ⟨r, rfl, hq⟩)
theorem lr_addressOf {r : Int} {τ : JM} {v : Option JV} {t : JM} (h : jLQ_addressOf (fun v t => v = some (0, r) ∧ t = τ) jno v t) : v = some (0, r) ∧ t = τ := by
  rcases h with ⟨r2, -, h⟩ | h | h
  · exact h
  · exact h.1.elim
  · exact h.1.elim
theorem lx_addressOf_1 {σ : JM} {v : Option JV} {t : JM} (h : jLQ_addressOf jnr (jxx "java/util/NoSuchElementException" σ) v t) : v = some (0, -75) ∧ t = σ := by
  rcases h with ⟨r2, -, h1⟩ | ⟨⟨h1, h2⟩, h3⟩ | ⟨⟨h1, h2⟩, h3⟩
  · exact h1.elim
  · exact ⟨h3, h2⟩
  · exact absurd h1 (by decide)
theorem lx_addressOf_2 {σ : JM} {v : Option JV} {t : JM} (h : jLQ_addressOf jnr (jxx "java/lang/IndexOutOfBoundsException" σ) v t) : v = some (0, -77) ∧ t = σ := by
  rcases h with ⟨r2, -, h1⟩ | ⟨⟨h1, h2⟩, h3⟩ | ⟨⟨h1, h2⟩, h3⟩
  · exact h1.elim
  · exact absurd h1 (by decide)
  · exact ⟨h3, h2⟩
def jLQ_align (Qr : Option JV → JM → Prop) (Qx : String → JM → Prop) : Option JV → JM → Prop := fun v t => (∃ r, v = some (0, r) ∧ Qr v t) ∨ (Qx "java/lang/IllegalArgumentException" t ∧ v = some (0, -78)) ∨ (Qx "java/lang/IllegalStateException" t ∧ v = some (0, -79))
theorem cat_L_align_0 : jcatch mL_align 2 "java/lang/IllegalArgumentException" 6 := ⟨[], (0, 5, 6, 20), [(0, 5, 10, 22)], rfl, fun _ h => absurd h List.not_mem_nil, by decide, by decide, kg891, by decide +kernel, rfl⟩
theorem hdl_L_align_0 {l : Launch} {E : JE} {dd n : Nat} {Qr : Option JV → JM → Prop} {p : Int} {t : JM} {q0 : Int} (hq : Qr (some (0, -78)) t) : V l E mL_align dd n Qr jno 6 [(2, 0), (0, p), (9, 0)] [(3, q0)] t := by
  refine V.astore_n (L' := [_, _, _]) dL_align_6 rfl rfl ?_
  refine V.bipush dL_align_7 ⟨by decide, by decide⟩ ?_
  exact V.iret (jret_i dL_align_9 rfl) hq
theorem cat_L_align_1 : jcatch mL_align 2 "java/lang/IllegalStateException" 10 := ⟨[(0, 5, 6, 20)], (0, 5, 10, 22), [], rfl, List.forall_mem_cons.mpr ⟨⟨by decide, "java/lang/IllegalArgumentException", kg891, by decide +kernel⟩, fun _ h => absurd h List.not_mem_nil⟩, by decide, by decide, kg892, by decide +kernel, rfl⟩
theorem hdl_L_align_1 {l : Launch} {E : JE} {dd n : Nat} {Qr : Option JV → JM → Prop} {p : Int} {t : JM} {q0 : Int} (hq : Qr (some (0, -79)) t) : V l E mL_align dd n Qr jno 10 [(2, 0), (0, p), (9, 0)] [(3, q0)] t := by
  refine V.astore_n (L' := [_, _, _]) dL_align_10 rfl rfl ?_
  refine V.bipush dL_align_11 ⟨by decide, by decide⟩ ?_
  exact V.iret (jret_i dL_align_13 rfl) hq
theorem sp_L_align {σ : JM} {p : Int} {n d0 : Nat} {Qr : Option JV → JM → Prop} {Qx : String → JM → Prop} (h : JSp mX6_align d0 n [(2, 0), (0, p)] σ Qr Qx) (hr : ∀ v t, Qr v t → ∃ r, v = some (0, r)) (hx : ∀ X t, Qx X t → X = "java/lang/IllegalArgumentException" ∨ X = "java/lang/IllegalStateException") : JSpH mL_align (d0 + 1) n [(2, 0), (0, p)] σ (jLQ_align Qr Qx) jno := by
  refine JSpH.of [(2, 0), (0, p), (9, 0)] (by decide +kernel) rfl rfl rfl (fun l E hA => ?_)
  refine V.aload_n dL_align_0 rfl ?_
  refine V.iload_n dL_align_1 rfl ?_
  refine V.callVC [_] rfl kc_L_37 rfl dL_align_2 (d' := d0) (Nat.lt_succ_self _) (Nat.le_refl _) rfl (fun _ _ => h) (fun v t' hq hv => ?_) (fun X t hx2 => by
      rcases hx X t hx2 with rfl | rfl
      · exact ⟨6, cat_L_align_0, fun q => hdl_L_align_0 (Or.inr (Or.inl ⟨hx2, rfl⟩))⟩
      · exact ⟨10, cat_L_align_1, fun q => hdl_L_align_1 (Or.inr (Or.inr ⟨hx2, rfl⟩))⟩)
  obtain ⟨r, rfl⟩ := hr v t' hq
  exact V.iret (jret_i dL_align_5 rfl) (Or.inl ⟨r, rfl, hq⟩)
theorem lr_align {r : Int} {τ : JM} {v : Option JV} {t : JM} (h : jLQ_align (fun v t => v = some (0, r) ∧ t = τ) jno v t) : v = some (0, r) ∧ t = τ := by
  rcases h with ⟨r2, -, h⟩ | h | h
  · exact h
  · exact h.1.elim
  · exact h.1.elim
theorem lx_align_1 {σ : JM} {v : Option JV} {t : JM} (h : jLQ_align jnr (jxx "java/lang/IllegalArgumentException" σ) v t) : v = some (0, -78) ∧ t = σ := by
  rcases h with ⟨r2, -, h1⟩ | ⟨⟨h1, h2⟩, h3⟩ | ⟨⟨h1, h2⟩, h3⟩
  · exact h1.elim
  · exact ⟨h3, h2⟩
  · exact absurd h1 (by decide)
theorem lx_align_2 {σ : JM} {v : Option JV} {t : JM} (h : jLQ_align jnr (jxx "java/lang/IllegalStateException" σ) v t) : v = some (0, -79) ∧ t = σ := by
  rcases h with ⟨r2, -, h1⟩ | ⟨⟨h1, h2⟩, h3⟩ | ⟨⟨h1, h2⟩, h3⟩
  · exact h1.elim
  · exact absurd h1 (by decide)
  · exact ⟨h3, h2⟩
def jLQ_block (Qr : Option JV → JM → Prop) (Qx : String → JM → Prop) : Option JV → JM → Prop := fun v t => (∃ r, v = some (0, r) ∧ Qr v t) ∨ (Qx "java/lang/IllegalStateException" t ∧ v = some (0, -79))
theorem cat_L_block_0 : jcatch mL_block 1 "java/lang/IllegalStateException" 5 := ⟨[], (0, 4, 5, 22), [], rfl, fun _ h => absurd h List.not_mem_nil, by decide, by decide, kg892, by decide +kernel, rfl⟩
theorem hdl_L_block_0 {l : Launch} {E : JE} {dd n : Nat} {Qr : Option JV → JM → Prop}  {t : JM} {q0 : Int} (hq : Qr (some (0, -79)) t) : V l E mL_block dd n Qr jno 5 [(2, 0), (9, 0)] [(3, q0)] t := by
  refine V.astore_n (L' := [_, _]) dL_block_5 rfl rfl ?_
  refine V.bipush dL_block_6 ⟨by decide, by decide⟩ ?_
  exact V.iret (jret_i dL_block_8 rfl) hq
theorem sp_L_block {σ : JM}  {n d0 : Nat} {Qr : Option JV → JM → Prop} {Qx : String → JM → Prop} (h : JSp mX6_block d0 n [(2, 0)] σ Qr Qx) (hr : ∀ v t, Qr v t → ∃ r, v = some (0, r)) (hx : ∀ X t, Qx X t → X = "java/lang/IllegalStateException") : JSpH mL_block (d0 + 1) n [(2, 0)] σ (jLQ_block Qr Qx) jno := by
  refine JSpH.of [(2, 0), (9, 0)] (by decide +kernel) rfl rfl rfl (fun l E hA => ?_)
  refine V.aload_n dL_block_0 rfl ?_
  refine V.callVC [] rfl kc_L_46 rfl dL_block_1 (d' := d0) (Nat.lt_succ_self _) (Nat.le_refl _) rfl (fun _ _ => h) (fun v t' hq hv => ?_) (fun X t hx2 => by
      rcases hx X t hx2 with rfl
      · exact ⟨5, cat_L_block_0, fun q => hdl_L_block_0 (Or.inr ⟨hx2, rfl⟩)⟩)
  obtain ⟨r, rfl⟩ := hr v t' hq
  exact V.iret (jret_i dL_block_4 rfl) (Or.inl ⟨r, rfl, hq⟩)
theorem lr_block {r : Int} {τ : JM} {v : Option JV} {t : JM} (h : jLQ_block (fun v t => v = some (0, r) ∧ t = τ) jno v t) : v = some (0, r) ∧ t = τ := by
  rcases h with ⟨r2, -, h⟩ | h
  · exact h
  · exact h.1.elim
theorem lx_block_1 {σ : JM} {v : Option JV} {t : JM} (h : jLQ_block jnr (jxx "java/lang/IllegalStateException" σ) v t) : v = some (0, -79) ∧ t = σ := by
  rcases h with ⟨r2, -, h1⟩ | ⟨⟨h1, h2⟩, h3⟩
  · exact h1.elim
  · exact ⟨h3, h2⟩
def jLQ_call (Qr : Option JV → JM → Prop) (Qx : String → JM → Prop) : Option JV → JM → Prop := fun v t => (∃ r, v = some (0, r) ∧ Qr v t) ∨ (Qx "java/util/NoSuchElementException" t ∧ v = some (0, -75)) ∨ (Qx "java/lang/IllegalArgumentException" t ∧ v = some (0, -78)) ∨ (Qx "java/lang/IllegalStateException" t ∧ v = some (0, -79))
theorem cat_L_call_0 : jcatch mL_call 4 "java/util/NoSuchElementException" 8 := ⟨[], (0, 7, 8, 44), [(0, 7, 13, 20), (0, 7, 18, 22)], rfl, fun _ h => absurd h List.not_mem_nil, by decide, by decide, kg974, by decide +kernel, rfl⟩
theorem hdl_L_call_0 {l : Launch} {E : JE} {dd n : Nat} {Qr : Option JV → JM → Prop} {p q r0 : Int} {t : JM} {q0 : Int} (hq : Qr (some (0, -75)) t) : V l E mL_call dd n Qr jno 8 [(2, 0), (0, p), (0, q), (0, r0), (9, 0)] [(3, q0)] t := by
  refine V.astore (L' := [_, _, _, _, _]) dL_call_8 rfl rfl ?_
  refine V.bipush dL_call_10 ⟨by decide, by decide⟩ ?_
  exact V.iret (jret_i dL_call_12 rfl) hq
theorem cat_L_call_1 : jcatch mL_call 4 "java/lang/IllegalArgumentException" 13 := ⟨[(0, 7, 8, 44)], (0, 7, 13, 20), [(0, 7, 18, 22)], rfl, List.forall_mem_cons.mpr ⟨⟨by decide, "java/util/NoSuchElementException", kg974, by decide +kernel⟩, fun _ h => absurd h List.not_mem_nil⟩, by decide, by decide, kg891, by decide +kernel, rfl⟩
theorem hdl_L_call_1 {l : Launch} {E : JE} {dd n : Nat} {Qr : Option JV → JM → Prop} {p q r0 : Int} {t : JM} {q0 : Int} (hq : Qr (some (0, -78)) t) : V l E mL_call dd n Qr jno 13 [(2, 0), (0, p), (0, q), (0, r0), (9, 0)] [(3, q0)] t := by
  refine V.astore (L' := [_, _, _, _, _]) dL_call_13 rfl rfl ?_
  refine V.bipush dL_call_15 ⟨by decide, by decide⟩ ?_
  exact V.iret (jret_i dL_call_17 rfl) hq
theorem cat_L_call_2 : jcatch mL_call 4 "java/lang/IllegalStateException" 18 := ⟨[(0, 7, 8, 44), (0, 7, 13, 20)], (0, 7, 18, 22), [], rfl, List.forall_mem_cons.mpr ⟨⟨by decide, "java/util/NoSuchElementException", kg974, by decide +kernel⟩, List.forall_mem_cons.mpr ⟨⟨by decide, "java/lang/IllegalArgumentException", kg891, by decide +kernel⟩, fun _ h => absurd h List.not_mem_nil⟩⟩, by decide, by decide, kg892, by decide +kernel, rfl⟩
theorem hdl_L_call_2 {l : Launch} {E : JE} {dd n : Nat} {Qr : Option JV → JM → Prop} {p q r0 : Int} {t : JM} {q0 : Int} (hq : Qr (some (0, -79)) t) : V l E mL_call dd n Qr jno 18 [(2, 0), (0, p), (0, q), (0, r0), (9, 0)] [(3, q0)] t := by
  refine V.astore (L' := [_, _, _, _, _]) dL_call_18 rfl rfl ?_
  refine V.bipush dL_call_20 ⟨by decide, by decide⟩ ?_
  exact V.iret (jret_i dL_call_22 rfl) hq
theorem sp_L_call {σ : JM} {p q r0 : Int} {n d0 : Nat} {Qr : Option JV → JM → Prop} {Qx : String → JM → Prop} (h : JSp mX6_call d0 n [(2, 0), (0, p), (0, q), (0, r0)] σ Qr Qx) (hr : ∀ v t, Qr v t → ∃ r, v = some (0, r)) (hx : ∀ X t, Qx X t → X = "java/util/NoSuchElementException" ∨ X = "java/lang/IllegalArgumentException" ∨ X = "java/lang/IllegalStateException") : JSpH mL_call (d0 + 1) n [(2, 0), (0, p), (0, q), (0, r0)] σ (jLQ_call Qr Qx) jno := by
  refine JSpH.of [(2, 0), (0, p), (0, q), (0, r0), (9, 0)] (by decide +kernel) rfl rfl rfl (fun l E hA => ?_)
  refine V.aload_n dL_call_0 rfl ?_
  refine V.iload_n dL_call_1 rfl ?_
  refine V.iload_n dL_call_2 rfl ?_
  refine V.iload_n dL_call_3 rfl ?_
  refine V.callVC [_, _, _] rfl kc_L_40 rfl dL_call_4 (d' := d0) (Nat.lt_succ_self _) (Nat.le_refl _) rfl (fun _ _ => h) (fun v t' hq hv => ?_) (fun X t hx2 => by
      rcases hx X t hx2 with rfl | rfl | rfl
      · exact ⟨8, cat_L_call_0, fun q => hdl_L_call_0 (Or.inr (Or.inl ⟨hx2, rfl⟩))⟩
      · exact ⟨13, cat_L_call_1, fun q => hdl_L_call_1 (Or.inr (Or.inr (Or.inl ⟨hx2, rfl⟩)))⟩
      · exact ⟨18, cat_L_call_2, fun q => hdl_L_call_2 (Or.inr (Or.inr (Or.inr ⟨hx2, rfl⟩)))⟩)
  obtain ⟨r, rfl⟩ := hr v t' hq
  exact V.iret (jret_i dL_call_7 rfl) (Or.inl ⟨r, rfl, hq⟩)
theorem lr_call {r : Int} {τ : JM} {v : Option JV} {t : JM} (h : jLQ_call (fun v t => v = some (0, r) ∧ t = τ) jno v t) : v = some (0, r) ∧ t = τ := by
  rcases h with ⟨r2, -, h⟩ | h | h | h
  · exact h
  · exact h.1.elim
  · exact h.1.elim
  · exact h.1.elim
theorem lx_call_1 {σ : JM} {v : Option JV} {t : JM} (h : jLQ_call jnr (jxx "java/util/NoSuchElementException" σ) v t) : v = some (0, -75) ∧ t = σ := by
  rcases h with ⟨r2, -, h1⟩ | ⟨⟨h1, h2⟩, h3⟩ | ⟨⟨h1, h2⟩, h3⟩ | ⟨⟨h1, h2⟩, h3⟩
  · exact h1.elim
  · exact ⟨h3, h2⟩
  · exact absurd h1 (by decide)
  · exact absurd h1 (by decide)
theorem lx_call_2 {σ : JM} {v : Option JV} {t : JM} (h : jLQ_call jnr (jxx "java/lang/IllegalArgumentException" σ) v t) : v = some (0, -78) ∧ t = σ := by
  rcases h with ⟨r2, -, h1⟩ | ⟨⟨h1, h2⟩, h3⟩ | ⟨⟨h1, h2⟩, h3⟩ | ⟨⟨h1, h2⟩, h3⟩
  · exact h1.elim
  · exact absurd h1 (by decide)
  · exact ⟨h3, h2⟩
  · exact absurd h1 (by decide)
theorem lx_call_3 {σ : JM} {v : Option JV} {t : JM} (h : jLQ_call jnr (jxx "java/lang/IllegalStateException" σ) v t) : v = some (0, -79) ∧ t = σ := by
  rcases h with ⟨r2, -, h1⟩ | ⟨⟨h1, h2⟩, h3⟩ | ⟨⟨h1, h2⟩, h3⟩ | ⟨⟨h1, h2⟩, h3⟩
  · exact h1.elim
  · exact absurd h1 (by decide)
  · exact absurd h1 (by decide)
  · exact ⟨h3, h2⟩
def jLQ_depthOf (Qr : Option JV → JM → Prop) (Qx : String → JM → Prop) : Option JV → JM → Prop := fun v t => (∃ r, v = some (0, r) ∧ Qr v t) ∨ (Qx "java/util/NoSuchElementException" t ∧ v = some (0, -75)) ∨ (Qx "java/lang/IndexOutOfBoundsException" t ∧ v = some (0, -77))
theorem cat_L_depthOf_0 : jcatch mL_depthOf 2 "java/util/NoSuchElementException" 6 := ⟨[], (0, 5, 6, 44), [(0, 5, 10, 88)], rfl, fun _ h => absurd h List.not_mem_nil, by decide, by decide, kg974, by decide +kernel, rfl⟩
theorem hdl_L_depthOf_0 {l : Launch} {E : JE} {dd n : Nat} {Qr : Option JV → JM → Prop} {p : Int} {t : JM} {q0 : Int} (hq : Qr (some (0, -75)) t) : V l E mL_depthOf dd n Qr jno 6 [(2, 0), (0, p), (9, 0)] [(3, q0)] t := by
  refine V.astore_n (L' := [_, _, _]) dL_depthOf_6 rfl rfl ?_
  refine V.bipush dL_depthOf_7 ⟨by decide, by decide⟩ ?_
  exact V.iret (jret_i dL_depthOf_9 rfl) hq
theorem cat_L_depthOf_1 : jcatch mL_depthOf 2 "java/lang/IndexOutOfBoundsException" 10 := ⟨[(0, 5, 6, 44)], (0, 5, 10, 88), [], rfl, List.forall_mem_cons.mpr ⟨⟨by decide, "java/util/NoSuchElementException", kg974, by decide +kernel⟩, fun _ h => absurd h List.not_mem_nil⟩, by decide, by decide, kg1124, by decide +kernel, rfl⟩
theorem hdl_L_depthOf_1 {l : Launch} {E : JE} {dd n : Nat} {Qr : Option JV → JM → Prop} {p : Int} {t : JM} {q0 : Int} (hq : Qr (some (0, -77)) t) : V l E mL_depthOf dd n Qr jno 10 [(2, 0), (0, p), (9, 0)] [(3, q0)] t := by
  refine V.astore_n (L' := [_, _, _]) dL_depthOf_10 rfl rfl ?_
  refine V.bipush dL_depthOf_11 ⟨by decide, by decide⟩ ?_
  exact V.iret (jret_i dL_depthOf_13 rfl) hq
theorem sp_L_depthOf {σ : JM} {p : Int} {n d0 : Nat} {Qr : Option JV → JM → Prop} {Qx : String → JM → Prop} (h : JSp mX6_depthOf d0 n [(2, 0), (0, p)] σ Qr Qx) (hr : ∀ v t, Qr v t → ∃ r, v = some (0, r)) (hx : ∀ X t, Qx X t → X = "java/util/NoSuchElementException" ∨ X = "java/lang/IndexOutOfBoundsException") : JSpH mL_depthOf (d0 + 1) n [(2, 0), (0, p)] σ (jLQ_depthOf Qr Qx) jno := by
  refine JSpH.of [(2, 0), (0, p), (9, 0)] (by decide +kernel) rfl rfl rfl (fun l E hA => ?_)
  refine V.aload_n dL_depthOf_0 rfl ?_
  refine V.iload_n dL_depthOf_1 rfl ?_
  refine V.callVC [_] rfl kc_L_115 rfl dL_depthOf_2 (d' := d0) (Nat.lt_succ_self _) (Nat.le_refl _) rfl (fun _ _ => h) (fun v t' hq hv => ?_) (fun X t hx2 => by
      rcases hx X t hx2 with rfl | rfl
      · exact ⟨6, cat_L_depthOf_0, fun q => hdl_L_depthOf_0 (Or.inr (Or.inl ⟨hx2, rfl⟩))⟩
      · exact ⟨10, cat_L_depthOf_1, fun q => hdl_L_depthOf_1 (Or.inr (Or.inr ⟨hx2, rfl⟩))⟩)
  obtain ⟨r, rfl⟩ := hr v t' hq
  exact V.iret (jret_i dL_depthOf_5 rfl) (Or.inl ⟨r, rfl, hq⟩)
theorem lr_depthOf {r : Int} {τ : JM} {v : Option JV} {t : JM} (h : jLQ_depthOf (fun v t => v = some (0, r) ∧ t = τ) jno v t) : v = some (0, r) ∧ t = τ := by
  rcases h with ⟨r2, -, h⟩ | h | h
  · exact h
  · exact h.1.elim
  · exact h.1.elim
theorem lx_depthOf_1 {σ : JM} {v : Option JV} {t : JM} (h : jLQ_depthOf jnr (jxx "java/util/NoSuchElementException" σ) v t) : v = some (0, -75) ∧ t = σ := by
  rcases h with ⟨r2, -, h1⟩ | ⟨⟨h1, h2⟩, h3⟩ | ⟨⟨h1, h2⟩, h3⟩
  · exact h1.elim
  · exact ⟨h3, h2⟩
  · exact absurd h1 (by decide)
theorem lx_depthOf_2 {σ : JM} {v : Option JV} {t : JM} (h : jLQ_depthOf jnr (jxx "java/lang/IndexOutOfBoundsException" σ) v t) : v = some (0, -77) ∧ t = σ := by
  rcases h with ⟨r2, -, h1⟩ | ⟨⟨h1, h2⟩, h3⟩ | ⟨⟨h1, h2⟩, h3⟩
  · exact h1.elim
  · exact absurd h1 (by decide)
  · exact ⟨h3, h2⟩
def jLQ_end (Qr : Option JV → JM → Prop) (Qx : String → JM → Prop) : Option JV → JM → Prop := fun v t => (∃ r, v = some (0, r) ∧ Qr v t) ∨ (Qx "java/lang/UnsupportedOperationException" t ∧ v = some (0, -76)) ∨ (Qx "java/lang/IllegalStateException" t ∧ v = some (0, -79))
theorem cat_L_end_0 : jcatch mL_end 1 "java/lang/UnsupportedOperationException" 5 := ⟨[], (0, 4, 5, 59), [(0, 4, 9, 22)], rfl, fun _ h => absurd h List.not_mem_nil, by decide, by decide, kg1023, by decide +kernel, rfl⟩
theorem hdl_L_end_0 {l : Launch} {E : JE} {dd n : Nat} {Qr : Option JV → JM → Prop}  {t : JM} {q0 : Int} (hq : Qr (some (0, -76)) t) : V l E mL_end dd n Qr jno 5 [(2, 0), (9, 0)] [(3, q0)] t := by
  refine V.astore_n (L' := [_, _]) dL_end_5 rfl rfl ?_
  refine V.bipush dL_end_6 ⟨by decide, by decide⟩ ?_
  exact V.iret (jret_i dL_end_8 rfl) hq
theorem cat_L_end_1 : jcatch mL_end 1 "java/lang/IllegalStateException" 9 := ⟨[(0, 4, 5, 59)], (0, 4, 9, 22), [], rfl, List.forall_mem_cons.mpr ⟨⟨by decide, "java/lang/UnsupportedOperationException", kg1023, by decide +kernel⟩, fun _ h => absurd h List.not_mem_nil⟩, by decide, by decide, kg892, by decide +kernel, rfl⟩
theorem hdl_L_end_1 {l : Launch} {E : JE} {dd n : Nat} {Qr : Option JV → JM → Prop}  {t : JM} {q0 : Int} (hq : Qr (some (0, -79)) t) : V l E mL_end dd n Qr jno 9 [(2, 0), (9, 0)] [(3, q0)] t := by
  refine V.astore_n (L' := [_, _]) dL_end_9 rfl rfl ?_
  refine V.bipush dL_end_10 ⟨by decide, by decide⟩ ?_
  exact V.iret (jret_i dL_end_12 rfl) hq
theorem sp_L_end {σ : JM}  {n d0 : Nat} {Qr : Option JV → JM → Prop} {Qx : String → JM → Prop} (h : JSp mX6_end d0 n [(2, 0)] σ Qr Qx) (hr : ∀ v t, Qr v t → ∃ r, v = some (0, r)) (hx : ∀ X t, Qx X t → X = "java/lang/UnsupportedOperationException" ∨ X = "java/lang/IllegalStateException") : JSpH mL_end (d0 + 1) n [(2, 0)] σ (jLQ_end Qr Qx) jno := by
  refine JSpH.of [(2, 0), (9, 0)] (by decide +kernel) rfl rfl rfl (fun l E hA => ?_)
  refine V.aload_n dL_end_0 rfl ?_
  refine V.callVC [] rfl kc_L_56 rfl dL_end_1 (d' := d0) (Nat.lt_succ_self _) (Nat.le_refl _) rfl (fun _ _ => h) (fun v t' hq hv => ?_) (fun X t hx2 => by
      rcases hx X t hx2 with rfl | rfl
      · exact ⟨5, cat_L_end_0, fun q => hdl_L_end_0 (Or.inr (Or.inl ⟨hx2, rfl⟩))⟩
      · exact ⟨9, cat_L_end_1, fun q => hdl_L_end_1 (Or.inr (Or.inr ⟨hx2, rfl⟩))⟩)
  obtain ⟨r, rfl⟩ := hr v t' hq
  exact V.iret (jret_i dL_end_4 rfl) (Or.inl ⟨r, rfl, hq⟩)
theorem lr_end {r : Int} {τ : JM} {v : Option JV} {t : JM} (h : jLQ_end (fun v t => v = some (0, r) ∧ t = τ) jno v t) : v = some (0, r) ∧ t = τ := by
  rcases h with ⟨r2, -, h⟩ | h | h
  · exact h
  · exact h.1.elim
  · exact h.1.elim
theorem lx_end_1 {σ : JM} {v : Option JV} {t : JM} (h : jLQ_end jnr (jxx "java/lang/UnsupportedOperationException" σ) v t) : v = some (0, -76) ∧ t = σ := by
  rcases h with ⟨r2, -, h1⟩ | ⟨⟨h1, h2⟩, h3⟩ | ⟨⟨h1, h2⟩, h3⟩
  · exact h1.elim
  · exact ⟨h3, h2⟩
  · exact absurd h1 (by decide)
theorem lx_end_2 {σ : JM} {v : Option JV} {t : JM} (h : jLQ_end jnr (jxx "java/lang/IllegalStateException" σ) v t) : v = some (0, -79) ∧ t = σ := by
  rcases h with ⟨r2, -, h1⟩ | ⟨⟨h1, h2⟩, h3⟩ | ⟨⟨h1, h2⟩, h3⟩
  · exact h1.elim
  · exact absurd h1 (by decide)
  · exact ⟨h3, h2⟩
def jLQ_endMacro (Qr : Option JV → JM → Prop) (Qx : String → JM → Prop) : Option JV → JM → Prop := fun v t => (∃ r, v = some (0, r) ∧ Qr v t) ∨ (Qx "java/lang/UnsupportedOperationException" t ∧ v = some (0, -76)) ∨ (Qx "java/lang/IllegalStateException" t ∧ v = some (0, -79))
theorem cat_L_endMacro_0 : jcatch mL_endMacro 1 "java/lang/UnsupportedOperationException" 5 := ⟨[], (0, 4, 5, 59), [(0, 4, 9, 22)], rfl, fun _ h => absurd h List.not_mem_nil, by decide, by decide, kg1023, by decide +kernel, rfl⟩
theorem hdl_L_endMacro_0 {l : Launch} {E : JE} {dd n : Nat} {Qr : Option JV → JM → Prop}  {t : JM} {q0 : Int} (hq : Qr (some (0, -76)) t) : V l E mL_endMacro dd n Qr jno 5 [(2, 0), (9, 0)] [(3, q0)] t := by
  refine V.astore_n (L' := [_, _]) dL_endMacro_5 rfl rfl ?_
  refine V.bipush dL_endMacro_6 ⟨by decide, by decide⟩ ?_
  exact V.iret (jret_i dL_endMacro_8 rfl) hq
theorem cat_L_endMacro_1 : jcatch mL_endMacro 1 "java/lang/IllegalStateException" 9 := ⟨[(0, 4, 5, 59)], (0, 4, 9, 22), [], rfl, List.forall_mem_cons.mpr ⟨⟨by decide, "java/lang/UnsupportedOperationException", kg1023, by decide +kernel⟩, fun _ h => absurd h List.not_mem_nil⟩, by decide, by decide, kg892, by decide +kernel, rfl⟩
theorem hdl_L_endMacro_1 {l : Launch} {E : JE} {dd n : Nat} {Qr : Option JV → JM → Prop}  {t : JM} {q0 : Int} (hq : Qr (some (0, -79)) t) : V l E mL_endMacro dd n Qr jno 9 [(2, 0), (9, 0)] [(3, q0)] t := by
  refine V.astore_n (L' := [_, _]) dL_endMacro_9 rfl rfl ?_
  refine V.bipush dL_endMacro_10 ⟨by decide, by decide⟩ ?_
  exact V.iret (jret_i dL_endMacro_12 rfl) hq
theorem sp_L_endMacro {σ : JM}  {n d0 : Nat} {Qr : Option JV → JM → Prop} {Qx : String → JM → Prop} (h : JSp mX6_endMacro d0 n [(2, 0)] σ Qr Qx) (hr : ∀ v t, Qr v t → ∃ r, v = some (0, r)) (hx : ∀ X t, Qx X t → X = "java/lang/UnsupportedOperationException" ∨ X = "java/lang/IllegalStateException") : JSpH mL_endMacro (d0 + 1) n [(2, 0)] σ (jLQ_endMacro Qr Qx) jno := by
  refine JSpH.of [(2, 0), (9, 0)] (by decide +kernel) rfl rfl rfl (fun l E hA => ?_)
  refine V.aload_n dL_endMacro_0 rfl ?_
  refine V.callVC [] rfl kc_L_64 rfl dL_endMacro_1 (d' := d0) (Nat.lt_succ_self _) (Nat.le_refl _) rfl (fun _ _ => h) (fun v t' hq hv => ?_) (fun X t hx2 => by
      rcases hx X t hx2 with rfl | rfl
      · exact ⟨5, cat_L_endMacro_0, fun q => hdl_L_endMacro_0 (Or.inr (Or.inl ⟨hx2, rfl⟩))⟩
      · exact ⟨9, cat_L_endMacro_1, fun q => hdl_L_endMacro_1 (Or.inr (Or.inr ⟨hx2, rfl⟩))⟩)
  obtain ⟨r, rfl⟩ := hr v t' hq
  exact V.iret (jret_i dL_endMacro_4 rfl) (Or.inl ⟨r, rfl, hq⟩)
theorem lr_endMacro {r : Int} {τ : JM} {v : Option JV} {t : JM} (h : jLQ_endMacro (fun v t => v = some (0, r) ∧ t = τ) jno v t) : v = some (0, r) ∧ t = τ := by
  rcases h with ⟨r2, -, h⟩ | h | h
  · exact h
  · exact h.1.elim
  · exact h.1.elim
theorem lx_endMacro_1 {σ : JM} {v : Option JV} {t : JM} (h : jLQ_endMacro jnr (jxx "java/lang/UnsupportedOperationException" σ) v t) : v = some (0, -76) ∧ t = σ := by
  rcases h with ⟨r2, -, h1⟩ | ⟨⟨h1, h2⟩, h3⟩ | ⟨⟨h1, h2⟩, h3⟩
  · exact h1.elim
  · exact ⟨h3, h2⟩
  · exact absurd h1 (by decide)
theorem lx_endMacro_2 {σ : JM} {v : Option JV} {t : JM} (h : jLQ_endMacro jnr (jxx "java/lang/IllegalStateException" σ) v t) : v = some (0, -79) ∧ t = σ := by
  rcases h with ⟨r2, -, h1⟩ | ⟨⟨h1, h2⟩, h3⟩ | ⟨⟨h1, h2⟩, h3⟩
  · exact h1.elim
  · exact absurd h1 (by decide)
  · exact ⟨h3, h2⟩
def jLQ_fault (Qr : Option JV → JM → Prop) (Qx : String → JM → Prop) : Option JV → JM → Prop := fun v t => (∃ r, v = some (0, r) ∧ Qr v t) ∨ (Qx "java/util/NoSuchElementException" t ∧ v = some (0, -75))
theorem cat_L_fault_0 : jcatch mL_fault 1 "java/util/NoSuchElementException" 5 := ⟨[], (0, 4, 5, 44), [], rfl, fun _ h => absurd h List.not_mem_nil, by decide, by decide, kg974, by decide +kernel, rfl⟩
theorem hdl_L_fault_0 {l : Launch} {E : JE} {dd n : Nat} {Qr : Option JV → JM → Prop}  {t : JM} {q0 : Int} (hq : Qr (some (0, -75)) t) : V l E mL_fault dd n Qr jno 5 [(2, 0), (9, 0)] [(3, q0)] t := by
  refine V.astore_n (L' := [_, _]) dL_fault_5 rfl rfl ?_
  refine V.bipush dL_fault_6 ⟨by decide, by decide⟩ ?_
  exact V.iret (jret_i dL_fault_8 rfl) hq
theorem sp_L_fault {σ : JM}  {n d0 : Nat} {Qr : Option JV → JM → Prop} {Qx : String → JM → Prop} (h : JSp mX6_fault d0 n [(2, 0)] σ Qr Qx) (hr : ∀ v t, Qr v t → ∃ r, v = some (0, r)) (hx : ∀ X t, Qx X t → X = "java/util/NoSuchElementException") : JSpH mL_fault (d0 + 1) n [(2, 0)] σ (jLQ_fault Qr Qx) jno := by
  refine JSpH.of [(2, 0), (9, 0)] (by decide +kernel) rfl rfl rfl (fun l E hA => ?_)
  refine V.aload_n dL_fault_0 rfl ?_
  refine V.callVC [] rfl kc_L_67 rfl dL_fault_1 (d' := d0) (Nat.lt_succ_self _) (Nat.le_refl _) rfl (fun _ _ => h) (fun v t' hq hv => ?_) (fun X t hx2 => by
      rcases hx X t hx2 with rfl
      · exact ⟨5, cat_L_fault_0, fun q => hdl_L_fault_0 (Or.inr ⟨hx2, rfl⟩)⟩)
  obtain ⟨r, rfl⟩ := hr v t' hq
  exact V.iret (jret_i dL_fault_4 rfl) (Or.inl ⟨r, rfl, hq⟩)
theorem lr_fault {r : Int} {τ : JM} {v : Option JV} {t : JM} (h : jLQ_fault (fun v t => v = some (0, r) ∧ t = τ) jno v t) : v = some (0, r) ∧ t = τ := by
  rcases h with ⟨r2, -, h⟩ | h
  · exact h
  · exact h.1.elim
theorem lx_fault_1 {σ : JM} {v : Option JV} {t : JM} (h : jLQ_fault jnr (jxx "java/util/NoSuchElementException" σ) v t) : v = some (0, -75) ∧ t = σ := by
  rcases h with ⟨r2, -, h1⟩ | ⟨⟨h1, h2⟩, h3⟩
  · exact h1.elim
  · exact ⟨h3, h2⟩
def jLQ_faultLine (Qr : Option JV → JM → Prop) (Qx : String → JM → Prop) : Option JV → JM → Prop := fun v t => (∃ r, v = some (0, r) ∧ Qr v t) ∨ (Qx "java/util/NoSuchElementException" t ∧ v = some (0, -75))
theorem cat_L_faultLine_0 : jcatch mL_faultLine 1 "java/util/NoSuchElementException" 5 := ⟨[], (0, 4, 5, 44), [], rfl, fun _ h => absurd h List.not_mem_nil, by decide, by decide, kg974, by decide +kernel, rfl⟩
theorem hdl_L_faultLine_0 {l : Launch} {E : JE} {dd n : Nat} {Qr : Option JV → JM → Prop}  {t : JM} {q0 : Int} (hq : Qr (some (0, -75)) t) : V l E mL_faultLine dd n Qr jno 5 [(2, 0), (9, 0)] [(3, q0)] t := by
  refine V.astore_n (L' := [_, _]) dL_faultLine_5 rfl rfl ?_
  refine V.bipush dL_faultLine_6 ⟨by decide, by decide⟩ ?_
  exact V.iret (jret_i dL_faultLine_8 rfl) hq
theorem sp_L_faultLine {σ : JM}  {n d0 : Nat} {Qr : Option JV → JM → Prop} {Qx : String → JM → Prop} (h : JSp mX6_faultLine d0 n [(2, 0)] σ Qr Qx) (hr : ∀ v t, Qr v t → ∃ r, v = some (0, r)) (hx : ∀ X t, Qx X t → X = "java/util/NoSuchElementException") : JSpH mL_faultLine (d0 + 1) n [(2, 0)] σ (jLQ_faultLine Qr Qx) jno := by
  refine JSpH.of [(2, 0), (9, 0)] (by decide +kernel) rfl rfl rfl (fun l E hA => ?_)
  refine V.aload_n dL_faultLine_0 rfl ?_
  refine V.callVC [] rfl kc_L_71 rfl dL_faultLine_1 (d' := d0) (Nat.lt_succ_self _) (Nat.le_refl _) rfl (fun _ _ => h) (fun v t' hq hv => ?_) (fun X t hx2 => by
      rcases hx X t hx2 with rfl
      · exact ⟨5, cat_L_faultLine_0, fun q => hdl_L_faultLine_0 (Or.inr ⟨hx2, rfl⟩)⟩)
  obtain ⟨r, rfl⟩ := hr v t' hq
  exact V.iret (jret_i dL_faultLine_4 rfl) (Or.inl ⟨r, rfl, hq⟩)
theorem lr_faultLine {r : Int} {τ : JM} {v : Option JV} {t : JM} (h : jLQ_faultLine (fun v t => v = some (0, r) ∧ t = τ) jno v t) : v = some (0, r) ∧ t = τ := by
  rcases h with ⟨r2, -, h⟩ | h
  · exact h
  · exact h.1.elim
theorem lx_faultLine_1 {σ : JM} {v : Option JV} {t : JM} (h : jLQ_faultLine jnr (jxx "java/util/NoSuchElementException" σ) v t) : v = some (0, -75) ∧ t = σ := by
  rcases h with ⟨r2, -, h1⟩ | ⟨⟨h1, h2⟩, h3⟩
  · exact h1.elim
  · exact ⟨h3, h2⟩
def jLQ_items (Qr : Option JV → JM → Prop) (Qx : String → JM → Prop) : Option JV → JM → Prop := fun v t => (∃ r, v = some (0, r) ∧ Qr v t) ∨ (Qx "java/util/NoSuchElementException" t ∧ v = some (0, -75))
theorem cat_L_items_0 : jcatch mL_items 1 "java/util/NoSuchElementException" 5 := ⟨[], (0, 4, 5, 44), [], rfl, fun _ h => absurd h List.not_mem_nil, by decide, by decide, kg974, by decide +kernel, rfl⟩
theorem hdl_L_items_0 {l : Launch} {E : JE} {dd n : Nat} {Qr : Option JV → JM → Prop}  {t : JM} {q0 : Int} (hq : Qr (some (0, -75)) t) : V l E mL_items dd n Qr jno 5 [(2, 0), (9, 0)] [(3, q0)] t := by
  refine V.astore_n (L' := [_, _]) dL_items_5 rfl rfl ?_
  refine V.bipush dL_items_6 ⟨by decide, by decide⟩ ?_
  exact V.iret (jret_i dL_items_8 rfl) hq
theorem sp_L_items {σ : JM}  {n d0 : Nat} {Qr : Option JV → JM → Prop} {Qx : String → JM → Prop} (h : JSp mX6_items d0 n [(2, 0)] σ Qr Qx) (hr : ∀ v t, Qr v t → ∃ r, v = some (0, r)) (hx : ∀ X t, Qx X t → X = "java/util/NoSuchElementException") : JSpH mL_items (d0 + 1) n [(2, 0)] σ (jLQ_items Qr Qx) jno := by
  refine JSpH.of [(2, 0), (9, 0)] (by decide +kernel) rfl rfl rfl (fun l E hA => ?_)
  refine V.aload_n dL_items_0 rfl ?_
  refine V.callVC [] rfl kc_L_105 rfl dL_items_1 (d' := d0) (Nat.lt_succ_self _) (Nat.le_refl _) rfl (fun _ _ => h) (fun v t' hq hv => ?_) (fun X t hx2 => by
      rcases hx X t hx2 with rfl
      · exact ⟨5, cat_L_items_0, fun q => hdl_L_items_0 (Or.inr ⟨hx2, rfl⟩)⟩)
  obtain ⟨r, rfl⟩ := hr v t' hq
  exact V.iret (jret_i dL_items_4 rfl) (Or.inl ⟨r, rfl, hq⟩)
theorem lr_items {r : Int} {τ : JM} {v : Option JV} {t : JM} (h : jLQ_items (fun v t => v = some (0, r) ∧ t = τ) jno v t) : v = some (0, r) ∧ t = τ := by
  rcases h with ⟨r2, -, h⟩ | h
  · exact h
  · exact h.1.elim
theorem lx_items_1 {σ : JM} {v : Option JV} {t : JM} (h : jLQ_items jnr (jxx "java/util/NoSuchElementException" σ) v t) : v = some (0, -75) ∧ t = σ := by
  rcases h with ⟨r2, -, h1⟩ | ⟨⟨h1, h2⟩, h3⟩
  · exact h1.elim
  · exact ⟨h3, h2⟩
def jLQ_itemsByCounting (Qr : Option JV → JM → Prop) (Qx : String → JM → Prop) : Option JV → JM → Prop := fun v t => (∃ r, v = some (1, r) ∧ Qr v t) ∨ (Qx "java/lang/IllegalStateException" t ∧ v = some (1, -79)) ∨ (Qx "java/lang/UnsupportedOperationException" t ∧ v = some (1, -76))
theorem cat_L_itemsByCounting_0 : jcatch mL_itemsByCounting 1 "java/lang/IllegalStateException" 5 := ⟨[], (0, 4, 5, 22), [(0, 4, 10, 59)], rfl, fun _ h => absurd h List.not_mem_nil, by decide, by decide, kg892, by decide +kernel, rfl⟩
theorem hdl_L_itemsByCounting_0 {l : Launch} {E : JE} {dd n : Nat} {Qr : Option JV → JM → Prop}  {t : JM} {q0 : Int} (hq : Qr (some (1, -79)) t) : V l E mL_itemsByCounting dd n Qr jno 5 [(2, 0), (9, 0)] [(3, q0)] t := by
  refine V.astore_n (L' := [_, _]) dL_itemsByCounting_5 rfl rfl ?_
  refine V.ldc2 (x := -79) dL_itemsByCounting_6 ⟨by decide, by decide⟩ (by have h := kg1265; rwa [show (-79 : Int64) = jL (-79) by decide +kernel] at h) ?_
  exact V.lret (jret_l dL_itemsByCounting_9 rfl) hq
theorem cat_L_itemsByCounting_1 : jcatch mL_itemsByCounting 1 "java/lang/UnsupportedOperationException" 10 := ⟨[(0, 4, 5, 22)], (0, 4, 10, 59), [], rfl, List.forall_mem_cons.mpr ⟨⟨by decide, "java/lang/IllegalStateException", kg892, by decide +kernel⟩, fun _ h => absurd h List.not_mem_nil⟩, by decide, by decide, kg1023, by decide +kernel, rfl⟩
theorem hdl_L_itemsByCounting_1 {l : Launch} {E : JE} {dd n : Nat} {Qr : Option JV → JM → Prop}  {t : JM} {q0 : Int} (hq : Qr (some (1, -76)) t) : V l E mL_itemsByCounting dd n Qr jno 10 [(2, 0), (9, 0)] [(3, q0)] t := by
  refine V.astore_n (L' := [_, _]) dL_itemsByCounting_10 rfl rfl ?_
  refine V.ldc2 (x := -76) dL_itemsByCounting_11 ⟨by decide, by decide⟩ (by have h := kg1266; rwa [show (-76 : Int64) = jL (-76) by decide +kernel] at h) ?_
  exact V.lret (jret_l dL_itemsByCounting_14 rfl) hq
theorem sp_L_itemsByCounting {σ : JM}  {n d0 : Nat} {Qr : Option JV → JM → Prop} {Qx : String → JM → Prop} (h : JSp mX6_itemsByCounting d0 n [(2, 0)] σ Qr Qx) (hr : ∀ v t, Qr v t → ∃ r, v = some (1, r)) (hx : ∀ X t, Qx X t → X = "java/lang/IllegalStateException" ∨ X = "java/lang/UnsupportedOperationException") : JSpH mL_itemsByCounting (d0 + 1) n [(2, 0)] σ (jLQ_itemsByCounting Qr Qx) jno := by
  refine JSpH.of [(2, 0), (9, 0)] (by decide +kernel) rfl rfl rfl (fun l E hA => ?_)
  refine V.aload_n dL_itemsByCounting_0 rfl ?_
  refine V.callVC [] rfl kc_L_74 rfl dL_itemsByCounting_1 (d' := d0) (Nat.lt_succ_self _) (Nat.le_refl _) rfl (fun _ _ => h) (fun v t' hq hv => ?_) (fun X t hx2 => by
      rcases hx X t hx2 with rfl | rfl
      · exact ⟨5, cat_L_itemsByCounting_0, fun q => hdl_L_itemsByCounting_0 (Or.inr (Or.inl ⟨hx2, rfl⟩))⟩
      · exact ⟨10, cat_L_itemsByCounting_1, fun q => hdl_L_itemsByCounting_1 (Or.inr (Or.inr ⟨hx2, rfl⟩))⟩)
  obtain ⟨r, rfl⟩ := hr v t' hq
  exact V.lret (jret_l dL_itemsByCounting_4 rfl) (Or.inl ⟨r, rfl, hq⟩)
theorem lr_itemsByCounting {r : Int} {τ : JM} {v : Option JV} {t : JM} (h : jLQ_itemsByCounting (fun v t => v = some (1, r) ∧ t = τ) jno v t) : v = some (1, r) ∧ t = τ := by
  rcases h with ⟨r2, -, h⟩ | h | h
  · exact h
  · exact h.1.elim
  · exact h.1.elim
theorem lx_itemsByCounting_1 {σ : JM} {v : Option JV} {t : JM} (h : jLQ_itemsByCounting jnr (jxx "java/lang/IllegalStateException" σ) v t) : v = some (1, -79) ∧ t = σ := by
  rcases h with ⟨r2, -, h1⟩ | ⟨⟨h1, h2⟩, h3⟩ | ⟨⟨h1, h2⟩, h3⟩
  · exact h1.elim
  · exact ⟨h3, h2⟩
  · exact absurd h1 (by decide)
theorem lx_itemsByCounting_2 {σ : JM} {v : Option JV} {t : JM} (h : jLQ_itemsByCounting jnr (jxx "java/lang/UnsupportedOperationException" σ) v t) : v = some (1, -76) ∧ t = σ := by
  rcases h with ⟨r2, -, h1⟩ | ⟨⟨h1, h2⟩, h3⟩ | ⟨⟨h1, h2⟩, h3⟩
  · exact h1.elim
  · exact absurd h1 (by decide)
  · exact ⟨h3, h2⟩
def jLQ_jump (Qr : Option JV → JM → Prop) (Qx : String → JM → Prop) : Option JV → JM → Prop := fun v t => (∃ r, v = some (0, r) ∧ Qr v t) ∨ (Qx "java/lang/IllegalArgumentException" t ∧ v = some (0, -78)) ∨ (Qx "java/lang/IllegalStateException" t ∧ v = some (0, -79))
theorem cat_L_jump_0 : jcatch mL_jump 2 "java/lang/IllegalArgumentException" 6 := ⟨[], (0, 5, 6, 20), [(0, 5, 10, 22)], rfl, fun _ h => absurd h List.not_mem_nil, by decide, by decide, kg891, by decide +kernel, rfl⟩
theorem hdl_L_jump_0 {l : Launch} {E : JE} {dd n : Nat} {Qr : Option JV → JM → Prop} {p : Int} {t : JM} {q0 : Int} (hq : Qr (some (0, -78)) t) : V l E mL_jump dd n Qr jno 6 [(2, 0), (0, p), (9, 0)] [(3, q0)] t := by
  refine V.astore_n (L' := [_, _, _]) dL_jump_6 rfl rfl ?_
  refine V.bipush dL_jump_7 ⟨by decide, by decide⟩ ?_
  exact V.iret (jret_i dL_jump_9 rfl) hq
theorem cat_L_jump_1 : jcatch mL_jump 2 "java/lang/IllegalStateException" 10 := ⟨[(0, 5, 6, 20)], (0, 5, 10, 22), [], rfl, List.forall_mem_cons.mpr ⟨⟨by decide, "java/lang/IllegalArgumentException", kg891, by decide +kernel⟩, fun _ h => absurd h List.not_mem_nil⟩, by decide, by decide, kg892, by decide +kernel, rfl⟩
theorem hdl_L_jump_1 {l : Launch} {E : JE} {dd n : Nat} {Qr : Option JV → JM → Prop} {p : Int} {t : JM} {q0 : Int} (hq : Qr (some (0, -79)) t) : V l E mL_jump dd n Qr jno 10 [(2, 0), (0, p), (9, 0)] [(3, q0)] t := by
  refine V.astore_n (L' := [_, _, _]) dL_jump_10 rfl rfl ?_
  refine V.bipush dL_jump_11 ⟨by decide, by decide⟩ ?_
  exact V.iret (jret_i dL_jump_13 rfl) hq
theorem sp_L_jump {σ : JM} {p : Int} {n d0 : Nat} {Qr : Option JV → JM → Prop} {Qx : String → JM → Prop} (h : JSp mX6_jump d0 n [(2, 0), (0, p)] σ Qr Qx) (hr : ∀ v t, Qr v t → ∃ r, v = some (0, r)) (hx : ∀ X t, Qx X t → X = "java/lang/IllegalArgumentException" ∨ X = "java/lang/IllegalStateException") : JSpH mL_jump (d0 + 1) n [(2, 0), (0, p)] σ (jLQ_jump Qr Qx) jno := by
  refine JSpH.of [(2, 0), (0, p), (9, 0)] (by decide +kernel) rfl rfl rfl (fun l E hA => ?_)
  refine V.aload_n dL_jump_0 rfl ?_
  refine V.iload_n dL_jump_1 rfl ?_
  refine V.callVC [_] rfl kc_L_31 rfl dL_jump_2 (d' := d0) (Nat.lt_succ_self _) (Nat.le_refl _) rfl (fun _ _ => h) (fun v t' hq hv => ?_) (fun X t hx2 => by
      rcases hx X t hx2 with rfl | rfl
      · exact ⟨6, cat_L_jump_0, fun q => hdl_L_jump_0 (Or.inr (Or.inl ⟨hx2, rfl⟩))⟩
      · exact ⟨10, cat_L_jump_1, fun q => hdl_L_jump_1 (Or.inr (Or.inr ⟨hx2, rfl⟩))⟩)
  obtain ⟨r, rfl⟩ := hr v t' hq
  exact V.iret (jret_i dL_jump_5 rfl) (Or.inl ⟨r, rfl, hq⟩)
theorem lr_jump {r : Int} {τ : JM} {v : Option JV} {t : JM} (h : jLQ_jump (fun v t => v = some (0, r) ∧ t = τ) jno v t) : v = some (0, r) ∧ t = τ := by
  rcases h with ⟨r2, -, h⟩ | h | h
  · exact h
  · exact h.1.elim
  · exact h.1.elim
theorem lx_jump_1 {σ : JM} {v : Option JV} {t : JM} (h : jLQ_jump jnr (jxx "java/lang/IllegalArgumentException" σ) v t) : v = some (0, -78) ∧ t = σ := by
  rcases h with ⟨r2, -, h1⟩ | ⟨⟨h1, h2⟩, h3⟩ | ⟨⟨h1, h2⟩, h3⟩
  · exact h1.elim
  · exact ⟨h3, h2⟩
  · exact absurd h1 (by decide)
theorem lx_jump_2 {σ : JM} {v : Option JV} {t : JM} (h : jLQ_jump jnr (jxx "java/lang/IllegalStateException" σ) v t) : v = some (0, -79) ∧ t = σ := by
  rcases h with ⟨r2, -, h1⟩ | ⟨⟨h1, h2⟩, h3⟩ | ⟨⟨h1, h2⟩, h3⟩
  · exact h1.elim
  · exact absurd h1 (by decide)
  · exact ⟨h3, h2⟩
def jLQ_kindOf (Qr : Option JV → JM → Prop) (Qx : String → JM → Prop) : Option JV → JM → Prop := fun v t => (∃ r, v = some (0, r) ∧ Qr v t) ∨ (Qx "java/util/NoSuchElementException" t ∧ v = some (0, -75)) ∨ (Qx "java/lang/IndexOutOfBoundsException" t ∧ v = some (0, -77))
theorem cat_L_kindOf_0 : jcatch mL_kindOf 2 "java/util/NoSuchElementException" 6 := ⟨[], (0, 5, 6, 44), [(0, 5, 10, 88)], rfl, fun _ h => absurd h List.not_mem_nil, by decide, by decide, kg974, by decide +kernel, rfl⟩
theorem hdl_L_kindOf_0 {l : Launch} {E : JE} {dd n : Nat} {Qr : Option JV → JM → Prop} {p : Int} {t : JM} {q0 : Int} (hq : Qr (some (0, -75)) t) : V l E mL_kindOf dd n Qr jno 6 [(2, 0), (0, p), (9, 0)] [(3, q0)] t := by
  refine V.astore_n (L' := [_, _, _]) dL_kindOf_6 rfl rfl ?_
  refine V.bipush dL_kindOf_7 ⟨by decide, by decide⟩ ?_
  exact V.iret (jret_i dL_kindOf_9 rfl) hq
theorem cat_L_kindOf_1 : jcatch mL_kindOf 2 "java/lang/IndexOutOfBoundsException" 10 := ⟨[(0, 5, 6, 44)], (0, 5, 10, 88), [], rfl, List.forall_mem_cons.mpr ⟨⟨by decide, "java/util/NoSuchElementException", kg974, by decide +kernel⟩, fun _ h => absurd h List.not_mem_nil⟩, by decide, by decide, kg1124, by decide +kernel, rfl⟩
theorem hdl_L_kindOf_1 {l : Launch} {E : JE} {dd n : Nat} {Qr : Option JV → JM → Prop} {p : Int} {t : JM} {q0 : Int} (hq : Qr (some (0, -77)) t) : V l E mL_kindOf dd n Qr jno 10 [(2, 0), (0, p), (9, 0)] [(3, q0)] t := by
  refine V.astore_n (L' := [_, _, _]) dL_kindOf_10 rfl rfl ?_
  refine V.bipush dL_kindOf_11 ⟨by decide, by decide⟩ ?_
  exact V.iret (jret_i dL_kindOf_13 rfl) hq
theorem sp_L_kindOf {σ : JM} {p : Int} {n d0 : Nat} {Qr : Option JV → JM → Prop} {Qx : String → JM → Prop} (h : JSp mX6_kindOf d0 n [(2, 0), (0, p)] σ Qr Qx) (hr : ∀ v t, Qr v t → ∃ r, v = some (0, r)) (hx : ∀ X t, Qx X t → X = "java/util/NoSuchElementException" ∨ X = "java/lang/IndexOutOfBoundsException") : JSpH mL_kindOf (d0 + 1) n [(2, 0), (0, p)] σ (jLQ_kindOf Qr Qx) jno := by
  refine JSpH.of [(2, 0), (0, p), (9, 0)] (by decide +kernel) rfl rfl rfl (fun l E hA => ?_)
  refine V.aload_n dL_kindOf_0 rfl ?_
  refine V.iload_n dL_kindOf_1 rfl ?_
  refine V.callVC [_] rfl kc_L_111 rfl dL_kindOf_2 (d' := d0) (Nat.lt_succ_self _) (Nat.le_refl _) rfl (fun _ _ => h) (fun v t' hq hv => ?_) (fun X t hx2 => by
      rcases hx X t hx2 with rfl | rfl
      · exact ⟨6, cat_L_kindOf_0, fun q => hdl_L_kindOf_0 (Or.inr (Or.inl ⟨hx2, rfl⟩))⟩
      · exact ⟨10, cat_L_kindOf_1, fun q => hdl_L_kindOf_1 (Or.inr (Or.inr ⟨hx2, rfl⟩))⟩)
  obtain ⟨r, rfl⟩ := hr v t' hq
  exact V.iret (jret_i dL_kindOf_5 rfl) (Or.inl ⟨r, rfl, hq⟩)
theorem lr_kindOf {r : Int} {τ : JM} {v : Option JV} {t : JM} (h : jLQ_kindOf (fun v t => v = some (0, r) ∧ t = τ) jno v t) : v = some (0, r) ∧ t = τ := by
  rcases h with ⟨r2, -, h⟩ | h | h
  · exact h
  · exact h.1.elim
  · exact h.1.elim
theorem lx_kindOf_1 {σ : JM} {v : Option JV} {t : JM} (h : jLQ_kindOf jnr (jxx "java/util/NoSuchElementException" σ) v t) : v = some (0, -75) ∧ t = σ := by
  rcases h with ⟨r2, -, h1⟩ | ⟨⟨h1, h2⟩, h3⟩ | ⟨⟨h1, h2⟩, h3⟩
  · exact h1.elim
  · exact ⟨h3, h2⟩
  · exact absurd h1 (by decide)
theorem lx_kindOf_2 {σ : JM} {v : Option JV} {t : JM} (h : jLQ_kindOf jnr (jxx "java/lang/IndexOutOfBoundsException" σ) v t) : v = some (0, -77) ∧ t = σ := by
  rcases h with ⟨r2, -, h1⟩ | ⟨⟨h1, h2⟩, h3⟩ | ⟨⟨h1, h2⟩, h3⟩
  · exact h1.elim
  · exact absurd h1 (by decide)
  · exact ⟨h3, h2⟩
def jLQ_label (Qr : Option JV → JM → Prop) (Qx : String → JM → Prop) : Option JV → JM → Prop := fun v t => (∃ r, v = some (0, r) ∧ Qr v t) ∨ (Qx "java/lang/IllegalArgumentException" t ∧ v = some (0, -78)) ∨ (Qx "java/lang/IllegalStateException" t ∧ v = some (0, -79))
theorem cat_L_label_0 : jcatch mL_label 2 "java/lang/IllegalArgumentException" 6 := ⟨[], (0, 5, 6, 20), [(0, 5, 10, 22)], rfl, fun _ h => absurd h List.not_mem_nil, by decide, by decide, kg891, by decide +kernel, rfl⟩
theorem hdl_L_label_0 {l : Launch} {E : JE} {dd n : Nat} {Qr : Option JV → JM → Prop} {p : Int} {t : JM} {q0 : Int} (hq : Qr (some (0, -78)) t) : V l E mL_label dd n Qr jno 6 [(2, 0), (0, p), (9, 0)] [(3, q0)] t := by
  refine V.astore_n (L' := [_, _, _]) dL_label_6 rfl rfl ?_
  refine V.bipush dL_label_7 ⟨by decide, by decide⟩ ?_
  exact V.iret (jret_i dL_label_9 rfl) hq
theorem cat_L_label_1 : jcatch mL_label 2 "java/lang/IllegalStateException" 10 := ⟨[(0, 5, 6, 20)], (0, 5, 10, 22), [], rfl, List.forall_mem_cons.mpr ⟨⟨by decide, "java/lang/IllegalArgumentException", kg891, by decide +kernel⟩, fun _ h => absurd h List.not_mem_nil⟩, by decide, by decide, kg892, by decide +kernel, rfl⟩
theorem hdl_L_label_1 {l : Launch} {E : JE} {dd n : Nat} {Qr : Option JV → JM → Prop} {p : Int} {t : JM} {q0 : Int} (hq : Qr (some (0, -79)) t) : V l E mL_label dd n Qr jno 10 [(2, 0), (0, p), (9, 0)] [(3, q0)] t := by
  refine V.astore_n (L' := [_, _, _]) dL_label_10 rfl rfl ?_
  refine V.bipush dL_label_11 ⟨by decide, by decide⟩ ?_
  exact V.iret (jret_i dL_label_13 rfl) hq
theorem sp_L_label {σ : JM} {p : Int} {n d0 : Nat} {Qr : Option JV → JM → Prop} {Qx : String → JM → Prop} (h : JSp mX6_label d0 n [(2, 0), (0, p)] σ Qr Qx) (hr : ∀ v t, Qr v t → ∃ r, v = some (0, r)) (hx : ∀ X t, Qx X t → X = "java/lang/IllegalArgumentException" ∨ X = "java/lang/IllegalStateException") : JSpH mL_label (d0 + 1) n [(2, 0), (0, p)] σ (jLQ_label Qr Qx) jno := by
  refine JSpH.of [(2, 0), (0, p), (9, 0)] (by decide +kernel) rfl rfl rfl (fun l E hA => ?_)
  refine V.aload_n dL_label_0 rfl ?_
  refine V.iload_n dL_label_1 rfl ?_
  refine V.callVC [_] rfl kc_L_14 rfl dL_label_2 (d' := d0) (Nat.lt_succ_self _) (Nat.le_refl _) rfl (fun _ _ => h) (fun v t' hq hv => ?_) (fun X t hx2 => by
      rcases hx X t hx2 with rfl | rfl
      · exact ⟨6, cat_L_label_0, fun q => hdl_L_label_0 (Or.inr (Or.inl ⟨hx2, rfl⟩))⟩
      · exact ⟨10, cat_L_label_1, fun q => hdl_L_label_1 (Or.inr (Or.inr ⟨hx2, rfl⟩))⟩)
  obtain ⟨r, rfl⟩ := hr v t' hq
  exact V.iret (jret_i dL_label_5 rfl) (Or.inl ⟨r, rfl, hq⟩)
theorem lr_label {r : Int} {τ : JM} {v : Option JV} {t : JM} (h : jLQ_label (fun v t => v = some (0, r) ∧ t = τ) jno v t) : v = some (0, r) ∧ t = τ := by
  rcases h with ⟨r2, -, h⟩ | h | h
  · exact h
  · exact h.1.elim
  · exact h.1.elim
theorem lx_label_1 {σ : JM} {v : Option JV} {t : JM} (h : jLQ_label jnr (jxx "java/lang/IllegalArgumentException" σ) v t) : v = some (0, -78) ∧ t = σ := by
  rcases h with ⟨r2, -, h1⟩ | ⟨⟨h1, h2⟩, h3⟩ | ⟨⟨h1, h2⟩, h3⟩
  · exact h1.elim
  · exact ⟨h3, h2⟩
  · exact absurd h1 (by decide)
theorem lx_label_2 {σ : JM} {v : Option JV} {t : JM} (h : jLQ_label jnr (jxx "java/lang/IllegalStateException" σ) v t) : v = some (0, -79) ∧ t = σ := by
  rcases h with ⟨r2, -, h1⟩ | ⟨⟨h1, h2⟩, h3⟩ | ⟨⟨h1, h2⟩, h3⟩
  · exact h1.elim
  · exact absurd h1 (by decide)
  · exact ⟨h3, h2⟩
def jLQ_labelAddress (Qr : Option JV → JM → Prop) (Qx : String → JM → Prop) : Option JV → JM → Prop := fun v t => (∃ r, v = some (0, r) ∧ Qr v t) ∨ (Qx "java/util/NoSuchElementException" t ∧ v = some (0, -75))
theorem cat_L_labelAddress_0 : jcatch mL_labelAddress 2 "java/util/NoSuchElementException" 6 := ⟨[], (0, 5, 6, 44), [], rfl, fun _ h => absurd h List.not_mem_nil, by decide, by decide, kg974, by decide +kernel, rfl⟩
theorem hdl_L_labelAddress_0 {l : Launch} {E : JE} {dd n : Nat} {Qr : Option JV → JM → Prop} {p : Int} {t : JM} {q0 : Int} (hq : Qr (some (0, -75)) t) : V l E mL_labelAddress dd n Qr jno 6 [(2, 0), (0, p), (9, 0)] [(3, q0)] t := by
  refine V.astore_n (L' := [_, _, _]) dL_labelAddress_6 rfl rfl ?_
  refine V.bipush dL_labelAddress_7 ⟨by decide, by decide⟩ ?_
  exact V.iret (jret_i dL_labelAddress_9 rfl) hq
theorem sp_L_labelAddress {σ : JM} {p : Int} {n d0 : Nat} {Qr : Option JV → JM → Prop} {Qx : String → JM → Prop} (h : JSp mX6_labelAddress d0 n [(2, 0), (0, p)] σ Qr Qx) (hr : ∀ v t, Qr v t → ∃ r, v = some (0, r)) (hx : ∀ X t, Qx X t → X = "java/util/NoSuchElementException") : JSpH mL_labelAddress (d0 + 1) n [(2, 0), (0, p)] σ (jLQ_labelAddress Qr Qx) jno := by
  refine JSpH.of [(2, 0), (0, p), (9, 0)] (by decide +kernel) rfl rfl rfl (fun l E hA => ?_)
  refine V.aload_n dL_labelAddress_0 rfl ?_
  refine V.iload_n dL_labelAddress_1 rfl ?_
  refine V.callVC [_] rfl kc_L_96 rfl dL_labelAddress_2 (d' := d0) (Nat.lt_succ_self _) (Nat.le_refl _) rfl (fun _ _ => h) (fun v t' hq hv => ?_) (fun X t hx2 => by
      rcases hx X t hx2 with rfl
      · exact ⟨6, cat_L_labelAddress_0, fun q => hdl_L_labelAddress_0 (Or.inr ⟨hx2, rfl⟩)⟩)
  obtain ⟨r, rfl⟩ := hr v t' hq
  exact V.iret (jret_i dL_labelAddress_5 rfl) (Or.inl ⟨r, rfl, hq⟩)
theorem lr_labelAddress {r : Int} {τ : JM} {v : Option JV} {t : JM} (h : jLQ_labelAddress (fun v t => v = some (0, r) ∧ t = τ) jno v t) : v = some (0, r) ∧ t = τ := by
  rcases h with ⟨r2, -, h⟩ | h
  · exact h
  · exact h.1.elim
theorem lx_labelAddress_1 {σ : JM} {v : Option JV} {t : JM} (h : jLQ_labelAddress jnr (jxx "java/util/NoSuchElementException" σ) v t) : v = some (0, -75) ∧ t = σ := by
  rcases h with ⟨r2, -, h1⟩ | ⟨⟨h1, h2⟩, h3⟩
  · exact h1.elim
  · exact ⟨h3, h2⟩
def jLQ_lineOf (Qr : Option JV → JM → Prop) (Qx : String → JM → Prop) : Option JV → JM → Prop := fun v t => (∃ r, v = some (0, r) ∧ Qr v t) ∨ (Qx "java/util/NoSuchElementException" t ∧ v = some (0, -75)) ∨ (Qx "java/lang/IndexOutOfBoundsException" t ∧ v = some (0, -77))
theorem cat_L_lineOf_0 : jcatch mL_lineOf 2 "java/util/NoSuchElementException" 6 := ⟨[], (0, 5, 6, 44), [(0, 5, 10, 88)], rfl, fun _ h => absurd h List.not_mem_nil, by decide, by decide, kg974, by decide +kernel, rfl⟩
theorem hdl_L_lineOf_0 {l : Launch} {E : JE} {dd n : Nat} {Qr : Option JV → JM → Prop} {p : Int} {t : JM} {q0 : Int} (hq : Qr (some (0, -75)) t) : V l E mL_lineOf dd n Qr jno 6 [(2, 0), (0, p), (9, 0)] [(3, q0)] t := by
  refine V.astore_n (L' := [_, _, _]) dL_lineOf_6 rfl rfl ?_
  refine V.bipush dL_lineOf_7 ⟨by decide, by decide⟩ ?_
  exact V.iret (jret_i dL_lineOf_9 rfl) hq
theorem cat_L_lineOf_1 : jcatch mL_lineOf 2 "java/lang/IndexOutOfBoundsException" 10 := ⟨[(0, 5, 6, 44)], (0, 5, 10, 88), [], rfl, List.forall_mem_cons.mpr ⟨⟨by decide, "java/util/NoSuchElementException", kg974, by decide +kernel⟩, fun _ h => absurd h List.not_mem_nil⟩, by decide, by decide, kg1124, by decide +kernel, rfl⟩
theorem hdl_L_lineOf_1 {l : Launch} {E : JE} {dd n : Nat} {Qr : Option JV → JM → Prop} {p : Int} {t : JM} {q0 : Int} (hq : Qr (some (0, -77)) t) : V l E mL_lineOf dd n Qr jno 10 [(2, 0), (0, p), (9, 0)] [(3, q0)] t := by
  refine V.astore_n (L' := [_, _, _]) dL_lineOf_10 rfl rfl ?_
  refine V.bipush dL_lineOf_11 ⟨by decide, by decide⟩ ?_
  exact V.iret (jret_i dL_lineOf_13 rfl) hq
theorem sp_L_lineOf {σ : JM} {p : Int} {n d0 : Nat} {Qr : Option JV → JM → Prop} {Qx : String → JM → Prop} (h : JSp mX6_lineOf d0 n [(2, 0), (0, p)] σ Qr Qx) (hr : ∀ v t, Qr v t → ∃ r, v = some (0, r)) (hx : ∀ X t, Qx X t → X = "java/util/NoSuchElementException" ∨ X = "java/lang/IndexOutOfBoundsException") : JSpH mL_lineOf (d0 + 1) n [(2, 0), (0, p)] σ (jLQ_lineOf Qr Qx) jno := by
  refine JSpH.of [(2, 0), (0, p), (9, 0)] (by decide +kernel) rfl rfl rfl (fun l E hA => ?_)
  refine V.aload_n dL_lineOf_0 rfl ?_
  refine V.iload_n dL_lineOf_1 rfl ?_
  refine V.callVC [_] rfl kc_L_108 rfl dL_lineOf_2 (d' := d0) (Nat.lt_succ_self _) (Nat.le_refl _) rfl (fun _ _ => h) (fun v t' hq hv => ?_) (fun X t hx2 => by
      rcases hx X t hx2 with rfl | rfl
      · exact ⟨6, cat_L_lineOf_0, fun q => hdl_L_lineOf_0 (Or.inr (Or.inl ⟨hx2, rfl⟩))⟩
      · exact ⟨10, cat_L_lineOf_1, fun q => hdl_L_lineOf_1 (Or.inr (Or.inr ⟨hx2, rfl⟩))⟩)
  obtain ⟨r, rfl⟩ := hr v t' hq
  exact V.iret (jret_i dL_lineOf_5 rfl) (Or.inl ⟨r, rfl, hq⟩)
theorem lr_lineOf {r : Int} {τ : JM} {v : Option JV} {t : JM} (h : jLQ_lineOf (fun v t => v = some (0, r) ∧ t = τ) jno v t) : v = some (0, r) ∧ t = τ := by
  rcases h with ⟨r2, -, h⟩ | h | h
  · exact h
  · exact h.1.elim
  · exact h.1.elim
theorem lx_lineOf_1 {σ : JM} {v : Option JV} {t : JM} (h : jLQ_lineOf jnr (jxx "java/util/NoSuchElementException" σ) v t) : v = some (0, -75) ∧ t = σ := by
  rcases h with ⟨r2, -, h1⟩ | ⟨⟨h1, h2⟩, h3⟩ | ⟨⟨h1, h2⟩, h3⟩
  · exact h1.elim
  · exact ⟨h3, h2⟩
  · exact absurd h1 (by decide)
theorem lx_lineOf_2 {σ : JM} {v : Option JV} {t : JM} (h : jLQ_lineOf jnr (jxx "java/lang/IndexOutOfBoundsException" σ) v t) : v = some (0, -77) ∧ t = σ := by
  rcases h with ⟨r2, -, h1⟩ | ⟨⟨h1, h2⟩, h3⟩ | ⟨⟨h1, h2⟩, h3⟩
  · exact h1.elim
  · exact absurd h1 (by decide)
  · exact ⟨h3, h2⟩
def jLQ_loadedWord (Qr : Option JV → JM → Prop) (Qx : String → JM → Prop) : Option JV → JM → Prop := fun v t => (∃ r, v = some (0, r) ∧ Qr v t) ∨ (Qx "java/util/NoSuchElementException" t ∧ v = some (0, -75)) ∨ (Qx "java/lang/IndexOutOfBoundsException" t ∧ v = some (0, -77)) ∨ (Qx "java/lang/IllegalArgumentException" t ∧ v = some (0, -78))
theorem cat_L_loadedWord_0 : jcatch mL_loadedWord 3 "java/util/NoSuchElementException" 7 := ⟨[], (0, 6, 7, 44), [(0, 6, 11, 88), (0, 6, 15, 20)], rfl, fun _ h => absurd h List.not_mem_nil, by decide, by decide, kg974, by decide +kernel, rfl⟩
theorem hdl_L_loadedWord_0 {l : Launch} {E : JE} {dd n : Nat} {Qr : Option JV → JM → Prop} {p q : Int} {t : JM} {q0 : Int} (hq : Qr (some (0, -75)) t) : V l E mL_loadedWord dd n Qr jno 7 [(2, 0), (0, p), (0, q), (9, 0)] [(3, q0)] t := by
  refine V.astore_n (L' := [_, _, _, _]) dL_loadedWord_7 rfl rfl ?_
  refine V.bipush dL_loadedWord_8 ⟨by decide, by decide⟩ ?_
  exact V.iret (jret_i dL_loadedWord_10 rfl) hq
theorem cat_L_loadedWord_1 : jcatch mL_loadedWord 3 "java/lang/IndexOutOfBoundsException" 11 := ⟨[(0, 6, 7, 44)], (0, 6, 11, 88), [(0, 6, 15, 20)], rfl, List.forall_mem_cons.mpr ⟨⟨by decide, "java/util/NoSuchElementException", kg974, by decide +kernel⟩, fun _ h => absurd h List.not_mem_nil⟩, by decide, by decide, kg1124, by decide +kernel, rfl⟩
theorem hdl_L_loadedWord_1 {l : Launch} {E : JE} {dd n : Nat} {Qr : Option JV → JM → Prop} {p q : Int} {t : JM} {q0 : Int} (hq : Qr (some (0, -77)) t) : V l E mL_loadedWord dd n Qr jno 11 [(2, 0), (0, p), (0, q), (9, 0)] [(3, q0)] t := by
  refine V.astore_n (L' := [_, _, _, _]) dL_loadedWord_11 rfl rfl ?_
  refine V.bipush dL_loadedWord_12 ⟨by decide, by decide⟩ ?_
  exact V.iret (jret_i dL_loadedWord_14 rfl) hq
theorem cat_L_loadedWord_2 : jcatch mL_loadedWord 3 "java/lang/IllegalArgumentException" 15 := ⟨[(0, 6, 7, 44), (0, 6, 11, 88)], (0, 6, 15, 20), [], rfl, List.forall_mem_cons.mpr ⟨⟨by decide, "java/util/NoSuchElementException", kg974, by decide +kernel⟩, List.forall_mem_cons.mpr ⟨⟨by decide, "java/lang/IndexOutOfBoundsException", kg1124, by decide +kernel⟩, fun _ h => absurd h List.not_mem_nil⟩⟩, by decide, by decide, kg891, by decide +kernel, rfl⟩
theorem hdl_L_loadedWord_2 {l : Launch} {E : JE} {dd n : Nat} {Qr : Option JV → JM → Prop} {p q : Int} {t : JM} {q0 : Int} (hq : Qr (some (0, -78)) t) : V l E mL_loadedWord dd n Qr jno 15 [(2, 0), (0, p), (0, q), (9, 0)] [(3, q0)] t := by
  refine V.astore_n (L' := [_, _, _, _]) dL_loadedWord_15 rfl rfl ?_
  refine V.bipush dL_loadedWord_16 ⟨by decide, by decide⟩ ?_
  exact V.iret (jret_i dL_loadedWord_18 rfl) hq
theorem sp_L_loadedWord {σ : JM} {p q : Int} {n d0 : Nat} {Qr : Option JV → JM → Prop} {Qx : String → JM → Prop} (h : JSp mX6_loadedWord d0 n [(2, 0), (0, p), (0, q)] σ Qr Qx) (hr : ∀ v t, Qr v t → ∃ r, v = some (0, r)) (hx : ∀ X t, Qx X t → X = "java/util/NoSuchElementException" ∨ X = "java/lang/IndexOutOfBoundsException" ∨ X = "java/lang/IllegalArgumentException") : JSpH mL_loadedWord (d0 + 1) n [(2, 0), (0, p), (0, q)] σ (jLQ_loadedWord Qr Qx) jno := by
  refine JSpH.of [(2, 0), (0, p), (0, q), (9, 0)] (by decide +kernel) rfl rfl rfl (fun l E hA => ?_)
  refine V.aload_n dL_loadedWord_0 rfl ?_
  refine V.iload_n dL_loadedWord_1 rfl ?_
  refine V.iload_n dL_loadedWord_2 rfl ?_
  refine V.callVC [_, _] rfl kc_L_93 rfl dL_loadedWord_3 (d' := d0) (Nat.lt_succ_self _) (Nat.le_refl _) rfl (fun _ _ => h) (fun v t' hq hv => ?_) (fun X t hx2 => by
      rcases hx X t hx2 with rfl | rfl | rfl
      · exact ⟨7, cat_L_loadedWord_0, fun q => hdl_L_loadedWord_0 (Or.inr (Or.inl ⟨hx2, rfl⟩))⟩
      · exact ⟨11, cat_L_loadedWord_1, fun q => hdl_L_loadedWord_1 (Or.inr (Or.inr (Or.inl ⟨hx2, rfl⟩)))⟩
      · exact ⟨15, cat_L_loadedWord_2, fun q => hdl_L_loadedWord_2 (Or.inr (Or.inr (Or.inr ⟨hx2, rfl⟩)))⟩)
  obtain ⟨r, rfl⟩ := hr v t' hq
  exact V.iret (jret_i dL_loadedWord_6 rfl) (Or.inl ⟨r, rfl, hq⟩)
theorem lr_loadedWord {r : Int} {τ : JM} {v : Option JV} {t : JM} (h : jLQ_loadedWord (fun v t => v = some (0, r) ∧ t = τ) jno v t) : v = some (0, r) ∧ t = τ := by
  rcases h with ⟨r2, -, h⟩ | h | h | h
  · exact h
  · exact h.1.elim
  · exact h.1.elim
  · exact h.1.elim
theorem lx_loadedWord_1 {σ : JM} {v : Option JV} {t : JM} (h : jLQ_loadedWord jnr (jxx "java/util/NoSuchElementException" σ) v t) : v = some (0, -75) ∧ t = σ := by
  rcases h with ⟨r2, -, h1⟩ | ⟨⟨h1, h2⟩, h3⟩ | ⟨⟨h1, h2⟩, h3⟩ | ⟨⟨h1, h2⟩, h3⟩
  · exact h1.elim
  · exact ⟨h3, h2⟩
  · exact absurd h1 (by decide)
  · exact absurd h1 (by decide)
theorem lx_loadedWord_2 {σ : JM} {v : Option JV} {t : JM} (h : jLQ_loadedWord jnr (jxx "java/lang/IndexOutOfBoundsException" σ) v t) : v = some (0, -77) ∧ t = σ := by
  rcases h with ⟨r2, -, h1⟩ | ⟨⟨h1, h2⟩, h3⟩ | ⟨⟨h1, h2⟩, h3⟩ | ⟨⟨h1, h2⟩, h3⟩
  · exact h1.elim
  · exact absurd h1 (by decide)
  · exact ⟨h3, h2⟩
  · exact absurd h1 (by decide)
theorem lx_loadedWord_3 {σ : JM} {v : Option JV} {t : JM} (h : jLQ_loadedWord jnr (jxx "java/lang/IllegalArgumentException" σ) v t) : v = some (0, -78) ∧ t = σ := by
  rcases h with ⟨r2, -, h1⟩ | ⟨⟨h1, h2⟩, h3⟩ | ⟨⟨h1, h2⟩, h3⟩ | ⟨⟨h1, h2⟩, h3⟩
  · exact h1.elim
  · exact absurd h1 (by decide)
  · exact absurd h1 (by decide)
  · exact ⟨h3, h2⟩
def jLQ_longJumps (Qr : Option JV → JM → Prop) (Qx : String → JM → Prop) : Option JV → JM → Prop := fun v t => (∃ r, v = some (0, r) ∧ Qr v t) ∨ (Qx "java/util/NoSuchElementException" t ∧ v = some (0, -75))
theorem cat_L_longJumps_0 : jcatch mL_longJumps 1 "java/util/NoSuchElementException" 5 := ⟨[], (0, 4, 5, 44), [], rfl, fun _ h => absurd h List.not_mem_nil, by decide, by decide, kg974, by decide +kernel, rfl⟩
theorem hdl_L_longJumps_0 {l : Launch} {E : JE} {dd n : Nat} {Qr : Option JV → JM → Prop}  {t : JM} {q0 : Int} (hq : Qr (some (0, -75)) t) : V l E mL_longJumps dd n Qr jno 5 [(2, 0), (9, 0)] [(3, q0)] t := by
  refine V.astore_n (L' := [_, _]) dL_longJumps_5 rfl rfl ?_
  refine V.bipush dL_longJumps_6 ⟨by decide, by decide⟩ ?_
  exact V.iret (jret_i dL_longJumps_8 rfl) hq
theorem sp_L_longJumps {σ : JM}  {n d0 : Nat} {Qr : Option JV → JM → Prop} {Qx : String → JM → Prop} (h : JSp mX6_longJumps d0 n [(2, 0)] σ Qr Qx) (hr : ∀ v t, Qr v t → ∃ r, v = some (0, r)) (hx : ∀ X t, Qx X t → X = "java/util/NoSuchElementException") : JSpH mL_longJumps (d0 + 1) n [(2, 0)] σ (jLQ_longJumps Qr Qx) jno := by
  refine JSpH.of [(2, 0), (9, 0)] (by decide +kernel) rfl rfl rfl (fun l E hA => ?_)
  refine V.aload_n dL_longJumps_0 rfl ?_
  refine V.callVC [] rfl kc_L_102 rfl dL_longJumps_1 (d' := d0) (Nat.lt_succ_self _) (Nat.le_refl _) rfl (fun _ _ => h) (fun v t' hq hv => ?_) (fun X t hx2 => by
      rcases hx X t hx2 with rfl
      · exact ⟨5, cat_L_longJumps_0, fun q => hdl_L_longJumps_0 (Or.inr ⟨hx2, rfl⟩)⟩)
  obtain ⟨r, rfl⟩ := hr v t' hq
  exact V.iret (jret_i dL_longJumps_4 rfl) (Or.inl ⟨r, rfl, hq⟩)
theorem lr_longJumps {r : Int} {τ : JM} {v : Option JV} {t : JM} (h : jLQ_longJumps (fun v t => v = some (0, r) ∧ t = τ) jno v t) : v = some (0, r) ∧ t = τ := by
  rcases h with ⟨r2, -, h⟩ | h
  · exact h
  · exact h.1.elim
theorem lx_longJumps_1 {σ : JM} {v : Option JV} {t : JM} (h : jLQ_longJumps jnr (jxx "java/util/NoSuchElementException" σ) v t) : v = some (0, -75) ∧ t = σ := by
  rcases h with ⟨r2, -, h1⟩ | ⟨⟨h1, h2⟩, h3⟩
  · exact h1.elim
  · exact ⟨h3, h2⟩
def jLQ_loop (Qr : Option JV → JM → Prop) (Qx : String → JM → Prop) : Option JV → JM → Prop := fun v t => (∃ r, v = some (0, r) ∧ Qr v t) ∨ (Qx "java/lang/IllegalArgumentException" t ∧ v = some (0, -78)) ∨ (Qx "java/lang/IllegalStateException" t ∧ v = some (0, -79))
theorem cat_L_loop_0 : jcatch mL_loop 2 "java/lang/IllegalArgumentException" 6 := ⟨[], (0, 5, 6, 20), [(0, 5, 10, 22)], rfl, fun _ h => absurd h List.not_mem_nil, by decide, by decide, kg891, by decide +kernel, rfl⟩
theorem hdl_L_loop_0 {l : Launch} {E : JE} {dd n : Nat} {Qr : Option JV → JM → Prop} {p : Int} {t : JM} {q0 : Int} (hq : Qr (some (0, -78)) t) : V l E mL_loop dd n Qr jno 6 [(2, 0), (0, p), (9, 0)] [(3, q0)] t := by
  refine V.astore_n (L' := [_, _, _]) dL_loop_6 rfl rfl ?_
  refine V.bipush dL_loop_7 ⟨by decide, by decide⟩ ?_
  exact V.iret (jret_i dL_loop_9 rfl) hq
theorem cat_L_loop_1 : jcatch mL_loop 2 "java/lang/IllegalStateException" 10 := ⟨[(0, 5, 6, 20)], (0, 5, 10, 22), [], rfl, List.forall_mem_cons.mpr ⟨⟨by decide, "java/lang/IllegalArgumentException", kg891, by decide +kernel⟩, fun _ h => absurd h List.not_mem_nil⟩, by decide, by decide, kg892, by decide +kernel, rfl⟩
theorem hdl_L_loop_1 {l : Launch} {E : JE} {dd n : Nat} {Qr : Option JV → JM → Prop} {p : Int} {t : JM} {q0 : Int} (hq : Qr (some (0, -79)) t) : V l E mL_loop dd n Qr jno 10 [(2, 0), (0, p), (9, 0)] [(3, q0)] t := by
  refine V.astore_n (L' := [_, _, _]) dL_loop_10 rfl rfl ?_
  refine V.bipush dL_loop_11 ⟨by decide, by decide⟩ ?_
  exact V.iret (jret_i dL_loop_13 rfl) hq
theorem sp_L_loop {σ : JM} {p : Int} {n d0 : Nat} {Qr : Option JV → JM → Prop} {Qx : String → JM → Prop} (h : JSp mX6_loop d0 n [(2, 0), (0, p)] σ Qr Qx) (hr : ∀ v t, Qr v t → ∃ r, v = some (0, r)) (hx : ∀ X t, Qx X t → X = "java/lang/IllegalArgumentException" ∨ X = "java/lang/IllegalStateException") : JSpH mL_loop (d0 + 1) n [(2, 0), (0, p)] σ (jLQ_loop Qr Qx) jno := by
  refine JSpH.of [(2, 0), (0, p), (9, 0)] (by decide +kernel) rfl rfl rfl (fun l E hA => ?_)
  refine V.aload_n dL_loop_0 rfl ?_
  refine V.iload_n dL_loop_1 rfl ?_
  refine V.callVC [_] rfl kc_L_50 rfl dL_loop_2 (d' := d0) (Nat.lt_succ_self _) (Nat.le_refl _) rfl (fun _ _ => h) (fun v t' hq hv => ?_) (fun X t hx2 => by
      rcases hx X t hx2 with rfl | rfl
      · exact ⟨6, cat_L_loop_0, fun q => hdl_L_loop_0 (Or.inr (Or.inl ⟨hx2, rfl⟩))⟩
      · exact ⟨10, cat_L_loop_1, fun q => hdl_L_loop_1 (Or.inr (Or.inr ⟨hx2, rfl⟩))⟩)
  obtain ⟨r, rfl⟩ := hr v t' hq
  exact V.iret (jret_i dL_loop_5 rfl) (Or.inl ⟨r, rfl, hq⟩)
theorem lr_loop {r : Int} {τ : JM} {v : Option JV} {t : JM} (h : jLQ_loop (fun v t => v = some (0, r) ∧ t = τ) jno v t) : v = some (0, r) ∧ t = τ := by
  rcases h with ⟨r2, -, h⟩ | h | h
  · exact h
  · exact h.1.elim
  · exact h.1.elim
theorem lx_loop_1 {σ : JM} {v : Option JV} {t : JM} (h : jLQ_loop jnr (jxx "java/lang/IllegalArgumentException" σ) v t) : v = some (0, -78) ∧ t = σ := by
  rcases h with ⟨r2, -, h1⟩ | ⟨⟨h1, h2⟩, h3⟩ | ⟨⟨h1, h2⟩, h3⟩
  · exact h1.elim
  · exact ⟨h3, h2⟩
  · exact absurd h1 (by decide)
theorem lx_loop_2 {σ : JM} {v : Option JV} {t : JM} (h : jLQ_loop jnr (jxx "java/lang/IllegalStateException" σ) v t) : v = some (0, -79) ∧ t = σ := by
  rcases h with ⟨r2, -, h1⟩ | ⟨⟨h1, h2⟩, h3⟩ | ⟨⟨h1, h2⟩, h3⟩
  · exact h1.elim
  · exact absurd h1 (by decide)
  · exact ⟨h3, h2⟩
def jLQ_macro (Qr : Option JV → JM → Prop) (Qx : String → JM → Prop) : Option JV → JM → Prop := fun v t => (∃ r, v = some (0, r) ∧ Qr v t) ∨ (Qx "java/lang/UnsupportedOperationException" t ∧ v = some (0, -76)) ∨ (Qx "java/lang/IllegalStateException" t ∧ v = some (0, -79))
theorem cat_L_macro_0 : jcatch mL_macro 1 "java/lang/UnsupportedOperationException" 5 := ⟨[], (0, 4, 5, 59), [(0, 4, 9, 22)], rfl, fun _ h => absurd h List.not_mem_nil, by decide, by decide, kg1023, by decide +kernel, rfl⟩
theorem hdl_L_macro_0 {l : Launch} {E : JE} {dd n : Nat} {Qr : Option JV → JM → Prop}  {t : JM} {q0 : Int} (hq : Qr (some (0, -76)) t) : V l E mL_macro dd n Qr jno 5 [(2, 0), (9, 0)] [(3, q0)] t := by
  refine V.astore_n (L' := [_, _]) dL_macro_5 rfl rfl ?_
  refine V.bipush dL_macro_6 ⟨by decide, by decide⟩ ?_
  exact V.iret (jret_i dL_macro_8 rfl) hq
theorem cat_L_macro_1 : jcatch mL_macro 1 "java/lang/IllegalStateException" 9 := ⟨[(0, 4, 5, 59)], (0, 4, 9, 22), [], rfl, List.forall_mem_cons.mpr ⟨⟨by decide, "java/lang/UnsupportedOperationException", kg1023, by decide +kernel⟩, fun _ h => absurd h List.not_mem_nil⟩, by decide, by decide, kg892, by decide +kernel, rfl⟩
theorem hdl_L_macro_1 {l : Launch} {E : JE} {dd n : Nat} {Qr : Option JV → JM → Prop}  {t : JM} {q0 : Int} (hq : Qr (some (0, -79)) t) : V l E mL_macro dd n Qr jno 9 [(2, 0), (9, 0)] [(3, q0)] t := by
  refine V.astore_n (L' := [_, _]) dL_macro_9 rfl rfl ?_
  refine V.bipush dL_macro_10 ⟨by decide, by decide⟩ ?_
  exact V.iret (jret_i dL_macro_12 rfl) hq
theorem sp_L_macro {σ : JM}  {n d0 : Nat} {Qr : Option JV → JM → Prop} {Qx : String → JM → Prop} (h : JSp mX6_macro d0 n [(2, 0)] σ Qr Qx) (hr : ∀ v t, Qr v t → ∃ r, v = some (0, r)) (hx : ∀ X t, Qx X t → X = "java/lang/UnsupportedOperationException" ∨ X = "java/lang/IllegalStateException") : JSpH mL_macro (d0 + 1) n [(2, 0)] σ (jLQ_macro Qr Qx) jno := by
  refine JSpH.of [(2, 0), (9, 0)] (by decide +kernel) rfl rfl rfl (fun l E hA => ?_)
  refine V.aload_n dL_macro_0 rfl ?_
  refine V.callVC [] rfl kc_L_61 rfl dL_macro_1 (d' := d0) (Nat.lt_succ_self _) (Nat.le_refl _) rfl (fun _ _ => h) (fun v t' hq hv => ?_) (fun X t hx2 => by
      rcases hx X t hx2 with rfl | rfl
      · exact ⟨5, cat_L_macro_0, fun q => hdl_L_macro_0 (Or.inr (Or.inl ⟨hx2, rfl⟩))⟩
      · exact ⟨9, cat_L_macro_1, fun q => hdl_L_macro_1 (Or.inr (Or.inr ⟨hx2, rfl⟩))⟩)
  obtain ⟨r, rfl⟩ := hr v t' hq
  exact V.iret (jret_i dL_macro_4 rfl) (Or.inl ⟨r, rfl, hq⟩)
theorem lr_macro {r : Int} {τ : JM} {v : Option JV} {t : JM} (h : jLQ_macro (fun v t => v = some (0, r) ∧ t = τ) jno v t) : v = some (0, r) ∧ t = τ := by
  rcases h with ⟨r2, -, h⟩ | h | h
  · exact h
  · exact h.1.elim
  · exact h.1.elim
theorem lx_macro_1 {σ : JM} {v : Option JV} {t : JM} (h : jLQ_macro jnr (jxx "java/lang/UnsupportedOperationException" σ) v t) : v = some (0, -76) ∧ t = σ := by
  rcases h with ⟨r2, -, h1⟩ | ⟨⟨h1, h2⟩, h3⟩ | ⟨⟨h1, h2⟩, h3⟩
  · exact h1.elim
  · exact ⟨h3, h2⟩
  · exact absurd h1 (by decide)
theorem lx_macro_2 {σ : JM} {v : Option JV} {t : JM} (h : jLQ_macro jnr (jxx "java/lang/IllegalStateException" σ) v t) : v = some (0, -79) ∧ t = σ := by
  rcases h with ⟨r2, -, h1⟩ | ⟨⟨h1, h2⟩, h3⟩ | ⟨⟨h1, h2⟩, h3⟩
  · exact h1.elim
  · exact absurd h1 (by decide)
  · exact ⟨h3, h2⟩
def jLQ_operation (Qr : Option JV → JM → Prop) (Qx : String → JM → Prop) : Option JV → JM → Prop := fun v t => (∃ r, v = some (0, r) ∧ Qr v t) ∨ (Qx "java/lang/IllegalArgumentException" t ∧ v = some (0, -78)) ∨ (Qx "java/lang/IllegalStateException" t ∧ v = some (0, -79))
theorem cat_L_operation_0 : jcatch mL_operation 3 "java/lang/IllegalArgumentException" 7 := ⟨[], (0, 6, 7, 20), [(0, 6, 11, 22)], rfl, fun _ h => absurd h List.not_mem_nil, by decide, by decide, kg891, by decide +kernel, rfl⟩
theorem hdl_L_operation_0 {l : Launch} {E : JE} {dd n : Nat} {Qr : Option JV → JM → Prop} {p q : Int} {t : JM} {q0 : Int} (hq : Qr (some (0, -78)) t) : V l E mL_operation dd n Qr jno 7 [(2, 0), (0, p), (0, q), (9, 0)] [(3, q0)] t := by
  refine V.astore_n (L' := [_, _, _, _]) dL_operation_7 rfl rfl ?_
  refine V.bipush dL_operation_8 ⟨by decide, by decide⟩ ?_
  exact V.iret (jret_i dL_operation_10 rfl) hq
theorem cat_L_operation_1 : jcatch mL_operation 3 "java/lang/IllegalStateException" 11 := ⟨[(0, 6, 7, 20)], (0, 6, 11, 22), [], rfl, List.forall_mem_cons.mpr ⟨⟨by decide, "java/lang/IllegalArgumentException", kg891, by decide +kernel⟩, fun _ h => absurd h List.not_mem_nil⟩, by decide, by decide, kg892, by decide +kernel, rfl⟩
theorem hdl_L_operation_1 {l : Launch} {E : JE} {dd n : Nat} {Qr : Option JV → JM → Prop} {p q : Int} {t : JM} {q0 : Int} (hq : Qr (some (0, -79)) t) : V l E mL_operation dd n Qr jno 11 [(2, 0), (0, p), (0, q), (9, 0)] [(3, q0)] t := by
  refine V.astore_n (L' := [_, _, _, _]) dL_operation_11 rfl rfl ?_
  refine V.bipush dL_operation_12 ⟨by decide, by decide⟩ ?_
  exact V.iret (jret_i dL_operation_14 rfl) hq
theorem sp_L_operation {σ : JM} {p q : Int} {n d0 : Nat} {Qr : Option JV → JM → Prop} {Qx : String → JM → Prop} (h : JSp mX6_operation d0 n [(2, 0), (0, p), (0, q)] σ Qr Qx) (hr : ∀ v t, Qr v t → ∃ r, v = some (0, r)) (hx : ∀ X t, Qx X t → X = "java/lang/IllegalArgumentException" ∨ X = "java/lang/IllegalStateException") : JSpH mL_operation (d0 + 1) n [(2, 0), (0, p), (0, q)] σ (jLQ_operation Qr Qx) jno := by
  refine JSpH.of [(2, 0), (0, p), (0, q), (9, 0)] (by decide +kernel) rfl rfl rfl (fun l E hA => ?_)
  refine V.aload_n dL_operation_0 rfl ?_
  refine V.iload_n dL_operation_1 rfl ?_
  refine V.iload_n dL_operation_2 rfl ?_
  refine V.callVC [_, _] rfl kc_L_27 rfl dL_operation_3 (d' := d0) (Nat.lt_succ_self _) (Nat.le_refl _) rfl (fun _ _ => h) (fun v t' hq hv => ?_) (fun X t hx2 => by
      rcases hx X t hx2 with rfl | rfl
      · exact ⟨7, cat_L_operation_0, fun q => hdl_L_operation_0 (Or.inr (Or.inl ⟨hx2, rfl⟩))⟩
      · exact ⟨11, cat_L_operation_1, fun q => hdl_L_operation_1 (Or.inr (Or.inr ⟨hx2, rfl⟩))⟩)
  obtain ⟨r, rfl⟩ := hr v t' hq
  exact V.iret (jret_i dL_operation_6 rfl) (Or.inl ⟨r, rfl, hq⟩)
theorem lr_operation {r : Int} {τ : JM} {v : Option JV} {t : JM} (h : jLQ_operation (fun v t => v = some (0, r) ∧ t = τ) jno v t) : v = some (0, r) ∧ t = τ := by
  rcases h with ⟨r2, -, h⟩ | h | h
  · exact h
  · exact h.1.elim
  · exact h.1.elim
theorem lx_operation_1 {σ : JM} {v : Option JV} {t : JM} (h : jLQ_operation jnr (jxx "java/lang/IllegalArgumentException" σ) v t) : v = some (0, -78) ∧ t = σ := by
  rcases h with ⟨r2, -, h1⟩ | ⟨⟨h1, h2⟩, h3⟩ | ⟨⟨h1, h2⟩, h3⟩
  · exact h1.elim
  · exact ⟨h3, h2⟩
  · exact absurd h1 (by decide)
theorem lx_operation_2 {σ : JM} {v : Option JV} {t : JM} (h : jLQ_operation jnr (jxx "java/lang/IllegalStateException" σ) v t) : v = some (0, -79) ∧ t = σ := by
  rcases h with ⟨r2, -, h1⟩ | ⟨⟨h1, h2⟩, h3⟩ | ⟨⟨h1, h2⟩, h3⟩
  · exact h1.elim
  · exact absurd h1 (by decide)
  · exact ⟨h3, h2⟩
def jLQ_passes (Qr : Option JV → JM → Prop) (Qx : String → JM → Prop) : Option JV → JM → Prop := fun v t => (∃ r, v = some (0, r) ∧ Qr v t) ∨ (Qx "java/util/NoSuchElementException" t ∧ v = some (0, -75))
theorem cat_L_passes_0 : jcatch mL_passes 1 "java/util/NoSuchElementException" 5 := ⟨[], (0, 4, 5, 44), [], rfl, fun _ h => absurd h List.not_mem_nil, by decide, by decide, kg974, by decide +kernel, rfl⟩
theorem hdl_L_passes_0 {l : Launch} {E : JE} {dd n : Nat} {Qr : Option JV → JM → Prop}  {t : JM} {q0 : Int} (hq : Qr (some (0, -75)) t) : V l E mL_passes dd n Qr jno 5 [(2, 0), (9, 0)] [(3, q0)] t := by
  refine V.astore_n (L' := [_, _]) dL_passes_5 rfl rfl ?_
  refine V.bipush dL_passes_6 ⟨by decide, by decide⟩ ?_
  exact V.iret (jret_i dL_passes_8 rfl) hq
theorem sp_L_passes {σ : JM}  {n d0 : Nat} {Qr : Option JV → JM → Prop} {Qx : String → JM → Prop} (h : JSp mX6_passes d0 n [(2, 0)] σ Qr Qx) (hr : ∀ v t, Qr v t → ∃ r, v = some (0, r)) (hx : ∀ X t, Qx X t → X = "java/util/NoSuchElementException") : JSpH mL_passes (d0 + 1) n [(2, 0)] σ (jLQ_passes Qr Qx) jno := by
  refine JSpH.of [(2, 0), (9, 0)] (by decide +kernel) rfl rfl rfl (fun l E hA => ?_)
  refine V.aload_n dL_passes_0 rfl ?_
  refine V.callVC [] rfl kc_L_99 rfl dL_passes_1 (d' := d0) (Nat.lt_succ_self _) (Nat.le_refl _) rfl (fun _ _ => h) (fun v t' hq hv => ?_) (fun X t hx2 => by
      rcases hx X t hx2 with rfl
      · exact ⟨5, cat_L_passes_0, fun q => hdl_L_passes_0 (Or.inr ⟨hx2, rfl⟩)⟩)
  obtain ⟨r, rfl⟩ := hr v t' hq
  exact V.iret (jret_i dL_passes_4 rfl) (Or.inl ⟨r, rfl, hq⟩)
theorem lr_passes {r : Int} {τ : JM} {v : Option JV} {t : JM} (h : jLQ_passes (fun v t => v = some (0, r) ∧ t = τ) jno v t) : v = some (0, r) ∧ t = τ := by
  rcases h with ⟨r2, -, h⟩ | h
  · exact h
  · exact h.1.elim
theorem lx_passes_1 {σ : JM} {v : Option JV} {t : JM} (h : jLQ_passes jnr (jxx "java/util/NoSuchElementException" σ) v t) : v = some (0, -75) ∧ t = σ := by
  rcases h with ⟨r2, -, h1⟩ | ⟨⟨h1, h2⟩, h3⟩
  · exact h1.elim
  · exact ⟨h3, h2⟩
def jLQ_relocations (Qr : Option JV → JM → Prop) (Qx : String → JM → Prop) : Option JV → JM → Prop := fun v t => (∃ r, v = some (0, r) ∧ Qr v t) ∨ (Qx "java/util/NoSuchElementException" t ∧ v = some (0, -75))
theorem cat_L_relocations_0 : jcatch mL_relocations 1 "java/util/NoSuchElementException" 5 := ⟨[], (0, 4, 5, 44), [], rfl, fun _ h => absurd h List.not_mem_nil, by decide, by decide, kg974, by decide +kernel, rfl⟩
theorem hdl_L_relocations_0 {l : Launch} {E : JE} {dd n : Nat} {Qr : Option JV → JM → Prop}  {t : JM} {q0 : Int} (hq : Qr (some (0, -75)) t) : V l E mL_relocations dd n Qr jno 5 [(2, 0), (9, 0)] [(3, q0)] t := by
  refine V.astore_n (L' := [_, _]) dL_relocations_5 rfl rfl ?_
  refine V.bipush dL_relocations_6 ⟨by decide, by decide⟩ ?_
  exact V.iret (jret_i dL_relocations_8 rfl) hq
theorem sp_L_relocations {σ : JM}  {n d0 : Nat} {Qr : Option JV → JM → Prop} {Qx : String → JM → Prop} (h : JSp mX6_relocations d0 n [(2, 0)] σ Qr Qx) (hr : ∀ v t, Qr v t → ∃ r, v = some (0, r)) (hx : ∀ X t, Qx X t → X = "java/util/NoSuchElementException") : JSpH mL_relocations (d0 + 1) n [(2, 0)] σ (jLQ_relocations Qr Qx) jno := by
  refine JSpH.of [(2, 0), (9, 0)] (by decide +kernel) rfl rfl rfl (fun l E hA => ?_)
  refine V.aload_n dL_relocations_0 rfl ?_
  refine V.callVC [] rfl kc_L_90 rfl dL_relocations_1 (d' := d0) (Nat.lt_succ_self _) (Nat.le_refl _) rfl (fun _ _ => h) (fun v t' hq hv => ?_) (fun X t hx2 => by
      rcases hx X t hx2 with rfl
      · exact ⟨5, cat_L_relocations_0, fun q => hdl_L_relocations_0 (Or.inr ⟨hx2, rfl⟩)⟩)
  obtain ⟨r, rfl⟩ := hr v t' hq
  exact V.iret (jret_i dL_relocations_4 rfl) (Or.inl ⟨r, rfl, hq⟩)
theorem lr_relocations {r : Int} {τ : JM} {v : Option JV} {t : JM} (h : jLQ_relocations (fun v t => v = some (0, r) ∧ t = τ) jno v t) : v = some (0, r) ∧ t = τ := by
  rcases h with ⟨r2, -, h⟩ | h
  · exact h
  · exact h.1.elim
theorem lx_relocations_1 {σ : JM} {v : Option JV} {t : JM} (h : jLQ_relocations jnr (jxx "java/util/NoSuchElementException" σ) v t) : v = some (0, -75) ∧ t = σ := by
  rcases h with ⟨r2, -, h1⟩ | ⟨⟨h1, h2⟩, h3⟩
  · exact h1.elim
  · exact ⟨h3, h2⟩
def jLQ_shortShare (Qr : Option JV → JM → Prop) (Qx : String → JM → Prop) : Option JV → JM → Prop := fun v t => (∃ r, v = some (4, r) ∧ Qr v t) ∨ (Qx "java/util/NoSuchElementException" t ∧ v = some (4, 3264610304)) ∨ (Qx "java/lang/ArithmeticException" t ∧ v = some (4, 3264479232))
theorem cat_L_shortShare_0 : jcatch mL_shortShare 1 "java/util/NoSuchElementException" 5 := ⟨[], (0, 4, 5, 44), [(0, 4, 9, 132)], rfl, fun _ h => absurd h List.not_mem_nil, by decide, by decide, kg974, by decide +kernel, rfl⟩
theorem hdl_L_shortShare_0 {l : Launch} {E : JE} {dd n : Nat} {Qr : Option JV → JM → Prop}  {t : JM} {q0 : Int} (hq : Qr (some (4, 3264610304)) t) : V l E mL_shortShare dd n Qr jno 5 [(2, 0), (9, 0)] [(3, q0)] t := by
  refine V.astore_n (L' := [_, _]) dL_shortShare_5 rfl rfl ?_
  refine V.ldcF (x := 3264610304) dL_shortShare_6 ⟨by decide, by decide⟩ (by have h := kg1184; rwa [show (3264610304 : UInt32) = jF 3264610304 by decide +kernel] at h) ?_
  exact V.fret ⟨dL_shortShare_8, rfl⟩ hq
theorem cat_L_shortShare_1 : jcatch mL_shortShare 1 "java/lang/ArithmeticException" 9 := ⟨[(0, 4, 5, 44)], (0, 4, 9, 132), [], rfl, List.forall_mem_cons.mpr ⟨⟨by decide, "java/util/NoSuchElementException", kg974, by decide +kernel⟩, fun _ h => absurd h List.not_mem_nil⟩, by decide, by decide, kg1159, by decide +kernel, rfl⟩
theorem hdl_L_shortShare_1 {l : Launch} {E : JE} {dd n : Nat} {Qr : Option JV → JM → Prop}  {t : JM} {q0 : Int} (hq : Qr (some (4, 3264479232)) t) : V l E mL_shortShare dd n Qr jno 9 [(2, 0), (9, 0)] [(3, q0)] t := by
  refine V.astore_n (L' := [_, _]) dL_shortShare_9 rfl rfl ?_
  refine V.ldcF (x := 3264479232) dL_shortShare_10 ⟨by decide, by decide⟩ (by have h := kg1185; rwa [show (3264479232 : UInt32) = jF 3264479232 by decide +kernel] at h) ?_
  exact V.fret ⟨dL_shortShare_12, rfl⟩ hq
theorem sp_L_shortShare {σ : JM}  {n d0 : Nat} {Qr : Option JV → JM → Prop} {Qx : String → JM → Prop} (h : JSp mX6_shortShare d0 n [(2, 0)] σ Qr Qx) (hr : ∀ v t, Qr v t → ∃ r, v = some (4, r)) (hx : ∀ X t, Qx X t → X = "java/util/NoSuchElementException" ∨ X = "java/lang/ArithmeticException") : JSpH mL_shortShare (d0 + 1) n [(2, 0)] σ (jLQ_shortShare Qr Qx) jno := by
  refine JSpH.of [(2, 0), (9, 0)] (by decide +kernel) rfl rfl rfl (fun l E hA => ?_)
  refine V.aload_n dL_shortShare_0 rfl ?_
  refine V.callVC [] rfl kc_L_127 rfl dL_shortShare_1 (d' := d0) (Nat.lt_succ_self _) (Nat.le_refl _) rfl (fun _ _ => h) (fun v t' hq hv => ?_) (fun X t hx2 => by
      rcases hx X t hx2 with rfl | rfl
      · exact ⟨5, cat_L_shortShare_0, fun q => hdl_L_shortShare_0 (Or.inr (Or.inl ⟨hx2, rfl⟩))⟩
      · exact ⟨9, cat_L_shortShare_1, fun q => hdl_L_shortShare_1 (Or.inr (Or.inr ⟨hx2, rfl⟩))⟩)
  obtain ⟨r, rfl⟩ := hr v t' hq
  exact V.fret ⟨dL_shortShare_4, rfl⟩ (Or.inl ⟨r, rfl, hq⟩)
theorem lr_shortShare {r : Int} {τ : JM} {v : Option JV} {t : JM} (h : jLQ_shortShare (fun v t => v = some (4, r) ∧ t = τ) jno v t) : v = some (4, r) ∧ t = τ := by
  rcases h with ⟨r2, -, h⟩ | h | h
  · exact h
  · exact h.1.elim
  · exact h.1.elim
theorem lx_shortShare_1 {σ : JM} {v : Option JV} {t : JM} (h : jLQ_shortShare jnr (jxx "java/util/NoSuchElementException" σ) v t) : v = some (4, 3264610304) ∧ t = σ := by
  rcases h with ⟨r2, -, h1⟩ | ⟨⟨h1, h2⟩, h3⟩ | ⟨⟨h1, h2⟩, h3⟩
  · exact h1.elim
  · exact ⟨h3, h2⟩
  · exact absurd h1 (by decide)
theorem lx_shortShare_2 {σ : JM} {v : Option JV} {t : JM} (h : jLQ_shortShare jnr (jxx "java/lang/ArithmeticException" σ) v t) : v = some (4, 3264479232) ∧ t = σ := by
  rcases h with ⟨r2, -, h1⟩ | ⟨⟨h1, h2⟩, h3⟩ | ⟨⟨h1, h2⟩, h3⟩
  · exact h1.elim
  · exact absurd h1 (by decide)
  · exact ⟨h3, h2⟩
def jLQ_targetOf (Qr : Option JV → JM → Prop) (Qx : String → JM → Prop) : Option JV → JM → Prop := fun v t => (∃ r, v = some (0, r) ∧ Qr v t) ∨ (Qx "java/util/NoSuchElementException" t ∧ v = some (0, -75)) ∨ (Qx "java/lang/IndexOutOfBoundsException" t ∧ v = some (0, -77)) ∨ (Qx "java/lang/UnsupportedOperationException" t ∧ v = some (0, -76))
theorem cat_L_targetOf_0 : jcatch mL_targetOf 2 "java/util/NoSuchElementException" 6 := ⟨[], (0, 5, 6, 44), [(0, 5, 10, 88), (0, 5, 14, 59)], rfl, fun _ h => absurd h List.not_mem_nil, by decide, by decide, kg974, by decide +kernel, rfl⟩
theorem hdl_L_targetOf_0 {l : Launch} {E : JE} {dd n : Nat} {Qr : Option JV → JM → Prop} {p : Int} {t : JM} {q0 : Int} (hq : Qr (some (0, -75)) t) : V l E mL_targetOf dd n Qr jno 6 [(2, 0), (0, p), (9, 0)] [(3, q0)] t := by
  refine V.astore_n (L' := [_, _, _]) dL_targetOf_6 rfl rfl ?_
  refine V.bipush dL_targetOf_7 ⟨by decide, by decide⟩ ?_
  exact V.iret (jret_i dL_targetOf_9 rfl) hq
theorem cat_L_targetOf_1 : jcatch mL_targetOf 2 "java/lang/IndexOutOfBoundsException" 10 := ⟨[(0, 5, 6, 44)], (0, 5, 10, 88), [(0, 5, 14, 59)], rfl, List.forall_mem_cons.mpr ⟨⟨by decide, "java/util/NoSuchElementException", kg974, by decide +kernel⟩, fun _ h => absurd h List.not_mem_nil⟩, by decide, by decide, kg1124, by decide +kernel, rfl⟩
theorem hdl_L_targetOf_1 {l : Launch} {E : JE} {dd n : Nat} {Qr : Option JV → JM → Prop} {p : Int} {t : JM} {q0 : Int} (hq : Qr (some (0, -77)) t) : V l E mL_targetOf dd n Qr jno 10 [(2, 0), (0, p), (9, 0)] [(3, q0)] t := by
  refine V.astore_n (L' := [_, _, _]) dL_targetOf_10 rfl rfl ?_
  refine V.bipush dL_targetOf_11 ⟨by decide, by decide⟩ ?_
  exact V.iret (jret_i dL_targetOf_13 rfl) hq
theorem cat_L_targetOf_2 : jcatch mL_targetOf 2 "java/lang/UnsupportedOperationException" 14 := ⟨[(0, 5, 6, 44), (0, 5, 10, 88)], (0, 5, 14, 59), [], rfl, List.forall_mem_cons.mpr ⟨⟨by decide, "java/util/NoSuchElementException", kg974, by decide +kernel⟩, List.forall_mem_cons.mpr ⟨⟨by decide, "java/lang/IndexOutOfBoundsException", kg1124, by decide +kernel⟩, fun _ h => absurd h List.not_mem_nil⟩⟩, by decide, by decide, kg1023, by decide +kernel, rfl⟩
theorem hdl_L_targetOf_2 {l : Launch} {E : JE} {dd n : Nat} {Qr : Option JV → JM → Prop} {p : Int} {t : JM} {q0 : Int} (hq : Qr (some (0, -76)) t) : V l E mL_targetOf dd n Qr jno 14 [(2, 0), (0, p), (9, 0)] [(3, q0)] t := by
  refine V.astore_n (L' := [_, _, _]) dL_targetOf_14 rfl rfl ?_
  refine V.bipush dL_targetOf_15 ⟨by decide, by decide⟩ ?_
  exact V.iret (jret_i dL_targetOf_17 rfl) hq
theorem sp_L_targetOf {σ : JM} {p : Int} {n d0 : Nat} {Qr : Option JV → JM → Prop} {Qx : String → JM → Prop} (h : JSp mX6_targetOf d0 n [(2, 0), (0, p)] σ Qr Qx) (hr : ∀ v t, Qr v t → ∃ r, v = some (0, r)) (hx : ∀ X t, Qx X t → X = "java/util/NoSuchElementException" ∨ X = "java/lang/IndexOutOfBoundsException" ∨ X = "java/lang/UnsupportedOperationException") : JSpH mL_targetOf (d0 + 1) n [(2, 0), (0, p)] σ (jLQ_targetOf Qr Qx) jno := by
  refine JSpH.of [(2, 0), (0, p), (9, 0)] (by decide +kernel) rfl rfl rfl (fun l E hA => ?_)
  refine V.aload_n dL_targetOf_0 rfl ?_
  refine V.iload_n dL_targetOf_1 rfl ?_
  refine V.callVC [_] rfl kc_L_124 rfl dL_targetOf_2 (d' := d0) (Nat.lt_succ_self _) (Nat.le_refl _) rfl (fun _ _ => h) (fun v t' hq hv => ?_) (fun X t hx2 => by
      rcases hx X t hx2 with rfl | rfl | rfl
      · exact ⟨6, cat_L_targetOf_0, fun q => hdl_L_targetOf_0 (Or.inr (Or.inl ⟨hx2, rfl⟩))⟩
      · exact ⟨10, cat_L_targetOf_1, fun q => hdl_L_targetOf_1 (Or.inr (Or.inr (Or.inl ⟨hx2, rfl⟩)))⟩
      · exact ⟨14, cat_L_targetOf_2, fun q => hdl_L_targetOf_2 (Or.inr (Or.inr (Or.inr ⟨hx2, rfl⟩)))⟩)
  obtain ⟨r, rfl⟩ := hr v t' hq
  exact V.iret (jret_i dL_targetOf_5 rfl) (Or.inl ⟨r, rfl, hq⟩)
theorem lr_targetOf {r : Int} {τ : JM} {v : Option JV} {t : JM} (h : jLQ_targetOf (fun v t => v = some (0, r) ∧ t = τ) jno v t) : v = some (0, r) ∧ t = τ := by
  rcases h with ⟨r2, -, h⟩ | h | h | h
  · exact h
  · exact h.1.elim
  · exact h.1.elim
  · exact h.1.elim
theorem lx_targetOf_1 {σ : JM} {v : Option JV} {t : JM} (h : jLQ_targetOf jnr (jxx "java/util/NoSuchElementException" σ) v t) : v = some (0, -75) ∧ t = σ := by
  rcases h with ⟨r2, -, h1⟩ | ⟨⟨h1, h2⟩, h3⟩ | ⟨⟨h1, h2⟩, h3⟩ | ⟨⟨h1, h2⟩, h3⟩
  · exact h1.elim
  · exact ⟨h3, h2⟩
  · exact absurd h1 (by decide)
  · exact absurd h1 (by decide)
theorem lx_targetOf_2 {σ : JM} {v : Option JV} {t : JM} (h : jLQ_targetOf jnr (jxx "java/lang/IndexOutOfBoundsException" σ) v t) : v = some (0, -77) ∧ t = σ := by
  rcases h with ⟨r2, -, h1⟩ | ⟨⟨h1, h2⟩, h3⟩ | ⟨⟨h1, h2⟩, h3⟩ | ⟨⟨h1, h2⟩, h3⟩
  · exact h1.elim
  · exact absurd h1 (by decide)
  · exact ⟨h3, h2⟩
  · exact absurd h1 (by decide)
theorem lx_targetOf_3 {σ : JM} {v : Option JV} {t : JM} (h : jLQ_targetOf jnr (jxx "java/lang/UnsupportedOperationException" σ) v t) : v = some (0, -76) ∧ t = σ := by
  rcases h with ⟨r2, -, h1⟩ | ⟨⟨h1, h2⟩, h3⟩ | ⟨⟨h1, h2⟩, h3⟩ | ⟨⟨h1, h2⟩, h3⟩
  · exact h1.elim
  · exact absurd h1 (by decide)
  · exact absurd h1 (by decide)
  · exact ⟨h3, h2⟩
def jLQ_when (Qr : Option JV → JM → Prop) (Qx : String → JM → Prop) : Option JV → JM → Prop := fun v t => (∃ r, v = some (0, r) ∧ Qr v t) ∨ (Qx "java/lang/IllegalArgumentException" t ∧ v = some (0, -78)) ∨ (Qx "java/lang/IllegalStateException" t ∧ v = some (0, -79))
theorem cat_L_when_0 : jcatch mL_when 3 "java/lang/IllegalArgumentException" 7 := ⟨[], (0, 6, 7, 20), [(0, 6, 11, 22)], rfl, fun _ h => absurd h List.not_mem_nil, by decide, by decide, kg891, by decide +kernel, rfl⟩
theorem hdl_L_when_0 {l : Launch} {E : JE} {dd n : Nat} {Qr : Option JV → JM → Prop} {p q : Int} {t : JM} {q0 : Int} (hq : Qr (some (0, -78)) t) : V l E mL_when dd n Qr jno 7 [(2, 0), (0, p), (0, q), (9, 0)] [(3, q0)] t := by
  refine V.astore_n (L' := [_, _, _, _]) dL_when_7 rfl rfl ?_
  refine V.bipush dL_when_8 ⟨by decide, by decide⟩ ?_
  exact V.iret (jret_i dL_when_10 rfl) hq
theorem cat_L_when_1 : jcatch mL_when 3 "java/lang/IllegalStateException" 11 := ⟨[(0, 6, 7, 20)], (0, 6, 11, 22), [], rfl, List.forall_mem_cons.mpr ⟨⟨by decide, "java/lang/IllegalArgumentException", kg891, by decide +kernel⟩, fun _ h => absurd h List.not_mem_nil⟩, by decide, by decide, kg892, by decide +kernel, rfl⟩
theorem hdl_L_when_1 {l : Launch} {E : JE} {dd n : Nat} {Qr : Option JV → JM → Prop} {p q : Int} {t : JM} {q0 : Int} (hq : Qr (some (0, -79)) t) : V l E mL_when dd n Qr jno 11 [(2, 0), (0, p), (0, q), (9, 0)] [(3, q0)] t := by
  refine V.astore_n (L' := [_, _, _, _]) dL_when_11 rfl rfl ?_
  refine V.bipush dL_when_12 ⟨by decide, by decide⟩ ?_
  exact V.iret (jret_i dL_when_14 rfl) hq
theorem sp_L_when {σ : JM} {p q : Int} {n d0 : Nat} {Qr : Option JV → JM → Prop} {Qx : String → JM → Prop} (h : JSp mX6_when d0 n [(2, 0), (0, p), (0, q)] σ Qr Qx) (hr : ∀ v t, Qr v t → ∃ r, v = some (0, r)) (hx : ∀ X t, Qx X t → X = "java/lang/IllegalArgumentException" ∨ X = "java/lang/IllegalStateException") : JSpH mL_when (d0 + 1) n [(2, 0), (0, p), (0, q)] σ (jLQ_when Qr Qx) jno := by
  refine JSpH.of [(2, 0), (0, p), (0, q), (9, 0)] (by decide +kernel) rfl rfl rfl (fun l E hA => ?_)
  refine V.aload_n dL_when_0 rfl ?_
  refine V.iload_n dL_when_1 rfl ?_
  refine V.iload_n dL_when_2 rfl ?_
  refine V.callVC [_, _] rfl kc_L_53 rfl dL_when_3 (d' := d0) (Nat.lt_succ_self _) (Nat.le_refl _) rfl (fun _ _ => h) (fun v t' hq hv => ?_) (fun X t hx2 => by
      rcases hx X t hx2 with rfl | rfl
      · exact ⟨7, cat_L_when_0, fun q => hdl_L_when_0 (Or.inr (Or.inl ⟨hx2, rfl⟩))⟩
      · exact ⟨11, cat_L_when_1, fun q => hdl_L_when_1 (Or.inr (Or.inr ⟨hx2, rfl⟩))⟩)
  obtain ⟨r, rfl⟩ := hr v t' hq
  exact V.iret (jret_i dL_when_6 rfl) (Or.inl ⟨r, rfl, hq⟩)
theorem lr_when {r : Int} {τ : JM} {v : Option JV} {t : JM} (h : jLQ_when (fun v t => v = some (0, r) ∧ t = τ) jno v t) : v = some (0, r) ∧ t = τ := by
  rcases h with ⟨r2, -, h⟩ | h | h
  · exact h
  · exact h.1.elim
  · exact h.1.elim
theorem lx_when_1 {σ : JM} {v : Option JV} {t : JM} (h : jLQ_when jnr (jxx "java/lang/IllegalArgumentException" σ) v t) : v = some (0, -78) ∧ t = σ := by
  rcases h with ⟨r2, -, h1⟩ | ⟨⟨h1, h2⟩, h3⟩ | ⟨⟨h1, h2⟩, h3⟩
  · exact h1.elim
  · exact ⟨h3, h2⟩
  · exact absurd h1 (by decide)
theorem lx_when_2 {σ : JM} {v : Option JV} {t : JM} (h : jLQ_when jnr (jxx "java/lang/IllegalStateException" σ) v t) : v = some (0, -79) ∧ t = σ := by
  rcases h with ⟨r2, -, h1⟩ | ⟨⟨h1, h2⟩, h3⟩ | ⟨⟨h1, h2⟩, h3⟩
  · exact h1.elim
  · exact absurd h1 (by decide)
  · exact ⟨h3, h2⟩
def jLQ_word (Qr : Option JV → JM → Prop) (Qx : String → JM → Prop) : Option JV → JM → Prop := fun v t => (∃ r, v = some (0, r) ∧ Qr v t) ∨ (Qx "java/lang/IllegalArgumentException" t ∧ v = some (0, -78)) ∨ (Qx "java/lang/IllegalStateException" t ∧ v = some (0, -79))
theorem cat_L_word_0 : jcatch mL_word 2 "java/lang/IllegalArgumentException" 6 := ⟨[], (0, 5, 6, 20), [(0, 5, 10, 22)], rfl, fun _ h => absurd h List.not_mem_nil, by decide, by decide, kg891, by decide +kernel, rfl⟩
theorem hdl_L_word_0 {l : Launch} {E : JE} {dd n : Nat} {Qr : Option JV → JM → Prop} {p : Int} {t : JM} {q0 : Int} (hq : Qr (some (0, -78)) t) : V l E mL_word dd n Qr jno 6 [(2, 0), (0, p), (9, 0)] [(3, q0)] t := by
  refine V.astore_n (L' := [_, _, _]) dL_word_6 rfl rfl ?_
  refine V.bipush dL_word_7 ⟨by decide, by decide⟩ ?_
  exact V.iret (jret_i dL_word_9 rfl) hq
theorem cat_L_word_1 : jcatch mL_word 2 "java/lang/IllegalStateException" 10 := ⟨[(0, 5, 6, 20)], (0, 5, 10, 22), [], rfl, List.forall_mem_cons.mpr ⟨⟨by decide, "java/lang/IllegalArgumentException", kg891, by decide +kernel⟩, fun _ h => absurd h List.not_mem_nil⟩, by decide, by decide, kg892, by decide +kernel, rfl⟩
theorem hdl_L_word_1 {l : Launch} {E : JE} {dd n : Nat} {Qr : Option JV → JM → Prop} {p : Int} {t : JM} {q0 : Int} (hq : Qr (some (0, -79)) t) : V l E mL_word dd n Qr jno 10 [(2, 0), (0, p), (9, 0)] [(3, q0)] t := by
  refine V.astore_n (L' := [_, _, _]) dL_word_10 rfl rfl ?_
  refine V.bipush dL_word_11 ⟨by decide, by decide⟩ ?_
  exact V.iret (jret_i dL_word_13 rfl) hq
theorem sp_L_word {σ : JM} {p : Int} {n d0 : Nat} {Qr : Option JV → JM → Prop} {Qx : String → JM → Prop} (h : JSp mX6_word d0 n [(2, 0), (0, p)] σ Qr Qx) (hr : ∀ v t, Qr v t → ∃ r, v = some (0, r)) (hx : ∀ X t, Qx X t → X = "java/lang/IllegalArgumentException" ∨ X = "java/lang/IllegalStateException") : JSpH mL_word (d0 + 1) n [(2, 0), (0, p)] σ (jLQ_word Qr Qx) jno := by
  refine JSpH.of [(2, 0), (0, p), (9, 0)] (by decide +kernel) rfl rfl rfl (fun l E hA => ?_)
  refine V.aload_n dL_word_0 rfl ?_
  refine V.iload_n dL_word_1 rfl ?_
  refine V.callVC [_] rfl kc_L_24 rfl dL_word_2 (d' := d0) (Nat.lt_succ_self _) (Nat.le_refl _) rfl (fun _ _ => h) (fun v t' hq hv => ?_) (fun X t hx2 => by
      rcases hx X t hx2 with rfl | rfl
      · exact ⟨6, cat_L_word_0, fun q => hdl_L_word_0 (Or.inr (Or.inl ⟨hx2, rfl⟩))⟩
      · exact ⟨10, cat_L_word_1, fun q => hdl_L_word_1 (Or.inr (Or.inr ⟨hx2, rfl⟩))⟩)
  obtain ⟨r, rfl⟩ := hr v t' hq
  exact V.iret (jret_i dL_word_5 rfl) (Or.inl ⟨r, rfl, hq⟩)
theorem lr_word {r : Int} {τ : JM} {v : Option JV} {t : JM} (h : jLQ_word (fun v t => v = some (0, r) ∧ t = τ) jno v t) : v = some (0, r) ∧ t = τ := by
  rcases h with ⟨r2, -, h⟩ | h | h
  · exact h
  · exact h.1.elim
  · exact h.1.elim
theorem lx_word_1 {σ : JM} {v : Option JV} {t : JM} (h : jLQ_word jnr (jxx "java/lang/IllegalArgumentException" σ) v t) : v = some (0, -78) ∧ t = σ := by
  rcases h with ⟨r2, -, h1⟩ | ⟨⟨h1, h2⟩, h3⟩ | ⟨⟨h1, h2⟩, h3⟩
  · exact h1.elim
  · exact ⟨h3, h2⟩
  · exact absurd h1 (by decide)
theorem lx_word_2 {σ : JM} {v : Option JV} {t : JM} (h : jLQ_word jnr (jxx "java/lang/IllegalStateException" σ) v t) : v = some (0, -79) ∧ t = σ := by
  rcases h with ⟨r2, -, h1⟩ | ⟨⟨h1, h2⟩, h3⟩ | ⟨⟨h1, h2⟩, h3⟩
  · exact h1.elim
  · exact absurd h1 (by decide)
  · exact ⟨h3, h2⟩
def jLQ_wordAt (Qr : Option JV → JM → Prop) (Qx : String → JM → Prop) : Option JV → JM → Prop := fun v t => (∃ r, v = some (0, r) ∧ Qr v t) ∨ (Qx "java/util/NoSuchElementException" t ∧ v = some (0, -75)) ∨ (Qx "java/lang/IndexOutOfBoundsException" t ∧ v = some (0, -77))
theorem cat_L_wordAt_0 : jcatch mL_wordAt 2 "java/util/NoSuchElementException" 6 := ⟨[], (0, 5, 6, 44), [(0, 5, 10, 88)], rfl, fun _ h => absurd h List.not_mem_nil, by decide, by decide, kg974, by decide +kernel, rfl⟩
theorem hdl_L_wordAt_0 {l : Launch} {E : JE} {dd n : Nat} {Qr : Option JV → JM → Prop} {p : Int} {t : JM} {q0 : Int} (hq : Qr (some (0, -75)) t) : V l E mL_wordAt dd n Qr jno 6 [(2, 0), (0, p), (9, 0)] [(3, q0)] t := by
  refine V.astore_n (L' := [_, _, _]) dL_wordAt_6 rfl rfl ?_
  refine V.bipush dL_wordAt_7 ⟨by decide, by decide⟩ ?_
  exact V.iret (jret_i dL_wordAt_9 rfl) hq
theorem cat_L_wordAt_1 : jcatch mL_wordAt 2 "java/lang/IndexOutOfBoundsException" 10 := ⟨[(0, 5, 6, 44)], (0, 5, 10, 88), [], rfl, List.forall_mem_cons.mpr ⟨⟨by decide, "java/util/NoSuchElementException", kg974, by decide +kernel⟩, fun _ h => absurd h List.not_mem_nil⟩, by decide, by decide, kg1124, by decide +kernel, rfl⟩
theorem hdl_L_wordAt_1 {l : Launch} {E : JE} {dd n : Nat} {Qr : Option JV → JM → Prop} {p : Int} {t : JM} {q0 : Int} (hq : Qr (some (0, -77)) t) : V l E mL_wordAt dd n Qr jno 10 [(2, 0), (0, p), (9, 0)] [(3, q0)] t := by
  refine V.astore_n (L' := [_, _, _]) dL_wordAt_10 rfl rfl ?_
  refine V.bipush dL_wordAt_11 ⟨by decide, by decide⟩ ?_
  exact V.iret (jret_i dL_wordAt_13 rfl) hq
theorem sp_L_wordAt {σ : JM} {p : Int} {n d0 : Nat} {Qr : Option JV → JM → Prop} {Qx : String → JM → Prop} (h : JSp mX6_wordAt d0 n [(2, 0), (0, p)] σ Qr Qx) (hr : ∀ v t, Qr v t → ∃ r, v = some (0, r)) (hx : ∀ X t, Qx X t → X = "java/util/NoSuchElementException" ∨ X = "java/lang/IndexOutOfBoundsException") : JSpH mL_wordAt (d0 + 1) n [(2, 0), (0, p)] σ (jLQ_wordAt Qr Qx) jno := by
  refine JSpH.of [(2, 0), (0, p), (9, 0)] (by decide +kernel) rfl rfl rfl (fun l E hA => ?_)
  refine V.aload_n dL_wordAt_0 rfl ?_
  refine V.iload_n dL_wordAt_1 rfl ?_
  refine V.callVC [_] rfl kc_L_85 rfl dL_wordAt_2 (d' := d0) (Nat.lt_succ_self _) (Nat.le_refl _) rfl (fun _ _ => h) (fun v t' hq hv => ?_) (fun X t hx2 => by
      rcases hx X t hx2 with rfl | rfl
      · exact ⟨6, cat_L_wordAt_0, fun q => hdl_L_wordAt_0 (Or.inr (Or.inl ⟨hx2, rfl⟩))⟩
      · exact ⟨10, cat_L_wordAt_1, fun q => hdl_L_wordAt_1 (Or.inr (Or.inr ⟨hx2, rfl⟩))⟩)
  obtain ⟨r, rfl⟩ := hr v t' hq
  exact V.iret (jret_i dL_wordAt_5 rfl) (Or.inl ⟨r, rfl, hq⟩)
theorem lr_wordAt {r : Int} {τ : JM} {v : Option JV} {t : JM} (h : jLQ_wordAt (fun v t => v = some (0, r) ∧ t = τ) jno v t) : v = some (0, r) ∧ t = τ := by
  rcases h with ⟨r2, -, h⟩ | h | h
  · exact h
  · exact h.1.elim
  · exact h.1.elim
theorem lx_wordAt_1 {σ : JM} {v : Option JV} {t : JM} (h : jLQ_wordAt jnr (jxx "java/util/NoSuchElementException" σ) v t) : v = some (0, -75) ∧ t = σ := by
  rcases h with ⟨r2, -, h1⟩ | ⟨⟨h1, h2⟩, h3⟩ | ⟨⟨h1, h2⟩, h3⟩
  · exact h1.elim
  · exact ⟨h3, h2⟩
  · exact absurd h1 (by decide)
theorem lx_wordAt_2 {σ : JM} {v : Option JV} {t : JM} (h : jLQ_wordAt jnr (jxx "java/lang/IndexOutOfBoundsException" σ) v t) : v = some (0, -77) ∧ t = σ := by
  rcases h with ⟨r2, -, h1⟩ | ⟨⟨h1, h2⟩, h3⟩ | ⟨⟨h1, h2⟩, h3⟩
  · exact h1.elim
  · exact absurd h1 (by decide)
  · exact ⟨h3, h2⟩
def jLQ_words (Qr : Option JV → JM → Prop) (Qx : String → JM → Prop) : Option JV → JM → Prop := fun v t => (∃ r, v = some (0, r) ∧ Qr v t) ∨ (Qx "java/util/NoSuchElementException" t ∧ v = some (0, -75))
theorem cat_L_words_0 : jcatch mL_words 1 "java/util/NoSuchElementException" 5 := ⟨[], (0, 4, 5, 44), [], rfl, fun _ h => absurd h List.not_mem_nil, by decide, by decide, kg974, by decide +kernel, rfl⟩
theorem hdl_L_words_0 {l : Launch} {E : JE} {dd n : Nat} {Qr : Option JV → JM → Prop}  {t : JM} {q0 : Int} (hq : Qr (some (0, -75)) t) : V l E mL_words dd n Qr jno 5 [(2, 0), (9, 0)] [(3, q0)] t := by
  refine V.astore_n (L' := [_, _]) dL_words_5 rfl rfl ?_
  refine V.bipush dL_words_6 ⟨by decide, by decide⟩ ?_
  exact V.iret (jret_i dL_words_8 rfl) hq
theorem sp_L_words {σ : JM}  {n d0 : Nat} {Qr : Option JV → JM → Prop} {Qx : String → JM → Prop} (h : JSp mX6_words d0 n [(2, 0)] σ Qr Qx) (hr : ∀ v t, Qr v t → ∃ r, v = some (0, r)) (hx : ∀ X t, Qx X t → X = "java/util/NoSuchElementException") : JSpH mL_words (d0 + 1) n [(2, 0)] σ (jLQ_words Qr Qx) jno := by
  refine JSpH.of [(2, 0), (9, 0)] (by decide +kernel) rfl rfl rfl (fun l E hA => ?_)
  refine V.aload_n dL_words_0 rfl ?_
  refine V.callVC [] rfl kc_L_82 rfl dL_words_1 (d' := d0) (Nat.lt_succ_self _) (Nat.le_refl _) rfl (fun _ _ => h) (fun v t' hq hv => ?_) (fun X t hx2 => by
      rcases hx X t hx2 with rfl
      · exact ⟨5, cat_L_words_0, fun q => hdl_L_words_0 (Or.inr ⟨hx2, rfl⟩)⟩)
  obtain ⟨r, rfl⟩ := hr v t' hq
  exact V.iret (jret_i dL_words_4 rfl) (Or.inl ⟨r, rfl, hq⟩)
theorem lr_words {r : Int} {τ : JM} {v : Option JV} {t : JM} (h : jLQ_words (fun v t => v = some (0, r) ∧ t = τ) jno v t) : v = some (0, r) ∧ t = τ := by
  rcases h with ⟨r2, -, h⟩ | h
  · exact h
  · exact h.1.elim
theorem lx_words_1 {σ : JM} {v : Option JV} {t : JM} (h : jLQ_words jnr (jxx "java/util/NoSuchElementException" σ) v t) : v = some (0, -75) ∧ t = σ := by
  rcases h with ⟨r2, -, h1⟩ | ⟨⟨h1, h2⟩, h3⟩
  · exact h1.elim
  · exact ⟨h3, h2⟩
