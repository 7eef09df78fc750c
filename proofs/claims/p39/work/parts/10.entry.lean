/-! ===== V's entry; catching; other instructions ===== -/
def jflat (As : List JV) : List JV := As.flatMap (fun v => match jc2 v.1 with
  | true => [v, (9, 0)]
  | false => [v])
def jent (As : List JV) (nL : Nat) : List JV := jflat As ++ List.replicate (nL - (jflat As).length) (9, 0)
theorem jflat_cons (v : JV) (As : List JV) : jflat (v :: As) = (match jc2 v.1 with
  | true => [v, (9, 0)]
  | false => [v]) ++ jflat As := rfl
theorem jflat_args (E : JE) : ∀ (As : List JV) (k j : Nat) (w : JV), (jflat As)[j]? = some w → w.1 < 8 → (k + j, jtr E w) ∈ lv_args k (As.map (jtr E)) := by
  intro As
  induction As with
  | nil => intro k j w h; cases h
  | cons v vs ih =>
    intro k j w h hw
    rw [jflat_cons] at h
    rw [List.map_cons]
    show (k + j, jtr E w) ∈ (k, jtr E v) :: lv_args (if (jtr E v).category = 2 then k + 2 else k + 1) (vs.map (jtr E))
    rw [jtr_cat]
    cases hc : jc2 v.1 with
    | true =>
      rw [hc] at h
      match j, h with
      | 0, h => cases h; exact List.mem_cons_self
      | 1, h => cases h; exact absurd hw (by decide)
      | j + 2, h =>
        have := ih (k + 2) j w h hw
        rw [show k + 2 + j = k + (j + 2) by omega] at this
        exact List.mem_cons_of_mem _ (by simpa using this)
    | false =>
      rw [hc] at h
      match j, h with
      | 0, h => cases h; exact List.mem_cons_self
      | j + 1, h =>
        have := ih (k + 1) j w h hw
        rw [show k + 1 + j = k + (j + 1) by omega] at this
        exact List.mem_cons_of_mem _ (by simpa using this)
theorem jflat_len (E : JE) (As : List JV) : (lg_sl (As.map (jtr E))).length = (jflat As).length := by
  induction As with
  | nil => rfl
  | cons v vs ih =>
    rw [jflat_cons, List.map_cons]
    show ((if (jtr E v).category = 2 then [Slot.val (jtr E v), .second] else [.val (jtr E v)]) ++ lg_sl (vs.map (jtr E))).length = _
    rw [jtr_cat, List.length_append, List.length_append, ih]
    cases hc : jc2 v.1 <;> simp
theorem jent_ok {As : List JV} (h : ∀ v ∈ As, jokv v) (nL : Nat) : ∀ v ∈ jent As nL, jokv v := by
  intro v hv
  rcases List.mem_append.mp hv with h1 | h1
  · obtain ⟨w, hw, hv2⟩ := List.mem_flatMap.mp h1
    cases hc : jc2 w.1 <;> simp only [hc] at hv2
    · rw [List.mem_singleton.mp hv2]; exact h w hw
    · rcases List.mem_cons.mp hv2 with rfl | h3
      · exact h _ hw
      · rw [List.mem_singleton.mp h3]; trivial
  · rw [(List.mem_replicate.mp h1).2]; trivial
theorem jent_lv {E : JE} {As : List JV} {nL : Nat} (hm : (jflat As).length ≤ nL) {ls : Array Slot} (hl : lv_has ls nL (lv_args 0 (As.map (jtr E)))) : jlv E ls nL (jent As nL) := by
  refine ⟨hl.1, hl.2.1, ?_, fun j w hw h8 => ?_⟩
  · unfold jent; rw [List.length_append, List.length_replicate]; omega
  · unfold jent at hw
    rcases Nat.lt_or_ge j (jflat As).length with h | h
    · rw [List.getElem?_append_left h] at hw
      have := jflat_args E As 0 j w hw h8
      rw [Nat.zero_add] at this
      exact hl.2.2 _ this
    · rw [List.getElem?_append_right h] at hw
      have := List.mem_of_getElem? hw
      rw [(List.mem_replicate.mp this).2] at h8
      exact absurd h8 (by decide)
section JR5
variable {l : Launch} {E : JE} {i : JI} {d n : Nat} {Qr Qr' : Option JV → JM → Prop} {Qx Qx' : String → JM → Prop} {pc : Nat} {L L' st : List JV} {σ : JM}
theorem jbody {ws : List Cond} {p : Program} {e : Env} {s s₁ : State} {m : MethodId} {args : Array Value} {below : List Frame} {meth : Method} {c : Code} {sz : Nat} {As : List JV} {L0 : List JV}
    (B : BodyLoose p l i.1 (headSpec ws (jrm d n)) i.2.1 i.2.2.1 i.2.2.2.1 e s m args below meth c s₁) (hws : ∀ w ∈ jG, w ∈ ws) (hml : c.maxLocals = i.2.2.1) (htab : c.exceptionTable.toList = tableOf i.2.2.2.2.1) (hPc : jPc E sz As σ args s) (hl : l.stackTraces = false)
    (hm : Nat.ble (jflat As).length i.2.2.1 = true) (hL0 : jent As i.2.2.1 = L0) (hscr : i.2.2.2.2.2 = false) (h : (∀ v ∈ As, jokv v) → V l E i d n Qr Qx 0 L0 [] σ) :
    W p l e (headSpec ws (jrm d n)).room s m args below meth c s.heap [] 0 0 (vx_MQ below (jQc E (jA E sz) Qr) (jXC E (jA E sz) Qx) args s n (6 * n) (jA E sz)) (entryFrame m args i.2.2.1) := by
  obtain ⟨rfl, rfl, h2, h3, h4, h5⟩ := hPc
  have hm := Nat.ble_eq.mp hm
  have hl0 := lv_entry (As.map (jtr E)) (n := i.2.2.1) (by rw [jflat_len]; exact hm)
  rw [lg_entry_eq]
  generalize ((lg_sl (As.map (jtr E)) ++ List.replicate (i.2.2.1 - (lg_sl (As.map (jtr E))).length) Slot.unset).toArray) = ls at hl0 ⊢
  have hts : ∀ w ∈ jG, w.before (As.map (jtr E)).toArray s = true := fun w hw => atoms_spec (ws := ws) B.pre w (hws w hw)
  have hF : jFix l i d p (headSpec ws (jrm d n)).room s m (As.map (jtr E)).toArray meth c (jA E s.heap.size) n (6 * n) := ⟨B.exec, B.bytes, hml, findClass_of_methodNamed B.named, hts, hl, Nat.le_refl _, Nat.le_refl _, Nat.le_refl _, Nat.le_refl _, fun q h => Or.inr h, h5, htab, B.notSynchronized⟩
  refine h h3 p e _ s m _ below meth c (jA E s.heap.size) n (6 * n) _ hF (fun hs => absurd hs (by rw [hscr]; decide)) ⟨?_, Or.inl ⟨_, _, _, rfl, fun z h => h, ?_⟩⟩ s.heap [] 0 0 ls ⟨h4, h2, va_S.rf, by omega, by omega, ?_, ?_, fun v hv => by cases hv⟩
  · intro H locs cells slots σ' v pc ls hw hok hS hc hs hq hv hr
    refine vx_ret (W.widen hc hs ?_)
    have hlk : meth.locks = false := B.notSynchronized
    have hq2 : ∀ t : State, t.heap = H → s.WarmedH t.vm → jQc E (jA E s.heap.size) Qr (As.map (jtr E)).toArray s (.returned (v.map (jtr E))) t := fun t ht hW => ⟨⟨v, σ', rfl, hq, hv, hok, by rw [ht]; exact hw.1, hw.2.1, va_K.moved hW.alike hw.2.2⟩, hS.F ht⟩
    match v, hr, hq2 with
    | none, ⟨hd, hret⟩, hq2 => exact W.vret B.exec B.bytes (B.returns.trans hret) hq2 hS.2.2 hd
    | some (0, x), ⟨hd, hret⟩, hq2 =>
      rcases hret with hret | ⟨hret, hx⟩ | ⟨hret, hx⟩
      · exact W.iret B.exec B.bytes (B.returns.trans hret) hq2 hS.2.2 hd
      · exact W.zret B.exec B.bytes (B.returns.trans hret) (jfit (t := 6) (Or.inr (Or.inl rfl)) hx).1 hq2 hS.2.2 hd
      · exact W.zret B.exec B.bytes (B.returns.trans hret) (jfit (t := 7) (Or.inr (Or.inr rfl)) hx).1 hq2 hS.2.2 hd
    | some (1, x), ⟨hd, hret⟩, hq2 => exact W.lret B.exec B.bytes (B.returns.trans hret) hq2 hS.2.2 hd
    | some (4, x), ⟨hd, hret⟩, hq2 => exact W.fret B.exec B.bytes (B.returns.trans hret) hq2 hS.2.2 hd
    | some (5, x), ⟨hd, hret⟩, hq2 => exact W.dret B.exec B.bytes (B.returns.trans hret) hq2 hS.2.2 hd
  · intro X t σ' hvm hFr hok hw hq
    exact ⟨⟨σ', hq, hok, hw⟩, hFr⟩
  · rw [← hL0]; exact jent_lv hm hl0
  · rw [← hL0]; exact jent_ok h3 _
theorem JSp.of {As : List JV} (L0 : List JV) (hh : i.2.2.2.2.1 = []) (hpl : plainName i.1.cls = true) (hm : Nat.ble (jflat As).length i.2.2.1 = true) (hL0 : jent As i.2.2.1 = L0) (hscr : i.2.2.2.2.2 = false) (h : ∀ (l : Launch) (E : JE), (∀ v ∈ As, jokv v) → V l E i d n Qr Qx 0 L0 [] σ) : JSp i d n As σ Qr Qx := by
  intro l E sz hl
  refine vx_ofW (cc := i.2.1) (maxL := i.2.2.1) (ret := i.2.2.2.1) hpl rfl ?_
  intro p e s m args below meth c s₁ B hml htab hPc
  refine jbody (ws := jwsP i) B (fun w hw => List.mem_cons_of_mem _ hw) hml ?_ hPc hl hm hL0 hscr (h l E)
  rw [hh]
  exact List.eq_nil_iff_forall_not_mem.mpr (fun x hx => htab x hx)
theorem JSpH.of {As : List JV} (L0 : List JV) (hpl : plainName i.1.cls = true) (hm : Nat.ble (jflat As).length i.2.2.1 = true) (hL0 : jent As i.2.2.1 = L0) (hscr : i.2.2.2.2.2 = false) (h : ∀ (l : Launch) (E : JE), (∀ v ∈ As, jokv v) → V l E i d n Qr Qx 0 L0 [] σ) : JSpH i d n As σ Qr Qx := by
  intro l E sz hl
  refine vx_ofWH (cc := i.2.1) (maxL := i.2.2.1) (ret := i.2.2.2.1) (hh := i.2.2.2.2.1) hpl rfl ?_
  intro p e s m args below meth c s₁ B hml hPc
  refine jbody (ws := jwsH i) B (fun w hw => List.mem_cons_of_mem _ hw) hml ?_ hPc hl hm hL0 hscr (h l E)
  exact vx_table (x := i.1) B (atoms_spec (ws := jwsH i) B.pre _ List.mem_cons_self)
/-- where an exception is caught: the rows ahead name other classes -/
def jcatch (i : JI) (pc : Nat) (X : String) (hpc : Nat) : Prop := ∃ (pre : List (Nat × Nat × Nat × Nat)) (x : Nat × Nat × Nat × Nat) (suf : List (Nat × Nat × Nat × Nat)), i.2.2.2.2.1 = pre ++ x :: suf ∧ (∀ z ∈ pre, z.2.2.2 ≠ 0 ∧ ∃ nm : String, Cond.classLink i.1.cls z.2.2.2 nm ∈ jG ∧ (X, nm) ∈ jNcs) ∧
  covers (⟨x.1, x.2.1, x.2.2.1, x.2.2.2⟩ : ExceptionTableEntry) pc = true ∧ x.2.2.2 ≠ 0 ∧ Cond.classLink i.1.cls x.2.2.2 X ∈ jG ∧ (X, X) ∈ jCast ∧ x.2.2.1 = hpc
theorem jcaught {n' : Nat} {p : Program} {e : Env} {R : Room} {s : State} {m : MethodId} {args : Array Value} {below : List Frame} {meth : Method} {c : Code} {A : Nat → Prop} {cm sm : Nat} {Z : State → Prop}
    (hF : jFix l i d p R s m args meth c A cm sm) (hX : i.2.2.2.2.2 = true → jScr E A s) (hZ : jFin l E i Qr Qx p e R s m args below meth c A cm sm Z) {X : String} {q hpc : Nat} {ce : Cell} {H1 : Heap} {locs1 : List Loc} {cells slots : Nat} {ls : Array Slot} {σ' : JM} (hc : jcatch i pc X hpc) (hT : jSt E i n' s A H1 locs1 cells slots cm sm ls L st σ') (hce : H1[q]? = some ce) (hcv : ce.vm = .none) (hcl : s.vm.findClass X = some ce.cls)
    (k : ∀ q : Nat, V l E i d n' Qr Qx hpc L [(3, (q : Int))] σ') : vx_W p l e R s m args below meth c H1 locs1 cells slots Z (F0 m pc ls (st.map (jtr E))) q := by
  obtain ⟨pre, x, suf, c1, c2, c3, c4, c5, c6, rfl⟩ := hc
  have hk := k q p e R s m args below meth c A cm sm Z hF hX hZ H1 locs1 cells slots ls ⟨hT.1, hT.2.1, hT.2.2.1, hT.2.2.2.1, hT.2.2.2.2.1, hT.2.2.2.2.2.1, hT.2.2.2.2.2.2.1, fun v hv => by rw [List.mem_singleton.mp hv]; trivial⟩
  obtain ⟨f1, f2, f3, f4, f5, f6, f7, f8, f9, f10, f11, f12, f13, f14⟩ := hF
  refine vx_catch (own := i.1.cls) (name := X) f4 (tableOf pre) ⟨x.1, x.2.1, x.2.2.1, x.2.2.2⟩ (tableOf suf) ?_ ?_ c3 c4 (f5 _ c5) (va_Nw.use rfl (f12.2.2.1 _ c6).1) hce hcv hcl hk
  · rw [f13, c1]
    simp [tableOf]
  · intro z hz
    obtain ⟨z0, hz0, rfl⟩ := List.mem_map.mp hz
    obtain ⟨h1, nm, h2, h3⟩ := c2 z0 hz0
    exact Or.inr ⟨h1, nm, f5 _ h2, f12.2.2.2.1 _ h3⟩
theorem V.callVC {k : JI} {ix cell d' n' : Nat} {q : Int} (As : List JV) {st0 : List JV} (hst0 : st0 = As.reverse ++ (2, q) :: st) (kv : jKV i.1.cls ix cell k As.length) (hq : q.toNat = cell) (hd : decode i.2.1 pc = .ok (.invokevirtual ix, 3)) (hlt : d' < d) (hn : n' ≤ n) (hw : Nat.ble (jwt st) 8 = true) (hl : l.stackTraces = false → (∀ v ∈ As, jokv v) → JSp k d' n' ((2, q) :: As) σ Qr' Qx')
    (kr : ∀ (v : Option JV) (σ' : JM), Qr' v σ' → (∀ w, v = some w → jokv w) → V l E i d (n - n') Qr Qx (pc + 3) L (v.toList ++ st) σ') (kx : ∀ (X : String) (σ' : JM), Qx' X σ' → ∃ hpc, jcatch i pc X hpc ∧ ∀ q : Nat, V l E i d (n - n') Qr Qx hpc L [(3, (q : Int))] σ') : V l E i d n Qr Qx pc L st0 σ := by
  subst hst0
  obtain ⟨ci, fs, C, T, N, h1, h2, h3, h4, h5, h6, h7, h8, h9, h10, h11⟩ := kv
  subst hq
  intro p e R s m args below meth c A cm sm Z hF hX hZ H locs cells slots ls hT
  have g8 := hT.2.2.2.2.2.2.2
  have hAs : ∀ v ∈ As, jokv v := fun v hv => g8 v (List.mem_append_left _ (List.mem_reverse.mpr hv))
  have hAs2 : ∀ v ∈ (2, q) :: As, jokv v := ok_cs (v := (2, q)) trivial hAs
  have hst : ∀ v ∈ st, jokv v := fun v hv => g8 v (List.mem_append_right _ (List.mem_cons_of_mem _ hv))
  refine jrunW (n' := n') (st := st) hn hF hX hZ hT hst (a := (((2, q) :: As).map (jtr E)).toArray) ?_ kr (fun X σ' hq' q9 ce H1 locs1 hT1 hce hcv hcl => by
    obtain ⟨hpc, hc, kk⟩ := kx X σ' hq'
    exact jcaught hF hX hZ hc hT1 hce hcv hcl kk)
  refine vx_runV (cc := i.2.1) (nL := i.2.2.1) (own := i.1.cls) (Ts := jG) (C := C) (b := E.1 q.toNat) (As := As.map (jtr E)) (rest := st.map (jtr E)) (n := As.length) (maxL := k.2.2.1) (ret := k.2.2.2.1) (bytes := k.2.1) (ws := jwsP k) (rm := jrm d' n') ⟨hF.1, hF.2.1, hF.2.2.1, hF.2.2.2.1, hF.2.2.2.2.1⟩ (hl hF.2.2.2.2.2.1 hAs l E H.size hF.2.2.2.2.2.1) (cwV As.length hF.2.2.2.2.1 (jG_good (fun w hw => ?_)) rfl rfl rfl ⟨h4, h10⟩ (jroom hF hlt h11)) ⟨jPc_blind E H.size _ σ, va_recv hT.1.2.2 hT.1.1 (ci := ci) (q0 := q.toNat) h3 (by rw [jw_get E σ h2, jcell_o h1]), jpre hF hT hAs2⟩ rfl (by rw [List.length_map]) hT.2.2.2.2.2.1.1 (jrev As (2, q) st) ?_ hd ⟨by have := hT.2.2.2.1; have := hF.2.2.2.2.2.2.2.2.1; omega, by have := hT.2.2.2.2.1; have := hF.2.2.2.2.2.2.2.2.2.1; omega⟩
  · simp only [wsV, jwsP, List.cons_append, List.nil_append, List.mem_cons] at hw
    rcases hw with rfl | rfl | rfl | rfl | rfl | hw
    · exact h5
    · exact h6
    · exact h7
    · exact h8
    · exact h9
    · exact hw
  · show 2 * 0 + _ ≤ 8
    rw [jwt_eq]
    have := Nat.ble_eq.mp hw
    omega
/-- a static call of a method with handlers -/
def jKH (own : String) (ix : Nat) (k : JI) (na : Nat) : Prop := Cond.methodLink own ix k.1 ∈ jG ∧ Cond.static k.1 ∈ jG ∧ Cond.initialized k.1.cls ∈ jG ∧ Cond.codeWith k.1 k.2.1 k.2.2.1 k.2.2.2.1 k.2.2.2.2.1 ∈ jG ∧
  (k.1.cls ≠ "java/lang/invoke/MethodHandle" ∧ k.1.cls ≠ "java/lang/invoke/VarHandle" ∧ (parseMethodDescriptor k.1.desc).map (fun d => d.parameters.length) = some na) ∧ k.2.2.1 ≤ 27
theorem V.callH {k : JI} {ix d' n' : Nat} (As : List JV) {st0 : List JV} (hst0 : st0 = As.reverse ++ st) (kv : jKH i.1.cls ix k As.length) (hd : decode i.2.1 pc = .ok (.invokestatic ix, 3)) (hlt : d' < d) (hn : n' ≤ n) (hw : Nat.ble (jwt st) 8 = true) (hl : l.stackTraces = false → (∀ v ∈ As, jokv v) → JSpH k d' n' As σ Qr' Qx')
    (hh : i.2.2.2.2.1 = []) (kr : ∀ (v : Option JV) (σ' : JM), Qr' v σ' → (∀ w, v = some w → jokv w) → V l E i d (n - n') Qr Qx (pc + 3) L (v.toList ++ st) σ') (kx : ∀ (X : String) (σ' : JM), Qx' X σ' → Qx X σ') : V l E i d n Qr Qx pc L st0 σ := by
  subst hst0
  obtain ⟨h5, h6, h8, h9, h10, h11⟩ := kv
  intro p e R s m args below meth c A cm sm Z hF hX hZ H locs cells slots ls hT
  have g8 := hT.2.2.2.2.2.2.2
  have hAs : ∀ v ∈ As, jokv v := fun v hv => g8 v (List.mem_append_left _ (List.mem_reverse.mpr hv))
  have hst : ∀ v ∈ st, jokv v := fun v hv => g8 v (List.mem_append_right _ hv)
  refine jrunW (n' := n') (st := st) hn hF hX hZ hT hst (a := ((As).map (jtr E)).toArray) ?_ kr (fun X σ' hq' q9 ce H1 locs1 hT1 hce hcv hcl => jpass hh hF hZ (kx X σ' hq') hT1 hce hcv hcl)
  refine vx_runSX (hh := k.2.2.2.2.1) (cc := i.2.1) (nL := i.2.2.1) (own := i.1.cls) (Ts := jG) (As := As.map (jtr E)) (rest := st.map (jtr E)) (n := As.length) (maxL := k.2.2.1) (ret := k.2.2.2.1) (bytes := k.2.1) (ws := jwsH k) (rm := jrm d' n') ⟨hF.1, hF.2.1, hF.2.2.1, hF.2.2.2.1, hF.2.2.2.2.1⟩ (hl hF.2.2.2.2.2.1 hAs l E H.size hF.2.2.2.2.2.1) (vx_cwSW As.length hF.2.2.2.2.1 (jG_good (fun w hw => ?_)) rfl rfl rfl h10 (jroom hF hlt h11)) ⟨jPc_blind E H.size _ σ, jpre hF hT hAs⟩ rfl (by rw [List.length_map]) hT.2.2.2.2.2.1.1 (jrevS As st) ?_ hd ⟨by have := hT.2.2.2.1; have := hF.2.2.2.2.2.2.2.2.1; omega, by have := hT.2.2.2.2.1; have := hF.2.2.2.2.2.2.2.2.2.1; omega⟩
  · simp only [va_wsS, jwsH, List.cons_append, List.nil_append, List.mem_cons] at hw
    rcases hw with rfl | rfl | rfl | rfl | hw
    · exact h5
    · exact h6
    · exact h8
    · exact h9
    · exact hw
  · show 2 * 0 + _ ≤ 8
    rw [jwt_eq]
    have := Nat.ble_eq.mp hw
    omega
-- numbers of other kinds
theorem jF_to (r : UInt32) : jF ((r.toNat : Nat) : Int) = r := by unfold jF; rw [Int.toNat_natCast]; exact UInt32.ofNat_toNat
theorem jDb_to (r : UInt64) : jD ((r.toNat : Nat) : Int) = r := by unfold jD; rw [Int.toNat_natCast]; exact UInt64.ofNat_toNat
theorem jokF (r : UInt32) : jokv (4, ((r.toNat : Nat) : Int)) := ⟨by omega, by have := r.toNat_lt; show ((r.toNat : Nat) : Int) < 4294967296; omega⟩
theorem jokD (r : UInt64) : jokv (5, ((r.toNat : Nat) : Int)) := ⟨by omega, by have := r.toNat_lt; show ((r.toNat : Nat) : Int) < 18446744073709551616; omega⟩
theorem V.fconst0 (hd : decode i.2.1 pc = .ok (.fconst 0, 1)) (k : V l E i d n Qr Qx (pc + 1) L ((4, ((FP.fconst0.toNat : Nat) : Int)) :: st) σ) : V l E i d n Qr Qx pc L st σ :=
  V.op (fun _ h => ok_cs (jokF _) h) (fun hF _ w => lv_fconst0 hF.1 hF.2.1 hd (by rw [List.map_cons, show jtr E (4, ((FP.fconst0.toNat : Nat) : Int)) = .float FP.fconst0 from congrArg Value.float (jF_to _)] at w; exact w)) k
theorem V.dconst0 (hd : decode i.2.1 pc = .ok (.dconst 0, 1)) (k : V l E i d n Qr Qx (pc + 1) L ((5, ((FP.dconst0.toNat : Nat) : Int)) :: st) σ) : V l E i d n Qr Qx pc L st σ :=
  V.op (fun _ h => ok_cs (jokD _) h) (fun hF _ w => lv_dconst0 hF.1 hF.2.1 hd (by rw [List.map_cons, show jtr E (5, ((FP.dconst0.toNat : Nat) : Int)) = .double FP.dconst0 from congrArg Value.double (jDb_to _)] at w; exact w)) k
theorem V.i2f {x : Int} (hd : decode i.2.1 pc = .ok (.i2f, 1)) (k : V l E i d n Qr Qx (pc + 1) L ((4, (((FP.i2f (jI x)).toNat : Nat) : Int)) :: st) σ) : V l E i d n Qr Qx pc L ((0, x) :: st) σ :=
  V.op (fun _ h => ok_cs (jokF _) (ok_tl h)) (fun hF _ w => lv_i2f hF.1 hF.2.1 hd (by rw [List.map_cons, show jtr E (4, (((FP.i2f (jI x)).toNat : Nat) : Int)) = .float (FP.i2f (jI x)) from congrArg Value.float (jF_to _)] at w; exact w)) k
theorem V.i2d {x : Int} (hd : decode i.2.1 pc = .ok (.i2d, 1)) (k : V l E i d n Qr Qx (pc + 1) L ((5, (((FP.i2d (jI x)).toNat : Nat) : Int)) :: st) σ) : V l E i d n Qr Qx pc L ((0, x) :: st) σ :=
  V.op (fun _ h => ok_cs (jokD _) (ok_tl h)) (fun hF _ w => lv_i2d hF.1 hF.2.1 hd (by rw [List.map_cons, show jtr E (5, (((FP.i2d (jI x)).toNat : Nat) : Int)) = .double (FP.i2d (jI x)) from congrArg Value.double (jDb_to _)] at w; exact w)) k
theorem V.l2d {x : Int} (hd : decode i.2.1 pc = .ok (.l2d, 1)) (k : V l E i d n Qr Qx (pc + 1) L ((5, (((FP.l2d (jL x)).toNat : Nat) : Int)) :: st) σ) : V l E i d n Qr Qx pc L ((1, x) :: st) σ :=
  V.op (fun _ h => ok_cs (jokD _) (ok_tl h)) (fun hF _ w => lv_l2d hF.1 hF.2.1 hd (by rw [List.map_cons, show jtr E (5, (((FP.l2d (jL x)).toNat : Nat) : Int)) = .double (FP.l2d (jL x)) from congrArg Value.double (jDb_to _)] at w; exact w)) k
theorem V.fdiv {x y : Int} (hd : decode i.2.1 pc = .ok (.fdiv, 1)) (hne : vf_n32 (FP.fdiv (jF x) (jF y))) (k : V l E i d n Qr Qx (pc + 1) L ((4, (((FP.fdiv (jF x) (jF y)).toNat : Nat) : Int)) :: st) σ) : V l E i d n Qr Qx pc L ((4, y) :: (4, x) :: st) σ :=
  V.op (fun _ h => ok_cs (jokF _) (ok_tl (ok_tl h))) (fun hF _ w => lv_fdiv hF.1 hF.2.1 hd hne (by rw [List.map_cons, show jtr E (4, (((FP.fdiv (jF x) (jF y)).toNat : Nat) : Int)) = .float (FP.fdiv (jF x) (jF y)) from congrArg Value.float (jF_to _)] at w; exact w)) k
theorem V.ddiv {x y : Int} (hd : decode i.2.1 pc = .ok (.ddiv, 1)) (hne : vf_n64 (FP.ddiv (jD x) (jD y))) (k : V l E i d n Qr Qx (pc + 1) L ((5, (((FP.ddiv (jD x) (jD y)).toNat : Nat) : Int)) :: st) σ) : V l E i d n Qr Qx pc L ((5, y) :: (5, x) :: st) σ :=
  V.op (fun _ h => ok_cs (jokD _) (ok_tl (ok_tl h))) (fun hF _ w => lv_ddiv hF.1 hF.2.1 hd hne (by rw [List.map_cons, show jtr E (5, (((FP.ddiv (jD x) (jD y)).toNat : Nat) : Int)) = .double (FP.ddiv (jD x) (jD y)) from congrArg Value.double (jDb_to _)] at w; exact w)) k
theorem V.f2d {x : Int} (hd : decode i.2.1 pc = .ok (.f2d, 1)) (hne : vf_n64 (FP.f2d (jF x))) (k : V l E i d n Qr Qx (pc + 1) L ((5, (((FP.f2d (jF x)).toNat : Nat) : Int)) :: st) σ) : V l E i d n Qr Qx pc L ((4, x) :: st) σ :=
  V.op (fun _ h => ok_cs (jokD _) (ok_tl h)) (fun hF _ w => lv_f2d hF.1 hF.2.1 hd hne (by rw [List.map_cons, show jtr E (5, (((FP.f2d (jF x)).toNat : Nat) : Int)) = .double (FP.f2d (jF x)) from congrArg Value.double (jDb_to _)] at w; exact w)) k
theorem jI_to (r : Int32) : jI r.toInt = r := Int32.ofInt_toInt r
theorem jrI_to (r : Int32) : jrI r.toInt := ⟨by have := r.le_toInt; omega, by have := r.toInt_lt; omega⟩
theorem V.dcmp {x y : Int} {op : CmpOp} (hd : decode i.2.1 pc = .ok (.dcmp op, 1)) (k : V l E i d n Qr Qx (pc + 1) L ((0, (Op.cmpValue (FP.dcmp (jD x) (jD y)) op).toInt) :: st) σ) : V l E i d n Qr Qx pc L ((5, y) :: (5, x) :: st) σ :=
  V.op (fun _ h => ok_cs (v := (0, (Op.cmpValue (FP.dcmp (jD x) (jD y)) op).toInt)) (jrI_to _) (ok_tl (ok_tl h))) (fun hF _ w => lv_dcmp hF.1 hF.2.1 hd (by rw [List.map_cons, jtr0, jI_to] at w; exact w)) k
theorem V.fcmp {x y : Int} {op : CmpOp} (hd : decode i.2.1 pc = .ok (.fcmp op, 1)) (k : V l E i d n Qr Qx (pc + 1) L ((0, (Op.cmpValue (FP.fcmp (jF x) (jF y)) op).toInt) :: st) σ) : V l E i d n Qr Qx pc L ((4, y) :: (4, x) :: st) σ :=
  V.op (fun _ h => ok_cs (v := (0, (Op.cmpValue (FP.fcmp (jF x) (jF y)) op).toInt)) (jrI_to _) (ok_tl (ok_tl h))) (fun hF _ w => lv_fcmp hF.1 hF.2.1 hd (by rw [List.map_cons, jtr0, jI_to] at w; exact w)) k
theorem V.lcmp {x y : Int} (hd : decode i.2.1 pc = .ok (.lcmp, 1)) (k : V l E i d n Qr Qx (pc + 1) L ((0, if y < x then 1 else if x = y then 0 else -1) :: st) σ) : V l E i d n Qr Qx pc L ((1, y) :: (1, x) :: st) σ :=
  V.op (fun _ h => ok_cs (v := (0, _)) (by split; exact ⟨by decide, by decide⟩; split <;> exact ⟨by decide, by decide⟩) (ok_tl (ok_tl h))) (fun hF hT w => W.lcmp hF.1 hF.2.1 hd (by
    have hy := ok_hd hT.2.2.2.2.2.2.2
    have hx := ok_hd (ok_tl hT.2.2.2.2.2.2.2)
    have e : lg_cmp (jL x) (jL y) = jI (if y < x then 1 else if x = y then 0 else -1) := by
      unfold lg_cmp
      by_cases h1 : y < x
      · rw [if_pos h1, if_pos ((jL_lt hy hx).mpr h1)]; rfl
      · rw [if_neg h1, if_neg (fun q => h1 ((jL_lt hy hx).mp q))]
        by_cases h2 : x = y
        · rw [if_pos h2, if_pos ((jL_eq hx hy).mpr h2)]; rfl
        · rw [if_neg h2, if_neg (fun q => h2 ((jL_eq hx hy).mp q))]; rfl
    rw [e]; exact w)) k
/-- an instruction whose answer's bits do not matter -/
theorem V.lmulA {x y : Int} (hd : decode i.2.1 pc = .ok (.lmul, 1)) (k : ∀ z : Int, jrL z → V l E i d n Qr Qx (pc + 1) L ((1, z) :: st) σ) : V l E i d n Qr Qx pc L ((1, y) :: (1, x) :: st) σ := by
  have hz : jrL (jL x * jL y).toInt := ⟨by have := (jL x * jL y).le_toInt; omega, by have := (jL x * jL y).toInt_lt; omega⟩
  refine V.op (fun _ h => ok_cs (v := (1, (jL x * jL y).toInt)) hz (ok_tl (ok_tl h))) (fun hF _ w => lv_lmul hF.1 hF.2.1 hd ?_) (k _ hz)
  rw [List.map_cons, jtr1, show jL (jL x * jL y).toInt = jL x * jL y from Int64.ofInt_toInt _] at w
  exact w
theorem V.lushrA {x y : Int} (hd : decode i.2.1 pc = .ok (.lushr, 1)) (k : ∀ z : Int, jrL z → V l E i d n Qr Qx (pc + 1) L ((1, z) :: st) σ) : V l E i d n Qr Qx pc L ((0, y) :: (1, x) :: st) σ := by
  obtain ⟨r, hr⟩ : ∃ r : Int64, ((jL x).toUInt64 >>> ((jI y).toInt64.toUInt64 &&& Int64.toUInt64 63)).toInt64 = r := ⟨_, rfl⟩
  have hz : jrL r.toInt := ⟨by have := r.le_toInt; omega, by have := r.toInt_lt; omega⟩
  refine V.op (fun _ h => ok_cs (v := (1, r.toInt)) hz (ok_tl (ok_tl h))) (fun hF _ w => lv_lushr hF.1 hF.2.1 hd hr ?_) (k _ hz)
  rw [List.map_cons, jtr1, show jL r.toInt = r from Int64.ofInt_toInt _] at w
  exact w
theorem V.l2iA {x : Int} (hd : decode i.2.1 pc = .ok (.l2i, 1)) (k : ∀ z : Int, jrI z → V l E i d n Qr Qx (pc + 1) L ((0, z) :: st) σ) : V l E i d n Qr Qx pc L ((1, x) :: st) σ := by
  refine V.op (fun _ h => ok_cs (v := (0, (jI x).toInt)) (jrI_to _) (ok_tl h)) (fun hF _ w => lv_l2i hF.1 hF.2.1 hd jL_l2i ?_) (k _ (jrI_to _))
  rw [List.map_cons, jtr0, jI_to] at w
  exact w
theorem V.i2c {x : Int} (hd : decode i.2.1 pc = .ok (.i2c, 1)) (h0 : 0 ≤ x) (h1 : x < 65536) (k : V l E i d n Qr Qx (pc + 1) L ((0, x) :: st) σ) : V l E i d n Qr Qx pc L ((0, x) :: st) σ := by
  refine V.op (fun _ h => h) (fun hF _ w => lv_i2c hF.1 hF.2.1 hd ?_ w) k
  obtain ⟨j, rfl⟩ : ∃ j : Nat, x = (j : Int) := ⟨x.toNat, by omega⟩
  show ((nI j).toUInt32 % 65536).toInt32 = nI j
  rw [pk_char, pk_tn (by omega), Nat.mod_eq_of_lt (by omega)]
theorem V.irem {x y : Int} (hd : decode i.2.1 pc = .ok (.irem, 1)) (h0 : 0 ≤ x) (h1 : 0 < y) (k : V l E i d n Qr Qx (pc + 1) L ((0, x % y) :: st) σ) : V l E i d n Qr Qx pc L ((0, y) :: (0, x) :: st) σ := by
  obtain ⟨a, rfl⟩ : ∃ a : Nat, x = (a : Int) := ⟨x.toNat, by omega⟩
  obtain ⟨b, rfl⟩ : ∃ b : Nat, y = (b : Int) := ⟨y.toNat, by omega⟩
  have hb : 0 < b := by omega
  refine V.op (fun _ h => ok_cs (v := (0, _)) ?_ (ok_tl (ok_tl h))) (fun hF hT w => lv_irem hF.1 hF.2.1 hd ?_ ?_) k
  · have hy : jrI (b : Int) := ok_hd h
    have := Int.emod_nonneg (a : Int) (show (b : Int) ≠ 0 by omega)
    have := Int.emod_lt_of_pos (a : Int) (show (0 : Int) < b by omega)
    exact ⟨by omega, by have := hy.2; omega⟩
  · intro q
    have hy : jrI (b : Int) := ok_hd hT.2.2.2.2.2.2.2
    have := (jI_eq hy jr0).mp q
    omega
  · have hy : jrI (b : Int) := ok_hd hT.2.2.2.2.2.2.2
    have hx : jrI (a : Int) := ok_hd (ok_tl hT.2.2.2.2.2.2.2)
    have e : jI (a : Int) - jI (a : Int) / jI (b : Int) * jI (b : Int) = jI ((a : Int) % (b : Int)) := pk_rem (by have := hx.2; omega) hb (by have := hy.2; omega)
    rw [List.map_cons, jtr0, ← e] at w
    exact w
theorem jok0 {x : Int} (h : jrI x) : jokv (0, x) := h
theorem jI_bits (x : Int) : (jI x).toBitVec.toNat = (x % 4294967296).toNat := by
  show (BitVec.ofInt 32 x).toNat = _
  rw [BitVec.toNat_ofInt]; rfl
theorem V.iand64 {x : Int} (hd : decode i.2.1 pc = .ok (.iand, 1)) (k : V l E i d n Qr Qx (pc + 1) L ((0, x % 64) :: st) σ) : V l E i d n Qr Qx pc L ((0, 63) :: (0, x) :: st) σ := by
  refine V.op (fun _ h => ok_cs (v := (0, x % 64)) (jok0 (x := x % 64) ⟨by omega, by omega⟩) (ok_tl (ok_tl h))) (fun hF hT w => lv_iand hF.1 hF.2.1 hd ?_) k
  have e : jI x &&& jI 63 = jI (x % 64) := by
    rw [pk_and (jI x) (m := jI 63) 6 (by decide +kernel), jI_bits]
    show Int32.ofInt (((x % 4294967296).toNat % 2 ^ 6 : Nat) : Int) = Int32.ofInt (x % 64)
    congr 1
    omega
  rw [List.map_cons, jtr0, ← e] at w
  exact w
theorem V.iand4096 {x : Int} (hd : decode i.2.1 pc = .ok (.iand, 1)) (k : V l E i d n Qr Qx (pc + 1) L ((0, x % 4096) :: st) σ) : V l E i d n Qr Qx pc L ((0, 4095) :: (0, x) :: st) σ := by
  refine V.op (fun _ h => ok_cs (v := (0, x % 4096)) (jok0 (x := x % 4096) ⟨by omega, by omega⟩) (ok_tl (ok_tl h))) (fun hF hT w => lv_iand hF.1 hF.2.1 hd ?_) k
  have e : jI x &&& jI 4095 = jI (x % 4096) := by
    rw [pk_and (jI x) (m := jI 4095) 12 (by decide +kernel), jI_bits]
    show Int32.ofInt (((x % 4294967296).toNat % 2 ^ 12 : Nat) : Int) = Int32.ofInt (x % 4096)
    congr 1
    omega
  rw [List.map_cons, jtr0, ← e] at w
  exact w
-- Math
theorem V.mmaxI {ix : Nat} {x y : Int} (hd : decode i.2.1 pc = .ok (.invokestatic ix, 3)) (h1 : Cond.methodLink i.1.cls ix Lib.Math.max.name ∈ jG) (h2 : Cond.static Lib.Math.max.name ∈ jG) (h3 : Cond.initialized "java/lang/Math" ∈ jG) (h4 : Cond.code Lib.Math.max.name Lib.Math.max.code 2 (some .int) ∈ jG) (hd1 : 1 ≤ d) (hw : Nat.ble (jwt st) 8 = true) (k : V l E i d n Qr Qx (pc + 3) L ((0, max x y) :: st) σ) : V l E i d n Qr Qx pc L ((0, y) :: (0, x) :: st) σ := by
  refine V.op (fun _ h => ok_cs (v := (0, _)) ?_ (ok_tl (ok_tl h))) (fun hF hT w => va_mmax hF.1 hF.2.1 (by rw [hT.2.2.2.2.2.1.1]; exact hF.2.2.1) hF.2.2.2.1 (hF.2.2.2.2.1 _ h1) (hF.2.2.2.2.1 _ h2) (hF.2.2.2.2.1 _ h3) (hF.2.2.2.2.1 _ h4) (by have := hF.2.2.2.2.2.2.1; omega) ?_ (by have := hT.2.2.2.1; have := hF.2.2.2.2.2.2.2.2.1; omega) (by have := hT.2.2.2.2.1; have := hF.2.2.2.2.2.2.2.2.2.1; omega) hd ?_) k
  · have := ok_hd h; have := ok_hd (ok_tl h)
    rcases Int.le_total x y with q | q
    · rw [Int.max_eq_right q]; assumption
    · rw [Int.max_eq_left q]; assumption
  · have := hF.2.2.2.2.2.2.2.1
    have := Nat.ble_eq.mp hw
    rw [jwt_eq]; omega
  · have hy := ok_hd hT.2.2.2.2.2.2.2
    have hx := ok_hd (ok_tl hT.2.2.2.2.2.2.2)
    have e : (if jI x < jI y then jI y else jI x) = jI (max x y) := by
      by_cases q : x < y
      · rw [if_pos ((jI_lt hx hy).mpr q), Int.max_eq_right (by omega)]
      · rw [if_neg (fun z => q ((jI_lt hx hy).mp z)), Int.max_eq_left (by omega)]
    rw [List.map_cons, jtr0, ← e] at w
    exact w
theorem V.mminL {ix : Nat} {x y : Int} (hd : decode i.2.1 pc = .ok (.invokestatic ix, 3)) (h1 : Cond.methodLink i.1.cls ix Lib.MathLoose.min_long.x ∈ jG) (h2 : Cond.static Lib.MathLoose.min_long.x ∈ jG) (h3 : Cond.initialized "java/lang/Math" ∈ jG) (h4 : Cond.code Lib.MathLoose.min_long.x Lib.MathLoose.min_long.code 4 (some .long) ∈ jG) (hd1 : 1 ≤ d) (hw : Nat.ble (jwt st) 8 = true) (k : V l E i d n Qr Qx (pc + 3) L ((1, min x y) :: st) σ) : V l E i d n Qr Qx pc L ((1, y) :: (1, x) :: st) σ := by
  refine V.op (fun _ h => ok_cs (v := (1, _)) ?_ (ok_tl (ok_tl h))) (fun hF hT w => va_mmin_long hF.1 hF.2.1 (by rw [hT.2.2.2.2.2.1.1]; exact hF.2.2.1) hF.2.2.2.1 (hF.2.2.2.2.1 _ h1) (hF.2.2.2.2.1 _ h2) (hF.2.2.2.2.1 _ h3) (hF.2.2.2.2.1 _ h4) (by have := hF.2.2.2.2.2.2.1; omega) ?_ (by have := hT.2.2.2.1; have := hF.2.2.2.2.2.2.2.2.1; omega) (by have := hT.2.2.2.2.1; have := hF.2.2.2.2.2.2.2.2.2.1; omega) hd ?_) k
  · have := ok_hd h; have := ok_hd (ok_tl h)
    rcases Int.le_total x y with q | q
    · rw [Int.min_eq_left q]; assumption
    · rw [Int.min_eq_right q]; assumption
  · have := hF.2.2.2.2.2.2.2.1
    have := Nat.ble_eq.mp hw
    rw [jwt_eq]; omega
  · have hy := ok_hd hT.2.2.2.2.2.2.2
    have hx := ok_hd (ok_tl hT.2.2.2.2.2.2.2)
    have e : (if jL y < jL x then jL y else jL x) = jL (min x y) := by
      by_cases q : y < x
      · rw [if_pos ((jL_lt hy hx).mpr q), Int.min_eq_right (by omega)]
      · rw [if_neg (fun z => q ((jL_lt hy hx).mp z)), Int.min_eq_left (by omega)]
    rw [List.map_cons, jtr1, ← e] at w
    exact w
-- the script, lengths
theorem V.slen {q : Int} (hs : i.2.2.2.2.2 = true) (hL : E.2.2.2.2.1 ≤ 2048) (hd : decode i.2.1 pc = .ok (.arraylength, 1)) (k : V l E i d n Qr Qx (pc + 1) L ((0, (E.2.2.2.2.1 : Int)) :: st) σ) : V l E i d n Qr Qx pc L ((7, q) :: st) σ := by
  intro p e R s m args below meth c A cm sm Z hF hX hZ H locs cells slots ls hT
  obtain ⟨x1, x2, x3⟩ := hX hs
  refine va_slen hF.1 hF.2.1 x1 x2 x3 hT.2.2.1 hd ?_
  obtain ⟨g1, g2, g3, g4, g5, g6, g7, g8⟩ := hT
  exact k p e R s m args below meth c A cm sm Z hF hX hZ H locs cells slots ls ⟨g1, g2, g3, g4, g5, g6, g7, ok_cs (v := (0, _)) ⟨by omega, by omega⟩ (ok_tl g8)⟩
theorem V.sld {q x : Int} (hs : i.2.2.2.2.2 = true) (hL : E.2.2.2.2.1 ≤ 2048) (hd : decode i.2.1 pc = .ok (.iaload, 1)) (h0 : 0 ≤ x) (h1 : x < (E.2.2.2.2.1 : Int)) (k : V l E i d n Qr Qx (pc + 1) L ((0, (E.2.2.2.2.2 x.toNat).toInt) :: st) σ) : V l E i d n Qr Qx pc L ((0, x) :: (7, q) :: st) σ := by
  intro p e R s m args below meth c A cm sm Z hF hX hZ H locs cells slots ls hT
  obtain ⟨x1, x2, x3⟩ := hX hs
  refine va_sld hF.1 hF.2.1 x1 x2 x3 hT.2.2.1 (jI_in h0 h1 (by omega)) hd ?_
  obtain ⟨g1, g2, g3, g4, g5, g6, g7, g8⟩ := hT
  have := k p e R s m args below meth c A cm sm Z hF hX hZ H locs cells slots ls ⟨g1, g2, g3, g4, g5, g6, g7, ok_cs (v := (0, _)) (jrI_to _) (ok_tl (ok_tl g8))⟩
  rw [List.map_cons, jtr0, jI_to] at this
  rw [jI_clamp h0 (by omega)]
  exact this
theorem V.alen {cell N : Nat} {fs : List (Nat × Int)} {q : Int} (cell' : Nat) (hq : q.toNat = cell) (hsh : jsh cell = (0, N, fs)) (hlt : Nat.blt cell 34 = true) (hN : Nat.blt N 2147483648 = true) (hd : decode i.2.1 pc = .ok (.arraylength, 1)) (kk : V l E i d n Qr Qx (pc + 1) L ((0, (N : Int)) :: st) σ) : V l E i d n Qr Qx pc L ((2, q) :: st) σ := by
  subst hq
  have hN := Nat.blt_eq.mp hN
  have hlt := Nat.blt_eq.mp hlt
  intro p e R s m args below meth c A cm sm Z hF hX hZ H locs cells slots ls hT
  obtain ⟨g1, g2, g3, g4, g5, g6, g7, g8⟩ := hT
  refine va_alen (D := E.2.1) (cl := jcl) (ws := jw E σ) (tys := jtys E) (a := E.1 q.toNat) hF.1 hF.2.1 g1.2.2 g1.1 q.toNat 0 (by rw [jw_get E σ hlt, jcell_i hsh]) rfl (v := jI (N : Int)) rfl hd ?_
  exact kk p e R s m args below meth c A cm sm Z hF hX hZ H locs cells slots ls ⟨g1, g2, g3, g4, g5, g6, g7, ok_cs (v := (0, _)) ⟨by omega, by omega⟩ (ok_tl g8)⟩
end JR5
