/-! ===== V's ends, throws and calls ===== -/
theorem jG_good {ws : List Cond} (h : ∀ w ∈ ws, w ∈ jG) : GoodIn jG ws := fun w hw => ⟨h w hw, good_of_word (List.mem_filter.mp (h w hw)).2⟩
def jwsP (k : JI) : List Cond := Cond.code k.1 k.2.1 k.2.2.1 k.2.2.2.1 :: jG
def jwsH (k : JI) : List Cond := Cond.codeWith k.1 k.2.1 k.2.2.1 k.2.2.2.1 k.2.2.2.2.1 :: jG
def jrm (d n : Nat) : Room := { frames := d, cells := n, slots := 6 * n, locals := 46 * d }
def jPc (E : JE) (sz : Nat) (As : List JV) (σ : JM) : Array Value → State → Prop := va_Pc (As.map (jtr E)) (fun U => U.heap.size = sz ∧ jokm σ ∧ (∀ v ∈ As, jokv v) ∧ jWd E (jA E sz) U U.heap σ ∧ jCX (jA E sz) U)
/-- THE CONTRACT of a method: with these arguments and this memory, with d frames and n new cells to spend, it returns as Qr says or throws as Qx says -/
def JSp (i : JI) (d n : Nat) (As : List JV) (σ : JM) (Qr : Option JV → JM → Prop) (Qx : String → JM → Prop) : Prop :=
  ∀ (l : Launch) (E : JE) (sz : Nat), l.stackTraces = false → vx_Met l i.1 (jwsP i) (jrm d n) (jPc E sz As σ) (jQc E (jA E sz) Qr) (jXC E (jA E sz) Qx) n (6 * n) (jA E sz)
/-- the same of a method with handlers -/
def JSpH (i : JI) (d n : Nat) (As : List JV) (σ : JM) (Qr : Option JV → JM → Prop) (Qx : String → JM → Prop) : Prop :=
  ∀ (l : Launch) (E : JE) (sz : Nat), l.stackTraces = false → vx_Met l i.1 (jwsH i) (jrm d n) (jPc E sz As σ) (jQc E (jA E sz) Qr) (jXC E (jA E sz) Qx) n (6 * n) (jA E sz)
theorem jPc_blind (E : JE) (sz : Nat) (As : List JV) (σ : JM) : FrameBlind (jPc E sz As σ) := by
  intro a U g mk h
  obtain ⟨h1, h2, h3, h4, h5, h6⟩ := h
  exact ⟨h1, h2, h3, h4, ⟨h5.1, h5.2.1, va_K.moved (u := U) (U := U.calling g mk a) (Vm.Alike.refl U.vm) h5.2.2⟩, jCX_vm h6 rfl rfl⟩
section JR4
variable {l : Launch} {E : JE} {i : JI} {d n : Nat} {Qr Qr' : Option JV → JM → Prop} {Qx Qx' : String → JM → Prop} {pc : Nat} {L L' st : List JV} {σ : JM}
theorem V.ret {v : Option JV} (hr : jret i v pc) (hq : Qr v σ) : V l E i d n Qr Qx pc L v.toList σ := by
  intro p e R s m args below meth c A cm sm Z hF hX hZ H locs cells slots ls hT
  obtain ⟨g1, g2, g3, g4, g5, g6, g7, g8⟩ := hT
  have := hZ.1 H locs cells slots σ v pc ls g1 g2 g3 (by omega) (by omega) hq (fun w hw => g8 w (by rw [hw]; simp)) hr
  cases v with
  | none => exact this
  | some w => exact this
theorem V.iret {x : Int} (hr : jret i (some (0, x)) pc) (hq : Qr (some (0, x)) σ) : V l E i d n Qr Qx pc L [(0, x)] σ := V.ret (v := some (0, x)) hr hq
theorem V.vret (hr : jret i none pc) (hq : Qr none σ) : V l E i d n Qr Qx pc L [] σ := V.ret (v := none) hr hq
theorem V.lret {x : Int} (hr : jret i (some (1, x)) pc) (hq : Qr (some (1, x)) σ) : V l E i d n Qr Qx pc L [(1, x)] σ := V.ret (v := some (1, x)) hr hq
theorem V.fret {x : Int} (hr : jret i (some (4, x)) pc) (hq : Qr (some (4, x)) σ) : V l E i d n Qr Qx pc L [(4, x)] σ := V.ret (v := some (4, x)) hr hq
theorem V.dret {x : Int} (hr : jret i (some (5, x)) pc) (hq : Qr (some (5, x)) σ) : V l E i d n Qr Qx pc L [(5, x)] σ := V.ret (v := some (5, x)) hr hq
/-- the words of a throw -/
def jTA (own : String) (ik is ic : Nat) (cls text : String) (names : List String) : Prop := Bundle.fit cls = true ∧ (∀ x ∈ names, Bundle.fit x = true) ∧ Cond.classLink own ik cls ∈ jG ∧ Cond.initialized cls ∈ jG ∧ (own, is, text) ∈ jStr ∧ (∀ w ∈ (vx_atS own ic cls names).filter goodWord, w ∈ jG) ∧
  (∀ w ∈ (vx_atS own ic cls names).filter (fun w => !goodWord w), w ∈ Cond.castable cls cls :: jDecl.map Cond.declares) ∧ (cls, cls) ∈ jCast ∧ (∀ w ∈ Cond.classLink own ik cls :: Cond.initialized cls :: vx_atS own ic cls names, vx_ot w = true) ∧ names.length ≤ 3
theorem jWd_up {A : Nat → Prop} {s t : State} {H : Heap} (h : jWd E A s H σ) (hvm : s.vm.Alike t.vm) (hk : ∀ q : Nat, q < H.size → t.heap[q]? = H[q]?) : jWd E A t t.heap σ :=
  ⟨fun k q hq => (h.1 k q hq).kept (hk q.1 (h.1 k q hq).lt), h.2.1, va_K.moved hvm h.2.2⟩
theorem V.throw {ik is ic : Nat} {cls text : String} {names : List String} (ta : jTA i.1.cls ik is ic cls text names) (hh : i.2.2.2.2.1 = []) (hd : 7 ≤ d) (hq : Qx cls σ)
    (d0 : decode i.2.1 pc = .ok (.new ik, 3)) (d3 : decode i.2.1 (pc + 3) = .ok (.dup, 1)) (d4 : decode i.2.1 (pc + 4) = .ok (.ldc is, 2)) (d6 : decode i.2.1 (pc + 6) = .ok (.invokespecial ic, 3)) (d9 : decode i.2.1 (pc + 9) = .ok (.athrow, 1)) : V l E i d (n + 1) Qr Qx pc L [] σ := by
  intro p e R s m args below meth c A cm sm Z hF hX hZ H locs cells slots ls hT
  obtain ⟨f1, f2, f3, f4, f5, f6, f7, f8, f9, f10, f11, f12, f13, f14⟩ := hF
  obtain ⟨g1, g2, g3, g4, g5, g6, g7, g8⟩ := hT
  obtain ⟨t1, t2, t3, t4, t5, t6, t7, t8, t9, t10⟩ := ta
  rcases hZ.2 with ⟨Qc, XC, free, rfl, hfree, hXC⟩ | hno
  · obtain ⟨sa, hsa⟩ := f12.2.1 _ t5
    have hcast : (Cond.castable cls cls).before args s = true := va_Nw.use rfl (f12.2.2.1 _ t8).1
    have hdecl : ∀ w ∈ jDecl.map Cond.declares, w.before args s = true := fun w hw => by
      obtain ⟨y, hy, rfl⟩ := List.mem_map.mp hw
      exact va_Nw.use rfl ((f12.2.2.1 _ t8).2 y hy)
    refine vx_throwS (own := i.1.cls) (cls := cls) (text := text) (names := names) (ik := ik) (is := is) (ic := ic) (sa := sa) (A := A) f1 f2 f6 f4 t1 t2 (f5 _ t3) (f5 _ t4) hsa (vx_hat (B := Cond.castable cls cls :: jDecl.map Cond.declares) (fun w hw => f5 w (t6 w hw)) t7 (vx_c hcast hdecl)) t9 f12.2.2.2.2.1 f12.2.2.2.2.2 g3 (by rw [g6.1, f3]) d0 d3 d4 d6 d9 ?_ (by omega) ?_ (by omega) (by omega) f14 (fun t ht1 ht2 ht3 => ?_) (fun z hz => hfree _ (g3.2.2 z hz)) (by omega) (by omega)
    · intro x hx
      rw [f13, hh] at hx
      cases hx
    · show (([] : List Value).map fun v => v.category).sum + (13 * (names.length + 1) + 43) ≤ R.locals
      simp only [List.map_nil, List.sum_nil]
      omega
    · refine hXC cls t σ ht1 ⟨Nat.le_trans g3.1 ht2, fun q h1 h2 => ?_⟩ g2 (jWd_up g1 ht1 ht3) hq
      rw [ht3 q (Nat.lt_of_lt_of_le h1 g3.1)]
      exact g3.2.1 q h1 h2
  · exact absurd hq (hno cls σ)
/-- behind a call -/
theorem jrunW {n' : Nat} {st0 : List JV} (hn : n' ≤ n) {p : Program} {e : Env} {R : Room} {s : State} {m : MethodId} {args : Array Value} {below : List Frame} {meth : Method} {c : Code} {A : Nat → Prop} {cm sm : Nat} {Z : State → Prop}
    (hF : jFix l i d p R s m args meth c A cm sm) (hX : i.2.2.2.2.2 = true → jScr E A s) (hZ : jFin l E i Qr Qx p e R s m args below meth c A cm sm Z) {H : Heap} {locs : List Loc} {cells slots : Nat} {ls : Array Slot} (hT : jSt E i n s A H locs cells slots cm sm ls L st0 σ) (hst : ∀ v ∈ st, jokv v) {a : Array Value}
    (hrun : vx_Run p l e R s m args below meth c H locs cells slots n' (6 * n') (F0 m pc ls (st0.map (jtr E))) (st.map (jtr E)) (jQc E (jA E H.size) Qr' a) (jXC E (jA E H.size) Qx') (jA E H.size))
    (kr : ∀ (v : Option JV) (σ' : JM), Qr' v σ' → (∀ w, v = some w → jokv w) → V l E i d (n - n') Qr Qx (pc + 3) L (v.toList ++ st) σ')
    (kx : ∀ (X : String) (σ' : JM), Qx' X σ' → ∀ (q : Nat) (ce : Cell) (H1 : Heap) (locs1 : List Loc), jSt E i (n - n') s A H1 locs1 (cells + n') (slots + 6 * n') cm sm ls L st σ' → H1[q]? = some ce → ce.vm = .none → s.vm.findClass X = some ce.cls → vx_W p l e R s m args below meth c H1 locs1 (cells + n') (slots + 6 * n') Z (F0 m pc ls (st.map (jtr E))) q) :
    W p l e R s m args below meth c H locs cells slots Z (F0 m pc ls (st0.map (jtr E))) := by
  obtain ⟨g1, g2, g3, g4, g5, g6, g7, g8⟩ := hT
  have hA : ∀ q, jA E H.size q → A q := fun q hq => by
    rcases hq with ⟨k, hk, rfl⟩ | hq
    · exact jw_addr g1.2.1 hk
    · exact hF.2.2.2.2.2.2.2.2.2.2.1 q (Nat.le_trans g3.1 hq)
  intro T hT0 X
  rcases hrun T hT0 X with ⟨v, st₀, t, T', Ls, h0, X', hL, e1, e2, ⟨⟨v', σ', hv, hq, hok, h5, h6⟩, hFr⟩, stp⟩ | ⟨q, st₀, t, T', Ls, X9, ce, h0, X', hL, e1, e2, ⟨⟨σ', hq, h5, h6⟩, hFr⟩, hce, hcv, hcl, stp⟩
  · cases hv
    obtain ⟨k1, k2, k3⟩ := vx_keep h0 e1 g3 (fun q _ h => hA q h) hA hL hFr
    have hw : jWd E A s T'.heap σ' := ⟨by rw [e1]; exact h6.1, jD_any g1.2.1 σ', g1.2.2⟩
    obtain ⟨t2, a1, b1⟩ := kr v' σ' hq hok p e R s m args below meth c A cm sm Z hF hX hZ T'.heap (locs ++ Ls) (cells + n') (slots + 6 * n') ls ⟨hw, h5, k3, by omega, by omega, g6, g7, fun w hw => by
      rcases List.mem_append.mp hw with h | h
      · exact hok w (by cases v' <;> simp_all)
      · exact hst w h⟩ T' rfl X'
    refine ⟨t2, stp t2 ?_, b1⟩
    cases v' <;> exact a1
  · obtain ⟨k1, k2, k3⟩ := vx_keep h0 e1 g3 (fun q _ h => hA q h) hA hL hFr
    have hw : jWd E A s T'.heap σ' := ⟨by rw [e1]; exact h6.1, jD_any g1.2.1 σ', g1.2.2⟩
    obtain ⟨t2, a1, b1⟩ := kx X9 σ' hq q ce T'.heap (locs ++ Ls) ⟨hw, h5, k3, by omega, by omega, g6, g7, hst⟩ (by rw [e1]; exact hce) hcv hcl T' rfl X'
    exact ⟨t2, stp.trans a1, b1⟩
/-- not caught here -/
theorem jpass {n' : Nat} (hh : i.2.2.2.2.1 = []) {p : Program} {e : Env} {R : Room} {s : State} {m : MethodId} {args : Array Value} {below : List Frame} {meth : Method} {c : Code} {A : Nat → Prop} {cm sm : Nat} {Z : State → Prop}
    (hF : jFix l i d p R s m args meth c A cm sm) (hZ : jFin l E i Qr Qx p e R s m args below meth c A cm sm Z) {X : String} {q : Nat} {ce : Cell} {H1 : Heap} {locs1 : List Loc} {cells slots : Nat} {ls : Array Slot} {σ' : JM} (hq : Qx X σ') (hT : jSt E i n' s A H1 locs1 cells slots cm sm ls L st σ') (hce : H1[q]? = some ce) (hcv : ce.vm = .none) (hcl : s.vm.findClass X = some ce.cls) :
    vx_W p l e R s m args below meth c H1 locs1 cells slots Z (F0 m pc ls (st.map (jtr E))) q := by
  obtain ⟨f1, f2, f3, f4, f5, f6, f7, f8, f9, f10, f11, f12, f13, f14⟩ := hF
  obtain ⟨g1, g2, g3, g4, g5, g6, g7, g8⟩ := hT
  rcases hZ.2 with ⟨Qc, XC, free, rfl, hfree, hXC⟩ | hno
  · refine vx_out (fun x hx => ?_) f14 hce hcv hcl (fun t ht hvm => ?_) (fun z hz => hfree _ (g3.2.2 z hz)) (by omega) (by omega)
    · rw [f13, hh] at hx
      cases hx
    · exact hXC X t σ' hvm (g3.F ht) g2 (jWd_up g1 hvm (fun a _ => by rw [ht])) hq
  · exact absurd hq (hno X σ')
/-- the words of a virtual call -/
def jKV (own : String) (ix cell : Nat) (k : JI) (na : Nat) : Prop := ∃ (ci : Nat) (fs : List (Nat × Int)) (C : String) (T : u_T) (N : Nat), jsh cell = (4, ci, fs) ∧ cell < 34 ∧ jcl[ci]? = some (C, T, N) ∧ k.1.cls = C ∧ Cond.methodLink own ix k.1 ∈ jG ∧ Cond.instanceMethod k.1 ∈ jG ∧ Cond.selects C k.1 k.1 ∈ jG ∧ Cond.initialized C ∈ jG ∧ Cond.code k.1 k.2.1 k.2.2.1 k.2.2.2.1 ∈ jG ∧
  (k.1.cls ≠ "java/lang/invoke/MethodHandle" ∧ k.1.cls ≠ "java/lang/invoke/VarHandle" ∧ (parseMethodDescriptor k.1.desc).map (fun d => d.parameters.length) = some na) ∧ k.2.2.1 ≤ 27
theorem jroom {d' n' mL : Nat} {p : Program} {R : Room} {s : State} {m : MethodId} {args : Array Value} {meth : Method} {c : Code} {A : Nat → Prop} {cm sm : Nat} (hF : jFix l i d p R s m args meth c A cm sm) (hd : d' < d) (hm : mL ≤ 27) : (jrm d' n').frames + 1 ≤ R.frames ∧ 8 + (mL + 11) + (jrm d' n').locals ≤ R.locals := by
  obtain ⟨f1, f2, f3, f4, f5, f6, f7, f8, -⟩ := hF
  show d' + 1 ≤ R.frames ∧ 8 + (mL + 11) + 46 * d' ≤ R.locals
  omega
def jwt (st : List JV) : Nat := (st.map fun v => if jc2 v.1 = true then 2 else 1).sum
theorem jwt_eq (st : List JV) : ((st.map (jtr E)).map fun v => v.category).sum = jwt st := by
  unfold jwt
  rw [List.map_map]
  congr 1
  apply List.map_congr_left
  intro v _
  exact jtr_cat E v
theorem jpre {As : List JV} {p : Program} {R : Room} {s : State} {m : MethodId} {args : Array Value} {meth : Method} {c : Code} {A : Nat → Prop} {cm sm : Nat} (hF : jFix l i d p R s m args meth c A cm sm) {H : Heap} {locs : List Loc} {cells slots : Nat} {ls : Array Slot} (hT : jSt E i n s A H locs cells slots cm sm ls L st σ) (hAs : ∀ v ∈ As, jokv v) : ∀ U : State, U.heap = H → s.WarmedH U.vm → jPc E H.size As σ ((As.map (jtr E)).toArray) U := by
  obtain ⟨g1, g2, g3, g4, g5, g6, g7, g8⟩ := hT
  have hA : ∀ q, jA E H.size q → A q := fun q hq => by
    rcases hq with ⟨k, hk, rfl⟩ | hq
    · exact jw_addr g1.2.1 hk
    · exact hF.2.2.2.2.2.2.2.2.2.2.1 q (Nat.le_trans g3.1 hq)
  intro U hU hW
  exact ⟨rfl, by rw [hU], g2, hAs, ⟨by rw [hU]; exact g1.1, jD_to g1.2.1 (fun k hk => Or.inl ⟨k, hk, rfl⟩), va_K.moved hW.alike g1.2.2⟩, jCX_to hF.2.2.2.2.2.2.2.2.2.2.2.1 hW hU g3 hA⟩
theorem jrev (As : List JV) (q : JV) (st : List JV) : ((As.reverse ++ q :: st).map (jtr E)) = (As.map (jtr E)).reverse ++ jtr E q :: st.map (jtr E) := by simp
theorem jrevS (As : List JV) (st : List JV) : ((As.reverse ++ st).map (jtr E)) = (As.map (jtr E)).reverse ++ st.map (jtr E) := by simp
/-- a virtual call: As the arguments in their order, st what lies below -/
theorem V.callV {k : JI} {ix cell d' n' : Nat} {q : Int} (As : List JV) {st0 : List JV} (hst0 : st0 = As.reverse ++ (2, q) :: st) (kv : jKV i.1.cls ix cell k As.length) (hq : q.toNat = cell) (hd : decode i.2.1 pc = .ok (.invokevirtual ix, 3)) (hlt : d' < d) (hn : n' ≤ n) (hw : Nat.ble (jwt st) 8 = true) (hl : l.stackTraces = false → (∀ v ∈ As, jokv v) → JSp k d' n' ((2, q) :: As) σ Qr' Qx')
    (hh : i.2.2.2.2.1 = []) (kr : ∀ (v : Option JV) (σ' : JM), Qr' v σ' → (∀ w, v = some w → jokv w) → V l E i d (n - n') Qr Qx (pc + 3) L (v.toList ++ st) σ') (kx : ∀ (X : String) (σ' : JM), Qx' X σ' → Qx X σ') : V l E i d n Qr Qx pc L st0 σ := by
  subst hst0
  obtain ⟨ci, fs, C, T, N, h1, h2, h3, h4, h5, h6, h7, h8, h9, h10, h11⟩ := kv
  subst hq
  intro p e R s m args below meth c A cm sm Z hF hX hZ H locs cells slots ls hT
  have g8 := hT.2.2.2.2.2.2.2
  have hAs : ∀ v ∈ As, jokv v := fun v hv => g8 v (List.mem_append_left _ (List.mem_reverse.mpr hv))
  have hAs2 : ∀ v ∈ (2, q) :: As, jokv v := ok_cs (v := (2, q)) trivial hAs
  have hst : ∀ v ∈ st, jokv v := fun v hv => g8 v (List.mem_append_right _ (List.mem_cons_of_mem _ hv))
  refine jrunW (n' := n') (st := st) hn hF hX hZ hT hst (a := (((2, q) :: As).map (jtr E)).toArray) ?_ kr (fun X σ' hq' q9 ce H1 locs1 hT1 hce hcv hcl => jpass hh hF hZ (kx X σ' hq') hT1 hce hcv hcl)
  refine vx_runV (cc := i.2.1) (nL := i.2.2.1) (own := i.1.cls) (Ts := jG) (C := C) (b := E.1 q.toNat) (As := As.map (jtr E)) (rest := st.map (jtr E)) (n := As.length) (maxL := k.2.2.1) (ret := k.2.2.2.1) (bytes := k.2.1) (ws := jwsP k) (rm := jrm d' n') ⟨hF.1, hF.2.1, hF.2.2.1, hF.2.2.2.1, hF.2.2.2.2.1⟩ (hl hF.2.2.2.2.2.1 hAs l E H.size hF.2.2.2.2.2.1) (cwV As.length hF.2.2.2.2.1 (jG_good (fun w hw => ?_)) rfl rfl rfl ⟨h4, h10⟩ (jroom hF hlt h11)) ⟨jPc_blind E H.size _ σ, va_recv hT.1.2.2 hT.1.1 (ci := ci) (q0 := q.toNat) h3 (by rw [jw_get E σ h2, jcell_o h1]), jpre hF hT hAs2⟩ rfl (by rw [List.length_map]) hT.2.2.2.2.2.1.1 (jrev As (2, q) st) ?_ hd ⟨by have := hT.2.2.2.1; have := hF.2.2.2.2.2.2.2.2.1; omega, by have := hT.2.2.2.2.1; have := hF.2.2.2.2.2.2.2.2.2.1; omega⟩
  · simp only [wsV, jwsP, List.cons_append, List.nil_append, List.mem_cons] at hw
    rcases hw with rfl | rfl | rfl | rfl | rfl | hw
    · exact h5
    · exact h6
    · exact h7
    · exact h8
    · exact h9
    · exact hw
  · show 2 * 0 + _ ≤ 8
    rw [jwt_eq]
    have := Nat.ble_eq.mp hw
    omega
/-- the words of a static call -/
def jKS (own : String) (ix : Nat) (k : JI) (na : Nat) : Prop := Cond.methodLink own ix k.1 ∈ jG ∧ Cond.static k.1 ∈ jG ∧ Cond.initialized k.1.cls ∈ jG ∧ Cond.code k.1 k.2.1 k.2.2.1 k.2.2.2.1 ∈ jG ∧
  (k.1.cls ≠ "java/lang/invoke/MethodHandle" ∧ k.1.cls ≠ "java/lang/invoke/VarHandle" ∧ (parseMethodDescriptor k.1.desc).map (fun d => d.parameters.length) = some na) ∧ k.2.2.1 ≤ 27
theorem V.callS {k : JI} {ix d' n' : Nat} (As : List JV) {st0 : List JV} (hst0 : st0 = As.reverse ++ st) (kv : jKS i.1.cls ix k As.length) (hd : decode i.2.1 pc = .ok (.invokestatic ix, 3)) (hlt : d' < d) (hn : n' ≤ n) (hw : Nat.ble (jwt st) 8 = true) (hl : l.stackTraces = false → (∀ v ∈ As, jokv v) → JSp k d' n' As σ Qr' Qx')
    (hh : i.2.2.2.2.1 = []) (kr : ∀ (v : Option JV) (σ' : JM), Qr' v σ' → (∀ w, v = some w → jokv w) → V l E i d (n - n') Qr Qx (pc + 3) L (v.toList ++ st) σ') (kx : ∀ (X : String) (σ' : JM), Qx' X σ' → Qx X σ') : V l E i d n Qr Qx pc L st0 σ := by
  subst hst0
  obtain ⟨h5, h6, h8, h9, h10, h11⟩ := kv
  intro p e R s m args below meth c A cm sm Z hF hX hZ H locs cells slots ls hT
  have g8 := hT.2.2.2.2.2.2.2
  have hAs : ∀ v ∈ As, jokv v := fun v hv => g8 v (List.mem_append_left _ (List.mem_reverse.mpr hv))
  have hst : ∀ v ∈ st, jokv v := fun v hv => g8 v (List.mem_append_right _ hv)
  refine jrunW (n' := n') (st := st) hn hF hX hZ hT hst (a := ((As).map (jtr E)).toArray) ?_ kr (fun X σ' hq' q9 ce H1 locs1 hT1 hce hcv hcl => jpass hh hF hZ (kx X σ' hq') hT1 hce hcv hcl)
  refine vx_runS (cc := i.2.1) (nL := i.2.2.1) (own := i.1.cls) (Ts := jG) (As := As.map (jtr E)) (rest := st.map (jtr E)) (n := As.length) (maxL := k.2.2.1) (ret := k.2.2.2.1) (bytes := k.2.1) (ws := jwsP k) (rm := jrm d' n') ⟨hF.1, hF.2.1, hF.2.2.1, hF.2.2.2.1, hF.2.2.2.2.1⟩ (hl hF.2.2.2.2.2.1 hAs l E H.size hF.2.2.2.2.2.1) (va_cwS As.length hF.2.2.2.2.1 (jG_good (fun w hw => ?_)) rfl rfl rfl h10 (jroom hF hlt h11)) ⟨jPc_blind E H.size _ σ, jpre hF hT hAs⟩ rfl (by rw [List.length_map]) hT.2.2.2.2.2.1.1 (jrevS As st) ?_ hd ⟨by have := hT.2.2.2.1; have := hF.2.2.2.2.2.2.2.2.1; omega, by have := hT.2.2.2.2.1; have := hF.2.2.2.2.2.2.2.2.2.1; omega⟩
  · simp only [va_wsS, jwsP, List.cons_append, List.nil_append, List.mem_cons] at hw
    rcases hw with rfl | rfl | rfl | rfl | hw
    · exact h5
    · exact h6
    · exact h8
    · exact h9
    · exact hw
  · show 2 * 0 + _ ≤ 8
    rw [jwt_eq]
    have := Nat.ble_eq.mp hw
    omega
/-- the words of a static call of a nest mate's private method -/
def jKN (own : String) (ix : Nat) (k : JI) (na : Nat) : Prop := (∃ host : String, (own, ix, k.1, host) ∈ jNest) ∧ Cond.static k.1 ∈ jG ∧ Cond.initialized k.1.cls ∈ jG ∧ Cond.code k.1 k.2.1 k.2.2.1 k.2.2.2.1 ∈ jG ∧
  (k.1.cls ≠ "java/lang/invoke/MethodHandle" ∧ k.1.cls ≠ "java/lang/invoke/VarHandle" ∧ (parseMethodDescriptor k.1.desc).map (fun d => d.parameters.length) = some na) ∧ k.2.2.1 ≤ 27
theorem V.callN {k : JI} {ix d' n' : Nat} (As : List JV) {st0 : List JV} (hst0 : st0 = As.reverse ++ st) (kv : jKN i.1.cls ix k As.length) (hd : decode i.2.1 pc = .ok (.invokestatic ix, 3)) (hlt : d' < d) (hn : n' ≤ n) (hw : Nat.ble (jwt st) 8 = true) (hl : l.stackTraces = false → (∀ v ∈ As, jokv v) → JSp k d' n' As σ Qr' Qx')
    (hh : i.2.2.2.2.1 = []) (kr : ∀ (v : Option JV) (σ' : JM), Qr' v σ' → (∀ w, v = some w → jokv w) → V l E i d (n - n') Qr Qx (pc + 3) L (v.toList ++ st) σ') (kx : ∀ (X : String) (σ' : JM), Qx' X σ' → Qx X σ') : V l E i d n Qr Qx pc L st0 σ := by
  subst hst0
  obtain ⟨⟨host, h5⟩, h6, h8, h9, h10, h11⟩ := kv
  intro p e R s m args below meth c A cm sm Z hF hX hZ H locs cells slots ls hT
  have g8 := hT.2.2.2.2.2.2.2
  have hAs : ∀ v ∈ As, jokv v := fun v hv => g8 v (List.mem_append_left _ (List.mem_reverse.mpr hv))
  have hst : ∀ v ∈ st, jokv v := fun v hv => g8 v (List.mem_append_right _ hv)
  refine jrunW (n' := n') (st := st) hn hF hX hZ hT hst (a := ((As).map (jtr E)).toArray) ?_ kr (fun X σ' hq' q9 ce H1 locs1 hT1 hce hcv hcl => jpass hh hF hZ (kx X σ' hq') hT1 hce hcv hcl)
  refine vx_runSN (cc := i.2.1) (nL := i.2.2.1) (own := i.1.cls) (host := host) (Ts := jG) (As := As.map (jtr E)) (rest := st.map (jtr E)) (n := As.length) (maxL := k.2.2.1) (ret := k.2.2.2.1) (bytes := k.2.1) (ws := jwsP k) (rm := jrm d' n') ⟨hF.1, hF.2.1, hF.2.2.1, hF.2.2.2.1, hF.2.2.2.2.1⟩ (hl hF.2.2.2.2.2.1 hAs l E H.size hF.2.2.2.2.2.1) ⟨va_cnB As.length hF.2.2.2.2.1 (jG_good (fun w hw => ?_)) rfl rfl rfl (hF.2.2.2.2.2.2.2.2.2.2.2.1.1 _ h5) (hF.2.2.2.2.1 _ h8) h10 (jroom hF hlt h11), hF.2.2.2.2.1 _ h6, trivial⟩ ⟨jPc_blind E H.size _ σ, jpre hF hT hAs⟩ rfl (by rw [List.length_map]) hT.2.2.2.2.2.1.1 (jrevS As st) ?_ hd ⟨by have := hT.2.2.2.1; have := hF.2.2.2.2.2.2.2.2.1; omega, by have := hT.2.2.2.2.1; have := hF.2.2.2.2.2.2.2.2.2.1; omega⟩
  · simp only [jwsP, List.mem_cons] at hw
    rcases hw with rfl | hw
    · exact h9
    · exact hw
  · show 2 * 0 + _ ≤ 8
    rw [jwt_eq]
    have := Nat.ble_eq.mp hw
    omega
end JR4
