/-! ===== the judgement V and its rows ===== -/
def jlv (E : JE) (ls : Array Slot) (nL : Nat) (L : List JV) : Prop := ls.size = nL ∧ lv_wf ls ∧ L.length = nL ∧ ∀ (i : Nat) (v : JV), L[i]? = some v → v.1 < 8 → ls[i]? = some (.val (jtr E v))
def jNest : List (String × Nat × MethodName × String) := [("MacroBench", 11, ⟨"MacroBench$Source", "<init>", "()V"⟩, "MacroBench"), ("MacroBench", 18, ⟨"MacroBench$Listing", "<init>", "()V"⟩, "MacroBench"), ("MacroBench", 43, ⟨"MacroBench$Image", "<init>", "()V"⟩, "MacroBench"), ("MacroBench$Source", 40, ⟨"MacroBench", "at", "([II)I"⟩, "MacroBench"), ("MacroBench$Scopes", 51, ⟨"MacroBench", "at", "([II)I"⟩, "MacroBench"), ("MacroBench$Listing", 37, ⟨"MacroBench", "at", "([II)I"⟩, "MacroBench"), ("MacroBench$Listing", 55, ⟨"MacroBench", "setAt", "([III)V"⟩, "MacroBench"), ("MacroBench$Scopes", 70, ⟨"MacroBench", "setAt", "([III)V"⟩, "MacroBench"), ("MacroBench$Expander", 178, ⟨"MacroBench", "at", "([II)I"⟩, "MacroBench"), ("MacroBench$Expander", 174, ⟨"MacroBench", "setAt", "([III)V"⟩, "MacroBench"), ("MacroBench$Expander", 121, ⟨"MacroBench", "greatestOperand", "(I)I"⟩, "MacroBench"), ("MacroBench$Expander", 191, ⟨"MacroBench", "isArgument", "(I)Z"⟩, "MacroBench"), ("MacroBench$Expander", 108, ⟨"MacroBench", "beginsGroup", "(I)Z"⟩, "MacroBench"), ("MacroBench$Source", 103, ⟨"MacroBench", "valueOfOperand", "(III)I"⟩, "MacroBench"), ("MacroBench$Expander", 155, ⟨"MacroBench", "isReference", "(I)Z"⟩, "MacroBench"), ("MacroBench$Listing", 59, ⟨"MacroBench", "isReference", "(I)Z"⟩, "MacroBench"), ("MacroBench$Source", 51, ⟨"MacroBench", "greatestOperand", "(I)I"⟩, "MacroBench"), ("MacroBench$Source", 113, ⟨"MacroBench", "isArgument", "(I)Z"⟩, "MacroBench"), ("MacroBench$Source", 70, ⟨"MacroBench", "beginsGroup", "(I)Z"⟩, "MacroBench"), ("MacroBench$Source", 74, ⟨"MacroBench", "setAt", "([III)V"⟩, "MacroBench"), ("MacroBench$Image", 26, ⟨"MacroBench", "at", "([II)I"⟩, "MacroBench"), ("MacroBench$Counter", 68, ⟨"MacroBench", "at", "([II)I"⟩, "MacroBench"), ("MacroBench$Counter", 72, ⟨"MacroBench", "beginsGroup", "(I)Z"⟩, "MacroBench"), ("MacroBench$Counter", 80, ⟨"MacroBench", "setAt", "([III)V"⟩, "MacroBench"), ("MacroBench$Counter", 97, ⟨"MacroBench", "valueOfOperand", "(III)I"⟩, "MacroBench")]
def jStr : List (String × Nat × String) := [("MacroBench$Source", 61, "an operand is neither in its range nor an argument"), ("MacroBench$Source", 116, "there are 80 lines"), ("MacroBench", 63, "the code is out of range"), ("MacroBench", 68, "the size is out of range"), ("MacroBench", 76, "there is no such macro that is ended"), ("MacroBench$Source", 80, "there is no group to end"), ("MacroBench$Source", 91, "a macro or a group is not ended"), ("MacroBench$Source", 95, "there are 8 macros"), ("MacroBench$Source", 98, "there is no macro that could be ended here"), ("MacroBench", 114, "nothing was assembled yet"), ("MacroBench", 116, "there was no fault"), ("MacroBench", 203, "nothing was assembled, or there was a fault"), ("MacroBench", 207, "there is no such word"), ("MacroBench", 194, "there are no jumps"), ("MacroBench", 160, "no label defines this name in the outermost scope"), ("MacroBench", 126, "a macro or a group is not ended"), ("MacroBench", 134, "the count of a loop is an argument greater than 9"), ("MacroBench", 210, "there is no such item"), ("MacroBench", 190, "the item is neither a jump nor an address"), ("MacroBench", 151, "the base is out of range")]
def jCast : List (String × String) := [("java/lang/IllegalArgumentException", "java/lang/IllegalArgumentException"), ("java/lang/IllegalStateException", "java/lang/IllegalStateException"), ("java/lang/IndexOutOfBoundsException", "java/lang/IndexOutOfBoundsException"), ("java/util/NoSuchElementException", "java/util/NoSuchElementException"), ("java/lang/UnsupportedOperationException", "java/lang/UnsupportedOperationException"), ("java/lang/ArithmeticException", "java/lang/ArithmeticException")]
def jDecl : List MethodName := [⟨"java/lang/RuntimeException", "<init>", "(Ljava/lang/String;)V"⟩, ⟨"java/lang/Exception", "<init>", "(Ljava/lang/String;)V"⟩, ⟨"java/lang/Throwable", "<init>", "(Ljava/lang/String;)V"⟩]
def jNcs : List (String × String) := [("java/lang/IllegalArgumentException", "java/lang/IllegalStateException"), ("java/lang/IllegalArgumentException", "java/lang/IndexOutOfBoundsException"), ("java/lang/IllegalArgumentException", "java/util/NoSuchElementException"), ("java/lang/IllegalArgumentException", "java/lang/UnsupportedOperationException"), ("java/lang/IllegalArgumentException", "java/lang/ArithmeticException"), ("java/lang/IllegalStateException", "java/lang/IllegalArgumentException"), ("java/lang/IllegalStateException", "java/lang/IndexOutOfBoundsException"), ("java/lang/IllegalStateException", "java/util/NoSuchElementException"), ("java/lang/IllegalStateException", "java/lang/UnsupportedOperationException"), ("java/lang/IllegalStateException", "java/lang/ArithmeticException"), ("java/lang/IndexOutOfBoundsException", "java/lang/IllegalArgumentException"), ("java/lang/IndexOutOfBoundsException", "java/lang/IllegalStateException"), ("java/lang/IndexOutOfBoundsException", "java/util/NoSuchElementException"), ("java/lang/IndexOutOfBoundsException", "java/lang/UnsupportedOperationException"), ("java/lang/IndexOutOfBoundsException", "java/lang/ArithmeticException"), ("java/util/NoSuchElementException", "java/lang/IllegalArgumentException"), ("java/util/NoSuchElementException", "java/lang/IllegalStateException"), ("java/util/NoSuchElementException", "java/lang/IndexOutOfBoundsException"), ("java/util/NoSuchElementException", "java/lang/UnsupportedOperationException"), ("java/util/NoSuchElementException", "java/lang/ArithmeticException"), ("java/lang/UnsupportedOperationException", "java/lang/IllegalArgumentException"), ("java/lang/UnsupportedOperationException", "java/lang/IllegalStateException"), ("java/lang/UnsupportedOperationException", "java/lang/IndexOutOfBoundsException"), ("java/lang/UnsupportedOperationException", "java/util/NoSuchElementException"), ("java/lang/UnsupportedOperationException", "java/lang/ArithmeticException"), ("java/lang/ArithmeticException", "java/lang/IllegalArgumentException"), ("java/lang/ArithmeticException", "java/lang/IllegalStateException"), ("java/lang/ArithmeticException", "java/lang/IndexOutOfBoundsException"), ("java/lang/ArithmeticException", "java/util/NoSuchElementException"), ("java/lang/ArithmeticException", "java/lang/UnsupportedOperationException")]
/-- what is the same at every point -/
def jCX (A : Nat → Prop) (s : State) : Prop := (∀ w ∈ jNest, va_Nw (.methodLinkNest w.1 w.2.1 w.2.2.1 w.2.2.2) s) ∧ (∀ q ∈ jStr, ∃ a : Nat, vk_R q.1 q.2.1 q.2.2 a s) ∧ (∀ q ∈ jCast, va_Nw (.castable q.1 q.2) s ∧ ∀ y ∈ jDecl, va_Nw (.declares y) s) ∧ (∀ q ∈ jNcs, va_Nc q.1 q.2 s) ∧
  vx_Zq Bundle.tN "UNASSIGNED_STACK" Bundle.steD A s s.heap ∧ vx_Zq Bundle.tN "SUPPRESSED_SENTINEL" Bundle.listD A s s.heap
/-- the static data seen from another state with the same or a warmer vm -/
theorem jCX_to {A B : Nat → Prop} {s U : State} {H : Heap} {locs : List Loc} (h : jCX A s) (hW : s.WarmedH U.vm) (hH : U.heap = H) (hS : va_S A s.heap H locs) (hAB : ∀ q, B q → A q) : jCX B U := by
  obtain ⟨h1, h2, h3, h4, h5, h6⟩ := h
  have key : ∀ {C n d : String}, vx_Zq C n d A s s.heap → vx_Zq C n d B U U.heap := fun {C n d} h => by
    rw [hH]
    exact vx_Zq.narrow (vx_Zq.kept (vx_Zq.moved hW.alike h) (fun a ha hna => hS.2.1 a ha hna)) hAB
  exact ⟨fun w hw => va_Nw.warmM hW (h1 w hw), fun q hq => by obtain ⟨a, ha⟩ := h2 q hq; exact ⟨a, vk_R.warm hW ha⟩, fun q hq => ⟨va_Nw.warmC hW (h3 q hq).1, fun y hy => va_Nw.warmD hW ((h3 q hq).2 y hy)⟩, fun q hq => (h4 q hq).moved hW.alike, key h5, key h6⟩
theorem jCX_vm {A : Nat → Prop} {s U : State} (h : jCX A s) (hv : U.vm = s.vm) (hH : U.heap = s.heap) : jCX A U := by
  have hW : s.WarmedH U.vm := by rw [hv]; exact State.WarmedH.refl s
  exact jCX_to (locs := []) h hW hH va_S.rf (fun _ q => q)
/-- what an end hands on -/
def jOut (E : JE) (A : Nat → Prop) (σ : JM) (t : State) : Prop := jokm σ ∧ jWd E A t t.heap σ
def jQc (E : JE) (A : Nat → Prop) (Qr : Option JV → JM → Prop) : Array Value → State → Outcome → State → Prop := fun _ st o t => (∃ (v : Option JV) (σ : JM), o = .returned (v.map (jtr E)) ∧ Qr v σ ∧ (∀ w, v = some w → jokv w) ∧ jOut E A σ t) ∧ va_F A st t
def jXC (E : JE) (A : Nat → Prop) (Qx : String → JM → Prop) : String → State → State → Prop := fun X st t => (∃ σ : JM, Qx X σ ∧ jOut E A σ t) ∧ va_F A st t
/-- which return the instruction is, and that it fits -/
def jret (i : JI) (v : Option JV) (pc : Nat) : Prop := match v with
  | none => decode i.2.1 pc = .ok (.return_, 1) ∧ i.2.2.2.1 = none
  | some (0, x) => decode i.2.1 pc = .ok (.ireturn, 1) ∧ (i.2.2.2.1 = some .int ∨ (i.2.2.2.1 = some .boolean ∧ (x = 0 ∨ x = 1)) ∨ (i.2.2.2.1 = some .char ∧ 0 ≤ x ∧ x < 65536))
  | some (1, _) => decode i.2.1 pc = .ok (.lreturn, 1) ∧ i.2.2.2.1 = some .long
  | some (4, _) => decode i.2.1 pc = .ok (.freturn, 1) ∧ i.2.2.2.1 = some .float
  | some (5, _) => decode i.2.1 pc = .ok (.dreturn, 1) ∧ i.2.2.2.1 = some .double
  | _ => False
def jFix (l : Launch) (i : JI) (d : Nat) (p : Program) (R : Room) (s : State) (m : MethodId) (args : Array Value) (meth : Method) (c : Code) (A : Nat → Prop) (cm sm : Nat) : Prop :=
  p.tables.exec = Jvm.exec ∧ c.code = i.2.1 ∧ c.maxLocals = i.2.2.1 ∧ s.vm.findClass i.1.cls = some m.cls ∧ (∀ w ∈ jG, w.before args s = true) ∧ l.stackTraces = false ∧ d ≤ R.frames ∧ 46 * d ≤ R.locals ∧ cm ≤ R.cells ∧ sm ≤ R.slots ∧ (∀ q, s.heap.size ≤ q → A q) ∧ jCX A s ∧ c.exceptionTable.toList = tableOf i.2.2.2.2.1 ∧ meth.locks = false
def jScr (E : JE) (A : Nat → Prop) (s : State) : Prop := va_X E.2.2.2.1 E.2.2.2.2.1 E.2.2.2.2.2 s s.heap ∧ E.2.2.2.1 < s.heap.size ∧ ¬ A E.2.2.2.1
def jFin (l : Launch) (E : JE) (i : JI) (Qr : Option JV → JM → Prop) (Qx : String → JM → Prop) (p : Program) (e : Env) (R : Room) (s : State) (m : MethodId) (args : Array Value) (below : List Frame) (meth : Method) (c : Code) (A : Nat → Prop) (cm sm : Nat) (Z : State → Prop) : Prop :=
  (∀ (H : Heap) (locs : List Loc) (cells slots : Nat) (σ : JM) (v : Option JV) (pc : Nat) (ls : Array Slot), jWd E A s H σ → jokm σ → va_S A s.heap H locs → cells ≤ cm → slots ≤ sm → Qr v σ → (∀ w, v = some w → jokv w) → jret i v pc → W p l e R s m args below meth c H locs cells slots Z (F0 m pc ls ((v.map (jtr E)).toList))) ∧
  ((∃ (Qc : Array Value → State → Outcome → State → Prop) (XC : String → State → State → Prop) (free : Addr → Prop), Z = vx_MQ below Qc XC args s cm sm free ∧ (∀ z, A z → free z) ∧ (∀ (X : String) (t : State) (σ : JM), s.vm.Alike t.vm → va_F A s t → jokm σ → jWd E A t t.heap σ → Qx X σ → XC X s t)) ∨ ∀ X σ, ¬ Qx X σ)
def jSt (E : JE) (i : JI) (n : Nat) (s : State) (A : Nat → Prop) (H : Heap) (locs : List Loc) (cells slots cm sm : Nat) (ls : Array Slot) (L st : List JV) (σ : JM) : Prop :=
  jWd E A s H σ ∧ jokm σ ∧ va_S A s.heap H locs ∧ cells + n ≤ cm ∧ slots + 6 * n ≤ sm ∧ jlv E ls i.2.2.1 L ∧ (∀ v ∈ L, jokv v) ∧ (∀ v ∈ st, jokv v)
/-- THE JUDGEMENT: from here (pc, locals L, stack st, memory σ), with d frames and n new cells to spend, the method comes to an end that Qr or Qx allows -/
def V (l : Launch) (E : JE) (i : JI) (d n : Nat) (Qr : Option JV → JM → Prop) (Qx : String → JM → Prop) (pc : Nat) (L st : List JV) (σ : JM) : Prop :=
  ∀ (p : Program) (e : Env) (R : Room) (s : State) (m : MethodId) (args : Array Value) (below : List Frame) (meth : Method) (c : Code) (A : Nat → Prop) (cm sm : Nat) (Z : State → Prop),
    jFix l i d p R s m args meth c A cm sm → (i.2.2.2.2.2 = true → jScr E A s) → jFin l E i Qr Qx p e R s m args below meth c A cm sm Z →
    ∀ (H : Heap) (locs : List Loc) (cells slots : Nat) (ls : Array Slot), jSt E i n s A H locs cells slots cm sm ls L st σ → W p l e R s m args below meth c H locs cells slots Z (F0 m pc ls (st.map (jtr E)))
section JR
variable {l : Launch} {E : JE} {i : JI} {d n : Nat} {Qr : Option JV → JM → Prop} {Qx : String → JM → Prop} {pc : Nat} {L st : List JV} {σ : JM}
theorem ok_hd {v : JV} {st : List JV} (h : ∀ w ∈ v :: st, jokv w) : jokv v := h v List.mem_cons_self
theorem ok_tl {v : JV} {st : List JV} (h : ∀ w ∈ v :: st, jokv w) : ∀ w ∈ st, jokv w := fun w hw => h w (List.mem_cons_of_mem _ hw)
theorem ok_cs {v : JV} {st : List JV} (h1 : jokv v) (h : ∀ w ∈ st, jokv w) : ∀ w ∈ v :: st, jokv w := List.forall_mem_cons.mpr ⟨h1, h⟩
/-- a row that changes the stack alone -/
theorem V.op {pc' : Nat} {st' : List JV} (hok : (∀ v ∈ L, jokv v) → (∀ v ∈ st, jokv v) → ∀ v ∈ st', jokv v)
    (hs : ∀ {p : Program} {e : Env} {R : Room} {s : State} {m : MethodId} {args : Array Value} {below : List Frame} {meth : Method} {c : Code} {A : Nat → Prop} {cm sm : Nat} {Z : State → Prop} {H : Heap} {locs : List Loc} {cells slots : Nat} {ls : Array Slot}, jFix l i d p R s m args meth c A cm sm → jSt E i n s A H locs cells slots cm sm ls L st σ →
      W p l e R s m args below meth c H locs cells slots Z (F0 m pc' ls (st'.map (jtr E))) → W p l e R s m args below meth c H locs cells slots Z (F0 m pc ls (st.map (jtr E))))
    (k : V l E i d n Qr Qx pc' L st' σ) : V l E i d n Qr Qx pc L st σ := by
  intro p e R s m args below meth c A cm sm Z hF hX hZ H locs cells slots ls hT
  refine hs hF hT (k p e R s m args below meth c A cm sm Z hF hX hZ H locs cells slots ls ?_)
  obtain ⟨h1, h2, h3, h4, h5, h6, h7, h8⟩ := hT
  exact ⟨h1, h2, h3, h4, h5, h6, h7, hok h7 h8⟩
theorem jtr0 (E : JE) (x : Int) : jtr E (0, x) = .int (jI x) := rfl
theorem jtr1 (E : JE) (x : Int) : jtr E (1, x) = .long (jL x) := rfl
theorem jc_int : ∀ {n : Int}, -128 ≤ n → n ≤ 127 → (Int8.ofInt n).toInt32 = jI n := fun {n} h1 h2 => by
  apply Int32.toInt_inj.mp
  rw [Int8.toInt_toInt32, Int8.toInt_ofInt_of_le (by omega) (by omega), jI_toInt ⟨by omega, by omega⟩]
theorem jc_int16 : ∀ {n : Int}, -32768 ≤ n → n ≤ 32767 → (Int16.ofInt n).toInt32 = jI n := fun {n} h1 h2 => by
  apply Int32.toInt_inj.mp
  rw [Int16.toInt_toInt32, Int16.toInt_ofInt_of_le (by omega) (by omega), jI_toInt ⟨by omega, by omega⟩]
-- constants
theorem V.iconst {x : Int} (hd : decode i.2.1 pc = .ok (.iconst x, 1)) (hx : jrI x) (k : V l E i d n Qr Qx (pc + 1) L ((0, x) :: st) σ) : V l E i d n Qr Qx pc L st σ :=
  V.op (fun _ h => ok_cs (v := (0, x)) hx h) (fun hF _ w => lv_iconst hF.1 hF.2.1 hd rfl w) k
theorem V.bipush {x : Int} (hd : decode i.2.1 pc = .ok (.bipush x, 2)) (hx : -128 ≤ x ∧ x ≤ 127) (k : V l E i d n Qr Qx (pc + 2) L ((0, x) :: st) σ) : V l E i d n Qr Qx pc L st σ :=
  V.op (fun _ h => ok_cs (v := (0, x)) ⟨by omega, by omega⟩ h) (fun hF _ w => lv_bipush hF.1 hF.2.1 hd (jc_int hx.1 hx.2) w) k
theorem V.sipush {x : Int} (hd : decode i.2.1 pc = .ok (.sipush x, 3)) (hx : -32768 ≤ x ∧ x ≤ 32767) (k : V l E i d n Qr Qx (pc + 3) L ((0, x) :: st) σ) : V l E i d n Qr Qx pc L st σ :=
  V.op (fun _ h => ok_cs (v := (0, x)) ⟨by omega, by omega⟩ h) (fun hF _ w => lv_sipush hF.1 hF.2.1 hd (jc_int16 hx.1 hx.2) w) k
theorem V.ldc {ix : Nat} {x : Int} (hd : decode i.2.1 pc = .ok (.ldc ix, 2)) (hx : jrI x) (hw : Cond.constant i.1.cls ix (jI x) ∈ jG) (k : V l E i d n Qr Qx (pc + 2) L ((0, x) :: st) σ) : V l E i d n Qr Qx pc L st σ :=
  V.op (fun _ h => ok_cs (v := (0, x)) hx h) (fun hF _ w => lv_ldc hF.1 hF.2.1 hF.2.2.2.1 (hF.2.2.2.2.1 _ hw) hd w) k
theorem V.ldc2 {ix : Nat} {x : Int} (hd : decode i.2.1 pc = .ok (.ldc2_w ix, 3)) (hx : jrL x) (hw : Cond.constantLong i.1.cls ix (jL x) ∈ jG) (k : V l E i d n Qr Qx (pc + 3) L ((1, x) :: st) σ) : V l E i d n Qr Qx pc L st σ :=
  V.op (fun _ h => ok_cs (v := (1, x)) hx h) (fun hF _ w => lv_ldc2 hF.1 hF.2.1 hF.2.2.2.1 (hF.2.2.2.2.1 _ hw) hd w) k
theorem V.lconst {x : Fin 2} (hd : decode i.2.1 pc = .ok (.lconst x, 1)) (k : V l E i d n Qr Qx (pc + 1) L ((1, ((x : Nat) : Int)) :: st) σ) : V l E i d n Qr Qx pc L st σ :=
  V.op (fun _ h => ok_cs (v := (1, ((x : Nat) : Int))) ⟨by omega, by omega⟩ h) (fun hF _ w => lv_lconst hF.1 hF.2.1 hd rfl w) k
-- locals
theorem jlv_at {ls : Array Slot} {nL j : Nat} {v : JV} {w : Value} (h : jlv E ls nL L) (hL : L[j]? = some v) (hv : v.1 < 8) (hw : jtr E v = w) : ls[j]? = some (.val w) := by rw [← hw]; exact h.2.2.2 j v hL hv
theorem ok_at {j : Nat} {v : JV} (h : ∀ w ∈ L, jokv w) (hL : L[j]? = some v) : jokv v := h v (List.mem_of_getElem? hL)
theorem V.iload_n {k : Fin 4} {x : Int} (hd : decode i.2.1 pc = .ok (.iload_n k, 1)) (hL : L[(k : Nat)]? = some (0, x)) (kk : V l E i d n Qr Qx (pc + 1) L ((0, x) :: st) σ) : V l E i d n Qr Qx pc L st σ :=
  V.op (fun h1 h => ok_cs (ok_at h1 hL) h) (fun hF hT w => lv_iload_n hF.1 hF.2.1 hd rfl (jlv_at hT.2.2.2.2.2.1 hL (Nat.le_of_ble_eq_true rfl) rfl) w) kk
theorem V.iload {k : Nat} {x : Int} (hd : decode i.2.1 pc = .ok (.iload k, 2)) (hL : L[k]? = some (0, x)) (kk : V l E i d n Qr Qx (pc + 2) L ((0, x) :: st) σ) : V l E i d n Qr Qx pc L st σ :=
  V.op (fun h1 h => ok_cs (ok_at h1 hL) h) (fun hF hT w => lv_iload hF.1 hF.2.1 hd (jlv_at hT.2.2.2.2.2.1 hL (Nat.le_of_ble_eq_true rfl) rfl) w) kk
theorem V.lload_n {k : Fin 4} {x : Int} (hd : decode i.2.1 pc = .ok (.lload_n k, 1)) (hL : L[(k : Nat)]? = some (1, x)) (kk : V l E i d n Qr Qx (pc + 1) L ((1, x) :: st) σ) : V l E i d n Qr Qx pc L st σ :=
  V.op (fun h1 h => ok_cs (ok_at h1 hL) h) (fun hF hT w => lv_lload_n hF.1 hF.2.1 hd rfl (jlv_at hT.2.2.2.2.2.1 hL (Nat.le_of_ble_eq_true rfl) rfl) w) kk
theorem V.lload {k : Nat} {x : Int} (hd : decode i.2.1 pc = .ok (.lload k, 2)) (hL : L[k]? = some (1, x)) (kk : V l E i d n Qr Qx (pc + 2) L ((1, x) :: st) σ) : V l E i d n Qr Qx pc L st σ :=
  V.op (fun h1 h => ok_cs (ok_at h1 hL) h) (fun hF hT w => lv_lload hF.1 hF.2.1 hd (jlv_at hT.2.2.2.2.2.1 hL (Nat.le_of_ble_eq_true rfl) rfl) w) kk
theorem V.fload {k : Nat} {x : Int} (hd : decode i.2.1 pc = .ok (.fload k, 2)) (hL : L[k]? = some (4, x)) (kk : V l E i d n Qr Qx (pc + 2) L ((4, x) :: st) σ) : V l E i d n Qr Qx pc L st σ :=
  V.op (fun h1 h => ok_cs (ok_at h1 hL) h) (fun hF hT w => lv_fload hF.1 hF.2.1 hd (jlv_at hT.2.2.2.2.2.1 hL (Nat.le_of_ble_eq_true rfl) rfl) w) kk
theorem V.dload {k : Nat} {x : Int} (hd : decode i.2.1 pc = .ok (.dload k, 2)) (hL : L[k]? = some (5, x)) (kk : V l E i d n Qr Qx (pc + 2) L ((5, x) :: st) σ) : V l E i d n Qr Qx pc L st σ :=
  V.op (fun h1 h => ok_cs (ok_at h1 hL) h) (fun hF hT w => lv_dload hF.1 hF.2.1 hd (jlv_at hT.2.2.2.2.2.1 hL (Nat.le_of_ble_eq_true rfl) rfl) w) kk
theorem V.aload_n {k : Fin 4} {x : Int} (hd : decode i.2.1 pc = .ok (.aload_n k, 1)) (hL : L[(k : Nat)]? = some (2, x)) (kk : V l E i d n Qr Qx (pc + 1) L ((2, x) :: st) σ) : V l E i d n Qr Qx pc L st σ :=
  V.op (fun h1 h => ok_cs (ok_at h1 hL) h) (fun hF hT w => lv_aload_n hF.1 hF.2.1 hd rfl (jlv_at hT.2.2.2.2.2.1 hL (Nat.le_of_ble_eq_true rfl) rfl) w) kk
theorem V.aload {k : Nat} {x : Int} (hd : decode i.2.1 pc = .ok (.aload k, 2)) (hL : L[k]? = some (2, x)) (kk : V l E i d n Qr Qx (pc + 2) L ((2, x) :: st) σ) : V l E i d n Qr Qx pc L st σ :=
  V.op (fun h1 h => ok_cs (ok_at h1 hL) h) (fun hF hT w => lv_aload hF.1 hF.2.1 hd (jlv_at hT.2.2.2.2.2.1 hL (Nat.le_of_ble_eq_true rfl) rfl) w) kk
theorem V.aload_s {k : Fin 4} {x : Int} (hd : decode i.2.1 pc = .ok (.aload_n k, 1)) (hL : L[(k : Nat)]? = some (7, x)) (kk : V l E i d n Qr Qx (pc + 1) L ((7, x) :: st) σ) : V l E i d n Qr Qx pc L st σ :=
  V.op (fun h1 h => ok_cs (ok_at h1 hL) h) (fun hF hT w => lv_aload_n hF.1 hF.2.1 hd rfl (jlv_at hT.2.2.2.2.2.1 hL (Nat.le_of_ble_eq_true rfl) rfl) w) kk
-- the stack
theorem V.dup {v : JV} (hd : decode i.2.1 pc = .ok (.dup, 1)) (hv : (jtr E v).category = 1) (k : V l E i d n Qr Qx (pc + 1) L (v :: v :: st) σ) : V l E i d n Qr Qx pc L (v :: st) σ :=
  V.op (fun _ h => ok_cs (ok_hd h) h) (fun hF _ w => lv_dup hF.1 hF.2.1 hd hv w) k
theorem V.pop {v : JV} (hd : decode i.2.1 pc = .ok (.pop, 1)) (hv : (jtr E v).category = 1) (k : V l E i d n Qr Qx (pc + 1) L st σ) : V l E i d n Qr Qx pc L (v :: st) σ :=
  V.op (fun _ h => ok_tl h) (fun hF _ w => lv_pop hF.1 hF.2.1 hd hv w) k
-- arithmetic
theorem V.iadd {x y : Int} (hd : decode i.2.1 pc = .ok (.iadd, 1)) (hr : jrI (x + y)) (k : V l E i d n Qr Qx (pc + 1) L ((0, x + y) :: st) σ) : V l E i d n Qr Qx pc L ((0, y) :: (0, x) :: st) σ :=
  V.op (fun _ h => ok_cs (v := (0, x + y)) hr (ok_tl (ok_tl h))) (fun hF _ w => lv_iadd hF.1 hF.2.1 hd (by rw [jI_add]; exact w)) k
theorem V.isub {x y : Int} (hd : decode i.2.1 pc = .ok (.isub, 1)) (hr : jrI (x - y)) (k : V l E i d n Qr Qx (pc + 1) L ((0, x - y) :: st) σ) : V l E i d n Qr Qx pc L ((0, y) :: (0, x) :: st) σ :=
  V.op (fun _ h => ok_cs (v := (0, x - y)) hr (ok_tl (ok_tl h))) (fun hF _ w => lv_isub hF.1 hF.2.1 hd (by rw [jI_sub]; exact w)) k
theorem V.imul {x y : Int} (hd : decode i.2.1 pc = .ok (.imul, 1)) (hr : jrI (x * y)) (k : V l E i d n Qr Qx (pc + 1) L ((0, x * y) :: st) σ) : V l E i d n Qr Qx pc L ((0, y) :: (0, x) :: st) σ :=
  V.op (fun _ h => ok_cs (v := (0, x * y)) hr (ok_tl (ok_tl h))) (fun hF _ w => lv_imul hF.1 hF.2.1 hd (by rw [jI_mul]; exact w)) k
theorem V.ladd {x y : Int} (hd : decode i.2.1 pc = .ok (.ladd, 1)) (hr : jrL (x + y)) (k : V l E i d n Qr Qx (pc + 1) L ((1, x + y) :: st) σ) : V l E i d n Qr Qx pc L ((1, y) :: (1, x) :: st) σ :=
  V.op (fun _ h => ok_cs (v := (1, x + y)) hr (ok_tl (ok_tl h))) (fun hF _ w => lv_ladd hF.1 hF.2.1 hd (by rw [jL_add]; exact w)) k
theorem V.lmul {x y : Int} (hd : decode i.2.1 pc = .ok (.lmul, 1)) (hr : jrL (x * y)) (k : V l E i d n Qr Qx (pc + 1) L ((1, x * y) :: st) σ) : V l E i d n Qr Qx pc L ((1, y) :: (1, x) :: st) σ :=
  V.op (fun _ h => ok_cs (v := (1, x * y)) hr (ok_tl (ok_tl h))) (fun hF _ w => lv_lmul hF.1 hF.2.1 hd (by rw [jL_mul]; exact w)) k
theorem V.i2l {x : Int} (hd : decode i.2.1 pc = .ok (.i2l, 1)) (k : V l E i d n Qr Qx (pc + 1) L ((1, x) :: st) σ) : V l E i d n Qr Qx pc L ((0, x) :: st) σ :=
  V.op (fun _ h => ok_cs (v := (1, x)) (by have := ok_hd h; exact ⟨by have := this.1; omega, by have := this.2; omega⟩) (ok_tl h)) (fun hF hT w => lv_i2l hF.1 hF.2.1 hd (jI_i2l (ok_hd hT.2.2.2.2.2.2.2)) w) k
theorem V.l2i {x : Int} (hd : decode i.2.1 pc = .ok (.l2i, 1)) (hr : jrI x) (k : V l E i d n Qr Qx (pc + 1) L ((0, x) :: st) σ) : V l E i d n Qr Qx pc L ((1, x) :: st) σ :=
  V.op (fun _ h => ok_cs (v := (0, x)) hr (ok_tl h)) (fun hF _ w => lv_l2i hF.1 hF.2.1 hd jL_l2i w) k
end JR
