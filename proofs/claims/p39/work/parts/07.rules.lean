/-! ===== V's rows: stores, branches, fields, rows ===== -/
def jc2 (t : Nat) : Bool := t == 1 || t == 5
def jkill (L : List JV) (i : Nat) : List JV := match i with
  | 0 => L
  | k + 1 => match jc2 (L.getD k (9, 0)).1 with
    | true => L.set k (9, 0)
    | false => L
def jset1 (L : List JV) (i : Nat) (v : JV) : List JV := (jkill L i).set i v
def jset2 (L : List JV) (i : Nat) (v : JV) : List JV := ((jkill L i).set i v).set (i + 1) (9, 0)
def jlist (E : JE) (L : List JV) : List (Nat × Value) := (List.range L.length).filterMap (fun i => match L[i]? with
  | some v => if v.1 < 8 then some (i, jtr E v) else none
  | none => none)
theorem jlist_mem {E : JE} {L : List JV} {j : Nat} {v : JV} (h : L[j]? = some v) (hv : v.1 < 8) : (j, jtr E v) ∈ jlist E L := by
  unfold jlist
  refine List.mem_filterMap.mpr ⟨j, List.mem_range.mpr (List.getElem?_eq_some_iff.mp h).1, ?_⟩
  rw [h]; simp [hv]
theorem jlist_of {E : JE} {L : List JV} {q : Nat × Value} (h : q ∈ jlist E L) : ∃ v, L[q.1]? = some v ∧ v.1 < 8 ∧ q.2 = jtr E v := by
  unfold jlist at h
  obtain ⟨j, -, hj⟩ := List.mem_filterMap.mp h
  cases hL : L[j]? with
  | none => rw [hL] at hj; cases hj
  | some v =>
    rw [hL] at hj
    by_cases hv : v.1 < 8
    · simp [hv] at hj; subst hj; exact ⟨v, hL, hv, rfl⟩
    · simp [hv] at hj
theorem jlv_has {E : JE} {ls : Array Slot} {nL : Nat} {L : List JV} (h : jlv E ls nL L) : lv_has ls nL (jlist E L) := by
  refine ⟨h.1, h.2.1, fun q hq => ?_⟩
  obtain ⟨v, h1, h2, h3⟩ := jlist_of hq
  rw [h3]; exact h.2.2.2 q.1 v h1 h2
theorem jkill_len (L : List JV) (i : Nat) : (jkill L i).length = L.length := by
  unfold jkill
  cases i with
  | zero => rfl
  | succ k =>
    cases h : jc2 (L.getD k (9, 0)).1 with
    | true => simp only [h]; exact List.length_set
    | false => simp only [h]
theorem jkill_at {L : List JV} {i j : Nat} {v : JV} (h : (jkill L i)[j]? = some v) (hv : v.1 < 8) : L[j]? = some v ∧ (j + 1 = i → jc2 v.1 = false) := by
  cases i with
  | zero => exact ⟨h, fun q => absurd q (by omega)⟩
  | succ k =>
    unfold jkill at h
    cases hc : jc2 (L.getD k (9, 0)).1 with
    | true =>
      simp only [hc] at h
      by_cases hj : j = k
      · subst hj
        rw [List.getElem?_set_self'] at h
        cases hL : L[j]? with
        | none => rw [hL] at h; cases h
        | some w => rw [hL] at h; simp at h; subst h; exact absurd hv (by decide)
      · rw [List.getElem?_set_ne (fun e => hj e.symm)] at h
        exact ⟨h, fun q => absurd q (by omega)⟩
    | false =>
      simp only [hc] at h
      refine ⟨h, fun q => ?_⟩
      have : j = k := by omega
      subst this
      rw [List.getD_eq_getElem?_getD, h] at hc
      exact hc
theorem jtr_cat (E : JE) (v : JV) : (jtr E v).category = if jc2 v.1 = true then 2 else 1 := by
  obtain ⟨t, x⟩ := v
  match t with
  | 0 => rfl
  | 1 => rfl
  | 2 => rfl
  | 3 => rfl
  | 4 => rfl
  | 5 => rfl
  | 6 => rfl
  | 7 => rfl
  | t + 8 => rfl
theorem jlv_set1 {E : JE} {ls' : Array Slot} {nL i : Nat} {L : List JV} {v : JV} (hn : i < nL) (hL : L.length = nL)
    (h : lv_has ls' nL ((i, jtr E v) :: (jlist E L).filter (fun q => !(q.1 == i) && !(q.1 + 1 == i && q.2.category == 2)))) : jlv E ls' nL (jset1 L i v) := by
  refine ⟨h.1, h.2.1, by unfold jset1; rw [List.length_set, jkill_len]; exact hL, fun j w hw h8 => ?_⟩
  unfold jset1 at hw
  by_cases hj : j = i
  · subst hj
    rw [List.getElem?_set_self (by rw [jkill_len, hL]; exact hn)] at hw
    cases hw
    exact h.2.2 _ List.mem_cons_self
  · rw [List.getElem?_set_ne (fun e => hj e.symm)] at hw
    obtain ⟨h1, h2⟩ := jkill_at hw h8
    refine h.2.2 (j, jtr E w) (List.mem_cons_of_mem _ (List.mem_filter.mpr ⟨jlist_mem h1 h8, ?_⟩))
    by_cases hji : j + 1 = i
    · simp [hj, jtr_cat, h2 hji]
    · simp [hj, hji]
theorem jlv_set2 {E : JE} {ls' : Array Slot} {nL i : Nat} {L : List JV} {v : JV} (hn : i + 1 < nL) (hL : L.length = nL)
    (h : lv_has ls' nL ((i, jtr E v) :: (jlist E L).filter (fun q => !(q.1 == i) && (!(q.1 == i + 1) && !(q.1 + 1 == i && q.2.category == 2))))) : jlv E ls' nL (jset2 L i v) := by
  refine ⟨h.1, h.2.1, by unfold jset2; rw [List.length_set, List.length_set, jkill_len]; exact hL, fun j w hw h8 => ?_⟩
  unfold jset2 at hw
  by_cases hj1 : j = i + 1
  · subst hj1
    rw [List.getElem?_set_self (by rw [List.length_set, jkill_len, hL]; exact hn)] at hw
    cases hw
    exact absurd h8 (by decide)
  · rw [List.getElem?_set_ne (fun e => hj1 e.symm)] at hw
    by_cases hj : j = i
    · subst hj
      rw [List.getElem?_set_self (by rw [jkill_len, hL]; omega)] at hw
      cases hw
      exact h.2.2 _ List.mem_cons_self
    · rw [List.getElem?_set_ne (fun e => hj e.symm)] at hw
      obtain ⟨h1, h2⟩ := jkill_at hw h8
      refine h.2.2 (j, jtr E w) (List.mem_cons_of_mem _ (List.mem_filter.mpr ⟨jlist_mem h1 h8, ?_⟩))
      by_cases hji : j + 1 = i
      · simp [hj, hj1, jtr_cat, h2 hji]
      · simp [hj, hj1, hji]
theorem jset_ok {L : List JV} (h : ∀ w ∈ L, jokv w) (k : Nat) {v : JV} (hv : jokv v) : ∀ w ∈ L.set k v, jokv w := fun w hw => by
  rcases List.mem_or_eq_of_mem_set hw with h1 | h1
  · exact h w h1
  · rw [h1]; exact hv
theorem jkill_ok {L : List JV} (h : ∀ w ∈ L, jokv w) (k : Nat) : ∀ w ∈ jkill L k, jokv w := by
  unfold jkill
  cases k with
  | zero => exact h
  | succ k => cases hc : jc2 (L.getD k (9, 0)).1 <;> simp only [hc] <;> first | exact h | exact jset_ok h k (v := (9, 0)) trivial
section JR2
variable {l : Launch} {E : JE} {i : JI} {d n : Nat} {Qr : Option JV → JM → Prop} {Qx : String → JM → Prop} {pc : Nat} {L L' st : List JV} {σ : JM}
/-- a row that stores the top of the stack in a local of one word -/
theorem V.st1 {v : JV} {pc' k : Nat} (hk : Nat.blt k L.length = true) (hL : jset1 L k v = L')
    (hs : ∀ {p : Program} {e : Env} {R : Room} {s : State} {m : MethodId} {args : Array Value} {below : List Frame} {meth : Method} {c : Code} {A : Nat → Prop} {cm sm : Nat} {Z : State → Prop} {H : Heap} {locs : List Loc} {cells slots : Nat} {ls : Array Slot} {nL : Nat} {lv lv' : List (Nat × Value)}, jFix l i d p R s m args meth c A cm sm →
      lv_has ls nL lv → k < nL → (k, jtr E v) :: lv.filter (fun q => !(q.1 == k) && !(q.1 + 1 == k && q.2.category == 2)) = lv' → (∀ ls' : Array Slot, lv_has ls' nL lv' → W p l e R s m args below meth c H locs cells slots Z (F0 m pc' ls' (st.map (jtr E)))) → W p l e R s m args below meth c H locs cells slots Z (F0 m pc ls (jtr E v :: st.map (jtr E))))
    (kk : V l E i d n Qr Qx pc' L' st σ) : V l E i d n Qr Qx pc L (v :: st) σ := by
  intro p e R s m args below meth c A cm sm Z hF hX hZ H locs cells slots ls hT
  obtain ⟨h1, h2, h3, h4, h5, h6, h7, h8⟩ := hT
  have hlen := h6.2.2.1
  have hk' : k < i.2.2.1 := by rw [← hlen]; exact Nat.blt_eq.mp hk
  refine hs hF (jlv_has h6) hk' rfl (fun ls' hls => kk p e R s m args below meth c A cm sm Z hF hX hZ H locs cells slots ls' ⟨h1, h2, h3, h4, h5, ?_, ?_, ok_tl h8⟩)
  · rw [← hL]; exact jlv_set1 hk' hlen hls
  · rw [← hL]; exact jset_ok (jkill_ok h7 k) k (ok_hd h8)
theorem V.st2 {v : JV} {pc' k : Nat} (hk : Nat.blt (k + 1) L.length = true) (hL : jset2 L k v = L')
    (hs : ∀ {p : Program} {e : Env} {R : Room} {s : State} {m : MethodId} {args : Array Value} {below : List Frame} {meth : Method} {c : Code} {A : Nat → Prop} {cm sm : Nat} {Z : State → Prop} {H : Heap} {locs : List Loc} {cells slots : Nat} {ls : Array Slot} {nL : Nat} {lv lv' : List (Nat × Value)}, jFix l i d p R s m args meth c A cm sm →
      lv_has ls nL lv → k + 1 < nL → (k, jtr E v) :: lv.filter (fun q => !(q.1 == k) && (!(q.1 == k + 1) && !(q.1 + 1 == k && q.2.category == 2))) = lv' → (∀ ls' : Array Slot, lv_has ls' nL lv' → W p l e R s m args below meth c H locs cells slots Z (F0 m pc' ls' (st.map (jtr E)))) → W p l e R s m args below meth c H locs cells slots Z (F0 m pc ls (jtr E v :: st.map (jtr E))))
    (kk : V l E i d n Qr Qx pc' L' st σ) : V l E i d n Qr Qx pc L (v :: st) σ := by
  intro p e R s m args below meth c A cm sm Z hF hX hZ H locs cells slots ls hT
  obtain ⟨h1, h2, h3, h4, h5, h6, h7, h8⟩ := hT
  have hlen := h6.2.2.1
  have hk' : k + 1 < i.2.2.1 := by rw [← hlen]; exact Nat.blt_eq.mp hk
  refine hs hF (jlv_has h6) hk' rfl (fun ls' hls => kk p e R s m args below meth c A cm sm Z hF hX hZ H locs cells slots ls' ⟨h1, h2, h3, h4, h5, ?_, ?_, ok_tl h8⟩)
  · rw [← hL]; exact jlv_set2 hk' hlen hls
  · rw [← hL]; exact jset_ok (jset_ok (jkill_ok h7 k) k (ok_hd h8)) (k + 1) (v := (9, 0)) trivial
theorem V.istore_n {k : Fin 4} {x : Int} (hd : decode i.2.1 pc = .ok (.istore_n k, 1)) (hk : Nat.blt (k : Nat) L.length = true) (hL : jset1 L (k : Nat) (0, x) = L') (kk : V l E i d n Qr Qx (pc + 1) L' st σ) : V l E i d n Qr Qx pc L ((0, x) :: st) σ :=
  V.st1 hk hL (fun hF h1 h2 h3 w => lv_istore_n hF.1 hF.2.1 hd rfl h1 h2 h3 w) kk
theorem V.istore {k : Nat} {x : Int} (hd : decode i.2.1 pc = .ok (.istore k, 2)) (hk : Nat.blt k L.length = true) (hL : jset1 L k (0, x) = L') (kk : V l E i d n Qr Qx (pc + 2) L' st σ) : V l E i d n Qr Qx pc L ((0, x) :: st) σ :=
  V.st1 hk hL (fun hF h1 h2 h3 w => lv_istore hF.1 hF.2.1 hd h1 h2 h3 w) kk
theorem V.astore_n {k : Fin 4} {x : Int} (hd : decode i.2.1 pc = .ok (.astore_n k, 1)) (hk : Nat.blt (k : Nat) L.length = true) (hL : jset1 L (k : Nat) (3, x) = L') (kk : V l E i d n Qr Qx (pc + 1) L' st σ) : V l E i d n Qr Qx pc L ((3, x) :: st) σ :=
  V.st1 hk hL (fun hF h1 h2 h3 w => lv_astore_n hF.1 hF.2.1 hd rfl h1 h2 h3 w) kk
theorem V.astore {k : Nat} {x : Int} (hd : decode i.2.1 pc = .ok (.astore k, 2)) (hk : Nat.blt k L.length = true) (hL : jset1 L k (3, x) = L') (kk : V l E i d n Qr Qx (pc + 2) L' st σ) : V l E i d n Qr Qx pc L ((3, x) :: st) σ :=
  V.st1 hk hL (fun hF h1 h2 h3 w => lv_astore hF.1 hF.2.1 hd h1 h2 h3 w) kk
theorem V.fstore {k : Nat} {x : Int} (hd : decode i.2.1 pc = .ok (.fstore k, 2)) (hk : Nat.blt k L.length = true) (hL : jset1 L k (4, x) = L') (kk : V l E i d n Qr Qx (pc + 2) L' st σ) : V l E i d n Qr Qx pc L ((4, x) :: st) σ :=
  V.st1 hk hL (fun hF h1 h2 h3 w => lv_fstore hF.1 hF.2.1 hd h1 h2 h3 w) kk
theorem V.lstore_n {k : Fin 4} {x : Int} (hd : decode i.2.1 pc = .ok (.lstore_n k, 1)) (hk : Nat.blt ((k : Nat) + 1) L.length = true) (hL : jset2 L (k : Nat) (1, x) = L') (kk : V l E i d n Qr Qx (pc + 1) L' st σ) : V l E i d n Qr Qx pc L ((1, x) :: st) σ :=
  V.st2 hk hL (fun hF h1 h2 h3 w => lv_lstore_n hF.1 hF.2.1 hd rfl h1 h2 h3 w) kk
theorem V.lstore {k : Nat} {x : Int} (hd : decode i.2.1 pc = .ok (.lstore k, 2)) (hk : Nat.blt (k + 1) L.length = true) (hL : jset2 L k (1, x) = L') (kk : V l E i d n Qr Qx (pc + 2) L' st σ) : V l E i d n Qr Qx pc L ((1, x) :: st) σ :=
  V.st2 hk hL (fun hF h1 h2 h3 w => lv_lstore hF.1 hF.2.1 hd h1 h2 h3 w) kk
theorem V.dstore {k : Nat} {x : Int} (hd : decode i.2.1 pc = .ok (.dstore k, 2)) (hk : Nat.blt (k + 1) L.length = true) (hL : jset2 L k (5, x) = L') (kk : V l E i d n Qr Qx (pc + 2) L' st σ) : V l E i d n Qr Qx pc L ((5, x) :: st) σ :=
  V.st2 hk hL (fun hF h1 h2 h3 w => lv_dstore hF.1 hF.2.1 hd h1 h2 h3 w) kk
theorem V.iinc {k : Nat} {x y : Int} (hd : decode i.2.1 pc = .ok (.iinc k y, 3)) (hx : L[k]? = some (0, x)) (hr : jrI (x + y)) (hL : jset1 L k (0, x + y) = L') (kk : V l E i d n Qr Qx (pc + 3) L' st σ) : V l E i d n Qr Qx pc L st σ := by
  intro p e R s m args below meth c A cm sm Z hF hX hZ H locs cells slots ls hT
  obtain ⟨h1, h2, h3, h4, h5, h6, h7, h8⟩ := hT
  have hlen := h6.2.2.1
  have hk' : k < i.2.2.1 := by rw [← hlen]; exact (List.getElem?_eq_some_iff.mp hx).1
  obtain ⟨q, hq⟩ := List.getElem?_of_mem (jlist_mem (E := E) hx (Nat.le_of_ble_eq_true rfl))
  refine lv_iinc hF.1 hF.2.1 hd (jlv_has h6) hq (v := jI (x + y)) (by rw [← jI_add]; rfl) hk' rfl (fun ls' hls => kk p e R s m args below meth c A cm sm Z hF hX hZ H locs cells slots ls' ⟨h1, h2, h3, h4, h5, ?_, ?_, h8⟩)
  · rw [← hL]; exact jlv_set1 (v := (0, x + y)) hk' hlen hls
  · rw [← hL]; exact jset_ok (jkill_ok h7 k) k (v := (0, x + y)) hr
-- branches
theorem V.goto {off : Int} {tgt : Nat} (hd : decode i.2.1 pc = .ok (.goto off, 3)) (ht : (pc : Int) + off = (tgt : Int)) (k : V l E i d n Qr Qx tgt L st σ) : V l E i d n Qr Qx pc L st σ :=
  V.op (fun _ h => h) (fun hF _ w => lv_goto hF.1 hF.2.1 hd ht w) k
/-- a branch: two ways on -/
theorem V.br {pa pb : Nat} {st' : List JV} {P Q : Prop} (hok : ∀ v, v ∈ st' → v ∈ st)
    (hs : ∀ {p : Program} {e : Env} {R : Room} {s : State} {m : MethodId} {args : Array Value} {below : List Frame} {meth : Method} {c : Code} {A : Nat → Prop} {cm sm : Nat} {Z : State → Prop} {H : Heap} {locs : List Loc} {cells slots : Nat} {ls : Array Slot}, jFix l i d p R s m args meth c A cm sm → (∀ v ∈ st, jokv v) →
      (P → W p l e R s m args below meth c H locs cells slots Z (F0 m pa ls (st'.map (jtr E)))) → (Q → W p l e R s m args below meth c H locs cells slots Z (F0 m pb ls (st'.map (jtr E)))) → W p l e R s m args below meth c H locs cells slots Z (F0 m pc ls (st.map (jtr E))))
    (ka : P → V l E i d n Qr Qx pa L st' σ) (kb : Q → V l E i d n Qr Qx pb L st' σ) : V l E i d n Qr Qx pc L st σ := by
  intro p e R s m args below meth c A cm sm Z hF hX hZ H locs cells slots ls hT
  obtain ⟨h1, h2, h3, h4, h5, h6, h7, h8⟩ := hT
  exact hs hF h8 (fun h => ka h p e R s m args below meth c A cm sm Z hF hX hZ H locs cells slots ls ⟨h1, h2, h3, h4, h5, h6, h7, fun v hv => h8 v (hok v hv)⟩) (fun h => kb h p e R s m args below meth c A cm sm Z hF hX hZ H locs cells slots ls ⟨h1, h2, h3, h4, h5, h6, h7, fun v hv => h8 v (hok v hv)⟩)
theorem tl2 {v w : JV} {st : List JV} : ∀ u, u ∈ st → u ∈ v :: w :: st := fun _ h => List.mem_cons_of_mem _ (List.mem_cons_of_mem _ h)
theorem tl1 {v : JV} {st : List JV} : ∀ u, u ∈ st → u ∈ v :: st := fun _ h => List.mem_cons_of_mem _ h
theorem jr0 : jrI 0 := ⟨by decide, by decide⟩
theorem V.icmp_eq {x y off : Int} {tgt : Nat} (hd : decode i.2.1 pc = .ok (.if_icmp .eq off, 3)) (ht : (pc : Int) + off = (tgt : Int)) (ka : x = y → V l E i d n Qr Qx tgt L st σ) (kb : x ≠ y → V l E i d n Qr Qx (pc + 3) L st σ) : V l E i d n Qr Qx pc L ((0, y) :: (0, x) :: st) σ :=
  V.br tl2 (fun hF h8 wa wb => lv_icmp_eq hF.1 hF.2.1 hd ht (fun h => wa ((jI_eq (ok_hd (ok_tl h8)) (ok_hd h8)).mp h)) (fun h => wb (fun q => h ((jI_eq (ok_hd (ok_tl h8)) (ok_hd h8)).mpr q)))) ka kb
theorem V.icmp_ne {x y off : Int} {tgt : Nat} (hd : decode i.2.1 pc = .ok (.if_icmp .ne off, 3)) (ht : (pc : Int) + off = (tgt : Int)) (ka : x ≠ y → V l E i d n Qr Qx tgt L st σ) (kb : x = y → V l E i d n Qr Qx (pc + 3) L st σ) : V l E i d n Qr Qx pc L ((0, y) :: (0, x) :: st) σ :=
  V.br tl2 (fun hF h8 wa wb => lv_icmp_ne hF.1 hF.2.1 hd ht (fun h => wa (fun q => h ((jI_eq (ok_hd (ok_tl h8)) (ok_hd h8)).mpr q))) (fun h => wb ((jI_eq (ok_hd (ok_tl h8)) (ok_hd h8)).mp h))) ka kb
theorem V.icmp_lt {x y off : Int} {tgt : Nat} (hd : decode i.2.1 pc = .ok (.if_icmp .lt off, 3)) (ht : (pc : Int) + off = (tgt : Int)) (ka : x < y → V l E i d n Qr Qx tgt L st σ) (kb : y ≤ x → V l E i d n Qr Qx (pc + 3) L st σ) : V l E i d n Qr Qx pc L ((0, y) :: (0, x) :: st) σ :=
  V.br tl2 (fun hF h8 wa wb => lv_icmp_lt hF.1 hF.2.1 hd ht (fun h => wa ((jI_lt (ok_hd (ok_tl h8)) (ok_hd h8)).mp h)) (fun h => wb (Int.not_lt.mp (fun q => h ((jI_lt (ok_hd (ok_tl h8)) (ok_hd h8)).mpr q))))) ka kb
theorem V.icmp_ge {x y off : Int} {tgt : Nat} (hd : decode i.2.1 pc = .ok (.if_icmp .ge off, 3)) (ht : (pc : Int) + off = (tgt : Int)) (ka : y ≤ x → V l E i d n Qr Qx tgt L st σ) (kb : x < y → V l E i d n Qr Qx (pc + 3) L st σ) : V l E i d n Qr Qx pc L ((0, y) :: (0, x) :: st) σ :=
  V.br tl2 (fun hF h8 wa wb => lv_icmp_ge hF.1 hF.2.1 hd ht (fun h => wa ((jI_le (ok_hd h8) (ok_hd (ok_tl h8))).mp h)) (fun h => wb (Int.not_le.mp (fun q => h ((jI_le (ok_hd h8) (ok_hd (ok_tl h8))).mpr q))))) ka kb
theorem V.icmp_gt {x y off : Int} {tgt : Nat} (hd : decode i.2.1 pc = .ok (.if_icmp .gt off, 3)) (ht : (pc : Int) + off = (tgt : Int)) (ka : y < x → V l E i d n Qr Qx tgt L st σ) (kb : x ≤ y → V l E i d n Qr Qx (pc + 3) L st σ) : V l E i d n Qr Qx pc L ((0, y) :: (0, x) :: st) σ :=
  V.br tl2 (fun hF h8 wa wb => lv_icmp_gt hF.1 hF.2.1 hd ht (fun h => wa ((jI_lt (ok_hd h8) (ok_hd (ok_tl h8))).mp h)) (fun h => wb (Int.not_lt.mp (fun q => h ((jI_lt (ok_hd h8) (ok_hd (ok_tl h8))).mpr q))))) ka kb
theorem V.icmp_le {x y off : Int} {tgt : Nat} (hd : decode i.2.1 pc = .ok (.if_icmp .le off, 3)) (ht : (pc : Int) + off = (tgt : Int)) (ka : x ≤ y → V l E i d n Qr Qx tgt L st σ) (kb : y < x → V l E i d n Qr Qx (pc + 3) L st σ) : V l E i d n Qr Qx pc L ((0, y) :: (0, x) :: st) σ :=
  V.br tl2 (fun hF h8 wa wb => lv_icmp_le hF.1 hF.2.1 hd ht (fun h => wa ((jI_le (ok_hd (ok_tl h8)) (ok_hd h8)).mp h)) (fun h => wb (Int.not_le.mp (fun q => h ((jI_le (ok_hd (ok_tl h8)) (ok_hd h8)).mpr q))))) ka kb
theorem V.if_eq {x off : Int} {tgt : Nat} (hd : decode i.2.1 pc = .ok (.ifCond .eq off, 3)) (ht : (pc : Int) + off = (tgt : Int)) (ka : x = 0 → V l E i d n Qr Qx tgt L st σ) (kb : x ≠ 0 → V l E i d n Qr Qx (pc + 3) L st σ) : V l E i d n Qr Qx pc L ((0, x) :: st) σ :=
  V.br tl1 (fun hF h8 wa wb => lv_if_eq hF.1 hF.2.1 hd ht (fun h => wa ((jI_eq (ok_hd h8) jr0).mp h)) (fun h => wb (fun q => h ((jI_eq (ok_hd h8) jr0).mpr q)))) ka kb
theorem V.if_ne {x off : Int} {tgt : Nat} (hd : decode i.2.1 pc = .ok (.ifCond .ne off, 3)) (ht : (pc : Int) + off = (tgt : Int)) (ka : x ≠ 0 → V l E i d n Qr Qx tgt L st σ) (kb : x = 0 → V l E i d n Qr Qx (pc + 3) L st σ) : V l E i d n Qr Qx pc L ((0, x) :: st) σ :=
  V.br tl1 (fun hF h8 wa wb => lv_if_ne hF.1 hF.2.1 hd ht (fun h => wa (fun q => h ((jI_eq (ok_hd h8) jr0).mpr q))) (fun h => wb ((jI_eq (ok_hd h8) jr0).mp h))) ka kb
theorem V.if_lt {x off : Int} {tgt : Nat} (hd : decode i.2.1 pc = .ok (.ifCond .lt off, 3)) (ht : (pc : Int) + off = (tgt : Int)) (ka : x < 0 → V l E i d n Qr Qx tgt L st σ) (kb : 0 ≤ x → V l E i d n Qr Qx (pc + 3) L st σ) : V l E i d n Qr Qx pc L ((0, x) :: st) σ :=
  V.br tl1 (fun hF h8 wa wb => lv_if_lt hF.1 hF.2.1 hd ht (fun h => wa ((jI_lt (ok_hd h8) jr0).mp h)) (fun h => wb (Int.not_lt.mp (fun q => h ((jI_lt (ok_hd h8) jr0).mpr q))))) ka kb
theorem V.if_ge {x off : Int} {tgt : Nat} (hd : decode i.2.1 pc = .ok (.ifCond .ge off, 3)) (ht : (pc : Int) + off = (tgt : Int)) (ka : 0 ≤ x → V l E i d n Qr Qx tgt L st σ) (kb : x < 0 → V l E i d n Qr Qx (pc + 3) L st σ) : V l E i d n Qr Qx pc L ((0, x) :: st) σ :=
  V.br tl1 (fun hF h8 wa wb => lv_if_ge hF.1 hF.2.1 hd ht (fun h => wa ((jI_le jr0 (ok_hd h8)).mp h)) (fun h => wb (Int.not_le.mp (fun q => h ((jI_le jr0 (ok_hd h8)).mpr q))))) ka kb
theorem V.if_gt {x off : Int} {tgt : Nat} (hd : decode i.2.1 pc = .ok (.ifCond .gt off, 3)) (ht : (pc : Int) + off = (tgt : Int)) (ka : 0 < x → V l E i d n Qr Qx tgt L st σ) (kb : x ≤ 0 → V l E i d n Qr Qx (pc + 3) L st σ) : V l E i d n Qr Qx pc L ((0, x) :: st) σ :=
  V.br tl1 (fun hF h8 wa wb => lv_if_gt hF.1 hF.2.1 hd ht (fun h => wa ((jI_lt jr0 (ok_hd h8)).mp h)) (fun h => wb (Int.not_lt.mp (fun q => h ((jI_lt jr0 (ok_hd h8)).mpr q))))) ka kb
theorem V.if_le {x off : Int} {tgt : Nat} (hd : decode i.2.1 pc = .ok (.ifCond .le off, 3)) (ht : (pc : Int) + off = (tgt : Int)) (ka : x ≤ 0 → V l E i d n Qr Qx tgt L st σ) (kb : 0 < x → V l E i d n Qr Qx (pc + 3) L st σ) : V l E i d n Qr Qx pc L ((0, x) :: st) σ :=
  V.br tl1 (fun hF h8 wa wb => lv_if_le hF.1 hF.2.1 hd ht (fun h => wa ((jI_le (ok_hd h8) jr0).mp h)) (fun h => wb (Int.not_le.mp (fun q => h ((jI_le (ok_hd h8) jr0).mpr q))))) ka kb
theorem V.lookup {dflt : Int} {ps : Array (Int × Int)} {len : Nat} {x off : Int} {tgt : Nat} (hd : decode i.2.1 pc = .ok (.lookupswitch dflt ps, len)) (hp : (ps.toList.zip (ps.toList.drop 1)).all (fun (a, next) => a.1 < next.1) = true) (ho : Op.lookupswitch.offset ps.toList dflt x = off) (ht : (pc : Int) + off = (tgt : Int)) (k : V l E i d n Qr Qx tgt L st σ) : V l E i d n Qr Qx pc L ((0, x) :: st) σ :=
  V.op (fun _ h => ok_tl h) (fun hF hT w => lv_lookup hF.1 hF.2.1 hd hp (by rw [jI_toInt (ok_hd hT.2.2.2.2.2.2.2)]; exact ho) ht w) k
theorem V.tableIn {dflt lo hi : Int} {offs : Array Int} {len : Nat} {x off : Int} {tgt : Nat} (hd : decode i.2.1 pc = .ok (.tableswitch dflt lo hi offs, len)) (h1 : lo ≤ x) (h2 : x ≤ hi) (ho : offs[(x - lo).toNat]? = some off) (ht : (pc : Int) + off = (tgt : Int)) (k : V l E i d n Qr Qx tgt L st σ) : V l E i d n Qr Qx pc L ((0, x) :: st) σ :=
  V.op (fun _ h => ok_tl h) (fun hF hT w => lv_tableIn hF.1 hF.2.1 hd (by rw [jI_toInt (ok_hd hT.2.2.2.2.2.2.2)]; omega) (by rw [jI_toInt (ok_hd hT.2.2.2.2.2.2.2)]; omega) (by rw [jI_toInt (ok_hd hT.2.2.2.2.2.2.2)]; exact ho) ht w) k
theorem V.tableOut {dflt lo hi : Int} {offs : Array Int} {len : Nat} {x : Int} {tgt : Nat} (hd : decode i.2.1 pc = .ok (.tableswitch dflt lo hi offs, len)) (h : x < lo ∨ hi < x) (ht : (pc : Int) + dflt = (tgt : Int)) (k : V l E i d n Qr Qx tgt L st σ) : V l E i d n Qr Qx pc L ((0, x) :: st) σ :=
  V.op (fun _ h => ok_tl h) (fun hF hT w => lv_tableOut hF.1 hF.2.1 hd (by rw [jI_toInt (ok_hd hT.2.2.2.2.2.2.2)]; exact h) ht w) k
end JR2
