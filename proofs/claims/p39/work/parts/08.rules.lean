/-! ===== V's rows: fields and rows of numbers ===== -/
def jty (t : Nat) : FieldType := match t with
  | 1 => .long
  | 6 => .boolean
  | 7 => .char
  | _ => .int
def jFA (own : String) (ix cell k : Nat) (kI : Int) (t : Nat) (c : Int) : Prop := ∃ (ci : Nat) (fs : List (Nat × Int)) (C : String) (T : u_T) (N : Nat) (ty0 : Nat → FieldType), jsh cell = (4, ci, fs) ∧ cell < 34 ∧ fs[k]? = some (t, c) ∧ kI = (k : Int) ∧ jcl[ci]? = some (C, T, N) ∧ k < N ∧ Cond.fieldLink own ix C (T k).2.1 (T k).2.2.1 ∈ jG ∧ (T k).1 = C ∧ (∀ w ∈ u_ws C T N, w ∈ jG) ∧
  (t ≠ 2 → (T k).2.2.2 = false ∧ parseFieldDescriptor (T k).2.2.1 = some (jty t) ∧ (∀ k, k < N → parseFieldDescriptor (T k).2.2.1 = some (ty0 k)) ∧ (∀ a, a < N → ∀ b, b < N → a ≠ b → (T a).2.1 ≠ (T b).2.1))
theorem jcell_o {E : JE} {cell ci : Nat} {fs : List (Nat × Int)} (h : jsh cell = (4, ci, fs)) (row : Int → Int) : jcell E cell row = .inr (ci, fs.mapIdx (fun j f => jfld E f (row j))) := by unfold jcell; rw [h]; rfl
theorem jcell_i {E : JE} {cell n : Nat} {fs : List (Nat × Int)} (h : jsh cell = (0, n, fs)) (row : Int → Int) : jcell E cell row = .inl (E.2.2.1 0, n, .inl (fun j => jI (row j))) := by unfold jcell; rw [h]; rfl
theorem jcell_l {E : JE} {cell n : Nat} {fs : List (Nat × Int)} (h : jsh cell = (1, n, fs)) (row : Int → Int) : jcell E cell row = .inl (E.2.2.1 1, n, .inr (.inl (fun j => jL (row j)))) := by unfold jcell; rw [h]; rfl
theorem jcell_z {E : JE} {cell n : Nat} {fs : List (Nat × Int)} (h : jsh cell = (2, n, fs)) (row : Int → Int) : jcell E cell row = .inl (E.2.2.1 2, n, .inl (fun j => jI (row j))) := by unfold jcell; rw [h]; rfl
theorem jcell_d {E : JE} {cell n : Nat} {fs : List (Nat × Int)} (h : jsh cell = (3, n, fs)) (row : Int → Int) : jcell E cell row = .inl (E.2.2.1 3, n, .inr (.inr (.inr (.inl (fun j => jD (row j)))))) := by unfold jcell; rw [h]; rfl
theorem jrt_o {cell ci k : Nat} {fs : List (Nat × Int)} {t : Nat} {c : Int} (h : jsh cell = (4, ci, fs)) (hf : fs[k]? = some (t, c)) : jrt cell (k : Int) = t := by
  unfold jrt; rw [h]; simp [List.getD_eq_getElem?_getD, hf]
theorem jrt_a {cell n a t : Nat} {fs : List (Nat × Int)} (h : jsh cell = (a, n, fs)) (ha : (a = 0 ∧ t = 0) ∨ (a = 1 ∧ t = 1) ∨ (a = 2 ∧ t = 6) ∨ (a = 3 ∧ t = 5)) (j : Int) : jrt cell j = t := by
  unfold jrt; rw [h]
  rcases ha with ⟨rfl, rfl⟩ | ⟨rfl, rfl⟩ | ⟨rfl, rfl⟩ | ⟨rfl, rfl⟩ <;> rfl
theorem jokm_set {σ : JM} (h : jokm σ) {k : Nat} {j v : Int} (hv : jrng (jrt k j) v) : jokm (jset σ k j v) := by
  intro a b
  by_cases e : a = k ∧ b = j
  · obtain ⟨rfl, rfl⟩ := e
    rw [jset_same]; exact hv
  · rw [jset_ne σ e]; exact h a b
theorem jrng_int {t : Nat} {x : Int} (ht : t = 0 ∨ t = 6 ∨ t = 7) (h : jrng t x) : jrI x := by
  rcases ht with rfl | rfl | rfl
  · exact h
  · rcases h with rfl | rfl <;> exact ⟨by decide, by decide⟩
  · exact ⟨by have := h.1; omega, by have := h.2; omega⟩
theorem jset_mapIdx (E : JE) (fs : List (Nat × Int)) (σ : JM) (cell k : Nat) (t : Nat) (c v : Int) (hf : fs[k]? = some (t, c)) : (fs.mapIdx (fun j f => jfld E f (σ cell j))).set k (jfld E (t, c) v) = fs.mapIdx (fun j f => jfld E f (jset σ cell (k : Int) v cell j)) := by
  apply List.ext_getElem?
  intro n
  rw [List.getElem?_set, List.getElem?_mapIdx, List.getElem?_mapIdx]
  by_cases h : k = n
  · subst h
    rw [if_pos rfl, if_pos (by rw [List.length_mapIdx]; exact (List.getElem?_eq_some_iff.mp hf).1), hf]
    simp [jset_same]
  · rw [if_neg h]
    congr 1
    funext f
    rw [jset_ne σ (fun q => h (by have := q.2; omega))]
theorem jfit {t : Nat} {x : Int} (ht : t = 0 ∨ t = 6 ∨ t = 7) (h : jrng t x) : narrow (jty t) (.int (jI x)) = .int (jI x) ∧ fits (jty t) (.int (jI x)) = true := by
  rcases ht with rfl | rfl | rfl
  · exact ⟨rfl, rfl⟩
  · rcases h with rfl | rfl <;> exact ⟨by decide +kernel, by decide +kernel⟩
  · obtain ⟨j, rfl⟩ : ∃ j : Nat, x = (j : Int) := ⟨x.toNat, by have := h.1; omega⟩
    exact pk_charN (q := j) (by have := h.2; omega)
section JR3
variable {l : Launch} {E : JE} {i : JI} {d n : Nat} {Qr : Option JV → JM → Prop} {Qx : String → JM → Prop} {pc : Nat} {L L' st : List JV} {σ : JM}
theorem V.getR {ix cell k : Nat} {kI c q : Int} (fa : jFA i.1.cls ix cell k kI 2 c) (hq : q.toNat = cell) (hd : decode i.2.1 pc = .ok (.getfield ix, 3)) (kk : V l E i d n Qr Qx (pc + 3) L ((2, c) :: st) σ) : V l E i d n Qr Qx pc L ((2, q) :: st) σ := by
  obtain ⟨ci, fs, C, T, N, ty0, h1, h2, h3, h4, h5, h6, h7, h8, h9, h10⟩ := fa
  subst hq
  refine V.op (fun _ h => ok_cs (v := (2, c)) trivial (ok_tl h)) (fun hF hT w => ?_) kk
  refine va_get (D := E.2.1) (cl := jcl) (ws := jw E σ) (tys := jtys E) (a := E.1 q.toNat) (Ts := jG) hF.1 hF.2.1 hF.2.2.2.2.1 h9 hF.2.2.2.1 hT.1.2.2 hT.1.1 q.toNat (by rw [jw_get E σ h2, jcell_o h1]) h5 k h6 (hF.2.2.2.2.1 _ h7) (fun x hx => by rw [h8] at hx; exact hx) (v := jtr E (2, c)) (by rw [List.getElem?_mapIdx, h3]; rfl) hd w
theorem V.getI {ix cell k t : Nat} {kI c q : Int} (fa : jFA i.1.cls ix cell k kI t c) (ht : t = 0 ∨ t = 6 ∨ t = 7) (hq : q.toNat = cell) (hd : decode i.2.1 pc = .ok (.getfield ix, 3)) (kk : jrng t (σ cell kI) → V l E i d n Qr Qx (pc + 3) L ((0, σ cell kI) :: st) σ) : V l E i d n Qr Qx pc L ((2, q) :: st) σ := by
  obtain ⟨ci, fs, C, T, N, ty0, h1, h2, h3, h4, h5, h6, h7, h8, h9, h10⟩ := fa
  subst hq
  intro p e R s m args below meth c A cm sm Z hF hX hZ H locs cells slots ls hT
  have hr : jrng t (σ q.toNat kI) := by have := hT.2.1 q.toNat kI; rw [h4, jrt_o h1 h3] at this; rw [h4]; exact this
  refine va_get (D := E.2.1) (cl := jcl) (ws := jw E σ) (tys := jtys E) (a := E.1 q.toNat) (Ts := jG) hF.1 hF.2.1 hF.2.2.2.2.1 h9 hF.2.2.2.1 hT.1.2.2 hT.1.1 q.toNat (by rw [jw_get E σ h2, jcell_o h1]) h5 k h6 (hF.2.2.2.2.1 _ h7) (fun x hx => by rw [h8] at hx; exact hx) (v := jtr E (0, σ q.toNat kI)) (by rw [List.getElem?_mapIdx, h3, h4]; rcases ht with rfl | rfl | rfl <;> rfl) hd ?_
  obtain ⟨g1, g2, g3, g4, g5, g6, g7, g8⟩ := hT
  exact kk hr p e R s m args below meth _ A cm sm Z hF hX hZ H locs cells slots ls ⟨g1, g2, g3, g4, g5, g6, g7, ok_cs (v := (0, _)) (jrng_int ht hr) (ok_tl g8)⟩
theorem V.getL {ix cell k : Nat} {kI c q : Int} (fa : jFA i.1.cls ix cell k kI 1 c) (hq : q.toNat = cell) (hd : decode i.2.1 pc = .ok (.getfield ix, 3)) (kk : jrL (σ cell kI) → V l E i d n Qr Qx (pc + 3) L ((1, σ cell kI) :: st) σ) : V l E i d n Qr Qx pc L ((2, q) :: st) σ := by
  obtain ⟨ci, fs, C, T, N, ty0, h1, h2, h3, h4, h5, h6, h7, h8, h9, h10⟩ := fa
  subst hq
  intro p e R s m args below meth c A cm sm Z hF hX hZ H locs cells slots ls hT
  have hr : jrL (σ q.toNat kI) := by have := hT.2.1 q.toNat kI; rw [h4, jrt_o h1 h3] at this; rw [h4]; exact this
  refine va_get (D := E.2.1) (cl := jcl) (ws := jw E σ) (tys := jtys E) (a := E.1 q.toNat) (Ts := jG) hF.1 hF.2.1 hF.2.2.2.2.1 h9 hF.2.2.2.1 hT.1.2.2 hT.1.1 q.toNat (by rw [jw_get E σ h2, jcell_o h1]) h5 k h6 (hF.2.2.2.2.1 _ h7) (fun x hx => by rw [h8] at hx; exact hx) (v := jtr E (1, σ q.toNat kI)) (by rw [List.getElem?_mapIdx, h3, h4]; rfl) hd ?_
  obtain ⟨g1, g2, g3, g4, g5, g6, g7, g8⟩ := hT
  exact kk hr p e R s m args below meth _ A cm sm Z hF hX hZ H locs cells slots ls ⟨g1, g2, g3, g4, g5, g6, g7, ok_cs (v := (1, _)) hr (ok_tl g8)⟩
theorem V.putI {ix cell k t : Nat} {kI cv q x : Int} (fa : jFA i.1.cls ix cell k kI t cv) (ht : t = 0 ∨ t = 6 ∨ t = 7) (hq : q.toNat = cell) (hd : decode i.2.1 pc = .ok (.putfield ix, 3)) (hr : t = 0 ∨ jrng t x) (kk : V l E i d n Qr Qx (pc + 3) L st (jset σ cell kI x)) : V l E i d n Qr Qx pc L ((0, x) :: (2, q) :: st) σ := by
  obtain ⟨ci, fs, C, T, N, ty0, h1, h2, h3, h4, h5, h6, h7, h8, h9, h10⟩ := fa
  subst hq
  subst h4
  obtain ⟨k1, k2, k3, k4⟩ := h10 (by rcases ht with rfl | rfl | rfl <;> decide)
  intro p e R s m args below meth c A cm sm Z hF hX hZ H locs cells slots ls hT
  obtain ⟨g1, g2, g3, g4, g5, g6, g7, g8⟩ := hT
  have hr2 : jrng t x := by
    rcases hr with rfl | h
    · exact ok_hd g8
    · exact h
  refine va_put (D := E.2.1) (cl := jcl) (ws := jw E σ) (tys := jtys E) (a := E.1 q.toNat) (Ts := jG) (v := .int (jI x)) (ty := jty t) hF.1 hF.2.1 hF.2.2.2.2.1 h9 ty0 k3 k4 hF.2.2.2.1 g1.2.2 g1.1 g1.2.1 g3 q.toNat (by rw [jw_get E σ h2, jcell_o h1]) h5 k h6 (hF.2.2.2.2.1 _ h7) (fun x hx => by rw [h8] at hx; exact hx) k1 k2 (jfit ht hr2).1 (jfit ht hr2).2 (by rw [List.length_mapIdx]; exact (List.getElem?_eq_some_iff.mp h3).1) hd (fun H1 locs1 hP hD hS => ?_)
  have e1 : (Value.int (jI x)) = jfld E (t, cv) x := by rcases ht with rfl | rfl | rfl <;> rfl
  rw [e1, jset_mapIdx E fs σ q.toNat k t _ x h3, jw_set E σ (k : Int) x _ (jcell_o h1 _)] at hP hD
  exact kk p e R s m args below meth _ A cm sm Z hF hX hZ H1 locs1 cells slots ls ⟨⟨hP, hD, g1.2.2⟩, jokm_set g2 (by rw [jrt_o h1 h3]; exact hr2), hS, g4, g5, g6, g7, ok_tl (ok_tl g8)⟩
theorem V.putL {ix cell k : Nat} {kI cv q x : Int} (fa : jFA i.1.cls ix cell k kI 1 cv) (hq : q.toNat = cell) (hd : decode i.2.1 pc = .ok (.putfield ix, 3)) (kk : V l E i d n Qr Qx (pc + 3) L st (jset σ cell kI x)) : V l E i d n Qr Qx pc L ((1, x) :: (2, q) :: st) σ := by
  obtain ⟨ci, fs, C, T, N, ty0, h1, h2, h3, h4, h5, h6, h7, h8, h9, h10⟩ := fa
  subst hq
  subst h4
  obtain ⟨k1, k2, k3, k4⟩ := h10 (by decide)
  intro p e R s m args below meth c A cm sm Z hF hX hZ H locs cells slots ls hT
  obtain ⟨g1, g2, g3, g4, g5, g6, g7, g8⟩ := hT
  refine va_put (D := E.2.1) (cl := jcl) (ws := jw E σ) (tys := jtys E) (a := E.1 q.toNat) (Ts := jG) (v := .long (jL x)) (ty := .long) hF.1 hF.2.1 hF.2.2.2.2.1 h9 ty0 k3 k4 hF.2.2.2.1 g1.2.2 g1.1 g1.2.1 g3 q.toNat (by rw [jw_get E σ h2, jcell_o h1]) h5 k h6 (hF.2.2.2.2.1 _ h7) (fun x hx => by rw [h8] at hx; exact hx) k1 k2 rfl rfl (by rw [List.length_mapIdx]; exact (List.getElem?_eq_some_iff.mp h3).1) hd (fun H1 locs1 hP hD hS => ?_)
  have e1 : (Value.long (jL x)) = jfld E (1, cv) x := rfl
  rw [e1, jset_mapIdx E fs σ q.toNat k 1 _ x h3, jw_set E σ (k : Int) x _ (jcell_o h1 _)] at hP hD
  exact kk p e R s m args below meth _ A cm sm Z hF hX hZ H1 locs1 cells slots ls ⟨⟨hP, hD, g1.2.2⟩, jokm_set g2 (by rw [jrt_o h1 h3]; exact ok_hd g8), hS, g4, g5, g6, g7, ok_tl (ok_tl g8)⟩
-- rows
theorem V.iald {cell N : Nat} {fs : List (Nat × Int)} {q x : Int} (cell' : Nat) (hq : q.toNat = cell) (hsh : jsh cell = (0, N, fs)) (hlt : Nat.blt cell 34 = true) (hN : Nat.blt N 2147483648 = true) (hd : decode i.2.1 pc = .ok (.iaload, 1)) (h0 : 0 ≤ x) (h1 : x < (N : Int)) (kk : jrI (σ cell x) → V l E i d n Qr Qx (pc + 1) L ((0, σ cell x) :: st) σ) : V l E i d n Qr Qx pc L ((0, x) :: (2, q) :: st) σ := by
  subst hq
  have hN := Nat.blt_eq.mp hN
  have hlt := Nat.blt_eq.mp hlt
  intro p e R s m args below meth c A cm sm Z hF hX hZ H locs cells slots ls hT
  obtain ⟨g1, g2, g3, g4, g5, g6, g7, g8⟩ := hT
  have hr : jrI (σ q.toNat x) := by have := g2 q.toNat x; rw [jrt_a hsh (Or.inl ⟨rfl, rfl⟩)] at this; exact this
  have e1 : (jI x).toNatClampNeg = x.toNat := jI_clamp h0 (by omega)
  refine va_iald (D := E.2.1) (cl := jcl) (ws := jw E σ) (tys := jtys E) (a := E.1 q.toNat) hF.1 hF.2.1 g1.2.2 g1.1 q.toNat 0 (by rw [jw_get E σ hlt, jcell_i hsh]) rfl (jI_in h0 h1 hN) hd ?_
  rw [e1, show ((x.toNat : Nat) : Int) = x from Int.toNat_of_nonneg h0]
  exact kk hr p e R s m args below meth _ A cm sm Z hF hX hZ H locs cells slots ls ⟨g1, g2, g3, g4, g5, g6, g7, ok_cs (v := (0, _)) hr (ok_tl (ok_tl g8))⟩
theorem V.zald {cell N : Nat} {fs : List (Nat × Int)} {q x : Int} (cell' : Nat) (hq : q.toNat = cell) (hsh : jsh cell = (2, N, fs)) (hlt : Nat.blt cell 34 = true) (hN : Nat.blt N 2147483648 = true) (hd : decode i.2.1 pc = .ok (.baload, 1)) (h0 : 0 ≤ x) (h1 : x < (N : Int)) (kk : (σ cell x = 0 ∨ σ cell x = 1) → V l E i d n Qr Qx (pc + 1) L ((0, σ cell x) :: st) σ) : V l E i d n Qr Qx pc L ((0, x) :: (2, q) :: st) σ := by
  subst hq
  have hN := Nat.blt_eq.mp hN
  have hlt := Nat.blt_eq.mp hlt
  intro p e R s m args below meth c A cm sm Z hF hX hZ H locs cells slots ls hT
  obtain ⟨g1, g2, g3, g4, g5, g6, g7, g8⟩ := hT
  have hr : jrng 6 (σ q.toNat x) := by have := g2 q.toNat x; rw [jrt_a hsh (Or.inr (Or.inr (Or.inl ⟨rfl, rfl⟩)))] at this; exact this
  have e1 : (jI x).toNatClampNeg = x.toNat := jI_clamp h0 (by omega)
  refine va_zald (D := E.2.1) (cl := jcl) (ws := jw E σ) (tys := jtys E) (a := E.1 q.toNat) hF.1 hF.2.1 g1.2.2 g1.1 q.toNat 2 (by rw [jw_get E σ hlt, jcell_z hsh]) rfl (jI_in h0 h1 hN) hd ?_
  rw [e1, show ((x.toNat : Nat) : Int) = x from Int.toNat_of_nonneg h0]
  exact kk hr p e R s m args below meth _ A cm sm Z hF hX hZ H locs cells slots ls ⟨g1, g2, g3, g4, g5, g6, g7, ok_cs (v := (0, _)) (jrng_int (Or.inr (Or.inl rfl)) hr) (ok_tl (ok_tl g8))⟩
theorem V.lald {cell N : Nat} {fs : List (Nat × Int)} {q x : Int} (cell' : Nat) (hq : q.toNat = cell) (hsh : jsh cell = (1, N, fs)) (hlt : Nat.blt cell 34 = true) (hN : Nat.blt N 2147483648 = true) (hd : decode i.2.1 pc = .ok (.laload, 1)) (h0 : 0 ≤ x) (h1 : x < (N : Int)) (kk : jrL (σ cell x) → V l E i d n Qr Qx (pc + 1) L ((1, σ cell x) :: st) σ) : V l E i d n Qr Qx pc L ((0, x) :: (2, q) :: st) σ := by
  subst hq
  have hN := Nat.blt_eq.mp hN
  have hlt := Nat.blt_eq.mp hlt
  intro p e R s m args below meth c A cm sm Z hF hX hZ H locs cells slots ls hT
  obtain ⟨g1, g2, g3, g4, g5, g6, g7, g8⟩ := hT
  have hr : jrng 1 (σ q.toNat x) := by have := g2 q.toNat x; rw [jrt_a hsh (Or.inr (Or.inl ⟨rfl, rfl⟩))] at this; exact this
  have e1 : (jI x).toNatClampNeg = x.toNat := jI_clamp h0 (by omega)
  refine va_lald (D := E.2.1) (cl := jcl) (ws := jw E σ) (tys := jtys E) (a := E.1 q.toNat) hF.1 hF.2.1 g1.2.2 g1.1 q.toNat 1 (by rw [jw_get E σ hlt, jcell_l hsh]) rfl (jI_in h0 h1 hN) hd ?_
  rw [e1, show ((x.toNat : Nat) : Int) = x from Int.toNat_of_nonneg h0]
  exact kk hr p e R s m args below meth _ A cm sm Z hF hX hZ H locs cells slots ls ⟨g1, g2, g3, g4, g5, g6, g7, ok_cs (v := (1, _)) hr (ok_tl (ok_tl g8))⟩
theorem jupd {α : Type} (g : Int → α) (σ : JM) (cell : Nat) {x : Int} (v : Int) (h0 : 0 ≤ x) : (fun j : Nat => if j = x.toNat then g v else g (σ cell (j : Int))) = fun j : Nat => g (jset σ cell x v cell (j : Int)) := by
  funext j
  by_cases h : (j : Int) = x
  · rw [if_pos (by omega), h, jset_same]
  · rw [if_neg (by omega), jset_ne σ (fun q => h q.2)]
theorem V.iast {cell N : Nat} {fs : List (Nat × Int)} {q x v : Int} (cell' : Nat) (hq : q.toNat = cell) (hsh : jsh cell = (0, N, fs)) (hlt : Nat.blt cell 34 = true) (hN : Nat.blt N 2147483648 = true) (hd : decode i.2.1 pc = .ok (.iastore, 1)) (h0 : 0 ≤ x) (h1 : x < (N : Int)) (kk : V l E i d n Qr Qx (pc + 1) L st (jset σ cell x v)) : V l E i d n Qr Qx pc L ((0, v) :: (0, x) :: (2, q) :: st) σ := by
  subst hq
  have hN := Nat.blt_eq.mp hN
  have hlt := Nat.blt_eq.mp hlt
  intro p e R s m args below meth c A cm sm Z hF hX hZ H locs cells slots ls hT
  obtain ⟨g1, g2, g3, g4, g5, g6, g7, g8⟩ := hT
  have e1 : (jI x).toNatClampNeg = x.toNat := jI_clamp h0 (by omega)
  refine va_iast (D := E.2.1) (cl := jcl) (ws := jw E σ) (tys := jtys E) (a := E.1 q.toNat) hF.1 hF.2.1 g1.2.2 g1.1 g1.2.1 g3 q.toNat 0 (by rw [jw_get E σ hlt, jcell_i hsh]) rfl (jI_in h0 h1 hN) hd (fun H1 locs1 hP hD hS => ?_)
  rw [e1, show upd (fun j : Nat => jI (σ q.toNat (j : Int))) x.toNat (jI v) = fun j : Nat => jI (jset σ q.toNat x v q.toNat (j : Int)) from jupd jI σ q.toNat v h0, jw_set E σ x v _ (jcell_i hsh _)] at hP hD
  exact kk p e R s m args below meth _ A cm sm Z hF hX hZ H1 locs1 cells slots ls ⟨⟨hP, hD, g1.2.2⟩, jokm_set g2 (by rw [jrt_a hsh (Or.inl ⟨rfl, rfl⟩)]; exact ok_hd g8), hS, g4, g5, g6, g7, ok_tl (ok_tl (ok_tl g8))⟩
theorem V.zast {cell N : Nat} {fs : List (Nat × Int)} {q x v : Int} (cell' : Nat) (hq : q.toNat = cell) (hsh : jsh cell = (2, N, fs)) (hlt : Nat.blt cell 34 = true) (hN : Nat.blt N 2147483648 = true) (hd : decode i.2.1 pc = .ok (.bastore, 1)) (h0 : 0 ≤ x) (h1 : x < (N : Int)) (hv : v = 0 ∨ v = 1) (kk : V l E i d n Qr Qx (pc + 1) L st (jset σ cell x v)) : V l E i d n Qr Qx pc L ((0, v) :: (0, x) :: (2, q) :: st) σ := by
  subst hq
  have hN := Nat.blt_eq.mp hN
  have hlt := Nat.blt_eq.mp hlt
  intro p e R s m args below meth c A cm sm Z hF hX hZ H locs cells slots ls hT
  obtain ⟨g1, g2, g3, g4, g5, g6, g7, g8⟩ := hT
  have e1 : (jI x).toNatClampNeg = x.toNat := jI_clamp h0 (by omega)
  have e2 : vp_nar .boolean (jI v) = jI v := by rcases hv with rfl | rfl <;> decide +kernel
  refine va_zast (D := E.2.1) (cl := jcl) (ws := jw E σ) (tys := jtys E) (a := E.1 q.toNat) hF.1 hF.2.1 g1.2.2 g1.1 g1.2.1 g3 q.toNat 2 (by rw [jw_get E σ hlt, jcell_z hsh]) rfl (jI_in h0 h1 hN) hd (fun H1 locs1 hP hD hS => ?_)
  rw [e1, e2, show upd (fun j : Nat => jI (σ q.toNat (j : Int))) x.toNat (jI v) = fun j : Nat => jI (jset σ q.toNat x v q.toNat (j : Int)) from jupd jI σ q.toNat v h0, jw_set E σ x v _ (jcell_z hsh _)] at hP hD
  exact kk p e R s m args below meth _ A cm sm Z hF hX hZ H1 locs1 cells slots ls ⟨⟨hP, hD, g1.2.2⟩, jokm_set g2 (by rw [jrt_a hsh (Or.inr (Or.inr (Or.inl ⟨rfl, rfl⟩)))]; exact hv), hS, g4, g5, g6, g7, ok_tl (ok_tl (ok_tl g8))⟩
theorem V.last {cell N : Nat} {fs : List (Nat × Int)} {q x v : Int} (cell' : Nat) (hq : q.toNat = cell) (hsh : jsh cell = (1, N, fs)) (hlt : Nat.blt cell 34 = true) (hN : Nat.blt N 2147483648 = true) (hd : decode i.2.1 pc = .ok (.lastore, 1)) (h0 : 0 ≤ x) (h1 : x < (N : Int)) (kk : V l E i d n Qr Qx (pc + 1) L st (jset σ cell x v)) : V l E i d n Qr Qx pc L ((1, v) :: (0, x) :: (2, q) :: st) σ := by
  subst hq
  have hN := Nat.blt_eq.mp hN
  have hlt := Nat.blt_eq.mp hlt
  intro p e R s m args below meth c A cm sm Z hF hX hZ H locs cells slots ls hT
  obtain ⟨g1, g2, g3, g4, g5, g6, g7, g8⟩ := hT
  have e1 : (jI x).toNatClampNeg = x.toNat := jI_clamp h0 (by omega)
  refine va_last (D := E.2.1) (cl := jcl) (ws := jw E σ) (tys := jtys E) (a := E.1 q.toNat) hF.1 hF.2.1 g1.2.2 g1.1 g1.2.1 g3 q.toNat 1 (by rw [jw_get E σ hlt, jcell_l hsh]) rfl (jI_in h0 h1 hN) hd (fun H1 locs1 hP hD hS => ?_)
  rw [e1, show vp_updL (fun j : Nat => jL (σ q.toNat (j : Int))) x.toNat (jL v) = fun j : Nat => jL (jset σ q.toNat x v q.toNat (j : Int)) from jupd jL σ q.toNat v h0, jw_set E σ x v _ (jcell_l hsh _)] at hP hD
  exact kk p e R s m args below meth _ A cm sm Z hF hX hZ H1 locs1 cells slots ls ⟨⟨hP, hD, g1.2.2⟩, jokm_set g2 (by rw [jrt_a hsh (Or.inr (Or.inl ⟨rfl, rfl⟩))]; exact ok_hd g8), hS, g4, g5, g6, g7, ok_tl (ok_tl (ok_tl g8))⟩
end JR3
