/-! THE SMALL MACHINE over the kit's rows: one object of each class and its rows, cells 0 to 33; what they hold is a function to Int; values carry a tag. -/
abbrev JV : Type := Nat × Int
abbrev JM : Type := Nat → Int → Int
/-- addresses of the cells; classes' data; the classes of the rows; the script: its cell, its length, its ints -/
abbrev JE : Type := (Nat → Nat) × va_G × (Nat → ClassId) × (Nat × Nat × (Nat → Int32))
/-- a method: name, code, locals, answer, handlers, whether it sees the script -/
abbrev JI : Type := MethodName × ByteArray × Nat × Option FieldType × List (Nat × Nat × Nat × Nat) × Bool
def jI (x : Int) : Int32 := Int32.ofInt x
def jL (x : Int) : Int64 := Int64.ofInt x
def jF (x : Int) : UInt32 := UInt32.ofNat x.toNat
def jD (x : Int) : UInt64 := UInt64.ofNat x.toNat
def jtr (E : JE) (v : JV) : Value := match v.1 with
  | 0 => .int (jI v.2)
  | 1 => .long (jL v.2)
  | 2 => .ref (E.1 v.2.toNat)
  | 3 => .ref v.2.toNat
  | 4 => .float (jF v.2)
  | 5 => .double (jD v.2)
  | 7 => .ref E.2.2.2.1
  | _ => .null
def jrI (x : Int) : Prop := -2147483648 ≤ x ∧ x ≤ 2147483647
def jrL (x : Int) : Prop := -9223372036854775808 ≤ x ∧ x ≤ 9223372036854775807
def jokv (v : JV) : Prop := match v.1 with
  | 0 => jrI v.2
  | 1 => jrL v.2
  | 4 => 0 ≤ v.2 ∧ v.2 < 4294967296
  | 5 => 0 ≤ v.2 ∧ v.2 < 18446744073709551616
  | _ => True
/-- the shape: kind (0 ints, 1 longs, 2 booleans, 3 doubles, 4 an object), length or class, the fields: tag and, of a reference, the cell -/
def jsh (k : Nat) : Nat × Nat × List (Nat × Int) := match k with
  | 0 => (4, 6, [(2, 1), (2, 2), (2, 3), (2, 4), (2, 5), (2, 6)])
  | 1 => (4, 5, [(2, 8), (2, 9), (2, 10), (2, 11), (2, 12), (2, 13), (2, 14), (0, 0), (0, 0), (0, 0), (6, 0)])
  | 2 => (4, 3, [(2, 15), (2, 16), (2, 17), (2, 18), (2, 19), (2, 20), (0, 0), (0, 0)])
  | 3 => (4, 4, [(2, 2), (2, 21), (2, 22), (2, 23), (2, 24), (0, 0)])
  | 4 => (4, 1, [(2, 1), (2, 2), (2, 3), (2, 25), (2, 26), (2, 27), (2, 28), (0, 0), (0, 0), (0, 0), (0, 0)])
  | 5 => (4, 2, [(2, 29), (2, 30), (0, 0), (0, 0)])
  | 6 => (4, 0, [(2, 1), (2, 31), (2, 32), (2, 33), (1, 0)])
  | 7 => (6, 21, [])
  | 8 => (0, 80, [])
  | 9 => (0, 80, [])
  | 10 => (0, 80, [])
  | 11 => (0, 80, [])
  | 12 => (0, 80, [])
  | 13 => (0, 80, [])
  | 14 => (0, 8, [])
  | 15 => (0, 200, [])
  | 16 => (0, 200, [])
  | 17 => (0, 200, [])
  | 18 => (0, 200, [])
  | 19 => (0, 200, [])
  | 20 => (0, 200, [])
  | 21 => (0, 1620, [])
  | 22 => (0, 81, [])
  | 23 => (0, 81, [])
  | 24 => (0, 200, [])
  | 25 => (0, 80, [])
  | 26 => (0, 9, [])
  | 27 => (0, 18, [])
  | 28 => (0, 18, [])
  | 29 => (0, 1400, [])
  | 30 => (2, 1400, [])
  | 31 => (0, 80, [])
  | 32 => (1, 4096, [])
  | 33 => (0, 4096, [])
  | _ => (9, 0, [])
def jN : Nat := 34
def jcl : List vw_C := [(RX0, TX0, 5), (RX1, TX1, 11), (RX2, TX2, 4), (RX3, TX3, 8), (RX4, TX4, 6), (RX5, TX5, 11), (RX6, TX6, 6)]
def jrt (k : Nat) (j : Int) : Nat := match jsh k with
  | (0, _, _) => 0
  | (1, _, _) => 1
  | (2, _, _) => 6
  | (3, _, _) => 5
  | (6, _, _) => if 100 ≤ j then 6 else 9
  | (4, _, f) => (f.getD j.toNat (9, 0)).1
  | _ => 9
def jrng (t : Nat) (x : Int) : Prop := match t with
  | 0 => jrI x
  | 1 => jrL x
  | 5 => 0 ≤ x ∧ x < 18446744073709551616
  | 6 => x = 0 ∨ x = 1
  | 7 => 0 ≤ x ∧ x < 65536
  | _ => True
def jokm (σ : JM) : Prop := ∀ k j, jrng (jrt k j) (σ k j)
def jset (σ : JM) (k : Nat) (j v : Int) : JM := fun a b => if a = k ∧ b = j then v else σ a b
def jfld (E : JE) (f : Nat × Int) (x : Int) : Value := match f.1 with
  | 1 => .long (jL x)
  | 2 => .ref (E.1 f.2.toNat)
  | _ => .int (jI x)
def jcell (E : JE) (k : Nat) (row : Int → Int) : va_E := match jsh k with
  | (0, n, _) => .inl (E.2.2.1 0, n, .inl (fun j => jI (row j)))
  | (1, n, _) => .inl (E.2.2.1 1, n, .inr (.inl (fun j => jL (row j))))
  | (2, n, _) => .inl (E.2.2.1 2, n, .inl (fun j => jI (row j)))
  | (3, n, _) => .inl (E.2.2.1 3, n, .inr (.inr (.inr (.inl (fun j => jD (row j))))))
  | (6, n, _) => .inl (E.2.2.1 2, n, .inl (fun j => jI (row (j + 100))))
  | (_, ci, fs) => .inr (ci, fs.mapIdx (fun j f => jfld E f (row j)))
def jw (E : JE) (σ : JM) : va_W := (List.range jN).map (fun k => (E.1 k, jcell E k (σ k)))
def jtys (E : JE) : List (ClassId × FieldType) := [(E.2.2.1 0, .int), (E.2.2.1 1, .long), (E.2.2.1 2, .boolean)]
def jWd (E : JE) (A : Nat → Prop) (U : State) (H : Heap) (σ : JM) : Prop := va_P E.2.1 jcl (jw E σ) H ∧ va_D A (jw E σ) ∧ va_K E.2.1 jcl (jtys E) U
def jA (E : JE) (sz : Nat) : Nat → Prop := fun q => (∃ k : Nat, k < jN ∧ q = E.1 k) ∨ sz ≤ q
theorem jw_get (E : JE) (σ : JM) {k : Nat} (h : k < 34) : (jw E σ)[k]? = some (E.1 k, jcell E k (σ k)) := by
  unfold jw jN
  rw [List.getElem?_map, List.getElem?_range h]; rfl
theorem jset_row (σ : JM) {k a : Nat} (j v : Int) (h : a ≠ k) : jset σ k j v a = σ a := by
  funext b; simp [jset, h]
theorem jset_same (σ : JM) (k : Nat) (j v : Int) : jset σ k j v k j = v := by simp [jset]
theorem jset_ne (σ : JM) {k a : Nat} {j b v : Int} (h : ¬ (a = k ∧ b = j)) : jset σ k j v a b = σ a b := by simp only [jset]; rw [if_neg h]
theorem jw_set (E : JE) (σ : JM) {k : Nat} (j v : Int) (c : va_E) (hc : jcell E k (jset σ k j v k) = c) : (jw E σ).set k (E.1 k, c) = jw E (jset σ k j v) := by
  apply List.ext_getElem?
  intro n
  rw [List.getElem?_set]
  by_cases hn : n < 34
  · rw [jw_get E (jset σ k j v) hn]
    by_cases h : k = n
    · subst h
      rw [if_pos rfl, if_pos (by show k < ((List.range jN).map _).length; rw [List.length_map, List.length_range]; exact hn), hc]
    · rw [if_neg h, jw_get E σ hn, jset_row σ j v (fun e => h e.symm)]
  · have h1 : ∀ τ : JM, (jw E τ)[n]? = none := fun τ => by
      apply List.getElem?_eq_none
      show ((List.range jN).map _).length ≤ n
      rw [List.length_map, List.length_range]
      exact Nat.not_lt.mp hn
    rw [h1, h1]
    by_cases h : k = n
    · subst h
      rw [if_pos rfl, if_neg (by show ¬ k < ((List.range jN).map _).length; rw [List.length_map, List.length_range]; exact hn)]
    · rw [if_neg h]
theorem jw_addr {E : JE} {A : Nat → Prop} {σ : JM} (h : va_D A (jw E σ)) {k : Nat} (hk : k < 34) : A (E.1 k) := h.2 k _ (jw_get E σ hk)
theorem jD_any {E : JE} {A : Nat → Prop} {σ : JM} (h : va_D A (jw E σ)) (τ : JM) : va_D A (jw E τ) := by
  have g : ∀ (ρ : JM) (i : Nat) (q : Nat × va_E), (jw E ρ)[i]? = some q → i < 34 ∧ q.1 = E.1 i := fun ρ i q hq => by
    have hi : i < 34 := by
      rcases Nat.lt_or_ge i 34 with h | h
      · exact h
      · rw [List.getElem?_eq_none (by show ((List.range jN).map _).length ≤ i; rw [List.length_map, List.length_range]; exact h)] at hq; cases hq
    rw [jw_get E ρ hi] at hq
    exact ⟨hi, by rw [← Option.some.inj hq]⟩
  refine ⟨fun i j p q hp hq e => ?_, fun i q hq => ?_⟩
  · obtain ⟨h1, e1⟩ := g τ i p hp
    obtain ⟨h2, e2⟩ := g τ j q hq
    exact h.1 i j _ _ (jw_get E σ h1) (jw_get E σ h2) (by rw [← e1, ← e2]; exact e)
  · obtain ⟨h1, e1⟩ := g τ i q hq
    rw [e1]; exact jw_addr h h1
theorem jD_to {E : JE} {A B : Nat → Prop} {σ : JM} (h : va_D A (jw E σ)) (hB : ∀ k, k < 34 → B (E.1 k)) : va_D B (jw E σ) := by
  refine ⟨h.1, fun i q hq => ?_⟩
  have hi : i < 34 := by
    rcases Nat.lt_or_ge i 34 with h | h
    · exact h
    · rw [List.getElem?_eq_none (by show ((List.range jN).map _).length ≤ i; rw [List.length_map, List.length_range]; exact h)] at hq; cases hq
  rw [jw_get E σ hi] at hq
  rw [← Option.some.inj hq]
  exact hB i hi
-- numbers
theorem jI_toInt {x : Int} (h : jrI x) : (jI x).toInt = x := Int32.toInt_ofInt_of_le (by have := h.1; omega) (by have := h.2; omega)
theorem jL_toInt {x : Int} (h : jrL x) : (jL x).toInt = x := Int64.toInt_ofInt_of_le (by have := h.1; omega) (by have := h.2; omega)
theorem jI_eq {x y : Int} (hx : jrI x) (hy : jrI y) : jI x = jI y ↔ x = y := by rw [← Int32.toInt_inj, jI_toInt hx, jI_toInt hy]
theorem jI_le {x y : Int} (hx : jrI x) (hy : jrI y) : jI x ≤ jI y ↔ x ≤ y := by rw [Int32.le_iff_toInt_le, jI_toInt hx, jI_toInt hy]
theorem jI_lt {x y : Int} (hx : jrI x) (hy : jrI y) : jI x < jI y ↔ x < y := by rw [Int32.lt_iff_toInt_lt, jI_toInt hx, jI_toInt hy]
theorem jL_eq {x y : Int} (hx : jrL x) (hy : jrL y) : jL x = jL y ↔ x = y := by rw [← Int64.toInt_inj, jL_toInt hx, jL_toInt hy]
theorem jL_lt {x y : Int} (hx : jrL x) (hy : jrL y) : jL x < jL y ↔ x < y := by rw [Int64.lt_iff_toInt_lt, jL_toInt hx, jL_toInt hy]
theorem jI_add (x y : Int) : jI x + jI y = jI (x + y) := (Int32.ofInt_add x y).symm
theorem jI_sub (x y : Int) : jI x - jI y = jI (x - y) := (Int32.ofInt_sub x y).symm
theorem jI_mul (x y : Int) : jI x * jI y = jI (x * y) := (Int32.ofInt_mul x y).symm
theorem jL_add (x y : Int) : jL x + jL y = jL (x + y) := (Int64.ofInt_add x y).symm
theorem jL_mul (x y : Int) : jL x * jL y = jL (x * y) := (Int64.ofInt_mul x y).symm
theorem jI_in {x : Int} {n : Nat} (h0 : 0 ≤ x) (h : x < n) (hn : n < 2147483648) : vp_in (jI x) n := by
  rw [vp_in_iff, jI_toInt ⟨by omega, by omega⟩]
  exact ⟨h0, h⟩
theorem jI_clamp {x : Int} (h0 : 0 ≤ x) (h : x ≤ 2147483647) : (jI x).toNatClampNeg = x.toNat := by
  show (jI x).toInt.toNat = x.toNat
  rw [jI_toInt ⟨by omega, h⟩]
theorem jI_i2l {x : Int} (h : jrI x) : (jI x).toInt64 = jL x := by
  apply Int64.toInt_inj.mp
  rw [Int32.toInt_toInt64, jI_toInt h, jL_toInt ⟨by have := h.1; omega, by have := h.2; omega⟩]
theorem jL_l2i {x : Int} : (jL x).toInt32 = jI x := by
  unfold jL jI
  exact Int64.toInt32_ofInt
