/-! ===== forms of contracts, short calls ===== -/
def jrv (r : Int) (τ : JM) : Option JV → JM → Prop := fun v t => v = some (0, r) ∧ t = τ
def jrl (r : Int) (τ : JM) : Option JV → JM → Prop := fun v t => v = some (1, r) ∧ t = τ
def jvv (τ : JM) : Option JV → JM → Prop := fun v t => v = none ∧ t = τ
def jno : String → JM → Prop := fun _ _ => False
def jxx (X : String) (τ : JM) : String → JM → Prop := fun Y t => Y = X ∧ t = τ
def jnr : Option JV → JM → Prop := fun _ _ => False
/-- an int answer that P says, the memory as it was -/
def jrp (P : Int → Prop) (τ : JM) : Option JV → JM → Prop := fun v t => ∃ r, v = some (0, r) ∧ P r ∧ t = τ
section JR6
variable {l : Launch} {E : JE} {i : JI} {d n : Nat} {Qr Qr' : Option JV → JM → Prop} {Qx Qx' : String → JM → Prop} {pc : Nat} {L L' st : List JV} {σ τ : JM} {r : Int}
theorem V.cV {k : JI} {ix cell d' : Nat} {q : Int} (As : List JV) {st0 : List JV} (hst0 : st0 = As.reverse ++ (2, q) :: st) (kv : jKV i.1.cls ix cell k As.length) (hq : q.toNat = cell) (hd : decode i.2.1 pc = .ok (.invokevirtual ix, 3)) (hlt : d' < d) (hw : Nat.ble (jwt st) 8 = true) (hh : i.2.2.2.2.1 = []) (hl : JSp k d' 0 ((2, q) :: As) σ (jrv r τ) jno) (kk : jrI r → V l E i d n Qr Qx (pc + 3) L ((0, r) :: st) τ) : V l E i d n Qr Qx pc L st0 σ :=
  V.callV As hst0 kv hq hd hlt (Nat.zero_le n) hw (fun _ _ => hl) hh (fun v σ' hq hv => by obtain ⟨rfl, rfl⟩ := hq; exact kk (hv _ rfl)) (fun X σ' hx => hx.elim)
theorem V.cV0 {k : JI} {ix cell d' : Nat} {q : Int} (As : List JV) {st0 : List JV} (hst0 : st0 = As.reverse ++ (2, q) :: st) (kv : jKV i.1.cls ix cell k As.length) (hq : q.toNat = cell) (hd : decode i.2.1 pc = .ok (.invokevirtual ix, 3)) (hlt : d' < d) (hw : Nat.ble (jwt st) 8 = true) (hh : i.2.2.2.2.1 = []) (hl : JSp k d' 0 ((2, q) :: As) σ (jvv τ) jno) (kk : V l E i d n Qr Qx (pc + 3) L st τ) : V l E i d n Qr Qx pc L st0 σ :=
  V.callV As hst0 kv hq hd hlt (Nat.zero_le n) hw (fun _ _ => hl) hh (fun v σ' hq hv => by obtain ⟨rfl, rfl⟩ := hq; exact kk) (fun X σ' hx => hx.elim)
theorem V.cVl {k : JI} {ix cell d' : Nat} {q : Int} (As : List JV) {st0 : List JV} (hst0 : st0 = As.reverse ++ (2, q) :: st) (kv : jKV i.1.cls ix cell k As.length) (hq : q.toNat = cell) (hd : decode i.2.1 pc = .ok (.invokevirtual ix, 3)) (hlt : d' < d) (hw : Nat.ble (jwt st) 8 = true) (hh : i.2.2.2.2.1 = []) (hl : JSp k d' 0 ((2, q) :: As) σ (jrl r τ) jno) (kk : jrL r → V l E i d n Qr Qx (pc + 3) L ((1, r) :: st) τ) : V l E i d n Qr Qx pc L st0 σ :=
  V.callV As hst0 kv hq hd hlt (Nat.zero_le n) hw (fun _ _ => hl) hh (fun v σ' hq hv => by obtain ⟨rfl, rfl⟩ := hq; exact kk (hv _ rfl)) (fun X σ' hx => hx.elim)
theorem V.cS {k : JI} {ix d' : Nat} (As : List JV) {st0 : List JV} (hst0 : st0 = As.reverse ++ st) (kv : jKS i.1.cls ix k As.length) (hd : decode i.2.1 pc = .ok (.invokestatic ix, 3)) (hlt : d' < d) (hw : Nat.ble (jwt st) 8 = true) (hh : i.2.2.2.2.1 = []) (hl : JSp k d' 0 As σ (jrv r τ) jno) (kk : jrI r → V l E i d n Qr Qx (pc + 3) L ((0, r) :: st) τ) : V l E i d n Qr Qx pc L st0 σ :=
  V.callS As hst0 kv hd hlt (Nat.zero_le n) hw (fun _ _ => hl) hh (fun v σ' hq hv => by obtain ⟨rfl, rfl⟩ := hq; exact kk (hv _ rfl)) (fun X σ' hx => hx.elim)
theorem V.cS0 {k : JI} {ix d' : Nat} (As : List JV) {st0 : List JV} (hst0 : st0 = As.reverse ++ st) (kv : jKS i.1.cls ix k As.length) (hd : decode i.2.1 pc = .ok (.invokestatic ix, 3)) (hlt : d' < d) (hw : Nat.ble (jwt st) 8 = true) (hh : i.2.2.2.2.1 = []) (hl : JSp k d' 0 As σ (jvv τ) jno) (kk : V l E i d n Qr Qx (pc + 3) L st τ) : V l E i d n Qr Qx pc L st0 σ :=
  V.callS As hst0 kv hd hlt (Nat.zero_le n) hw (fun _ _ => hl) hh (fun v σ' hq hv => by obtain ⟨rfl, rfl⟩ := hq; exact kk) (fun X σ' hx => hx.elim)
theorem V.cN {k : JI} {ix d' : Nat} (As : List JV) {st0 : List JV} (hst0 : st0 = As.reverse ++ st) (kv : jKN i.1.cls ix k As.length) (hd : decode i.2.1 pc = .ok (.invokestatic ix, 3)) (hlt : d' < d) (hw : Nat.ble (jwt st) 8 = true) (hh : i.2.2.2.2.1 = []) (hl : JSp k d' 0 As σ (jrv r τ) jno) (kk : jrI r → V l E i d n Qr Qx (pc + 3) L ((0, r) :: st) τ) : V l E i d n Qr Qx pc L st0 σ :=
  V.callN As hst0 kv hd hlt (Nat.zero_le n) hw (fun _ _ => hl) hh (fun v σ' hq hv => by obtain ⟨rfl, rfl⟩ := hq; exact kk (hv _ rfl)) (fun X σ' hx => hx.elim)
theorem V.cN0 {k : JI} {ix d' : Nat} (As : List JV) {st0 : List JV} (hst0 : st0 = As.reverse ++ st) (kv : jKN i.1.cls ix k As.length) (hd : decode i.2.1 pc = .ok (.invokestatic ix, 3)) (hlt : d' < d) (hw : Nat.ble (jwt st) 8 = true) (hh : i.2.2.2.2.1 = []) (hl : JSp k d' 0 As σ (jvv τ) jno) (kk : V l E i d n Qr Qx (pc + 3) L st τ) : V l E i d n Qr Qx pc L st0 σ :=
  V.callN As hst0 kv hd hlt (Nat.zero_le n) hw (fun _ _ => hl) hh (fun v σ' hq hv => by obtain ⟨rfl, rfl⟩ := hq; exact kk) (fun X σ' hx => hx.elim)
theorem jret_i {x : Int} {pc : Nat} (hd : decode i.2.1 pc = .ok (.ireturn, 1)) (h : i.2.2.2.1 = some .int) : jret i (some (0, x)) pc := ⟨hd, Or.inl h⟩
theorem jret_z {x : Int} {pc : Nat} (hd : decode i.2.1 pc = .ok (.ireturn, 1)) (h : i.2.2.2.1 = some .boolean) (hx : x = 0 ∨ x = 1) : jret i (some (0, x)) pc := ⟨hd, Or.inr (Or.inl ⟨h, hx⟩)⟩
theorem jret_c {x : Int} {pc : Nat} (hd : decode i.2.1 pc = .ok (.ireturn, 1)) (h : i.2.2.2.1 = some .char) (h0 : 0 ≤ x) (h1 : x < 65536) : jret i (some (0, x)) pc := ⟨hd, Or.inr (Or.inr ⟨h, h0, h1⟩)⟩
theorem jret_v {pc : Nat} (hd : decode i.2.1 pc = .ok (.return_, 1)) (h : i.2.2.2.1 = none) : jret i none pc := ⟨hd, h⟩
theorem jret_l {x : Int} {pc : Nat} (hd : decode i.2.1 pc = .ok (.lreturn, 1)) (h : i.2.2.2.1 = some .long) : jret i (some (1, x)) pc := ⟨hd, h⟩
theorem jset_eq (σ : JM) (k : Nat) (j v : Int) : jset σ k j v k j = v := jset_same σ k j v
theorem jset_nk (σ : JM) {k a : Nat} (h : a ≠ k) (j v b : Int) : jset σ k j v a b = σ a b := jset_ne σ (fun q => h q.1)
theorem jset_nj (σ : JM) {k : Nat} {j b : Int} (h : b ≠ j) (v : Int) : jset σ k j v k b = σ k b := jset_ne σ (fun q => h q.2)
end JR6
/-- a row read where the index is looked at first -/
def jat (σ : JM) (k : Nat) (N x : Int) : Int := if 0 ≤ x ∧ x < N then σ k x else -1
theorem jin0 : ∀ w ∈ u_ws RX0 TX0 5, w ∈ jG := by decide +kernel
theorem jin1 : ∀ w ∈ u_ws RX1 TX1 11, w ∈ jG := by decide +kernel
theorem jin2 : ∀ w ∈ u_ws RX2 TX2 4, w ∈ jG := by decide +kernel
theorem jin3 : ∀ w ∈ u_ws RX3 TX3 8, w ∈ jG := by decide +kernel
theorem jin4 : ∀ w ∈ u_ws RX4 TX4 6, w ∈ jG := by decide +kernel
theorem jin5 : ∀ w ∈ u_ws RX5 TX5 11, w ∈ jG := by decide +kernel
theorem jin6 : ∀ w ∈ u_ws RX6 TX6 6, w ∈ jG := by decide +kernel
