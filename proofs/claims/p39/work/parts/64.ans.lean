/-- counting keeps the coupling -/
theorem jcn_rows {σ τ : JM} (S : jSrc σ) (hg : σ 7 4 = 0) (hm : σ 1 10 = 0) (e : ∀ a b, (34 ≤ a ∧ a ≤ 41) → τ a b = σ a b) (n : Nat) (x to p q : Int) (x0 : 0 ≤ x) (ht : to ≤ σ 7 1) (w : jHs σ x to) : jcn n τ x to p q = jcn n σ x to p q :=
  jcn_sg S (fun a ha y _ _ => e a y (by omega)) (fun y _ _ _ => e 38 y (by omega)) (fun m _ _ => ⟨e 40 m (by omega), e 41 m (by omega)⟩) n x to p q x0 ht w
theorem jINV.cnt {g : Int} {σ t : JM} (h : jINV g σ) (hg : σ 7 4 = 0) (hm : σ 1 10 = 0) (k : jck σ t) (i : jcmo σ t) : jINV g t := by
  obtain ⟨h1, h2, h3, h4, h5⟩ := h
  have K := (⟨h1, h2, h3, h4, h5⟩ : jINV g σ)
  have e : ∀ a b, ¬ (31 ≤ a ∧ a ≤ 33) → t a b = σ a b := k
  -- t with the old kept counts
  obtain ⟨t2, ht2⟩ : ∃ t2 : JM, (fun a b => if a = 32 ∨ a = 33 then σ a b else t a b) = t2 := ⟨_, rfl⟩
  have q2 : ∀ a b, ¬ (a = 32 ∨ a = 33) → t2 a b = t a b := fun a b z => by rw [← ht2]; exact if_neg z
  have q3 : ∀ a b, (a = 32 ∨ a = 33) → t2 a b = σ a b := fun a b z => by rw [← ht2]; exact if_pos z
  have K2 : jINV g t2 := jINV.keep K (fun a b z => by
    by_cases y : a = 32 ∨ a = 33
    · exact q3 a b y
    · rw [q2 a b y]; exact e a b (by omega))
  obtain ⟨k1, k2, k3, k4, k5⟩ := K2
  have S : jSrc t := by
    unfold jSrc jopn jcld jl1 jln at k1 ⊢
    have r : ∀ a : Nat, ((8 ≤ a ∧ a ≤ 14) ∨ (34 ≤ a ∧ a ≤ 41)) → t2 a = t a := fun a ha => funext fun b => q2 a b (by omega)
    rw [q2 1 7 (by omega), q2 1 8 (by omega), q2 1 9 (by omega), q2 1 10 (by omega), q2 7 1 (by omega), q2 7 2 (by omega), q2 7 3 (by omega), q2 7 4 (by omega), r 8 (by decide), r 9 (by decide), r 10 (by decide), r 11 (by decide), r 12 (by decide), r 13 (by decide), r 14 (by decide), r 34 (by decide), r 35 (by decide), r 36 (by decide), r 37 (by decide), r 38 (by decide), r 39 (by decide), r 40 (by decide), r 41 (by decide)] at k1
    exact k1
  refine ⟨S, fun j j0 j1 => ?_, ?_, ?_, k5.c (fun a b hab => (q2 a b (by omega)).symm)⟩
  · obtain ⟨g1, g2⟩ := i j j0 j1
    rw [e 6 4 (by omega), e 7 2 (by omega), e 1 10 (by omega)]
    refine ⟨g1, fun m a b m0 a0 b0 z => ?_⟩
    obtain ⟨y1, y2⟩ := g2 m a b m0 a0 b0 z
    have me := h1.me m m0.1 (by omega)
    have mm := h1.mm m m0.1 y1
    have ej : jcm t m a b = jcm σ m a b := by
      unfold jcm
      rw [e 40 m (by omega), e 41 m (by omega)]
      exact jcn_rows h1 hg hm (fun a b hab => e a b (by omega)) _ _ _ _ _ (by omega) (by omega) (jHs.mac h1 m0.1 (by omega))
    rw [ej]
    exact ⟨by omega, y2⟩
  · unfold jar0 at k3 ⊢
    rw [q2 27 0 (by omega), q2 27 1 (by omega), q2 28 0 (by omega), q2 28 1 (by omega)] at k3
    exact k3
  · rw [q2 6 4 (by omega)] at k4; exact k4
/-! ===== what the law's questions answer ===== -/
def jAn (k : JI) (d n : Nat) (As : List JV) (σ : JM) (tag : Nat) (r : Int) : Prop := ∃ QL, JSpH k d n As σ QL jno ∧ ∀ v t, QL v t → v = some (tag, r) ∧ t = σ
theorem jAn.eq {k : JI} {d n n' : Nat} {As : List JV} {σ : JM} {tag : Nat} {r r' : Int} (h : jAn k d n As σ tag r) (e : r = r') (en : n = n') : jAn k d n' As σ tag r' := by rw [← e, ← en]; exact h
section JRA
variable {l : Launch} {E : JE} {i : JI} {d n : Nat} {Qr Qr' : Option JV → JM → Prop} {Qx Qx' : String → JM → Prop} {pc : Nat} {L L' st : List JV} {σ τ : JM} {r : Int}
theorem V.cA {k : JI} {ix d' n' tag : Nat} (As : List JV) {st0 : List JV} (hst0 : st0 = As.reverse ++ st) (kv : jKH i.1.cls ix k As.length) (hd : decode i.2.1 pc = .ok (.invokestatic ix, 3)) (hlt : d' < d) (hn : n' ≤ n) (hw : Nat.ble (jwt st) 8 = true) (hh : i.2.2.2.2.1 = []) (hl : jAn k d' n' As σ tag r) (kk : jokv (tag, r) → V l E i d (n - n') Qr Qx (pc + 3) L ((tag, r) :: st) σ) : V l E i d n Qr Qx pc L st0 σ := by
  obtain ⟨QL, h1, h2⟩ := hl
  refine V.callH As hst0 kv hd hlt hn hw (fun _ _ => h1) hh (fun v t hq hv => ?_) (fun X t hx => hx.elim)
  obtain ⟨rfl, rfl⟩ := h2 v t hq
  exact kk (hv _ rfl)
end JRA
def jqf (σ : JM) : Int := if σ 4 9 = 0 then -75 else σ 4 9
def jqL (σ : JM) : Int := if σ 4 9 = 0 ∨ σ 4 9 = 110 then -75 else σ 4 10
def jqW (σ : JM) : Int := if σ 4 9 = 110 then σ 5 2 else -75
def jqI (σ : JM) : Int := if σ 4 9 = 110 then σ 2 6 else -75
/-- how many exceptions -/
def jc0 (σ : JM) : Nat := if σ 4 9 = 0 then 1 else 0
def jcf (σ : JM) : Nat := if σ 4 9 = 0 ∨ σ 4 9 = 110 then 1 else 0
def jcw (σ : JM) : Nat := if σ 4 9 = 110 then 0 else 1
theorem jc0_1 (σ : JM) : jc0 σ ≤ 1 := by unfold jc0; split <;> decide
theorem jcf_1 (σ : JM) : jcf σ ≤ 1 := by unfold jcf; split <;> decide
theorem jcw_1 (σ : JM) : jcw σ ≤ 1 := by unfold jcw; split <;> decide
theorem jcw_w {σ : JM} (h : σ 4 9 = 110) : jcw σ = 0 := if_pos h
theorem aq_fault {σ : JM} (hc : 0 ≤ σ 4 9 ∧ σ 4 9 < 65536) : jAn mL_fault 9 (jc0 σ) [(2, 0)] σ 0 (jqf σ) := by
  by_cases h : σ 4 9 = 0
  · refine jAn.eq (n := 1) (r := -75) ⟨_, sp_L_fault (sp_X6_faultN h) (fun v t q => q.elim) (fun X t q => q.1), fun v t q => lx_fault_1 q⟩ ?_ ?_
    · exact (if_pos h).symm
    · exact (if_pos h).symm
  · refine jAn.eq (n := 0) (r := σ 4 9) ⟨_, sp_L_fault (sp_X6_fault h hc) (fun v t q => ⟨_, q.1⟩) (fun X t q => q.elim), fun v t q => lr_fault q⟩ ?_ ?_
    · exact (if_neg h).symm
    · exact (if_neg h).symm
theorem aq_faultLine {σ : JM} : jAn mL_faultLine 9 (jcf σ) [(2, 0)] σ 0 (jqL σ) := by
  by_cases h : σ 4 9 = 0 ∨ σ 4 9 = 110
  · refine jAn.eq (n := 1) (r := -75) ⟨_, sp_L_faultLine (sp_X6_faultLineN h) (fun v t q => q.elim) (fun X t q => q.1), fun v t q => lx_faultLine_1 q⟩ ?_ ?_
    · exact (if_pos h).symm
    · exact (if_pos h).symm
  · refine jAn.eq (n := 0) (r := σ 4 10) ⟨_, sp_L_faultLine (sp_X6_faultLine (fun q => h (Or.inl q)) (fun q => h (Or.inr q))) (fun v t q => ⟨_, q.1⟩) (fun X t q => q.elim), fun v t q => lr_faultLine q⟩ ?_ ?_
    · exact (if_neg h).symm
    · exact (if_neg h).symm
theorem aq_words {σ : JM} : jAn mL_words 10 (jcw σ) [(2, 0)] σ 0 (jqW σ) := by
  by_cases h : σ 4 9 = 110
  · refine jAn.eq (n := 0) (r := σ 5 2) ⟨_, sp_L_words (sp_X6_words h) (fun v t q => ⟨_, q.1⟩) (fun X t q => q.elim), fun v t q => lr_words q⟩ ?_ ?_
    · exact (if_pos h).symm
    · exact (if_pos h).symm
  · refine jAn.eq (n := 1) (r := -75) ⟨_, sp_L_words (sp_X6_wordsN h) (fun v t q => q.elim) (fun X t q => q.1), fun v t q => lx_words_1 q⟩ ?_ ?_
    · exact (if_neg h).symm
    · exact (if_neg h).symm
theorem aq_items {σ : JM} : jAn mL_items 10 (jcw σ) [(2, 0)] σ 0 (jqI σ) := by
  by_cases h : σ 4 9 = 110
  · refine jAn.eq (n := 0) (r := σ 2 6) ⟨_, sp_L_items (sp_X6_items h) (fun v t q => ⟨_, q.1⟩) (fun X t q => q.elim), fun v t q => lr_items q⟩ ?_ ?_
    · exact (if_pos h).symm
    · exact (if_pos h).symm
  · refine jAn.eq (n := 1) (r := -75) ⟨_, sp_L_items (sp_X6_itemsN h) (fun v t q => q.elim) (fun X t q => q.1), fun v t q => lx_items_1 q⟩ ?_ ?_
    · exact (if_neg h).symm
    · exact (if_neg h).symm
theorem aw_relocations {σ : JM} (h9 : σ 4 9 = 110) : jAn mL_relocations 10 0 [(2, 0)] σ 0 (σ 5 3) := ⟨_, sp_L_relocations (sp_X6_relocations h9) (fun v t q => ⟨_, q.1⟩) (fun X t q => q.elim), fun v t q => lr_relocations q⟩
theorem aw_passes {σ : JM} (h9 : σ 4 9 = 110) : jAn mL_passes 10 0 [(2, 0)] σ 0 (σ 2 7) := ⟨_, sp_L_passes (sp_X6_passes h9) (fun v t q => ⟨_, q.1⟩) (fun X t q => q.elim), fun v t q => lr_passes q⟩
theorem aw_longJumps {σ : JM} (h9 : σ 4 9 = 110) (hn : 0 ≤ σ 2 6 ∧ σ 2 6 ≤ 200) : jAn mL_longJumps 10 0 [(2, 0)] σ 0 (jcnt σ 74 (σ 2 6)) := ⟨_, sp_L_longJumps (sp_X6_longJumps h9 hn) (fun v t q => ⟨_, q.1⟩) (fun X t q => q.elim), fun v t q => lr_longJumps q⟩
theorem aw_wordAt {σ : JM} {x : Int} (h9 : σ 4 9 = 110) (hx : 0 ≤ x ∧ x < σ 5 2) (hn : σ 5 2 ≤ 1400) : jAn mL_wordAt 11 0 [(2, 0), (0, x)] σ 0 (σ 29 x) := jAn.eq ⟨_, sp_L_wordAt (sp_X6_wordAt h9 hx) (fun v t q => ⟨_, q.1⟩) (fun X t q => q.elim), fun v t q => lr_wordAt q⟩ (jat_in hx.1 (by omega)) rfl
theorem aw_lineOf {σ : JM} {x : Int} (h9 : σ 4 9 = 110) (hx : 0 ≤ x ∧ x < σ 2 6) (hn : σ 2 6 ≤ 200) : jAn mL_lineOf 11 0 [(2, 0), (0, x)] σ 0 (σ 15 x) := jAn.eq ⟨_, sp_L_lineOf (sp_X6_lineOf h9 hx) (fun v t q => ⟨_, q.1⟩) (fun X t q => q.elim), fun v t q => lr_lineOf q⟩ (jat_in hx.1 (by omega)) rfl
theorem aw_depthOf {σ : JM} {x : Int} (h9 : σ 4 9 = 110) (hx : 0 ≤ x ∧ x < σ 2 6) (hn : σ 2 6 ≤ 200) : jAn mL_depthOf 11 0 [(2, 0), (0, x)] σ 0 (σ 17 x) := jAn.eq ⟨_, sp_L_depthOf (sp_X6_depthOf h9 hx) (fun v t q => ⟨_, q.1⟩) (fun X t q => q.elim), fun v t q => lr_depthOf q⟩ (jat_in hx.1 (by omega)) rfl
theorem aw_addressOf {σ : JM} {x : Int} (h9 : σ 4 9 = 110) (hx : 0 ≤ x ∧ x < σ 2 6) (hn : σ 2 6 ≤ 200) : jAn mL_addressOf 11 0 [(2, 0), (0, x)] σ 0 (σ 20 x) := jAn.eq ⟨_, sp_L_addressOf (sp_X6_addressOf h9 hx) (fun v t q => ⟨_, q.1⟩) (fun X t q => q.elim), fun v t q => lr_addressOf q⟩ (jat_in hx.1 (by omega)) rfl
theorem aw_kindOf {σ : JM} {x : Int} (h9 : σ 4 9 = 110) (hx : 0 ≤ x ∧ x < σ 2 6) (hn : σ 2 6 ≤ 200) (hc : 0 ≤ σ 16 x ∧ σ 16 x < 65536) : jAn mL_kindOf 11 0 [(2, 0), (0, x)] σ 0 (σ 16 x) := jAn.eq ⟨_, sp_L_kindOf (sp_X6_kindOf h9 hx (by rw [jat_in hx.1 (by omega)]; exact hc)) (fun v t q => ⟨_, q.1⟩) (fun X t q => q.elim), fun v t q => lr_kindOf q⟩ (jat_in hx.1 (by omega)) rfl
theorem aw_addressByAdding {σ : JM} {x : Int} (h9 : σ 4 9 = 110) (hx : 0 ≤ x ∧ x < σ 2 6) (hn : σ 2 6 ≤ 200) (hs : jsz σ) : jAn mL_addressByAdding 11 0 [(2, 0), (0, x)] σ 0 (jad (σ 16) (σ 18) x) := jAn.eq ⟨_, sp_L_addressByAdding (sp_X6_addressByAdding h9 hx hn hs) (fun v t q => ⟨_, q.1⟩) (fun X t q => q.elim), fun v t q => lr_addressByAdding q⟩ (rfl) rfl
theorem aw_targetOf {σ : JM} {x : Int} (h9 : σ 4 9 = 110) (hx : 0 ≤ x ∧ x < σ 2 6) (hn : σ 2 6 ≤ 200) (ht : σ 19 x ≠ -1) : jAn mL_targetOf 11 0 [(2, 0), (0, x)] σ 0 (σ 19 x) := jAn.eq ⟨_, sp_L_targetOf (sp_X6_targetOf h9 hx (by rw [jat_in hx.1 (by omega)]; exact ht)) (fun v t q => ⟨_, q.1⟩) (fun X t q => q.elim), fun v t q => lr_targetOf q⟩ (jat_in hx.1 (by omega)) rfl
theorem aw_targetOfU {σ : JM} {x : Int} (h9 : σ 4 9 = 110) (hx : 0 ≤ x ∧ x < σ 2 6) (hn : σ 2 6 ≤ 200) (ht : σ 19 x = -1) : jAn mL_targetOf 11 1 [(2, 0), (0, x)] σ 0 (-76) := ⟨_, sp_L_targetOf (sp_X6_targetOfU h9 hx (by rw [jat_in hx.1 (by omega)]; exact ht)) (fun v t q => q.elim) (fun X t q => Or.inr (Or.inr q.1)), fun v t q => lx_targetOf_3 q⟩
theorem aw_loadedWord {σ : JM} {x b : Int} (h9 : σ 4 9 = 110) (hx : 0 ≤ x ∧ x < σ 5 2) (hb : 0 ≤ b ∧ b ≤ 9999) (hw : σ 5 2 ≤ 1400) (hv : 0 ≤ σ 29 x ∧ σ 29 x ≤ 100000) : jAn mL_loadedWord 11 0 [(2, 0), (0, x), (0, b)] σ 0 (if σ 30 x ≠ 0 then σ 29 x + b else σ 29 x) := ⟨_, sp_L_loadedWord (sp_X6_loadedWord h9 hx hb hw hv) (fun v t q => ⟨_, q.1⟩) (fun X t q => q.elim), fun v t q => lr_loadedWord q⟩
def jca (σ : JM) (x : Int) : Nat := if jlb σ 0 x = -1 then 1 else 0
theorem jca_1 (σ : JM) (x : Int) : jca σ x ≤ 1 := by unfold jca; split <;> decide
def jlA (σ : JM) (x : Int) : Int := if jlb σ 0 x = -1 then -75 else jat σ 20 200 (jlb σ 0 x)
theorem aw_labelAddress {σ : JM} {x : Int} (h9 : σ 4 9 = 110) : jAn mL_labelAddress 10 (jca σ x) [(2, 0), (0, x)] σ 0 (jlA σ x) := by
  by_cases h : jlb σ 0 x = -1
  · refine jAn.eq (n := 1) (r := -75) ⟨_, sp_L_labelAddress (sp_X6_labelAddressU h9 h) (fun v t q => q.elim) (fun X t q => q.1), fun v t q => lx_labelAddress_1 q⟩ ?_ ?_
    · exact (if_pos h).symm
    · exact (if_pos h).symm
  · refine jAn.eq (n := 0) (r := jat σ 20 200 (jlb σ 0 x)) ⟨_, sp_L_labelAddress (sp_X6_labelAddress h9 h) (fun v t q => ⟨_, q.1⟩) (fun X t q => q.elim), fun v t q => lr_labelAddress q⟩ ?_ ?_
    · exact (if_neg h).symm
    · exact (if_neg h).symm
theorem an_labelAddress {σ : JM} {x : Int} (h9 : σ 4 9 ≠ 110) : jAn mL_labelAddress 10 1 [(2, 0), (0, x)] σ 0 (-75) := ⟨_, sp_L_labelAddress (sp_X6_labelAddressN h9) (fun v t q => q.elim) (fun X t q => q.1), fun v t q => lx_labelAddress_1 q⟩
theorem an_wordAt {σ : JM} {x : Int} (h9 : σ 4 9 ≠ 110) : jAn mL_wordAt 11 1 [(2, 0), (0, x)] σ 0 (-75) := ⟨_, sp_L_wordAt (sp_X6_wordAtN h9) (fun v t q => q.elim) (fun X t q => Or.inl q.1), fun v t q => lx_wordAt_1 q⟩
theorem an_shortShare {σ : JM} (h9 : σ 4 9 ≠ 110) : jAn mL_shortShare 10 1 [(2, 0)] σ 4 3264610304 := ⟨_, sp_L_shortShare (sp_X6_shortShareN h9) (fun v t q => q.elim) (fun X t q => Or.inl q.1), fun v t q => lx_shortShare_1 q⟩
theorem aw_shortShareA {σ : JM} (h9 : σ 4 9 = 110) (hn : 0 ≤ σ 2 6 ∧ σ 2 6 ≤ 200) (hz : jcnt σ 106 (σ 2 6) + jcnt σ 74 (σ 2 6) = 0) : jAn mL_shortShare 10 1 [(2, 0)] σ 4 3264479232 := ⟨_, sp_L_shortShare (sp_X6_shortShareA h9 hn hz) (fun v t q => q.elim) (fun X t q => Or.inr q.1), fun v t q => lx_shortShare_2 q⟩
theorem aw_shortShare {σ : JM} (h9 : σ 4 9 = 110) (hn : 0 ≤ σ 2 6 ∧ σ 2 6 ≤ 200) (hz : jcnt σ 106 (σ 2 6) + jcnt σ 74 (σ 2 6) ≠ 0) (h4 : jcnt σ 106 (σ 2 6) + jcnt σ 74 (σ 2 6) < 400) : jAn mL_shortShare 10 0 [(2, 0)] σ 4 (jFd (jcnt σ 106 (σ 2 6)) (jcnt σ 106 (σ 2 6) + jcnt σ 74 (σ 2 6))) := ⟨_, sp_L_shortShare (sp_X6_shortShare h9 hn hz h4) (fun v t q => ⟨_, q.1⟩) (fun X t q => q.elim), fun v t q => lr_shortShare q⟩
/-- the sum of what was assembled -/
def jsm0 (σ : JM) : Int := jwrp (jwrp (jwrp (jwrp (31 * jqf σ) + jqL σ) + jwrp (7 * jqW σ)) + jwrp (13 * jqI σ))
def jsmN (σ : JM) : Nat → Int
  | 0 => jsm0 σ
  | n + 1 => jwrp (jwrp (31 * jsmN σ n) + σ 29 n)
def jsmv (σ : JM) : Int := jsmN σ (jqW σ).toNat
theorem jSm.sum {σ ρ : JM} (h : jSm σ ρ) : jsmv ρ = jsmv σ := by
  have e0 : jsm0 ρ = jsm0 σ := by unfold jsm0 jqf jqL jqW jqI; rw [h.1, h.2.1, h.2.2.1, h.2.2.2.1]
  have e : ∀ n, jsmN ρ n = jsmN σ n := by
    intro n
    induction n with
    | zero => exact e0
    | succ n ih => unfold jsmN; rw [ih, h.2.2.2.2]
  unfold jsmv
  rw [e, show jqW ρ = jqW σ by unfold jqW; rw [h.1, h.2.2.2.1]]
