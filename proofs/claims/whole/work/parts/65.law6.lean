theorem jAsm.st {σ : JM} (h : jAsm σ) : (σ 4 9 = 110 ∧ jcT σ = 0 ∧ jLst σ) ∨ (σ 4 9 ≠ 110 ∧ jcT σ = 1) := by
  rcases h.2 with ⟨h1, h2⟩ | ⟨h1, h2, h3, h4, h5⟩
  · exact Or.inr ⟨by omega, if_neg (fun q => q.1 h1)⟩
  · by_cases e : σ 7 14 = 110
    · exact Or.inl ⟨by omega, if_pos ⟨h1, e⟩, h5 e⟩
    · exact Or.inr ⟨by omega, if_neg (fun q => e q.2)⟩
theorem jcI_0 {σ : JM} {N x : Int} (h : jcT σ = 0) (hx : 0 ≤ x ∧ x < N) : jcI σ N x = 0 := by unfold jcI; rw [if_neg (by omega), if_pos (by omega)]
theorem jcI_2 {σ : JM} {N x : Int} (h : jcT σ = 0) (hx : ¬ (0 ≤ x ∧ x < N)) : jcI σ N x = 2 := by unfold jcI; rw [if_neg (by omega), if_neg (by omega)]
theorem jcI_n {σ : JM} {N x : Int} (h : jcT σ = 1) : jcI σ N x = 1 := by unfold jcI; rw [if_pos (by omega), h]
theorem op_words {g : Int} {σ : JM} (h : jINV g σ) : jOF mL_words mX7_words 0 55 jid [(2, 0), (2, 55)] [(2, 7)] g σ := by
  have B := h.2.2.2.2.1
  rcases h.2.2.2.2.st with ⟨h9, hT, L⟩ | ⟨h9, hT⟩
  · obtain ⟨L1, L2, L3, L4, L5, L6⟩ := L
    refine jOF.ok (by decide) (by decide) (sp_L_words (Nat.zero_le 1) (sp_X6_words h9) (fun v t q => ⟨_, q.1⟩) (fun X t q => q.elim)) (fun v t q => lq_words q) (jrv.to (sp_X7_words (σ := jset σ 55 0 (σ 5 2))) ⟨if_pos (show jcT (jset σ 55 0 _) = 0 from hT), by rw [show jcT (jset σ 55 0 (σ 5 2)) = 0 from hT]; rfl⟩) rfl (fun _ => ?_) ((h.o _).q 0)
    show σ 5 2 = σ 7 19
    exact L2.2.2.1
  · exact jOF.ok (by decide) (by decide) (sp_L_words (Nat.le_refl 1) (sp_X6_wordsN h9) (fun v t q => q.elim) (fun X t q => q.1)) (fun v t q => lq_words_1 q) (jrv.to (sp_X7_words (σ := σ)) ⟨if_neg (by omega), by rw [hT]; rfl⟩) rfl (fun q => absurd q (by decide)) (h.q 1)
theorem op_passes {g : Int} {σ : JM} (h : jINV g σ) : jOF mL_passes mX7_passes 0 55 jid [(2, 0), (2, 55)] [(2, 7)] g σ := by
  have B := h.2.2.2.2.1
  rcases h.2.2.2.2.st with ⟨h9, hT, L⟩ | ⟨h9, hT⟩
  · obtain ⟨L1, L2, L3, L4, L5, L6⟩ := L
    refine jOF.ok (by decide) (by decide) (sp_L_passes (Nat.zero_le 1) (sp_X6_passes h9) (fun v t q => ⟨_, q.1⟩) (fun X t q => q.elim)) (fun v t q => lq_passes q) (jrv.to (sp_X7_passes (σ := jset σ 55 0 (σ 2 7))) ⟨if_pos (show jcT (jset σ 55 0 _) = 0 from hT), by rw [show jcT (jset σ 55 0 (σ 2 7)) = 0 from hT]; rfl⟩) rfl (fun _ => ?_) ((h.o _).q 0)
    show σ 2 7 = σ 7 20
    exact L2.2.1
  · exact jOF.ok (by decide) (by decide) (sp_L_passes (Nat.le_refl 1) (sp_X6_passesN h9) (fun v t q => q.elim) (fun X t q => q.1)) (fun v t q => lq_passes_1 q) (jrv.to (sp_X7_passes (σ := σ)) ⟨if_neg (by omega), by rw [hT]; rfl⟩) rfl (fun q => absurd q (by decide)) (h.q 1)
theorem op_items {g : Int} {σ : JM} (h : jINV g σ) : jOF mL_items mX7_items 0 55 jid [(2, 0), (2, 55)] [(2, 7)] g σ := by
  have B := h.2.2.2.2.1
  rcases h.2.2.2.2.st with ⟨h9, hT, L⟩ | ⟨h9, hT⟩
  · obtain ⟨L1, L2, L3, L4, L5, L6⟩ := L
    refine jOF.ok (by decide) (by decide) (sp_L_items (Nat.zero_le 1) (sp_X6_items h9) (fun v t q => ⟨_, q.1⟩) (fun X t q => q.elim)) (fun v t q => lq_items q) (jrv.to (sp_X7_items (σ := jset σ 55 0 (σ 2 6))) ⟨if_pos (show jcT (jset σ 55 0 _) = 0 from hT), by rw [show jcT (jset σ 55 0 (σ 2 6)) = 0 from hT]; rfl⟩) rfl (fun _ => ?_) ((h.o _).q 0)
    show σ 2 6 = σ 7 16
    exact L2.1
  · exact jOF.ok (by decide) (by decide) (sp_L_items (Nat.le_refl 1) (sp_X6_itemsN h9) (fun v t q => q.elim) (fun X t q => q.1)) (fun v t q => lq_items_1 q) (jrv.to (sp_X7_items (σ := σ)) ⟨if_neg (by omega), by rw [hT]; rfl⟩) rfl (fun q => absurd q (by decide)) (h.q 1)
theorem op_relocations {g : Int} {σ : JM} (h : jINV g σ) : jOF mL_relocations mX7_relocations 0 55 jid [(2, 0), (2, 55)] [(2, 7)] g σ := by
  have B := h.2.2.2.2.1
  rcases h.2.2.2.2.st with ⟨h9, hT, L⟩ | ⟨h9, hT⟩
  · obtain ⟨L1, L2, L3, L4, L5, L6⟩ := L
    refine jOF.ok (by decide) (by decide) (sp_L_relocations (Nat.zero_le 1) (sp_X6_relocations h9) (fun v t q => ⟨_, q.1⟩) (fun X t q => q.elim)) (fun v t q => lq_relocations q) (jrv.to (sp_X7_relocations (σ := jset σ 55 0 (σ 5 3)) B.2.1) ⟨if_pos (show jcT (jset σ 55 0 _) = 0 from hT), by rw [show jcT (jset σ 55 0 (σ 5 3)) = 0 from hT]; rfl⟩) rfl (fun _ => ?_) ((h.o _).q 0)
    show σ 5 3 = jsum (jrel σ) (σ 7 19)
    exact L2.2.2.2
  · exact jOF.ok (by decide) (by decide) (sp_L_relocations (Nat.le_refl 1) (sp_X6_relocationsN h9) (fun v t q => q.elim) (fun X t q => q.1)) (fun v t q => lq_relocations_1 q) (jrv.to (sp_X7_relocations (σ := σ) B.2.1) ⟨if_neg (by omega), by rw [hT]; rfl⟩) rfl (fun q => absurd q (by decide)) (h.q 1)
theorem jkof_j {s q : Int} (h : 0 ≤ s ∧ s ≤ 5) (hq : q = 0 ∨ q = 1) : (jkof s q = 74 ↔ s = 3 ∧ q = 1) ∧ (jkof s q = 106 ↔ s = 3 ∧ q = 0) := by
  have e : s = 0 ∨ s = 1 ∨ s = 2 ∨ s = 3 ∨ s = 4 ∨ s = 5 := by omega
  rcases hq with rfl | rfl <;> rcases e with e | e | e | e | e | e <;> subst e <;> decide
theorem jLst.cn {σ : JM} (L : jLst σ) : jcnt σ 74 (σ 2 6) = jsum (jju σ 1) (σ 7 16) ∧ jcnt σ 106 (σ 2 6) = jsum (jju σ 0) (σ 7 16) := by
  obtain ⟨L1, L2, L3, L4, L5, L6⟩ := L
  rw [L2.1]
  constructor
  · refine jsum_c (fun i i0 i1 => ?_)
    obtain ⟨⟨-, a, -⟩, b, c, -⟩ := L4 i i0 i1
    have := jkof_j b c
    rw [a]
    unfold jju
    show (if jkof (σ 44 i) (σ 50 i) = 74 then (1 : Int) else 0) = _
    simp only [this.1]
  · refine jsum_c (fun i i0 i1 => ?_)
    obtain ⟨⟨-, a, -⟩, b, c, -⟩ := L4 i i0 i1
    have := jkof_j b c
    rw [a]
    unfold jju
    show (if jkof (σ 44 i) (σ 50 i) = 106 then (1 : Int) else 0) = _
    simp only [this.2]
theorem jkof_c {s q : Int} (h : 0 ≤ s ∧ s ≤ 5) : 0 ≤ jkof s q ∧ jkof s q < 65536 := by
  unfold jkof; (repeat' split) <;> omega
theorem jLst.lb {σ : JM} (L : jLst σ) (x : Int) : jlb σ 0 x = jfs (jlp σ x) (σ 7 16) := by
  obtain ⟨L1, L2, L3, L4, L5, L6⟩ := L
  unfold jlb
  by_cases hx : 0 ≤ x ∧ x < 20
  · rw [if_pos hx, jat_in (by omega) (by omega), show 0 * 20 + x = x by omega]
    exact L6 x hx.1 hx.2
  · rw [if_neg hx]
    exact (jfs_no (fun i i0 i1 q => by have := (L4 i i0 i1).2.2.2.2.2.2 q.1; have := q.2.2; omega)).symm
theorem op_longJumps {g : Int} {σ : JM} (h : jINV g σ) : jOF mL_longJumps mX7_longJumps 0 55 jid [(2, 0), (2, 55)] [(2, 7)] g σ := by
  have B := h.2.2.2.2.1
  rcases h.2.2.2.2.st with ⟨h9, hT, L⟩ | ⟨h9, hT⟩
  · obtain ⟨L1, L2, L3, L4, L5, L6⟩ := L
    refine jOF.ok (by decide) (by decide) (sp_L_longJumps (Nat.zero_le 1) (sp_X6_longJumps h9 (by omega)) (fun v t q => ⟨_, q.1⟩) (fun X t q => q.elim)) (fun v t q => lq_longJumps q) (jrv.to (sp_X7_longJumps (σ := jset σ 55 0 (jcnt σ 74 (σ 2 6))) B.1) ⟨if_pos (show jcT (jset σ 55 0 _) = 0 from hT), by rw [show jcT (jset σ 55 0 (jcnt σ 74 (σ 2 6))) = 0 from hT]; rfl⟩) rfl (fun _ => ?_) ((h.o _).q 0)
    show jcnt σ 74 (σ 2 6) = jsum (jju σ 1) (σ 7 16)
    exact (jLst.cn ⟨L1, L2, L3, L4, L5, L6⟩).1
  · exact jOF.ok (by decide) (by decide) (sp_L_longJumps (Nat.le_refl 1) (sp_X6_longJumpsN h9) (fun v t q => q.elim) (fun X t q => q.1)) (fun v t q => lq_longJumps_1 q) (jrv.to (sp_X7_longJumps (σ := σ) B.1) ⟨if_neg (by omega), by rw [hT]; rfl⟩) rfl (fun q => absurd q (by decide)) (h.q 1)
theorem op_wordAt {g : Int} {σ : JM} {x : Int} (h : jINV g σ) : jOF mL_wordAt mX7_wordAt 0 55 jid [(2, 0), (0, x), (2, 55)] [(2, 7), (0, x)] g σ := by
  have B := h.2.2.2.2.1
  rcases h.2.2.2.2.st with ⟨h9, hT, L⟩ | ⟨h9, hT⟩
  · have LL := L
    obtain ⟨L1, L2, L3, L4, L5, L6⟩ := L
    by_cases hx : 0 ≤ x ∧ x < σ 7 19
    · have hc : jcI (jset σ 55 0 (jat σ 29 1400 x)) (jset σ 55 0 (jat σ 29 1400 x) 7 19) x = 0 := jcI_0 hT hx
      refine jOF.ok (by decide) (by decide) (sp_L_wordAt (Nat.zero_le 1) (sp_X6_wordAt h9 (by omega)) (fun v t q => ⟨_, q.1⟩) (fun X t q => q.elim)) (fun v t q => lq_wordAt q) (jrv.to (sp_X7_wordAt (σ := jset σ 55 0 (jat σ 29 1400 x)) B.2.1) ⟨if_pos hc, by rw [hc]; rfl⟩) rfl (fun _ => ?_) ((h.o _).q 0)
      show jat σ 29 1400 x = σ 51 x
      rw [jat_in hx.1 (by omega)]; exact (L5 x hx.1 hx.2).1
    · have hc : jcI σ (σ 7 19) x = 2 := jcI_2 hT hx
      exact jOF.ok (by decide) (by decide) (sp_L_wordAt (Nat.le_refl 1) (sp_X6_wordAtI h9 (by omega)) (fun v t q => q.elim) (fun X t q => Or.inr q.1)) (fun v t q => lq_wordAt_2 q) (jrv.to (sp_X7_wordAt (σ := σ) B.2.1) ⟨if_neg (by omega), by rw [hc]; rfl⟩) rfl (fun q => absurd q (by decide)) (h.q 2)
  · have hc : jcI σ (σ 7 19) x = 1 := jcI_n hT
    exact jOF.ok (by decide) (by decide) (sp_L_wordAt (Nat.le_refl 1) (sp_X6_wordAtN h9) (fun v t q => q.elim) (fun X t q => Or.inl q.1)) (fun v t q => lq_wordAt_1 q) (jrv.to (sp_X7_wordAt (σ := σ) B.2.1) ⟨if_neg (by omega), by rw [hc]; rfl⟩) rfl (fun q => absurd q (by decide)) (h.q 1)
theorem op_lineOf {g : Int} {σ : JM} {x : Int} (h : jINV g σ) : jOF mL_lineOf mX7_lineOf 0 55 jid [(2, 0), (0, x), (2, 55)] [(2, 7), (0, x)] g σ := by
  have B := h.2.2.2.2.1
  rcases h.2.2.2.2.st with ⟨h9, hT, L⟩ | ⟨h9, hT⟩
  · have LL := L
    obtain ⟨L1, L2, L3, L4, L5, L6⟩ := L
    by_cases hx : 0 ≤ x ∧ x < σ 7 16
    · have hc : jcI (jset σ 55 0 (jat σ 15 200 x)) (jset σ 55 0 (jat σ 15 200 x) 7 16) x = 0 := jcI_0 hT hx
      refine jOF.ok (by decide) (by decide) (sp_L_lineOf (Nat.zero_le 1) (sp_X6_lineOf h9 (by omega)) (fun v t q => ⟨_, q.1⟩) (fun X t q => q.elim)) (fun v t q => lq_lineOf q) (jrv.to (sp_X7_lineOf (σ := jset σ 55 0 (jat σ 15 200 x)) B.1) ⟨if_pos hc, by rw [hc]; rfl⟩) rfl (fun _ => ?_) ((h.o _).q 0)
      show jat σ 15 200 x = σ 43 x
      rw [jat_in hx.1 (by omega)]; exact (L4 x hx.1 hx.2).1.1
    · have hc : jcI σ (σ 7 16) x = 2 := jcI_2 hT hx
      exact jOF.ok (by decide) (by decide) (sp_L_lineOf (Nat.le_refl 1) (sp_X6_lineOfI h9 (by omega)) (fun v t q => q.elim) (fun X t q => Or.inr q.1)) (fun v t q => lq_lineOf_2 q) (jrv.to (sp_X7_lineOf (σ := σ) B.1) ⟨if_neg (by omega), by rw [hc]; rfl⟩) rfl (fun q => absurd q (by decide)) (h.q 2)
  · have hc : jcI σ (σ 7 16) x = 1 := jcI_n hT
    exact jOF.ok (by decide) (by decide) (sp_L_lineOf (Nat.le_refl 1) (sp_X6_lineOfN h9) (fun v t q => q.elim) (fun X t q => Or.inl q.1)) (fun v t q => lq_lineOf_1 q) (jrv.to (sp_X7_lineOf (σ := σ) B.1) ⟨if_neg (by omega), by rw [hc]; rfl⟩) rfl (fun q => absurd q (by decide)) (h.q 1)
theorem op_depthOf {g : Int} {σ : JM} {x : Int} (h : jINV g σ) : jOF mL_depthOf mX7_depthOf 0 55 jid [(2, 0), (0, x), (2, 55)] [(2, 7), (0, x)] g σ := by
  have B := h.2.2.2.2.1
  rcases h.2.2.2.2.st with ⟨h9, hT, L⟩ | ⟨h9, hT⟩
  · have LL := L
    obtain ⟨L1, L2, L3, L4, L5, L6⟩ := L
    by_cases hx : 0 ≤ x ∧ x < σ 7 16
    · have hc : jcI (jset σ 55 0 (jat σ 17 200 x)) (jset σ 55 0 (jat σ 17 200 x) 7 16) x = 0 := jcI_0 hT hx
      refine jOF.ok (by decide) (by decide) (sp_L_depthOf (Nat.zero_le 1) (sp_X6_depthOf h9 (by omega)) (fun v t q => ⟨_, q.1⟩) (fun X t q => q.elim)) (fun v t q => lq_depthOf q) (jrv.to (sp_X7_depthOf (σ := jset σ 55 0 (jat σ 17 200 x)) B.1) ⟨if_pos hc, by rw [hc]; rfl⟩) rfl (fun _ => ?_) ((h.o _).q 0)
      show jat σ 17 200 x = σ 47 x
      rw [jat_in hx.1 (by omega)]; exact (L4 x hx.1 hx.2).1.2.2.1
    · have hc : jcI σ (σ 7 16) x = 2 := jcI_2 hT hx
      exact jOF.ok (by decide) (by decide) (sp_L_depthOf (Nat.le_refl 1) (sp_X6_depthOfI h9 (by omega)) (fun v t q => q.elim) (fun X t q => Or.inr q.1)) (fun v t q => lq_depthOf_2 q) (jrv.to (sp_X7_depthOf (σ := σ) B.1) ⟨if_neg (by omega), by rw [hc]; rfl⟩) rfl (fun q => absurd q (by decide)) (h.q 2)
  · have hc : jcI σ (σ 7 16) x = 1 := jcI_n hT
    exact jOF.ok (by decide) (by decide) (sp_L_depthOf (Nat.le_refl 1) (sp_X6_depthOfN h9) (fun v t q => q.elim) (fun X t q => Or.inl q.1)) (fun v t q => lq_depthOf_1 q) (jrv.to (sp_X7_depthOf (σ := σ) B.1) ⟨if_neg (by omega), by rw [hc]; rfl⟩) rfl (fun q => absurd q (by decide)) (h.q 1)
theorem op_addressOf {g : Int} {σ : JM} {x : Int} (h : jINV g σ) : jOF mL_addressOf mX7_addressOf 0 55 jid [(2, 0), (0, x), (2, 55)] [(2, 7), (0, x)] g σ := by
  have B := h.2.2.2.2.1
  rcases h.2.2.2.2.st with ⟨h9, hT, L⟩ | ⟨h9, hT⟩
  · have LL := L
    obtain ⟨L1, L2, L3, L4, L5, L6⟩ := L
    by_cases hx : 0 ≤ x ∧ x < σ 7 16
    · have hc : jcI (jset σ 55 0 (jat σ 20 200 x)) (jset σ 55 0 (jat σ 20 200 x) 7 16) x = 0 := jcI_0 hT hx
      refine jOF.ok (by decide) (by decide) (sp_L_addressOf (Nat.zero_le 1) (sp_X6_addressOf h9 (by omega)) (fun v t q => ⟨_, q.1⟩) (fun X t q => q.elim)) (fun v t q => lq_addressOf q) (jrv.to (sp_X7_addressOf (σ := jset σ 55 0 (jat σ 20 200 x)) B.1) ⟨if_pos hc, by rw [hc]; rfl⟩) rfl (fun _ => ?_) ((h.o _).q 0)
      show jat σ 20 200 x = σ 48 x
      rw [jat_in hx.1 (by omega)]; exact (L4 x hx.1 hx.2).1.2.2.2.1
    · have hc : jcI σ (σ 7 16) x = 2 := jcI_2 hT hx
      exact jOF.ok (by decide) (by decide) (sp_L_addressOf (Nat.le_refl 1) (sp_X6_addressOfI h9 (by omega)) (fun v t q => q.elim) (fun X t q => Or.inr q.1)) (fun v t q => lq_addressOf_2 q) (jrv.to (sp_X7_addressOf (σ := σ) B.1) ⟨if_neg (by omega), by rw [hc]; rfl⟩) rfl (fun q => absurd q (by decide)) (h.q 2)
  · have hc : jcI σ (σ 7 16) x = 1 := jcI_n hT
    exact jOF.ok (by decide) (by decide) (sp_L_addressOf (Nat.le_refl 1) (sp_X6_addressOfN h9) (fun v t q => q.elim) (fun X t q => Or.inl q.1)) (fun v t q => lq_addressOf_1 q) (jrv.to (sp_X7_addressOf (σ := σ) B.1) ⟨if_neg (by omega), by rw [hc]; rfl⟩) rfl (fun q => absurd q (by decide)) (h.q 1)
theorem op_kindOf {g : Int} {σ : JM} {x : Int} (h : jINV g σ) : jOF mL_kindOf mX7_kindOf 0 55 jid [(2, 0), (0, x), (2, 55)] [(2, 7), (0, x)] g σ := by
  have B := h.2.2.2.2.1
  rcases h.2.2.2.2.st with ⟨h9, hT, L⟩ | ⟨h9, hT⟩
  · have LL := L
    obtain ⟨L1, L2, L3, L4, L5, L6⟩ := L
    by_cases hx : 0 ≤ x ∧ x < σ 7 16
    · have hc : jcI (jset σ 55 0 (jat σ 16 200 x)) (jset σ 55 0 (jat σ 16 200 x) 7 16) x = 0 := jcI_0 hT hx
      refine jOF.ok (by decide) (by decide) (sp_L_kindOf (Nat.zero_le 1) (sp_X6_kindOf h9 (by omega) (by rw [jat_in hx.1 (by omega), (L4 x hx.1 hx.2).1.2.1]; exact jkof_c (L4 x hx.1 hx.2).2.1)) (fun v t q => ⟨_, q.1⟩) (fun X t q => q.elim)) (fun v t q => lq_kindOf q) (jrv.to (sp_X7_kindOf (σ := jset σ 55 0 (jat σ 16 200 x)) B.1 B.2.2.1) ⟨if_pos hc, by rw [hc]; rfl⟩) rfl (fun _ => ?_) ((h.o _).q 0)
      show jat σ 16 200 x = jmK σ x
      rw [jat_in hx.1 (by omega)]; exact (L4 x hx.1 hx.2).1.2.1
    · have hc : jcI σ (σ 7 16) x = 2 := jcI_2 hT hx
      exact jOF.ok (by decide) (by decide) (sp_L_kindOf (Nat.le_refl 1) (sp_X6_kindOfI h9 (by omega)) (fun v t q => q.elim) (fun X t q => Or.inr q.1)) (fun v t q => lq_kindOf_2 q) (jrv.to (sp_X7_kindOf (σ := σ) B.1 B.2.2.1) ⟨if_neg (by omega), by rw [hc]; rfl⟩) rfl (fun q => absurd q (by decide)) (h.q 2)
  · have hc : jcI σ (σ 7 16) x = 1 := jcI_n hT
    exact jOF.ok (by decide) (by decide) (sp_L_kindOf (Nat.le_refl 1) (sp_X6_kindOfN h9) (fun v t q => q.elim) (fun X t q => Or.inl q.1)) (fun v t q => lq_kindOf_1 q) (jrv.to (sp_X7_kindOf (σ := σ) B.1 B.2.2.1) ⟨if_neg (by omega), by rw [hc]; rfl⟩) rfl (fun q => absurd q (by decide)) (h.q 1)
theorem op_addressByAdding {g : Int} {σ : JM} {x : Int} (h : jINV g σ) : jOF mL_addressByAdding mX7_addressByAdding 0 55 jid [(2, 0), (0, x), (2, 55)] [(2, 7), (0, x)] g σ := by
  have B := h.2.2.2.2.1
  rcases h.2.2.2.2.st with ⟨h9, hT, L⟩ | ⟨h9, hT⟩
  · have LL := L
    obtain ⟨L1, L2, L3, L4, L5, L6⟩ := L
    by_cases hx : 0 ≤ x ∧ x < σ 7 16
    · have hc : jcI (jset σ 55 0 (jad (σ 16) (σ 18) x)) (jset σ 55 0 (jad (σ 16) (σ 18) x) 7 16) x = 0 := jcI_0 hT hx
      refine jOF.ok (by decide) (by decide) (sp_L_addressByAdding (Nat.zero_le 1) (sp_X6_addressByAdding h9 (by omega) (by omega) (fun i i0 i1 => (L4 i i0 (by omega)).2.2.2.1)) (fun v t q => ⟨_, q.1⟩) (fun X t q => q.elim)) (fun v t q => lq_addressByAdding q) (jrv.to (sp_X7_addressByAdding (σ := jset σ 55 0 (jad (σ 16) (σ 18) x)) B.1) ⟨if_pos hc, by rw [hc]; rfl⟩) rfl (fun _ => ?_) ((h.o _).q 0)
      show jad (σ 16) (σ 18) x = σ 48 x
      exact (L4 x hx.1 hx.2).1.2.2.2.2
    · have hc : jcI σ (σ 7 16) x = 2 := jcI_2 hT hx
      exact jOF.ok (by decide) (by decide) (sp_L_addressByAdding (Nat.le_refl 1) (sp_X6_addressByAddingI h9 (by omega)) (fun v t q => q.elim) (fun X t q => Or.inr q.1)) (fun v t q => lq_addressByAdding_2 q) (jrv.to (sp_X7_addressByAdding (σ := σ) B.1) ⟨if_neg (by omega), by rw [hc]; rfl⟩) rfl (fun q => absurd q (by decide)) (h.q 2)
  · have hc : jcI σ (σ 7 16) x = 1 := jcI_n hT
    exact jOF.ok (by decide) (by decide) (sp_L_addressByAdding (Nat.le_refl 1) (sp_X6_addressByAddingN h9) (fun v t q => q.elim) (fun X t q => Or.inl q.1)) (fun v t q => lq_addressByAdding_1 q) (jrv.to (sp_X7_addressByAdding (σ := σ) B.1) ⟨if_neg (by omega), by rw [hc]; rfl⟩) rfl (fun q => absurd q (by decide)) (h.q 1)
theorem op_targetOf {g : Int} {σ : JM} {x : Int} (h : jINV g σ) : jOF mL_targetOf mX7_targetOf 0 55 jid [(2, 0), (0, x), (2, 55)] [(2, 7), (0, x)] g σ := by
  have B := h.2.2.2.2.1
  rcases h.2.2.2.2.st with ⟨h9, hT, L⟩ | ⟨h9, hT⟩
  · obtain ⟨L1, L2, L3, L4, L5, L6⟩ := L
    by_cases hx : 0 ≤ x ∧ x < σ 7 16
    · have hc : jcI σ (σ 7 16) x = 0 := jcI_0 hT hx
      obtain ⟨-, -, -, -, l5, l6, -⟩ := L4 x hx.1 hx.2
      have ej : jat σ 19 200 x = σ 19 x := jat_in hx.1 (by omega)
      by_cases hk : jrk (σ 44 x)
      · have hn : jcN (jset σ 55 0 (jat σ 19 200 x)) x = 0 := by
          show jcN σ x = 0
          unfold jcN; rw [if_neg (by omega), if_pos hk]
        rw [if_pos hk] at l5
        refine jOF.ok (by decide) (by decide) (sp_L_targetOf (Nat.zero_le 1) (sp_X6_targetOf h9 (by omega) (by rw [ej, l5]; have := l6 hk; omega)) (fun v t q => ⟨_, q.1⟩) (fun X t q => q.elim)) (fun v t q => lq_targetOf q) (jrv.to (sp_X7_targetOf (σ := jset σ 55 0 (jat σ 19 200 x)) B.1) ⟨if_pos hn, by rw [hn]; rfl⟩) rfl (fun _ => ?_) ((h.o _).q 0)
        show jat σ 19 200 x = σ 49 x
        rw [ej, l5]
      · have hn : jcN σ x = 3 := by unfold jcN; rw [if_neg (by omega), if_neg hk]
        rw [if_neg hk] at l5
        exact jOF.ok (by decide) (by decide) (sp_L_targetOf (Nat.le_refl 1) (sp_X6_targetOfU h9 (by omega) (by rw [ej, l5])) (fun v t q => q.elim) (fun X t q => Or.inr (Or.inr q.1))) (fun v t q => lq_targetOf_3 q) (jrv.to (sp_X7_targetOf (σ := σ) B.1) ⟨if_neg (by omega), by rw [hn]; rfl⟩) rfl (fun q => absurd q (by decide)) (h.q 3)
    · have hn : jcN σ x = 2 := by unfold jcN; rw [jcI_2 hT hx, if_pos (by decide)]
      exact jOF.ok (by decide) (by decide) (sp_L_targetOf (Nat.le_refl 1) (sp_X6_targetOfI h9 (by omega)) (fun v t q => q.elim) (fun X t q => Or.inr (Or.inl q.1))) (fun v t q => lq_targetOf_2 q) (jrv.to (sp_X7_targetOf (σ := σ) B.1) ⟨if_neg (by omega), by rw [hn]; rfl⟩) rfl (fun q => absurd q (by decide)) (h.q 2)
  · have hn : jcN σ x = 1 := by unfold jcN; rw [jcI_n hT, if_pos (by decide)]
    exact jOF.ok (by decide) (by decide) (sp_L_targetOf (Nat.le_refl 1) (sp_X6_targetOfN h9) (fun v t q => q.elim) (fun X t q => Or.inl q.1)) (fun v t q => lq_targetOf_1 q) (jrv.to (sp_X7_targetOf (σ := σ) B.1) ⟨if_neg (by omega), by rw [hn]; rfl⟩) rfl (fun q => absurd q (by decide)) (h.q 1)
theorem op_loadedWord {g : Int} {σ : JM} {x b : Int} (h : jINV g σ) : jOF mL_loadedWord mX7_loadedWord 0 55 jid [(2, 0), (0, x), (0, b), (2, 55)] [(2, 7), (0, x), (0, b)] g σ := by
  have B := h.2.2.2.2.1
  rcases h.2.2.2.2.st with ⟨h9, hT, L⟩ | ⟨h9, hT⟩
  · obtain ⟨L1, L2, L3, L4, L5, L6⟩ := L
    by_cases hx : 0 ≤ x ∧ x < σ 7 19
    · have hc : jcI σ (σ 7 19) x = 0 := jcI_0 hT hx
      have l := L5 x hx.1 hx.2
      by_cases hb : 0 ≤ b ∧ b ≤ 9999
      · have hn : jcW (jset σ 55 0 (if σ 30 x ≠ 0 then σ 29 x + b else σ 29 x)) x b = 0 := by
          show jcW σ x b = 0
          unfold jcW; rw [if_neg (by omega), if_pos hb]
        refine jOF.ok (by decide) (by decide) (sp_L_loadedWord (Nat.zero_le 1) (sp_X6_loadedWord h9 (by omega) hb (by omega) (by omega)) (fun v t q => ⟨_, q.1⟩) (fun X t q => q.elim)) (fun v t q => lq_loadedWord q) (jrv.to (sp_X7_loadedWord (σ := jset σ 55 0 (if σ 30 x ≠ 0 then σ 29 x + b else σ 29 x)) B.2.1 B.2.2.2) ⟨if_pos hn, by rw [hn]; rfl⟩) rfl (fun _ => ?_) ((h.o _).q 0)
        show (if σ 30 x ≠ 0 then σ 29 x + b else σ 29 x) = (if σ 52 x ≠ 0 then σ 51 x + b else σ 51 x)
        rw [l.1, l.2.1]
      · have hn : jcW σ x b = 3 := by unfold jcW; rw [if_neg (by omega), if_neg hb]
        exact jOF.ok (by decide) (by decide) (sp_L_loadedWord (Nat.le_refl 1) (sp_X6_loadedWordA h9 (by omega) hb) (fun v t q => q.elim) (fun X t q => Or.inr (Or.inr q.1))) (fun v t q => lq_loadedWord_3 q) (jrv.to (sp_X7_loadedWord (σ := σ) B.2.1 B.2.2.2) ⟨if_neg (by omega), by rw [hn]; rfl⟩) rfl (fun q => absurd q (by decide)) (h.q 3)
    · have hn : jcW σ x b = 2 := by unfold jcW; rw [jcI_2 hT hx, if_pos (by decide)]
      exact jOF.ok (by decide) (by decide) (sp_L_loadedWord (Nat.le_refl 1) (sp_X6_loadedWordI h9 (by omega)) (fun v t q => q.elim) (fun X t q => Or.inr (Or.inl q.1))) (fun v t q => lq_loadedWord_2 q) (jrv.to (sp_X7_loadedWord (σ := σ) B.2.1 B.2.2.2) ⟨if_neg (by omega), by rw [hn]; rfl⟩) rfl (fun q => absurd q (by decide)) (h.q 2)
  · have hn : jcW σ x b = 1 := by unfold jcW; rw [jcI_n hT, if_pos (by decide)]
    exact jOF.ok (by decide) (by decide) (sp_L_loadedWord (Nat.le_refl 1) (sp_X6_loadedWordN h9) (fun v t q => q.elim) (fun X t q => Or.inl q.1)) (fun v t q => lq_loadedWord_1 q) (jrv.to (sp_X7_loadedWord (σ := σ) B.2.1 B.2.2.2) ⟨if_neg (by omega), by rw [hn]; rfl⟩) rfl (fun q => absurd q (by decide)) (h.q 1)
theorem op_labelAddress {g : Int} {σ : JM} {x : Int} (h : jINV g σ) : jOF mL_labelAddress mX7_labelAddress 0 55 jid [(2, 0), (0, x), (2, 55)] [(2, 7), (0, x)] g σ := by
  have B := h.2.2.2.2.1
  rcases h.2.2.2.2.st with ⟨h9, hT, L⟩ | ⟨h9, hT⟩
  · have el := L.lb x
    obtain ⟨L1, L2, L3, L4, L5, L6⟩ := L
    rcases jfs_cases (P := jlp σ x) (σ 7 16) with ⟨a, -⟩ | ⟨a, b, -⟩
    · have hn : jcL σ x = 1 := by unfold jcL; rw [if_neg (fun q => q.2 a)]
      exact jOF.ok (by decide) (by decide) (sp_L_labelAddress (Nat.le_refl 1) (sp_X6_labelAddressU h9 (by rw [el, a])) (fun v t q => q.elim) (fun X t q => q.1)) (fun v t q => lq_labelAddress_1 q) (jrv.to (sp_X7_labelAddress (σ := σ) B.1) ⟨if_neg (by omega), by rw [hn]; rfl⟩) rfl (fun q => absurd q (by decide)) (h.q 1)
    · have hn : jcL (jset σ 55 0 (jat σ 20 200 (jlb σ 0 x))) x = 0 := by
        show jcL σ x = 0
        unfold jcL; rw [if_pos ⟨hT, by omega⟩]
      refine jOF.ok (by decide) (by decide) (sp_L_labelAddress (Nat.zero_le 1) (sp_X6_labelAddress h9 (by omega)) (fun v t q => ⟨_, q.1⟩) (fun X t q => q.elim)) (fun v t q => lq_labelAddress q) (jrv.to (sp_X7_labelAddress (σ := jset σ 55 0 (jat σ 20 200 (jlb σ 0 x))) B.1) ⟨if_pos hn, by rw [hn]; rfl⟩) rfl (fun _ => ?_) ((h.o _).q 0)
      show jat σ 20 200 (jlb σ 0 x) = σ 48 (jfs (jlp σ x) (σ 7 16))
      rw [el, jat_in a (by omega)]
      exact (L4 _ a b).1.2.2.2.1
  · have hn : jcL σ x = 1 := by unfold jcL; rw [if_neg (fun q => by have := q.1; omega)]
    exact jOF.ok (by decide) (by decide) (sp_L_labelAddress (Nat.le_refl 1) (sp_X6_labelAddressN h9) (fun v t q => q.elim) (fun X t q => q.1)) (fun v t q => lq_labelAddress_1 q) (jrv.to (sp_X7_labelAddress (σ := σ) B.1) ⟨if_neg (by omega), by rw [hn]; rfl⟩) rfl (fun q => absurd q (by decide)) (h.q 1)
theorem op_fault {g : Int} {σ : JM} (h : jINV g σ) : jOF mL_fault mX7_fault 0 55 jid [(2, 0), (2, 55)] [(2, 7)] g σ := by
  rcases h.2.2.2.2.2 with ⟨h1, h2⟩ | ⟨h1, h2, h3, h4, h5⟩
  · have hn : jcF σ = 1 := by unfold jcF; rw [if_neg (fun q => q h1)]
    exact jOF.ok (by decide) (by decide) (sp_L_fault (Nat.le_refl 1) (sp_X6_faultN h2) (fun v t q => q.elim) (fun X t q => q.1)) (fun v t q => lq_fault_1 q) (jrv.to (sp_X7_fault (σ := σ)) ⟨if_neg (by omega), by rw [hn]; rfl⟩) rfl (fun q => absurd q (by decide)) (h.q 1)
  · have hn : jcF (jset σ 55 0 (σ 4 9)) = 0 := by
      show jcF σ = 0
      unfold jcF; rw [if_pos h1]
    exact jOF.ok (by decide) (by decide) (sp_L_fault (Nat.zero_le 1) (sp_X6_fault (by omega) (by omega)) (fun v t q => ⟨_, q.1⟩) (fun X t q => q.elim)) (fun v t q => lq_fault q) (jrv.to (sp_X7_fault (σ := jset σ 55 0 (σ 4 9))) ⟨if_pos hn, by rw [hn]; rfl⟩) rfl (fun _ => h2) ((h.o _).q 0)
theorem op_faultLine {g : Int} {σ : JM} (h : jINV g σ) : jOF mL_faultLine mX7_faultLine 0 55 jid [(2, 0), (2, 55)] [(2, 7)] g σ := by
  by_cases hc : σ 7 13 ≠ 0 ∧ σ 7 14 ≠ 110
  · have hn : jcFl (jset σ 55 0 (σ 4 10)) = 0 := by
      show jcFl σ = 0
      unfold jcFl; rw [if_pos hc]
    rcases h.2.2.2.2.2 with ⟨h1, h2⟩ | ⟨h1, h2, h3, h4, h5⟩
    · exact absurd h1 hc.1
    · exact jOF.ok (by decide) (by decide) (sp_L_faultLine (Nat.zero_le 1) (sp_X6_faultLine (by omega) (by omega)) (fun v t q => ⟨_, q.1⟩) (fun X t q => q.elim)) (fun v t q => lq_faultLine q) (jrv.to (sp_X7_faultLine (σ := jset σ 55 0 (σ 4 10))) ⟨if_pos hn, by rw [hn]; rfl⟩) rfl (fun _ => h4 hc.2) ((h.o _).q 0)
  · have hn : jcFl σ = 1 := by unfold jcFl; rw [if_neg hc]
    have h9 : σ 4 9 = 0 ∨ σ 4 9 = 110 := by
      rcases h.2.2.2.2.2 with ⟨h1, h2⟩ | ⟨h1, h2, -⟩
      · exact Or.inl h2
      · omega
    exact jOF.ok (by decide) (by decide) (sp_L_faultLine (Nat.le_refl 1) (sp_X6_faultLineN h9) (fun v t q => q.elim) (fun X t q => q.1)) (fun v t q => lq_faultLine_1 q) (jrv.to (sp_X7_faultLine (σ := σ)) ⟨if_neg (by omega), by rw [hn]; rfl⟩) rfl (fun q => absurd q (by decide)) (h.q 1)
