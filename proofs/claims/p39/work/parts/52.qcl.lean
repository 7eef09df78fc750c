theorem sp_X6_requireProgram {σ : JM} (h9 : σ 4 9 = 110) : JSp mX6_requireProgram 8 0 [(2, 0)] σ (jvv σ) (jno) := by
  refine JSp.of [(2, 0)] rfl (by decide +kernel) rfl rfl rfl (fun l E hA => ?_)
  refine V.aload_n dX6_requireProgram_0 rfl ?_
  refine V.getR fa_X6_37 rfl dX6_requireProgram_1 ?_
  refine V.cV [] rfl kc_X6_104 rfl dX6_requireProgram_4 (by decide) rfl rfl (sp_X1_faultKind) (fun _ => ?_)
  refine V.bipush dX6_requireProgram_7 ⟨by decide, by decide⟩ ?_
  refine V.icmp_eq (tgt := 22) dX6_requireProgram_9 (by decide) (fun hh => ?_) (fun hh => ?_)
  · exact V.vret (jret_v dX6_requireProgram_22 rfl) ⟨rfl, rfl⟩
  · exact absurd h9 hh
theorem sp_X6_requireProgramN {σ : JM} (h9 : σ 4 9 ≠ 110) : JSp mX6_requireProgram 8 1 [(2, 0)] σ (jnr) (jxx "java/util/NoSuchElementException" σ) := by
  refine JSp.of [(2, 0)] rfl (by decide +kernel) rfl rfl rfl (fun l E hA => ?_)
  refine V.aload_n dX6_requireProgram_0 rfl ?_
  refine V.getR fa_X6_37 rfl dX6_requireProgram_1 ?_
  refine V.cV [] rfl kc_X6_104 rfl dX6_requireProgram_4 (by decide) rfl rfl (sp_X1_faultKind) (fun _ => ?_)
  refine V.bipush dX6_requireProgram_7 ⟨by decide, by decide⟩ ?_
  refine V.icmp_eq (tgt := 22) dX6_requireProgram_9 (by decide) (fun hh => ?_) (fun hh => ?_)
  · exact absurd hh h9
  · exact V.throwN tt_X6_requireProgram_12 rfl (by decide) ⟨rfl, rfl⟩ dX6_requireProgram_12 dX6_requireProgram_15 dX6_requireProgram_16 dX6_requireProgram_18 dX6_requireProgram_21
theorem sp_X6_requireWord {σ : JM} {x : Int} (h9 : σ 4 9 = 110) (hx : 0 ≤ x ∧ x < σ 5 2) : JSp mX6_requireWord 9 0 [(2, 0), (0, x)] σ (jvv σ) (jno) := by
  refine JSp.of [(2, 0), (0, x)] rfl (by decide +kernel) rfl rfl rfl (fun l E hA => ?_)
  refine V.aload_n dX6_requireWord_0 rfl ?_
  refine V.cV0 [] rfl kc_X6_137 rfl dX6_requireWord_1 (by decide) rfl rfl (sp_X6_requireProgram h9) ?_
  refine V.iload_n dX6_requireWord_4 rfl ?_
  refine V.if_lt (tgt := 19) dX6_requireWord_5 (by decide) (fun hh => ?_) (fun hh => ?_)
  · exact absurd hh (by omega)
  · refine V.iload_n dX6_requireWord_8 rfl ?_
    refine V.aload_n dX6_requireWord_9 rfl ?_
    refine V.getR fa_X6_44 rfl dX6_requireWord_10 ?_
    refine V.cV [] rfl kc_X6_113 rfl dX6_requireWord_13 (by decide) rfl rfl (sp_X2_size) (fun _ => ?_)
    refine V.icmp_lt (tgt := 29) dX6_requireWord_16 (by decide) (fun hh => ?_) (fun hh => ?_)
    · exact V.vret (jret_v dX6_requireWord_29 rfl) ⟨rfl, rfl⟩
    · exact absurd hh (by omega)
theorem sp_X6_requireWordN {σ : JM} {x : Int} (h9 : σ 4 9 ≠ 110) : JSp mX6_requireWord 9 1 [(2, 0), (0, x)] σ (jnr) (jxx "java/util/NoSuchElementException" σ) := by
  refine JSp.of [(2, 0), (0, x)] rfl (by decide +kernel) rfl rfl rfl (fun l E hA => ?_)
  refine V.aload_n dX6_requireWord_0 rfl ?_
  exact V.cX [] rfl kc_X6_137 rfl dX6_requireWord_1 (by decide) rfl rfl (Nat.le_refl 1) (sp_X6_requireProgramN h9)
theorem sp_X6_requireWordI {σ : JM} {x : Int} (h9 : σ 4 9 = 110) (hx : ¬ (0 ≤ x ∧ x < σ 5 2)) : JSp mX6_requireWord 9 1 [(2, 0), (0, x)] σ (jnr) (jxx "java/lang/IndexOutOfBoundsException" σ) := by
  refine JSp.of [(2, 0), (0, x)] rfl (by decide +kernel) rfl rfl rfl (fun l E hA => ?_)
  refine V.aload_n dX6_requireWord_0 rfl ?_
  refine V.cV0 [] rfl kc_X6_137 rfl dX6_requireWord_1 (by decide) rfl rfl (sp_X6_requireProgram h9) ?_
  refine V.iload_n dX6_requireWord_4 rfl ?_
  refine V.if_lt (tgt := 19) dX6_requireWord_5 (by decide) (fun h5 => ?_) (fun h5 => ?_)
  · exact V.throw tt_X6_requireWord_19 rfl (by decide) ⟨rfl, rfl⟩ dX6_requireWord_19 dX6_requireWord_22 dX6_requireWord_23 dX6_requireWord_25 dX6_requireWord_28
  · refine V.iload_n dX6_requireWord_8 rfl ?_
    refine V.aload_n dX6_requireWord_9 rfl ?_
    refine V.getR fa_X6_44 rfl dX6_requireWord_10 ?_
    refine V.cV [] rfl kc_X6_113 rfl dX6_requireWord_13 (by decide) rfl rfl (sp_X2_size) (fun _ => ?_)
    refine V.icmp_lt (tgt := 29) dX6_requireWord_16 (by decide) (fun hh => ?_) (fun hh => ?_)
    · exact absurd hh (by omega)
    · exact V.throw tt_X6_requireWord_19 rfl (by decide) ⟨rfl, rfl⟩ dX6_requireWord_19 dX6_requireWord_22 dX6_requireWord_23 dX6_requireWord_25 dX6_requireWord_28
theorem sp_X6_requireItem {σ : JM} {x : Int} (h9 : σ 4 9 = 110) (hx : 0 ≤ x ∧ x < σ 2 6) : JSp mX6_requireItem 9 0 [(2, 0), (0, x)] σ (jvv σ) (jno) := by
  refine JSp.of [(2, 0), (0, x)] rfl (by decide +kernel) rfl rfl rfl (fun l E hA => ?_)
  refine V.aload_n dX6_requireItem_0 rfl ?_
  refine V.cV0 [] rfl kc_X6_137 rfl dX6_requireItem_1 (by decide) rfl rfl (sp_X6_requireProgram h9) ?_
  refine V.iload_n dX6_requireItem_4 rfl ?_
  refine V.if_lt (tgt := 19) dX6_requireItem_5 (by decide) (fun hh => ?_) (fun hh => ?_)
  · exact absurd hh (by omega)
  · refine V.iload_n dX6_requireItem_8 rfl ?_
    refine V.aload_n dX6_requireItem_9 rfl ?_
    refine V.getR fa_X6_19 rfl dX6_requireItem_10 ?_
    refine V.cV [] rfl kc_X6_171 rfl dX6_requireItem_13 (by decide) rfl rfl (sp_X3_size) (fun _ => ?_)
    refine V.icmp_lt (tgt := 29) dX6_requireItem_16 (by decide) (fun hh => ?_) (fun hh => ?_)
    · exact V.vret (jret_v dX6_requireItem_29 rfl) ⟨rfl, rfl⟩
    · exact absurd hh (by omega)
theorem sp_X6_requireItemN {σ : JM} {x : Int} (h9 : σ 4 9 ≠ 110) : JSp mX6_requireItem 9 1 [(2, 0), (0, x)] σ (jnr) (jxx "java/util/NoSuchElementException" σ) := by
  refine JSp.of [(2, 0), (0, x)] rfl (by decide +kernel) rfl rfl rfl (fun l E hA => ?_)
  refine V.aload_n dX6_requireItem_0 rfl ?_
  exact V.cX [] rfl kc_X6_137 rfl dX6_requireItem_1 (by decide) rfl rfl (Nat.le_refl 1) (sp_X6_requireProgramN h9)
theorem sp_X6_requireItemI {σ : JM} {x : Int} (h9 : σ 4 9 = 110) (hx : ¬ (0 ≤ x ∧ x < σ 2 6)) : JSp mX6_requireItem 9 1 [(2, 0), (0, x)] σ (jnr) (jxx "java/lang/IndexOutOfBoundsException" σ) := by
  refine JSp.of [(2, 0), (0, x)] rfl (by decide +kernel) rfl rfl rfl (fun l E hA => ?_)
  refine V.aload_n dX6_requireItem_0 rfl ?_
  refine V.cV0 [] rfl kc_X6_137 rfl dX6_requireItem_1 (by decide) rfl rfl (sp_X6_requireProgram h9) ?_
  refine V.iload_n dX6_requireItem_4 rfl ?_
  refine V.if_lt (tgt := 19) dX6_requireItem_5 (by decide) (fun h5 => ?_) (fun h5 => ?_)
  · exact V.throw tt_X6_requireItem_19 rfl (by decide) ⟨rfl, rfl⟩ dX6_requireItem_19 dX6_requireItem_22 dX6_requireItem_23 dX6_requireItem_25 dX6_requireItem_28
  · refine V.iload_n dX6_requireItem_8 rfl ?_
    refine V.aload_n dX6_requireItem_9 rfl ?_
    refine V.getR fa_X6_19 rfl dX6_requireItem_10 ?_
    refine V.cV [] rfl kc_X6_171 rfl dX6_requireItem_13 (by decide) rfl rfl (sp_X3_size) (fun _ => ?_)
    refine V.icmp_lt (tgt := 29) dX6_requireItem_16 (by decide) (fun hh => ?_) (fun hh => ?_)
    · exact absurd hh (by omega)
    · exact V.throw tt_X6_requireItem_19 rfl (by decide) ⟨rfl, rfl⟩ dX6_requireItem_19 dX6_requireItem_22 dX6_requireItem_23 dX6_requireItem_25 dX6_requireItem_28
theorem sp_X6_words {σ : JM} (h9 : σ 4 9 = 110) : JSp mX6_words 9 0 [(2, 0)] σ (jrv (σ 5 2) σ) (jno) := by
  refine JSp.of [(2, 0)] rfl (by decide +kernel) rfl rfl rfl (fun l E hA => ?_)
  refine V.aload_n dX6_words_0 rfl ?_
  refine V.cV0 [] rfl kc_X6_137 rfl dX6_words_1 (by decide) rfl rfl (sp_X6_requireProgram h9) ?_
  refine V.aload_n dX6_words_4 rfl ?_
  refine V.getR fa_X6_44 rfl dX6_words_5 ?_
  refine V.cV [] rfl kc_X6_113 rfl dX6_words_8 (by decide) rfl rfl (sp_X2_size) (fun _ => ?_)
  exact V.iret (jret_i dX6_words_11 rfl) ⟨rfl, rfl⟩
theorem sp_X6_wordsN {σ : JM} (h9 : σ 4 9 ≠ 110) : JSp mX6_words 9 1 [(2, 0)] σ (jnr) (jxx "java/util/NoSuchElementException" σ) := by
  refine JSp.of [(2, 0)] rfl (by decide +kernel) rfl rfl rfl (fun l E hA => ?_)
  refine V.aload_n dX6_words_0 rfl ?_
  exact V.cX [] rfl kc_X6_137 rfl dX6_words_1 (by decide) rfl rfl (Nat.le_refl 1) (sp_X6_requireProgramN h9)
theorem sp_X6_relocations {σ : JM} (h9 : σ 4 9 = 110) : JSp mX6_relocations 9 0 [(2, 0)] σ (jrv (σ 5 3) σ) (jno) := by
  refine JSp.of [(2, 0)] rfl (by decide +kernel) rfl rfl rfl (fun l E hA => ?_)
  refine V.aload_n dX6_relocations_0 rfl ?_
  refine V.cV0 [] rfl kc_X6_137 rfl dX6_relocations_1 (by decide) rfl rfl (sp_X6_requireProgram h9) ?_
  refine V.aload_n dX6_relocations_4 rfl ?_
  refine V.getR fa_X6_44 rfl dX6_relocations_5 ?_
  refine V.cV [] rfl kc_X6_148 rfl dX6_relocations_8 (by decide) rfl rfl (sp_X2_sizeOfRelocations) (fun _ => ?_)
  exact V.iret (jret_i dX6_relocations_11 rfl) ⟨rfl, rfl⟩
theorem sp_X6_relocationsN {σ : JM} (h9 : σ 4 9 ≠ 110) : JSp mX6_relocations 9 1 [(2, 0)] σ (jnr) (jxx "java/util/NoSuchElementException" σ) := by
  refine JSp.of [(2, 0)] rfl (by decide +kernel) rfl rfl rfl (fun l E hA => ?_)
  refine V.aload_n dX6_relocations_0 rfl ?_
  exact V.cX [] rfl kc_X6_137 rfl dX6_relocations_1 (by decide) rfl rfl (Nat.le_refl 1) (sp_X6_requireProgramN h9)
theorem sp_X6_passes {σ : JM} (h9 : σ 4 9 = 110) : JSp mX6_passes 9 0 [(2, 0)] σ (jrv (σ 2 7) σ) (jno) := by
  refine JSp.of [(2, 0)] rfl (by decide +kernel) rfl rfl rfl (fun l E hA => ?_)
  refine V.aload_n dX6_passes_0 rfl ?_
  refine V.cV0 [] rfl kc_X6_137 rfl dX6_passes_1 (by decide) rfl rfl (sp_X6_requireProgram h9) ?_
  refine V.aload_n dX6_passes_4 rfl ?_
  refine V.getR fa_X6_19 rfl dX6_passes_5 ?_
  refine V.cV [] rfl kc_X6_165 rfl dX6_passes_8 (by decide) rfl rfl (sp_X3_sizeOfPasses) (fun _ => ?_)
  exact V.iret (jret_i dX6_passes_11 rfl) ⟨rfl, rfl⟩
theorem sp_X6_passesN {σ : JM} (h9 : σ 4 9 ≠ 110) : JSp mX6_passes 9 1 [(2, 0)] σ (jnr) (jxx "java/util/NoSuchElementException" σ) := by
  refine JSp.of [(2, 0)] rfl (by decide +kernel) rfl rfl rfl (fun l E hA => ?_)
  refine V.aload_n dX6_passes_0 rfl ?_
  exact V.cX [] rfl kc_X6_137 rfl dX6_passes_1 (by decide) rfl rfl (Nat.le_refl 1) (sp_X6_requireProgramN h9)
theorem sp_X6_items {σ : JM} (h9 : σ 4 9 = 110) : JSp mX6_items 9 0 [(2, 0)] σ (jrv (σ 2 6) σ) (jno) := by
  refine JSp.of [(2, 0)] rfl (by decide +kernel) rfl rfl rfl (fun l E hA => ?_)
  refine V.aload_n dX6_items_0 rfl ?_
  refine V.cV0 [] rfl kc_X6_137 rfl dX6_items_1 (by decide) rfl rfl (sp_X6_requireProgram h9) ?_
  refine V.aload_n dX6_items_4 rfl ?_
  refine V.getR fa_X6_19 rfl dX6_items_5 ?_
  refine V.cV [] rfl kc_X6_171 rfl dX6_items_8 (by decide) rfl rfl (sp_X3_size) (fun _ => ?_)
  exact V.iret (jret_i dX6_items_11 rfl) ⟨rfl, rfl⟩
theorem sp_X6_itemsN {σ : JM} (h9 : σ 4 9 ≠ 110) : JSp mX6_items 9 1 [(2, 0)] σ (jnr) (jxx "java/util/NoSuchElementException" σ) := by
  refine JSp.of [(2, 0)] rfl (by decide +kernel) rfl rfl rfl (fun l E hA => ?_)
  refine V.aload_n dX6_items_0 rfl ?_
  exact V.cX [] rfl kc_X6_137 rfl dX6_items_1 (by decide) rfl rfl (Nat.le_refl 1) (sp_X6_requireProgramN h9)
theorem sp_X6_longJumps {σ : JM} (h9 : σ 4 9 = 110) (hn : 0 ≤ σ 2 6 ∧ σ 2 6 ≤ 200) : JSp mX6_longJumps 9 0 [(2, 0)] σ (jrv (jcnt σ 74 (σ 2 6)) σ) (jno) := by
  refine JSp.of [(2, 0)] rfl (by decide +kernel) rfl rfl rfl (fun l E hA => ?_)
  refine V.aload_n dX6_longJumps_0 rfl ?_
  refine V.cV0 [] rfl kc_X6_137 rfl dX6_longJumps_1 (by decide) rfl rfl (sp_X6_requireProgram h9) ?_
  refine V.aload_n dX6_longJumps_4 rfl ?_
  refine V.getR fa_X6_19 rfl dX6_longJumps_5 ?_
  refine V.bipush dX6_longJumps_8 ⟨by decide, by decide⟩ ?_
  refine V.cV [_] rfl kc_X6_168 rfl dX6_longJumps_10 (by decide) rfl rfl (sp_X3_countKind hn.1 hn.2) (fun _ => ?_)
  exact V.iret (jret_i dX6_longJumps_13 rfl) ⟨rfl, rfl⟩
theorem sp_X6_longJumpsN {σ : JM} (h9 : σ 4 9 ≠ 110) : JSp mX6_longJumps 9 1 [(2, 0)] σ (jnr) (jxx "java/util/NoSuchElementException" σ) := by
  refine JSp.of [(2, 0)] rfl (by decide +kernel) rfl rfl rfl (fun l E hA => ?_)
  refine V.aload_n dX6_longJumps_0 rfl ?_
  exact V.cX [] rfl kc_X6_137 rfl dX6_longJumps_1 (by decide) rfl rfl (Nat.le_refl 1) (sp_X6_requireProgramN h9)
theorem sp_X6_wordAt {σ : JM} {x : Int} (h9 : σ 4 9 = 110) (hx : 0 ≤ x ∧ x < σ 5 2) : JSp mX6_wordAt 10 0 [(2, 0), (0, x)] σ (jrv (jat σ 29 1400 x) σ) (jno) := by
  refine JSp.of [(2, 0), (0, x)] rfl (by decide +kernel) rfl rfl rfl (fun l E hA => ?_)
  refine V.aload_n dX6_wordAt_0 rfl ?_
  refine V.iload_n dX6_wordAt_1 rfl ?_
  refine V.cV0 [_] rfl kc_X6_140 rfl dX6_wordAt_2 (by decide) rfl rfl (sp_X6_requireWord h9 hx) ?_
  refine V.aload_n dX6_wordAt_5 rfl ?_
  refine V.getR fa_X6_44 rfl dX6_wordAt_6 ?_
  refine V.iload_n dX6_wordAt_9 rfl ?_
  refine V.cV [_] rfl kc_X6_144 rfl dX6_wordAt_10 (by decide) rfl rfl (sp_X2_wordOf) (fun _ => ?_)
  exact V.iret (jret_i dX6_wordAt_13 rfl) ⟨rfl, rfl⟩
theorem sp_X6_wordAtN {σ : JM} {x : Int} (h9 : σ 4 9 ≠ 110) : JSp mX6_wordAt 10 1 [(2, 0), (0, x)] σ (jnr) (jxx "java/util/NoSuchElementException" σ) := by
  refine JSp.of [(2, 0), (0, x)] rfl (by decide +kernel) rfl rfl rfl (fun l E hA => ?_)
  refine V.aload_n dX6_wordAt_0 rfl ?_
  refine V.iload_n dX6_wordAt_1 rfl ?_
  exact V.cX [_] rfl kc_X6_140 rfl dX6_wordAt_2 (by decide) rfl rfl (Nat.le_refl 1) (sp_X6_requireWordN h9)
theorem sp_X6_wordAtI {σ : JM} {x : Int} (h9 : σ 4 9 = 110) (hx : ¬ (0 ≤ x ∧ x < σ 5 2)) : JSp mX6_wordAt 10 1 [(2, 0), (0, x)] σ (jnr) (jxx "java/lang/IndexOutOfBoundsException" σ) := by
  refine JSp.of [(2, 0), (0, x)] rfl (by decide +kernel) rfl rfl rfl (fun l E hA => ?_)
  refine V.aload_n dX6_wordAt_0 rfl ?_
  refine V.iload_n dX6_wordAt_1 rfl ?_
  exact V.cX [_] rfl kc_X6_140 rfl dX6_wordAt_2 (by decide) rfl rfl (Nat.le_refl 1) (sp_X6_requireWordI h9 hx)
theorem sp_X6_lineOf {σ : JM} {x : Int} (h9 : σ 4 9 = 110) (hx : 0 ≤ x ∧ x < σ 2 6) : JSp mX6_lineOf 10 0 [(2, 0), (0, x)] σ (jrv (jat σ 15 200 x) σ) (jno) := by
  refine JSp.of [(2, 0), (0, x)] rfl (by decide +kernel) rfl rfl rfl (fun l E hA => ?_)
  refine V.aload_n dX6_lineOf_0 rfl ?_
  refine V.iload_n dX6_lineOf_1 rfl ?_
  refine V.cV0 [_] rfl kc_X6_172 rfl dX6_lineOf_2 (by decide) rfl rfl (sp_X6_requireItem h9 hx) ?_
  refine V.aload_n dX6_lineOf_5 rfl ?_
  refine V.getR fa_X6_19 rfl dX6_lineOf_6 ?_
  refine V.iload_n dX6_lineOf_9 rfl ?_
  refine V.cV [_] rfl kc_X6_175 rfl dX6_lineOf_10 (by decide) rfl rfl (sp_X3_line) (fun _ => ?_)
  exact V.iret (jret_i dX6_lineOf_13 rfl) ⟨rfl, rfl⟩
theorem sp_X6_lineOfN {σ : JM} {x : Int} (h9 : σ 4 9 ≠ 110) : JSp mX6_lineOf 10 1 [(2, 0), (0, x)] σ (jnr) (jxx "java/util/NoSuchElementException" σ) := by
  refine JSp.of [(2, 0), (0, x)] rfl (by decide +kernel) rfl rfl rfl (fun l E hA => ?_)
  refine V.aload_n dX6_lineOf_0 rfl ?_
  refine V.iload_n dX6_lineOf_1 rfl ?_
  exact V.cX [_] rfl kc_X6_172 rfl dX6_lineOf_2 (by decide) rfl rfl (Nat.le_refl 1) (sp_X6_requireItemN h9)
theorem sp_X6_lineOfI {σ : JM} {x : Int} (h9 : σ 4 9 = 110) (hx : ¬ (0 ≤ x ∧ x < σ 2 6)) : JSp mX6_lineOf 10 1 [(2, 0), (0, x)] σ (jnr) (jxx "java/lang/IndexOutOfBoundsException" σ) := by
  refine JSp.of [(2, 0), (0, x)] rfl (by decide +kernel) rfl rfl rfl (fun l E hA => ?_)
  refine V.aload_n dX6_lineOf_0 rfl ?_
  refine V.iload_n dX6_lineOf_1 rfl ?_
  exact V.cX [_] rfl kc_X6_172 rfl dX6_lineOf_2 (by decide) rfl rfl (Nat.le_refl 1) (sp_X6_requireItemI h9 hx)
theorem sp_X6_depthOf {σ : JM} {x : Int} (h9 : σ 4 9 = 110) (hx : 0 ≤ x ∧ x < σ 2 6) : JSp mX6_depthOf 10 0 [(2, 0), (0, x)] σ (jrv (jat σ 17 200 x) σ) (jno) := by
  refine JSp.of [(2, 0), (0, x)] rfl (by decide +kernel) rfl rfl rfl (fun l E hA => ?_)
  refine V.aload_n dX6_depthOf_0 rfl ?_
  refine V.iload_n dX6_depthOf_1 rfl ?_
  refine V.cV0 [_] rfl kc_X6_172 rfl dX6_depthOf_2 (by decide) rfl rfl (sp_X6_requireItem h9 hx) ?_
  refine V.aload_n dX6_depthOf_5 rfl ?_
  refine V.getR fa_X6_19 rfl dX6_depthOf_6 ?_
  refine V.iload_n dX6_depthOf_9 rfl ?_
  refine V.cV [_] rfl kc_X6_181 rfl dX6_depthOf_10 (by decide) rfl rfl (sp_X3_depth) (fun _ => ?_)
  exact V.iret (jret_i dX6_depthOf_13 rfl) ⟨rfl, rfl⟩
theorem sp_X6_depthOfN {σ : JM} {x : Int} (h9 : σ 4 9 ≠ 110) : JSp mX6_depthOf 10 1 [(2, 0), (0, x)] σ (jnr) (jxx "java/util/NoSuchElementException" σ) := by
  refine JSp.of [(2, 0), (0, x)] rfl (by decide +kernel) rfl rfl rfl (fun l E hA => ?_)
  refine V.aload_n dX6_depthOf_0 rfl ?_
  refine V.iload_n dX6_depthOf_1 rfl ?_
  exact V.cX [_] rfl kc_X6_172 rfl dX6_depthOf_2 (by decide) rfl rfl (Nat.le_refl 1) (sp_X6_requireItemN h9)
theorem sp_X6_depthOfI {σ : JM} {x : Int} (h9 : σ 4 9 = 110) (hx : ¬ (0 ≤ x ∧ x < σ 2 6)) : JSp mX6_depthOf 10 1 [(2, 0), (0, x)] σ (jnr) (jxx "java/lang/IndexOutOfBoundsException" σ) := by
  refine JSp.of [(2, 0), (0, x)] rfl (by decide +kernel) rfl rfl rfl (fun l E hA => ?_)
  refine V.aload_n dX6_depthOf_0 rfl ?_
  refine V.iload_n dX6_depthOf_1 rfl ?_
  exact V.cX [_] rfl kc_X6_172 rfl dX6_depthOf_2 (by decide) rfl rfl (Nat.le_refl 1) (sp_X6_requireItemI h9 hx)
theorem sp_X6_addressOf {σ : JM} {x : Int} (h9 : σ 4 9 = 110) (hx : 0 ≤ x ∧ x < σ 2 6) : JSp mX6_addressOf 10 0 [(2, 0), (0, x)] σ (jrv (jat σ 20 200 x) σ) (jno) := by
  refine JSp.of [(2, 0), (0, x)] rfl (by decide +kernel) rfl rfl rfl (fun l E hA => ?_)
  refine V.aload_n dX6_addressOf_0 rfl ?_
  refine V.iload_n dX6_addressOf_1 rfl ?_
  refine V.cV0 [_] rfl kc_X6_172 rfl dX6_addressOf_2 (by decide) rfl rfl (sp_X6_requireItem h9 hx) ?_
  refine V.aload_n dX6_addressOf_5 rfl ?_
  refine V.getR fa_X6_19 rfl dX6_addressOf_6 ?_
  refine V.iload_n dX6_addressOf_9 rfl ?_
  refine V.cV [_] rfl kc_X6_162 rfl dX6_addressOf_10 (by decide) rfl rfl (sp_X3_addressAt) (fun _ => ?_)
  exact V.iret (jret_i dX6_addressOf_13 rfl) ⟨rfl, rfl⟩
theorem sp_X6_addressOfN {σ : JM} {x : Int} (h9 : σ 4 9 ≠ 110) : JSp mX6_addressOf 10 1 [(2, 0), (0, x)] σ (jnr) (jxx "java/util/NoSuchElementException" σ) := by
  refine JSp.of [(2, 0), (0, x)] rfl (by decide +kernel) rfl rfl rfl (fun l E hA => ?_)
  refine V.aload_n dX6_addressOf_0 rfl ?_
  refine V.iload_n dX6_addressOf_1 rfl ?_
  exact V.cX [_] rfl kc_X6_172 rfl dX6_addressOf_2 (by decide) rfl rfl (Nat.le_refl 1) (sp_X6_requireItemN h9)
theorem sp_X6_addressOfI {σ : JM} {x : Int} (h9 : σ 4 9 = 110) (hx : ¬ (0 ≤ x ∧ x < σ 2 6)) : JSp mX6_addressOf 10 1 [(2, 0), (0, x)] σ (jnr) (jxx "java/lang/IndexOutOfBoundsException" σ) := by
  refine JSp.of [(2, 0), (0, x)] rfl (by decide +kernel) rfl rfl rfl (fun l E hA => ?_)
  refine V.aload_n dX6_addressOf_0 rfl ?_
  refine V.iload_n dX6_addressOf_1 rfl ?_
  exact V.cX [_] rfl kc_X6_172 rfl dX6_addressOf_2 (by decide) rfl rfl (Nat.le_refl 1) (sp_X6_requireItemI h9 hx)
theorem sp_X6_kindOf {σ : JM} {x : Int} (h9 : σ 4 9 = 110) (hx : 0 ≤ x ∧ x < σ 2 6) (hc : 0 ≤ jat σ 16 200 x ∧ jat σ 16 200 x < 65536) : JSp mX6_kindOf 10 0 [(2, 0), (0, x)] σ (jrv (jat σ 16 200 x) σ) (jno) := by
  refine JSp.of [(2, 0), (0, x)] rfl (by decide +kernel) rfl rfl rfl (fun l E hA => ?_)
  refine V.aload_n dX6_kindOf_0 rfl ?_
  refine V.iload_n dX6_kindOf_1 rfl ?_
  refine V.cV0 [_] rfl kc_X6_172 rfl dX6_kindOf_2 (by decide) rfl rfl (sp_X6_requireItem h9 hx) ?_
  refine V.aload_n dX6_kindOf_5 rfl ?_
  refine V.getR fa_X6_19 rfl dX6_kindOf_6 ?_
  refine V.iload_n dX6_kindOf_9 rfl ?_
  refine V.cV [_] rfl kc_X6_178 rfl dX6_kindOf_10 (by decide) rfl rfl (sp_X3_kind) (fun _ => ?_)
  refine V.i2c dX6_kindOf_13 (hc.1) (hc.2) ?_
  exact V.iret (jret_c dX6_kindOf_14 rfl (hc.1) (hc.2)) ⟨rfl, rfl⟩
theorem sp_X6_kindOfN {σ : JM} {x : Int} (h9 : σ 4 9 ≠ 110) : JSp mX6_kindOf 10 1 [(2, 0), (0, x)] σ (jnr) (jxx "java/util/NoSuchElementException" σ) := by
  refine JSp.of [(2, 0), (0, x)] rfl (by decide +kernel) rfl rfl rfl (fun l E hA => ?_)
  refine V.aload_n dX6_kindOf_0 rfl ?_
  refine V.iload_n dX6_kindOf_1 rfl ?_
  exact V.cX [_] rfl kc_X6_172 rfl dX6_kindOf_2 (by decide) rfl rfl (Nat.le_refl 1) (sp_X6_requireItemN h9)
theorem sp_X6_kindOfI {σ : JM} {x : Int} (h9 : σ 4 9 = 110) (hx : ¬ (0 ≤ x ∧ x < σ 2 6)) : JSp mX6_kindOf 10 1 [(2, 0), (0, x)] σ (jnr) (jxx "java/lang/IndexOutOfBoundsException" σ) := by
  refine JSp.of [(2, 0), (0, x)] rfl (by decide +kernel) rfl rfl rfl (fun l E hA => ?_)
  refine V.aload_n dX6_kindOf_0 rfl ?_
  refine V.iload_n dX6_kindOf_1 rfl ?_
  exact V.cX [_] rfl kc_X6_172 rfl dX6_kindOf_2 (by decide) rfl rfl (Nat.le_refl 1) (sp_X6_requireItemI h9 hx)
theorem sp_X6_addressByAdding {σ : JM} {x : Int} (h9 : σ 4 9 = 110) (hx : 0 ≤ x ∧ x < σ 2 6) (hn : σ 2 6 ≤ 200) (hs : jsz σ) : JSp mX6_addressByAdding 10 0 [(2, 0), (0, x)] σ (jrv (jad (σ 16) (σ 18) x) σ) (jno) := by
  refine JSp.of [(2, 0), (0, x)] rfl (by decide +kernel) rfl rfl rfl (fun l E hA => ?_)
  refine V.aload_n dX6_addressByAdding_0 rfl ?_
  refine V.iload_n dX6_addressByAdding_1 rfl ?_
  refine V.cV0 [_] rfl kc_X6_172 rfl dX6_addressByAdding_2 (by decide) rfl rfl (sp_X6_requireItem h9 hx) ?_
  refine V.aload_n dX6_addressByAdding_5 rfl ?_
  refine V.getR fa_X6_19 rfl dX6_addressByAdding_6 ?_
  refine V.iload_n dX6_addressByAdding_9 rfl ?_
  refine V.cV [_] rfl kc_X6_184 rfl dX6_addressByAdding_10 (by decide) rfl rfl (sp_X3_wordsBefore hx.1 hx.2 hn hs) (fun _ => ?_)
  exact V.iret (jret_i dX6_addressByAdding_13 rfl) ⟨rfl, rfl⟩
theorem sp_X6_addressByAddingN {σ : JM} {x : Int} (h9 : σ 4 9 ≠ 110) : JSp mX6_addressByAdding 10 1 [(2, 0), (0, x)] σ (jnr) (jxx "java/util/NoSuchElementException" σ) := by
  refine JSp.of [(2, 0), (0, x)] rfl (by decide +kernel) rfl rfl rfl (fun l E hA => ?_)
  refine V.aload_n dX6_addressByAdding_0 rfl ?_
  refine V.iload_n dX6_addressByAdding_1 rfl ?_
  exact V.cX [_] rfl kc_X6_172 rfl dX6_addressByAdding_2 (by decide) rfl rfl (Nat.le_refl 1) (sp_X6_requireItemN h9)
theorem sp_X6_addressByAddingI {σ : JM} {x : Int} (h9 : σ 4 9 = 110) (hx : ¬ (0 ≤ x ∧ x < σ 2 6)) : JSp mX6_addressByAdding 10 1 [(2, 0), (0, x)] σ (jnr) (jxx "java/lang/IndexOutOfBoundsException" σ) := by
  refine JSp.of [(2, 0), (0, x)] rfl (by decide +kernel) rfl rfl rfl (fun l E hA => ?_)
  refine V.aload_n dX6_addressByAdding_0 rfl ?_
  refine V.iload_n dX6_addressByAdding_1 rfl ?_
  exact V.cX [_] rfl kc_X6_172 rfl dX6_addressByAdding_2 (by decide) rfl rfl (Nat.le_refl 1) (sp_X6_requireItemI h9 hx)
theorem sp_X6_targetOf {σ : JM} {x : Int} (h9 : σ 4 9 = 110) (hx : 0 ≤ x ∧ x < σ 2 6) (ht : jat σ 19 200 x ≠ -1) : JSp mX6_targetOf 10 0 [(2, 0), (0, x)] σ (jrv (jat σ 19 200 x) σ) (jno) := by
  refine JSp.of [(2, 0), (0, x), (9, 0)] rfl (by decide +kernel) rfl rfl rfl (fun l E hA => ?_)
  refine V.aload_n dX6_targetOf_0 rfl ?_
  refine V.iload_n dX6_targetOf_1 rfl ?_
  refine V.cV0 [_] rfl kc_X6_172 rfl dX6_targetOf_2 (by decide) rfl rfl (sp_X6_requireItem h9 hx) ?_
  refine V.aload_n dX6_targetOf_5 rfl ?_
  refine V.getR fa_X6_19 rfl dX6_targetOf_6 ?_
  refine V.iload_n dX6_targetOf_9 rfl ?_
  refine V.cV [_] rfl kc_X6_187 rfl dX6_targetOf_10 (by decide) rfl rfl (sp_X3_target) (fun _ => ?_)
  refine V.istore_n (L' := [_, _, _]) dX6_targetOf_13 rfl rfl ?_
  refine V.iload_n dX6_targetOf_14 rfl ?_
  refine V.iconst dX6_targetOf_15 ⟨by decide, by decide⟩ ?_
  refine V.icmp_ne (tgt := 29) dX6_targetOf_16 (by decide) (fun hh => ?_) (fun hh => ?_)
  · refine V.iload_n dX6_targetOf_29 rfl ?_
    exact V.iret (jret_i dX6_targetOf_30 rfl) ⟨rfl, rfl⟩
  · exact absurd hh ht
theorem sp_X6_targetOfN {σ : JM} {x : Int} (h9 : σ 4 9 ≠ 110) : JSp mX6_targetOf 10 1 [(2, 0), (0, x)] σ (jnr) (jxx "java/util/NoSuchElementException" σ) := by
  refine JSp.of [(2, 0), (0, x), (9, 0)] rfl (by decide +kernel) rfl rfl rfl (fun l E hA => ?_)
  refine V.aload_n dX6_targetOf_0 rfl ?_
  refine V.iload_n dX6_targetOf_1 rfl ?_
  exact V.cX [_] rfl kc_X6_172 rfl dX6_targetOf_2 (by decide) rfl rfl (Nat.le_refl 1) (sp_X6_requireItemN h9)
theorem sp_X6_targetOfI {σ : JM} {x : Int} (h9 : σ 4 9 = 110) (hx : ¬ (0 ≤ x ∧ x < σ 2 6)) : JSp mX6_targetOf 10 1 [(2, 0), (0, x)] σ (jnr) (jxx "java/lang/IndexOutOfBoundsException" σ) := by
  refine JSp.of [(2, 0), (0, x), (9, 0)] rfl (by decide +kernel) rfl rfl rfl (fun l E hA => ?_)
  refine V.aload_n dX6_targetOf_0 rfl ?_
  refine V.iload_n dX6_targetOf_1 rfl ?_
  exact V.cX [_] rfl kc_X6_172 rfl dX6_targetOf_2 (by decide) rfl rfl (Nat.le_refl 1) (sp_X6_requireItemI h9 hx)
theorem sp_X6_targetOfU {σ : JM} {x : Int} (h9 : σ 4 9 = 110) (hx : 0 ≤ x ∧ x < σ 2 6) (ht : jat σ 19 200 x = -1) : JSp mX6_targetOf 10 1 [(2, 0), (0, x)] σ (jnr) (jxx "java/lang/UnsupportedOperationException" σ) := by
  refine JSp.of [(2, 0), (0, x), (9, 0)] rfl (by decide +kernel) rfl rfl rfl (fun l E hA => ?_)
  refine V.aload_n dX6_targetOf_0 rfl ?_
  refine V.iload_n dX6_targetOf_1 rfl ?_
  refine V.cV0 [_] rfl kc_X6_172 rfl dX6_targetOf_2 (by decide) rfl rfl (sp_X6_requireItem h9 hx) ?_
  refine V.aload_n dX6_targetOf_5 rfl ?_
  refine V.getR fa_X6_19 rfl dX6_targetOf_6 ?_
  refine V.iload_n dX6_targetOf_9 rfl ?_
  refine V.cV [_] rfl kc_X6_187 rfl dX6_targetOf_10 (by decide) rfl rfl (sp_X3_target) (fun _ => ?_)
  refine V.istore_n (L' := [_, _, _]) dX6_targetOf_13 rfl rfl ?_
  refine V.iload_n dX6_targetOf_14 rfl ?_
  refine V.iconst dX6_targetOf_15 ⟨by decide, by decide⟩ ?_
  refine V.icmp_ne (tgt := 29) dX6_targetOf_16 (by decide) (fun hh => ?_) (fun hh => ?_)
  · exact absurd ht hh
  · exact V.throw tt_X6_targetOf_19 rfl (by decide) ⟨rfl, rfl⟩ dX6_targetOf_19 dX6_targetOf_22 dX6_targetOf_23 dX6_targetOf_25 dX6_targetOf_28
theorem sp_X6_loadedWordN {σ : JM} {x b : Int} (h9 : σ 4 9 ≠ 110) : JSp mX6_loadedWord 10 1 [(2, 0), (0, x), (0, b)] σ (jnr) (jxx "java/util/NoSuchElementException" σ) := by
  refine JSp.of [(2, 0), (0, x), (0, b)] rfl (by decide +kernel) rfl rfl rfl (fun l E hA => ?_)
  refine V.aload_n dX6_loadedWord_0 rfl ?_
  refine V.iload_n dX6_loadedWord_1 rfl ?_
  exact V.cX [_] rfl kc_X6_140 rfl dX6_loadedWord_2 (by decide) rfl rfl (Nat.le_refl 1) (sp_X6_requireWordN h9)
theorem sp_X6_loadedWordI {σ : JM} {x b : Int} (h9 : σ 4 9 = 110) (hx : ¬ (0 ≤ x ∧ x < σ 5 2)) : JSp mX6_loadedWord 10 1 [(2, 0), (0, x), (0, b)] σ (jnr) (jxx "java/lang/IndexOutOfBoundsException" σ) := by
  refine JSp.of [(2, 0), (0, x), (0, b)] rfl (by decide +kernel) rfl rfl rfl (fun l E hA => ?_)
  refine V.aload_n dX6_loadedWord_0 rfl ?_
  refine V.iload_n dX6_loadedWord_1 rfl ?_
  exact V.cX [_] rfl kc_X6_140 rfl dX6_loadedWord_2 (by decide) rfl rfl (Nat.le_refl 1) (sp_X6_requireWordI h9 hx)
theorem sp_X6_loadedWordA {σ : JM} {x b : Int} (h9 : σ 4 9 = 110) (hx : 0 ≤ x ∧ x < σ 5 2) (hb : ¬ (0 ≤ b ∧ b ≤ 9999)) : JSp mX6_loadedWord 10 1 [(2, 0), (0, x), (0, b)] σ (jnr) (jxx "java/lang/IllegalArgumentException" σ) := by
  refine JSp.of [(2, 0), (0, x), (0, b)] rfl (by decide +kernel) rfl rfl rfl (fun l E hA => ?_)
  refine V.aload_n dX6_loadedWord_0 rfl ?_
  refine V.iload_n dX6_loadedWord_1 rfl ?_
  refine V.cV0 [_] rfl kc_X6_140 rfl dX6_loadedWord_2 (by decide) rfl rfl (sp_X6_requireWord h9 hx) ?_
  refine V.iload_n dX6_loadedWord_5 rfl ?_
  refine V.if_lt (tgt := 16) dX6_loadedWord_6 (by decide) (fun h6 => ?_) (fun h6 => ?_)
  · exact V.throw tt_X6_loadedWord_16 rfl (by decide) ⟨rfl, rfl⟩ dX6_loadedWord_16 dX6_loadedWord_19 dX6_loadedWord_20 dX6_loadedWord_22 dX6_loadedWord_25
  · refine V.iload_n dX6_loadedWord_9 rfl ?_
    refine V.sipush dX6_loadedWord_10 ⟨by decide, by decide⟩ ?_
    refine V.icmp_le (tgt := 26) dX6_loadedWord_13 (by decide) (fun hh => ?_) (fun hh => ?_)
    · exact absurd hh (by omega)
    · exact V.throw tt_X6_loadedWord_16 rfl (by decide) ⟨rfl, rfl⟩ dX6_loadedWord_16 dX6_loadedWord_19 dX6_loadedWord_20 dX6_loadedWord_22 dX6_loadedWord_25
theorem sp_X6_loadedWord {σ : JM} {x b : Int} (h9 : σ 4 9 = 110) (hx : 0 ≤ x ∧ x < σ 5 2) (hb : 0 ≤ b ∧ b ≤ 9999) (hw : σ 5 2 ≤ 1400) (hv : 0 ≤ σ 29 x ∧ σ 29 x ≤ 100000) : JSp mX6_loadedWord 10 0 [(2, 0), (0, x), (0, b)] σ (jrv (if σ 30 x ≠ 0 then σ 29 x + b else σ 29 x) σ) (jno) := by
  have ej : jat σ 29 1400 x = σ 29 x := jat_in (by omega) (by omega)
  refine JSp.of [(2, 0), (0, x), (0, b)] rfl (by decide +kernel) rfl rfl rfl (fun l E hA => ?_)
  refine V.aload_n dX6_loadedWord_0 rfl ?_
  refine V.iload_n dX6_loadedWord_1 rfl ?_
  refine V.cV0 [_] rfl kc_X6_140 rfl dX6_loadedWord_2 (by decide) rfl rfl (sp_X6_requireWord h9 hx) ?_
  refine V.iload_n dX6_loadedWord_5 rfl ?_
  refine V.if_lt (tgt := 16) dX6_loadedWord_6 (by decide) (fun hh => ?_) (fun hh => ?_)
  · exact absurd hh (by omega)
  · refine V.iload_n dX6_loadedWord_9 rfl ?_
    refine V.sipush dX6_loadedWord_10 ⟨by decide, by decide⟩ ?_
    refine V.icmp_le (tgt := 26) dX6_loadedWord_13 (by decide) (fun hh => ?_) (fun hh => ?_)
    · refine V.aload_n dX6_loadedWord_26 rfl ?_
      refine V.getR fa_X6_44 rfl dX6_loadedWord_27 ?_
      refine V.iload_n dX6_loadedWord_30 rfl ?_
      refine V.cV [_] rfl kc_X6_153 rfl dX6_loadedWord_31 (by decide) rfl rfl (sp_X2_holdsAddress hw) (fun _ => ?_)
      refine V.if_eq (tgt := 50) dX6_loadedWord_34 (by decide) (fun h34 => ?_) (fun h34 => ?_)
      · refine V.aload_n dX6_loadedWord_50 rfl ?_
        refine V.getR fa_X6_44 rfl dX6_loadedWord_51 ?_
        refine V.iload_n dX6_loadedWord_54 rfl ?_
        refine V.cV [_] rfl kc_X6_144 rfl dX6_loadedWord_55 (by decide) rfl rfl (sp_X2_wordOf) (fun _ => ?_)
        rw [ej]
        exact V.iret (jret_i dX6_loadedWord_58 rfl) ⟨jsm (by (try simp only [jb0, jb1] at h34); split <;> first | rfl | omega), rfl⟩
      · refine V.aload_n dX6_loadedWord_37 rfl ?_
        refine V.getR fa_X6_44 rfl dX6_loadedWord_38 ?_
        refine V.iload_n dX6_loadedWord_41 rfl ?_
        refine V.cV [_] rfl kc_X6_144 rfl dX6_loadedWord_42 (by decide) rfl rfl (sp_X2_wordOf) (fun _ => ?_)
        rw [ej]
        refine V.iload_n dX6_loadedWord_45 rfl ?_
        refine V.iadd dX6_loadedWord_46 ⟨(by omega), (by omega)⟩ ?_
        refine V.goto (tgt := 58) dX6_loadedWord_47 (by decide) ?_
        exact V.iret (jret_i dX6_loadedWord_58 rfl) ⟨jsm (by (try simp only [jb0, jb1] at h34); split <;> first | rfl | omega), rfl⟩
    · exact absurd hh (by omega)
theorem sp_X6_labelAddressN {σ : JM} {x : Int} (h9 : σ 4 9 ≠ 110) : JSp mX6_labelAddress 9 1 [(2, 0), (0, x)] σ (jnr) (jxx "java/util/NoSuchElementException" σ) := by
  refine JSp.of [(2, 0), (0, x), (9, 0)] rfl (by decide +kernel) rfl rfl rfl (fun l E hA => ?_)
  refine V.aload_n dX6_labelAddress_0 rfl ?_
  exact V.cX [] rfl kc_X6_137 rfl dX6_labelAddress_1 (by decide) rfl rfl (Nat.le_refl 1) (sp_X6_requireProgramN h9)
theorem sp_X6_labelAddressU {σ : JM} {x : Int} (h9 : σ 4 9 = 110) (hl : jlb σ 0 x = -1) : JSp mX6_labelAddress 9 1 [(2, 0), (0, x)] σ (jnr) (jxx "java/util/NoSuchElementException" σ) := by
  refine JSp.of [(2, 0), (0, x), (9, 0)] rfl (by decide +kernel) rfl rfl rfl (fun l E hA => ?_)
  refine V.aload_n dX6_labelAddress_0 rfl ?_
  refine V.cV0 [] rfl kc_X6_137 rfl dX6_labelAddress_1 (by decide) rfl rfl (sp_X6_requireProgram h9) ?_
  refine V.aload_n dX6_labelAddress_4 rfl ?_
  refine V.getR fa_X6_28 rfl dX6_labelAddress_5 ?_
  refine V.iconst dX6_labelAddress_8 ⟨by decide, by decide⟩ ?_
  refine V.iload_n dX6_labelAddress_9 rfl ?_
  refine V.cV [_, _] rfl kc_X6_156 rfl dX6_labelAddress_10 (by decide) rfl rfl (sp_X4_labelIn (by decide) (by decide)) (fun _ => ?_)
  refine V.istore_n (L' := [_, _, _]) dX6_labelAddress_13 rfl rfl ?_
  refine V.iload_n dX6_labelAddress_14 rfl ?_
  refine V.iconst dX6_labelAddress_15 ⟨by decide, by decide⟩ ?_
  refine V.icmp_ne (tgt := 29) dX6_labelAddress_16 (by decide) (fun hh => ?_) (fun hh => ?_)
  · exact absurd hl hh
  · exact V.throwN tt_X6_labelAddress_19 rfl (by decide) ⟨rfl, rfl⟩ dX6_labelAddress_19 dX6_labelAddress_22 dX6_labelAddress_23 dX6_labelAddress_25 dX6_labelAddress_28
theorem sp_X6_labelAddress {σ : JM} {x : Int} (h9 : σ 4 9 = 110) (hl : jlb σ 0 x ≠ -1) : JSp mX6_labelAddress 9 0 [(2, 0), (0, x)] σ (jrv (jat σ 20 200 (jlb σ 0 x)) σ) (jno) := by
  refine JSp.of [(2, 0), (0, x), (9, 0)] rfl (by decide +kernel) rfl rfl rfl (fun l E hA => ?_)
  refine V.aload_n dX6_labelAddress_0 rfl ?_
  refine V.cV0 [] rfl kc_X6_137 rfl dX6_labelAddress_1 (by decide) rfl rfl (sp_X6_requireProgram h9) ?_
  refine V.aload_n dX6_labelAddress_4 rfl ?_
  refine V.getR fa_X6_28 rfl dX6_labelAddress_5 ?_
  refine V.iconst dX6_labelAddress_8 ⟨by decide, by decide⟩ ?_
  refine V.iload_n dX6_labelAddress_9 rfl ?_
  refine V.cV [_, _] rfl kc_X6_156 rfl dX6_labelAddress_10 (by decide) rfl rfl (sp_X4_labelIn (by decide) (by decide)) (fun _ => ?_)
  refine V.istore_n (L' := [_, _, _]) dX6_labelAddress_13 rfl rfl ?_
  refine V.iload_n dX6_labelAddress_14 rfl ?_
  refine V.iconst dX6_labelAddress_15 ⟨by decide, by decide⟩ ?_
  refine V.icmp_ne (tgt := 29) dX6_labelAddress_16 (by decide) (fun hh => ?_) (fun hh => ?_)
  · refine V.aload_n dX6_labelAddress_29 rfl ?_
    refine V.getR fa_X6_19 rfl dX6_labelAddress_30 ?_
    refine V.iload_n dX6_labelAddress_33 rfl ?_
    refine V.cV [_] rfl kc_X6_162 rfl dX6_labelAddress_34 (by decide) rfl rfl (sp_X3_addressAt) (fun _ => ?_)
    exact V.iret (jret_i dX6_labelAddress_37 rfl) ⟨rfl, rfl⟩
  · exact absurd hh hl
theorem sp_X6_shortShareN {σ : JM} (h9 : σ 4 9 ≠ 110) : JSp mX6_shortShare 9 1 [(2, 0)] σ (jnr) (jxx "java/util/NoSuchElementException" σ) := by
  refine JSp.of [(2, 0), (9, 0), (9, 0)] rfl (by decide +kernel) rfl rfl rfl (fun l E hA => ?_)
  refine V.aload_n dX6_shortShare_0 rfl ?_
  exact V.cX [] rfl kc_X6_137 rfl dX6_shortShare_1 (by decide) rfl rfl (Nat.le_refl 1) (sp_X6_requireProgramN h9)
theorem sp_X6_shortShareA {σ : JM} (h9 : σ 4 9 = 110) (hn : 0 ≤ σ 2 6 ∧ σ 2 6 ≤ 200) (hz : jcnt σ 106 (σ 2 6) + jcnt σ 74 (σ 2 6) = 0) : JSp mX6_shortShare 9 1 [(2, 0)] σ (jnr) (jxx "java/lang/ArithmeticException" σ) := by
  have s1 := jcnt_le (σ := σ) (k := 106) hn.1
  have s2 := jcnt_le (σ := σ) (k := 74) hn.1
  refine JSp.of [(2, 0), (9, 0), (9, 0)] rfl (by decide +kernel) rfl rfl rfl (fun l E hA => ?_)
  refine V.aload_n dX6_shortShare_0 rfl ?_
  refine V.cV0 [] rfl kc_X6_137 rfl dX6_shortShare_1 (by decide) rfl rfl (sp_X6_requireProgram h9) ?_
  refine V.aload_n dX6_shortShare_4 rfl ?_
  refine V.getR fa_X6_19 rfl dX6_shortShare_5 ?_
  refine V.bipush dX6_shortShare_8 ⟨by decide, by decide⟩ ?_
  refine V.cV [_] rfl kc_X6_168 rfl dX6_shortShare_10 (by decide) rfl rfl (sp_X3_countKind hn.1 hn.2) (fun _ => ?_)
  refine V.istore_n (L' := [_, _, _]) dX6_shortShare_13 rfl rfl ?_
  refine V.iload_n dX6_shortShare_14 rfl ?_
  refine V.aload_n dX6_shortShare_15 rfl ?_
  refine V.getR fa_X6_19 rfl dX6_shortShare_16 ?_
  refine V.bipush dX6_shortShare_19 ⟨by decide, by decide⟩ ?_
  refine V.cV [_] rfl kc_X6_168 rfl dX6_shortShare_21 (by decide) rfl rfl (sp_X3_countKind hn.1 hn.2) (fun _ => ?_)
  refine V.iadd dX6_shortShare_24 ⟨(by omega), (by omega)⟩ ?_
  refine V.istore_n (L' := [_, _, _]) dX6_shortShare_25 rfl rfl ?_
  refine V.iload_n dX6_shortShare_26 rfl ?_
  refine V.if_ne (tgt := 40) dX6_shortShare_27 (by decide) (fun hh => ?_) (fun hh => ?_)
  · exact absurd hz hh
  · exact V.throw tt_X6_shortShare_30 rfl (by decide) ⟨rfl, rfl⟩ dX6_shortShare_30 dX6_shortShare_33 dX6_shortShare_34 dX6_shortShare_36 dX6_shortShare_39
theorem sp_X6_shortShare {σ : JM} (h9 : σ 4 9 = 110) (hn : 0 ≤ σ 2 6 ∧ σ 2 6 ≤ 199 + 1) (hz : jcnt σ 106 (σ 2 6) + jcnt σ 74 (σ 2 6) ≠ 0) (h4 : jcnt σ 106 (σ 2 6) + jcnt σ 74 (σ 2 6) < 400) : JSp mX6_shortShare 9 0 [(2, 0)] σ (fun v t => v = some (4, jFd (jcnt σ 106 (σ 2 6)) (jcnt σ 106 (σ 2 6) + jcnt σ 74 (σ 2 6))) ∧ t = σ) (jno) := by
  have s1 := jcnt_le (σ := σ) (k := 106) hn.1
  have s2 := jcnt_le (σ := σ) (k := 74) hn.1
  refine JSp.of [(2, 0), (9, 0), (9, 0)] rfl (by decide +kernel) rfl rfl rfl (fun l E hA => ?_)
  refine V.aload_n dX6_shortShare_0 rfl ?_
  refine V.cV0 [] rfl kc_X6_137 rfl dX6_shortShare_1 (by decide) rfl rfl (sp_X6_requireProgram h9) ?_
  refine V.aload_n dX6_shortShare_4 rfl ?_
  refine V.getR fa_X6_19 rfl dX6_shortShare_5 ?_
  refine V.bipush dX6_shortShare_8 ⟨by decide, by decide⟩ ?_
  refine V.cV [_] rfl kc_X6_168 rfl dX6_shortShare_10 (by decide) rfl rfl (sp_X3_countKind hn.1 (by omega)) (fun _ => ?_)
  refine V.istore_n (L' := [_, _, _]) dX6_shortShare_13 rfl rfl ?_
  refine V.iload_n dX6_shortShare_14 rfl ?_
  refine V.aload_n dX6_shortShare_15 rfl ?_
  refine V.getR fa_X6_19 rfl dX6_shortShare_16 ?_
  refine V.bipush dX6_shortShare_19 ⟨by decide, by decide⟩ ?_
  refine V.cV [_] rfl kc_X6_168 rfl dX6_shortShare_21 (by decide) rfl rfl (sp_X3_countKind hn.1 (by omega)) (fun _ => ?_)
  refine V.iadd dX6_shortShare_24 ⟨(by omega), (by omega)⟩ ?_
  refine V.istore_n (L' := [_, _, _]) dX6_shortShare_25 rfl rfl ?_
  refine V.iload_n dX6_shortShare_26 rfl ?_
  refine V.if_ne (tgt := 40) dX6_shortShare_27 (by decide) (fun hh => ?_) (fun hh => ?_)
  · refine V.iload_n dX6_shortShare_40 rfl ?_
    refine V.i2f dX6_shortShare_41 ?_
    refine V.iload_n dX6_shortShare_42 rfl ?_
    refine V.i2f dX6_shortShare_43 ?_
    refine V.fdiv dX6_shortShare_44 (by rw [jF_u, jF_u]; exact nn_fdiv ⟨s1.1, by omega⟩ ⟨by omega, by omega⟩) ?_
    rw [jF_u, jF_u]
    exact V.fret ⟨dX6_shortShare_45, rfl⟩ ⟨rfl, rfl⟩
  · exact absurd hh hz
theorem sp_X6_fault {σ : JM} (h : σ 4 9 ≠ 0) (hc : 0 ≤ σ 4 9 ∧ σ 4 9 < 65536) : JSp mX6_fault 8 0 [(2, 0)] σ (jrv (σ 4 9) σ) (jno) := by
  refine JSp.of [(2, 0)] rfl (by decide +kernel) rfl rfl rfl (fun l E hA => ?_)
  refine V.aload_n dX6_fault_0 rfl ?_
  refine V.getR fa_X6_37 rfl dX6_fault_1 ?_
  refine V.cV [] rfl kc_X6_104 rfl dX6_fault_4 (by decide) rfl rfl (sp_X1_faultKind) (fun _ => ?_)
  refine V.if_ne (tgt := 20) dX6_fault_7 (by decide) (fun hh => ?_) (fun hh => ?_)
  · refine V.aload_n dX6_fault_20 rfl ?_
    refine V.getR fa_X6_37 rfl dX6_fault_21 ?_
    refine V.cV [] rfl kc_X6_104 rfl dX6_fault_24 (by decide) rfl rfl (sp_X1_faultKind) (fun _ => ?_)
    refine V.i2c dX6_fault_27 (hc.1) (hc.2) ?_
    exact V.iret (jret_c dX6_fault_28 rfl (hc.1) (hc.2)) ⟨rfl, rfl⟩
  · exact absurd hh h
theorem sp_X6_faultN {σ : JM} (h : σ 4 9 = 0) : JSp mX6_fault 8 1 [(2, 0)] σ (jnr) (jxx "java/util/NoSuchElementException" σ) := by
  refine JSp.of [(2, 0)] rfl (by decide +kernel) rfl rfl rfl (fun l E hA => ?_)
  refine V.aload_n dX6_fault_0 rfl ?_
  refine V.getR fa_X6_37 rfl dX6_fault_1 ?_
  refine V.cV [] rfl kc_X6_104 rfl dX6_fault_4 (by decide) rfl rfl (sp_X1_faultKind) (fun _ => ?_)
  refine V.if_ne (tgt := 20) dX6_fault_7 (by decide) (fun hh => ?_) (fun hh => ?_)
  · exact absurd h hh
  · exact V.throwN tt_X6_fault_10 rfl (by decide) ⟨rfl, rfl⟩ dX6_fault_10 dX6_fault_13 dX6_fault_14 dX6_fault_16 dX6_fault_19
theorem sp_X6_faultLine {σ : JM} (h : σ 4 9 ≠ 0) (h1 : σ 4 9 ≠ 110) : JSp mX6_faultLine 8 0 [(2, 0)] σ (jrv (σ 4 10) σ) (jno) := by
  refine JSp.of [(2, 0), (9, 0)] rfl (by decide +kernel) rfl rfl rfl (fun l E hA => ?_)
  refine V.aload_n dX6_faultLine_0 rfl ?_
  refine V.getR fa_X6_37 rfl dX6_faultLine_1 ?_
  refine V.cV [] rfl kc_X6_104 rfl dX6_faultLine_4 (by decide) rfl rfl (sp_X1_faultKind) (fun _ => ?_)
  refine V.istore_n (L' := [_, _]) dX6_faultLine_7 rfl rfl ?_
  refine V.iload_n dX6_faultLine_8 rfl ?_
  refine V.if_eq (tgt := 18) dX6_faultLine_9 (by decide) (fun hh => ?_) (fun hh => ?_)
  · exact absurd hh h
  · refine V.iload_n dX6_faultLine_12 rfl ?_
    refine V.bipush dX6_faultLine_13 ⟨by decide, by decide⟩ ?_
    refine V.icmp_ne (tgt := 28) dX6_faultLine_15 (by decide) (fun hh => ?_) (fun hh => ?_)
    · refine V.aload_n dX6_faultLine_28 rfl ?_
      refine V.getR fa_X6_37 rfl dX6_faultLine_29 ?_
      refine V.cV [] rfl kc_X6_118 rfl dX6_faultLine_32 (by decide) rfl rfl (sp_X1_lineOfFault) (fun _ => ?_)
      exact V.iret (jret_i dX6_faultLine_35 rfl) ⟨rfl, rfl⟩
    · exact absurd hh h1
theorem sp_X6_faultLineN {σ : JM} (h : σ 4 9 = 0 ∨ σ 4 9 = 110) : JSp mX6_faultLine 8 1 [(2, 0)] σ (jnr) (jxx "java/util/NoSuchElementException" σ) := by
  refine JSp.of [(2, 0), (9, 0)] rfl (by decide +kernel) rfl rfl rfl (fun l E hA => ?_)
  refine V.aload_n dX6_faultLine_0 rfl ?_
  refine V.getR fa_X6_37 rfl dX6_faultLine_1 ?_
  refine V.cV [] rfl kc_X6_104 rfl dX6_faultLine_4 (by decide) rfl rfl (sp_X1_faultKind) (fun _ => ?_)
  refine V.istore_n (L' := [_, _]) dX6_faultLine_7 rfl rfl ?_
  refine V.iload_n dX6_faultLine_8 rfl ?_
  refine V.if_eq (tgt := 18) dX6_faultLine_9 (by decide) (fun h9 => ?_) (fun h9 => ?_)
  · exact V.throwN tt_X6_faultLine_18 rfl (by decide) ⟨rfl, rfl⟩ dX6_faultLine_18 dX6_faultLine_21 dX6_faultLine_22 dX6_faultLine_24 dX6_faultLine_27
  · refine V.iload_n dX6_faultLine_12 rfl ?_
    refine V.bipush dX6_faultLine_13 ⟨by decide, by decide⟩ ?_
    refine V.icmp_ne (tgt := 28) dX6_faultLine_15 (by decide) (fun hh => ?_) (fun hh => ?_)
    · exact absurd h (by omega)
    · exact V.throwN tt_X6_faultLine_18 rfl (by decide) ⟨rfl, rfl⟩ dX6_faultLine_18 dX6_faultLine_21 dX6_faultLine_22 dX6_faultLine_24 dX6_faultLine_27
theorem sp_X6_callN {σ : JM} {a b c : Int} (h8 : 0 ≤ σ 1 8 ∧ σ 1 8 ≤ 8) (ha : ¬ jended σ a) : JSp mX6_call 10 1 [(2, 0), (0, a), (0, b), (0, c)] σ (jnr) (jxx "java/util/NoSuchElementException" σ) := by
  refine JSp.of [(2, 0), (0, a), (0, b), (0, c)] rfl (by decide +kernel) rfl rfl rfl (fun l E hA => ?_)
  refine V.aload_n dX6_call_0 rfl ?_
  refine V.getR fa_X6_12 rfl dX6_call_1 ?_
  refine V.iload_n dX6_call_4 rfl ?_
  refine V.cV [_] rfl kc_X6_70 rfl dX6_call_5 (by decide) rfl rfl (sp_X5_isEndedMacro h8) (fun _ => ?_)
  rw [if_neg ha]
  refine V.if_ne (tgt := 21) dX6_call_8 (by decide) (fun hh => ?_) (fun hh => ?_)
  · exact absurd hh (by decide)
  · exact V.throwN tt_X6_call_11 rfl (by decide) ⟨rfl, rfl⟩ dX6_call_11 dX6_call_14 dX6_call_15 dX6_call_17 dX6_call_20
