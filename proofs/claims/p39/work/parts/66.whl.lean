theorem ord_self {f : FP.Core.Fmt} (h : jfm f) {n : Nat} (hn : n ≤ (f.exps - 1) * f.tails) : FP.Core.cmp f n n = some .eq := by
  unfold FP.Core.cmp
  have c : ∀ x : Int, compare x x = Ordering.eq := fun x => by simp [compare, compareOfLessAndEq]
  rcases fd_sign h hn with ⟨c1, q1, e⟩ | e
  · rw [e]; exact congrArg some (c _)
  · rw [e]; exact congrArg some (c _)
theorem fdiv_b {a b : Int} (ha : 0 ≤ a ∧ a ≤ 400) (hb : 0 < b ∧ b < 400) : (FP.fdiv (FP.i2f (jI a)) (FP.i2f (jI b))).toNat ≤ (FP.Core.b32.exps - 1) * FP.Core.b32.tails := by
  have ea := fe_int jfm32 (i := a) ha.1
  have eb := fe_int jfm32 (i := b) (by omega)
  show (UInt32.ofNat (FP.Core.div FP.Core.b32 (UInt32.ofNat (FP.Core.fromInt FP.Core.b32 (jI a).toInt)).toNat (UInt32.ofNat (FP.Core.fromInt FP.Core.b32 (jI b).toInt)).toNat)).toNat ≤ _
  rw [jI_toInt ⟨by omega, by omega⟩, jI_toInt ⟨by omega, by omega⟩, fit_32 ea, fit_32 eb]
  have q := fe_quot jfm32 (x := FP.Core.fromInt FP.Core.b32 a) (y := FP.Core.fromInt FP.Core.b32 b) ea (fgood_ok (by
    have z := List.all_eq_true.mp ints32 b.toNat (List.mem_range.mpr (by omega))
    rw [show ((b.toNat : Nat) : Int) = b by omega] at z
    simpa [show ¬ b.toNat = 0 by omega] using z))
  rw [fit_32 q]; exact q
theorem jFd_c {a b : Int} (ha : 0 ≤ a ∧ a ≤ 400) (hb : 0 < b ∧ b < 400) : (Op.cmpValue (FP.fcmp (jF (jFd a b)) (jF (jFd a b))) .l).toInt = 0 := by
  have h : FP.fcmp (jF (jFd a b)) (jF (jFd a b)) = some .eq := by
    unfold jFd
    rw [jF_u]
    exact ord_self jfm32 (fdiv_b ha hb)
  rw [h]; decide +kernel
theorem fc74 : (Op.cmpValue (FP.fcmp (jF 3264479232) (jF 3264479232)) .l).toInt = 0 := by decide +kernel
/-! ===== what is true of a program that was assembled without a fault, item by item ===== -/
def jAd (σ : JM) (i : Int) : Int := jad (σ 16) (σ 18) i
theorem jWh.n9 {σ : JM} (h : jWh σ) : σ 4 9 = 110 := h.1.1
theorem jWh.n {σ : JM} (h : jWh σ) : 0 ≤ σ 2 6 ∧ σ 2 6 ≤ 200 := h.2.1
theorem jWh.lo {σ : JM} (h : jWh σ) : jlok (σ 16) (σ 18) (σ 19) (σ 2 6) := h.2.2.1
theorem jWh.ad {σ : JM} (h : jWh σ) {x : Int} (hx : 0 ≤ x ∧ x < σ 2 6) : σ 20 x = jAd σ x := h.2.2.2.1 x hx.1 hx.2
theorem jWh.w {σ : JM} (h : jWh σ) : σ 5 2 = jAd σ (σ 2 6) := h.2.2.2.2.1
theorem jWh.it {σ : JM} (h : jWh σ) {i : Int} (hi : 0 ≤ i ∧ i < σ 2 6) : (jref (σ 16 i) → σ 16 (σ 19 i) = 108) ∧ (¬ jref (σ 16 i) → σ 19 i = -1) ∧ (σ 16 i = 106 → -8 ≤ jds (σ 19) (σ 18) (σ 16) i ∧ jds (σ 19) (σ 18) (σ 16) i ≤ 7) ∧ 0 ≤ σ 15 i ∧ 0 ≤ σ 17 i := h.2.2.2.2.2.2.1 i hi.1 hi.2
theorem jWh.wd {σ : JM} (h : jWh σ) {b : Int} (hb : 0 ≤ b ∧ b < σ 5 2) : σ 29 b = jFN (σ 16) (σ 18) (σ 19) (σ 2 6).toNat b ∧ σ 30 b = jGN (σ 16) (σ 18) (σ 2 6).toNat b := h.2.2.2.2.2.2.2.1.1 b hb.1 hb.2
theorem jWh.rel {σ : JM} (h : jWh σ) : σ 5 3 = jsum (jGN (σ 16) (σ 18) (σ 2 6).toNat) (σ 5 2) := h.2.2.2.2.2.2.2.1.2
theorem jWh.w1 {σ : JM} (h : jWh σ) : 0 ≤ σ 5 2 ∧ σ 5 2 ≤ 1400 := by
  have := jad_b (K := σ 16) (v := σ 18) (N := σ 2 6) (fun i i0 i1 => (h.lo.2.2 i i0 i1).1) h.n.1 (Int.le_refl _)
  have e : σ 5 2 = jad (σ 16) (σ 18) (σ 2 6) := h.w
  have := h.n
  omega
theorem jWh.b {σ : JM} (h : jWh σ) {i : Int} (hi : 0 ≤ i ∧ i < σ 2 6) : 0 ≤ jAd σ i ∧ jAd σ i ≤ jAd σ (i + 1) ∧ jAd σ (i + 1) ≤ σ 5 2 := by
  refine ⟨(jad_b (K := σ 16) (v := σ 18) (N := σ 2 6) (fun i i0 i1 => (h.lo.2.2 i i0 i1).1) hi.1 (by omega)).1, jad_m h.lo hi.1 (by omega) (by omega), ?_⟩
  rw [h.w]
  exact jad_m h.lo (by omega) (by omega) (Int.le_refl _)
theorem jWh.st {σ : JM} (_ : jWh σ) {i : Int} (hi : 0 ≤ i ∧ i < σ 2 6) : jAd σ (i + 1) = jAd σ i + jtk (σ 16 i) (σ 18 i) (jAd σ i) := jad_s _ _ hi.1
theorem jWh.at {σ : JM} (h : jWh σ) {i : Int} (hi : 0 ≤ i ∧ i < σ 2 6) {b : Int} (b0 : jAd σ i ≤ b) (b1 : b < jAd σ (i + 1)) : σ 29 b = jwv (σ 16) (σ 18) (σ 19) i (b - jAd σ i) := by
  have hb := h.b hi
  have := h.n
  rw [(h.wd ⟨by omega, by omega⟩).1, (jFN_at h.lo hi.1 (σ 2 6).toNat (by omega) (by omega) b b0 b1).1]
  rfl
theorem wf_108 {σ : JM} (h : jWh σ) {i : Int} (hi : 0 ≤ i ∧ i < σ 2 6) (hk : σ 16 i = 108) : jAd σ (i + 1) = jAd σ i := by
  rw [h.st hi, hk, show jtk 108 (σ 18 i) (jAd σ i) = 0 from rfl, Int.add_zero]
theorem wf_1 {σ : JM} (h : jWh σ) {i : Int} (hi : 0 ≤ i ∧ i < σ 2 6) (hk : σ 16 i = 119 ∨ σ 16 i = 111 ∨ σ 16 i = 106 ∨ σ 16 i = 97) : jAd σ (i + 1) = jAd σ i + 1 := by
  rw [h.st hi]
  rcases hk with hk | hk | hk | hk <;> rw [hk] <;> rfl
theorem wf_74 {σ : JM} (h : jWh σ) {i : Int} (hi : 0 ≤ i ∧ i < σ 2 6) (hk : σ 16 i = 74) : jAd σ (i + 1) = jAd σ i + 2 ∧ σ 29 (jAd σ i) = 20000 ∧ σ 29 (jAd σ i + 1) = jAd σ (σ 19 i) := by
  have e : jAd σ (i + 1) = jAd σ i + 2 := by rw [h.st hi, hk]; rfl
  refine ⟨e, ?_, ?_⟩
  · rw [h.at hi (Int.le_refl _) (by omega)]
    unfold jwv
    rw [hk, show jAd σ i - jAd σ i = 0 by omega]; rfl
  · rw [h.at hi (by omega) (by omega)]
    unfold jwv
    rw [hk, show jAd σ i + 1 - jAd σ i = 1 by omega]; rfl
theorem wf_106 {σ : JM} (h : jWh σ) {i : Int} (hi : 0 ≤ i ∧ i < σ 2 6) (hk : σ 16 i = 106) : σ 29 (jAd σ i) = 10007 + jAd σ (σ 19 i) - jAd σ i ∧ (-8 ≤ jAd σ (σ 19 i) - jAd σ i - 1 ∧ jAd σ (σ 19 i) - jAd σ i - 1 ≤ 7) := by
  have e := wf_1 h hi (by omega)
  refine ⟨?_, (h.it hi).2.2.1 hk⟩
  rw [h.at hi (Int.le_refl _) (by omega)]
  have : jwv (σ 16) (σ 18) (σ 19) i (jAd σ i - jAd σ i) = 10008 + (jAd σ (σ 19 i) - jAd σ i - 1) := by
    unfold jwv
    rw [hk]; rfl
  omega
theorem wf_97 {σ : JM} (h : jWh σ) {i : Int} (hi : 0 ≤ i ∧ i < σ 2 6) (hk : σ 16 i = 97) : σ 29 (jAd σ i) = jAd σ (σ 19 i) := by
  have e := wf_1 h hi (by omega)
  rw [h.at hi (Int.le_refl _) (by omega)]
  unfold jwv
  rw [hk]; rfl
theorem wf_103 {σ : JM} (h : jWh σ) {i : Int} (hi : 0 ≤ i ∧ i < σ 2 6) (hk : σ 16 i = 103) : jAd σ (i + 1) - jAd σ i < 8 ∧ ∀ b, jAd σ i ≤ b → b < jAd σ (i + 1) → σ 29 b = 0 := by
  refine ⟨?_, fun b b0 b1 => ?_⟩
  · have := jtk_le (k := σ 16 i) (v := σ 18 i) (h.lo.2.2 i hi.1 hi.2).1 (h.b hi).1
    rw [h.st hi]; omega
  · rw [h.at hi b0 b1]
    unfold jwv
    rw [hk]; rfl
theorem wf_t {σ : JM} (h : jWh σ) {i : Int} (hi : 0 ≤ i ∧ i < σ 2 6) (hk : σ 16 i = 106 ∨ σ 16 i = 74 ∨ σ 16 i = 97) : (0 ≤ σ 19 i ∧ σ 19 i < σ 2 6) ∧ σ 16 (σ 19 i) = 108 := ⟨(h.lo.2.2 i hi.1 hi.2).2.1 hk, (h.it hi).1 hk⟩
theorem wf_u {σ : JM} (h : jWh σ) {i : Int} (hi : 0 ≤ i ∧ i < σ 2 6) (hk : ¬ (σ 16 i = 106 ∨ σ 16 i = 74 ∨ σ 16 i = 97)) : σ 19 i = -1 := (h.it hi).2.1 hk
theorem wf_k {σ : JM} (h : jWh σ) {i : Int} (hi : 0 ≤ i ∧ i < σ 2 6) : σ 16 i = 108 ∨ σ 16 i = 119 ∨ σ 16 i = 111 ∨ σ 16 i = 106 ∨ σ 16 i = 74 ∨ σ 16 i = 97 ∨ σ 16 i = 103 := (h.lo.2.2 i hi.1 hi.2).2.2.1
theorem ws_words {σ : JM} (h : jWh σ) : jAn mL_words 10 0 [(2, 0)] σ 0 (σ 5 2) := aq_words.eq (if_pos h.n9) (if_pos h.n9)
theorem ws_items {σ : JM} (h : jWh σ) : jAn mL_items 10 0 [(2, 0)] σ 0 (σ 2 6) := aq_items.eq (if_pos h.n9) (if_pos h.n9)
theorem ws_addressOf {σ : JM} (h : jWh σ) {x : Int} (hx : 0 ≤ x ∧ x < σ 2 6) : jAn mL_addressOf 11 0 [(2, 0), (0, x)] σ 0 (jAd σ x) := (aw_addressOf h.n9 hx h.n.2).eq (h.ad hx) rfl
theorem ws_adding {σ : JM} (h : jWh σ) {x : Int} (hx : 0 ≤ x ∧ x < σ 2 6) : jAn mL_addressByAdding 11 0 [(2, 0), (0, x)] σ 0 (jAd σ x) := aw_addressByAdding h.n9 hx h.n.2 (fun i i0 i1 => (h.lo.2.2 i i0 i1).1)
theorem ws_kind {σ : JM} (h : jWh σ) {x k : Int} (hx : 0 ≤ x ∧ x < σ 2 6) (hk : σ 16 x = k) : jAn mL_kindOf 11 0 [(2, 0), (0, x)] σ 0 k := (aw_kindOf h.n9 hx h.n.2 (by have := wf_k h hx; omega)).eq hk rfl
theorem ws_line {σ : JM} (h : jWh σ) {x : Int} (hx : 0 ≤ x ∧ x < σ 2 6) : jAn mL_lineOf 11 0 [(2, 0), (0, x)] σ 0 (σ 15 x) := aw_lineOf h.n9 hx h.n.2
theorem ws_depth {σ : JM} (h : jWh σ) {x : Int} (hx : 0 ≤ x ∧ x < σ 2 6) : jAn mL_depthOf 11 0 [(2, 0), (0, x)] σ 0 (σ 17 x) := aw_depthOf h.n9 hx h.n.2
theorem ws_word {σ : JM} (h : jWh σ) {x : Int} (hx : 0 ≤ x ∧ x < σ 5 2) : jAn mL_wordAt 11 0 [(2, 0), (0, x)] σ 0 (σ 29 x) := aw_wordAt h.n9 hx h.w1.2
theorem ws_target {σ : JM} (h : jWh σ) {x : Int} (hx : 0 ≤ x ∧ x < σ 2 6) (hk : σ 16 x = 106 ∨ σ 16 x = 74 ∨ σ 16 x = 97) : jAn mL_targetOf 11 0 [(2, 0), (0, x)] σ 0 (σ 19 x) := aw_targetOf h.n9 hx h.n.2 (by have := wf_t h hx hk; omega)
theorem ws_targetU {σ : JM} (h : jWh σ) {x : Int} (hx : 0 ≤ x ∧ x < σ 2 6) (hk : ¬ (σ 16 x = 106 ∨ σ 16 x = 74 ∨ σ 16 x = 97)) : jAn mL_targetOf 11 1 [(2, 0), (0, x)] σ 0 (-76) := aw_targetOfU h.n9 hx h.n.2 (wf_u h hx hk)
/-- how many jumps ahead of an item -/
def jmpn (σ : JM) (i : Int) : Int := jcnt σ 106 i + jcnt σ 74 i
def jlgn (σ : JM) (i : Int) : Int := jcnt σ 74 i
theorem jlgn_s {σ : JM} {i : Int} (i0 : 0 ≤ i) : jlgn σ (i + 1) = jlgn σ i + (if σ 16 i = 74 then 1 else 0) := jsum_s _ i0
theorem jmpn_s {σ : JM} {i : Int} (i0 : 0 ≤ i) : jmpn σ (i + 1) = jmpn σ i + ((if σ 16 i = 106 then 1 else 0) + (if σ 16 i = 74 then 1 else 0)) := by
  have h1 : jcnt σ 106 (i + 1) = jcnt σ 106 i + (if σ 16 i = 106 then 1 else 0) := jsum_s _ i0
  have h2 : jcnt σ 74 (i + 1) = jcnt σ 74 i + (if σ 16 i = 74 then 1 else 0) := jsum_s _ i0
  unfold jmpn
  omega
theorem jmpn_b {σ : JM} {i : Int} (i0 : 0 ≤ i) : (0 ≤ jlgn σ i ∧ jlgn σ i ≤ i) ∧ jlgn σ i ≤ jmpn σ i ∧ jmpn σ i ≤ 2 * i := by
  have h1 := jcnt_le (σ := σ) (k := 106) i0
  have h2 := jcnt_le (σ := σ) (k := 74) i0
  unfold jmpn jlgn
  omega
section ISW
variable {l : Launch} {E : JE} {nn : Nat} {Qr : Option JV → JM → Prop} {σ : JM} {i : Int} {l8 l9 l10 l11 l12 l13 : JV}
/-- the loop over the items -/
def jWL (l : Launch) (E : JE) (Qr : Option JV → JM → Prop) (σ : JM) (N : Nat) (i : Int) : Prop := ∀ (nn : Nat) (l8 l9 l10 l11 l12 l13 : JV), N ≤ nn → V l E mL_isWhole 40 nn Qr jno 90 [(2, 0), (0, σ 5 2), (0, jAd σ i), (0, jmpn σ i), (0, jlgn σ i), (0, 0), (0, 1), (0, i), l8, l9, l10, l11, l12, l13] [] σ
theorem wk_108 (hW : jWh σ) (hi : 0 ≤ i ∧ i < σ 2 6) (hk : σ 16 i = 108) {N : Nat} (hn : N + 1 ≤ nn) (kk : jWL l E Qr σ N (i + 1)) : V l E mL_isWhole 40 nn Qr jno 110 [(2, 0), (0, σ 5 2), (0, jAd σ i), (0, jmpn σ i), (0, jlgn σ i), (0, 0), (0, 1), (0, i), l8, l9, l10, l11, l12, l13] [(0, 108)] σ := by
  have b := hW.b hi
  have bn := hW.n
  have bw := hW.w1
  have ww := hW.w
  have mb := jmpn_b (σ := σ) hi.1
  have it := hW.it hi
  have e1 := jmpn_s (σ := σ) hi.1
  have e2 := jlgn_s (σ := σ) hi.1
  rw [hk] at e1 e2
  have e1 : jmpn σ (i + 1) = jmpn σ i + 0 := e1
  have e2 : jlgn σ (i + 1) = jlgn σ i + 0 := e2
  have hr : ¬ (σ 16 i = 106 ∨ σ 16 i = 74 ∨ σ 16 i = 97) := by omega
  have f0 := wf_108 hW hi hk
  have tail : ∀ (n2 : Nat) (m9 m10 m11 m12 m13 : JV), N ≤ n2 → V l E mL_isWhole 40 n2 Qr jno 494 [(2, 0), (0, σ 5 2), (0, jAd σ i), (0, jmpn σ i), (0, jlgn σ i), (0, 0), (0, 1), (0, i), (0, 108), (0, jAd σ (i + 1)), m10, m11, m12, m13] [] σ := by
    intro n2 m9 m10 m11 m12 m13 hn2
    refine V.iload_n dL_isWhole_494 rfl ?_
    refine V.iload dL_isWhole_495 rfl ?_
    refine V.bipush dL_isWhole_497 ⟨by decide, by decide⟩ ?_
    refine V.icmp_eq (tgt := 509) dL_isWhole_499 (by decide) (fun hh => ?_) (fun hh => ?_)
    · exfalso; omega
    · refine V.iload dL_isWhole_502 rfl ?_
      refine V.bipush dL_isWhole_504 ⟨by decide, by decide⟩ ?_
      refine V.icmp_ne (tgt := 513) dL_isWhole_506 (by decide) (fun hh => ?_) (fun hh => ?_)
      · refine V.iconst dL_isWhole_513 ⟨by decide, by decide⟩ ?_
        refine V.iadd dL_isWhole_514 ⟨(by omega), (by omega)⟩ ?_
        refine V.istore_n (L' := [_, _, _, _, _, _, _, _, _, _, _, _, _, _]) dL_isWhole_515 rfl rfl ?_
        refine V.iload dL_isWhole_516 rfl ?_
        refine V.iload dL_isWhole_518 rfl ?_
        refine V.bipush dL_isWhole_520 ⟨by decide, by decide⟩ ?_
        refine V.icmp_ne (tgt := 529) dL_isWhole_522 (by decide) (fun hh => ?_) (fun hh => ?_)
        · refine V.iconst dL_isWhole_529 ⟨by decide, by decide⟩ ?_
          refine V.iadd dL_isWhole_530 ⟨(by omega), (by omega)⟩ ?_
          refine V.istore (L' := [_, _, _, _, _, _, _, _, _, _, _, _, _, _]) dL_isWhole_531 rfl rfl ?_
          refine V.iload dL_isWhole_533 rfl ?_
          refine V.istore_n (L' := [_, _, _, _, _, _, _, _, _, _, _, _, _, _]) dL_isWhole_535 rfl rfl ?_
          refine V.iinc (L' := [_, _, _, _, _, _, _, _, _, _, _, _, _, _]) dL_isWhole_536 rfl ⟨(by omega), (by omega)⟩ rfl ?_
          refine V.goto (tgt := 90) dL_isWhole_539 (by decide) ?_
          have key := kk n2 (0, 108) (0, jAd σ (i + 1)) m10 m11 m12 m13 hn2
          rw [e1, e2] at key
          exact key
        · exfalso; omega
      · exfalso; omega
  have mid : ∀ (n2 : Nat), N + 1 ≤ n2 → V l E mL_isWhole 40 n2 Qr jno 135 [(2, 0), (0, σ 5 2), (0, jAd σ i), (0, jmpn σ i), (0, jlgn σ i), (0, 0), (0, 1), (0, i), (0, 108), l9, l10, l11, l12, l13] [(0, jAd σ (i + 1))] σ := by
    intro n2 hn2
    refine V.istore (L' := [_, _, _, _, _, _, _, _, _, _, _, _, _, _]) dL_isWhole_135 rfl rfl ?_
    refine V.aload_n dL_isWhole_137 rfl ?_
    refine V.iload dL_isWhole_138 rfl ?_
    refine V.cA [_, _] rfl kc_L_219 dL_isWhole_140 (by decide) (by omega) rfl rfl (ws_targetU hW hi hr) (fun _ => ?_)
    refine V.istore (L' := [_, _, _, _, _, _, _, _, _, _, _, _, _, _]) dL_isWhole_143 rfl rfl ?_
    refine V.iload dL_isWhole_145 rfl ?_
    refine V.if_ge (tgt := 154) dL_isWhole_147 (by decide) (fun hh => ?_) (fun hh => ?_)
    · exfalso; omega
    · refine V.iconst dL_isWhole_150 ⟨by decide, by decide⟩ ?_
      refine V.goto (tgt := 160) dL_isWhole_151 (by decide) ?_
      refine V.istore (L' := [_, _, _, _, _, _, _, _, _, _, _, _, _, _]) dL_isWhole_160 rfl rfl ?_
      refine V.iload dL_isWhole_162 rfl ?_
      refine V.bipush dL_isWhole_164 ⟨by decide, by decide⟩ ?_
      refine V.icmp_eq (tgt := 183) dL_isWhole_166 (by decide) (fun hh => ?_) (fun hh => ?_)
      · exfalso; omega
      · refine V.iload dL_isWhole_169 rfl ?_
        refine V.bipush dL_isWhole_171 ⟨by decide, by decide⟩ ?_
        refine V.icmp_eq (tgt := 183) dL_isWhole_173 (by decide) (fun hh => ?_) (fun hh => ?_)
        · exfalso; omega
        · refine V.iload dL_isWhole_176 rfl ?_
          refine V.bipush dL_isWhole_178 ⟨by decide, by decide⟩ ?_
          refine V.icmp_ne (tgt := 187) dL_isWhole_180 (by decide) (fun hh => ?_) (fun hh => ?_)
          · refine V.iconst dL_isWhole_187 ⟨by decide, by decide⟩ ?_
            refine V.istore (L' := [_, _, _, _, _, _, _, _, _, _, _, _, _, _]) dL_isWhole_188 rfl rfl ?_
            refine V.aload_n dL_isWhole_190 rfl ?_
            refine V.iload dL_isWhole_191 rfl ?_
            refine V.cA [_, _] rfl kc_L_217 dL_isWhole_193 (by decide) (by omega) rfl rfl (ws_addressOf hW hi) (fun _ => ?_)
            refine V.iload_n dL_isWhole_196 rfl ?_
            refine V.icmp_ne (tgt := 258) dL_isWhole_197 (by decide) (fun hh => ?_) (fun hh => ?_)
            · exfalso; omega
            · refine V.aload_n dL_isWhole_200 rfl ?_
              refine V.iload dL_isWhole_201 rfl ?_
              refine V.cA [_, _] rfl kc_L_221 dL_isWhole_203 (by decide) (by omega) rfl rfl (ws_adding hW hi) (fun _ => ?_)
              refine V.iload_n dL_isWhole_206 rfl ?_
              refine V.icmp_ne (tgt := 258) dL_isWhole_207 (by decide) (fun hh => ?_) (fun hh => ?_)
              · exfalso; omega
              · refine V.aload_n dL_isWhole_210 rfl ?_
                refine V.iload dL_isWhole_211 rfl ?_
                refine V.cA [_, _] rfl kc_L_223 dL_isWhole_213 (by decide) (by omega) rfl rfl (ws_line hW hi) (fun _ => ?_)
                refine V.if_lt (tgt := 258) dL_isWhole_216 (by decide) (fun hh => ?_) (fun hh => ?_)
                · exfalso; omega
                · refine V.aload_n dL_isWhole_219 rfl ?_
                  refine V.iload dL_isWhole_220 rfl ?_
                  refine V.cA [_, _] rfl kc_L_225 dL_isWhole_222 (by decide) (by omega) rfl rfl (ws_depth hW hi) (fun _ => ?_)
                  refine V.if_lt (tgt := 258) dL_isWhole_225 (by decide) (fun hh => ?_) (fun hh => ?_)
                  · exfalso; omega
                  · refine V.iload dL_isWhole_228 rfl ?_
                    refine V.if_eq (tgt := 247) dL_isWhole_230 (by decide) (fun hh => ?_) (fun hh => ?_)
                    · refine V.iload dL_isWhole_247 rfl ?_
                      refine V.bipush dL_isWhole_249 ⟨by decide, by decide⟩ ?_
                      refine V.icmp_ne (tgt := 258) dL_isWhole_251 (by decide) (fun hh => ?_) (fun hh => ?_)
                      · exfalso; omega
                      · refine V.iconst dL_isWhole_254 ⟨by decide, by decide⟩ ?_
                        refine V.goto (tgt := 259) dL_isWhole_255 (by decide) ?_
                        refine V.istore (L' := [_, _, _, _, _, _, _, _, _, _, _, _, _, _]) dL_isWhole_259 rfl rfl ?_
                        refine V.iload dL_isWhole_261 rfl ?_
                        refine V.iload dL_isWhole_263 rfl ?_
                        refine V.bipush dL_isWhole_265 ⟨by decide, by decide⟩ ?_
                        refine V.icmp_ne (tgt := 284) dL_isWhole_267 (by decide) (fun hh => ?_) (fun hh => ?_)
                        · exfalso; omega
                        · refine V.iload dL_isWhole_270 rfl ?_
                          refine V.iload_n dL_isWhole_272 rfl ?_
                          refine V.icmp_ne (tgt := 280) dL_isWhole_273 (by decide) (fun hh => ?_) (fun hh => ?_)
                          · exfalso; omega
                          · refine V.iconst dL_isWhole_276 ⟨by decide, by decide⟩ ?_
                            refine V.goto (tgt := 367) dL_isWhole_277 (by decide) ?_
                            refine V.iandB dL_isWhole_367 (Or.inr rfl) (Or.inr rfl) ?_
                            rw [if_pos ⟨rfl, rfl⟩]
                            refine V.istore (L' := [_, _, _, _, _, _, _, _, _, _, _, _, _, _]) dL_isWhole_368 rfl rfl ?_
                            refine V.iload dL_isWhole_370 rfl ?_
                            refine V.iload dL_isWhole_372 rfl ?_
                            refine V.bipush dL_isWhole_374 ⟨by decide, by decide⟩ ?_
                            refine V.icmp_ne (tgt := 417) dL_isWhole_376 (by decide) (fun hh => ?_) (fun hh => ?_)
                            · refine V.iconst dL_isWhole_417 ⟨by decide, by decide⟩ ?_
                              refine V.goto (tgt := 422) dL_isWhole_418 (by decide) ?_
                              refine V.iandB dL_isWhole_422 (Or.inr rfl) (Or.inr rfl) ?_
                              rw [if_pos ⟨rfl, rfl⟩]
                              refine V.istore (L' := [_, _, _, _, _, _, _, _, _, _, _, _, _, _]) dL_isWhole_423 rfl rfl ?_
                              refine V.iload dL_isWhole_425 rfl ?_
                              refine V.iload dL_isWhole_427 rfl ?_
                              refine V.bipush dL_isWhole_429 ⟨by decide, by decide⟩ ?_
                              refine V.icmp_ne (tgt := 444) dL_isWhole_431 (by decide) (fun hh => ?_) (fun hh => ?_)
                              · refine V.iconst dL_isWhole_444 ⟨by decide, by decide⟩ ?_
                                refine V.goto (tgt := 449) dL_isWhole_445 (by decide) ?_
                                refine V.iandB dL_isWhole_449 (Or.inr rfl) (Or.inr rfl) ?_
                                rw [if_pos ⟨rfl, rfl⟩]
                                refine V.istore (L' := [_, _, _, _, _, _, _, _, _, _, _, _, _, _]) dL_isWhole_450 rfl rfl ?_
                                refine V.iload_n dL_isWhole_452 rfl ?_
                                refine V.istore (L' := [_, _, _, _, _, _, _, _, _, _, _, _, _, _]) dL_isWhole_453 rfl rfl ?_
                                refine V.iload dL_isWhole_455 rfl ?_
                                refine V.bipush dL_isWhole_457 ⟨by decide, by decide⟩ ?_
                                refine V.icmp_ne (tgt := 494) dL_isWhole_459 (by decide) (fun hh => ?_) (fun hh => ?_)
                                · exact tail _ (0, 0) _ _ _ _ (by omega)
                                · exfalso; omega
                              · exfalso; omega
                            · exfalso; omega
                    · exfalso; omega
          · exfalso; omega
  refine V.istore (L' := [_, _, _, _, _, _, _, _, _, _, _, _, _, _]) dL_isWhole_110 rfl rfl ?_
  refine V.iload dL_isWhole_112 rfl ?_
  refine V.iconst dL_isWhole_114 ⟨by decide, by decide⟩ ?_
  refine V.iadd dL_isWhole_115 ⟨(by omega), (by omega)⟩ ?_
  refine V.aload_n dL_isWhole_116 rfl ?_
  refine V.cA [_] rfl kc_L_199 dL_isWhole_117 (by decide) (by omega) rfl rfl (ws_items hW) (fun _ => ?_)
  refine V.icmp_ge (tgt := 134) dL_isWhole_120 (by decide) (fun h120 => ?_) (fun h120 => ?_)
  · refine V.iload_n dL_isWhole_134 rfl ?_
    first
    | exact mid _ (by omega)
    | (rw [show σ 5 2 = jAd σ (i + 1) by rw [ww]; congr 1; omega] at mid ⊢; exact mid _ (by omega))
  · refine V.aload_n dL_isWhole_123 rfl ?_
    refine V.iload dL_isWhole_124 rfl ?_
    refine V.iconst dL_isWhole_126 ⟨by decide, by decide⟩ ?_
    refine V.iadd dL_isWhole_127 ⟨(by omega), (by omega)⟩ ?_
    refine V.cA [_, _] rfl kc_L_217 dL_isWhole_128 (by decide) (by omega) rfl rfl (ws_addressOf hW (x := i + 1) (by omega)) (fun _ => ?_)
    refine V.goto (tgt := 135) dL_isWhole_131 (by decide) ?_
    first
    | exact mid _ (by omega)
    | (rw [show σ 5 2 = jAd σ (i + 1) by rw [ww]; congr 1; omega] at mid ⊢; exact mid _ (by omega))
theorem wk_119 (hW : jWh σ) (hi : 0 ≤ i ∧ i < σ 2 6) (hk : σ 16 i = 119) {N : Nat} (hn : N + 1 ≤ nn) (kk : jWL l E Qr σ N (i + 1)) : V l E mL_isWhole 40 nn Qr jno 110 [(2, 0), (0, σ 5 2), (0, jAd σ i), (0, jmpn σ i), (0, jlgn σ i), (0, 0), (0, 1), (0, i), l8, l9, l10, l11, l12, l13] [(0, 119)] σ := by
  have b := hW.b hi
  have bn := hW.n
  have bw := hW.w1
  have ww := hW.w
  have mb := jmpn_b (σ := σ) hi.1
  have it := hW.it hi
  have e1 := jmpn_s (σ := σ) hi.1
  have e2 := jlgn_s (σ := σ) hi.1
  rw [hk] at e1 e2
  have e1 : jmpn σ (i + 1) = jmpn σ i + 0 := e1
  have e2 : jlgn σ (i + 1) = jlgn σ i + 0 := e2
  have hr : ¬ (σ 16 i = 106 ∨ σ 16 i = 74 ∨ σ 16 i = 97) := by omega
  have f0 := wf_1 hW hi (by omega)
  have tail : ∀ (n2 : Nat) (m9 m10 m11 m12 m13 : JV), N ≤ n2 → V l E mL_isWhole 40 n2 Qr jno 494 [(2, 0), (0, σ 5 2), (0, jAd σ i), (0, jmpn σ i), (0, jlgn σ i), (0, 0), (0, 1), (0, i), (0, 119), (0, jAd σ (i + 1)), m10, m11, m12, m13] [] σ := by
    intro n2 m9 m10 m11 m12 m13 hn2
    refine V.iload_n dL_isWhole_494 rfl ?_
    refine V.iload dL_isWhole_495 rfl ?_
    refine V.bipush dL_isWhole_497 ⟨by decide, by decide⟩ ?_
    refine V.icmp_eq (tgt := 509) dL_isWhole_499 (by decide) (fun hh => ?_) (fun hh => ?_)
    · exfalso; omega
    · refine V.iload dL_isWhole_502 rfl ?_
      refine V.bipush dL_isWhole_504 ⟨by decide, by decide⟩ ?_
      refine V.icmp_ne (tgt := 513) dL_isWhole_506 (by decide) (fun hh => ?_) (fun hh => ?_)
      · refine V.iconst dL_isWhole_513 ⟨by decide, by decide⟩ ?_
        refine V.iadd dL_isWhole_514 ⟨(by omega), (by omega)⟩ ?_
        refine V.istore_n (L' := [_, _, _, _, _, _, _, _, _, _, _, _, _, _]) dL_isWhole_515 rfl rfl ?_
        refine V.iload dL_isWhole_516 rfl ?_
        refine V.iload dL_isWhole_518 rfl ?_
        refine V.bipush dL_isWhole_520 ⟨by decide, by decide⟩ ?_
        refine V.icmp_ne (tgt := 529) dL_isWhole_522 (by decide) (fun hh => ?_) (fun hh => ?_)
        · refine V.iconst dL_isWhole_529 ⟨by decide, by decide⟩ ?_
          refine V.iadd dL_isWhole_530 ⟨(by omega), (by omega)⟩ ?_
          refine V.istore (L' := [_, _, _, _, _, _, _, _, _, _, _, _, _, _]) dL_isWhole_531 rfl rfl ?_
          refine V.iload dL_isWhole_533 rfl ?_
          refine V.istore_n (L' := [_, _, _, _, _, _, _, _, _, _, _, _, _, _]) dL_isWhole_535 rfl rfl ?_
          refine V.iinc (L' := [_, _, _, _, _, _, _, _, _, _, _, _, _, _]) dL_isWhole_536 rfl ⟨(by omega), (by omega)⟩ rfl ?_
          refine V.goto (tgt := 90) dL_isWhole_539 (by decide) ?_
          have key := kk n2 (0, 119) (0, jAd σ (i + 1)) m10 m11 m12 m13 hn2
          rw [e1, e2] at key
          exact key
        · exfalso; omega
      · exfalso; omega
  have mid : ∀ (n2 : Nat), N + 1 ≤ n2 → V l E mL_isWhole 40 n2 Qr jno 135 [(2, 0), (0, σ 5 2), (0, jAd σ i), (0, jmpn σ i), (0, jlgn σ i), (0, 0), (0, 1), (0, i), (0, 119), l9, l10, l11, l12, l13] [(0, jAd σ (i + 1))] σ := by
    intro n2 hn2
    refine V.istore (L' := [_, _, _, _, _, _, _, _, _, _, _, _, _, _]) dL_isWhole_135 rfl rfl ?_
    refine V.aload_n dL_isWhole_137 rfl ?_
    refine V.iload dL_isWhole_138 rfl ?_
    refine V.cA [_, _] rfl kc_L_219 dL_isWhole_140 (by decide) (by omega) rfl rfl (ws_targetU hW hi hr) (fun _ => ?_)
    refine V.istore (L' := [_, _, _, _, _, _, _, _, _, _, _, _, _, _]) dL_isWhole_143 rfl rfl ?_
    refine V.iload dL_isWhole_145 rfl ?_
    refine V.if_ge (tgt := 154) dL_isWhole_147 (by decide) (fun hh => ?_) (fun hh => ?_)
    · exfalso; omega
    · refine V.iconst dL_isWhole_150 ⟨by decide, by decide⟩ ?_
      refine V.goto (tgt := 160) dL_isWhole_151 (by decide) ?_
      refine V.istore (L' := [_, _, _, _, _, _, _, _, _, _, _, _, _, _]) dL_isWhole_160 rfl rfl ?_
      refine V.iload dL_isWhole_162 rfl ?_
      refine V.bipush dL_isWhole_164 ⟨by decide, by decide⟩ ?_
      refine V.icmp_eq (tgt := 183) dL_isWhole_166 (by decide) (fun hh => ?_) (fun hh => ?_)
      · exfalso; omega
      · refine V.iload dL_isWhole_169 rfl ?_
        refine V.bipush dL_isWhole_171 ⟨by decide, by decide⟩ ?_
        refine V.icmp_eq (tgt := 183) dL_isWhole_173 (by decide) (fun hh => ?_) (fun hh => ?_)
        · exfalso; omega
        · refine V.iload dL_isWhole_176 rfl ?_
          refine V.bipush dL_isWhole_178 ⟨by decide, by decide⟩ ?_
          refine V.icmp_ne (tgt := 187) dL_isWhole_180 (by decide) (fun hh => ?_) (fun hh => ?_)
          · refine V.iconst dL_isWhole_187 ⟨by decide, by decide⟩ ?_
            refine V.istore (L' := [_, _, _, _, _, _, _, _, _, _, _, _, _, _]) dL_isWhole_188 rfl rfl ?_
            refine V.aload_n dL_isWhole_190 rfl ?_
            refine V.iload dL_isWhole_191 rfl ?_
            refine V.cA [_, _] rfl kc_L_217 dL_isWhole_193 (by decide) (by omega) rfl rfl (ws_addressOf hW hi) (fun _ => ?_)
            refine V.iload_n dL_isWhole_196 rfl ?_
            refine V.icmp_ne (tgt := 258) dL_isWhole_197 (by decide) (fun hh => ?_) (fun hh => ?_)
            · exfalso; omega
            · refine V.aload_n dL_isWhole_200 rfl ?_
              refine V.iload dL_isWhole_201 rfl ?_
              refine V.cA [_, _] rfl kc_L_221 dL_isWhole_203 (by decide) (by omega) rfl rfl (ws_adding hW hi) (fun _ => ?_)
              refine V.iload_n dL_isWhole_206 rfl ?_
              refine V.icmp_ne (tgt := 258) dL_isWhole_207 (by decide) (fun hh => ?_) (fun hh => ?_)
              · exfalso; omega
              · refine V.aload_n dL_isWhole_210 rfl ?_
                refine V.iload dL_isWhole_211 rfl ?_
                refine V.cA [_, _] rfl kc_L_223 dL_isWhole_213 (by decide) (by omega) rfl rfl (ws_line hW hi) (fun _ => ?_)
                refine V.if_lt (tgt := 258) dL_isWhole_216 (by decide) (fun hh => ?_) (fun hh => ?_)
                · exfalso; omega
                · refine V.aload_n dL_isWhole_219 rfl ?_
                  refine V.iload dL_isWhole_220 rfl ?_
                  refine V.cA [_, _] rfl kc_L_225 dL_isWhole_222 (by decide) (by omega) rfl rfl (ws_depth hW hi) (fun _ => ?_)
                  refine V.if_lt (tgt := 258) dL_isWhole_225 (by decide) (fun hh => ?_) (fun hh => ?_)
                  · exfalso; omega
                  · refine V.iload dL_isWhole_228 rfl ?_
                    refine V.if_eq (tgt := 247) dL_isWhole_230 (by decide) (fun hh => ?_) (fun hh => ?_)
                    · refine V.iload dL_isWhole_247 rfl ?_
                      refine V.bipush dL_isWhole_249 ⟨by decide, by decide⟩ ?_
                      refine V.icmp_ne (tgt := 258) dL_isWhole_251 (by decide) (fun hh => ?_) (fun hh => ?_)
                      · exfalso; omega
                      · refine V.iconst dL_isWhole_254 ⟨by decide, by decide⟩ ?_
                        refine V.goto (tgt := 259) dL_isWhole_255 (by decide) ?_
                        refine V.istore (L' := [_, _, _, _, _, _, _, _, _, _, _, _, _, _]) dL_isWhole_259 rfl rfl ?_
                        refine V.iload dL_isWhole_261 rfl ?_
                        refine V.iload dL_isWhole_263 rfl ?_
                        refine V.bipush dL_isWhole_265 ⟨by decide, by decide⟩ ?_
                        refine V.icmp_ne (tgt := 284) dL_isWhole_267 (by decide) (fun hh => ?_) (fun hh => ?_)
                        · refine V.iload dL_isWhole_284 rfl ?_
                          refine V.bipush dL_isWhole_286 ⟨by decide, by decide⟩ ?_
                          refine V.icmp_ne (tgt := 330) dL_isWhole_288 (by decide) (fun hh => ?_) (fun hh => ?_)
                          · refine V.iload dL_isWhole_330 rfl ?_
                            refine V.bipush dL_isWhole_332 ⟨by decide, by decide⟩ ?_
                            refine V.icmp_ne (tgt := 354) dL_isWhole_334 (by decide) (fun hh => ?_) (fun hh => ?_)
                            · refine V.iload dL_isWhole_354 rfl ?_
                              refine V.iload_n dL_isWhole_356 rfl ?_
                              refine V.iconst dL_isWhole_357 ⟨by decide, by decide⟩ ?_
                              refine V.iadd dL_isWhole_358 ⟨(by omega), (by omega)⟩ ?_
                              refine V.icmp_ne (tgt := 366) dL_isWhole_359 (by decide) (fun hh => ?_) (fun hh => ?_)
                              · exfalso; omega
                              · refine V.iconst dL_isWhole_362 ⟨by decide, by decide⟩ ?_
                                refine V.goto (tgt := 367) dL_isWhole_363 (by decide) ?_
                                refine V.iandB dL_isWhole_367 (Or.inr rfl) (Or.inr rfl) ?_
                                rw [if_pos ⟨rfl, rfl⟩]
                                refine V.istore (L' := [_, _, _, _, _, _, _, _, _, _, _, _, _, _]) dL_isWhole_368 rfl rfl ?_
                                refine V.iload dL_isWhole_370 rfl ?_
                                refine V.iload dL_isWhole_372 rfl ?_
                                refine V.bipush dL_isWhole_374 ⟨by decide, by decide⟩ ?_
                                refine V.icmp_ne (tgt := 417) dL_isWhole_376 (by decide) (fun hh => ?_) (fun hh => ?_)
                                · refine V.iconst dL_isWhole_417 ⟨by decide, by decide⟩ ?_
                                  refine V.goto (tgt := 422) dL_isWhole_418 (by decide) ?_
                                  refine V.iandB dL_isWhole_422 (Or.inr rfl) (Or.inr rfl) ?_
                                  rw [if_pos ⟨rfl, rfl⟩]
                                  refine V.istore (L' := [_, _, _, _, _, _, _, _, _, _, _, _, _, _]) dL_isWhole_423 rfl rfl ?_
                                  refine V.iload dL_isWhole_425 rfl ?_
                                  refine V.iload dL_isWhole_427 rfl ?_
                                  refine V.bipush dL_isWhole_429 ⟨by decide, by decide⟩ ?_
                                  refine V.icmp_ne (tgt := 444) dL_isWhole_431 (by decide) (fun hh => ?_) (fun hh => ?_)
                                  · refine V.iconst dL_isWhole_444 ⟨by decide, by decide⟩ ?_
                                    refine V.goto (tgt := 449) dL_isWhole_445 (by decide) ?_
                                    refine V.iandB dL_isWhole_449 (Or.inr rfl) (Or.inr rfl) ?_
                                    rw [if_pos ⟨rfl, rfl⟩]
                                    refine V.istore (L' := [_, _, _, _, _, _, _, _, _, _, _, _, _, _]) dL_isWhole_450 rfl rfl ?_
                                    refine V.iload_n dL_isWhole_452 rfl ?_
                                    refine V.istore (L' := [_, _, _, _, _, _, _, _, _, _, _, _, _, _]) dL_isWhole_453 rfl rfl ?_
                                    refine V.iload dL_isWhole_455 rfl ?_
                                    refine V.bipush dL_isWhole_457 ⟨by decide, by decide⟩ ?_
                                    refine V.icmp_ne (tgt := 494) dL_isWhole_459 (by decide) (fun hh => ?_) (fun hh => ?_)
                                    · exact tail _ (0, 0) _ _ _ _ (by omega)
                                    · exfalso; omega
                                  · exfalso; omega
                                · exfalso; omega
                            · exfalso; omega
                          · exfalso; omega
                        · exfalso; omega
                    · exfalso; omega
          · exfalso; omega
  refine V.istore (L' := [_, _, _, _, _, _, _, _, _, _, _, _, _, _]) dL_isWhole_110 rfl rfl ?_
  refine V.iload dL_isWhole_112 rfl ?_
  refine V.iconst dL_isWhole_114 ⟨by decide, by decide⟩ ?_
  refine V.iadd dL_isWhole_115 ⟨(by omega), (by omega)⟩ ?_
  refine V.aload_n dL_isWhole_116 rfl ?_
  refine V.cA [_] rfl kc_L_199 dL_isWhole_117 (by decide) (by omega) rfl rfl (ws_items hW) (fun _ => ?_)
  refine V.icmp_ge (tgt := 134) dL_isWhole_120 (by decide) (fun h120 => ?_) (fun h120 => ?_)
  · refine V.iload_n dL_isWhole_134 rfl ?_
    first
    | exact mid _ (by omega)
    | (rw [show σ 5 2 = jAd σ (i + 1) by rw [ww]; congr 1; omega] at mid ⊢; exact mid _ (by omega))
  · refine V.aload_n dL_isWhole_123 rfl ?_
    refine V.iload dL_isWhole_124 rfl ?_
    refine V.iconst dL_isWhole_126 ⟨by decide, by decide⟩ ?_
    refine V.iadd dL_isWhole_127 ⟨(by omega), (by omega)⟩ ?_
    refine V.cA [_, _] rfl kc_L_217 dL_isWhole_128 (by decide) (by omega) rfl rfl (ws_addressOf hW (x := i + 1) (by omega)) (fun _ => ?_)
    refine V.goto (tgt := 135) dL_isWhole_131 (by decide) ?_
    first
    | exact mid _ (by omega)
    | (rw [show σ 5 2 = jAd σ (i + 1) by rw [ww]; congr 1; omega] at mid ⊢; exact mid _ (by omega))
theorem wk_111 (hW : jWh σ) (hi : 0 ≤ i ∧ i < σ 2 6) (hk : σ 16 i = 111) {N : Nat} (hn : N + 1 ≤ nn) (kk : jWL l E Qr σ N (i + 1)) : V l E mL_isWhole 40 nn Qr jno 110 [(2, 0), (0, σ 5 2), (0, jAd σ i), (0, jmpn σ i), (0, jlgn σ i), (0, 0), (0, 1), (0, i), l8, l9, l10, l11, l12, l13] [(0, 111)] σ := by
  have b := hW.b hi
  have bn := hW.n
  have bw := hW.w1
  have ww := hW.w
  have mb := jmpn_b (σ := σ) hi.1
  have it := hW.it hi
  have e1 := jmpn_s (σ := σ) hi.1
  have e2 := jlgn_s (σ := σ) hi.1
  rw [hk] at e1 e2
  have e1 : jmpn σ (i + 1) = jmpn σ i + 0 := e1
  have e2 : jlgn σ (i + 1) = jlgn σ i + 0 := e2
  have hr : ¬ (σ 16 i = 106 ∨ σ 16 i = 74 ∨ σ 16 i = 97) := by omega
  have f0 := wf_1 hW hi (by omega)
  have tail : ∀ (n2 : Nat) (m9 m10 m11 m12 m13 : JV), N ≤ n2 → V l E mL_isWhole 40 n2 Qr jno 494 [(2, 0), (0, σ 5 2), (0, jAd σ i), (0, jmpn σ i), (0, jlgn σ i), (0, 0), (0, 1), (0, i), (0, 111), (0, jAd σ (i + 1)), m10, m11, m12, m13] [] σ := by
    intro n2 m9 m10 m11 m12 m13 hn2
    refine V.iload_n dL_isWhole_494 rfl ?_
    refine V.iload dL_isWhole_495 rfl ?_
    refine V.bipush dL_isWhole_497 ⟨by decide, by decide⟩ ?_
    refine V.icmp_eq (tgt := 509) dL_isWhole_499 (by decide) (fun hh => ?_) (fun hh => ?_)
    · exfalso; omega
    · refine V.iload dL_isWhole_502 rfl ?_
      refine V.bipush dL_isWhole_504 ⟨by decide, by decide⟩ ?_
      refine V.icmp_ne (tgt := 513) dL_isWhole_506 (by decide) (fun hh => ?_) (fun hh => ?_)
      · refine V.iconst dL_isWhole_513 ⟨by decide, by decide⟩ ?_
        refine V.iadd dL_isWhole_514 ⟨(by omega), (by omega)⟩ ?_
        refine V.istore_n (L' := [_, _, _, _, _, _, _, _, _, _, _, _, _, _]) dL_isWhole_515 rfl rfl ?_
        refine V.iload dL_isWhole_516 rfl ?_
        refine V.iload dL_isWhole_518 rfl ?_
        refine V.bipush dL_isWhole_520 ⟨by decide, by decide⟩ ?_
        refine V.icmp_ne (tgt := 529) dL_isWhole_522 (by decide) (fun hh => ?_) (fun hh => ?_)
        · refine V.iconst dL_isWhole_529 ⟨by decide, by decide⟩ ?_
          refine V.iadd dL_isWhole_530 ⟨(by omega), (by omega)⟩ ?_
          refine V.istore (L' := [_, _, _, _, _, _, _, _, _, _, _, _, _, _]) dL_isWhole_531 rfl rfl ?_
          refine V.iload dL_isWhole_533 rfl ?_
          refine V.istore_n (L' := [_, _, _, _, _, _, _, _, _, _, _, _, _, _]) dL_isWhole_535 rfl rfl ?_
          refine V.iinc (L' := [_, _, _, _, _, _, _, _, _, _, _, _, _, _]) dL_isWhole_536 rfl ⟨(by omega), (by omega)⟩ rfl ?_
          refine V.goto (tgt := 90) dL_isWhole_539 (by decide) ?_
          have key := kk n2 (0, 111) (0, jAd σ (i + 1)) m10 m11 m12 m13 hn2
          rw [e1, e2] at key
          exact key
        · exfalso; omega
      · exfalso; omega
  have mid : ∀ (n2 : Nat), N + 1 ≤ n2 → V l E mL_isWhole 40 n2 Qr jno 135 [(2, 0), (0, σ 5 2), (0, jAd σ i), (0, jmpn σ i), (0, jlgn σ i), (0, 0), (0, 1), (0, i), (0, 111), l9, l10, l11, l12, l13] [(0, jAd σ (i + 1))] σ := by
    intro n2 hn2
    refine V.istore (L' := [_, _, _, _, _, _, _, _, _, _, _, _, _, _]) dL_isWhole_135 rfl rfl ?_
    refine V.aload_n dL_isWhole_137 rfl ?_
    refine V.iload dL_isWhole_138 rfl ?_
    refine V.cA [_, _] rfl kc_L_219 dL_isWhole_140 (by decide) (by omega) rfl rfl (ws_targetU hW hi hr) (fun _ => ?_)
    refine V.istore (L' := [_, _, _, _, _, _, _, _, _, _, _, _, _, _]) dL_isWhole_143 rfl rfl ?_
    refine V.iload dL_isWhole_145 rfl ?_
    refine V.if_ge (tgt := 154) dL_isWhole_147 (by decide) (fun hh => ?_) (fun hh => ?_)
    · exfalso; omega
    · refine V.iconst dL_isWhole_150 ⟨by decide, by decide⟩ ?_
      refine V.goto (tgt := 160) dL_isWhole_151 (by decide) ?_
      refine V.istore (L' := [_, _, _, _, _, _, _, _, _, _, _, _, _, _]) dL_isWhole_160 rfl rfl ?_
      refine V.iload dL_isWhole_162 rfl ?_
      refine V.bipush dL_isWhole_164 ⟨by decide, by decide⟩ ?_
      refine V.icmp_eq (tgt := 183) dL_isWhole_166 (by decide) (fun hh => ?_) (fun hh => ?_)
      · exfalso; omega
      · refine V.iload dL_isWhole_169 rfl ?_
        refine V.bipush dL_isWhole_171 ⟨by decide, by decide⟩ ?_
        refine V.icmp_eq (tgt := 183) dL_isWhole_173 (by decide) (fun hh => ?_) (fun hh => ?_)
        · exfalso; omega
        · refine V.iload dL_isWhole_176 rfl ?_
          refine V.bipush dL_isWhole_178 ⟨by decide, by decide⟩ ?_
          refine V.icmp_ne (tgt := 187) dL_isWhole_180 (by decide) (fun hh => ?_) (fun hh => ?_)
          · refine V.iconst dL_isWhole_187 ⟨by decide, by decide⟩ ?_
            refine V.istore (L' := [_, _, _, _, _, _, _, _, _, _, _, _, _, _]) dL_isWhole_188 rfl rfl ?_
            refine V.aload_n dL_isWhole_190 rfl ?_
            refine V.iload dL_isWhole_191 rfl ?_
            refine V.cA [_, _] rfl kc_L_217 dL_isWhole_193 (by decide) (by omega) rfl rfl (ws_addressOf hW hi) (fun _ => ?_)
            refine V.iload_n dL_isWhole_196 rfl ?_
            refine V.icmp_ne (tgt := 258) dL_isWhole_197 (by decide) (fun hh => ?_) (fun hh => ?_)
            · exfalso; omega
            · refine V.aload_n dL_isWhole_200 rfl ?_
              refine V.iload dL_isWhole_201 rfl ?_
              refine V.cA [_, _] rfl kc_L_221 dL_isWhole_203 (by decide) (by omega) rfl rfl (ws_adding hW hi) (fun _ => ?_)
              refine V.iload_n dL_isWhole_206 rfl ?_
              refine V.icmp_ne (tgt := 258) dL_isWhole_207 (by decide) (fun hh => ?_) (fun hh => ?_)
              · exfalso; omega
              · refine V.aload_n dL_isWhole_210 rfl ?_
                refine V.iload dL_isWhole_211 rfl ?_
                refine V.cA [_, _] rfl kc_L_223 dL_isWhole_213 (by decide) (by omega) rfl rfl (ws_line hW hi) (fun _ => ?_)
                refine V.if_lt (tgt := 258) dL_isWhole_216 (by decide) (fun hh => ?_) (fun hh => ?_)
                · exfalso; omega
                · refine V.aload_n dL_isWhole_219 rfl ?_
                  refine V.iload dL_isWhole_220 rfl ?_
                  refine V.cA [_, _] rfl kc_L_225 dL_isWhole_222 (by decide) (by omega) rfl rfl (ws_depth hW hi) (fun _ => ?_)
                  refine V.if_lt (tgt := 258) dL_isWhole_225 (by decide) (fun hh => ?_) (fun hh => ?_)
                  · exfalso; omega
                  · refine V.iload dL_isWhole_228 rfl ?_
                    refine V.if_eq (tgt := 247) dL_isWhole_230 (by decide) (fun hh => ?_) (fun hh => ?_)
                    · refine V.iload dL_isWhole_247 rfl ?_
                      refine V.bipush dL_isWhole_249 ⟨by decide, by decide⟩ ?_
                      refine V.icmp_ne (tgt := 258) dL_isWhole_251 (by decide) (fun hh => ?_) (fun hh => ?_)
                      · exfalso; omega
                      · refine V.iconst dL_isWhole_254 ⟨by decide, by decide⟩ ?_
                        refine V.goto (tgt := 259) dL_isWhole_255 (by decide) ?_
                        refine V.istore (L' := [_, _, _, _, _, _, _, _, _, _, _, _, _, _]) dL_isWhole_259 rfl rfl ?_
                        refine V.iload dL_isWhole_261 rfl ?_
                        refine V.iload dL_isWhole_263 rfl ?_
                        refine V.bipush dL_isWhole_265 ⟨by decide, by decide⟩ ?_
                        refine V.icmp_ne (tgt := 284) dL_isWhole_267 (by decide) (fun hh => ?_) (fun hh => ?_)
                        · refine V.iload dL_isWhole_284 rfl ?_
                          refine V.bipush dL_isWhole_286 ⟨by decide, by decide⟩ ?_
                          refine V.icmp_ne (tgt := 330) dL_isWhole_288 (by decide) (fun hh => ?_) (fun hh => ?_)
                          · refine V.iload dL_isWhole_330 rfl ?_
                            refine V.bipush dL_isWhole_332 ⟨by decide, by decide⟩ ?_
                            refine V.icmp_ne (tgt := 354) dL_isWhole_334 (by decide) (fun hh => ?_) (fun hh => ?_)
                            · refine V.iload dL_isWhole_354 rfl ?_
                              refine V.iload_n dL_isWhole_356 rfl ?_
                              refine V.iconst dL_isWhole_357 ⟨by decide, by decide⟩ ?_
                              refine V.iadd dL_isWhole_358 ⟨(by omega), (by omega)⟩ ?_
                              refine V.icmp_ne (tgt := 366) dL_isWhole_359 (by decide) (fun hh => ?_) (fun hh => ?_)
                              · exfalso; omega
                              · refine V.iconst dL_isWhole_362 ⟨by decide, by decide⟩ ?_
                                refine V.goto (tgt := 367) dL_isWhole_363 (by decide) ?_
                                refine V.iandB dL_isWhole_367 (Or.inr rfl) (Or.inr rfl) ?_
                                rw [if_pos ⟨rfl, rfl⟩]
                                refine V.istore (L' := [_, _, _, _, _, _, _, _, _, _, _, _, _, _]) dL_isWhole_368 rfl rfl ?_
                                refine V.iload dL_isWhole_370 rfl ?_
                                refine V.iload dL_isWhole_372 rfl ?_
                                refine V.bipush dL_isWhole_374 ⟨by decide, by decide⟩ ?_
                                refine V.icmp_ne (tgt := 417) dL_isWhole_376 (by decide) (fun hh => ?_) (fun hh => ?_)
                                · refine V.iconst dL_isWhole_417 ⟨by decide, by decide⟩ ?_
                                  refine V.goto (tgt := 422) dL_isWhole_418 (by decide) ?_
                                  refine V.iandB dL_isWhole_422 (Or.inr rfl) (Or.inr rfl) ?_
                                  rw [if_pos ⟨rfl, rfl⟩]
                                  refine V.istore (L' := [_, _, _, _, _, _, _, _, _, _, _, _, _, _]) dL_isWhole_423 rfl rfl ?_
                                  refine V.iload dL_isWhole_425 rfl ?_
                                  refine V.iload dL_isWhole_427 rfl ?_
                                  refine V.bipush dL_isWhole_429 ⟨by decide, by decide⟩ ?_
                                  refine V.icmp_ne (tgt := 444) dL_isWhole_431 (by decide) (fun hh => ?_) (fun hh => ?_)
                                  · refine V.iconst dL_isWhole_444 ⟨by decide, by decide⟩ ?_
                                    refine V.goto (tgt := 449) dL_isWhole_445 (by decide) ?_
                                    refine V.iandB dL_isWhole_449 (Or.inr rfl) (Or.inr rfl) ?_
                                    rw [if_pos ⟨rfl, rfl⟩]
                                    refine V.istore (L' := [_, _, _, _, _, _, _, _, _, _, _, _, _, _]) dL_isWhole_450 rfl rfl ?_
                                    refine V.iload_n dL_isWhole_452 rfl ?_
                                    refine V.istore (L' := [_, _, _, _, _, _, _, _, _, _, _, _, _, _]) dL_isWhole_453 rfl rfl ?_
                                    refine V.iload dL_isWhole_455 rfl ?_
                                    refine V.bipush dL_isWhole_457 ⟨by decide, by decide⟩ ?_
                                    refine V.icmp_ne (tgt := 494) dL_isWhole_459 (by decide) (fun hh => ?_) (fun hh => ?_)
                                    · exact tail _ (0, 0) _ _ _ _ (by omega)
                                    · exfalso; omega
                                  · exfalso; omega
                                · exfalso; omega
                            · exfalso; omega
                          · exfalso; omega
                        · exfalso; omega
                    · exfalso; omega
          · exfalso; omega
  refine V.istore (L' := [_, _, _, _, _, _, _, _, _, _, _, _, _, _]) dL_isWhole_110 rfl rfl ?_
  refine V.iload dL_isWhole_112 rfl ?_
  refine V.iconst dL_isWhole_114 ⟨by decide, by decide⟩ ?_
  refine V.iadd dL_isWhole_115 ⟨(by omega), (by omega)⟩ ?_
  refine V.aload_n dL_isWhole_116 rfl ?_
  refine V.cA [_] rfl kc_L_199 dL_isWhole_117 (by decide) (by omega) rfl rfl (ws_items hW) (fun _ => ?_)
  refine V.icmp_ge (tgt := 134) dL_isWhole_120 (by decide) (fun h120 => ?_) (fun h120 => ?_)
  · refine V.iload_n dL_isWhole_134 rfl ?_
    first
    | exact mid _ (by omega)
    | (rw [show σ 5 2 = jAd σ (i + 1) by rw [ww]; congr 1; omega] at mid ⊢; exact mid _ (by omega))
  · refine V.aload_n dL_isWhole_123 rfl ?_
    refine V.iload dL_isWhole_124 rfl ?_
    refine V.iconst dL_isWhole_126 ⟨by decide, by decide⟩ ?_
    refine V.iadd dL_isWhole_127 ⟨(by omega), (by omega)⟩ ?_
    refine V.cA [_, _] rfl kc_L_217 dL_isWhole_128 (by decide) (by omega) rfl rfl (ws_addressOf hW (x := i + 1) (by omega)) (fun _ => ?_)
    refine V.goto (tgt := 135) dL_isWhole_131 (by decide) ?_
    first
    | exact mid _ (by omega)
    | (rw [show σ 5 2 = jAd σ (i + 1) by rw [ww]; congr 1; omega] at mid ⊢; exact mid _ (by omega))
theorem wk_106 (hW : jWh σ) (hi : 0 ≤ i ∧ i < σ 2 6) (hk : σ 16 i = 106) {N : Nat} (hn : N + 1 ≤ nn) (kk : jWL l E Qr σ N (i + 1)) : V l E mL_isWhole 40 nn Qr jno 110 [(2, 0), (0, σ 5 2), (0, jAd σ i), (0, jmpn σ i), (0, jlgn σ i), (0, 0), (0, 1), (0, i), l8, l9, l10, l11, l12, l13] [(0, 106)] σ := by
  have b := hW.b hi
  have bn := hW.n
  have bw := hW.w1
  have ww := hW.w
  have mb := jmpn_b (σ := σ) hi.1
  have it := hW.it hi
  have e1 := jmpn_s (σ := σ) hi.1
  have e2 := jlgn_s (σ := σ) hi.1
  rw [hk] at e1 e2
  have e1 : jmpn σ (i + 1) = jmpn σ i + 1 := e1
  have e2 : jlgn σ (i + 1) = jlgn σ i + 0 := e2
  have hr : σ 16 i = 106 ∨ σ 16 i = 74 ∨ σ 16 i = 97 := by omega
  have ht := wf_t hW hi hr
  have bt := hW.b ht.1
  have f0 := wf_1 hW hi (by omega)
  have f1 := wf_106 hW hi hk
  have tail : ∀ (n2 : Nat) (m9 m10 m11 m12 m13 : JV), N ≤ n2 → V l E mL_isWhole 40 n2 Qr jno 494 [(2, 0), (0, σ 5 2), (0, jAd σ i), (0, jmpn σ i), (0, jlgn σ i), (0, 0), (0, 1), (0, i), (0, 106), (0, jAd σ (i + 1)), m10, m11, m12, m13] [] σ := by
    intro n2 m9 m10 m11 m12 m13 hn2
    refine V.iload_n dL_isWhole_494 rfl ?_
    refine V.iload dL_isWhole_495 rfl ?_
    refine V.bipush dL_isWhole_497 ⟨by decide, by decide⟩ ?_
    refine V.icmp_eq (tgt := 509) dL_isWhole_499 (by decide) (fun hh => ?_) (fun hh => ?_)
    · refine V.iconst dL_isWhole_509 ⟨by decide, by decide⟩ ?_
      refine V.goto (tgt := 514) dL_isWhole_510 (by decide) ?_
      refine V.iadd dL_isWhole_514 ⟨(by omega), (by omega)⟩ ?_
      refine V.istore_n (L' := [_, _, _, _, _, _, _, _, _, _, _, _, _, _]) dL_isWhole_515 rfl rfl ?_
      refine V.iload dL_isWhole_516 rfl ?_
      refine V.iload dL_isWhole_518 rfl ?_
      refine V.bipush dL_isWhole_520 ⟨by decide, by decide⟩ ?_
      refine V.icmp_ne (tgt := 529) dL_isWhole_522 (by decide) (fun hh => ?_) (fun hh => ?_)
      · refine V.iconst dL_isWhole_529 ⟨by decide, by decide⟩ ?_
        refine V.iadd dL_isWhole_530 ⟨(by omega), (by omega)⟩ ?_
        refine V.istore (L' := [_, _, _, _, _, _, _, _, _, _, _, _, _, _]) dL_isWhole_531 rfl rfl ?_
        refine V.iload dL_isWhole_533 rfl ?_
        refine V.istore_n (L' := [_, _, _, _, _, _, _, _, _, _, _, _, _, _]) dL_isWhole_535 rfl rfl ?_
        refine V.iinc (L' := [_, _, _, _, _, _, _, _, _, _, _, _, _, _]) dL_isWhole_536 rfl ⟨(by omega), (by omega)⟩ rfl ?_
        refine V.goto (tgt := 90) dL_isWhole_539 (by decide) ?_
        have key := kk n2 (0, 106) (0, jAd σ (i + 1)) m10 m11 m12 m13 hn2
        rw [e1, e2] at key
        exact key
      · exfalso; omega
    · exfalso; omega
  have mid : ∀ (n2 : Nat), N + 1 ≤ n2 → V l E mL_isWhole 40 n2 Qr jno 135 [(2, 0), (0, σ 5 2), (0, jAd σ i), (0, jmpn σ i), (0, jlgn σ i), (0, 0), (0, 1), (0, i), (0, 106), l9, l10, l11, l12, l13] [(0, jAd σ (i + 1))] σ := by
    intro n2 hn2
    refine V.istore (L' := [_, _, _, _, _, _, _, _, _, _, _, _, _, _]) dL_isWhole_135 rfl rfl ?_
    refine V.aload_n dL_isWhole_137 rfl ?_
    refine V.iload dL_isWhole_138 rfl ?_
    refine V.cA [_, _] rfl kc_L_219 dL_isWhole_140 (by decide) (by omega) rfl rfl (ws_target hW hi hr) (fun _ => ?_)
    refine V.istore (L' := [_, _, _, _, _, _, _, _, _, _, _, _, _, _]) dL_isWhole_143 rfl rfl ?_
    refine V.iload dL_isWhole_145 rfl ?_
    refine V.if_ge (tgt := 154) dL_isWhole_147 (by decide) (fun hh => ?_) (fun hh => ?_)
    · refine V.aload_n dL_isWhole_154 rfl ?_
      refine V.iload dL_isWhole_155 rfl ?_
      refine V.cA [_, _] rfl kc_L_217 dL_isWhole_157 (by decide) (by omega) rfl rfl (ws_addressOf hW ht.1) (fun _ => ?_)
      refine V.istore (L' := [_, _, _, _, _, _, _, _, _, _, _, _, _, _]) dL_isWhole_160 rfl rfl ?_
      refine V.iload dL_isWhole_162 rfl ?_
      refine V.bipush dL_isWhole_164 ⟨by decide, by decide⟩ ?_
      refine V.icmp_eq (tgt := 183) dL_isWhole_166 (by decide) (fun hh => ?_) (fun hh => ?_)
      · refine V.iconst dL_isWhole_183 ⟨by decide, by decide⟩ ?_
        refine V.goto (tgt := 188) dL_isWhole_184 (by decide) ?_
        refine V.istore (L' := [_, _, _, _, _, _, _, _, _, _, _, _, _, _]) dL_isWhole_188 rfl rfl ?_
        refine V.aload_n dL_isWhole_190 rfl ?_
        refine V.iload dL_isWhole_191 rfl ?_
        refine V.cA [_, _] rfl kc_L_217 dL_isWhole_193 (by decide) (by omega) rfl rfl (ws_addressOf hW hi) (fun _ => ?_)
        refine V.iload_n dL_isWhole_196 rfl ?_
        refine V.icmp_ne (tgt := 258) dL_isWhole_197 (by decide) (fun hh => ?_) (fun hh => ?_)
        · exfalso; omega
        · refine V.aload_n dL_isWhole_200 rfl ?_
          refine V.iload dL_isWhole_201 rfl ?_
          refine V.cA [_, _] rfl kc_L_221 dL_isWhole_203 (by decide) (by omega) rfl rfl (ws_adding hW hi) (fun _ => ?_)
          refine V.iload_n dL_isWhole_206 rfl ?_
          refine V.icmp_ne (tgt := 258) dL_isWhole_207 (by decide) (fun hh => ?_) (fun hh => ?_)
          · exfalso; omega
          · refine V.aload_n dL_isWhole_210 rfl ?_
            refine V.iload dL_isWhole_211 rfl ?_
            refine V.cA [_, _] rfl kc_L_223 dL_isWhole_213 (by decide) (by omega) rfl rfl (ws_line hW hi) (fun _ => ?_)
            refine V.if_lt (tgt := 258) dL_isWhole_216 (by decide) (fun hh => ?_) (fun hh => ?_)
            · exfalso; omega
            · refine V.aload_n dL_isWhole_219 rfl ?_
              refine V.iload dL_isWhole_220 rfl ?_
              refine V.cA [_, _] rfl kc_L_225 dL_isWhole_222 (by decide) (by omega) rfl rfl (ws_depth hW hi) (fun _ => ?_)
              refine V.if_lt (tgt := 258) dL_isWhole_225 (by decide) (fun hh => ?_) (fun hh => ?_)
              · exfalso; omega
              · refine V.iload dL_isWhole_228 rfl ?_
                refine V.if_eq (tgt := 247) dL_isWhole_230 (by decide) (fun hh => ?_) (fun hh => ?_)
                · exfalso; omega
                · refine V.aload_n dL_isWhole_233 rfl ?_
                  refine V.iload dL_isWhole_234 rfl ?_
                  refine V.cA [_, _] rfl kc_L_215 dL_isWhole_236 (by decide) (by omega) rfl rfl (ws_kind hW ht.1 ht.2) (fun _ => ?_)
                  refine V.bipush dL_isWhole_239 ⟨by decide, by decide⟩ ?_
                  refine V.icmp_ne (tgt := 258) dL_isWhole_241 (by decide) (fun hh => ?_) (fun hh => ?_)
                  · exfalso; omega
                  · refine V.goto (tgt := 254) dL_isWhole_244 (by decide) ?_
                    refine V.iconst dL_isWhole_254 ⟨by decide, by decide⟩ ?_
                    refine V.goto (tgt := 259) dL_isWhole_255 (by decide) ?_
                    refine V.istore (L' := [_, _, _, _, _, _, _, _, _, _, _, _, _, _]) dL_isWhole_259 rfl rfl ?_
                    refine V.iload dL_isWhole_261 rfl ?_
                    refine V.iload dL_isWhole_263 rfl ?_
                    refine V.bipush dL_isWhole_265 ⟨by decide, by decide⟩ ?_
                    refine V.icmp_ne (tgt := 284) dL_isWhole_267 (by decide) (fun hh => ?_) (fun hh => ?_)
                    · refine V.iload dL_isWhole_284 rfl ?_
                      refine V.bipush dL_isWhole_286 ⟨by decide, by decide⟩ ?_
                      refine V.icmp_ne (tgt := 330) dL_isWhole_288 (by decide) (fun hh => ?_) (fun hh => ?_)
                      · refine V.iload dL_isWhole_330 rfl ?_
                        refine V.bipush dL_isWhole_332 ⟨by decide, by decide⟩ ?_
                        refine V.icmp_ne (tgt := 354) dL_isWhole_334 (by decide) (fun hh => ?_) (fun hh => ?_)
                        · refine V.iload dL_isWhole_354 rfl ?_
                          refine V.iload_n dL_isWhole_356 rfl ?_
                          refine V.iconst dL_isWhole_357 ⟨by decide, by decide⟩ ?_
                          refine V.iadd dL_isWhole_358 ⟨(by omega), (by omega)⟩ ?_
                          refine V.icmp_ne (tgt := 366) dL_isWhole_359 (by decide) (fun hh => ?_) (fun hh => ?_)
                          · exfalso; omega
                          · refine V.iconst dL_isWhole_362 ⟨by decide, by decide⟩ ?_
                            refine V.goto (tgt := 367) dL_isWhole_363 (by decide) ?_
                            refine V.iandB dL_isWhole_367 (Or.inr rfl) (Or.inr rfl) ?_
                            rw [if_pos ⟨rfl, rfl⟩]
                            refine V.istore (L' := [_, _, _, _, _, _, _, _, _, _, _, _, _, _]) dL_isWhole_368 rfl rfl ?_
                            refine V.iload dL_isWhole_370 rfl ?_
                            refine V.iload dL_isWhole_372 rfl ?_
                            refine V.bipush dL_isWhole_374 ⟨by decide, by decide⟩ ?_
                            refine V.icmp_ne (tgt := 417) dL_isWhole_376 (by decide) (fun hh => ?_) (fun hh => ?_)
                            · exfalso; omega
                            · refine V.iload dL_isWhole_379 rfl ?_
                              refine V.iload_n dL_isWhole_381 rfl ?_
                              refine V.isub dL_isWhole_382 ⟨(by omega), (by omega)⟩ ?_
                              refine V.iconst dL_isWhole_383 ⟨by decide, by decide⟩ ?_
                              refine V.isub dL_isWhole_384 ⟨(by omega), (by omega)⟩ ?_
                              refine V.bipush dL_isWhole_385 ⟨by decide, by decide⟩ ?_
                              refine V.icmp_lt (tgt := 421) dL_isWhole_387 (by decide) (fun hh => ?_) (fun hh => ?_)
                              · exfalso; omega
                              · refine V.iload dL_isWhole_390 rfl ?_
                                refine V.iload_n dL_isWhole_392 rfl ?_
                                refine V.isub dL_isWhole_393 ⟨(by omega), (by omega)⟩ ?_
                                refine V.iconst dL_isWhole_394 ⟨by decide, by decide⟩ ?_
                                refine V.isub dL_isWhole_395 ⟨(by omega), (by omega)⟩ ?_
                                refine V.bipush dL_isWhole_396 ⟨by decide, by decide⟩ ?_
                                refine V.icmp_gt (tgt := 421) dL_isWhole_398 (by decide) (fun hh => ?_) (fun hh => ?_)
                                · exfalso; omega
                                · refine V.aload_n dL_isWhole_401 rfl ?_
                                  refine V.iload_n dL_isWhole_402 rfl ?_
                                  refine V.cA [_, _] rfl kc_L_201 dL_isWhole_403 (by decide) (by omega) rfl rfl (ws_word hW (by omega)) (fun _ => ?_)
                                  refine V.sipush dL_isWhole_406 ⟨by decide, by decide⟩ ?_
                                  refine V.iload dL_isWhole_409 rfl ?_
                                  refine V.iadd dL_isWhole_411 ⟨(by omega), (by omega)⟩ ?_
                                  refine V.iload_n dL_isWhole_412 rfl ?_
                                  refine V.isub dL_isWhole_413 ⟨(by omega), (by omega)⟩ ?_
                                  refine V.icmp_ne (tgt := 421) dL_isWhole_414 (by decide) (fun hh => ?_) (fun hh => ?_)
                                  · exfalso; omega
                                  · refine V.iconst dL_isWhole_417 ⟨by decide, by decide⟩ ?_
                                    refine V.goto (tgt := 422) dL_isWhole_418 (by decide) ?_
                                    refine V.iandB dL_isWhole_422 (Or.inr rfl) (Or.inr rfl) ?_
                                    rw [if_pos ⟨rfl, rfl⟩]
                                    refine V.istore (L' := [_, _, _, _, _, _, _, _, _, _, _, _, _, _]) dL_isWhole_423 rfl rfl ?_
                                    refine V.iload dL_isWhole_425 rfl ?_
                                    refine V.iload dL_isWhole_427 rfl ?_
                                    refine V.bipush dL_isWhole_429 ⟨by decide, by decide⟩ ?_
                                    refine V.icmp_ne (tgt := 444) dL_isWhole_431 (by decide) (fun hh => ?_) (fun hh => ?_)
                                    · refine V.iconst dL_isWhole_444 ⟨by decide, by decide⟩ ?_
                                      refine V.goto (tgt := 449) dL_isWhole_445 (by decide) ?_
                                      refine V.iandB dL_isWhole_449 (Or.inr rfl) (Or.inr rfl) ?_
                                      rw [if_pos ⟨rfl, rfl⟩]
                                      refine V.istore (L' := [_, _, _, _, _, _, _, _, _, _, _, _, _, _]) dL_isWhole_450 rfl rfl ?_
                                      refine V.iload_n dL_isWhole_452 rfl ?_
                                      refine V.istore (L' := [_, _, _, _, _, _, _, _, _, _, _, _, _, _]) dL_isWhole_453 rfl rfl ?_
                                      refine V.iload dL_isWhole_455 rfl ?_
                                      refine V.bipush dL_isWhole_457 ⟨by decide, by decide⟩ ?_
                                      refine V.icmp_ne (tgt := 494) dL_isWhole_459 (by decide) (fun hh => ?_) (fun hh => ?_)
                                      · exact tail _ (0, 0) _ _ _ _ (by omega)
                                      · exfalso; omega
                                    · exfalso; omega
                        · exfalso; omega
                      · exfalso; omega
                    · exfalso; omega
      · exfalso; omega
    · exfalso; omega
  refine V.istore (L' := [_, _, _, _, _, _, _, _, _, _, _, _, _, _]) dL_isWhole_110 rfl rfl ?_
  refine V.iload dL_isWhole_112 rfl ?_
  refine V.iconst dL_isWhole_114 ⟨by decide, by decide⟩ ?_
  refine V.iadd dL_isWhole_115 ⟨(by omega), (by omega)⟩ ?_
  refine V.aload_n dL_isWhole_116 rfl ?_
  refine V.cA [_] rfl kc_L_199 dL_isWhole_117 (by decide) (by omega) rfl rfl (ws_items hW) (fun _ => ?_)
  refine V.icmp_ge (tgt := 134) dL_isWhole_120 (by decide) (fun h120 => ?_) (fun h120 => ?_)
  · refine V.iload_n dL_isWhole_134 rfl ?_
    first
    | exact mid _ (by omega)
    | (rw [show σ 5 2 = jAd σ (i + 1) by rw [ww]; congr 1; omega] at mid ⊢; exact mid _ (by omega))
  · refine V.aload_n dL_isWhole_123 rfl ?_
    refine V.iload dL_isWhole_124 rfl ?_
    refine V.iconst dL_isWhole_126 ⟨by decide, by decide⟩ ?_
    refine V.iadd dL_isWhole_127 ⟨(by omega), (by omega)⟩ ?_
    refine V.cA [_, _] rfl kc_L_217 dL_isWhole_128 (by decide) (by omega) rfl rfl (ws_addressOf hW (x := i + 1) (by omega)) (fun _ => ?_)
    refine V.goto (tgt := 135) dL_isWhole_131 (by decide) ?_
    first
    | exact mid _ (by omega)
    | (rw [show σ 5 2 = jAd σ (i + 1) by rw [ww]; congr 1; omega] at mid ⊢; exact mid _ (by omega))
theorem wk_74 (hW : jWh σ) (hi : 0 ≤ i ∧ i < σ 2 6) (hk : σ 16 i = 74) {N : Nat} (hn : N + 1 ≤ nn) (kk : jWL l E Qr σ N (i + 1)) : V l E mL_isWhole 40 nn Qr jno 110 [(2, 0), (0, σ 5 2), (0, jAd σ i), (0, jmpn σ i), (0, jlgn σ i), (0, 0), (0, 1), (0, i), l8, l9, l10, l11, l12, l13] [(0, 74)] σ := by
  have b := hW.b hi
  have bn := hW.n
  have bw := hW.w1
  have ww := hW.w
  have mb := jmpn_b (σ := σ) hi.1
  have it := hW.it hi
  have e1 := jmpn_s (σ := σ) hi.1
  have e2 := jlgn_s (σ := σ) hi.1
  rw [hk] at e1 e2
  have e1 : jmpn σ (i + 1) = jmpn σ i + 1 := e1
  have e2 : jlgn σ (i + 1) = jlgn σ i + 1 := e2
  have hr : σ 16 i = 106 ∨ σ 16 i = 74 ∨ σ 16 i = 97 := by omega
  have ht := wf_t hW hi hr
  have bt := hW.b ht.1
  have f0 := wf_74 hW hi hk
  have tail : ∀ (n2 : Nat) (m9 m10 m11 m12 m13 : JV), N ≤ n2 → V l E mL_isWhole 40 n2 Qr jno 494 [(2, 0), (0, σ 5 2), (0, jAd σ i), (0, jmpn σ i), (0, jlgn σ i), (0, 0), (0, 1), (0, i), (0, 74), (0, jAd σ (i + 1)), m10, m11, m12, m13] [] σ := by
    intro n2 m9 m10 m11 m12 m13 hn2
    refine V.iload_n dL_isWhole_494 rfl ?_
    refine V.iload dL_isWhole_495 rfl ?_
    refine V.bipush dL_isWhole_497 ⟨by decide, by decide⟩ ?_
    refine V.icmp_eq (tgt := 509) dL_isWhole_499 (by decide) (fun hh => ?_) (fun hh => ?_)
    · exfalso; omega
    · refine V.iload dL_isWhole_502 rfl ?_
      refine V.bipush dL_isWhole_504 ⟨by decide, by decide⟩ ?_
      refine V.icmp_ne (tgt := 513) dL_isWhole_506 (by decide) (fun hh => ?_) (fun hh => ?_)
      · exfalso; omega
      · refine V.iconst dL_isWhole_509 ⟨by decide, by decide⟩ ?_
        refine V.goto (tgt := 514) dL_isWhole_510 (by decide) ?_
        refine V.iadd dL_isWhole_514 ⟨(by omega), (by omega)⟩ ?_
        refine V.istore_n (L' := [_, _, _, _, _, _, _, _, _, _, _, _, _, _]) dL_isWhole_515 rfl rfl ?_
        refine V.iload dL_isWhole_516 rfl ?_
        refine V.iload dL_isWhole_518 rfl ?_
        refine V.bipush dL_isWhole_520 ⟨by decide, by decide⟩ ?_
        refine V.icmp_ne (tgt := 529) dL_isWhole_522 (by decide) (fun hh => ?_) (fun hh => ?_)
        · exfalso; omega
        · refine V.iconst dL_isWhole_525 ⟨by decide, by decide⟩ ?_
          refine V.goto (tgt := 530) dL_isWhole_526 (by decide) ?_
          refine V.iadd dL_isWhole_530 ⟨(by omega), (by omega)⟩ ?_
          refine V.istore (L' := [_, _, _, _, _, _, _, _, _, _, _, _, _, _]) dL_isWhole_531 rfl rfl ?_
          refine V.iload dL_isWhole_533 rfl ?_
          refine V.istore_n (L' := [_, _, _, _, _, _, _, _, _, _, _, _, _, _]) dL_isWhole_535 rfl rfl ?_
          refine V.iinc (L' := [_, _, _, _, _, _, _, _, _, _, _, _, _, _]) dL_isWhole_536 rfl ⟨(by omega), (by omega)⟩ rfl ?_
          refine V.goto (tgt := 90) dL_isWhole_539 (by decide) ?_
          have key := kk n2 (0, 74) (0, jAd σ (i + 1)) m10 m11 m12 m13 hn2
          rw [e1, e2] at key
          exact key
  have mid : ∀ (n2 : Nat), N + 1 ≤ n2 → V l E mL_isWhole 40 n2 Qr jno 135 [(2, 0), (0, σ 5 2), (0, jAd σ i), (0, jmpn σ i), (0, jlgn σ i), (0, 0), (0, 1), (0, i), (0, 74), l9, l10, l11, l12, l13] [(0, jAd σ (i + 1))] σ := by
    intro n2 hn2
    refine V.istore (L' := [_, _, _, _, _, _, _, _, _, _, _, _, _, _]) dL_isWhole_135 rfl rfl ?_
    refine V.aload_n dL_isWhole_137 rfl ?_
    refine V.iload dL_isWhole_138 rfl ?_
    refine V.cA [_, _] rfl kc_L_219 dL_isWhole_140 (by decide) (by omega) rfl rfl (ws_target hW hi hr) (fun _ => ?_)
    refine V.istore (L' := [_, _, _, _, _, _, _, _, _, _, _, _, _, _]) dL_isWhole_143 rfl rfl ?_
    refine V.iload dL_isWhole_145 rfl ?_
    refine V.if_ge (tgt := 154) dL_isWhole_147 (by decide) (fun hh => ?_) (fun hh => ?_)
    · refine V.aload_n dL_isWhole_154 rfl ?_
      refine V.iload dL_isWhole_155 rfl ?_
      refine V.cA [_, _] rfl kc_L_217 dL_isWhole_157 (by decide) (by omega) rfl rfl (ws_addressOf hW ht.1) (fun _ => ?_)
      refine V.istore (L' := [_, _, _, _, _, _, _, _, _, _, _, _, _, _]) dL_isWhole_160 rfl rfl ?_
      refine V.iload dL_isWhole_162 rfl ?_
      refine V.bipush dL_isWhole_164 ⟨by decide, by decide⟩ ?_
      refine V.icmp_eq (tgt := 183) dL_isWhole_166 (by decide) (fun hh => ?_) (fun hh => ?_)
      · exfalso; omega
      · refine V.iload dL_isWhole_169 rfl ?_
        refine V.bipush dL_isWhole_171 ⟨by decide, by decide⟩ ?_
        refine V.icmp_eq (tgt := 183) dL_isWhole_173 (by decide) (fun hh => ?_) (fun hh => ?_)
        · refine V.iconst dL_isWhole_183 ⟨by decide, by decide⟩ ?_
          refine V.goto (tgt := 188) dL_isWhole_184 (by decide) ?_
          refine V.istore (L' := [_, _, _, _, _, _, _, _, _, _, _, _, _, _]) dL_isWhole_188 rfl rfl ?_
          refine V.aload_n dL_isWhole_190 rfl ?_
          refine V.iload dL_isWhole_191 rfl ?_
          refine V.cA [_, _] rfl kc_L_217 dL_isWhole_193 (by decide) (by omega) rfl rfl (ws_addressOf hW hi) (fun _ => ?_)
          refine V.iload_n dL_isWhole_196 rfl ?_
          refine V.icmp_ne (tgt := 258) dL_isWhole_197 (by decide) (fun hh => ?_) (fun hh => ?_)
          · exfalso; omega
          · refine V.aload_n dL_isWhole_200 rfl ?_
            refine V.iload dL_isWhole_201 rfl ?_
            refine V.cA [_, _] rfl kc_L_221 dL_isWhole_203 (by decide) (by omega) rfl rfl (ws_adding hW hi) (fun _ => ?_)
            refine V.iload_n dL_isWhole_206 rfl ?_
            refine V.icmp_ne (tgt := 258) dL_isWhole_207 (by decide) (fun hh => ?_) (fun hh => ?_)
            · exfalso; omega
            · refine V.aload_n dL_isWhole_210 rfl ?_
              refine V.iload dL_isWhole_211 rfl ?_
              refine V.cA [_, _] rfl kc_L_223 dL_isWhole_213 (by decide) (by omega) rfl rfl (ws_line hW hi) (fun _ => ?_)
              refine V.if_lt (tgt := 258) dL_isWhole_216 (by decide) (fun hh => ?_) (fun hh => ?_)
              · exfalso; omega
              · refine V.aload_n dL_isWhole_219 rfl ?_
                refine V.iload dL_isWhole_220 rfl ?_
                refine V.cA [_, _] rfl kc_L_225 dL_isWhole_222 (by decide) (by omega) rfl rfl (ws_depth hW hi) (fun _ => ?_)
                refine V.if_lt (tgt := 258) dL_isWhole_225 (by decide) (fun hh => ?_) (fun hh => ?_)
                · exfalso; omega
                · refine V.iload dL_isWhole_228 rfl ?_
                  refine V.if_eq (tgt := 247) dL_isWhole_230 (by decide) (fun hh => ?_) (fun hh => ?_)
                  · exfalso; omega
                  · refine V.aload_n dL_isWhole_233 rfl ?_
                    refine V.iload dL_isWhole_234 rfl ?_
                    refine V.cA [_, _] rfl kc_L_215 dL_isWhole_236 (by decide) (by omega) rfl rfl (ws_kind hW ht.1 ht.2) (fun _ => ?_)
                    refine V.bipush dL_isWhole_239 ⟨by decide, by decide⟩ ?_
                    refine V.icmp_ne (tgt := 258) dL_isWhole_241 (by decide) (fun hh => ?_) (fun hh => ?_)
                    · exfalso; omega
                    · refine V.goto (tgt := 254) dL_isWhole_244 (by decide) ?_
                      refine V.iconst dL_isWhole_254 ⟨by decide, by decide⟩ ?_
                      refine V.goto (tgt := 259) dL_isWhole_255 (by decide) ?_
                      refine V.istore (L' := [_, _, _, _, _, _, _, _, _, _, _, _, _, _]) dL_isWhole_259 rfl rfl ?_
                      refine V.iload dL_isWhole_261 rfl ?_
                      refine V.iload dL_isWhole_263 rfl ?_
                      refine V.bipush dL_isWhole_265 ⟨by decide, by decide⟩ ?_
                      refine V.icmp_ne (tgt := 284) dL_isWhole_267 (by decide) (fun hh => ?_) (fun hh => ?_)
                      · refine V.iload dL_isWhole_284 rfl ?_
                        refine V.bipush dL_isWhole_286 ⟨by decide, by decide⟩ ?_
                        refine V.icmp_ne (tgt := 330) dL_isWhole_288 (by decide) (fun hh => ?_) (fun hh => ?_)
                        · exfalso; omega
                        · refine V.iload dL_isWhole_291 rfl ?_
                          refine V.iload_n dL_isWhole_293 rfl ?_
                          refine V.iconst dL_isWhole_294 ⟨by decide, by decide⟩ ?_
                          refine V.iadd dL_isWhole_295 ⟨(by omega), (by omega)⟩ ?_
                          refine V.icmp_ne (tgt := 326) dL_isWhole_296 (by decide) (fun hh => ?_) (fun hh => ?_)
                          · exfalso; omega
                          · refine V.aload_n dL_isWhole_299 rfl ?_
                            refine V.iload_n dL_isWhole_300 rfl ?_
                            refine V.cA [_, _] rfl kc_L_201 dL_isWhole_301 (by decide) (by omega) rfl rfl (ws_word hW (by omega)) (fun _ => ?_)
                            refine V.sipush dL_isWhole_304 ⟨by decide, by decide⟩ ?_
                            refine V.icmp_ne (tgt := 326) dL_isWhole_307 (by decide) (fun hh => ?_) (fun hh => ?_)
                            · exfalso; omega
                            · refine V.aload_n dL_isWhole_310 rfl ?_
                              refine V.iload_n dL_isWhole_311 rfl ?_
                              refine V.iconst dL_isWhole_312 ⟨by decide, by decide⟩ ?_
                              refine V.iadd dL_isWhole_313 ⟨(by omega), (by omega)⟩ ?_
                              refine V.cA [_, _] rfl kc_L_201 dL_isWhole_314 (by decide) (by omega) rfl rfl (ws_word hW (by omega)) (fun _ => ?_)
                              refine V.iload dL_isWhole_317 rfl ?_
                              refine V.icmp_ne (tgt := 326) dL_isWhole_319 (by decide) (fun hh => ?_) (fun hh => ?_)
                              · exfalso; omega
                              · refine V.iconst dL_isWhole_322 ⟨by decide, by decide⟩ ?_
                                refine V.goto (tgt := 367) dL_isWhole_323 (by decide) ?_
                                refine V.iandB dL_isWhole_367 (Or.inr rfl) (Or.inr rfl) ?_
                                rw [if_pos ⟨rfl, rfl⟩]
                                refine V.istore (L' := [_, _, _, _, _, _, _, _, _, _, _, _, _, _]) dL_isWhole_368 rfl rfl ?_
                                refine V.iload dL_isWhole_370 rfl ?_
                                refine V.iload dL_isWhole_372 rfl ?_
                                refine V.bipush dL_isWhole_374 ⟨by decide, by decide⟩ ?_
                                refine V.icmp_ne (tgt := 417) dL_isWhole_376 (by decide) (fun hh => ?_) (fun hh => ?_)
                                · refine V.iconst dL_isWhole_417 ⟨by decide, by decide⟩ ?_
                                  refine V.goto (tgt := 422) dL_isWhole_418 (by decide) ?_
                                  refine V.iandB dL_isWhole_422 (Or.inr rfl) (Or.inr rfl) ?_
                                  rw [if_pos ⟨rfl, rfl⟩]
                                  refine V.istore (L' := [_, _, _, _, _, _, _, _, _, _, _, _, _, _]) dL_isWhole_423 rfl rfl ?_
                                  refine V.iload dL_isWhole_425 rfl ?_
                                  refine V.iload dL_isWhole_427 rfl ?_
                                  refine V.bipush dL_isWhole_429 ⟨by decide, by decide⟩ ?_
                                  refine V.icmp_ne (tgt := 444) dL_isWhole_431 (by decide) (fun hh => ?_) (fun hh => ?_)
                                  · refine V.iconst dL_isWhole_444 ⟨by decide, by decide⟩ ?_
                                    refine V.goto (tgt := 449) dL_isWhole_445 (by decide) ?_
                                    refine V.iandB dL_isWhole_449 (Or.inr rfl) (Or.inr rfl) ?_
                                    rw [if_pos ⟨rfl, rfl⟩]
                                    refine V.istore (L' := [_, _, _, _, _, _, _, _, _, _, _, _, _, _]) dL_isWhole_450 rfl rfl ?_
                                    refine V.iload_n dL_isWhole_452 rfl ?_
                                    refine V.istore (L' := [_, _, _, _, _, _, _, _, _, _, _, _, _, _]) dL_isWhole_453 rfl rfl ?_
                                    refine V.iload dL_isWhole_455 rfl ?_
                                    refine V.bipush dL_isWhole_457 ⟨by decide, by decide⟩ ?_
                                    refine V.icmp_ne (tgt := 494) dL_isWhole_459 (by decide) (fun hh => ?_) (fun hh => ?_)
                                    · exact tail _ (0, 0) _ _ _ _ (by omega)
                                    · exfalso; omega
                                  · exfalso; omega
                                · exfalso; omega
                      · exfalso; omega
        · exfalso; omega
    · exfalso; omega
  refine V.istore (L' := [_, _, _, _, _, _, _, _, _, _, _, _, _, _]) dL_isWhole_110 rfl rfl ?_
  refine V.iload dL_isWhole_112 rfl ?_
  refine V.iconst dL_isWhole_114 ⟨by decide, by decide⟩ ?_
  refine V.iadd dL_isWhole_115 ⟨(by omega), (by omega)⟩ ?_
  refine V.aload_n dL_isWhole_116 rfl ?_
  refine V.cA [_] rfl kc_L_199 dL_isWhole_117 (by decide) (by omega) rfl rfl (ws_items hW) (fun _ => ?_)
  refine V.icmp_ge (tgt := 134) dL_isWhole_120 (by decide) (fun h120 => ?_) (fun h120 => ?_)
  · refine V.iload_n dL_isWhole_134 rfl ?_
    first
    | exact mid _ (by omega)
    | (rw [show σ 5 2 = jAd σ (i + 1) by rw [ww]; congr 1; omega] at mid ⊢; exact mid _ (by omega))
  · refine V.aload_n dL_isWhole_123 rfl ?_
    refine V.iload dL_isWhole_124 rfl ?_
    refine V.iconst dL_isWhole_126 ⟨by decide, by decide⟩ ?_
    refine V.iadd dL_isWhole_127 ⟨(by omega), (by omega)⟩ ?_
    refine V.cA [_, _] rfl kc_L_217 dL_isWhole_128 (by decide) (by omega) rfl rfl (ws_addressOf hW (x := i + 1) (by omega)) (fun _ => ?_)
    refine V.goto (tgt := 135) dL_isWhole_131 (by decide) ?_
    first
    | exact mid _ (by omega)
    | (rw [show σ 5 2 = jAd σ (i + 1) by rw [ww]; congr 1; omega] at mid ⊢; exact mid _ (by omega))
theorem wk_97 (hW : jWh σ) (hi : 0 ≤ i ∧ i < σ 2 6) (hk : σ 16 i = 97) {N : Nat} (hn : N + 1 ≤ nn) (kk : jWL l E Qr σ N (i + 1)) : V l E mL_isWhole 40 nn Qr jno 110 [(2, 0), (0, σ 5 2), (0, jAd σ i), (0, jmpn σ i), (0, jlgn σ i), (0, 0), (0, 1), (0, i), l8, l9, l10, l11, l12, l13] [(0, 97)] σ := by
  have b := hW.b hi
  have bn := hW.n
  have bw := hW.w1
  have ww := hW.w
  have mb := jmpn_b (σ := σ) hi.1
  have it := hW.it hi
  have e1 := jmpn_s (σ := σ) hi.1
  have e2 := jlgn_s (σ := σ) hi.1
  rw [hk] at e1 e2
  have e1 : jmpn σ (i + 1) = jmpn σ i + 0 := e1
  have e2 : jlgn σ (i + 1) = jlgn σ i + 0 := e2
  have hr : σ 16 i = 106 ∨ σ 16 i = 74 ∨ σ 16 i = 97 := by omega
  have ht := wf_t hW hi hr
  have bt := hW.b ht.1
  have f0 := wf_1 hW hi (by omega)
  have f1 := wf_97 hW hi hk
  have tail : ∀ (n2 : Nat) (m9 m10 m11 m12 m13 : JV), N ≤ n2 → V l E mL_isWhole 40 n2 Qr jno 494 [(2, 0), (0, σ 5 2), (0, jAd σ i), (0, jmpn σ i), (0, jlgn σ i), (0, 0), (0, 1), (0, i), (0, 97), (0, jAd σ (i + 1)), m10, m11, m12, m13] [] σ := by
    intro n2 m9 m10 m11 m12 m13 hn2
    refine V.iload_n dL_isWhole_494 rfl ?_
    refine V.iload dL_isWhole_495 rfl ?_
    refine V.bipush dL_isWhole_497 ⟨by decide, by decide⟩ ?_
    refine V.icmp_eq (tgt := 509) dL_isWhole_499 (by decide) (fun hh => ?_) (fun hh => ?_)
    · exfalso; omega
    · refine V.iload dL_isWhole_502 rfl ?_
      refine V.bipush dL_isWhole_504 ⟨by decide, by decide⟩ ?_
      refine V.icmp_ne (tgt := 513) dL_isWhole_506 (by decide) (fun hh => ?_) (fun hh => ?_)
      · refine V.iconst dL_isWhole_513 ⟨by decide, by decide⟩ ?_
        refine V.iadd dL_isWhole_514 ⟨(by omega), (by omega)⟩ ?_
        refine V.istore_n (L' := [_, _, _, _, _, _, _, _, _, _, _, _, _, _]) dL_isWhole_515 rfl rfl ?_
        refine V.iload dL_isWhole_516 rfl ?_
        refine V.iload dL_isWhole_518 rfl ?_
        refine V.bipush dL_isWhole_520 ⟨by decide, by decide⟩ ?_
        refine V.icmp_ne (tgt := 529) dL_isWhole_522 (by decide) (fun hh => ?_) (fun hh => ?_)
        · refine V.iconst dL_isWhole_529 ⟨by decide, by decide⟩ ?_
          refine V.iadd dL_isWhole_530 ⟨(by omega), (by omega)⟩ ?_
          refine V.istore (L' := [_, _, _, _, _, _, _, _, _, _, _, _, _, _]) dL_isWhole_531 rfl rfl ?_
          refine V.iload dL_isWhole_533 rfl ?_
          refine V.istore_n (L' := [_, _, _, _, _, _, _, _, _, _, _, _, _, _]) dL_isWhole_535 rfl rfl ?_
          refine V.iinc (L' := [_, _, _, _, _, _, _, _, _, _, _, _, _, _]) dL_isWhole_536 rfl ⟨(by omega), (by omega)⟩ rfl ?_
          refine V.goto (tgt := 90) dL_isWhole_539 (by decide) ?_
          have key := kk n2 (0, 97) (0, jAd σ (i + 1)) m10 m11 m12 m13 hn2
          rw [e1, e2] at key
          exact key
        · exfalso; omega
      · exfalso; omega
  have mid : ∀ (n2 : Nat), N + 1 ≤ n2 → V l E mL_isWhole 40 n2 Qr jno 135 [(2, 0), (0, σ 5 2), (0, jAd σ i), (0, jmpn σ i), (0, jlgn σ i), (0, 0), (0, 1), (0, i), (0, 97), l9, l10, l11, l12, l13] [(0, jAd σ (i + 1))] σ := by
    intro n2 hn2
    refine V.istore (L' := [_, _, _, _, _, _, _, _, _, _, _, _, _, _]) dL_isWhole_135 rfl rfl ?_
    refine V.aload_n dL_isWhole_137 rfl ?_
    refine V.iload dL_isWhole_138 rfl ?_
    refine V.cA [_, _] rfl kc_L_219 dL_isWhole_140 (by decide) (by omega) rfl rfl (ws_target hW hi hr) (fun _ => ?_)
    refine V.istore (L' := [_, _, _, _, _, _, _, _, _, _, _, _, _, _]) dL_isWhole_143 rfl rfl ?_
    refine V.iload dL_isWhole_145 rfl ?_
    refine V.if_ge (tgt := 154) dL_isWhole_147 (by decide) (fun hh => ?_) (fun hh => ?_)
    · refine V.aload_n dL_isWhole_154 rfl ?_
      refine V.iload dL_isWhole_155 rfl ?_
      refine V.cA [_, _] rfl kc_L_217 dL_isWhole_157 (by decide) (by omega) rfl rfl (ws_addressOf hW ht.1) (fun _ => ?_)
      refine V.istore (L' := [_, _, _, _, _, _, _, _, _, _, _, _, _, _]) dL_isWhole_160 rfl rfl ?_
      refine V.iload dL_isWhole_162 rfl ?_
      refine V.bipush dL_isWhole_164 ⟨by decide, by decide⟩ ?_
      refine V.icmp_eq (tgt := 183) dL_isWhole_166 (by decide) (fun hh => ?_) (fun hh => ?_)
      · exfalso; omega
      · refine V.iload dL_isWhole_169 rfl ?_
        refine V.bipush dL_isWhole_171 ⟨by decide, by decide⟩ ?_
        refine V.icmp_eq (tgt := 183) dL_isWhole_173 (by decide) (fun hh => ?_) (fun hh => ?_)
        · exfalso; omega
        · refine V.iload dL_isWhole_176 rfl ?_
          refine V.bipush dL_isWhole_178 ⟨by decide, by decide⟩ ?_
          refine V.icmp_ne (tgt := 187) dL_isWhole_180 (by decide) (fun hh => ?_) (fun hh => ?_)
          · exfalso; omega
          · refine V.iconst dL_isWhole_183 ⟨by decide, by decide⟩ ?_
            refine V.goto (tgt := 188) dL_isWhole_184 (by decide) ?_
            refine V.istore (L' := [_, _, _, _, _, _, _, _, _, _, _, _, _, _]) dL_isWhole_188 rfl rfl ?_
            refine V.aload_n dL_isWhole_190 rfl ?_
            refine V.iload dL_isWhole_191 rfl ?_
            refine V.cA [_, _] rfl kc_L_217 dL_isWhole_193 (by decide) (by omega) rfl rfl (ws_addressOf hW hi) (fun _ => ?_)
            refine V.iload_n dL_isWhole_196 rfl ?_
            refine V.icmp_ne (tgt := 258) dL_isWhole_197 (by decide) (fun hh => ?_) (fun hh => ?_)
            · exfalso; omega
            · refine V.aload_n dL_isWhole_200 rfl ?_
              refine V.iload dL_isWhole_201 rfl ?_
              refine V.cA [_, _] rfl kc_L_221 dL_isWhole_203 (by decide) (by omega) rfl rfl (ws_adding hW hi) (fun _ => ?_)
              refine V.iload_n dL_isWhole_206 rfl ?_
              refine V.icmp_ne (tgt := 258) dL_isWhole_207 (by decide) (fun hh => ?_) (fun hh => ?_)
              · exfalso; omega
              · refine V.aload_n dL_isWhole_210 rfl ?_
                refine V.iload dL_isWhole_211 rfl ?_
                refine V.cA [_, _] rfl kc_L_223 dL_isWhole_213 (by decide) (by omega) rfl rfl (ws_line hW hi) (fun _ => ?_)
                refine V.if_lt (tgt := 258) dL_isWhole_216 (by decide) (fun hh => ?_) (fun hh => ?_)
                · exfalso; omega
                · refine V.aload_n dL_isWhole_219 rfl ?_
                  refine V.iload dL_isWhole_220 rfl ?_
                  refine V.cA [_, _] rfl kc_L_225 dL_isWhole_222 (by decide) (by omega) rfl rfl (ws_depth hW hi) (fun _ => ?_)
                  refine V.if_lt (tgt := 258) dL_isWhole_225 (by decide) (fun hh => ?_) (fun hh => ?_)
                  · exfalso; omega
                  · refine V.iload dL_isWhole_228 rfl ?_
                    refine V.if_eq (tgt := 247) dL_isWhole_230 (by decide) (fun hh => ?_) (fun hh => ?_)
                    · exfalso; omega
                    · refine V.aload_n dL_isWhole_233 rfl ?_
                      refine V.iload dL_isWhole_234 rfl ?_
                      refine V.cA [_, _] rfl kc_L_215 dL_isWhole_236 (by decide) (by omega) rfl rfl (ws_kind hW ht.1 ht.2) (fun _ => ?_)
                      refine V.bipush dL_isWhole_239 ⟨by decide, by decide⟩ ?_
                      refine V.icmp_ne (tgt := 258) dL_isWhole_241 (by decide) (fun hh => ?_) (fun hh => ?_)
                      · exfalso; omega
                      · refine V.goto (tgt := 254) dL_isWhole_244 (by decide) ?_
                        refine V.iconst dL_isWhole_254 ⟨by decide, by decide⟩ ?_
                        refine V.goto (tgt := 259) dL_isWhole_255 (by decide) ?_
                        refine V.istore (L' := [_, _, _, _, _, _, _, _, _, _, _, _, _, _]) dL_isWhole_259 rfl rfl ?_
                        refine V.iload dL_isWhole_261 rfl ?_
                        refine V.iload dL_isWhole_263 rfl ?_
                        refine V.bipush dL_isWhole_265 ⟨by decide, by decide⟩ ?_
                        refine V.icmp_ne (tgt := 284) dL_isWhole_267 (by decide) (fun hh => ?_) (fun hh => ?_)
                        · refine V.iload dL_isWhole_284 rfl ?_
                          refine V.bipush dL_isWhole_286 ⟨by decide, by decide⟩ ?_
                          refine V.icmp_ne (tgt := 330) dL_isWhole_288 (by decide) (fun hh => ?_) (fun hh => ?_)
                          · refine V.iload dL_isWhole_330 rfl ?_
                            refine V.bipush dL_isWhole_332 ⟨by decide, by decide⟩ ?_
                            refine V.icmp_ne (tgt := 354) dL_isWhole_334 (by decide) (fun hh => ?_) (fun hh => ?_)
                            · refine V.iload dL_isWhole_354 rfl ?_
                              refine V.iload_n dL_isWhole_356 rfl ?_
                              refine V.iconst dL_isWhole_357 ⟨by decide, by decide⟩ ?_
                              refine V.iadd dL_isWhole_358 ⟨(by omega), (by omega)⟩ ?_
                              refine V.icmp_ne (tgt := 366) dL_isWhole_359 (by decide) (fun hh => ?_) (fun hh => ?_)
                              · exfalso; omega
                              · refine V.iconst dL_isWhole_362 ⟨by decide, by decide⟩ ?_
                                refine V.goto (tgt := 367) dL_isWhole_363 (by decide) ?_
                                refine V.iandB dL_isWhole_367 (Or.inr rfl) (Or.inr rfl) ?_
                                rw [if_pos ⟨rfl, rfl⟩]
                                refine V.istore (L' := [_, _, _, _, _, _, _, _, _, _, _, _, _, _]) dL_isWhole_368 rfl rfl ?_
                                refine V.iload dL_isWhole_370 rfl ?_
                                refine V.iload dL_isWhole_372 rfl ?_
                                refine V.bipush dL_isWhole_374 ⟨by decide, by decide⟩ ?_
                                refine V.icmp_ne (tgt := 417) dL_isWhole_376 (by decide) (fun hh => ?_) (fun hh => ?_)
                                · refine V.iconst dL_isWhole_417 ⟨by decide, by decide⟩ ?_
                                  refine V.goto (tgt := 422) dL_isWhole_418 (by decide) ?_
                                  refine V.iandB dL_isWhole_422 (Or.inr rfl) (Or.inr rfl) ?_
                                  rw [if_pos ⟨rfl, rfl⟩]
                                  refine V.istore (L' := [_, _, _, _, _, _, _, _, _, _, _, _, _, _]) dL_isWhole_423 rfl rfl ?_
                                  refine V.iload dL_isWhole_425 rfl ?_
                                  refine V.iload dL_isWhole_427 rfl ?_
                                  refine V.bipush dL_isWhole_429 ⟨by decide, by decide⟩ ?_
                                  refine V.icmp_ne (tgt := 444) dL_isWhole_431 (by decide) (fun hh => ?_) (fun hh => ?_)
                                  · exfalso; omega
                                  · refine V.aload_n dL_isWhole_434 rfl ?_
                                    refine V.iload_n dL_isWhole_435 rfl ?_
                                    refine V.cA [_, _] rfl kc_L_201 dL_isWhole_436 (by decide) (by omega) rfl rfl (ws_word hW (by omega)) (fun _ => ?_)
                                    refine V.iload dL_isWhole_439 rfl ?_
                                    refine V.icmp_ne (tgt := 448) dL_isWhole_441 (by decide) (fun hh => ?_) (fun hh => ?_)
                                    · exfalso; omega
                                    · refine V.iconst dL_isWhole_444 ⟨by decide, by decide⟩ ?_
                                      refine V.goto (tgt := 449) dL_isWhole_445 (by decide) ?_
                                      refine V.iandB dL_isWhole_449 (Or.inr rfl) (Or.inr rfl) ?_
                                      rw [if_pos ⟨rfl, rfl⟩]
                                      refine V.istore (L' := [_, _, _, _, _, _, _, _, _, _, _, _, _, _]) dL_isWhole_450 rfl rfl ?_
                                      refine V.iload_n dL_isWhole_452 rfl ?_
                                      refine V.istore (L' := [_, _, _, _, _, _, _, _, _, _, _, _, _, _]) dL_isWhole_453 rfl rfl ?_
                                      refine V.iload dL_isWhole_455 rfl ?_
                                      refine V.bipush dL_isWhole_457 ⟨by decide, by decide⟩ ?_
                                      refine V.icmp_ne (tgt := 494) dL_isWhole_459 (by decide) (fun hh => ?_) (fun hh => ?_)
                                      · exact tail _ (0, 0) _ _ _ _ (by omega)
                                      · exfalso; omega
                                · exfalso; omega
                            · exfalso; omega
                          · exfalso; omega
                        · exfalso; omega
    · exfalso; omega
  refine V.istore (L' := [_, _, _, _, _, _, _, _, _, _, _, _, _, _]) dL_isWhole_110 rfl rfl ?_
  refine V.iload dL_isWhole_112 rfl ?_
  refine V.iconst dL_isWhole_114 ⟨by decide, by decide⟩ ?_
  refine V.iadd dL_isWhole_115 ⟨(by omega), (by omega)⟩ ?_
  refine V.aload_n dL_isWhole_116 rfl ?_
  refine V.cA [_] rfl kc_L_199 dL_isWhole_117 (by decide) (by omega) rfl rfl (ws_items hW) (fun _ => ?_)
  refine V.icmp_ge (tgt := 134) dL_isWhole_120 (by decide) (fun h120 => ?_) (fun h120 => ?_)
  · refine V.iload_n dL_isWhole_134 rfl ?_
    first
    | exact mid _ (by omega)
    | (rw [show σ 5 2 = jAd σ (i + 1) by rw [ww]; congr 1; omega] at mid ⊢; exact mid _ (by omega))
  · refine V.aload_n dL_isWhole_123 rfl ?_
    refine V.iload dL_isWhole_124 rfl ?_
    refine V.iconst dL_isWhole_126 ⟨by decide, by decide⟩ ?_
    refine V.iadd dL_isWhole_127 ⟨(by omega), (by omega)⟩ ?_
    refine V.cA [_, _] rfl kc_L_217 dL_isWhole_128 (by decide) (by omega) rfl rfl (ws_addressOf hW (x := i + 1) (by omega)) (fun _ => ?_)
    refine V.goto (tgt := 135) dL_isWhole_131 (by decide) ?_
    first
    | exact mid _ (by omega)
    | (rw [show σ 5 2 = jAd σ (i + 1) by rw [ww]; congr 1; omega] at mid ⊢; exact mid _ (by omega))
theorem wk_103 (hW : jWh σ) (hi : 0 ≤ i ∧ i < σ 2 6) (hk : σ 16 i = 103) {N : Nat} (hn : N + 1 ≤ nn) (kk : jWL l E Qr σ N (i + 1)) : V l E mL_isWhole 40 nn Qr jno 110 [(2, 0), (0, σ 5 2), (0, jAd σ i), (0, jmpn σ i), (0, jlgn σ i), (0, 0), (0, 1), (0, i), l8, l9, l10, l11, l12, l13] [(0, 103)] σ := by
  have b := hW.b hi
  have bn := hW.n
  have bw := hW.w1
  have ww := hW.w
  have mb := jmpn_b (σ := σ) hi.1
  have it := hW.it hi
  have e1 := jmpn_s (σ := σ) hi.1
  have e2 := jlgn_s (σ := σ) hi.1
  rw [hk] at e1 e2
  have e1 : jmpn σ (i + 1) = jmpn σ i + 0 := e1
  have e2 : jlgn σ (i + 1) = jlgn σ i + 0 := e2
  have hr : ¬ (σ 16 i = 106 ∨ σ 16 i = 74 ∨ σ 16 i = 97) := by omega
  have f0 := wf_103 hW hi hk
  have tail : ∀ (n2 : Nat) (m9 m10 m11 m12 m13 : JV), N ≤ n2 → V l E mL_isWhole 40 n2 Qr jno 494 [(2, 0), (0, σ 5 2), (0, jAd σ i), (0, jmpn σ i), (0, jlgn σ i), (0, 0), (0, 1), (0, i), (0, 103), (0, jAd σ (i + 1)), m10, m11, m12, m13] [] σ := by
    intro n2 m9 m10 m11 m12 m13 hn2
    refine V.iload_n dL_isWhole_494 rfl ?_
    refine V.iload dL_isWhole_495 rfl ?_
    refine V.bipush dL_isWhole_497 ⟨by decide, by decide⟩ ?_
    refine V.icmp_eq (tgt := 509) dL_isWhole_499 (by decide) (fun hh => ?_) (fun hh => ?_)
    · exfalso; omega
    · refine V.iload dL_isWhole_502 rfl ?_
      refine V.bipush dL_isWhole_504 ⟨by decide, by decide⟩ ?_
      refine V.icmp_ne (tgt := 513) dL_isWhole_506 (by decide) (fun hh => ?_) (fun hh => ?_)
      · refine V.iconst dL_isWhole_513 ⟨by decide, by decide⟩ ?_
        refine V.iadd dL_isWhole_514 ⟨(by omega), (by omega)⟩ ?_
        refine V.istore_n (L' := [_, _, _, _, _, _, _, _, _, _, _, _, _, _]) dL_isWhole_515 rfl rfl ?_
        refine V.iload dL_isWhole_516 rfl ?_
        refine V.iload dL_isWhole_518 rfl ?_
        refine V.bipush dL_isWhole_520 ⟨by decide, by decide⟩ ?_
        refine V.icmp_ne (tgt := 529) dL_isWhole_522 (by decide) (fun hh => ?_) (fun hh => ?_)
        · refine V.iconst dL_isWhole_529 ⟨by decide, by decide⟩ ?_
          refine V.iadd dL_isWhole_530 ⟨(by omega), (by omega)⟩ ?_
          refine V.istore (L' := [_, _, _, _, _, _, _, _, _, _, _, _, _, _]) dL_isWhole_531 rfl rfl ?_
          refine V.iload dL_isWhole_533 rfl ?_
          refine V.istore_n (L' := [_, _, _, _, _, _, _, _, _, _, _, _, _, _]) dL_isWhole_535 rfl rfl ?_
          refine V.iinc (L' := [_, _, _, _, _, _, _, _, _, _, _, _, _, _]) dL_isWhole_536 rfl ⟨(by omega), (by omega)⟩ rfl ?_
          refine V.goto (tgt := 90) dL_isWhole_539 (by decide) ?_
          have key := kk n2 (0, 103) (0, jAd σ (i + 1)) m10 m11 m12 m13 hn2
          rw [e1, e2] at key
          exact key
        · exfalso; omega
      · exfalso; omega
  have pad : ∀ (n2 : Nat) (x : Int), N ≤ n2 → jAd σ i ≤ x → x ≤ jAd σ (i + 1) → V l E mL_isWhole 40 n2 Qr jno 462 [(2, 0), (0, σ 5 2), (0, jAd σ i), (0, jmpn σ i), (0, jlgn σ i), (0, 0), (0, 1), (0, i), (0, 103), (0, jAd σ (i + 1)), (0, -76), (0, 0), (0, 0), (0, x)] [] σ := by
    have loop : ∀ (m : Nat) (n2 : Nat) (x : Int), N ≤ n2 → jAd σ i ≤ x → x ≤ jAd σ (i + 1) → jAd σ (i + 1) - x < m → V l E mL_isWhole 40 n2 Qr jno 455 [(2, 0), (0, σ 5 2), (0, jAd σ i), (0, jmpn σ i), (0, jlgn σ i), (0, 0), (0, 1), (0, i), (0, 103), (0, jAd σ (i + 1)), (0, -76), (0, 0), (0, 0), (0, x)] [] σ := by
      intro m
      induction m with
      | zero => intro n2 x h0 h1 h2 h3; omega
      | succ m ih =>
        intro n2 x h0 h1 h2 h3
        refine V.iload dL_isWhole_455 rfl ?_
        refine V.bipush dL_isWhole_457 ⟨by decide, by decide⟩ ?_
        refine V.icmp_ne (tgt := 494) dL_isWhole_459 (by decide) (fun hh => ?_) (fun hh => ?_)
        · exfalso; omega
        · refine V.iload dL_isWhole_462 rfl ?_
          refine V.iload dL_isWhole_464 rfl ?_
          refine V.icmp_ge (tgt := 494) dL_isWhole_466 (by decide) (fun h466 => ?_) (fun h466 => ?_)
          · exact tail _ (0, 0) _ _ _ _ (by omega)
          · refine V.iload dL_isWhole_469 rfl ?_
            refine V.aload_n dL_isWhole_471 rfl ?_
            refine V.iload dL_isWhole_472 rfl ?_
            refine V.cA [_, _] rfl kc_L_201 dL_isWhole_474 (by decide) (by omega) rfl rfl (ws_word hW (by omega)) (fun _ => ?_)
            rw [f0.2 x h1 (by omega)]
            refine V.if_ne (tgt := 484) dL_isWhole_477 (by decide) (fun hh => ?_) (fun hh => ?_)
            · exact absurd rfl hh
            · refine V.iconst dL_isWhole_480 ⟨by decide, by decide⟩ ?_
              refine V.goto (tgt := 485) dL_isWhole_481 (by decide) ?_
              refine V.iandB dL_isWhole_485 (Or.inr rfl) (Or.inr rfl) ?_
              rw [if_pos ⟨rfl, rfl⟩]
              refine V.istore (L' := [_, _, _, _, _, _, _, _, _, _, _, _, _, _]) dL_isWhole_486 rfl rfl ?_
              refine V.iinc (L' := [_, _, _, _, _, _, _, _, _, _, _, _, _, _]) dL_isWhole_488 rfl ⟨(by omega), (by omega)⟩ rfl ?_
              refine V.goto (tgt := 455) dL_isWhole_491 (by decide) ?_
              exact ih _ (x + 1) (by omega) (by omega) (by omega) (by omega)
    intro n2 x h0 h1 h2
    refine V.iload dL_isWhole_462 rfl ?_
    refine V.iload dL_isWhole_464 rfl ?_
    refine V.icmp_ge (tgt := 494) dL_isWhole_466 (by decide) (fun h466 => ?_) (fun h466 => ?_)
    · exact tail _ (0, 0) _ _ _ _ (by omega)
    · refine V.iload dL_isWhole_469 rfl ?_
      refine V.aload_n dL_isWhole_471 rfl ?_
      refine V.iload dL_isWhole_472 rfl ?_
      refine V.cA [_, _] rfl kc_L_201 dL_isWhole_474 (by decide) (by omega) rfl rfl (ws_word hW (by omega)) (fun _ => ?_)
      rw [f0.2 x h1 (by omega)]
      refine V.if_ne (tgt := 484) dL_isWhole_477 (by decide) (fun hh => ?_) (fun hh => ?_)
      · exact absurd rfl hh
      · refine V.iconst dL_isWhole_480 ⟨by decide, by decide⟩ ?_
        refine V.goto (tgt := 485) dL_isWhole_481 (by decide) ?_
        refine V.iandB dL_isWhole_485 (Or.inr rfl) (Or.inr rfl) ?_
        rw [if_pos ⟨rfl, rfl⟩]
        refine V.istore (L' := [_, _, _, _, _, _, _, _, _, _, _, _, _, _]) dL_isWhole_486 rfl rfl ?_
        refine V.iinc (L' := [_, _, _, _, _, _, _, _, _, _, _, _, _, _]) dL_isWhole_488 rfl ⟨(by omega), (by omega)⟩ rfl ?_
        refine V.goto (tgt := 455) dL_isWhole_491 (by decide) ?_
        exact loop ((jAd σ (i + 1) - (x + 1)).toNat + 2) _ (x + 1) (by omega) (by omega) (by omega) (by omega)
  have mid : ∀ (n2 : Nat), N + 1 ≤ n2 → V l E mL_isWhole 40 n2 Qr jno 135 [(2, 0), (0, σ 5 2), (0, jAd σ i), (0, jmpn σ i), (0, jlgn σ i), (0, 0), (0, 1), (0, i), (0, 103), l9, l10, l11, l12, l13] [(0, jAd σ (i + 1))] σ := by
    intro n2 hn2
    refine V.istore (L' := [_, _, _, _, _, _, _, _, _, _, _, _, _, _]) dL_isWhole_135 rfl rfl ?_
    refine V.aload_n dL_isWhole_137 rfl ?_
    refine V.iload dL_isWhole_138 rfl ?_
    refine V.cA [_, _] rfl kc_L_219 dL_isWhole_140 (by decide) (by omega) rfl rfl (ws_targetU hW hi hr) (fun _ => ?_)
    refine V.istore (L' := [_, _, _, _, _, _, _, _, _, _, _, _, _, _]) dL_isWhole_143 rfl rfl ?_
    refine V.iload dL_isWhole_145 rfl ?_
    refine V.if_ge (tgt := 154) dL_isWhole_147 (by decide) (fun hh => ?_) (fun hh => ?_)
    · exfalso; omega
    · refine V.iconst dL_isWhole_150 ⟨by decide, by decide⟩ ?_
      refine V.goto (tgt := 160) dL_isWhole_151 (by decide) ?_
      refine V.istore (L' := [_, _, _, _, _, _, _, _, _, _, _, _, _, _]) dL_isWhole_160 rfl rfl ?_
      refine V.iload dL_isWhole_162 rfl ?_
      refine V.bipush dL_isWhole_164 ⟨by decide, by decide⟩ ?_
      refine V.icmp_eq (tgt := 183) dL_isWhole_166 (by decide) (fun hh => ?_) (fun hh => ?_)
      · exfalso; omega
      · refine V.iload dL_isWhole_169 rfl ?_
        refine V.bipush dL_isWhole_171 ⟨by decide, by decide⟩ ?_
        refine V.icmp_eq (tgt := 183) dL_isWhole_173 (by decide) (fun hh => ?_) (fun hh => ?_)
        · exfalso; omega
        · refine V.iload dL_isWhole_176 rfl ?_
          refine V.bipush dL_isWhole_178 ⟨by decide, by decide⟩ ?_
          refine V.icmp_ne (tgt := 187) dL_isWhole_180 (by decide) (fun hh => ?_) (fun hh => ?_)
          · refine V.iconst dL_isWhole_187 ⟨by decide, by decide⟩ ?_
            refine V.istore (L' := [_, _, _, _, _, _, _, _, _, _, _, _, _, _]) dL_isWhole_188 rfl rfl ?_
            refine V.aload_n dL_isWhole_190 rfl ?_
            refine V.iload dL_isWhole_191 rfl ?_
            refine V.cA [_, _] rfl kc_L_217 dL_isWhole_193 (by decide) (by omega) rfl rfl (ws_addressOf hW hi) (fun _ => ?_)
            refine V.iload_n dL_isWhole_196 rfl ?_
            refine V.icmp_ne (tgt := 258) dL_isWhole_197 (by decide) (fun hh => ?_) (fun hh => ?_)
            · exfalso; omega
            · refine V.aload_n dL_isWhole_200 rfl ?_
              refine V.iload dL_isWhole_201 rfl ?_
              refine V.cA [_, _] rfl kc_L_221 dL_isWhole_203 (by decide) (by omega) rfl rfl (ws_adding hW hi) (fun _ => ?_)
              refine V.iload_n dL_isWhole_206 rfl ?_
              refine V.icmp_ne (tgt := 258) dL_isWhole_207 (by decide) (fun hh => ?_) (fun hh => ?_)
              · exfalso; omega
              · refine V.aload_n dL_isWhole_210 rfl ?_
                refine V.iload dL_isWhole_211 rfl ?_
                refine V.cA [_, _] rfl kc_L_223 dL_isWhole_213 (by decide) (by omega) rfl rfl (ws_line hW hi) (fun _ => ?_)
                refine V.if_lt (tgt := 258) dL_isWhole_216 (by decide) (fun hh => ?_) (fun hh => ?_)
                · exfalso; omega
                · refine V.aload_n dL_isWhole_219 rfl ?_
                  refine V.iload dL_isWhole_220 rfl ?_
                  refine V.cA [_, _] rfl kc_L_225 dL_isWhole_222 (by decide) (by omega) rfl rfl (ws_depth hW hi) (fun _ => ?_)
                  refine V.if_lt (tgt := 258) dL_isWhole_225 (by decide) (fun hh => ?_) (fun hh => ?_)
                  · exfalso; omega
                  · refine V.iload dL_isWhole_228 rfl ?_
                    refine V.if_eq (tgt := 247) dL_isWhole_230 (by decide) (fun hh => ?_) (fun hh => ?_)
                    · refine V.iload dL_isWhole_247 rfl ?_
                      refine V.bipush dL_isWhole_249 ⟨by decide, by decide⟩ ?_
                      refine V.icmp_ne (tgt := 258) dL_isWhole_251 (by decide) (fun hh => ?_) (fun hh => ?_)
                      · exfalso; omega
                      · refine V.iconst dL_isWhole_254 ⟨by decide, by decide⟩ ?_
                        refine V.goto (tgt := 259) dL_isWhole_255 (by decide) ?_
                        refine V.istore (L' := [_, _, _, _, _, _, _, _, _, _, _, _, _, _]) dL_isWhole_259 rfl rfl ?_
                        refine V.iload dL_isWhole_261 rfl ?_
                        refine V.iload dL_isWhole_263 rfl ?_
                        refine V.bipush dL_isWhole_265 ⟨by decide, by decide⟩ ?_
                        refine V.icmp_ne (tgt := 284) dL_isWhole_267 (by decide) (fun hh => ?_) (fun hh => ?_)
                        · refine V.iload dL_isWhole_284 rfl ?_
                          refine V.bipush dL_isWhole_286 ⟨by decide, by decide⟩ ?_
                          refine V.icmp_ne (tgt := 330) dL_isWhole_288 (by decide) (fun hh => ?_) (fun hh => ?_)
                          · refine V.iload dL_isWhole_330 rfl ?_
                            refine V.bipush dL_isWhole_332 ⟨by decide, by decide⟩ ?_
                            refine V.icmp_ne (tgt := 354) dL_isWhole_334 (by decide) (fun hh => ?_) (fun hh => ?_)
                            · exfalso; omega
                            · refine V.iload dL_isWhole_337 rfl ?_
                              refine V.iload_n dL_isWhole_339 rfl ?_
                              refine V.isub dL_isWhole_340 ⟨(by omega), (by omega)⟩ ?_
                              refine V.bipush dL_isWhole_341 ⟨by decide, by decide⟩ ?_
                              refine V.icmp_ge (tgt := 350) dL_isWhole_343 (by decide) (fun hh => ?_) (fun hh => ?_)
                              · exfalso; omega
                              · refine V.iconst dL_isWhole_346 ⟨by decide, by decide⟩ ?_
                                refine V.goto (tgt := 367) dL_isWhole_347 (by decide) ?_
                                refine V.iandB dL_isWhole_367 (Or.inr rfl) (Or.inr rfl) ?_
                                rw [if_pos ⟨rfl, rfl⟩]
                                refine V.istore (L' := [_, _, _, _, _, _, _, _, _, _, _, _, _, _]) dL_isWhole_368 rfl rfl ?_
                                refine V.iload dL_isWhole_370 rfl ?_
                                refine V.iload dL_isWhole_372 rfl ?_
                                refine V.bipush dL_isWhole_374 ⟨by decide, by decide⟩ ?_
                                refine V.icmp_ne (tgt := 417) dL_isWhole_376 (by decide) (fun hh => ?_) (fun hh => ?_)
                                · refine V.iconst dL_isWhole_417 ⟨by decide, by decide⟩ ?_
                                  refine V.goto (tgt := 422) dL_isWhole_418 (by decide) ?_
                                  refine V.iandB dL_isWhole_422 (Or.inr rfl) (Or.inr rfl) ?_
                                  rw [if_pos ⟨rfl, rfl⟩]
                                  refine V.istore (L' := [_, _, _, _, _, _, _, _, _, _, _, _, _, _]) dL_isWhole_423 rfl rfl ?_
                                  refine V.iload dL_isWhole_425 rfl ?_
                                  refine V.iload dL_isWhole_427 rfl ?_
                                  refine V.bipush dL_isWhole_429 ⟨by decide, by decide⟩ ?_
                                  refine V.icmp_ne (tgt := 444) dL_isWhole_431 (by decide) (fun hh => ?_) (fun hh => ?_)
                                  · refine V.iconst dL_isWhole_444 ⟨by decide, by decide⟩ ?_
                                    refine V.goto (tgt := 449) dL_isWhole_445 (by decide) ?_
                                    refine V.iandB dL_isWhole_449 (Or.inr rfl) (Or.inr rfl) ?_
                                    rw [if_pos ⟨rfl, rfl⟩]
                                    refine V.istore (L' := [_, _, _, _, _, _, _, _, _, _, _, _, _, _]) dL_isWhole_450 rfl rfl ?_
                                    refine V.iload_n dL_isWhole_452 rfl ?_
                                    refine V.istore (L' := [_, _, _, _, _, _, _, _, _, _, _, _, _, _]) dL_isWhole_453 rfl rfl ?_
                                    refine V.iload dL_isWhole_455 rfl ?_
                                    refine V.bipush dL_isWhole_457 ⟨by decide, by decide⟩ ?_
                                    refine V.icmp_ne (tgt := 494) dL_isWhole_459 (by decide) (fun hh => ?_) (fun hh => ?_)
                                    · exfalso; omega
                                    · exact pad _ (jAd σ i) (by omega) (by omega) (by omega)
                                  · exfalso; omega
                                · exfalso; omega
                          · exfalso; omega
                        · exfalso; omega
                    · exfalso; omega
          · exfalso; omega
  refine V.istore (L' := [_, _, _, _, _, _, _, _, _, _, _, _, _, _]) dL_isWhole_110 rfl rfl ?_
  refine V.iload dL_isWhole_112 rfl ?_
  refine V.iconst dL_isWhole_114 ⟨by decide, by decide⟩ ?_
  refine V.iadd dL_isWhole_115 ⟨(by omega), (by omega)⟩ ?_
  refine V.aload_n dL_isWhole_116 rfl ?_
  refine V.cA [_] rfl kc_L_199 dL_isWhole_117 (by decide) (by omega) rfl rfl (ws_items hW) (fun _ => ?_)
  refine V.icmp_ge (tgt := 134) dL_isWhole_120 (by decide) (fun h120 => ?_) (fun h120 => ?_)
  · refine V.iload_n dL_isWhole_134 rfl ?_
    first
    | exact mid _ (by omega)
    | (rw [show σ 5 2 = jAd σ (i + 1) by rw [ww]; congr 1; omega] at mid ⊢; exact mid _ (by omega))
  · refine V.aload_n dL_isWhole_123 rfl ?_
    refine V.iload dL_isWhole_124 rfl ?_
    refine V.iconst dL_isWhole_126 ⟨by decide, by decide⟩ ?_
    refine V.iadd dL_isWhole_127 ⟨(by omega), (by omega)⟩ ?_
    refine V.cA [_, _] rfl kc_L_217 dL_isWhole_128 (by decide) (by omega) rfl rfl (ws_addressOf hW (x := i + 1) (by omega)) (fun _ => ?_)
    refine V.goto (tgt := 135) dL_isWhole_131 (by decide) ?_
    first
    | exact mid _ (by omega)
    | (rw [show σ 5 2 = jAd σ (i + 1) by rw [ww]; congr 1; omega] at mid ⊢; exact mid _ (by omega))
end ISW
