/-! the law's comparisons of the two quotients -/
def jgd (x : Int) : Prop := (jD x).toNat ≤ (FP.Core.b64.exps - 1) * FP.Core.b64.tails
theorem ord_self {f : FP.Core.Fmt} (h : jfm f) {n : Nat} (hn : n ≤ (f.exps - 1) * f.tails) : FP.Core.cmp f n n = some .eq := by
  unfold FP.Core.cmp
  have c : ∀ x : Int, compare x x = Ordering.eq := fun x => by simp [compare, compareOfLessAndEq]
  rcases fd_sign h hn with ⟨c1, q1, e⟩ | e
  · rw [e]; exact congrArg some (c _)
  · rw [e]; exact congrArg some (c _)
theorem jgd.cmp {x : Int} (h : jgd x) : FP.dcmp (jD x) (jD x) = some .eq := ord_self jfm64 h
theorem jgd.n {x : Int} (h : jgd x) : vf_n64 (jD x) := by
  have := fn_64 h
  rwa [UInt64.ofNat_toNat] at this
theorem fdiv_b {a b : Int} (ha : 0 ≤ a ∧ a ≤ 400) (hb : 0 < b ∧ b < 400) : (FP.fdiv (FP.i2f (jI a)) (FP.i2f (jI b))).toNat ≤ (FP.Core.b32.exps - 1) * FP.Core.b32.tails := by
  have ea := fe_int jfm32 (i := a) ha.1
  have eb := fe_int jfm32 (i := b) (by omega)
  show (UInt32.ofNat (FP.Core.div FP.Core.b32 (UInt32.ofNat (FP.Core.fromInt FP.Core.b32 (jI a).toInt)).toNat (UInt32.ofNat (FP.Core.fromInt FP.Core.b32 (jI b).toInt)).toNat)).toNat ≤ _
  rw [jI_toInt ⟨by omega, by omega⟩, jI_toInt ⟨by omega, by omega⟩, fit_32 ea, fit_32 eb]
  have q := fe_quot jfm32 (x := FP.Core.fromInt FP.Core.b32 a) (y := FP.Core.fromInt FP.Core.b32 b) ea (fgood_ok (by
    have z := List.all_eq_true.mp ints32 b.toNat (List.mem_range.mpr (by omega))
    rw [show ((b.toNat : Nat) : Int) = b by omega] at z
    simpa [show ¬ b.toNat = 0 by omega] using z))
  rw [fit_32 q]; exact q
theorem ddiv_b {a b : Int} (ha : 0 ≤ a ∧ a ≤ 1000000000) (hb : 0 < b ∧ b ≤ 1400) : jgd (jDd a b) := by
  have ea := fe_int jfm64 (i := a) ha.1
  have eb := fe_int jfm64 (i := b) (by omega)
  unfold jgd jDd
  rw [jD_u]
  show (UInt64.ofNat (FP.Core.div FP.Core.b64 (UInt64.ofNat (FP.Core.fromInt FP.Core.b64 (jL a).toInt)).toNat (UInt64.ofNat (FP.Core.fromInt FP.Core.b64 (jI b).toInt)).toNat)).toNat ≤ _
  rw [jL_toInt ⟨by omega, by omega⟩, jI_toInt ⟨by omega, by omega⟩, fit_64 ea, fit_64 eb]
  have q := fe_quot jfm64 (x := FP.Core.fromInt FP.Core.b64 a) (y := FP.Core.fromInt FP.Core.b64 b) ea (fgood_ok (by
    have z := List.all_eq_true.mp ints64 b.toNat (List.mem_range.mpr (by omega))
    rw [show ((b.toNat : Nat) : Int) = b by omega] at z
    simpa [show ¬ b.toNat = 0 by omega] using z))
  rw [fit_64 q]; exact q
abbrev jcvf (b : Int) : Int := (((FP.f2d (jF b)).toNat : Nat) : Int)
theorem f2d_b {u : UInt32} (h : u.toNat ≤ (FP.Core.b32.exps - 1) * FP.Core.b32.tails) : (FP.f2d u).toNat ≤ (FP.Core.b64.exps - 1) * FP.Core.b64.tails := by
  have nn : FP.Core.fIsNaN u = false := by
    show decide (FP.Core.decode FP.Core.b32 u.toNat = .nan) = false
    rcases fd_sign jfm32 h with ⟨c1, q1, e⟩ | e
    · rw [e]; exact decide_eq_false (fun z => by cases z)
    · rw [e]; exact decide_eq_false (fun z => by cases z)
  have e : FP.f2d u = UInt64.ofNat (FP.Core.convert FP.Core.b32 FP.Core.b64 u.toNat) := by
    show (if FP.Core.fIsNaN u then FP.nanF2D u else FP.Core.f2d u) = _
    rw [nn]; rfl
  have q := fe_conv jfm32 jfm64 h
  rw [e, fit_64 q]; exact q
theorem f2d_g {a b : Int} (ha : 0 ≤ a ∧ a ≤ 400) (hb : 0 < b ∧ b < 400) : jgd (jcvf (jFd a b)) ∧ vf_n64 (FP.f2d (jF (jFd a b))) := by
  have h := fdiv_b ha hb
  have e : jF (jFd a b) = FP.fdiv (FP.i2f (jI a)) (FP.i2f (jI b)) := by unfold jFd; rw [jF_u]
  have g : jgd (jcvf (jFd a b)) := by
    unfold jgd jcvf
    rw [jD_u, e]; exact f2d_b h
  refine ⟨g, ?_⟩
  have := g.n
  unfold jcvf at this
  rwa [jD_u] at this
