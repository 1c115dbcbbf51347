/-! 00: doubles: what the library's laws give (read over the whole library) -/
theorem f_n64 {x : UInt64} (h : Jvm.FP.Core.dIsNaN x = false) : vf_n64 x := by
  unfold vf_n64
  rw [UInt64.le_iff_toNat_le, Jvm.FP.Core.mask_toNat]
  exact (Jvm.FP.Core.ne_nan x).mp ((Jvm.FP.Core.notNaN_iff x).mp h)
theorem f_nz {b : Int64} (h : b ≠ 0) : ¬ Jvm.FP.Core.DZero (Jvm.FP.Core.l2d b) := fun z => Jvm.FP.Core.l2d_ne_zero h ((Jvm.FP.Core.zero_bits2 _).mp z)
theorem f_divN {a b : Int64} (h : b ≠ 0) : Jvm.FP.Core.dIsNaN (FP.ddiv (FP.l2d a) (FP.l2d b)) = false := Jvm.FP.Core.ddiv_out (Jvm.FP.Core.l2d_notNaN a) (Jvm.FP.Core.l2d_fin b) (f_nz h)
theorem f_div {a b : Int64} (h : b ≠ 0) : vf_n64 (FP.ddiv (FP.l2d a) (FP.l2d b)) := f_n64 (f_divN h)
theorem f_oneFin : Jvm.FP.Core.DFin FP.dconst1 := ⟨false, 2 ^ 52, -52, Jvm.FP.Core.val64_dconst1⟩
theorem f_subN {a b : Int64} (h : b ≠ 0) : Jvm.FP.Core.dIsNaN (FP.dsub FP.dconst1 (FP.ddiv (FP.l2d a) (FP.l2d b))) = false := Jvm.FP.Core.dsub_out' f_oneFin (f_divN h)
theorem f_sub {a b : Int64} (h : b ≠ 0) : vf_n64 (FP.dsub FP.dconst1 (FP.ddiv (FP.l2d a) (FP.l2d b))) := f_n64 (f_subN h)
theorem f_l2 (a : Int64) : vf_n64 (FP.l2d a) := f_n64 (Jvm.FP.Core.l2d_notNaN a)
theorem f_i2d (x : Int32) : FP.i2d x = FP.l2d x.toInt64 := Jvm.FP.Core.i2d_l2d x
theorem f_mulL {a b : Int64} (ha : 0 < a.toInt) (hb : 0 < b.toInt) (ha' : a.toInt ≤ 125000000000) (hb' : b.toInt ≤ 125000000000) (h : a.toInt * b.toInt ≤ 125000000000) (h' : 0 ≤ a.toInt * b.toInt) : FP.dmul (FP.l2d a) (FP.l2d b) = FP.l2d (a * b) := by
  have za : a ≠ 0 := fun e => by rw [e] at ha; exact absurd ha (by decide)
  have zb : b ≠ 0 := fun e => by rw [e] at hb; exact absurd hb (by decide)
  exact Jvm.FP.Core.dmul_l2d (by unfold Jvm.FP.Core.Small53; omega) (by unfold Jvm.FP.Core.Small53; omega) za zb (by omega) (by omega)
theorem f_cmp {x : UInt64} (h : vf_n64 x) : FP.dcmp x x = some .eq := by
  refine Jvm.FP.Core.dcmp_refl ((Jvm.FP.Core.notNaN_iff x).mpr ((Jvm.FP.Core.ne_nan x).mpr ?_))
  unfold vf_n64 at h
  rw [UInt64.le_iff_toNat_le, Jvm.FP.Core.mask_toNat] at h
  exact h
