/-! the quotients compared -/
theorem dq_n (n d : Int32) : FP.Core.dIsNaN (dq n d) = false := by
  unfold dq
  by_cases h : d = 0
  · rw [if_pos h]
    decide +kernel
  · rw [if_neg h, FP.ddiv_core, FP.i2d_core]
    exact q_dC h
theorem fq_n0 (n d : Int32) : FP.Core.fIsNaN (fq n d) = false := by
  unfold fq
  by_cases h : d = 0
  · rw [if_pos h]
    decide +kernel
  · rw [if_neg h, FP.fdiv_core, FP.i2f_core]
    exact q_fC h
theorem fq_n (n d : Int32) : FP.Core.dIsNaN (FP.f2d (fq n d)) = false := by
  rw [FP.f2d_core (fq_n0 n d)]
  exact FP.Core.f2d_out (fq_n0 n d)
theorem dcmp_z {x : UInt64} (h : FP.Core.dIsNaN x = false) (op : CmpOp) : Op.cmpValue (FP.dcmp x x) op = 0 := by
  rw [FP.dcmp_core, FP.Core.dcmp_self ((FP.Core.notNaN_iff x).mp h)]
  rfl
