/-! ===== a whole number, by 4 and times 4, is never NaN ===== -/
theorem fp_rr (f : FP.Core.Fmt) (s : Bool) (a c : Nat) (e : Int) : FP.Core.roundRatio f s a c e ≠ .nan := by
  unfold FP.Core.roundRatio FP.Core.roundAt FP.Core.settle FP.Core.bound
  intro h
  repeat' split at h
  all_goals cases h
theorem fp_l2f (v : Int64) : FP.Core.fIsNaN (FP.l2f v) = false := by
  rw [FP.Core.notNaN_iff32, show FP.l2f v = FP.Core.l2f v from rfl, FP.Core.val32_l2f]
  exact fp_rr _ _ _ _ _
theorem fp_l2d (v : Int64) : FP.Core.dIsNaN (FP.l2d v) = false := by
  rw [FP.Core.notNaN_iff, show FP.l2d v = FP.Core.l2d v from rfl, FP.Core.val64_l2d]
  exact fp_rr _ _ _ _ _
abbrev c4f : UInt32 := 1082130432
abbrev c4d : UInt64 := 4616189618054758400
theorem fp_n32 {x : UInt32} (h : FP.Core.fIsNaN x = false) : vf_n32 x := by
  have h1 : ¬ 2139095040 < x.toNat % 2 ^ 31 := fun q => by rw [(FP.Core.isNaN_bits32 x).mpr q] at h; cases h
  unfold vf_n32
  rw [UInt32.le_iff_toNat_le, UInt32.toNat_and]
  show x.toNat &&& (2 ^ 31 - 1) ≤ _
  rw [Nat.and_two_pow_sub_one_eq_mod]
  exact Nat.le_of_not_lt h1
theorem fp_n64 {x : UInt64} (h : FP.Core.dIsNaN x = false) : vf_n64 x := by
  have h1 : ¬ 9218868437227405312 < x.toNat % 2 ^ 63 := fun q => by rw [(FP.Core.isNaN_bits x).mpr q] at h; cases h
  unfold vf_n64
  rw [UInt64.le_iff_toNat_le, UInt64.toNat_and]
  show x.toNat &&& (2 ^ 63 - 1) ≤ _
  rw [Nat.and_two_pow_sub_one_eq_mod]
  exact Nat.le_of_not_lt h1
theorem fp_4f : FP.Core.FFin c4f ∧ ¬ FP.Core.FZero c4f := by
  have h : FP.Core.val32 c4f = .fin false (2 ^ 23) (-21) := by decide +kernel
  exact ⟨⟨_, _, _, h⟩, fun ⟨s, q, e⟩ => by rw [h] at e; cases e⟩
theorem fp_4d : FP.Core.DFin c4d ∧ ¬ FP.Core.DZero c4d := by
  have h : FP.Core.val64 c4d = .fin false (2 ^ 52) (-50) := by decide +kernel
  exact ⟨⟨_, _, _, h⟩, fun ⟨s, q, e⟩ => by rw [h] at e; cases e⟩
theorem fp_fdiv (v : Int64) : FP.Core.fIsNaN (FP.fdiv (FP.l2f v) c4f) = false := FP.Core.fdiv_out (fp_l2f v) fp_4f.1 fp_4f.2
theorem fp_ddiv (v : Int64) : FP.Core.dIsNaN (FP.ddiv (FP.l2d v) c4d) = false := FP.Core.ddiv_out (fp_l2d v) fp_4d.1 fp_4d.2
theorem fp_fmul (v : Int64) : FP.Core.fIsNaN (FP.fmul c4f (FP.fdiv (FP.l2f v) c4f)) = false := by
  rw [show FP.fmul c4f (FP.fdiv (FP.l2f v) c4f) = FP.fmul (FP.fdiv (FP.l2f v) c4f) c4f from FP.Core.fmul_comm _ _]
  exact FP.Core.fmul_out' (fp_fdiv v) fp_4f.1 fp_4f.2
theorem fp_dmul (v : Int64) : FP.Core.dIsNaN (FP.dmul c4d (FP.ddiv (FP.l2d v) c4d)) = false := by
  rw [show FP.dmul c4d (FP.ddiv (FP.l2d v) c4d) = FP.dmul (FP.ddiv (FP.l2d v) c4d) c4d from FP.Core.dmul_comm _ _]
  exact FP.Core.dmul_out' (fp_ddiv v) fp_4d.1 fp_4d.2
/-- what an item keeps of v: its number -/
def F_ak (k : Nat) (v : Int64) : Int64 := match k with
  | 0 => v.toInt32.toInt8.toInt32.toInt64
  | 1 => v.toInt32.toInt16.toInt32.toInt64
  | 2 => v.toInt32.toInt64
  | 3 => v
  | 4 => FP.f2l (FP.fmul c4f (FP.fdiv (FP.l2f v) c4f))
  | _ => FP.d2l (FP.dmul c4d (FP.ddiv (FP.l2d v) c4d))
