/-! THE LAW'S MEAN: in floating point, once for all. -/
variable {B : Nat}
def ag_fpx (s n : Nat) : UInt64 := FP.dsub (FP.dmul (ag_mea s n) (FP.i2d (Int32.ofInt (n : Int)))) (FP.i2d (Int32.ofInt (s : Int)))
def ag_fpk (s n : Nat) : Bool := ag_nn (FP.dmul (ag_mea s n) (FP.i2d (Int32.ofInt (n : Int)))) && (ag_nn (ag_fpx s n) && decide ((Op.cmpValue (FP.dcmp (ag_fpx s n &&& 0x7fffffffffffffff) 4562254508917369340) .l).toInt ≤ 0))
theorem ag_fp_all : ((List.range 41).all fun n => (List.range (3 * n + 1)).all fun s => ag_fpk s n) = true := by decide +kernel
theorem ag_fp_at {s n : Nat} (hn : n ≤ 40) (hs : s ≤ 3 * n) : ag_nn (FP.dmul (ag_mea s n) (FP.i2d (Int32.ofInt (n : Int)))) = true ∧ ag_nn (ag_fpx s n) = true ∧ (Op.cmpValue (FP.dcmp (ag_fpx s n &&& 0x7fffffffffffffff) 4562254508917369340) .l).toInt ≤ 0 := by
  have h := ag_fp_all
  rw [List.all_eq_true] at h
  have h1 := h n (List.mem_range.mpr (by omega))
  rw [List.all_eq_true] at h1
  have h2 := h1 s (List.mem_range.mpr (by omega))
  unfold ag_fpk at h2
  rw [Bool.and_eq_true, Bool.and_eq_true] at h2
  exact ⟨h2.1, h2.2.1, of_decide_eq_true h2.2.2⟩
