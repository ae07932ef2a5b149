/-! sets of shifts -/
theorem b6_andz {x : Int64} {t : Nat} (ht : t < 64) (h : b6 x t = false) : x.toBitVec &&& ((1 : Int64) <<< ((z32 (t : Nat)).toInt64 &&& 63)).toBitVec = 0#64 := by
  have e := congrArg Int64.toBitVec ((b6_has x t ht).mpr h)
  rw [Int64.toBitVec_and] at e
  exact e
theorem b6_addor {x : Int64} {t : Nat} (ht : t < 64) (h : b6 x t = false) : x + ((1 : Int64) <<< ((z32 (t : Nat)).toInt64 &&& 63)) = x ||| ((1 : Int64) <<< ((z32 (t : Nat)).toInt64 &&& 63)) := by
  apply Int64.toBitVec_inj.mp
  rw [Int64.toBitVec_add, Int64.toBitVec_or]
  exact BitVec.add_eq_or_of_and_eq_zero _ _ (b6_andz ht h)
theorem b6_all : ∀ i, i < 64 → b6 4398046511103 i = decide (i < 42) := by decide +kernel
