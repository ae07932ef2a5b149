/-! bits of a long -/
def b6 (x : Int64) (i : Nat) : Bool := x.toBitVec.getLsbD i
theorem b6_ext {x y : Int64} (h : ∀ i, i < 64 → b6 x i = b6 y i) : x = y := Int64.toBitVec_inj.mp (BitVec.eq_of_getLsbD_eq (fun i hi => h i hi))
theorem b6_or (x y : Int64) (i : Nat) : b6 (x ||| y) i = (b6 x i || b6 y i) := by unfold b6; rw [Int64.toBitVec_or, BitVec.getLsbD_or]
theorem b6_and (x y : Int64) (i : Nat) : b6 (x &&& y) i = (b6 x i && b6 y i) := by unfold b6; rw [Int64.toBitVec_and, BitVec.getLsbD_and]
theorem b6_xor (x y : Int64) (i : Nat) : b6 (x ^^^ y) i = (b6 x i ^^ b6 y i) := by unfold b6; rw [Int64.toBitVec_xor, BitVec.getLsbD_xor]
theorem b6_big {x : Int64} {i : Nat} (h : 64 ≤ i) : b6 x i = false := BitVec.getLsbD_of_ge _ _ h
theorem b6_m1 : ∀ i, i < 64 → b6 (-1) i = true := by decide +kernel
theorem b6_m1z : ∀ i, i < 64 → b6 (-(z64 1)) i = true := by decide +kernel
theorem b6_0 (i : Nat) : b6 0 i = false := BitVec.getLsbD_zero
theorem b6_0z (i : Nat) : b6 (z64 0) i = false := BitVec.getLsbD_zero
theorem b6_sl : ∀ n, n < 64 → (((z32 (n : Nat)).toInt64 &&& 63).toBitVec.smod 64).toNat = n := by decide +kernel
theorem b6_su : ∀ n, n < 64 → (((z32 (n : Nat)).toInt64.toUInt64 &&& Int64.toUInt64 63).toBitVec % 64).toNat = n := by decide +kernel
theorem b6_shl (n : Nat) (hn : n < 64) (x : Int64) {i : Nat} (hi : i < 64) : b6 (x <<< ((z32 (n : Nat)).toInt64 &&& 63)) i = (decide (n ≤ i) && b6 x (i - n)) := by
  unfold b6
  rw [Int64.toBitVec_shiftLeft]
  show (x.toBitVec <<< (((z32 (n : Nat)).toInt64 &&& 63).toBitVec.smod 64).toNat).getLsbD i = _
  rw [b6_sl n hn, BitVec.getLsbD_shiftLeft]
  rcases Nat.lt_or_ge i n with h | h
  · simp [h, Nat.not_le.mpr h]
  · simp [hi, h, Nat.not_lt.mpr h]
theorem b6_ushr (n : Nat) (hn : n < 64) (x : Int64) (i : Nat) : b6 ((x.toUInt64 >>> ((z32 (n : Nat)).toInt64.toUInt64 &&& Int64.toUInt64 63)).toInt64) i = b6 x (n + i) := by
  show (x.toUInt64 >>> ((z32 (n : Nat)).toInt64.toUInt64 &&& Int64.toUInt64 63)).toBitVec.getLsbD i = x.toUInt64.toBitVec.getLsbD (n + i)
  rw [UInt64.toBitVec_shiftRight]
  show (x.toUInt64.toBitVec >>> (((z32 (n : Nat)).toInt64.toUInt64 &&& Int64.toUInt64 63).toBitVec % 64).toNat).getLsbD i = _
  rw [b6_su n hn, BitVec.getLsbD_ushiftRight]
theorem b6_sshr (n : Nat) (hn : n < 64) (x : Int64) {i : Nat} (hi : i < 64) : b6 (x >>> ((z32 (n : Nat)).toInt64 &&& 63)) i = if n + i < 64 then b6 x (n + i) else b6 x 63 := by
  unfold b6
  rw [Int64.toBitVec_shiftRight]
  show (x.toBitVec.sshiftRight (((z32 (n : Nat)).toInt64 &&& 63).toBitVec.smod 64).toNat).getLsbD i = _
  rw [b6_sl n hn, BitVec.getLsbD_sshiftRight, BitVec.msb_eq_getLsbD_last]
  simp [hi]
theorem b6_one (i : Nat) : b6 1 i = decide (i = 0) := by
  unfold b6
  show (1#64).getLsbD i = _
  rw [BitVec.getLsbD_one]
  simp
/-- one bit -/
theorem b6_bit (t : Nat) (ht : t < 64) {i : Nat} (hi : i < 64) : b6 ((1 : Int64) <<< ((z32 (t : Nat)).toInt64 &&& 63)) i = decide (i = t) := by
  rw [b6_shl t ht _ hi, b6_one]
  by_cases c : t ≤ i
  · by_cases d : i = t
    · subst d; simp
    · simp [c, d, show ¬ i - t = 0 by omega]
  · simp [c, show ¬ i = t by omega]
theorem b6_zero {x : Int64} : x = 0 ↔ ∀ i, i < 64 → b6 x i = false :=
  ⟨fun h i hi => by rw [h]; exact b6_0 i, fun h => b6_ext fun i hi => by rw [h i hi]; exact (b6_0 i).symm⟩
theorem b6_has (x : Int64) (t : Nat) (ht : t < 64) : (x &&& ((1 : Int64) <<< ((z32 (t : Nat)).toInt64 &&& 63))) = 0 ↔ b6 x t = false := by
  rw [b6_zero]
  constructor
  · intro h
    have := h t ht
    rw [b6_and, b6_bit t ht ht] at this
    simpa using this
  · intro h i hi
    rw [b6_and, b6_bit t ht hi]
    by_cases c : i = t
    · rw [c, h]; rfl
    · simp [c]
theorem b6_shr1 (x : Int64) (t : Nat) (ht : t < 64) : ((x >>> ((z32 (t : Nat)).toInt64 &&& 63)) &&& 1) = 1 ↔ b6 x t = true := by
  constructor
  · intro h
    have h0 := congrArg (fun z => b6 z 0) h
    simp only [b6_and, b6_one] at h0
    rw [b6_sshr t ht _ (by omega)] at h0
    simpa [ht] using h0
  · intro h
    apply b6_ext
    intro i hi
    rw [b6_and, b6_one, b6_sshr t ht _ hi]
    by_cases c : i = 0
    · subst c; simp [ht, h]
    · simp [c]
/-- whether t is one of the shifts of p's roster -/
def s_ros (r : Int → Int) (p t : Int) : Bool := b6 (z64 (r (6 + 3 * p + 0))) t.toNat
