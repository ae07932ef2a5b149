/-! how many bits of a long are set -/
def pc_f1 (m n : Nat) : Nat := n - (n / 2 &&& m)
def pc_f2 (m n : Nat) : Nat := (n &&& m) + (n / 4 &&& m)
def pc_f3 (m n : Nat) : Nat := (n + n / 16) &&& m
def pc_m (c : Nat) : Nat → Nat
  | 0 => 0
  | j + 1 => pc_m c j * 256 + c
def pc_b (b : Nat) : Nat := s_cnt (fun i => b.testBit i) 8
def pc_s : Nat → Nat → Nat
  | 0, _ => 0
  | j + 1, n => pc_s j (n / 256) * 256 + pc_b (n % 256)
theorem pc_and {a b m c : Nat} (hb : b < 256) (hc : c < 256) : (a * 256 + b) &&& (m * 256 + c) = (a &&& m) * 256 + (b &&& c) := by
  have e1 : ∀ x y : Nat, y < 256 → x * 256 + y = 2 ^ 8 * x + y := fun x y _ => by omega
  have hbc : (b &&& c) < 256 := Nat.lt_of_le_of_lt Nat.and_le_left hb
  apply Nat.eq_of_testBit_eq
  intro i
  rw [Nat.testBit_and, e1 a b hb, e1 m c hc, e1 _ _ hbc, Nat.testBit_two_pow_mul_add a hb, Nat.testBit_two_pow_mul_add m hc, Nat.testBit_two_pow_mul_add _ hbc]
  split
  · rw [Nat.testBit_and]
  · rw [Nat.testBit_and]
theorem pc_d1 : ∀ x, x < 2 → ∀ b, b < 256 → ((x * 128 + b / 2) &&& 85) = (b / 2 &&& 85) := by decide +kernel
theorem pc_d2 : ∀ x, x < 4 → ∀ b, b < 256 → ((x * 64 + b / 4) &&& 51) = (b / 4 &&& 51) := by decide +kernel
theorem pc_d3 : ∀ x, x < 5 → ∀ b, b < 256 → ((x * 16 + (pc_f2 51 (pc_f1 85 b) + pc_f2 51 (pc_f1 85 b) / 16)) &&& 15) = pc_b b ∧ pc_f2 51 (pc_f1 85 b) < 69 ∧ pc_f2 51 (pc_f1 85 b) % 16 < 5 := by decide +kernel
theorem pc_1 {a b m : Nat} (hb : b < 256) : pc_f1 (m * 256 + 85) (a * 256 + b) = pc_f1 m a * 256 + pc_f1 85 b := by
  unfold pc_f1
  rw [show (a * 256 + b) / 2 = a / 2 * 256 + (a % 2 * 128 + b / 2) by omega, pc_and (by omega) (by omega), pc_d1 _ (by omega) b hb]
  have h1 : (a / 2 &&& m) ≤ a / 2 := Nat.and_le_left
  have h2 : (b / 2 &&& 85) ≤ b / 2 := Nat.and_le_left
  omega
theorem pc_2 {a b m : Nat} (hb : b < 256) : pc_f2 (m * 256 + 51) (a * 256 + b) = pc_f2 m a * 256 + pc_f2 51 b := by
  unfold pc_f2
  rw [show (a * 256 + b) / 4 = a / 4 * 256 + (a % 4 * 64 + b / 4) by omega, pc_and hb (by omega), pc_and (by omega) (by omega), pc_d2 _ (by omega) b hb]
  omega
theorem pc_3 {a b m : Nat} (ha : a % 16 < 5) (hb : b < 256) : pc_f3 (m * 256 + 15) (a * 256 + pc_f2 51 (pc_f1 85 b)) = pc_f3 m a * 256 + pc_b b := by
  obtain ⟨d1, d2, -⟩ := pc_d3 (a % 16) ha b hb
  unfold pc_f3
  generalize pc_f2 51 (pc_f1 85 b) = v at d1 d2
  rw [show a * 256 + v + (a * 256 + v) / 16 = (a + a / 16) * 256 + (a % 16 * 16 + (v + v / 16)) by omega, pc_and (by omega) (by omega), d1]
theorem pc_all : ∀ j n, n < 256 ^ j → pc_f2 (pc_m 51 j) (pc_f1 (pc_m 85 j) n) % 16 < 5 ∧ pc_f3 (pc_m 15 j) (pc_f2 (pc_m 51 j) (pc_f1 (pc_m 85 j) n)) = pc_s j n := by
  intro j
  induction j with
  | zero =>
    intro n h
    have e : n = 0 := by rw [Nat.pow_zero] at h; omega
    subst e
    decide
  | succ j ih =>
    intro n h
    rw [Nat.pow_succ] at h
    have hm : n % 256 < 256 := Nat.mod_lt _ (by decide)
    obtain ⟨i1, i2⟩ := ih (n / 256) (by omega)
    obtain ⟨-, d2, d3⟩ := pc_d3 0 (by omega) (n % 256) hm
    have e : n = n / 256 * 256 + n % 256 := by omega
    have hf : pc_f1 85 (n % 256) < 256 := by
      unfold pc_f1
      omega
    rw [pc_m, pc_m, pc_m, pc_s]
    rw [show pc_f1 (pc_m 85 j * 256 + 85) n = pc_f1 (pc_m 85 j * 256 + 85) (n / 256 * 256 + n % 256) by rw [← e], pc_1 hm, pc_2 hf, pc_3 i1 hm, i2]
    refine ⟨?_, rfl⟩
    omega
theorem s_cnt_split (f : Nat → Bool) (m : Nat) : ∀ n, s_cnt f (m + n) = s_cnt f m + s_cnt (fun i => f (m + i)) n
  | 0 => rfl
  | n + 1 => by
    rw [← Nat.add_assoc, s_cnt, s_cnt, s_cnt_split f m n]
    omega
/-- the sum of the digits, at last -/
def pc_t : Nat → Nat → Nat
  | 0, _ => 0
  | j + 1, n => pc_t j (n / 256) + pc_b (n % 256)
theorem pc_b_bits (n : Nat) : pc_b (n % 256) = s_cnt (fun i => n.testBit i) 8 := by
  unfold pc_b
  apply s_cnt_congr
  intro i hi
  show (n % 2 ^ 8).testBit i = n.testBit i
  rw [Nat.testBit_mod_two_pow, decide_eq_true hi, Bool.true_and]
theorem pc_t_bits : ∀ j n, pc_t j n = s_cnt (fun i => n.testBit i) (8 * j)
  | 0, _ => rfl
  | j + 1, n => by
    rw [pc_t, pc_t_bits j (n / 256), pc_b_bits, show 8 * (j + 1) = 8 + 8 * j by omega, s_cnt_split, Nat.add_comm]
    congr 1
    apply s_cnt_congr
    intro i _
    show (n / 2 ^ 8).testBit i = n.testBit (8 + i)
    rw [Nat.testBit_div_two_pow, Nat.add_comm]
theorem pc_b_le (n : Nat) : pc_b n ≤ 8 := s_cnt_le _ 8
theorem pc_fold {c0 c1 c2 c3 c4 c5 c6 c7 v : Nat} (h0 : c0 ≤ 8) (h1 : c1 ≤ 8) (h2 : c2 ≤ 8) (h3 : c3 ≤ 8) (h4 : c4 ≤ 8) (h5 : c5 ≤ 8) (h6 : c6 ≤ 8) (h7 : c7 ≤ 8) (hv : v = ((((((((0 * 256 + c7) * 256 + c6) * 256 + c5) * 256 + c4) * 256 + c3) * 256 + c2) * 256 + c1) * 256 + c0)) :
    ∃ v4 v5 q, v + v / 256 = v4 ∧ v4 + v4 / 65536 = v5 ∧ v5 + v5 / 4294967296 = q * 256 + (c0 + c1 + c2 + c3 + c4 + c5 + c6 + c7) ∧ v4 < 18446744073709551616 ∧ v5 < 18446744073709551616 ∧ q * 256 + (c0 + c1 + c2 + c3 + c4 + c5 + c6 + c7) < 18446744073709551616 ∧ v < 18446744073709551616 := by
  have e1 : v / 256 = ((((((0 * 256 + c7) * 256 + c6) * 256 + c5) * 256 + c4) * 256 + c3) * 256 + c2) * 256 + c1 := by omega
  refine ⟨(((((((0 * 256 + c7) * 256 + (c6 + c7)) * 256 + (c5 + c6)) * 256 + (c4 + c5)) * 256 + (c3 + c4)) * 256 + (c2 + c3)) * 256 + (c1 + c2)) * 256 + (c0 + c1), (((((((0 * 256 + c7) * 256 + (c6 + c7)) * 256 + (c5 + c6 + c7)) * 256 + (c4 + c5 + c6 + c7)) * 256 + (c3 + c4 + c5 + c6)) * 256 + (c2 + c3 + c4 + c5)) * 256 + (c1 + c2 + c3 + c4)) * 256 + (c0 + c1 + c2 + c3), ((((((0 * 256 + c7) * 256 + (c6 + c7)) * 256 + (c5 + c6 + c7)) * 256 + (c4 + c5 + c6 + c7)) * 256 + (c3 + c4 + c5 + c6 + c7)) * 256 + (c2 + c3 + c4 + c5 + c6 + c7)) * 256 + (c1 + c2 + c3 + c4 + c5 + c6 + c7), ?_, ?_, ?_, ?_, ?_, ?_, ?_⟩
  · rw [e1, hv]; omega
  · have e2 : ((((((((0 * 256 + c7) * 256 + (c6 + c7)) * 256 + (c5 + c6)) * 256 + (c4 + c5)) * 256 + (c3 + c4)) * 256 + (c2 + c3)) * 256 + (c1 + c2)) * 256 + (c0 + c1)) / 65536 = (((((0 * 256 + c7) * 256 + (c6 + c7)) * 256 + (c5 + c6)) * 256 + (c4 + c5)) * 256 + (c3 + c4)) * 256 + (c2 + c3) := by omega
    rw [e2]; omega
  · have e3 : ((((((((0 * 256 + c7) * 256 + (c6 + c7)) * 256 + (c5 + c6 + c7)) * 256 + (c4 + c5 + c6 + c7)) * 256 + (c3 + c4 + c5 + c6)) * 256 + (c2 + c3 + c4 + c5)) * 256 + (c1 + c2 + c3 + c4)) * 256 + (c0 + c1 + c2 + c3)) / 4294967296 = (((0 * 256 + c7) * 256 + (c6 + c7)) * 256 + (c5 + c6 + c7)) * 256 + (c4 + c5 + c6 + c7) := by omega
    rw [e3]; omega
  · omega
  · omega
  · omega
  · rw [hv]; omega
def u6 (x : Int64) : Nat := x.toBitVec.toNat
theorem u6_lt (x : Int64) : u6 x < 18446744073709551616 := x.toBitVec.isLt
theorem u6_add (x y : Int64) : u6 (x + y) = (u6 x + u6 y) % 18446744073709551616 := by
  unfold u6
  rw [Int64.toBitVec_add, BitVec.toNat_add]
theorem u6_sub (x y : Int64) : u6 (x - y) = (18446744073709551616 - u6 y + u6 x) % 18446744073709551616 := by
  unfold u6
  rw [Int64.toBitVec_sub, BitVec.toNat_sub]
theorem u6_and (x y : Int64) : u6 (x &&& y) = (u6 x &&& u6 y) := by
  unfold u6
  rw [Int64.toBitVec_and, BitVec.toNat_and]
theorem u6_shr (x : Int64) (s : UInt64) : u6 (x.toUInt64 >>> s).toInt64 = u6 x / 2 ^ (s.toNat % 64) := by
  show (x.toUInt64 >>> s).toNat = _
  rw [UInt64.toNat_shiftRight, Nat.shiftRight_eq_div_pow]
  rfl
theorem u6_b6 (x : Int64) (i : Nat) : b6 x i = (u6 x).testBit i := rfl
theorem pc_bitCount (x : Int64) : f_J13_bitCount_95d88 x = some (z32 (s_cnt (b6 x) 64)) := by
  obtain ⟨n, hn⟩ : ∃ n, u6 x = n := ⟨_, rfl⟩
  have hn2 : n < 18446744073709551616 := hn ▸ u6_lt x
  obtain ⟨-, g⟩ := pc_all 8 n (by rw [show 256 ^ 8 = 18446744073709551616 by decide]; exact hn2)
  rw [show pc_m 85 8 = 6148914691236517205 by decide, show pc_m 51 8 = 3689348814741910323 by decide, show pc_m 15 8 = 1085102592571150095 by decide] at g
  have gs : s_cnt (b6 x) 64 = pc_t 8 n := by
    rw [pc_t_bits 8 n, show 8 * 8 = 64 by decide]
    apply s_cnt_congr
    intro i _
    rw [u6_b6, hn]
  obtain ⟨v1, hv1⟩ : ∃ v1, (x - (((x.toUInt64 >>> ((1 : Int32).toInt64.toUInt64 &&& Int64.toUInt64 63)).toInt64) &&& 6148914691236517205)) = v1 := ⟨_, rfl⟩
  have u1 : u6 v1 = pc_f1 6148914691236517205 n := by
    rw [← hv1, u6_sub, u6_and, u6_shr, hn, show ((1 : Int32).toInt64.toUInt64 &&& Int64.toUInt64 63).toNat % 64 = 1 by decide, show u6 6148914691236517205 = 6148914691236517205 by decide]
    unfold pc_f1
    have h1 : (n / 2 ^ 1 &&& 6148914691236517205) ≤ n / 2 ^ 1 := Nat.and_le_left
    rw [show 2 ^ 1 = 2 by decide] at h1 ⊢
    omega
  obtain ⟨v2, hv2⟩ : ∃ v2, ((v1 &&& 3689348814741910323) + (((v1.toUInt64 >>> ((2 : Int32).toInt64.toUInt64 &&& Int64.toUInt64 63)).toInt64) &&& 3689348814741910323)) = v2 := ⟨_, rfl⟩
  have u2 : u6 v2 = pc_f2 3689348814741910323 (pc_f1 6148914691236517205 n) := by
    rw [← hv2, u6_add, u6_and, u6_and, u6_shr, u1, show ((2 : Int32).toInt64.toUInt64 &&& Int64.toUInt64 63).toNat % 64 = 2 by decide, show u6 3689348814741910323 = 3689348814741910323 by decide, show 2 ^ 2 = 4 by decide]
    unfold pc_f2
    have h1 : (pc_f1 6148914691236517205 n &&& 3689348814741910323) ≤ 3689348814741910323 := Nat.and_le_right
    have h2 : (pc_f1 6148914691236517205 n / 4 &&& 3689348814741910323) ≤ 3689348814741910323 := Nat.and_le_right
    omega
  have m2 : u6 v2 ≤ 7378697629483820646 := by
    rw [u2]
    unfold pc_f2
    have h1 : (pc_f1 6148914691236517205 n &&& 3689348814741910323) ≤ 3689348814741910323 := Nat.and_le_right
    have h2 : (pc_f1 6148914691236517205 n / 4 &&& 3689348814741910323) ≤ 3689348814741910323 := Nat.and_le_right
    omega
  obtain ⟨v3, hv3⟩ : ∃ v3, ((v2 + ((v2.toUInt64 >>> ((4 : Int32).toInt64.toUInt64 &&& Int64.toUInt64 63)).toInt64)) &&& 1085102592571150095) = v3 := ⟨_, rfl⟩
  have u3 : u6 v3 = pc_s 8 n := by
    rw [← hv3, u6_and, u6_add, u6_shr, show ((4 : Int32).toInt64.toUInt64 &&& Int64.toUInt64 63).toNat % 64 = 4 by decide, show u6 1085102592571150095 = 1085102592571150095 by decide, show 2 ^ 4 = 16 by decide, Nat.mod_eq_of_lt (by omega), u2]
    exact g
  obtain ⟨w4, w5, q, f1, f2, f3, l4, l5, l6, l3⟩ := pc_fold (v := pc_s 8 n) (pc_b_le (n % 256)) (pc_b_le (n / 256 % 256)) (pc_b_le (n / 256 / 256 % 256)) (pc_b_le (n / 256 / 256 / 256 % 256)) (pc_b_le (n / 256 / 256 / 256 / 256 % 256)) (pc_b_le (n / 256 / 256 / 256 / 256 / 256 % 256)) (pc_b_le (n / 256 / 256 / 256 / 256 / 256 / 256 % 256)) (pc_b_le (n / 256 / 256 / 256 / 256 / 256 / 256 / 256 % 256)) rfl
  obtain ⟨v4, hv4⟩ : ∃ v4, (v3 + ((v3.toUInt64 >>> ((8 : Int32).toInt64.toUInt64 &&& Int64.toUInt64 63)).toInt64)) = v4 := ⟨_, rfl⟩
  have u4 : u6 v4 = w4 := by
    rw [← hv4, u6_add, u6_shr, u3, show ((8 : Int32).toInt64.toUInt64 &&& Int64.toUInt64 63).toNat % 64 = 8 by decide, show 2 ^ 8 = 256 by decide, f1, Nat.mod_eq_of_lt l4]
  obtain ⟨v5, hv5⟩ : ∃ v5, (v4 + ((v4.toUInt64 >>> ((16 : Int32).toInt64.toUInt64 &&& Int64.toUInt64 63)).toInt64)) = v5 := ⟨_, rfl⟩
  have u5 : u6 v5 = w5 := by
    rw [← hv5, u6_add, u6_shr, u4, show ((16 : Int32).toInt64.toUInt64 &&& Int64.toUInt64 63).toNat % 64 = 16 by decide, show 2 ^ 16 = 65536 by decide, f2, Nat.mod_eq_of_lt l5]
  obtain ⟨v6, hv6⟩ : ∃ v6, (v5 + ((v5.toUInt64 >>> ((32 : Int32).toInt64.toUInt64 &&& Int64.toUInt64 63)).toInt64)) = v6 := ⟨_, rfl⟩
  have ut : u6 v6 = q * 256 + pc_t 8 n := by
    rw [← hv6, u6_add, u6_shr, u5, show ((32 : Int32).toInt64.toUInt64 &&& Int64.toUInt64 63).toNat % 64 = 32 by decide, show 2 ^ 32 = 4294967296 by decide, f3, Nat.mod_eq_of_lt l6]
    congr 1
    simp only [pc_t]
    omega
  have hle : pc_t 8 n ≤ 64 := by rw [← gs]; exact s_cnt_le _ 64
  unfold f_J13_bitCount_95d88
  simp only [z_lets, hv1, hv2, hv3, hv4, hv5, hv6]
  rw [gs]
  have e6 : v6 = z64 ((q * 256 + pc_t 8 n : Nat) : Int) := by
    apply Int64.toBitVec_inj.mp
    apply BitVec.eq_of_toNat_eq
    show u6 v6 = (BitVec.ofNat 64 (q * 256 + pc_t 8 n)).toNat
    rw [BitVec.toNat_ofNat, ut]
    omega
  rw [e6, z64_to32]
  congr 1
  apply Int32.toBitVec_inj.mp
  apply BitVec.eq_of_toNat_eq
  rw [Int32.toBitVec_and, BitVec.toNat_and, show (127 : Int32).toBitVec.toNat = 2 ^ 7 - 1 by decide, Nat.and_two_pow_sub_one_eq_mod]
  show (BitVec.ofNat 32 (q * 256 + pc_t 8 n)).toNat % 2 ^ 7 = (BitVec.ofNat 32 (pc_t 8 n)).toNat
  rw [BitVec.toNat_ofNat, BitVec.toNat_ofNat]
  omega
