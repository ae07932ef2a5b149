/-! bits of an int; digits of a code -/
def b3 (x : Int32) (i : Nat) : Bool := x.toBitVec.getLsbD i
theorem b3_ext {x y : Int32} (h : ∀ i, i < 32 → b3 x i = b3 y i) : x = y := Int32.toBitVec_inj.mp (BitVec.eq_of_getLsbD_eq (fun i hi => h i hi))
theorem b3_or (x y : Int32) (i : Nat) : b3 (x ||| y) i = (b3 x i || b3 y i) := by unfold b3; rw [Int32.toBitVec_or, BitVec.getLsbD_or]
theorem b3_and (x y : Int32) (i : Nat) : b3 (x &&& y) i = (b3 x i && b3 y i) := by unfold b3; rw [Int32.toBitVec_and, BitVec.getLsbD_and]
theorem b3_0 (i : Nat) : b3 0 i = false := BitVec.getLsbD_zero
theorem b3_sl : ∀ n, n < 32 → ((z32 (n : Nat) &&& 31).toBitVec.smod 32).toNat = n := by decide +kernel
theorem b3_shl (n : Nat) (hn : n < 32) (x : Int32) {i : Nat} (hi : i < 32) : b3 (x <<< (z32 (n : Nat) &&& 31)) i = (decide (n ≤ i) && b3 x (i - n)) := by
  unfold b3
  rw [Int32.toBitVec_shiftLeft]
  show (x.toBitVec <<< ((z32 (n : Nat) &&& 31).toBitVec.smod 32).toNat).getLsbD i = _
  rw [b3_sl n hn, BitVec.getLsbD_shiftLeft]
  rcases Nat.lt_or_ge i n with h | h
  · simp [h, Nat.not_le.mpr h]
  · simp [hi, h, Nat.not_lt.mpr h]
theorem b3_sshr (n : Nat) (hn : n < 32) (x : Int32) {i : Nat} (hi : i < 32) : b3 (x >>> (z32 (n : Nat) &&& 31)) i = if n + i < 32 then b3 x (n + i) else b3 x 31 := by
  unfold b3
  rw [Int32.toBitVec_shiftRight]
  show (x.toBitVec.sshiftRight ((z32 (n : Nat) &&& 31).toBitVec.smod 32).toNat).getLsbD i = _
  rw [b3_sl n hn, BitVec.getLsbD_sshiftRight, BitVec.msb_eq_getLsbD_last]
  simp [hi]
theorem b3_one (i : Nat) : b3 1 i = decide (i = 0) := by
  unfold b3
  show (1#32).getLsbD i = _
  rw [BitVec.getLsbD_one]
  simp
theorem b3_bit (t : Nat) (ht : t < 32) {i : Nat} (hi : i < 32) : b3 (z32 1 <<< (z32 (t : Nat) &&& z32 31)) i = decide (i = t) := by
  show b3 ((1 : Int32) <<< (z32 (t : Nat) &&& 31)) i = _
  rw [b3_shl t ht _ hi, b3_one]
  by_cases c : t ≤ i
  · by_cases d : i = t
    · subst d; simp
    · simp [c, d, show ¬ i - t = 0 by omega]
  · simp [c, show ¬ i = t by omega]
theorem b3_shr1 (x : Int32) (t : Nat) (ht : t < 32) : ((x >>> (z32 (t : Nat) &&& 31)) &&& 1) = 0 ↔ b3 x t = false := by
  constructor
  · intro h
    have h0 := congrArg (fun z => b3 z 0) h
    simp only [b3_and, b3_one, b3_0] at h0
    rw [b3_sshr t ht _ (by omega)] at h0
    simpa [ht] using h0
  · intro h
    apply b3_ext
    intro i hi
    rw [b3_and, b3_one, b3_sshr t ht _ hi, b3_0]
    by_cases c : i = 0
    · subst c; simp [ht, h]
    · simp [c]
theorem g_able (r : Int → Int) (a : Int) {i : Nat} (hi : i < 32) : ∀ j : Nat, j ≤ 8 → b3 (s_able r a j) i = (decide (i < j) && decide (s_wnf r i a = 0))
  | 0, _ => by
    rw [decide_eq_false (by omega), Bool.false_and]
    exact b3_0 i
  | j + 1, h => by
    have ih := g_able r a hi j (by omega)
    rw [s_able]
    by_cases c : s_wnf r j a = 0
    · rw [if_pos c, b3_or, ih, b3_bit j (by omega) hi]
      by_cases d : i = j
      · subst d
        rw [decide_eq_true c, decide_eq_true (show i < i + 1 by omega), decide_eq_true (show i = i from rfl), Bool.or_true]
        rfl
      · rw [decide_eq_false d, Bool.or_false, decide_eq_decide.mpr (show i < j ↔ i < j + 1 by omega)]
    · rw [if_neg c, ih]
      by_cases d : i = j
      · subst d
        rw [decide_eq_false c, Bool.and_false, Bool.and_false]
      · rw [decide_eq_decide.mpr (show i < j ↔ i < j + 1 by omega)]
theorem g_bit {r : Int → Int} {a : Int} {p P : Nat} (hp : p < P) (hP : P ≤ 8) : (((s_able r a P >>> (z32 (p : Nat) &&& 31)) &&& 1) = 0) ↔ ¬ s_wnf r p a = 0 := by
  rw [b3_shr1 _ p (by omega), g_able r a (by omega) P hP, decide_eq_true hp, Bool.true_and, decide_eq_false_iff_not]
def g_dig (B : Nat) : Nat → Nat → Nat
  | c, 0 => c % B
  | c, k + 1 => g_dig B (c / B) k
theorem g_dig_lt {B : Nat} (hB : 0 < B) : ∀ (k c : Nat), g_dig B c k < B
  | 0, _ => Nat.mod_lt _ hB
  | k + 1, c => g_dig_lt hB k (c / B)
def g_code (B : Nat) (d : Nat → Nat) : Nat → Nat → Nat
  | 0, _ => 0
  | k + 1, i => d i + B * g_code B d k (i + 1)
theorem g_code_lt {B : Nat} {d : Nat → Nat} (hd : ∀ j, d j < B) : ∀ (k i : Nat), g_code B d k i < B ^ k
  | 0, _ => Nat.one_pos
  | k + 1, i => by
    have ih := g_code_lt hd k (i + 1)
    have h1 := hd i
    have h2 := Nat.mul_le_mul_left B ih
    rw [Nat.succ_eq_add_one, Nat.mul_add, Nat.mul_one] at h2
    rw [g_code, Nat.pow_succ, Nat.mul_comm (B ^ k) B]
    omega
theorem g_dig_code {B : Nat} {d : Nat → Nat} (hd : ∀ j, d j < B) : ∀ (k i j : Nat), j < k → g_dig B (g_code B d k i) j = d (i + j)
  | 0, _, _, h => absurd h (by omega)
  | k + 1, i, 0, _ => by
    rw [g_code, g_dig, Nat.add_mul_mod_self_left, Nat.mod_eq_of_lt (hd i)]
    rfl
  | k + 1, i, j + 1, h => by
    have h1 := hd i
    rw [g_code, g_dig, Nat.add_mul_div_left _ _ (by omega), Nat.div_eq_of_lt h1, Nat.zero_add, g_dig_code hd k (i + 1) j (by omega), show i + 1 + j = i + (j + 1) by omega]
theorem z_nI (n : Nat) : z32 (n : Int) = nI n := rfl
theorem m_takes_5 {B k : Nat} (hB : 0 < B ∧ B < 100) (hk : k < 100) : ∀ (n i c : Nat), i ≤ k → k < n + i → c < 100000 → f_X3_takes_5 n (z32 (k : Nat)) (z32 (B : Nat)) (z32 (c : Nat)) (z32 (i : Nat)) = some (z32 ((g_dig B c (k - i) : Nat) - 1)) := by
  intro n
  induction n with
  | zero => intro i c h1 h2; omega
  | succ n ih =>
    intro i c h1 h2 hc
    rw [f_X3_takes_5]
    have L : (z32 (k : Int) ≤ z32 (i : Int)) ↔ k ≤ i := (z32_le ⟨by omega, by omega⟩ ⟨by omega, by omega⟩).trans (by omega)
    have nB : ¬ z32 (B : Int) = 0 := fun z => by
      have := (z32_eq (y := 0) ⟨by omega, by omega⟩ ⟨by omega, by omega⟩).mp z
      omega
    by_cases c1 : k ≤ i
    · have e : z32 (c : Int) - z32 (c : Int) / z32 (B : Int) * z32 (B : Int) = z32 ((c % B : Nat) : Int) := pk_rem (by omega) hB.1 (by omega)
      rw [if_pos (L.mpr c1), if_pos nB, e, show k - i = 0 by omega, g_dig, show (1 : Int32) = z32 1 from rfl, z32_sub]
    · have e : z32 (c : Int) / z32 (B : Int) = z32 ((c / B : Nat) : Int) := pk_div (by omega) hB.1 (by omega)
      have h3 := Nat.div_le_self c B
      have ih1 := ih (i + 1) (c / B) (by omega) (by omega) (by omega)
      rw [if_neg (fun z => c1 (L.mp z)), if_pos nB, z_lets, z_lets, e, show z32 (i : Int) + 1 = z32 ((i + 1 : Nat) : Int) by rw [show (1 : Int32) = z32 1 from rfl, z32_add]; rfl, ih1, show k - i = (k - (i + 1)) + 1 by omega, g_dig]
theorem m_takes {B k c : Nat} (hB : 0 < B ∧ B < 100) (hk : k < 100) (hc : c < 100000) : f_X3_takes (z32 (c : Nat)) (z32 (k : Nat)) (z32 (B : Nat)) = some (z32 ((g_dig B c k : Nat) - 1)) := m_takes_5 hB hk 2000 0 c (by omega) (by omega) hc
