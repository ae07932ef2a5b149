/-! numbers: ints and longs as whole numbers -/
def z32 (z : Int) : Int32 := Int32.ofInt z
def z64 (z : Int) : Int64 := Int64.ofInt z
theorem z32_toInt {z : Int} (h : -2147483648 ≤ z) (h2 : z < 2147483648) : (z32 z).toInt = z := Int32.toInt_ofInt_of_le h h2
theorem z64_toInt {z : Int} (h : -9223372036854775808 ≤ z) (h2 : z < 9223372036854775808) : (z64 z).toInt = z := Int64.toInt_ofInt_of_le h h2
theorem z32_eq {x y : Int} (hx : -2147483648 ≤ x ∧ x < 2147483648) (hy : -2147483648 ≤ y ∧ y < 2147483648) : (z32 x = z32 y) ↔ x = y := by
  rw [← Int32.toInt_inj, z32_toInt hx.1 hx.2, z32_toInt hy.1 hy.2]
theorem z32_lt {x y : Int} (hx : -2147483648 ≤ x ∧ x < 2147483648) (hy : -2147483648 ≤ y ∧ y < 2147483648) : (z32 x < z32 y) ↔ x < y := by
  rw [Int32.lt_iff_toInt_lt, z32_toInt hx.1 hx.2, z32_toInt hy.1 hy.2]
theorem z32_le {x y : Int} (hx : -2147483648 ≤ x ∧ x < 2147483648) (hy : -2147483648 ≤ y ∧ y < 2147483648) : (z32 x ≤ z32 y) ↔ x ≤ y := by
  rw [Int32.le_iff_toInt_le, z32_toInt hx.1 hx.2, z32_toInt hy.1 hy.2]
theorem z64_eq {x y : Int} (hx : -9223372036854775808 ≤ x ∧ x < 9223372036854775808) (hy : -9223372036854775808 ≤ y ∧ y < 9223372036854775808) : (z64 x = z64 y) ↔ x = y := by
  rw [← Int64.toInt_inj, z64_toInt hx.1 hx.2, z64_toInt hy.1 hy.2]
theorem z64_lt {x y : Int} (hx : -9223372036854775808 ≤ x ∧ x < 9223372036854775808) (hy : -9223372036854775808 ≤ y ∧ y < 9223372036854775808) : (z64 x < z64 y) ↔ x < y := by
  rw [Int64.lt_iff_toInt_lt, z64_toInt hx.1 hx.2, z64_toInt hy.1 hy.2]
theorem z64_le {x y : Int} (hx : -9223372036854775808 ≤ x ∧ x < 9223372036854775808) (hy : -9223372036854775808 ≤ y ∧ y < 9223372036854775808) : (z64 x ≤ z64 y) ↔ x ≤ y := by
  rw [Int64.le_iff_toInt_le, z64_toInt hx.1 hx.2, z64_toInt hy.1 hy.2]
theorem z32_add (x y : Int) : z32 x + z32 y = z32 (x + y) := (Int32.ofInt_add x y).symm
theorem z32_sub (x y : Int) : z32 x - z32 y = z32 (x - y) := (Int32.ofInt_sub x y).symm
theorem z32_mul (x y : Int) : z32 x * z32 y = z32 (x * y) := (Int32.ofInt_mul x y).symm
theorem z32_neg (x : Int) : -z32 x = z32 (-x) := (Int32.ofInt_neg x).symm
theorem z64_add (x y : Int) : z64 x + z64 y = z64 (x + y) := (Int64.ofInt_add x y).symm
theorem z64_sub (x y : Int) : z64 x - z64 y = z64 (x - y) := (Int64.ofInt_sub x y).symm
theorem z64_mul (x y : Int) : z64 x * z64 y = z64 (x * y) := (Int64.ofInt_mul x y).symm
theorem z64_neg (x : Int) : -z64 x = z64 (-x) := (Int64.ofInt_neg x).symm
theorem z32_lit (n : Nat) : (OfNat.ofNat n : Int32) = z32 (OfNat.ofNat n : Int) := id rfl
theorem z64_lit (n : Nat) : (OfNat.ofNat n : Int64) = z64 (OfNat.ofNat n : Int) := id rfl
theorem z32_to64 {x : Int} (h : -2147483648 ≤ x ∧ x < 2147483648) : (z32 x).toInt64 = z64 x := by
  rw [← Int64.toInt_inj, Int32.toInt_toInt64, z32_toInt h.1 h.2, z64_toInt (by omega) (by omega)]
theorem z64_to32 (x : Int) : (z64 x).toInt32 = z32 x := Int64.toInt32_ofInt
theorem z32_clamp {x : Int} (h : -2147483648 ≤ x ∧ x < 2147483648) : (z32 x).toNatClampNeg = x.toNat := by
  rw [Int32.toNatClampNeg, z32_toInt h.1 h.2]
theorem z_cmp_lt {x y : Int} (hx : -9223372036854775808 ≤ x ∧ x < 9223372036854775808) (hy : -9223372036854775808 ≤ y ∧ y < 9223372036854775808) : (lg_cmp (z64 x) (z64 y) < z32 0) ↔ x < y := (lg_cmp_lt _ _).trans (z64_lt hx hy)
theorem z_cmp_le {x y : Int} (hx : -9223372036854775808 ≤ x ∧ x < 9223372036854775808) (hy : -9223372036854775808 ≤ y ∧ y < 9223372036854775808) : (lg_cmp (z64 x) (z64 y) ≤ z32 0) ↔ x ≤ y := (lg_cmp_le _ _).trans (z64_le hx hy)
theorem z_cmp_gt {x y : Int} (hx : -9223372036854775808 ≤ x ∧ x < 9223372036854775808) (hy : -9223372036854775808 ≤ y ∧ y < 9223372036854775808) : (z32 0 < lg_cmp (z64 x) (z64 y)) ↔ y < x := (lg_cmp_gt _ _).trans (z64_lt hy hx)
theorem z_cmp_ge {x y : Int} (hx : -9223372036854775808 ≤ x ∧ x < 9223372036854775808) (hy : -9223372036854775808 ≤ y ∧ y < 9223372036854775808) : (z32 0 ≤ lg_cmp (z64 x) (z64 y)) ↔ y ≤ x := (lg_cmp_ge _ _).trans (z64_le hy hx)
theorem z_cmp_eq {x y : Int} (hx : -9223372036854775808 ≤ x ∧ x < 9223372036854775808) (hy : -9223372036854775808 ≤ y ∧ y < 9223372036854775808) : (lg_cmp (z64 x) (z64 y) = z32 0) ↔ x = y := (lg_cmp_eq _ _).trans (z64_eq hx hy)
theorem z_in {x : Int} {n : Nat} (h : 0 ≤ x ∧ x < n ∧ n < 2147483648) : (q_in (z32 x) n = true) = True := by
  refine eq_true (q_inE.mpr ?_)
  unfold vp_in
  rw [show ((0 : Int32)) = z32 0 from rfl, z32_lt (by omega) (by omega), z32_clamp (by omega)]
  omega
theorem z_lets {α β : Type} (x : α) (k : α → β) : q_let x k = k x := rfl
theorem z_some {α β : Type} (x : α) (k : α → Option β) : (some x).bind k = k x := rfl
theorem z_upd (f : Nat → Int64) (k : Nat) (x : Int64) (j : Nat) : vp_updL f k x j = if j = k then x else f j := rfl
/-- a Boolean as the machine has it -/
def z_B (b : Bool) : Int32 := if b = true then z32 1 else z32 0
theorem z_B0 (b : Bool) : (z_B b = z32 0) ↔ b = false := by cases b <;> decide
theorem z_B1 (b : Bool) : (z_B b = z32 1) ↔ b = true := by cases b <;> decide
theorem z_Bg {α : Type} (b : Bool) (x y : α) : (if z_B b = z32 0 ∨ z_B b = z32 1 then x else y) = x := by
  rw [if_pos]
  cases b
  · exact .inl rfl
  · exact .inr rfl
theorem z_Bh {α : Type} (b : Bool) (x y : α) : (if b = false ∨ b = true then x else y) = x := by
  rw [if_pos]
  cases b
  · exact .inl rfl
  · exact .inr rfl
theorem z_g1 {α : Type} (x y : α) : (if z32 1 = z32 0 ∨ z32 1 = z32 1 then x else y) = x := rfl
theorem z_g0 {α : Type} (x y : α) : (if z32 0 = z32 0 ∨ z32 0 = z32 1 then x else y) = x := rfl
theorem z_Bt : z32 1 = z_B true := rfl
theorem z_Bf : z32 0 = z_B false := rfl
/-! counting -/
def s_any (f : Nat → Bool) : Nat → Bool
  | 0 => false
  | n + 1 => s_any f n || f n
def s_cnt (f : Nat → Bool) : Nat → Nat
  | 0 => 0
  | n + 1 => s_cnt f n + (if f n = true then 1 else 0)
def s_sum (f : Nat → Int) : Nat → Int
  | 0 => 0
  | n + 1 => s_sum f n + f n
theorem s_any_iff {f : Nat → Bool} {n : Nat} : s_any f n = true ↔ ∃ i, i < n ∧ f i = true := by
  induction n with
  | zero => exact ⟨fun h => (by cases h), fun ⟨i, h, _⟩ => absurd h (by omega)⟩
  | succ n ih =>
    rw [s_any, Bool.or_eq_true, ih]
    constructor
    · rintro (⟨i, h1, h2⟩ | h)
      · exact ⟨i, by omega, h2⟩
      · exact ⟨n, by omega, h⟩
    · rintro ⟨i, h1, h2⟩
      by_cases c : i = n
      · exact .inr (c ▸ h2)
      · exact .inl ⟨i, by omega, h2⟩
theorem s_any_no {f : Nat → Bool} {n : Nat} : s_any f n = false ↔ ∀ i, i < n → f i = false := by
  rw [← Bool.not_eq_true, s_any_iff]
  constructor
  · intro h i hi
    exact Bool.eq_false_iff.mpr fun z => h ⟨i, hi, z⟩
  · rintro h ⟨i, hi, z⟩
    rw [h i hi] at z
    cases z
theorem s_any_congr {f g : Nat → Bool} {n : Nat} (h : ∀ i, i < n → f i = g i) : s_any f n = s_any g n := by
  induction n with
  | zero => rfl
  | succ n ih => rw [s_any, s_any, ih fun i hi => h i (by omega), h n (by omega)]
theorem s_cnt_congr {f g : Nat → Bool} {n : Nat} (h : ∀ i, i < n → f i = g i) : s_cnt f n = s_cnt g n := by
  induction n with
  | zero => rfl
  | succ n ih => rw [s_cnt, s_cnt, ih fun i hi => h i (by omega), h n (by omega)]
theorem s_sum_congr {f g : Nat → Int} {n : Nat} (h : ∀ i, i < n → f i = g i) : s_sum f n = s_sum g n := by
  induction n with
  | zero => rfl
  | succ n ih => rw [s_sum, s_sum, ih fun i hi => h i (by omega), h n (by omega)]
theorem s_cnt_le (f : Nat → Bool) (n : Nat) : s_cnt f n ≤ n := by
  induction n with
  | zero => exact Nat.le_refl _
  | succ n ih => rw [s_cnt]; split <;> omega
