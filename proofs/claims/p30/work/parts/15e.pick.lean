/-- what is in range in a row -/
def v_r (r : Int → Int) : Prop := v_b r ∧ (∀ p : Int, 0 ≤ p ∧ p < r 3 → 0 ≤ r (6 + 3 * p + 0) ∧ r (6 + 3 * p + 0) < 4398046511104) ∧ (∀ a : Int, 0 ≤ a ∧ a < r 4 → (0 ≤ r (30 + 13 * a + 0) ∧ r (30 + 13 * a + 0) < r 3) ∧ (0 ≤ r (30 + 13 * a + 1) ∧ r (30 + 13 * a + 1) < 42)) ∧ (∀ p : Int, 0 ≤ p ∧ p < r 3 → (-2147483648 ≤ r (6 + 3 * p + 1) ∧ r (6 + 3 * p + 1) < 2147483648) ∧ (-2147483648 ≤ r (6 + 3 * p + 2) ∧ r (6 + 3 * p + 2) < 2147483648)) ∧ (1 ≤ r 1 ∧ r 1 ≤ 50) ∧ (0 ≤ r 2 ∧ r 2 ≤ 50)
/-! who covers an open absence -/
def s_blt (r : Int → Int) (x y p q : Int) : Bool := decide (x < y) || (decide (x = y) && decide (r (6 + 3 * p + 1) < r (6 + 3 * q + 1)))
def s_bb (r : Int → Int) (a : Int) : Nat → Int
  | 0 => -1
  | j + 1 => if r (30 + 13 * a + (5 + j)) ≠ -1 ∧ s_wnf r j a = 0 ∧ (s_bb r a j = -1 ∨ s_blt r (r (30 + 13 * a + (5 + j))) (r (30 + 13 * a + (5 + s_bb r a j))) j (s_bb r a j) = true) then j else s_bb r a j
def s_nt (r : Int → Int) (a : Int) : Nat → Int
  | 0 => -1
  | j + 1 => if s_wnf r j a = 0 ∧ (s_nt r a j = -1 ∨ s_blt r (r (6 + 3 * j + 2)) (r (6 + 3 * s_nt r a j + 2)) j (s_nt r a j) = true) then j else s_nt r a j
theorem s_bb_in (r : Int → Int) (a : Int) (n : Nat) : -1 ≤ s_bb r a n ∧ s_bb r a n < n := by
  induction n with
  | zero => rw [s_bb]; omega
  | succ n ih => rw [s_bb]; split <;> omega
theorem s_nt_in (r : Int → Int) (a : Int) (n : Nat) : -1 ≤ s_nt r a n ∧ s_nt r a n < n := by
  induction n with
  | zero => rw [s_nt]; omega
  | succ n ih => rw [s_nt]; split <;> omega
theorem s_wnf_in (r : Int → Int) (p a : Int) : 0 ≤ s_wnf r p a ∧ s_wnf r p a ≤ 5 := by
  unfold s_wnf s_why
  split
  · omega
  · split
    · omega
    · split
      · omega
      · split
        · omega
        · split <;> omega
/-- who covers a; -1: nobody -/
def s_who (r : Int → Int) (a : Int) : Int := if r (30 + 13 * a + 2) = 0 then (if s_bb r a (r 3).toNat = -1 then s_nt r a (r 3).toNat else s_bb r a (r 3).toNat) else -1
