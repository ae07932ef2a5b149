def q_up (r : Int → Int) (k : Int) (z : Int) : Int → Int := fun i => if i = k then z else r i
/-- one absence is p's, in t -/
def s_is (r : Int → Int) (p t : Int) (a : Nat) : Bool := decide (r (30 + 13 * (a : Int) + 0) = p) && decide (r (30 + 13 * (a : Int) + 1) = t)
/-- p has an absence in t -/
def s_abs (r : Int → Int) (p t : Int) : Bool := s_any (s_is r p t) (r 4).toNat
def s_cov (r : Int → Int) (a : Int) : Bool := decide (r (30 + 13 * a + 2) = 1) || decide (r (30 + 13 * a + 2) = 2)
def s_cis (r : Int → Int) (p t : Int) (a : Nat) : Bool := s_cov r a && (decide (r (30 + 13 * (a : Int) + 3) = p) && decide (r (30 + 13 * (a : Int) + 1) = t))
def s_cvs (r : Int → Int) (p t : Int) : Bool := s_any (s_cis r p t) (r 4).toNat
/-- the row's numbers are ints -/
def q_i32 (r : Int → Int) : Prop := ∀ a k : Int, 0 ≤ a ∧ a < 30 → 0 ≤ k ∧ k < 13 → -2147483648 ≤ r (30 + 13 * a + k) ∧ r (30 + 13 * a + k) < 2147483648
