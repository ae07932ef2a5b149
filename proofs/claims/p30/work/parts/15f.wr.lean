/-! the reference's writers -/
/-- the bids for a, from the j-th on, are none -/
def s_clr (r : Int → Int) (a j : Int) : Int → Int := fun i => if 30 + 13 * a + 5 + j ≤ i ∧ i < 30 + 13 * a + 13 then -1 else r i
/-- how many have bid for a -/
def s_nb8 (r : Int → Int) (a : Int) (p : Nat) : Bool := decide (r (30 + 13 * a + (5 + p)) ≠ -1)
