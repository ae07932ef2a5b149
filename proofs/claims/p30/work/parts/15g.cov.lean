/-- a is covered by p for so many points -/
def s_cv1 (r : Int → Int) (a p pts st : Int) : Int → Int := s_clr (q_up (q_up (q_up r (30 + 13 * a + 2) st) (30 + 13 * a + 3) p) (30 + 13 * a + 4) pts) a 0
def s_add (r : Int → Int) (k z : Int) : Int → Int := q_up r k (r k + z)
def s_cvr (r : Int → Int) (a p : Int) (b : Bool) (pts st : Int) : Int → Int := s_add (s_add (s_add (s_cv1 r a p pts st) (6 + 3 * p + 1) pts) (6 + 3 * r (30 + 13 * a + 0) + 1) (-pts)) (6 + 3 * p + 2) (if b = true then 0 else 1)
/-- the row behind covering a, if it can be -/
def s_byb (r : Int → Int) (a : Int) : Bool := decide (s_bb r a (r 3).toNat ≠ -1)
def s_cpt (r : Int → Int) (a : Int) : Int := if s_byb r a = true then r (30 + 13 * a + (5 + s_who r a)) else r 1
def s_cover (r : Int → Int) (a : Int) : Int → Int := if s_who r a = -1 then r else s_cvr r a (s_who r a) (s_byb r a) (s_cpt r a) (if s_byb r a = true then 1 else 2)
theorem s_who_in {r : Int → Int} (hv : v_r r) (a : Int) : -1 ≤ s_who r a ∧ s_who r a < r 3 := by
  have h3 := hv.1.1
  have b1 := s_bb_in r a (r 3).toNat
  have b2 := s_nt_in r a (r 3).toNat
  unfold s_who
  split
  · split <;> omega
  · omega
