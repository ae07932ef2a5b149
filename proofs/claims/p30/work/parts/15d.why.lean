/-! who works when, and why one cannot cover: the reference's readers -/
def v_b (r : Int → Int) : Prop := (0 ≤ r 3 ∧ r 3 ≤ 8) ∧ (0 ≤ r 4 ∧ r 4 ≤ 30) ∧ (0 ≤ r 0 ∧ r 0 ≤ 5) ∧ q_i32 r
/-- whether p works in t -/
def s_wrk (r : Int → Int) (p t : Int) : Bool := decide (0 ≤ t ∧ t ≤ 41) && ((s_ros r p t && !s_abs r p t) || s_cvs r p t)
/-- some shift of the next ones ahead of t, or behind it, is p's work -/
def s_nb (r : Int → Int) (p t : Int) (j : Nat) : Bool := s_wrk r p (t - (j + 1))
def s_na (r : Int → Int) (p t : Int) (j : Nat) : Bool := s_wrk r p (t + (j + 1))
def s_why (r : Int → Int) (p t : Int) : Int := if s_abs r p t = true then 2 else if s_wrk r p t = true then 3 else if s_any (s_nb r p t) (r 0).toNat = true then 4 else if s_any (s_na r p t) (r 0).toNat = true then 5 else 0
/-- why p cannot cover the absence a -/
def s_wnf (r : Int → Int) (p a : Int) : Int := if r (30 + 13 * a + 0) = p then 1 else s_why r p (r (30 + 13 * a + 1))
