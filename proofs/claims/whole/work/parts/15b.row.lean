/-! the reference's row as whole numbers -/
def q_row (f : Nat → Int64) (r : Int → Int) : Prop := ∀ i : Nat, i < 420 → f i = z64 (r i)
def q_up (r : Int → Int) (k : Int) (z : Int) : Int → Int := fun i => if i = k then z else r i
theorem q_row.up {f : Nat → Int64} {r : Int → Int} (h : q_row f r) (k : Int) (hk : 0 ≤ k) (z : Int) : q_row (vp_updL f k.toNat (z64 z)) (q_up r k z) := by
  intro i hi
  unfold vp_updL q_up
  by_cases c : i = k.toNat
  · rw [if_pos c, if_pos (by omega)]
  · rw [if_neg c, if_neg (by omega)]; exact h i hi
theorem q_row.at {f : Nat → Int64} {r : Int → Int} (h : q_row f r) {x : Int} (hx : 0 ≤ x ∧ x < 420) : f (z32 x).toNatClampNeg = z64 (r x) := by
  rw [z32_clamp (by omega), h x.toNat (by omega), Int.toNat_of_nonneg hx.1]
theorem m_isIn {x y z : Int} (hx : -9223372036854775808 ≤ x ∧ x < 9223372036854775808) (hy : -9223372036854775808 ≤ y ∧ y < 9223372036854775808) (hz : -9223372036854775808 ≤ z ∧ z < 9223372036854775808) : f_X3_isIn (z64 x) (z64 y) (z64 z) = some (z_B (decide (y ≤ x ∧ x ≤ z))) := by
  unfold f_X3_isIn
  simp only [z32_lit, z_cmp_lt hx hy, z_cmp_gt hx hz]
  by_cases c1 : x < y
  · rw [if_pos c1, decide_eq_false (by omega)]; rfl
  · rw [if_neg c1]
    by_cases c2 : z < x
    · rw [if_pos c2, decide_eq_false (by omega)]; rfl
    · rw [if_neg c2, decide_eq_true (by omega)]; rfl
theorem m_ofA {M : MD} {r : Int → Int} (h : q_row (MD_now M) r) {a k : Int} (ha : 0 ≤ a ∧ a < 30) (hk : 0 ≤ k ∧ k < 13) : f_X3_ofA M (z32 a) (z32 k) = some (z32 (r (30 + 13 * a + k))) := by
  unfold f_X3_ofA
  simp (disch := omega) only [z32_lit, z32_mul, z32_add, z_in, if_true]
  rw [h.at (by omega), z64_to32]
theorem m_ofP {M : MD} {r : Int → Int} (h : q_row (MD_now M) r) {a k : Int} (ha : 0 ≤ a ∧ a < 8) (hk : 0 ≤ k ∧ k < 3) : f_X3_ofP M (z32 a) (z32 k) = some (z64 (r (6 + 3 * a + k))) := by
  unfold f_X3_ofP
  simp (disch := omega) only [z32_lit, z32_mul, z32_add, z_in, if_true]
  rw [h.at (by omega)]
theorem m_becomes {M : MD} {a k z : Int} (ha : 0 ≤ a ∧ a < 30) (hk : 0 ≤ k ∧ k < 13) (hz : -2147483648 ≤ z ∧ z < 2147483648) : f_X3_becomes M (z32 a) (z32 k) (z32 z) = some (sMD_now M (vp_updL (MD_now M) (30 + 13 * a + k).toNat (z64 z))) := by
  unfold f_X3_becomes
  simp (disch := omega) only [z32_lit, z32_mul, z32_add, z_in, if_true, z_lets, z32_to64, z32_clamp]
theorem m_isPerson {M : MD} {r : Int → Int} (h : q_row (MD_now M) r) (hP : 0 ≤ r 3 ∧ r 3 ≤ 8) {x : Int} (hx : -2147483648 ≤ x ∧ x < 2147483648) : f_X3_isPerson M (z32 x) = some (z_B (decide (0 ≤ x ∧ x < r 3))) := by
  unfold f_X3_isPerson
  simp (disch := omega) only [z32_lit, z64_lit, z_in, if_true, z_lets, z32_to64]
  rw [h.at (by omega), z64_sub, m_isIn (by omega) (by omega) (by omega)]
  simp only [z_some, z_Bg, show (x ≤ r 3 - 1) ↔ x < r 3 by omega]
theorem m_isAbsence {M : MD} {r : Int → Int} (h : q_row (MD_now M) r) (hN : 0 ≤ r 4 ∧ r 4 ≤ 30) {x : Int} (hx : -2147483648 ≤ x ∧ x < 2147483648) : f_X3_isAbsence M (z32 x) = some (z_B (decide (0 ≤ x ∧ x < r 4))) := by
  unfold f_X3_isAbsence
  simp (disch := omega) only [z32_lit, z64_lit, z_in, if_true, z_lets, z32_to64]
  rw [h.at (by omega), z64_sub, m_isIn (by omega) (by omega) (by omega)]
  simp only [z_some, z_Bg, show (x ≤ r 4 - 1) ↔ x < r 4 by omega]
/-- one absence is p's, in t -/
def s_is (r : Int → Int) (p t : Int) (a : Nat) : Bool := decide (r (30 + 13 * (a : Int) + 0) = p) && decide (r (30 + 13 * (a : Int) + 1) = t)
/-- p has an absence in t -/
def s_abs (r : Int → Int) (p t : Int) : Bool := s_any (s_is r p t) (r 4).toNat
def s_cov (r : Int → Int) (a : Int) : Bool := decide (r (30 + 13 * a + 2) = 1) || decide (r (30 + 13 * a + 2) = 2)
def s_cis (r : Int → Int) (p t : Int) (a : Nat) : Bool := s_cov r a && (decide (r (30 + 13 * (a : Int) + 3) = p) && decide (r (30 + 13 * (a : Int) + 1) = t))
def s_cvs (r : Int → Int) (p t : Int) : Bool := s_any (s_cis r p t) (r 4).toNat
/-- the row's numbers are ints -/
def q_i32 (r : Int → Int) : Prop := ∀ a k : Int, 0 ≤ a ∧ a < 30 → 0 ≤ k ∧ k < 13 → -2147483648 ≤ r (30 + 13 * a + k) ∧ r (30 + 13 * a + k) < 2147483648
theorem m_isAbsent_5 {M : MD} {r : Int → Int} (h : q_row (MD_now M) r) (hi : q_i32 r) {N : Nat} (hN : r 4 = N ∧ N ≤ 30) {p t : Int} (hp : -2147483648 ≤ p ∧ p < 2147483648) (ht : -2147483648 ≤ t ∧ t < 2147483648) : ∀ (n a : Nat), a ≤ N → N < n + a → f_X3_isAbsent_5 M n (z32 p) (z32 t) (z_B (s_any (s_is r p t) a)) (z32 a) = some (z_B (s_any (s_is r p t) N)) := by
  intro n
  induction n with
  | zero => intro a h1 h2; omega
  | succ n ih =>
    intro a h1 h2
    rw [f_X3_isAbsent_5]
    simp (disch := omega) only [z32_lit, z64_lit, z_in, if_true, z32_to64]
    rw [h.at (by omega), hN.1]
    simp (disch := omega) only [z_cmp_ge, z_B0, z_B1, z_Bh, z32_add, z_lets]
    by_cases c : a = N
    · rw [if_pos (by omega), c]
    · rw [if_neg (by omega)]
      have ih1 := ih (a + 1) (by omega) (by omega)
      have i0 := hi a 0 (by omega) (by omega)
      have i1 := hi a 1 (by omega) (by omega)
      simp (disch := omega) only [m_ofA h, z_some, z32_eq]
      have e : s_any (s_is r p t) (a + 1) = (s_any (s_is r p t) a || (decide (r (30 + 13 * (a : Int) + 0) = p) && decide (r (30 + 13 * (a : Int) + 1) = t))) := rfl
      rw [e] at ih1
      by_cases c0 : s_any (s_is r p t) a = false
      · rw [c0] at ih1 ⊢
        rw [if_neg (fun z => z rfl)]
        by_cases c1 : r (30 + 13 * (a : Int) + 0) = p
        · rw [if_neg (fun z => z c1)]
          by_cases c2 : r (30 + 13 * (a : Int) + 1) = t
          · rw [decide_eq_true c1, decide_eq_true c2] at ih1
            rw [if_neg (fun z => z c2)]
            exact ih1
          · rw [decide_eq_true c1, decide_eq_false c2] at ih1
            rw [if_pos c2]
            exact ih1
        · rw [decide_eq_false c1] at ih1
          rw [if_pos c1]
          exact ih1
      · rw [if_pos c0]
        rw [eq_true_of_ne_false c0] at ih1
        exact ih1
theorem m_isAbsent {M : MD} {r : Int → Int} (h : q_row (MD_now M) r) (hi : q_i32 r) (hN : 0 ≤ r 4 ∧ r 4 ≤ 30) {p t : Int} (hp : -2147483648 ≤ p ∧ p < 2147483648) (ht : -2147483648 ≤ t ∧ t < 2147483648) : f_X3_isAbsent M (z32 p) (z32 t) = some (z_B (s_abs r p t)) :=
  m_isAbsent_5 h hi (N := (r 4).toNat) (by omega) hp ht 2000 0 (by omega) (by omega)
theorem m_isRostered {M : MD} {r : Int → Int} (h : q_row (MD_now M) r) {p t : Int} (hp : 0 ≤ p ∧ p < 8) : f_X3_isRostered M (z32 p) (z32 t) = some (z_B (decide (((z64 (r (6 + 3 * p + 0)) >>> ((z32 t).toInt64 &&& 63)) &&& 1) = 1))) := by
  unfold f_X3_isRostered
  simp (disch := omega) only [z32_lit, m_ofP h, z_some]
  by_cases c : ((z64 (r (6 + 3 * p + 0)) >>> ((z32 t).toInt64 &&& 63)) &&& 1) = 1
  · rw [decide_eq_true c, if_neg]
    · rfl
    · exact fun z => z ((lg_cmp_eq _ _).mpr c)
  · rw [decide_eq_false c, if_pos]
    · rfl
    · exact fun z => c ((lg_cmp_eq _ _).mp z)
