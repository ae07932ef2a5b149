/-! who works when, and why one cannot cover: the reference's readers -/
def v_b (r : Int → Int) : Prop := (0 ≤ r 3 ∧ r 3 ≤ 8) ∧ (0 ≤ r 4 ∧ r 4 ≤ 30) ∧ (0 ≤ r 0 ∧ r 0 ≤ 5) ∧ q_i32 r
theorem m_isCovered {M : MD} {r : Int → Int} (h : q_row (MD_now M) r) (hv : v_b r) {a : Int} (ha : 0 ≤ a ∧ a < 30) : f_X3_isCovered M (z32 a) = some (z_B (s_cov r a)) := by
  have i2 := hv.2.2.2 a 2 (by omega) (by omega)
  unfold f_X3_isCovered s_cov
  simp (disch := omega) only [z32_lit, m_ofA h, z_some, z32_eq]
  by_cases c1 : r (30 + 13 * a + 2) = 1
  · rw [if_pos c1, decide_eq_true c1]; rfl
  · rw [if_neg c1, decide_eq_false c1]
    by_cases c2 : r (30 + 13 * a + 2) = 2
    · rw [if_neg (fun z => z c2), decide_eq_true c2]; rfl
    · rw [if_pos c2, decide_eq_false c2]; rfl
theorem m_coversIn_5 {M : MD} {r : Int → Int} (h : q_row (MD_now M) r) (hv : v_b r) {N : Nat} (hN : r 4 = N ∧ N ≤ 30) {p t : Int} (hp : -2147483648 ≤ p ∧ p < 2147483648) (ht : -2147483648 ≤ t ∧ t < 2147483648) : ∀ (n a : Nat), a ≤ N → N < n + a → f_X3_coversIn_5 M n (z32 p) (z32 t) (z_B (s_any (s_cis r p t) a)) (z32 a) = some (z_B (s_any (s_cis r p t) N)) := by
  intro n
  induction n with
  | zero => intro a h1 h2; omega
  | succ n ih =>
    intro a h1 h2
    rw [f_X3_coversIn_5]
    simp (disch := omega) only [z32_lit, z64_lit, z_in, if_true, z32_to64]
    rw [h.at (by omega), hN.1]
    simp (disch := omega) only [z_cmp_ge, z_B0, z_B1, z_Bh, z32_add, z_lets]
    by_cases c : a = N
    · rw [if_pos (by omega), c]
    · rw [if_neg (by omega)]
      have ih1 := ih (a + 1) (by omega) (by omega)
      have i0 := hv.2.2.2 a 3 (by omega) (by omega)
      have i1 := hv.2.2.2 a 1 (by omega) (by omega)
      simp (disch := omega) only [m_isCovered h hv, m_ofA h, z_some, z32_eq, z_B0]
      have e : s_any (s_cis r p t) (a + 1) = (s_any (s_cis r p t) a || (s_cov r a && (decide (r (30 + 13 * (a : Int) + 3) = p) && decide (r (30 + 13 * (a : Int) + 1) = t)))) := rfl
      rw [e] at ih1
      by_cases c0 : s_any (s_cis r p t) a = false
      · rw [c0] at ih1 ⊢
        rw [if_neg (fun z => z rfl)]
        by_cases c3 : s_cov r a = false
        · rw [if_pos c3]
          rw [c3] at ih1
          exact ih1
        · rw [if_neg c3]
          rw [eq_true_of_ne_false c3] at ih1
          by_cases c1 : r (30 + 13 * (a : Int) + 3) = p
          · rw [if_neg (fun z => z c1)]
            by_cases c2 : r (30 + 13 * (a : Int) + 1) = t
            · rw [decide_eq_true c1, decide_eq_true c2] at ih1
              rw [if_neg (fun z => z c2)]
              exact ih1
            · rw [decide_eq_true c1, decide_eq_false c2] at ih1
              rw [if_pos c2]
              exact ih1
          · rw [decide_eq_false c1] at ih1
            rw [if_pos c1]
            exact ih1
      · rw [if_pos c0]
        rw [eq_true_of_ne_false c0] at ih1
        exact ih1
theorem m_coversIn {M : MD} {r : Int → Int} (h : q_row (MD_now M) r) (hv : v_b r) {p t : Int} (hp : -2147483648 ≤ p ∧ p < 2147483648) (ht : -2147483648 ≤ t ∧ t < 2147483648) : f_X3_coversIn M (z32 p) (z32 t) = some (z_B (s_cvs r p t)) := by
  have := hv.2.1
  exact m_coversIn_5 h hv (N := (r 4).toNat) (by omega) hp ht 2000 0 (by omega) (by omega)
/-- whether p works in t -/
def s_wrk (r : Int → Int) (p t : Int) : Bool := decide (0 ≤ t ∧ t ≤ 41) && ((s_ros r p t && !s_abs r p t) || s_cvs r p t)
theorem m_worksIn {M : MD} {r : Int → Int} (h : q_row (MD_now M) r) (hv : v_b r) {p t : Int} (hp : 0 ≤ p ∧ p < 8) (ht : -100 ≤ t ∧ t < 100) : f_X3_worksIn M (z32 p) (z32 t) = some (z_B (s_wrk r p t)) := by
  have h4 := hv.2.1
  unfold f_X3_worksIn s_wrk
  simp (disch := omega) only [z32_lit, z64_lit, z32_to64, m_isIn, z_some, z_B0, m_coversIn h hv, m_isAbsent h hv.2.2.2 h4]
  by_cases c : 0 ≤ t ∧ t ≤ 41
  · rw [decide_eq_true c, if_neg (fun z => by cases z)]
    simp (disch := omega) only [m_isRos h, z_some, z_B0]
    cases s_ros r p t <;> cases s_abs r p t <;> cases s_cvs r p t <;> rfl
  · rw [decide_eq_false c, if_pos rfl]; rfl
/-- some shift of the next ones ahead of t, or behind it, is p's work -/
def s_nb (r : Int → Int) (p t : Int) (j : Nat) : Bool := s_wrk r p (t - (j + 1))
def s_na (r : Int → Int) (p t : Int) (j : Nat) : Bool := s_wrk r p (t + (j + 1))
def s_why (r : Int → Int) (p t : Int) : Int := if s_abs r p t = true then 2 else if s_wrk r p t = true then 3 else if s_any (s_nb r p t) (r 0).toNat = true then 4 else if s_any (s_na r p t) (r 0).toNat = true then 5 else 0
theorem m_whyNot_57 {M : MD} {r : Int → Int} (h : q_row (MD_now M) r) (hv : v_b r) {R : Nat} (hR : r 0 = R) {p t : Int} (hp : 0 ≤ p ∧ p < 8) (ht : 0 ≤ t ∧ t < 42) : ∀ (n j : Nat), j ≤ R → R < n + j → s_any (s_na r p t) j = false → f_X3_whyNot_57 M n (z32 p) (z32 t) (z32 (j + 1)) = some (z32 (if s_any (s_na r p t) R = true then 5 else 0)) := by
  have h0 := hv.2.2.1
  intro n
  induction n with
  | zero => intro j h1 h2; omega
  | succ n ih =>
    intro j h1 h2 hj
    rw [f_X3_whyNot_57]
    simp (disch := omega) only [z32_lit, z64_lit, z_in, if_true, z32_to64]
    rw [h.at (by omega), hR]
    simp (disch := omega) only [z_cmp_gt, z32_add, z_lets, m_worksIn h hv, z_some, z_B0]
    by_cases c : j = R
    · rw [if_pos (by omega), ← c, hj]; rfl
    · rw [if_neg (by omega)]
      by_cases d : s_wrk r p (t + (↑j + 1)) = false
      · rw [if_pos d]
        exact ih (j + 1) (by omega) (by omega) (by rw [s_any, hj]; exact d)
      · rw [if_neg d, if_pos (s_any_iff.mpr ⟨j, by omega, eq_true_of_ne_false d⟩)]
theorem m_whyNot_24 {M : MD} {r : Int → Int} (h : q_row (MD_now M) r) (hv : v_b r) {R : Nat} (hR : r 0 = R) {p t : Int} (hp : 0 ≤ p ∧ p < 8) (ht : 0 ≤ t ∧ t < 42) : ∀ (n j : Nat), j ≤ R → R < n + j → s_any (s_nb r p t) j = false → f_X3_whyNot_24 M n (z32 p) (z32 t) (z32 (j + 1)) = some (z32 (if s_any (s_nb r p t) R = true then 4 else if s_any (s_na r p t) R = true then 5 else 0)) := by
  have h0 := hv.2.2.1
  intro n
  induction n with
  | zero => intro j h1 h2; omega
  | succ n ih =>
    intro j h1 h2 hj
    rw [f_X3_whyNot_24]
    simp (disch := omega) only [z32_lit, z64_lit, z_in, if_true, z32_to64]
    rw [h.at (by omega), hR]
    simp (disch := omega) only [z_cmp_gt, z32_add, z32_sub, z_lets, m_worksIn h hv, z_some, z_B0]
    by_cases c : j = R
    · rw [if_pos (by omega), ← c, hj, c]
      exact m_whyNot_57 h hv hR hp ht 2000 0 (by omega) (by omega) rfl
    · rw [if_neg (by omega)]
      by_cases d : s_wrk r p (t - (↑j + 1)) = false
      · rw [if_pos d]
        exact ih (j + 1) (by omega) (by omega) (by rw [s_any, hj]; exact d)
      · rw [if_neg d, if_pos (s_any_iff.mpr ⟨j, by omega, eq_true_of_ne_false d⟩)]
theorem m_whyNot {M : MD} {r : Int → Int} (h : q_row (MD_now M) r) (hv : v_b r) {p t : Int} (hp : 0 ≤ p ∧ p < 8) (ht : 0 ≤ t ∧ t < 42) : f_X3_whyNot M (z32 p) (z32 t) = some (z32 (s_why r p t)) := by
  have h0 := hv.2.2.1
  have h4 := hv.2.1
  unfold f_X3_whyNot s_why
  simp (disch := omega) only [z32_lit, m_isAbsent h hv.2.2.2 h4, m_worksIn h hv, z_some, z_B0]
  by_cases c1 : s_abs r p t = false
  · rw [if_pos c1, c1]
    by_cases c2 : s_wrk r p t = false
    · rw [if_pos c2, c2]
      exact m_whyNot_24 h hv (R := (r 0).toNat) (by omega) hp ht 2000 0 (by omega) (by omega) rfl
    · rw [if_neg c2, eq_true_of_ne_false c2]; rfl
  · rw [if_neg c1, eq_true_of_ne_false c1]; rfl
/-- why p cannot cover the absence a -/
def s_wnf (r : Int → Int) (p a : Int) : Int := if r (30 + 13 * a + 0) = p then 1 else s_why r p (r (30 + 13 * a + 1))
theorem m_whyNotFor {M : MD} {r : Int → Int} (h : q_row (MD_now M) r) (hv : v_b r) {p a : Int} (hp : 0 ≤ p ∧ p < 8) (ha : 0 ≤ a ∧ a < 30) (ht : 0 ≤ r (30 + 13 * a + 1) ∧ r (30 + 13 * a + 1) < 42) : f_X3_whyNotFor M (z32 p) (z32 a) = some (z32 (s_wnf r p a)) := by
  have i0 := hv.2.2.2 a 0 (by omega) (by omega)
  unfold f_X3_whyNotFor s_wnf
  simp (disch := omega) only [z32_lit, m_ofA h, m_whyNot h hv, z_some, z32_eq]
  by_cases c : r (30 + 13 * a + 0) = p
  · rw [if_neg (fun z => z c), if_pos c]
  · rw [if_pos c, if_neg c]
