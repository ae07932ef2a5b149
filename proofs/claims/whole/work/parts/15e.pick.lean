/-- what is in range in a row -/
def v_r (r : Int → Int) : Prop := v_b r ∧ (∀ p : Int, 0 ≤ p ∧ p < r 3 → 0 ≤ r (6 + 3 * p + 0) ∧ r (6 + 3 * p + 0) < 4398046511104) ∧ (∀ a : Int, 0 ≤ a ∧ a < r 4 → (0 ≤ r (30 + 13 * a + 0) ∧ r (30 + 13 * a + 0) < r 3) ∧ (0 ≤ r (30 + 13 * a + 1) ∧ r (30 + 13 * a + 1) < 42)) ∧ (∀ p : Int, 0 ≤ p ∧ p < r 3 → (-2147483648 ≤ r (6 + 3 * p + 1) ∧ r (6 + 3 * p + 1) < 2147483648) ∧ (-2147483648 ≤ r (6 + 3 * p + 2) ∧ r (6 + 3 * p + 2) < 2147483648)) ∧ (1 ≤ r 1 ∧ r 1 ≤ 50) ∧ (0 ≤ r 2 ∧ r 2 ≤ 50)
/-! who covers an open absence -/
def s_blt (r : Int → Int) (x y p q : Int) : Bool := decide (x < y) || (decide (x = y) && decide (r (6 + 3 * p + 1) < r (6 + 3 * q + 1)))
theorem m_isAhead {M : MD} {r : Int → Int} (h : q_row (MD_now M) r) (hv : v_r r) {p q x y : Int} (hp : 0 ≤ p ∧ p < r 3) (hq : 0 ≤ q ∧ q < r 3) (hx : -2147483648 ≤ x ∧ x < 2147483648) (hy : -2147483648 ≤ y ∧ y < 2147483648) : f_X3_isAhead M (z32 p) (z64 x) (z32 q) (z64 y) = some (z_B (s_blt r x y p q)) := by
  have h3 := hv.1.1
  obtain ⟨m1, -⟩ := hv.2.2.2.1 p hp
  obtain ⟨m2, -⟩ := hv.2.2.2.1 q hq
  unfold f_X3_isAhead s_blt
  simp (disch := omega) only [z32_lit, m_ofP h, z_some, z_cmp_eq, z_cmp_ge]
  by_cases c1 : x = y
  · rw [if_pos c1, decide_eq_true c1, decide_eq_false (by omega)]
    by_cases c2 : r (6 + 3 * p + 1) < r (6 + 3 * q + 1)
    · rw [if_neg (by omega), decide_eq_true c2]; rfl
    · rw [if_pos (by omega), decide_eq_false c2]; rfl
  · rw [if_neg c1, decide_eq_false c1]
    by_cases c2 : x < y
    · rw [if_neg (by omega), decide_eq_true c2]; rfl
    · rw [if_pos (by omega), decide_eq_false c2]; rfl
def s_bb (r : Int → Int) (a : Int) : Nat → Int
  | 0 => -1
  | j + 1 => if r (30 + 13 * a + (5 + j)) ≠ -1 ∧ s_wnf r j a = 0 ∧ (s_bb r a j = -1 ∨ s_blt r (r (30 + 13 * a + (5 + j))) (r (30 + 13 * a + (5 + s_bb r a j))) j (s_bb r a j) = true) then j else s_bb r a j
def s_nt (r : Int → Int) (a : Int) : Nat → Int
  | 0 => -1
  | j + 1 => if s_wnf r j a = 0 ∧ (s_nt r a j = -1 ∨ s_blt r (r (6 + 3 * j + 2)) (r (6 + 3 * s_nt r a j + 2)) j (s_nt r a j) = true) then j else s_nt r a j
theorem s_bb_in (r : Int → Int) (a : Int) (n : Nat) : -1 ≤ s_bb r a n ∧ s_bb r a n < n := by
  induction n with
  | zero => rw [s_bb]; omega
  | succ n ih => rw [s_bb]; split <;> omega
theorem s_nt_in (r : Int → Int) (a : Int) (n : Nat) : -1 ≤ s_nt r a n ∧ s_nt r a n < n := by
  induction n with
  | zero => rw [s_nt]; omega
  | succ n ih => rw [s_nt]; split <;> omega
theorem s_wnf_in (r : Int → Int) (p a : Int) : 0 ≤ s_wnf r p a ∧ s_wnf r p a ≤ 5 := by
  unfold s_wnf s_why
  split
  · omega
  · split
    · omega
    · split
      · omega
      · split
        · omega
        · split <;> omega
theorem m_bestBidder_4 {M : MD} {r : Int → Int} (h : q_row (MD_now M) r) (hv : v_r r) {P : Nat} (hP : r 3 = P ∧ P ≤ 8) {a : Int} (ha : 0 ≤ a ∧ a < r 4) : ∀ (n j : Nat), j ≤ P → P < n + j → f_X3_bestBidder_4 M n (z32 a) (z32 (s_bb r a j)) (z32 j) = some (z32 (s_bb r a P)) := by
  have h4 := hv.1.2.1
  have ht := (hv.2.2.1 a ha).2
  intro n
  induction n with
  | zero => intro j h1 h2; omega
  | succ n ih =>
    intro j h1 h2
    have b1 := s_bb_in r a j
    rw [f_X3_bestBidder_4]
    simp (disch := omega) only [z32_lit, z64_lit, z_in, if_true, z32_to64]
    rw [h.at (by omega), hP.1]
    by_cases c : j = P
    · simp (disch := omega) only [z_cmp_ge]
      rw [if_pos (by omega), c]
    · have ih1 := ih (j + 1) (by omega) (by omega)
      rw [s_bb] at ih1
      have i0 := hv.1.2.2.2 a (5 + j) (by omega) (by omega)
      have w0 := s_wnf_in r j a
      simp (disch := omega) only [z_cmp_ge, z32_neg, z32_add, z_lets, m_ofA h, z_some, z32_eq, m_whyNotFor h hv.1]
      rw [if_neg (by omega)]
      by_cases c1 : r (30 + 13 * a + (5 + j)) = -1
      · rw [if_pos c1]
        rw [if_neg (fun z => z.1 c1)] at ih1
        exact ih1
      · rw [if_neg c1]
        by_cases c2 : s_wnf r j a = 0
        · rw [if_neg (fun z => z c2)]
          by_cases c3 : s_bb r a j = -1
          · rw [if_pos c3]
            rw [if_pos ⟨c1, c2, .inl c3⟩] at ih1
            exact ih1
          · rw [if_neg c3]
            have i1 := hv.1.2.2.2 a (5 + s_bb r a j) (by omega) (by omega)
            simp (disch := omega) only [m_ofA h, z_some, z32_to64, m_isAhead h hv, z_B0]
            by_cases c4 : s_blt r (r (30 + 13 * a + (5 + j))) (r (30 + 13 * a + (5 + s_bb r a j))) j (s_bb r a j) = false
            · rw [if_pos c4]
              rw [if_neg (fun z => z.2.2.elim c3 (fun y => by rw [c4] at y; cases y))] at ih1
              exact ih1
            · rw [if_neg c4]
              rw [if_pos ⟨c1, c2, .inr (eq_true_of_ne_false c4)⟩] at ih1
              exact ih1
        · rw [if_pos c2]
          rw [if_neg (fun z => c2 z.2.1)] at ih1
          exact ih1
theorem m_nextTurn_4 {M : MD} {r : Int → Int} (h : q_row (MD_now M) r) (hv : v_r r) {P : Nat} (hP : r 3 = P ∧ P ≤ 8) {a : Int} (ha : 0 ≤ a ∧ a < r 4) : ∀ (n j : Nat), j ≤ P → P < n + j → f_X3_nextTurn_4 M n (z32 a) (z32 (s_nt r a j)) (z32 j) = some (z32 (s_nt r a P)) := by
  have h4 := hv.1.2.1
  have ht := (hv.2.2.1 a ha).2
  intro n
  induction n with
  | zero => intro j h1 h2; omega
  | succ n ih =>
    intro j h1 h2
    have b1 := s_nt_in r a j
    rw [f_X3_nextTurn_4]
    simp (disch := omega) only [z32_lit, z64_lit, z_in, if_true, z32_to64]
    rw [h.at (by omega), hP.1]
    by_cases c : j = P
    · simp (disch := omega) only [z_cmp_ge]
      rw [if_pos (by omega), c]
    · have ih1 := ih (j + 1) (by omega) (by omega)
      rw [s_nt] at ih1
      have i0 := hv.2.2.2.1 j (by omega)
      have w0 := s_wnf_in r j a
      simp (disch := omega) only [z_cmp_ge, z32_neg, z32_add, z_lets, z_some, z32_eq, m_whyNotFor h hv.1]
      rw [if_neg (by omega)]
      by_cases c2 : s_wnf r j a = 0
      · rw [if_neg (fun z => z c2)]
        by_cases c3 : s_nt r a j = -1
        · rw [if_pos c3]
          rw [if_pos ⟨c2, .inl c3⟩] at ih1
          exact ih1
        · rw [if_neg c3]
          have i1 := hv.2.2.2.1 (s_nt r a j) (by omega)
          simp (disch := omega) only [m_ofP h, z_some, m_isAhead h hv, z_B0]
          by_cases c4 : s_blt r (r (6 + 3 * j + 2)) (r (6 + 3 * s_nt r a j + 2)) j (s_nt r a j) = false
          · rw [if_pos c4]
            rw [if_neg (fun z => z.2.elim c3 (fun y => by rw [c4] at y; cases y))] at ih1
            exact ih1
          · rw [if_neg c4]
            rw [if_pos ⟨c2, .inr (eq_true_of_ne_false c4)⟩] at ih1
            exact ih1
      · rw [if_pos c2]
        rw [if_neg (fun z => c2 z.1)] at ih1
        exact ih1
/-- who covers a; -1: nobody -/
def s_who (r : Int → Int) (a : Int) : Int := if r (30 + 13 * a + 2) = 0 then (if s_bb r a (r 3).toNat = -1 then s_nt r a (r 3).toNat else s_bb r a (r 3).toNat) else -1
theorem m_bestBidder {M : MD} {r : Int → Int} (h : q_row (MD_now M) r) (hv : v_r r) {a : Int} (ha : 0 ≤ a ∧ a < r 4) : f_X3_bestBidder M (z32 a) = some (z32 (s_bb r a (r 3).toNat)) := by
  have h3 := hv.1.1
  exact m_bestBidder_4 h hv (P := (r 3).toNat) (by omega) ha 2000 0 (by omega) (by omega)
theorem m_nextTurn {M : MD} {r : Int → Int} (h : q_row (MD_now M) r) (hv : v_r r) {a : Int} (ha : 0 ≤ a ∧ a < r 4) : f_X3_nextTurn M (z32 a) = some (z32 (s_nt r a (r 3).toNat)) := by
  have h3 := hv.1.1
  exact m_nextTurn_4 h hv (P := (r 3).toNat) (by omega) ha 2000 0 (by omega) (by omega)
theorem m_covererOf {M : MD} {r : Int → Int} (h : q_row (MD_now M) r) (hv : v_r r) {a : Int} (ha : 0 ≤ a ∧ a < r 4) : f_X3_covererOf M (z32 a) = some (z32 (s_who r a)) := by
  have h3 := hv.1.1
  have h4 := hv.1.2.1
  have i0 := hv.1.2.2.2 a 2 (by omega) (by omega)
  have b1 := s_bb_in r a (r 3).toNat
  unfold f_X3_covererOf s_who
  simp (disch := omega) only [z32_lit, m_ofA h, z_some, z32_neg, z32_eq, m_bestBidder h hv ha, m_nextTurn h hv ha]
  split
  · split <;> rfl
  · rfl
