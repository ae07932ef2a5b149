/-! the reference's writers -/
/-- the bids for a, from the j-th on, are none -/
def s_clr (r : Int → Int) (a j : Int) : Int → Int := fun i => if 30 + 13 * a + 5 + j ≤ i ∧ i < 30 + 13 * a + 13 then -1 else r i
theorem m_clearsBids_2 {M : MD} {a : Int} (ha : 0 ≤ a ∧ a < 30) : ∀ (n j : Nat) (f : Nat → Int64) (r : Int → Int), j ≤ 8 → 8 < n + j → q_row f r → ∃ f', f_X3_clearsBids_2 n (sMD_now M f) (z32 a) (z32 j) = some (sMD_now M f') ∧ q_row f' (s_clr r a j) := by
  intro n
  induction n with
  | zero => intro j f r h1 h2; omega
  | succ n ih =>
    intro j f r h1 h2 h
    rw [f_X3_clearsBids_2]
    by_cases c : j = 8
    · simp (disch := omega) only [z32_lit, z32_le]
      rw [if_pos (by omega)]
      refine ⟨f, rfl, fun i hi => ?_⟩
      unfold s_clr
      rw [if_neg (by omega)]
      exact h i hi
    · simp (disch := omega) only [z32_lit, z32_le, z32_neg, z32_add, m_becomes, z_some, z_lets]
      rw [if_neg (by omega)]
      obtain ⟨f', h3, h4⟩ := ih (j + 1) (vp_updL f (30 + 13 * a + (5 + j)).toNat (z64 (-1))) _ (by omega) (by omega) (h.up (30 + 13 * a + (5 + j)) (by omega) (-1))
      refine ⟨f', h3, fun i hi => ?_⟩
      rw [h4 i hi]
      unfold s_clr q_up
      by_cases d : (30 : Int) + 13 * a + 5 + ((j + 1 : Nat) : Int) ≤ i ∧ (i : Int) < 30 + 13 * a + 13
      · rw [if_pos d, if_pos (by omega)]
      · rw [if_neg d]
        by_cases d2 : (i : Int) = 30 + 13 * a + (5 + j)
        · rw [if_pos d2, if_pos (by omega)]
        · rw [if_neg d2, if_neg (by omega)]
theorem m_clearsBids {M : MD} {r : Int → Int} (h : q_row (MD_now M) r) {a : Int} (ha : 0 ≤ a ∧ a < 30) : ∃ f', f_X3_clearsBids M (z32 a) = some (sMD_now M f') ∧ q_row f' (s_clr r a 0) := m_clearsBids_2 (M := M) ha 2000 0 (MD_now M) r (by omega) (by omega) h
/-- how many have bid for a -/
def s_nb8 (r : Int → Int) (a : Int) (p : Nat) : Bool := decide (r (30 + 13 * a + (5 + p)) ≠ -1)
theorem m_bids_4 {M : MD} {r : Int → Int} (h : q_row (MD_now M) r) (hi : q_i32 r) {a : Int} (ha : 0 ≤ a ∧ a < 30) : ∀ (n j : Nat), j ≤ 8 → 8 < n + j → f_X3_bids_4 M n (z32 a) (z32 (s_cnt (s_nb8 r a) j)) (z32 j) = some (z32 (s_cnt (s_nb8 r a) 8)) := by
  intro n
  induction n with
  | zero => intro j h1 h2; omega
  | succ n ih =>
    intro j h1 h2
    have b1 := s_cnt_le (s_nb8 r a) j
    rw [f_X3_bids_4]
    by_cases c : j = 8
    · simp (disch := omega) only [z32_lit, z32_le]
      rw [if_pos (by omega), c]
    · have i0 := hi a (5 + j) (by omega) (by omega)
      have ih1 := ih (j + 1) (by omega) (by omega)
      simp (disch := omega) only [z32_lit, z32_le, z32_neg, z32_add, m_ofA h, z_some, z_lets, z32_eq]
      rw [if_neg (by omega)]
      rw [s_cnt] at ih1
      unfold s_nb8 at ih1
      by_cases d : r (30 + 13 * a + (5 + j)) = -1
      · rw [if_pos d]
        rw [decide_eq_false (fun z => z d), if_neg (by decide)] at ih1
        exact ih1
      · rw [if_neg d]
        rw [decide_eq_true d, if_pos rfl] at ih1
        exact ih1
theorem m_bids {M : MD} {r : Int → Int} (h : q_row (MD_now M) r) (hi : q_i32 r) {a : Int} (ha : 0 ≤ a ∧ a < 30) : f_X3_bids M (z32 a) = some (z32 (s_cnt (s_nb8 r a) 8)) := m_bids_4 h hi ha 2000 0 (by omega) (by omega)
