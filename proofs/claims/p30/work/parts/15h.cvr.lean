/-! what covering writes, place by place -/
theorem q_up_ne {r : Int → Int} {k z i : Int} (h : i ≠ k) : q_up r k z i = r i := if_neg h
theorem q_up_eq {r : Int → Int} {k z i : Int} (h : i = k) : q_up r k z i = z := if_pos h
theorem s_clr_ne {r : Int → Int} {a j i : Int} (h : ¬ (30 + 13 * a + 5 + j ≤ i ∧ i < 30 + 13 * a + 13)) : s_clr r a j i = r i := if_neg h
theorem s_clr_eq {r : Int → Int} {a j i : Int} (h : 30 + 13 * a + 5 + j ≤ i ∧ i < 30 + 13 * a + 13) : s_clr r a j i = -1 := if_pos h
theorem s_add_ne {r : Int → Int} {k z i : Int} (h : i ≠ k) : s_add r k z i = r i := if_neg h
theorem s_add_eq {r : Int → Int} {k z i : Int} (h : i = k) : s_add r k z i = r i + z := by subst h; exact if_pos rfl
theorem s_cv1_ne {r : Int → Int} {a p pts st i : Int} (h : i < 30 + 13 * a + 2 ∨ 30 + 13 * a + 13 ≤ i) : s_cv1 r a p pts st i = r i := by
  unfold s_cv1
  rw [s_clr_ne (by omega), q_up_ne (by omega), q_up_ne (by omega), q_up_ne (by omega)]
theorem s_cvr_lo {r : Int → Int} {a p pts st : Int} {b : Bool} (ha : 0 ≤ a ∧ a < 30) (hp : 0 ≤ p ∧ p < 8) (hw : 0 ≤ r (30 + 13 * a + 0) ∧ r (30 + 13 * a + 0) < 8) {i : Int} (hi : i < 6) : s_cvr r a p b pts st i = r i := by
  unfold s_cvr
  rw [s_add_ne (by omega), s_add_ne (by omega), s_add_ne (by omega), s_cv1_ne (by omega)]
theorem s_cvr_ab {r : Int → Int} {a p pts st : Int} {b : Bool} (ha : 0 ≤ a ∧ a < 30) (hp : 0 ≤ p ∧ p < 8) (hw : 0 ≤ r (30 + 13 * a + 0) ∧ r (30 + 13 * a + 0) < 8) {c k : Int} (hc : 0 ≤ c ∧ c < 30) (hk : 0 ≤ k ∧ k < 13) : s_cvr r a p b pts st (30 + 13 * c + k) = if c = a then (if k < 2 then r (30 + 13 * c + k) else if k = 2 then st else if k = 3 then p else if k = 4 then pts else -1) else r (30 + 13 * c + k) := by
  unfold s_cvr
  rw [s_add_ne (by omega), s_add_ne (by omega), s_add_ne (by omega)]
  by_cases d : c = a
  · rw [if_pos d]
    by_cases k0 : k < 2
    · rw [if_pos k0, s_cv1_ne (by omega)]
    · unfold s_cv1
      rw [if_neg k0]
      by_cases k2 : k = 2
      · rw [if_pos k2, s_clr_ne (by omega), q_up_ne (by omega), q_up_ne (by omega), q_up_eq (by omega)]
      · rw [if_neg k2]
        by_cases k3 : k = 3
        · rw [if_pos k3, s_clr_ne (by omega), q_up_ne (by omega), q_up_eq (by omega)]
        · rw [if_neg k3]
          by_cases k4 : k = 4
          · rw [if_pos k4, s_clr_ne (by omega), q_up_eq (by omega)]
          · rw [if_neg k4, s_clr_eq (by omega)]
  · rw [if_neg d, s_cv1_ne (by omega)]
theorem s_cvr_ps {r : Int → Int} {a p pts st : Int} {b : Bool} (ha : 0 ≤ a ∧ a < 30) (hp : 0 ≤ p ∧ p < 8) (hw : 0 ≤ r (30 + 13 * a + 0) ∧ r (30 + 13 * a + 0) < 8) {q : Int} (hq : 0 ≤ q ∧ q < 8) :
    s_cvr r a p b pts st (6 + 3 * q + 0) = r (6 + 3 * q + 0) ∧ s_cvr r a p b pts st (6 + 3 * q + 1) = r (6 + 3 * q + 1) + (if q = p then pts else 0) - (if q = r (30 + 13 * a + 0) then pts else 0) ∧ s_cvr r a p b pts st (6 + 3 * q + 2) = r (6 + 3 * q + 2) + (if q = p ∧ b = false then 1 else 0) := by
  unfold s_cvr
  refine ⟨?_, ?_, ?_⟩
  · rw [s_add_ne (by omega), s_add_ne (by omega), s_add_ne (by omega), s_cv1_ne (by omega)]
  · rw [s_add_ne (by omega)]
    by_cases d : q = r (30 + 13 * a + 0)
    · rw [if_pos d, s_add_eq (by omega)]
      by_cases d2 : q = p
      · rw [if_pos d2, s_add_eq (by omega), s_cv1_ne (by omega)]; omega
      · rw [if_neg d2, s_add_ne (by omega), s_cv1_ne (by omega)]; omega
    · rw [if_neg d, s_add_ne (by omega)]
      by_cases d2 : q = p
      · rw [if_pos d2, s_add_eq (by omega), s_cv1_ne (by omega)]; omega
      · rw [if_neg d2, s_add_ne (by omega), s_cv1_ne (by omega)]; omega
  · by_cases d : q = p
    · rw [s_add_eq (by omega), s_add_ne (by omega), s_add_ne (by omega), s_cv1_ne (by omega)]
      cases b
      · simp [d]
      · simp
    · rw [s_add_ne (by omega), s_add_ne (by omega), s_add_ne (by omega), s_cv1_ne (by omega), if_neg (fun z => d z.1)]; omega
