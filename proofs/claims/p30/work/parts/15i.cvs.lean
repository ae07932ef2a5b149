/-! who is absent and who covers, behind covering -/
theorem s_cvr_abs {r : Int → Int} {a p pts st : Int} {b : Bool} (ha : 0 ≤ a ∧ a < 30) (hp : 0 ≤ p ∧ p < 8) (hw : 0 ≤ r (30 + 13 * a + 0) ∧ r (30 + 13 * a + 0) < 8) (hN : 0 ≤ r 4 ∧ r 4 ≤ 30) (q t : Int) : s_abs (s_cvr r a p b pts st) q t = s_abs r q t := by
  unfold s_abs
  rw [s_cvr_lo ha hp hw (by omega)]
  apply s_any_congr
  intro i hi
  unfold s_is
  rw [s_cvr_ab ha hp hw (by omega) (by omega), s_cvr_ab ha hp hw (by omega) (by omega)]
  by_cases d : (i : Int) = a
  · rw [if_pos d, if_pos d, if_pos (by omega), if_pos (by omega)]
  · rw [if_neg d, if_neg d]
theorem s_any_set {f g : Nat → Bool} {n k : Nat} (hk : k < n) (h : ∀ i, i < n → i ≠ k → g i = f i) (h0 : f k = false) : s_any g n = (s_any f n || g k) := by
  rw [Bool.eq_iff_iff, Bool.or_eq_true, s_any_iff, s_any_iff]
  constructor
  · rintro ⟨i, h1, h2⟩
    by_cases c : i = k
    · exact .inr (c ▸ h2)
    · exact .inl ⟨i, h1, by rw [← h i h1 c]; exact h2⟩
  · rintro (⟨i, h1, h2⟩ | h2)
    · have c : i ≠ k := fun c => by rw [c, h0] at h2; cases h2
      exact ⟨i, h1, by rw [h i h1 c]; exact h2⟩
    · exact ⟨k, hk, h2⟩
theorem s_cvr_cvs {r : Int → Int} {a : Nat} {p pts st : Int} {b : Bool} (ha : (a : Int) < r 4) (hp : 0 ≤ p ∧ p < 8) (hw : 0 ≤ r (30 + 13 * (a : Int) + 0) ∧ r (30 + 13 * (a : Int) + 0) < 8) (hN : 0 ≤ r 4 ∧ r 4 ≤ 30) (hs : st = 1 ∨ st = 2) (h0 : r (30 + 13 * (a : Int) + 2) = 0) (q t : Int) : s_cvs (s_cvr r a p b pts st) q t = (s_cvs r q t || (decide (p = q) && decide (r (30 + 13 * (a : Int) + 1) = t))) := by
  have ha2 : (0 : Int) ≤ a ∧ (a : Int) < 30 := by omega
  unfold s_cvs
  rw [s_cvr_lo ha2 hp hw (by omega)]
  have e : ∀ i : Nat, i < (r 4).toNat → i ≠ a → s_cis (s_cvr r a p b pts st) q t i = s_cis r q t i := by
    intro i hi hne
    have hne : ¬ (i : Int) = a := by omega
    unfold s_cis s_cov
    rw [s_cvr_ab ha2 hp hw (by omega) (by omega), s_cvr_ab ha2 hp hw (by omega) (by omega), s_cvr_ab ha2 hp hw (by omega) (by omega), if_neg hne, if_neg hne, if_neg hne]
  have e0 : s_cis r q t a = false := by
    unfold s_cis s_cov
    rw [h0]
    rfl
  have e1 : s_cis (s_cvr r a p b pts st) q t a = (decide (p = q) && decide (r (30 + 13 * (a : Int) + 1) = t)) := by
    unfold s_cis s_cov
    rw [s_cvr_ab ha2 hp hw (by omega) (by omega), s_cvr_ab ha2 hp hw (by omega) (by omega), s_cvr_ab ha2 hp hw (by omega) (by omega), if_pos rfl, if_pos rfl, if_pos rfl]
    rcases hs with rfl | rfl <;> simp
  rw [s_any_set (k := a) (by omega) e e0, e1]
