/-! the class's bids for an absence, away -/
theorem ss_ST_bids (S : ST) (v w : Nat → Int32) : sST_bids (sST_bids S v) w = sST_bids S w := rfl
theorem x_dropBids_2 {S : ST} {a : Nat} (ha : a < 30) : ∀ (n j : Nat) (B : Nat → Int32), j ≤ 8 → 8 < n + j → ∃ B', f_X1_dropBids_2 n (sST_bids S B) (z32 a) (z32 j) = some (sST_bids S B') ∧ ∀ i, B' i = if 8 * a + j ≤ i ∧ i < 8 * a + 8 then z32 (-1) else B i := by
  intro n
  induction n with
  | zero => intro j B h1 h2; omega
  | succ n ih =>
    intro j B h1 h2
    rw [f_X1_dropBids_2, x_bidIndex]
    by_cases c : j = 8
    · simp (disch := omega) only [z32_lit, z32_le]
      rw [if_pos (by omega)]
      exact ⟨B, rfl, fun i => by rw [if_neg (by omega)]⟩
    · simp (disch := omega) only [z32_lit, z32_le, z32_neg, z32_add, z_in, if_true, z_some, z_lets, gs_ST_bids, ss_ST_bids, z32_clamp, Int.toNat_natCast]
      rw [if_neg (by omega)]
      obtain ⟨B', h3, h4⟩ := ih (j + 1) (upd B (8 * a + j) (z32 (-1))) (by omega) (by omega)
      refine ⟨B', h3, fun i => ?_⟩
      rw [h4 i]
      unfold upd
      by_cases d : 8 * a + (j + 1) ≤ i ∧ i < 8 * a + 8
      · rw [if_pos d, if_pos (by omega)]
      · rw [if_neg d]
        by_cases d2 : i = 8 * a + j
        · rw [if_pos d2, if_pos (by omega)]
        · rw [if_neg d2, if_neg (by omega)]
theorem x_dropBids {S : ST} {a : Nat} (ha : a < 30) : ∃ B', f_X1_dropBids S (z32 a) = some (sST_bids S B') ∧ ∀ i, B' i = if 8 * a ≤ i ∧ i < 8 * a + 8 then z32 (-1) else ST_bids S i := x_dropBids_2 (S := S) ha 2000 0 (ST_bids S) (by omega) (by omega)
