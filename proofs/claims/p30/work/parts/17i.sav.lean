/-! the saved states -/
theorem cp_at {α : Type} (f g : Nat → α) (n k : Nat) (h : k < n) : va_cpy f g (0 : Int32).toNatClampNeg (0 : Int32).toNatClampNeg n k = f k := by
  show (if 0 ≤ k ∧ k < 0 + n then f (0 + (k - 0)) else g k) = f k
  rw [if_pos (by omega)]
  congr 1
  omega
theorem x_rel_cp {T O : ST} {r : Int → Int} (hx : x_rel O r) (hv : v_r r) : x_rel (cp_ST T O) r := by
  have h3 := hv.1.1
  have h4 := hv.1.2.1
  refine ⟨fun k hk => ?_, hx.2.1, hx.2.2.1, hx.2.2.2.1, fun q hq => ?_, fun c hc => ?_⟩
  · exact (cp_at (ST_settings O) (ST_settings T) 3 k hk).trans (hx.1 k hk)
  · obtain ⟨x1, x2, x3, x4, x5⟩ := hx.2.2.2.2.1 q hq
    refine ⟨(cp_at (ST_rosters O) (ST_rosters T) 8 q (by omega)).trans x1, (cp_at (ST_meters O) (ST_meters T) 8 q (by omega)).trans x2, (cp_at (ST_turns O) (ST_turns T) 8 q (by omega)).trans x3, fun i hi => ?_, fun i hi => ?_⟩
    · rw [show ST_away (cp_ST T O) q = ST_away O q from cp_at (ST_away O) (ST_away T) 8 q (by omega)]
      exact x4 i hi
    · rw [show ST_covering (cp_ST T O) q = ST_covering O q from cp_at (ST_covering O) (ST_covering T) 8 q (by omega)]
      exact x5 i hi
  · obtain ⟨x1, x2, x3, x4, x5, x6⟩ := hx.2.2.2.2.2 c hc
    exact ⟨(cp_at (ST_absentees O) (ST_absentees T) 30 c (by omega)).trans x1, (cp_at (ST_shifts O) (ST_shifts T) 30 c (by omega)).trans x2, (cp_at (ST_statuses O) (ST_statuses T) 30 c (by omega)).trans x3, (cp_at (ST_coverers O) (ST_coverers T) 30 c (by omega)).trans x4, (cp_at (ST_points O) (ST_points T) 30 c (by omega)).trans x5, fun q hq => (cp_at (ST_bids O) (ST_bids T) 240 (8 * c + q) (by omega)).trans (x6 q hq)⟩
/-- the class's saved states in their order -/
def CM_sv (S : CM) (j : Nat) : ST := if j = 0 then CM_s0 S else if j = 1 then CM_s1 S else if j = 2 then CM_s2 S else CM_s3 S
def s_sav (K : Int) (ss : Int32) (V : Nat → ST) (st : Int32) (kept : Nat → Int64) : Prop := ∃ (n : Nat) (R : Nat → Int → Int), n ≤ 4 ∧ ss = z32 n ∧ st = z32 n ∧ ∀ j, j < n → (∀ i : Nat, i < 420 → kept (420 * j + i) = z64 (R j i)) ∧ v_x K (R j) ∧ x_rel (V j) (R j)
theorem s_sav.mono {K K' : Int} {ss st : Int32} {V : Nat → ST} {kept : Nat → Int64} (h : s_sav K ss V st kept) (hK : K ≤ K') : s_sav K' ss V st kept := by
  obtain ⟨n, R, h1, h2, h3, h4⟩ := h
  exact ⟨n, R, h1, h2, h3, fun j hj => ⟨(h4 j hj).1, (h4 j hj).2.1.mono hK, (h4 j hj).2.2⟩⟩
theorem x_save_less {S : CM} {n : Nat} (hn : n < 4) (h : CM_ss S = z32 n) : ∃ S1 T, f_X2_save S = some S1 ∧ CM_now S1 = CM_now S ∧ CM_or S1 = CM_or S ∧ CM_ss S1 = z32 ((n + 1 : Nat) : Int) ∧ (∀ j, j < n → CM_sv S1 j = CM_sv S j) ∧ CM_sv S1 n = cp_ST T (CM_now S) := by
  unfold f_X2_save
  match n, hn, h with
  | 0, _, h =>
    rw [h, if_pos (by decide)]
    exact ⟨_, CM_s0 S, rfl, rfl, rfl, rfl, fun j hj => absurd hj (Nat.not_lt_zero j), rfl⟩
  | 1, _, h =>
    rw [h, if_neg (by decide), if_pos (by decide)]
    refine ⟨_, CM_s1 S, rfl, rfl, rfl, rfl, fun j hj => ?_, rfl⟩
    have e : j = 0 := by omega
    subst e
    rfl
  | 2, _, h =>
    rw [h, if_neg (by decide), if_neg (by decide), if_pos (by decide)]
    refine ⟨_, CM_s2 S, rfl, rfl, rfl, rfl, fun j hj => ?_, rfl⟩
    rcases (show j = 0 ∨ j = 1 by omega) with e | e <;> subst e <;> rfl
  | 3, _, h =>
    rw [h, if_neg (by decide), if_neg (by decide), if_neg (by decide), if_pos (by decide)]
    refine ⟨_, CM_s3 S, rfl, rfl, rfl, rfl, fun j hj => ?_, rfl⟩
    rcases (show j = 0 ∨ j = 1 ∨ j = 2 by omega) with e | e | e <;> subst e <;> rfl
theorem x_save_full {S : CM} (h : CM_ss S = z32 4) : ∃ S1 T, f_X2_save S = some S1 ∧ CM_now S1 = CM_now S ∧ CM_or S1 = CM_or S ∧ CM_ss S1 = z32 4 ∧ (∀ j, j < 3 → CM_sv S1 j = CM_sv S (j + 1)) ∧ CM_sv S1 3 = cp_ST T (CM_now S) := by
  unfold f_X2_save
  rw [h, if_neg (by decide), if_neg (by decide), if_neg (by decide), if_neg (by decide), if_pos (by decide)]
  refine ⟨_, CM_s0 S, rfl, rfl, rfl, rfl, fun j hj => ?_, rfl⟩
  rcases (show j = 0 ∨ j = 1 ∨ j = 2 by omega) with e | e | e <;> subst e <;> rfl
theorem x_undo_some {S : CM} {n : Nat} (hn : n < 4) (h : CM_ss S = z32 ((n + 1 : Nat) : Int)) : f_X2_undo S = some (.inr (z32 n, sCM_now (sCM_ss S (z32 n)) (cp_ST (CM_now S) (CM_sv S n)))) := by
  unfold f_X2_undo
  match n, hn, h with
  | 0, _, h =>
    rw [h, if_neg (by decide), if_pos (by decide)]
    rfl
  | 1, _, h =>
    rw [h, if_neg (by decide), if_neg (by decide), if_pos (by decide)]
    rfl
  | 2, _, h =>
    rw [h, if_neg (by decide), if_neg (by decide), if_neg (by decide), if_pos (by decide)]
    rfl
  | 3, _, h =>
    rw [h, if_neg (by decide), if_neg (by decide), if_neg (by decide), if_neg (by decide), if_pos (by decide)]
    rfl
/-! class and reference side by side -/
def s_txt (o : OR) (tx : Nat → Int32) (ln : Int32) : Prop := ∃ len : Nat, len ≤ 100 ∧ OR_length o = z32 len ∧ ln = z32 len ∧ ∀ i, i < len → OR_text o i = tx i ∧ ∃ c : Nat, c < 128 ∧ tx i = z32 c
