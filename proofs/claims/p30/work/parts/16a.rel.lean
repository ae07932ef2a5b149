/-! the class's State, told by the same row -/
def x_rel (S : ST) (r : Int → Int) : Prop :=
  (∀ k : Nat, k < 3 → ST_settings S k = z32 (r k)) ∧ ST_persons S = z32 (r 3) ∧ ST_absences S = z32 (r 4) ∧ ST_handedOver S = z32 (r 5) ∧
  (∀ p : Nat, (p : Int) < r 3 → ST_rosters S p = z64 (r (6 + 3 * (p : Int) + 0)) ∧ ST_meters S p = z32 (r (6 + 3 * (p : Int) + 1)) ∧ ST_turns S p = z32 (r (6 + 3 * (p : Int) + 2)) ∧ (∀ i, i < 64 → b6 (ST_away S p) i = (decide (i < 42) && s_abs r p i)) ∧ (∀ i, i < 64 → b6 (ST_covering S p) i = (decide (i < 42) && s_cvs r p i))) ∧
  (∀ a : Nat, (a : Int) < r 4 → ST_absentees S a = z32 (r (30 + 13 * (a : Int) + 0)) ∧ ST_shifts S a = z32 (r (30 + 13 * (a : Int) + 1)) ∧ ST_statuses S a = z32 (r (30 + 13 * (a : Int) + 2)) ∧ ST_coverers S a = z32 (r (30 + 13 * (a : Int) + 3)) ∧ ST_points S a = z32 (r (30 + 13 * (a : Int) + 4)) ∧ ∀ p : Nat, p < 8 → ST_bids S (8 * a + p) = z32 (r (30 + 13 * (a : Int) + (5 + p))))
theorem b6_range {x : Int} (h : 0 ≤ x ∧ x < 4398046511104) {i : Nat} (hi : 42 ≤ i) : b6 (z64 x) i = false := by
  obtain ⟨n, rfl⟩ : ∃ n : Nat, x = n := ⟨x.toNat, by omega⟩
  unfold b6
  show (BitVec.ofNat 64 n).getLsbD i = false
  rw [BitVec.getLsbD_ofNat, Nat.testBit_lt_two_pow (Nat.lt_of_lt_of_le (show n < 2 ^ 42 by omega) (Nat.pow_le_pow_right (by decide) hi)), Bool.and_false]
theorem s_ros_big {r : Int → Int} (hv : v_r r) {p : Int} (hp : 0 ≤ p ∧ p < r 3) {i : Nat} (hi : 42 ≤ i) : b6 (z64 (r (6 + 3 * p + 0))) i = false := b6_range (hv.2.1 p hp) hi
theorem x_worked {S : ST} {r : Int → Int} (hx : x_rel S r) (hv : v_r r) {p : Nat} (hp : (p : Int) < r 3) : ∃ w, f_X1_worked S (z32 p) = some w ∧ ∀ i, i < 64 → b6 w i = s_wrk r p i := by
  have h3 := hv.1.1
  obtain ⟨e1, e2, e3, e4, e5⟩ := hx.2.2.2.2.1 p hp
  refine ⟨(ST_rosters S p &&& (ST_away S p ^^^ (-1))) ||| ST_covering S p, ?_, ?_⟩
  · unfold f_X1_worked
    simp (disch := omega) only [z_in, if_true, z32_clamp, Int.toNat_natCast]
  · intro i hi
    rw [b6_or, b6_and, b6_xor, b6_m1 i hi, e1, e4 i hi, e5 i hi]
    unfold s_wrk s_ros
    rw [Int.toNat_natCast]
    by_cases c : i < 42
    · rw [decide_eq_true c, decide_eq_true (show (0 : Int) ≤ i ∧ (i : Int) ≤ 41 by omega)]
      simp
    · rw [decide_eq_false c, decide_eq_false (show ¬ ((0 : Int) ≤ i ∧ (i : Int) ≤ 41) by omega), s_ros_big hv ⟨by omega, hp⟩ (by omega)]
      rfl
/-- bits moved up, and down -/
def s_bh (w : Int64) (i k : Nat) : Bool := decide (k + 1 ≤ i) && b6 w (i - (k + 1))
def s_bf (w : Int64) (i k : Nat) : Bool := b6 w ((k + 1) + i)
theorem x_restBehind_5 {S : ST} {R : Nat} (hR : ST_settings S 0 = z32 R ∧ R ≤ 5) (w : Int64) : ∀ (n j : Nat) (v : Int64), j ≤ R → R < n + j → (∀ i, i < 64 → b6 v i = s_any (s_bh w i) j) → ∃ u, f_X1_restBehind_5 S n w v (z32 (j + 1)) = some u ∧ ∀ i, i < 64 → b6 u i = s_any (s_bh w i) R := by
  intro n
  induction n with
  | zero => intro j v h1 h2; omega
  | succ n ih =>
    intro j v h1 h2 hv
    rw [f_X1_restBehind_5]
    simp (disch := omega) only [z32_lit, z_in, if_true, z32_clamp]
    rw [show Int.toNat 0 = 0 from rfl, hR.1]
    simp (disch := omega) only [z32_lt, z_lets, z32_add]
    by_cases c : j = R
    · rw [if_pos (by omega)]
      exact ⟨v, rfl, by rw [← c]; exact hv⟩
    · rw [if_neg (by omega)]
      refine ih (j + 1) _ (by omega) (by omega) (fun i hi => ?_)
      rw [b6_or, hv i hi, show ((j : Int) + 1) = ((j + 1 : Nat) : Int) from rfl, b6_shl (j + 1) (by omega) w hi]
      rfl
theorem x_restBefore_5 {S : ST} {R : Nat} (hR : ST_settings S 0 = z32 R ∧ R ≤ 5) (w : Int64) : ∀ (n j : Nat) (v : Int64), j ≤ R → R < n + j → (∀ i, i < 64 → b6 v i = s_any (s_bf w i) j) → ∃ u, f_X1_restBefore_5 S n w v (z32 (j + 1)) = some u ∧ ∀ i, i < 64 → b6 u i = s_any (s_bf w i) R := by
  intro n
  induction n with
  | zero => intro j v h1 h2; omega
  | succ n ih =>
    intro j v h1 h2 hv
    rw [f_X1_restBefore_5]
    simp (disch := omega) only [z32_lit, z_in, if_true, z32_clamp]
    rw [show Int.toNat 0 = 0 from rfl, hR.1]
    simp (disch := omega) only [z32_lt, z_lets, z32_add]
    by_cases c : j = R
    · rw [if_pos (by omega)]
      exact ⟨v, rfl, by rw [← c]; exact hv⟩
    · rw [if_neg (by omega)]
      refine ih (j + 1) _ (by omega) (by omega) (fun i hi => ?_)
      rw [b6_or, hv i hi, show ((j : Int) + 1) = ((j + 1 : Nat) : Int) from rfl, b6_ushr (j + 1) (by omega) w i]
      rfl
theorem x_rest {S : ST} {r : Int → Int} (hx : x_rel S r) (hv : v_r r) : ST_settings S 0 = z32 ((r 0).toNat : Int) ∧ (r 0).toNat ≤ 5 := by
  have := hv.1.2.2.1
  refine ⟨?_, by omega⟩
  rw [hx.1 0 (by omega), Int.toNat_of_nonneg this.1]
  rfl
theorem x_restBehind {S : ST} {r : Int → Int} (hx : x_rel S r) (hv : v_r r) {p : Nat} {w : Int64} (hw : ∀ i, i < 64 → b6 w i = s_wrk r p i) : ∃ u, f_X1_restBehind S w = some u ∧ ∀ i, i < 42 → b6 u i = s_any (s_nb r p i) (r 0).toNat := by
  obtain ⟨u, h1, h2⟩ := x_restBehind_5 (x_rest hx hv) w 2000 0 0 (by omega) (by have := (x_rest hx hv).2; omega) (fun i hi => b6_0 i)
  refine ⟨u, h1, fun i hi => ?_⟩
  rw [h2 i (by omega)]
  apply s_any_congr
  intro k hk
  unfold s_bh s_nb
  by_cases c : k + 1 ≤ i
  · rw [decide_eq_true c, hw _ (by omega), show ((i - (k + 1) : Nat) : Int) = (i : Int) - (k + 1) by omega]
    rfl
  · rw [decide_eq_false c]
    unfold s_wrk
    rw [decide_eq_false (by omega)]
    rfl
theorem x_restBefore {S : ST} {r : Int → Int} (hx : x_rel S r) (hv : v_r r) {p : Nat} {w : Int64} (hw : ∀ i, i < 64 → b6 w i = s_wrk r p i) : ∃ u, f_X1_restBefore S w = some u ∧ ∀ i, i < 42 → b6 u i = s_any (s_na r p i) (r 0).toNat := by
  obtain ⟨u, h1, h2⟩ := x_restBefore_5 (x_rest hx hv) w 2000 0 0 (by omega) (by have := (x_rest hx hv).2; omega) (fun i hi => b6_0 i)
  refine ⟨u, h1, fun i hi => ?_⟩
  rw [h2 i (by omega)]
  apply s_any_congr
  intro k hk
  have := (x_rest hx hv).2
  unfold s_bf s_na
  rw [hw _ (by omega), show ((k + 1 + i : Nat) : Int) = (i : Int) + (k + 1) by omega]
theorem x_has (x : Int64) (n : Nat) (hn : n < 64) : (lg_cmp (x &&& ((1 : Int64) <<< ((z32 (n : Nat)).toInt64 &&& 63))) 0 = 0) ↔ b6 x n = false := (lg_cmp_eq _ _).trans (b6_has x n hn)
theorem x_hindrance {S : ST} {r : Int → Int} (hx : x_rel S r) (hv : v_r r) {p a : Nat} (hp : (p : Int) < r 3) (ha : (a : Int) < r 4) : f_X1_hindrance S (z32 p) (z32 a) = some (z32 (s_wnf r p a)) := by
  have h3 := hv.1.1
  have h4 := hv.1.2.1
  obtain ⟨e1, e2, -⟩ := hx.2.2.2.2.2 a ha
  obtain ⟨-, -, -, e4, e5⟩ := hx.2.2.2.2.1 p hp
  obtain ⟨w, hw, hwb⟩ := x_worked hx hv hp
  obtain ⟨u1, hu1, hb1⟩ := x_restBehind hx hv (p := p) hwb
  obtain ⟨u2, hu2, hb2⟩ := x_restBefore hx hv (p := p) hwb
  obtain ⟨v1, v2⟩ := hv.2.2.1 a ⟨by omega, ha⟩
  obtain ⟨t, ht⟩ : ∃ t : Nat, r (30 + 13 * (a : Int) + 1) = t := ⟨(r (30 + 13 * (a : Int) + 1)).toNat, by omega⟩
  have ht42 : t < 42 := by omega
  unfold f_X1_hindrance s_wnf
  simp (disch := omega) only [z_in, if_true, z32_clamp, Int.toNat_natCast, e1, e2, ht, z_lets, hw, hu1, hu2, z_some, x_has, z32_eq]
  by_cases c1 : r (30 + 13 * (a : Int) + 0) = p
  · rw [if_neg (fun z => z c1), if_pos c1]; rfl
  · rw [if_pos c1, if_neg c1, e4 t (by omega), hwb t (by omega), hb1 t ht42, hb2 t ht42, decide_eq_true ht42, Bool.true_and]
    unfold s_why
    cases s_abs r p t <;> cases s_wrk r p t <;> cases s_any (s_nb r p t) (r 0).toNat <;> cases s_any (s_na r p t) (r 0).toNat <;> rfl
