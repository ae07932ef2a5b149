/-! the class's choice of who covers -/
theorem x_isLess {x y m n : Int} (hx : -2147483648 ≤ x ∧ x < 2147483648) (hy : -2147483648 ≤ y ∧ y < 2147483648) (hm : -2147483648 ≤ m ∧ m < 2147483648) (hn : -2147483648 ≤ n ∧ n < 2147483648) : f_X1_isLess (z32 x) (z32 m) (z32 y) (z32 n) = some (z_B (decide (x < y) || (decide (x = y) && decide (m < n)))) := by
  unfold f_X1_isLess
  simp (disch := omega) only [z32_eq, z32_le, z32_lit]
  by_cases c1 : x = y
  · rw [if_pos c1, decide_eq_true c1, decide_eq_false (by omega)]
    by_cases c2 : m < n
    · rw [if_neg (by omega), decide_eq_true c2]; rfl
    · rw [if_pos (by omega), decide_eq_false c2]; rfl
  · rw [if_neg c1, decide_eq_false c1]
    by_cases c2 : x < y
    · rw [if_neg (by omega), decide_eq_true c2]; rfl
    · rw [if_pos (by omega), decide_eq_false c2]; rfl
def s_bid (r : Int → Int) (a p : Int) : Int := r (30 + 13 * a + (5 + p))
def s_cb (r : Int → Int) (a p q : Int) : Bool := if s_bid r a p = -1 ∧ s_bid r a q = -1 then s_blt r (r (6 + 3 * p + 2)) (r (6 + 3 * q + 2)) p q else if s_bid r a p = -1 ∨ s_bid r a q = -1 then decide (s_bid r a p ≠ -1) else s_blt r (s_bid r a p) (s_bid r a q) p q
theorem x_bidIndex (p a : Nat) : f_X2_bidIndex (z32 p) (z32 a) = some (z32 ((8 * a + p : Nat) : Int)) := by
  unfold f_X2_bidIndex
  simp only [z32_lit, z32_mul, z32_add]
  rw [show (a : Int) * 8 + p = ((8 * a + p : Nat) : Int) by omega]
theorem x_bidAt {S : ST} {r : Int → Int} (hx : x_rel S r) (hv : v_r r) {p a : Nat} (hp : p < 8) (ha : (a : Int) < r 4) : ST_bids S (z32 ((8 * a + p : Nat) : Int)).toNatClampNeg = z32 (s_bid r a p) := by
  have h4 := hv.1.2.1
  rw [z32_clamp (by omega), Int.toNat_natCast]
  exact (hx.2.2.2.2.2 a ha).2.2.2.2.2 p hp
theorem x_comesBefore_64 {S : ST} {r : Int → Int} (hx : x_rel S r) (hv : v_r r) {p q : Nat} (hp : (p : Int) < r 3) (hq : (q : Int) < r 3) {x y : Int} (i1 : -2147483648 ≤ x ∧ x < 2147483648) (i2 : -2147483648 ≤ y ∧ y < 2147483648) : f_X1_comesBefore_64 S (z32 p) (z32 q) (z32 x) (z32 y) = some (z_B (if x = -1 ∨ y = -1 then decide (x ≠ -1) else s_blt r x y p q)) := by
  have h3 := hv.1.1
  obtain ⟨-, p2, p3, -⟩ := hx.2.2.2.2.1 p hp
  obtain ⟨-, q2, q3, -⟩ := hx.2.2.2.2.1 q hq
  obtain ⟨j1, j2⟩ := hv.2.2.2.1 p (by omega)
  obtain ⟨k1, k2⟩ := hv.2.2.2.1 q (by omega)
  have e1 : (z32 (p : Int)).toNatClampNeg = p := by rw [z32_clamp (by omega)]; rfl
  have e2 : (z32 (q : Int)).toNatClampNeg = q := by rw [z32_clamp (by omega)]; rfl
  unfold f_X1_comesBefore_64 s_blt
  rw [e1, e2, p2, q2, x_isLess i1 i2 j1 k1]
  simp (disch := omega) only [z32_lit, z32_neg, z_in, if_true, z_some, z32_eq]
  rw [z_Bg]
  by_cases c1 : x = -1
  · rw [if_pos c1, if_pos c1, if_pos (.inl c1), decide_eq_false (fun z => z c1)]; rfl
  · by_cases c2 : y = -1
    · rw [if_neg c1, if_neg (fun z => z c2), if_neg c1, if_pos (.inr c2), decide_eq_true c1]; rfl
    · rw [if_neg c1, if_pos c2, if_neg (fun z => z.elim c1 c2)]
theorem x_comesBefore {S : ST} {r : Int → Int} (hx : x_rel S r) (hv : v_r r) {p q a : Nat} (hp : (p : Int) < r 3) (hq : (q : Int) < r 3) (ha : (a : Int) < r 4) : f_X1_comesBefore S (z32 p) (z32 q) (z32 a) = some (z_B (s_cb r a p q)) := by
  have h3 := hv.1.1
  have h4 := hv.1.2.1
  have i1 : -2147483648 ≤ s_bid r a p ∧ s_bid r a p < 2147483648 := hv.1.2.2.2 a (5 + p) (by omega) (by omega)
  have i2 : -2147483648 ≤ s_bid r a q ∧ s_bid r a q < 2147483648 := hv.1.2.2.2 a (5 + q) (by omega) (by omega)
  obtain ⟨-, p2, p3, -⟩ := hx.2.2.2.2.1 p hp
  obtain ⟨-, q2, q3, -⟩ := hx.2.2.2.2.1 q hq
  obtain ⟨j1, j2⟩ := hv.2.2.2.1 p (by omega)
  obtain ⟨k1, k2⟩ := hv.2.2.2.1 q (by omega)
  have e1 : (z32 (p : Int)).toNatClampNeg = p := by rw [z32_clamp (by omega)]; rfl
  have e2 : (z32 (q : Int)).toNatClampNeg = q := by rw [z32_clamp (by omega)]; rfl
  unfold f_X1_comesBefore s_cb
  rw [x_bidIndex, x_bidIndex]
  simp only [z_some, z_lets]
  rw [x_bidAt hx hv (by omega) ha, x_bidAt hx hv (by omega) ha, x_comesBefore_64 hx hv hp hq i1 i2, e1, e2, p2, q2, p3, q3, x_isLess j2 k2 j1 k1]
  simp (disch := omega) only [z32_lit, z32_neg, z_in, if_true, z_some, z32_eq]
  rw [z_Bg]
  by_cases c1 : s_bid r a p = -1
  · by_cases c2 : s_bid r a q = -1
    · rw [if_neg (fun z => z c1), if_neg (fun z => z c2), if_pos ⟨c1, c2⟩]; rfl
    · rw [if_neg (fun z => z c1), if_pos c2, if_neg (show ¬ (s_bid r a p = -1 ∧ s_bid r a q = -1) from fun z => c2 z.2)]
  · rw [if_pos c1, if_neg (show ¬ (s_bid r a p = -1 ∧ s_bid r a q = -1) from fun z => c1 z.1)]
def s_nx (r : Int → Int) (a : Int) : Nat → Int
  | 0 => -1
  | j + 1 => if s_wnf r j a = 0 ∧ (s_nx r a j = -1 ∨ s_cb r a j (s_nx r a j) = true) then j else s_nx r a j
theorem s_nx_in (r : Int → Int) (a : Int) (n : Nat) : -1 ≤ s_nx r a n ∧ s_nx r a n < n := by
  induction n with
  | zero => rw [s_nx]; omega
  | succ n ih => rw [s_nx]; split <;> omega
theorem x_nextCoverer_15 {S : ST} {r : Int → Int} (hx : x_rel S r) (hv : v_r r) {P : Nat} (hP : r 3 = P ∧ P ≤ 8) {a : Nat} (ha : (a : Int) < r 4) : ∀ (n j : Nat), j ≤ P → P < n + j → f_X1_nextCoverer_15 S n (z32 a) (z32 (s_nx r a j)) (z32 j) = some (z32 (s_nx r a P)) := by
  intro n
  induction n with
  | zero => intro j h1 h2; omega
  | succ n ih =>
    intro j h1 h2
    have b1 := s_nx_in r a j
    have w0 := s_wnf_in r j a
    rw [f_X1_nextCoverer_15]
    simp (disch := omega) only [z32_lit, hx.2.1, hP.1, z32_le]
    by_cases c : j = P
    · rw [if_pos (by omega), c]
    · have ih1 := ih (j + 1) (by omega) (by omega)
      rw [s_nx] at ih1
      rw [if_neg (by omega), x_hindrance hx hv (by omega) ha]
      simp (disch := omega) only [z_some, z32_eq, z32_neg, z_lets, z32_add]
      by_cases c2 : s_wnf r j a = 0
      · rw [if_neg (fun z => z c2)]
        by_cases c3 : s_nx r a j = -1
        · rw [if_pos c3]
          rw [if_pos ⟨c2, .inl c3⟩] at ih1
          exact ih1
        · rw [if_neg c3]
          obtain ⟨q, hq⟩ : ∃ q : Nat, s_nx r a j = q := ⟨(s_nx r a j).toNat, by omega⟩
          rw [hq, x_comesBefore hx hv (by omega) (by omega) ha]
          rw [hq] at ih1
          simp only [z_some, z_B0]
          by_cases c4 : s_cb r a j q = false
          · rw [if_pos c4]
            rw [if_neg (fun z => z.2.elim (by omega) (fun y => by rw [c4] at y; cases y))] at ih1
            exact ih1
          · rw [if_neg c4]
            rw [if_pos ⟨c2, .inr (eq_true_of_ne_false c4)⟩] at ih1
            exact ih1
      · rw [if_pos c2]
        rw [if_neg (fun z => c2 z.1)] at ih1
        exact ih1
/-- one pass chooses as two do -/
theorem s_nx_eq (r : Int → Int) (a : Int) : ∀ n : Nat, (s_bb r a n ≠ -1 → s_bid r a (s_bb r a n) ≠ -1) ∧ (s_bb r a n = -1 → s_nt r a n ≠ -1 → s_bid r a (s_nt r a n) = -1) ∧ s_nx r a n = (if s_bb r a n = -1 then s_nt r a n else s_bb r a n) := by
  intro n
  induction n with
  | zero => exact ⟨fun h => absurd rfl h, fun _ h => absurd rfl h, rfl⟩
  | succ n ih =>
    obtain ⟨i1, i2, i3⟩ := ih
    rw [s_bb, s_nt, s_nx]
    have hb : r (30 + 13 * a + (5 + (n : Int))) = s_bid r a n := rfl
    have hb2 : r (30 + 13 * a + (5 + s_bb r a n)) = s_bid r a (s_bb r a n) := rfl
    rw [hb, hb2]
    by_cases c0 : s_wnf r n a = 0
    · by_cases c1 : s_bid r a n = -1
      · rw [if_neg (fun z => z.1 c1)]
        by_cases c2 : s_bb r a n = -1
        · rw [if_pos c2] at i3
          rw [if_pos c2, i3]
          by_cases c3 : s_nt r a n = -1
          · rw [if_pos ⟨c0, .inl c3⟩]
            exact ⟨fun h => absurd c2 h, fun _ _ => c1, by rw [if_pos ⟨c0, .inl c3⟩]⟩
          · have e : s_cb r a n (s_nt r a n) = s_blt r (r (6 + 3 * (n : Int) + 2)) (r (6 + 3 * s_nt r a n + 2)) n (s_nt r a n) := by
              unfold s_cb
              rw [if_pos ⟨c1, i2 c2 c3⟩]
            rw [e]
            refine ⟨fun h => absurd c2 h, fun _ h => ?_, rfl⟩
            split
            · exact c1
            · exact i2 c2 c3
        · rw [if_neg c2] at i3
          rw [if_neg c2, i3]
          have e : s_cb r a n (s_bb r a n) = false := by
            unfold s_cb
            rw [if_neg (fun z => i1 c2 z.2), if_pos (.inl c1)]
            exact decide_eq_false (fun z => z c1)
          rw [e]
          refine ⟨fun _ => i1 c2, fun h => absurd h c2, ?_⟩
          rw [if_neg (fun z => z.2.elim c2 (fun y => by cases y))]
      · have hn : (n : Int) ≠ -1 := by omega
        by_cases c2 : s_bb r a n = -1
        · rw [if_pos c2] at i3
          rw [if_pos (show s_bid r a n ≠ -1 ∧ _ from ⟨c1, c0, .inl c2⟩), if_neg hn, i3]
          refine ⟨fun _ => c1, fun h => absurd h hn, ?_⟩
          by_cases c3 : s_nt r a n = -1
          · rw [if_pos ⟨c0, .inl c3⟩]
          · have e : s_cb r a n (s_nt r a n) = true := by
              unfold s_cb
              rw [if_neg (fun z => c1 z.1), if_pos (.inr (i2 c2 c3))]
              exact decide_eq_true c1
            rw [if_pos ⟨c0, .inr e⟩]
        · rw [if_neg c2] at i3
          rw [i3]
          have e : s_cb r a n (s_bb r a n) = s_blt r (s_bid r a n) (s_bid r a (s_bb r a n)) n (s_bb r a n) := by
            unfold s_cb
            rw [if_neg (fun z => c1 z.1), if_neg (fun z => z.elim c1 (i1 c2))]
          rw [e]
          by_cases c4 : s_blt r (s_bid r a n) (s_bid r a (s_bb r a n)) n (s_bb r a n) = true
          · rw [if_pos (show s_bid r a n ≠ -1 ∧ _ from ⟨c1, c0, .inr c4⟩), if_neg hn, if_pos (show s_wnf r n a = 0 ∧ (s_bb r a n = -1 ∨ s_blt r (s_bid r a n) (s_bid r a (s_bb r a n)) n (s_bb r a n) = true) from ⟨c0, .inr c4⟩)]
            exact ⟨fun _ => c1, fun h => absurd h hn, rfl⟩
          · rw [if_neg (fun z => z.2.2.elim c2 c4), if_neg c2, if_neg (show ¬ (s_wnf r n a = 0 ∧ (s_bb r a n = -1 ∨ s_blt r (s_bid r a n) (s_bid r a (s_bb r a n)) n (s_bb r a n) = true)) from fun z => z.2.elim c2 c4)]
            exact ⟨fun _ => i1 c2, fun h => absurd h c2, rfl⟩
    · rw [if_neg (fun z => c0 z.2.1), if_neg (fun z => c0 z.1), if_neg (fun z => c0 z.1)]
      exact ⟨i1, i2, i3⟩
theorem x_nextCoverer {S : ST} {r : Int → Int} (hx : x_rel S r) (hv : v_r r) {a : Nat} (ha : (a : Int) < r 4) : f_X1_nextCoverer S (z32 a) = some (z32 (s_who r a)) := by
  have h3 := hv.1.1
  have h4 := hv.1.2.1
  have i0 := hv.1.2.2.2 a 2 (by omega) (by omega)
  obtain ⟨-, -, e, -⟩ := hx.2.2.2.2.2 a ha
  unfold f_X1_nextCoverer s_who
  simp (disch := omega) only [z32_lit, z_in, if_true, z32_clamp, Int.toNat_natCast, e, z32_neg, z32_eq]
  have e2 := x_nextCoverer_15 hx hv (P := (r 3).toNat) (by omega) ha 2000 0 (by omega) (by omega)
  rw [(s_nx_eq r a (r 3).toNat).2.2] at e2
  split
  · exact e2
  · rfl
