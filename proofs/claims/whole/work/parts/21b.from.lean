/-! the class's search -/
theorem b6_clear {x : Int64} {t : Nat} (ht : t < 64) (h : b6 x t = false) : (x ||| ((1 : Int64) <<< ((z32 (t : Nat)).toInt64 &&& 63))) &&& (((1 : Int64) <<< ((z32 (t : Nat)).toInt64 &&& 63)) ^^^ (-1)) = x := by
  apply b6_ext
  intro i hi
  rw [b6_and, b6_or, b6_xor, b6_m1 i hi, b6_bit t ht hi]
  by_cases e : i = t
  · rw [e, h, decide_eq_true rfl]; rfl
  · rw [decide_eq_false e]
    cases b6 x i <;> rfl
theorem g_rel_in {S : ST} {r : Int → Int} {H : g_H} {p t : Nat} (hg : g_rel S r H) (ht : t < 42) : g_rel (sST_covering S (vp_updL (ST_covering S) p (ST_covering S p ||| ((1 : Int64) <<< ((z32 (t : Int)).toInt64 &&& 63))))) r (((p : Int), (t : Int)) :: H) := by
  obtain ⟨C0, hx, hc⟩ := hg
  refine ⟨C0, hx, fun q hq i hi => ?_⟩
  show b6 (vp_updL (ST_covering S) p (ST_covering S p ||| ((1 : Int64) <<< ((z32 (t : Int)).toInt64 &&& 63))) q) i = _
  have e : g_at (((p : Int), (t : Int)) :: H) q i = ((decide ((p : Int) = q) && decide ((t : Int) = i)) || g_at H q i) := rfl
  rw [e]
  unfold vp_updL
  by_cases c : q = p
  · rw [if_pos c, ← c, b6_or, b6_bit t (by omega) hi, hc q hq i hi, decide_eq_true (show (q : Int) = q from rfl), Bool.true_and, decide_eq_decide.mpr (show (t : Int) = i ↔ i = t by omega)]
    cases (decide (i < 42) && s_cvs r q i) <;> cases g_at H q i <;> cases decide (i = t) <;> rfl
  · rw [if_neg c, hc q hq i hi, decide_eq_false (show ¬ (p : Int) = q by omega), Bool.false_and, Bool.false_or]
theorem g_in_cons {H : g_H} (hH : g_in H) {p t : Int} (ht : 0 ≤ t ∧ t < 42) : g_in ((p, t) :: H) := by
  intro q hq
  rcases List.mem_cons.mp hq with e | e
  · rw [e]; exact ht
  · exact hH q e
/-- the open absences from st on -/
def g_list (r : Int → Int) : Nat → List Nat → Prop
  | st, [] => ∀ a : Nat, st ≤ a → (a : Int) < r 4 → r (30 + 13 * (a : Int) + 2) ≠ 0
  | st, a :: os => st ≤ a ∧ (a : Int) < r 4 ∧ r (30 + 13 * (a : Int) + 2) = 0 ∧ (∀ b : Nat, st ≤ b → b < a → r (30 + 13 * (b : Int) + 2) ≠ 0) ∧ g_list r (a + 1) os
theorem g_next_y {K : Int} {S : ST} {r : Int → Int} {H : g_H} (hg : g_rel S r H) (hv : v_x K r) {a : Nat} (ha : (a : Int) < r 4) (h0 : r (30 + 13 * (a : Int) + 2) = 0) : ∀ (n j : Nat), j ≤ a → a < n + j → (∀ b : Nat, j ≤ b → b < a → r (30 + 13 * (b : Int) + 2) ≠ 0) → f_X1_nextOpen_2 S n (z32 j) = some (z32 a) := by
  have h4 := hv.1.1.2.1
  obtain ⟨C0, hx, -⟩ := hg
  have hN : ST_absences S = z32 (r 4) := hx.2.2.1
  intro n
  induction n with
  | zero => intro j h1 h2; omega
  | succ n ih =>
    intro j h1 h2 hb
    have i2 := hv.1.1.2.2.2 j 2 (by omega) (by omega)
    have x3 : ST_statuses S j = z32 (r (30 + 13 * (j : Int) + 2)) := (hx.2.2.2.2.2 j (by omega)).2.2.1
    rw [f_X1_nextOpen_2, hN]
    simp (disch := omega) only [z32_lit, z32_le, z_in, if_true, z32_clamp, Int.toNat_natCast, x3, z32_eq, z32_add, z_lets]
    rw [if_neg (by omega)]
    by_cases c : j = a
    · rw [c, if_neg (fun z => z h0)]
    · rw [if_pos (hb j (Nat.le_refl j) (by omega))]
      exact ih (j + 1) (by omega) (by omega) (fun b b1 b2 => hb b (by omega) b2)
theorem g_next_n {K : Int} {S : ST} {r : Int → Int} {H : g_H} (hg : g_rel S r H) (hv : v_x K r) : ∀ (n j : Nat), j ≤ 30 → 31 < n + j → (∀ b : Nat, j ≤ b → (b : Int) < r 4 → r (30 + 13 * (b : Int) + 2) ≠ 0) → f_X1_nextOpen_2 S n (z32 j) = some (z32 (-1)) := by
  have h4 := hv.1.1.2.1
  obtain ⟨C0, hx, -⟩ := hg
  have hN : ST_absences S = z32 (r 4) := hx.2.2.1
  intro n
  induction n with
  | zero => intro j h1 h2; omega
  | succ n ih =>
    intro j h1 h2 hb
    rw [f_X1_nextOpen_2, hN]
    by_cases d : r 4 ≤ j
    · rw [if_pos ((z32_le ⟨by omega, by omega⟩ ⟨by omega, by omega⟩).mpr d)]
      decide
    · have i2 := hv.1.1.2.2.2 j 2 (by omega) (by omega)
      have x3 : ST_statuses S j = z32 (r (30 + 13 * (j : Int) + 2)) := (hx.2.2.2.2.2 j (by omega)).2.2.1
      simp (disch := omega) only [z32_lit, z32_le, z_in, if_true, z32_clamp, Int.toNat_natCast, x3, z32_eq, z32_add, z_lets]
      rw [if_neg (by omega), if_pos (hb j (Nat.le_refl j) (by omega))]
      exact ih (j + 1) (by omega) (by omega) (fun b b1 b2 => hb b (by omega) b2)
def g_f (r : Int → Int) (P : Nat) (a : Nat) (os : List Nat) (H : g_H) (p : Nat) : Nat := if g_ok r H p a = true then 1 + g_best r P os (((p : Int), r (30 + 13 * (a : Int) + 1)) :: H) else 0
theorem g_f_le (r : Int → Int) (P a : Nat) (os : List Nat) (H : g_H) (p : Nat) : g_f r P a os H p ≤ 1 + os.length := by
  have h3 := g_best_le r P os (((p : Int), r (30 + 13 * (a : Int) + 1)) :: H)
  unfold g_f
  split <;> omega
theorem g_111 {rec : ST → Int32 → Int32 → Option (Int32 × ST)} {S : ST} {left a most g : Nat} (hrec : rec S (z32 ((a + 1 : Nat) : Int)) (z32 ((left : Nat) : Int)) = some (z32 g, S)) (hl : left ≤ 30) (hm : most ≤ 100) (hg : g ≤ left) : f_X2_mostFrom_111 rec S (z32 ((left + 1 : Nat) : Int)) (z32 a) (z32 most) = some (z32 ((max most g : Nat) : Int), S) := by
  unfold f_X2_mostFrom_111
  have e1 : z32 ((left + 1 : Nat) : Int) - 1 = z32 (left : Int) := by
    rw [show (1 : Int32) = z32 1 from rfl, z32_sub]
    congr 1
    omega
  have e2 : z32 (a : Int) + 1 = z32 ((a + 1 : Nat) : Int) := by
    rw [show (1 : Int32) = z32 1 from rfl, z32_add]
    rfl
  have L : (z32 (left : Int) ≤ z32 (most : Int)) ↔ left ≤ most := (z32_le ⟨by omega, by omega⟩ ⟨by omega, by omega⟩).trans (by omega)
  rw [e1, e2]
  by_cases c : left ≤ most
  · rw [if_pos (L.mpr c), show max most g = most by omega]
  · rw [if_neg (fun z => c (L.mp z)), hrec, z_some, z_lets]
    have L2 : (z32 (most : Int) < z32 (g : Int)) ↔ most < g := (z32_lt ⟨by omega, by omega⟩ ⟨by omega, by omega⟩).trans (by omega)
    by_cases d : most < g
    · rw [if_pos (show z32 (most : Int) < (z32 (g : Int), S).1 from L2.mpr d), show max most g = g by omega]
    · rw [if_neg (show ¬ z32 (most : Int) < (z32 (g : Int), S).1 from fun z => d (L2.mp z)), show max most g = most by omega]
theorem g_33 {K : Int} {r : Int → Int} {P : Nat} (hv : v_x K r) (hP : r 3 = P ∧ P ≤ 8) {a : Nat} (ha : (a : Int) < r 4) {os : List Nat} (hos : os.length ≤ 29) {rec : ST → Int32 → Int32 → Option (Int32 × ST)} (hrec : ∀ (S : ST) (H : g_H), g_rel S r H → g_in H → rec S (z32 ((a + 1 : Nat) : Int)) (z32 ((os.length : Nat) : Int)) = some (z32 (g_best r P os H : Nat), S)) {S : ST} {H : g_H} (hg : g_rel S r H) (hH : g_in H) {t : Nat} (ht : r (30 + 13 * (a : Int) + 1) = t) : ∀ (n j : Nat), j ≤ P → P < n + j → f_X2_mostFrom_33 rec n S (z32 ((os.length + 1 : Nat) : Int)) (z32 a) (z32 (g_mp (g_f r P a os H) j : Nat)) ((1 : Int64) <<< ((z32 (t : Int)).toInt64 &&& 63)) (z32 j) = some (z32 ((max (g_mp (g_f r P a os H) P) (g_best r P os H) : Nat) : Int), S) := by
  have h4 := hv.1.1.2.1
  have ht2 := (hv.1.2.2.1 a ⟨by omega, ha⟩).2
  have gb := g_best_le r P os H
  have mb : ∀ j, g_mp (g_f r P a os H) j ≤ 1 + os.length := g_mp_le (g_f_le r P a os H)
  have hpers : ST_persons S = z32 (P : Int) := by
    obtain ⟨C0, hx, -⟩ := hg
    rw [← hP.1]
    exact hx.2.1
  intro n
  induction n with
  | zero => intro j h1 h2; omega
  | succ n ih =>
    intro j h1 h2
    have mj := mb j
    rw [f_X2_mostFrom_33, hpers]
    have L1 : (z32 (P : Int) ≤ z32 (j : Int)) ↔ P ≤ j := (z32_le ⟨by omega, by omega⟩ ⟨by omega, by omega⟩).trans (by omega)
    have L2 : (z32 ((os.length + 1 : Nat) : Int) ≤ z32 ((g_mp (g_f r P a os H) j : Nat) : Int)) ↔ os.length + 1 ≤ g_mp (g_f r P a os H) j := (z32_le ⟨by omega, by omega⟩ ⟨by omega, by omega⟩).trans (by omega)
    by_cases c1 : P ≤ j
    · have e : j = P := by omega
      subst e
      rw [if_pos (L1.mpr c1), g_111 (hrec S H hg hH) (by omega) (by omega) gb]
    · rw [if_neg (fun z => c1 (L1.mp z))]
      by_cases c2 : os.length + 1 ≤ g_mp (g_f r P a os H) j
      · have m1 := g_mp_mono (g_f r P a os H) j (P - j)
        have m2 := mb P
        rw [show j + (P - j) = P by omega] at m1
        rw [if_pos (L2.mpr c2), g_111 (hrec S H hg hH) (by omega) (by omega) gb, show g_mp (g_f r P a os H) j = g_mp (g_f r P a os H) P by omega]
      · rw [if_neg (fun z => c2 (L2.mp z))]
        obtain ⟨v, v1, v2, v3, v4⟩ := g_hind hg hv hH (p := j) (a := a) (by omega) ha
        have Lv : (z32 v = 0) ↔ v = 0 := z32_eq (y := 0) ⟨by omega, by omega⟩ ⟨by omega, by omega⟩
        have ej : z32 (j : Int) + 1 = z32 ((j + 1 : Nat) : Int) := by
          rw [show (1 : Int32) = z32 1 from rfl, z32_add]
          rfl
        have ih1 := ih (j + 1) (by omega) (by omega)
        rw [g_mp] at ih1
        rw [v3, z_some]
        by_cases d : g_ok r H j a = true
        · have fj : g_f r P a os H j = 1 + g_best r P os (((j : Int), (t : Int)) :: H) := by
            unfold g_f
            rw [if_pos d, ht]
          have gb2 := g_best_le r P os (((j : Int), (t : Int)) :: H)
          rw [if_neg (fun z => z (Lv.mpr (v4.mpr d))), if_pos (z_inT ⟨by omega, by omega, by omega⟩), if_pos (z_inT ⟨by omega, by omega, by omega⟩), z_lets, z32_clamp (by omega), Int.toNat_natCast, show (1 : Int32) = z32 1 from rfl, z32_sub, z32_add, show (((os.length + 1 : Nat) : Int) - 1) = (os.length : Int) by omega]
          have hr := hrec _ _ (g_rel_in (p := j) (t := t) hg (by omega)) (g_in_cons hH (p := j) (t := t) (by omega))
          rw [show z32 ((a : Int) + 1) = z32 ((a + 1 : Nat) : Int) from rfl, hr, z_some, z32_add, z_lets]
          -- the bit goes again
          have hbit : b6 (ST_covering S j) t = false := by
            obtain ⟨C0, hx, hc⟩ := id hg
            have w0 := (g_free (p := j) (t := (t : Int)) (H := H) hv.1.1.2.2.1.1).mpr (by
              obtain ⟨y1, y2⟩ := g_ok_t.mp d
              rw [s_wnf_0, ht] at y1
              rw [ht] at y2
              exact ⟨y1.2.2, y2⟩)
            have w1 := w0.1
            unfold g_w at w1
            rw [Bool.or_eq_false_iff] at w1
            rw [hc j (by omega) t (by omega), w1.2, Bool.or_false]
            have w2 := w1.1
            unfold s_wrk at w2
            rw [decide_eq_true (show (0 : Int) ≤ t ∧ (t : Int) ≤ 41 by omega), Bool.true_and, Bool.or_eq_false_iff] at w2
            rw [w2.2, Bool.and_false]
          have hback : ∀ X : ST, X = sST_covering S (vp_updL (ST_covering S) j (ST_covering S j ||| ((1 : Int64) <<< ((z32 (t : Int)).toInt64 &&& 63)))) → sST_covering X (vp_updL (ST_covering X) j (ST_covering X j &&& (((1 : Int64) <<< ((z32 (t : Int)).toInt64 &&& 63)) ^^^ (-1)))) = S := by
            intro X hX
            have e1 : ST_covering X j = ST_covering S j ||| ((1 : Int64) <<< ((z32 (t : Int)).toInt64 &&& 63)) := by
              rw [hX]
              exact if_pos rfl
            have e2 : vp_updL (ST_covering X) j (ST_covering X j &&& (((1 : Int64) <<< ((z32 (t : Int)).toInt64 &&& 63)) ^^^ (-1))) = ST_covering S := by
              rw [e1, b6_clear (by omega) hbit, hX]
              funext i
              show vp_updL (vp_updL (ST_covering S) j _) j (ST_covering S j) i = _
              unfold vp_updL
              by_cases g : i = j
              · rw [if_pos g, g]
              · rw [if_neg g, if_neg g]
            rw [e2, hX]
            rfl
          rw [if_pos (z_inT ⟨by omega, by omega, by omega⟩), if_pos (z_inT ⟨by omega, by omega, by omega⟩), z_lets]
          show f_X2_mostFrom_33 rec n (sST_covering _ _) _ _ (if z32 (g_mp (g_f r P a os H) j : Nat) < z32 (1 + (g_best r P os (((j : Int), (t : Int)) :: H) : Nat)) then z32 (1 + (g_best r P os (((j : Int), (t : Int)) :: H) : Nat)) else z32 (g_mp (g_f r P a os H) j : Nat)) _ _ = _
          rw [hback _ rfl]
          have L3 : (z32 (g_mp (g_f r P a os H) j : Nat) < z32 (1 + (g_best r P os (((j : Int), (t : Int)) :: H) : Nat))) ↔ g_mp (g_f r P a os H) j < g_f r P a os H j := (z32_lt ⟨by omega, by omega⟩ ⟨by omega, by omega⟩).trans (by omega)
          by_cases g : g_mp (g_f r P a os H) j < g_f r P a os H j
          · rw [if_pos g, fj] at ih1
            rw [if_pos (L3.mpr g), z32_add]
            rw [show ((1 + g_best r P os (((j : Int), (t : Int)) :: H) : Nat) : Int) = 1 + ((g_best r P os (((j : Int), (t : Int)) :: H) : Nat) : Int) by omega] at ih1
            exact ih1
          · rw [if_neg g] at ih1
            rw [if_neg (fun z => g (L3.mp z)), z32_add]
            exact ih1
        · have fj : g_f r P a os H j = 0 := by
            unfold g_f
            rw [if_neg d]
          rw [if_pos (fun z => d (v4.mp (Lv.mp z))), z_lets, ej]
          rw [if_neg (by omega)] at ih1
          exact ih1
theorem g_from {K : Int} {r : Int → Int} {P : Nat} (hv : v_x K r) (hP : r 3 = P ∧ P ≤ 8) : ∀ (os : List Nat) (n : Nat) (S : ST) (H : g_H) (st : Nat), os.length < n → st ≤ 30 → os.length ≤ 30 → g_list r st os → g_rel S r H → g_in H → f_X2_mostFrom n S (z32 st) (z32 ((os.length : Nat) : Int)) = some (z32 (g_best r P os H : Nat), S) := by
  have h4 := hv.1.1.2.1
  intro os
  induction os with
  | nil =>
    intro n S H st h1 h2 _ hl hg hH
    obtain ⟨m, rfl⟩ : ∃ m, n = m + 1 := ⟨n - 1, by have : 0 < n := h1; omega⟩
    rw [f_X2_mostFrom]
    unfold f_X2_mostFrom_b
    have e : f_X1_nextOpen S (z32 st) = some (z32 (-1)) := g_next_n hg hv 2000 st h2 (by omega) hl
    rw [e, z_some, if_pos (show z32 (-1) = -1 by decide)]
    rfl
  | cons a os ih =>
    intro n S H st h1 h2 h9 hl hg hH
    obtain ⟨l1, l2, l3, l4, l5⟩ := hl
    rw [List.length_cons] at h1 h9
    obtain ⟨m, rfl⟩ : ∃ m, n = m + 1 := ⟨n - 1, by omega⟩
    rw [f_X2_mostFrom]
    unfold f_X2_mostFrom_b
    have e : f_X1_nextOpen S (z32 st) = some (z32 a) := g_next_y hg hv l2 l3 2000 st l1 (by omega) l4
    have na : ¬ z32 (a : Int) = -1 := fun z => by
      rw [show (-1 : Int32) = z32 (-1) by decide] at z
      have := (z32_eq ⟨by omega, by omega⟩ ⟨by omega, by omega⟩).mp z
      omega
    have pl : (0 : Int32) < z32 (((a :: os).length : Nat) : Int) := by
      rw [List.length_cons]
      exact (z32_lt (x := 0) ⟨by omega, by omega⟩ ⟨by omega, by omega⟩).mpr (by omega)
    have ht2 := (hv.1.2.2.1 a ⟨by omega, l2⟩).2
    obtain ⟨t, ht⟩ : ∃ t : Nat, r (30 + 13 * (a : Int) + 1) = t := ⟨(r (30 + 13 * (a : Int) + 1)).toNat, by omega⟩
    have hsh : ST_shifts S a = z32 (t : Int) := by
      obtain ⟨C0, hx, -⟩ := hg
      rw [← ht]
      exact (hx.2.2.2.2.2 a l2).2.1
    rw [e, z_some, if_neg na, if_pos pl, if_pos (z_inT ⟨by omega, by omega, by omega⟩), z_lets, z32_clamp (by omega), Int.toNat_natCast, hsh]
    exact g_33 hv hP l2 (by omega) (rec := fun S x y => f_X2_mostFrom m S x y) (fun S' H' hg' hH' => ih m S' H' (a + 1) (by omega) (by omega) (by omega) l5 hg' hH') hg hH ht 2000 0 (by omega) (by omega)
