/-- the class's State behind covering a, told by the new row -/
theorem x_rel_cvr {S S' : ST} {r : Int → Int} {a p w : Nat} {b : Bool} {pts st : Int} (hx : x_rel S r) (hv : v_r r) (ha : (a : Int) < r 4) (hp : (p : Int) < r 3) (hw : r (30 + 13 * (a : Int) + 0) = w) (h0 : r (30 + 13 * (a : Int) + 2) = 0) (hs : st = 1 ∨ st = 2)
    (c1 : ST_settings S' = ST_settings S) (c2 : ST_persons S' = ST_persons S) (c3 : ST_absences S' = ST_absences S) (c4 : ST_handedOver S' = ST_handedOver S) (c5 : ST_rosters S' = ST_rosters S) (c6 : ST_away S' = ST_away S)
    (c7 : ST_covering S' = vp_updL (ST_covering S) p (ST_covering S p ||| ((1 : Int64) <<< ((ST_shifts S a).toInt64 &&& 63))))
    (c8 : ST_meters S' = upd (upd (ST_meters S) p (ST_meters S p + z32 pts)) w (upd (ST_meters S) p (ST_meters S p + z32 pts) w - z32 pts))
    (c9 : ST_turns S' = if b = true then ST_turns S else upd (ST_turns S) p (ST_turns S p + 1))
    (d1 : ST_absentees S' = ST_absentees S) (d2 : ST_shifts S' = ST_shifts S) (d3 : ST_statuses S' = upd (ST_statuses S) a (z32 st)) (d4 : ST_coverers S' = upd (ST_coverers S) a (z32 p)) (d5 : ST_points S' = upd (ST_points S) a (z32 pts)) (d6 : ∀ i, ST_bids S' i = if 8 * a ≤ i ∧ i < 8 * a + 8 then z32 (-1) else ST_bids S i) : x_rel S' (s_cvr r a p b pts st) := by
  have h3 := hv.1.1
  have h4 := hv.1.2.1
  have ho := (hv.2.2.1 a ⟨by omega, ha⟩).1
  have hsh := (hv.2.2.1 a ⟨by omega, ha⟩).2
  have ha2 : (0 : Int) ≤ a ∧ (a : Int) < 30 := by omega
  have hp2 : (0 : Int) ≤ p ∧ (p : Int) < 8 := by omega
  have hw2 : 0 ≤ r (30 + 13 * (a : Int) + 0) ∧ r (30 + 13 * (a : Int) + 0) < 8 := by omega
  have lo : ∀ i : Int, i < 6 → s_cvr r a p b pts st i = r i := fun i hi => s_cvr_lo ha2 hp2 hw2 hi
  refine ⟨fun k hk => by rw [c1, lo k (by omega)]; exact hx.1 k hk, by rw [c2, lo 3 (by omega)]; exact hx.2.1, by rw [c3, lo 4 (by omega)]; exact hx.2.2.1, by rw [c4, lo 5 (by omega)]; exact hx.2.2.2.1, ?_, ?_⟩
  · intro q hq
    rw [lo 3 (by omega)] at hq
    obtain ⟨x1, x2, x3, x4, x5⟩ := hx.2.2.2.2.1 q hq
    obtain ⟨y1, y2, y3, -⟩ := hx.2.2.2.2.1 p hp
    obtain ⟨g0, g1, g2⟩ := s_cvr_ps (a := a) (p := p) (pts := pts) (st := st) (b := b) ha2 hp2 hw2 (q := q) (by omega)
    refine ⟨by rw [c5, g0]; exact x1, ?_, ?_, ?_, ?_⟩
    · rw [c8, g1, hw]
      unfold upd
      by_cases e1 : q = w
      · rw [if_pos e1, if_pos (show (q : Int) = w by omega)]
        by_cases e2 : w = p
        · rw [if_pos e2, if_pos (show (q : Int) = p by omega), y2, z32_add, z32_sub, show (p : Int) = q by omega]
        · rw [if_neg e2, if_neg (show ¬ (q : Int) = p by omega), ← e1, x2, z32_sub]
          congr 1; omega
      · rw [if_neg e1, if_neg (show ¬ (q : Int) = w by omega)]
        by_cases e2 : q = p
        · rw [if_pos e2, if_pos (show (q : Int) = p by omega), y2, z32_add, show (p : Int) = q by omega]
          congr 1; omega
        · rw [if_neg e2, if_neg (show ¬ (q : Int) = p by omega), x2]
          congr 1; omega
    · rw [c9, g2]
      cases b
      · rw [if_neg (by decide)]
        unfold upd
        by_cases e2 : q = p
        · rw [if_pos e2, if_pos ⟨(show (q : Int) = p by omega), rfl⟩, y3, z32_lit, z32_add, show (p : Int) = q by omega]
        · rw [if_neg e2, if_neg (fun z => e2 (by omega)), x3]
          congr 1; omega
      · rw [if_pos rfl, if_neg (fun z => by cases z.2), x3]
        congr 1; omega
    · intro i hi
      rw [c6, s_cvr_abs ha2 hp2 hw2 h4]
      exact x4 i hi
    · intro i hi
      obtain ⟨t, ht⟩ : ∃ t : Nat, r (30 + 13 * (a : Int) + 1) = t := ⟨(r (30 + 13 * (a : Int) + 1)).toNat, by omega⟩
      rw [c7, s_cvr_cvs ha hp2 hw2 h4 hs h0, (hx.2.2.2.2.2 a ha).2.1, ht]
      unfold vp_updL
      by_cases e2 : q = p
      · rw [if_pos e2, b6_or, b6_bit t (by omega) hi, ← e2, x5 i hi, decide_eq_true (show (q : Int) = q from rfl), Bool.true_and]
        by_cases e3 : i = t
        · rw [decide_eq_true e3, decide_eq_true (show (t : Int) = i by omega), decide_eq_true (by omega)]
          simp
        · rw [decide_eq_false e3, decide_eq_false (show ¬ (t : Int) = i by omega)]
          simp
      · rw [if_neg e2, decide_eq_false (show ¬ (p : Int) = q by omega), Bool.false_and, Bool.or_false]
        exact x5 i hi
  · intro c hc
    rw [lo 4 (by omega)] at hc
    obtain ⟨x1, x2, x3, x4, x5, x6⟩ := hx.2.2.2.2.2 c hc
    have ab : ∀ k : Int, 0 ≤ k ∧ k < 13 → s_cvr r a p b pts st (30 + 13 * (c : Int) + k) = if (c : Int) = a then (if k < 2 then r (30 + 13 * (c : Int) + k) else if k = 2 then st else if k = 3 then (p : Int) else if k = 4 then pts else -1) else r (30 + 13 * (c : Int) + k) := fun k hk => s_cvr_ab ha2 hp2 hw2 (by omega) hk
    rw [d1, d2, d3, d4, d5, ab 0 (by omega), ab 1 (by omega), ab 2 (by omega), ab 3 (by omega), ab 4 (by omega)]
    unfold upd
    by_cases e : c = a
    · have e' : (c : Int) = a := by omega
      simp only [if_pos e, if_pos e']
      refine ⟨x1, x2, rfl, rfl, rfl, fun q hq => ?_⟩
      rw [d6, if_pos (by omega), ab (5 + q) (by omega), if_pos e', if_neg (by omega), if_neg (by omega), if_neg (by omega), if_neg (by omega)]
    · have e' : ¬ (c : Int) = a := by omega
      simp only [if_neg e, if_neg e']
      refine ⟨x1, x2, x3, x4, x5, fun q hq => ?_⟩
      rw [d6, if_neg (by omega), ab (5 + q) (by omega), if_neg e']
      exact x6 q hq
