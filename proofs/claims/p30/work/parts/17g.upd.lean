/-! the class hands a cover over -/
theorem s_ho_cvs {K : Int} {r : Int → Int} {a p : Int} (hv : v_x K r) (ha : 0 ≤ a ∧ a < r 4) (hp : 0 ≤ p ∧ p < r 3) (hc0 : s_ct r a) (q t : Int) : s_cvs (s_ho r a (r (30 + 13 * a + 3)) p (r (30 + 13 * a + 4))) q t = true ↔ (q = p ∧ r (30 + 13 * a + 1) = t) ∨ (¬ (q = r (30 + 13 * a + 3) ∧ r (30 + 13 * a + 1) = t) ∧ s_cvs r q t = true) := by
  obtain ⟨hr, hk, hva, hu, hc⟩ := hv
  have h3 := hr.1.1
  have h4 := hr.1.2.1
  obtain ⟨-, z2, -, z4, -⟩ := hva a ha
  have hb := z2 hc0
  generalize hbe : r (30 + 13 * a + 3) = b at hb
  generalize r (30 + 13 * a + 4) = pts at z4
  have lo4 : s_ho r a b p pts 4 = r 4 := by rw [s_ho_lo (by omega) (by omega) (by omega) (by omega), if_neg (by omega)]
  have ab : ∀ c k : Int, 0 ≤ c → 0 ≤ k ∧ k < 13 → s_ho r a b p pts (30 + 13 * c + k) = if c = a ∧ k = 3 then p else r (30 + 13 * c + k) := fun c k hc hk => s_ho_ab (by omega) (by omega) hc hk
  have ab1 : ∀ c k : Int, 0 ≤ c → 0 ≤ k ∧ k < 13 → k ≠ 3 → s_ho r a b p pts (30 + 13 * c + k) = r (30 + 13 * c + k) := fun c k hc hk h3 => by
    rw [ab c k hc hk, if_neg (by omega)]
  have ab3 : ∀ c : Int, 0 ≤ c → s_ho r a b p pts (30 + 13 * c + 3) = if c = a then p else r (30 + 13 * c + 3) := fun c hc => by
    rw [ab c 3 hc (by omega)]
    by_cases e : c = a
    · rw [if_pos ⟨e, rfl⟩, if_pos e]
    · rw [if_neg (fun z => e z.1), if_neg e]
  have ct : ∀ c : Int, 0 ≤ c → (s_ct (s_ho r a b p pts) c ↔ s_ct r c) := fun c hc => s_ct_congr (ab1 c 2 hc (by omega) (by omega))
  rw [s_cvs_t (by rw [lo4]; exact h4.1), s_cvs_t h4.1, lo4]
  constructor
  · rintro ⟨c, c1, c2, c3, c4, c5⟩
    rw [ct c c1] at c3
    rw [ab3 c c1] at c4
    rw [ab1 c 1 c1 (by omega) (by omega)] at c5
    by_cases e : c = a
    · rw [if_pos e] at c4
      rw [e] at c5
      exact .inl ⟨c4.symm, c5⟩
    · rw [if_neg e] at c4
      refine .inr ⟨fun z => ?_, c, c1, c2, c3, c4, c5⟩
      rcases Int.lt_or_gt_of_ne e with g | g
      · exact hc c a c1 g ha.2 c3 hc0 (by omega) (by omega)
      · exact hc a c ha.1 g c2 hc0 c3 (by omega) (by omega)
  · rintro (⟨z1, z5⟩ | ⟨z1, c, c1, c2, c3, c4, c5⟩)
    · refine ⟨a, ha.1, ha.2, (ct a ha.1).mpr hc0, ?_, ?_⟩
      · rw [ab3 a ha.1, if_pos rfl]; exact z1.symm
      · rw [ab1 a 1 ha.1 (by omega) (by omega)]; exact z5
    · refine ⟨c, c1, c2, (ct c c1).mpr c3, ?_, ?_⟩
      · rw [ab3 c c1, if_neg (fun e => z1 ⟨by rw [e] at c4; omega, by rw [← e]; exact c5⟩)]; exact c4
      · rw [ab1 c 1 c1 (by omega) (by omega)]; exact c5
theorem x_rel_ho {K : Int} {S S' : ST} {r : Int → Int} {a p b t : Nat} {pts : Int} (hx : x_rel S r) (hv : v_x K r) (ha : (a : Int) < r 4) (hp : (p : Int) < r 3) (hc0 : s_ct r a) (hb : r (30 + 13 * (a : Int) + 3) = b) (hne : b ≠ p) (ht : r (30 + 13 * (a : Int) + 1) = t) (hpt : r (30 + 13 * (a : Int) + 4) = pts)
    (c1 : ST_settings S' = ST_settings S) (c2 : ST_persons S' = ST_persons S) (c3 : ST_absences S' = ST_absences S) (c4 : ST_handedOver S' = ST_handedOver S + z32 1) (c5 : ST_rosters S' = ST_rosters S) (c6 : ST_away S' = ST_away S)
    (c7 : ST_covering S' = vp_updL (vp_updL (ST_covering S) b (ST_covering S b &&& (((1 : Int64) <<< ((z32 (t : Int)).toInt64 &&& 63)) ^^^ (-1)))) p (vp_updL (ST_covering S) b (ST_covering S b &&& (((1 : Int64) <<< ((z32 (t : Int)).toInt64 &&& 63)) ^^^ (-1))) p ||| ((1 : Int64) <<< ((z32 (t : Int)).toInt64 &&& 63))))
    (c8 : ST_meters S' = upd (upd (ST_meters S) b (ST_meters S b - z32 pts)) p (upd (ST_meters S) b (ST_meters S b - z32 pts) p + z32 pts))
    (c9 : ST_turns S' = ST_turns S) (d1 : ST_absentees S' = ST_absentees S) (d2 : ST_shifts S' = ST_shifts S) (d3 : ST_statuses S' = ST_statuses S) (d4 : ST_coverers S' = upd (ST_coverers S) a (z32 p)) (d5 : ST_points S' = ST_points S) (d6 : ST_bids S' = ST_bids S) : x_rel S' (s_ho r a b p pts) := by
  have h3 := hv.1.1.1
  have h4 := hv.1.1.2.1
  have hb3 := ((hv.2.2.1 a ⟨by omega, ha⟩).2.1 hc0).2
  have ht2 := (hv.1.2.2.1 a ⟨by omega, ha⟩).2
  rw [hb] at hb3
  have cvt : ∀ q i : Nat, s_cvs (s_ho r a b p pts) q i = true ↔ ((q : Int) = p ∧ (t : Int) = i) ∨ (¬ ((q : Int) = b ∧ (t : Int) = i) ∧ s_cvs r q i = true) := by
    intro q i
    have := s_ho_cvs hv (a := a) (p := p) ⟨by omega, ha⟩ ⟨by omega, hp⟩ hc0 q i
    rw [hb, ht, hpt] at this
    exact this
  have lo : ∀ i : Int, i < 5 → s_ho r a b p pts i = r i := fun i hi => by rw [s_ho_lo (by omega) (by omega) (by omega) (by omega), if_neg (by omega)]
  have lo5 : s_ho r a b p pts 5 = r 5 + 1 := by rw [s_ho_lo (by omega) (by omega) (by omega) (by omega), if_pos rfl]
  have ps : ∀ q k : Int, 0 ≤ q ∧ q < 8 → 0 ≤ k ∧ k < 3 → s_ho r a b p pts (6 + 3 * q + k) = r (6 + 3 * q + k) + (if k = 1 ∧ q = p then pts else 0) - (if k = 1 ∧ q = b then pts else 0) := fun q k hq hk => s_ho_ps (by omega) (by omega) (by omega) hq hk
  have ab : ∀ c k : Int, 0 ≤ c → 0 ≤ k ∧ k < 13 → s_ho r a b p pts (30 + 13 * c + k) = if c = a ∧ k = 3 then (p : Int) else r (30 + 13 * c + k) := fun c k hc hk => s_ho_ab (by omega) (by omega) hc hk
  have ab1 : ∀ c k : Int, 0 ≤ c → 0 ≤ k ∧ k < 13 → k ≠ 3 → s_ho r a b p pts (30 + 13 * c + k) = r (30 + 13 * c + k) := fun c k hc hk h3 => by
    rw [ab c k hc hk, if_neg (by omega)]
  refine ⟨fun k hk => ?_, ?_, ?_, ?_, fun q hq => ?_, fun c hc => ?_⟩
  · rw [c1, lo k (by omega)]
    exact hx.1 k hk
  · rw [c2, lo 3 (by omega)]
    exact hx.2.1
  · rw [c3, lo 4 (by omega)]
    exact hx.2.2.1
  · rw [c4, lo5, hx.2.2.2.1, z32_add]
  · rw [lo 3 (by omega)] at hq
    obtain ⟨x1, x2, x3, x4, x5⟩ := hx.2.2.2.2.1 q hq
    obtain ⟨-, y2, -, -, y5⟩ := hx.2.2.2.2.1 b hb3
    have p0 : s_ho r a b p pts (6 + 3 * (q : Int) + 0) = r (6 + 3 * (q : Int) + 0) := by
      rw [ps q 0 (by omega) (by omega), if_neg (by omega), if_neg (by omega)]
      omega
    have p2 : s_ho r a b p pts (6 + 3 * (q : Int) + 2) = r (6 + 3 * (q : Int) + 2) := by
      rw [ps q 2 (by omega) (by omega), if_neg (by omega), if_neg (by omega)]
      omega
    rw [p0, ps q 1 (by omega) (by omega), p2]
    refine ⟨by rw [c5]; exact x1, ?_, by rw [c9]; exact x3, fun i hi => ?_, fun i hi => ?_⟩
    · rw [c8]
      unfold upd
      by_cases e1 : q = p
      · rw [if_pos e1, if_pos (show (1 : Int) = 1 ∧ (q : Int) = p by omega), if_neg (show ¬ ((1 : Int) = 1 ∧ (q : Int) = b) by omega), if_neg (show ¬ p = b by omega), ← e1, x2, z32_add]
        congr 1
        omega
      · rw [if_neg e1, if_neg (show ¬ ((1 : Int) = 1 ∧ (q : Int) = p) by omega)]
        by_cases e2 : q = b
        · rw [if_pos e2, if_pos (show (1 : Int) = 1 ∧ (q : Int) = b by omega), y2, z32_sub, ← e2]
          congr 1
          omega
        · rw [if_neg e2, if_neg (show ¬ ((1 : Int) = 1 ∧ (q : Int) = b) by omega), x2]
          congr 1
          omega
    · rw [c6, s_abs_congr (lo 4 (by omega)) (fun c _ => ⟨ab1 c 0 (by omega) (by omega) (by omega), ab1 c 1 (by omega) (by omega) (by omega)⟩)]
      exact x4 i hi
    · have cq := cvt q i
      rw [c7]
      unfold vp_updL
      by_cases e1 : q = p
      · rw [if_pos e1, if_neg (show ¬ p = b by omega), b6_or, b6_bit t (by omega) hi, show ST_covering S p = ST_covering S q by rw [e1], x5 i hi]
        by_cases e3 : i = t
        · rw [cq.mpr (.inl ⟨by omega, by omega⟩), decide_eq_true e3, decide_eq_true (by omega), Bool.or_true]; rfl
        · rw [decide_eq_false e3, Bool.or_false]
          congr 1
          rw [Bool.eq_iff_iff, cq]
          exact ⟨fun z => .inr ⟨fun y => e3 (by omega), z⟩, fun z => z.elim (fun y => absurd (show i = t by omega) e3) (fun y => y.2)⟩
      · rw [if_neg e1]
        by_cases e2 : q = b
        · rw [if_pos e2, b6_and, b6_xor, b6_m1 i hi, b6_bit t (by omega) hi, show ST_covering S b = ST_covering S q by rw [e2], x5 i hi]
          by_cases e3 : i = t
          · have : s_cvs (s_ho r a b p pts) q i = false := by
              rw [← Bool.not_eq_true, cq]
              rintro (z | z)
              · omega
              · exact z.1 ⟨by omega, by omega⟩
            rw [this, decide_eq_true e3, Bool.and_false]
            exact Bool.and_false _
          · have : s_cvs (s_ho r a b p pts) q i = s_cvs r q i := by
              rw [Bool.eq_iff_iff, cq]
              exact ⟨fun z => z.elim (fun y => absurd (show i = t by omega) e3) (fun y => y.2), fun z => .inr ⟨fun y => e3 (by omega), z⟩⟩
            rw [this, decide_eq_false e3]
            exact Bool.and_true _
        · rw [if_neg e2, x5 i hi]
          have : s_cvs (s_ho r a b p pts) q i = s_cvs r q i := by
            rw [Bool.eq_iff_iff, cq]
            exact ⟨fun z => z.elim (fun y => absurd y.1 (by omega)) (fun y => y.2), fun z => .inr ⟨fun y => e2 (by omega), z⟩⟩
          rw [this]
  · rw [lo 4 (by omega)] at hc
    obtain ⟨x1, x2, x3, x4, x5, x6⟩ := hx.2.2.2.2.2 c hc
    rw [d1, d2, d3, d4, d5, d6, ab1 c 0 (by omega) (by omega) (by omega), ab1 c 1 (by omega) (by omega) (by omega), ab1 c 2 (by omega) (by omega) (by omega), ab1 c 4 (by omega) (by omega) (by omega), ab c 3 (by omega) (by omega)]
    refine ⟨x1, x2, x3, ?_, x5, fun q hq => ?_⟩
    · unfold upd
      by_cases e : c = a
      · rw [if_pos e, if_pos (by omega)]
      · rw [if_neg e, if_neg (by omega)]
        exact x4
    · rw [ab1 c (5 + q) (by omega) (by omega) (by omega)]
      exact x6 q hq
theorem x_moveCover {K : Int} {S : ST} {r : Int → Int} {a p b t : Nat} {pts : Int} (hx : x_rel S r) (hv : v_x K r) (ha : (a : Int) < r 4) (hp : (p : Int) < r 3) (hc0 : s_ct r a) (hb : r (30 + 13 * (a : Int) + 3) = b) (hne : b ≠ p) (ht : r (30 + 13 * (a : Int) + 1) = t) (hpt : r (30 + 13 * (a : Int) + 4) = pts) : ∃ S', f_X1_moveCover S (z32 a) (z32 p) = some S' ∧ x_rel S' (s_ho r a b p pts) := by
  have h3 := hv.1.1.1
  have h4 := hv.1.1.2.1
  have hb3 := ((hv.2.2.1 a ⟨by omega, ha⟩).2.1 hc0).2
  rw [hb] at hb3
  obtain ⟨x1, x2, x3, x4, x5, x6⟩ := hx.2.2.2.2.2 a ha
  rw [ht] at x2
  rw [hb] at x4
  rw [hpt] at x5
  obtain ⟨s0, s1, s2, s3, s4, s5, s6, s7, s8, s9, s10, s11, s12, s13, s14⟩ := S
  simp only [ST_shifts] at x2
  simp only [ST_coverers] at x4
  simp only [ST_points] at x5
  unfold f_X1_moveCover
  simp (disch := omega) only [ST_shifts, ST_coverers, ST_covering, ST_meters, ST_points, ST_handedOver, sST_covering, sST_meters, sST_coverers, sST_handedOver, z_in, if_true, z_lets, z32_clamp, Int.toNat_natCast, x2, x4, x5]
  exact ⟨_, rfl, x_rel_ho hx hv ha hp hc0 hb hne ht hpt rfl rfl rfl rfl rfl rfl rfl rfl rfl rfl rfl rfl rfl rfl rfl⟩
/-! a new absence -/
def s_ad (r : Int → Int) (p t : Int) : Int → Int := s_clr (q_up (q_up (q_up (q_up (q_up (q_up r 4 (r 4 + 1)) (30 + 13 * r 4 + 0) p) (30 + 13 * r 4 + 1) t) (30 + 13 * r 4 + 2) 0) (30 + 13 * r 4 + 3) (-1)) (30 + 13 * r 4 + 4) 0) (r 4) 0
theorem s_ad_lo {r : Int → Int} {p t i : Int} (hN : 0 ≤ r 4) (hi : i < 30) : s_ad r p t i = if i = 4 then r 4 + 1 else r i := by
  unfold s_ad
  rw [s_clr_ne (by omega), q_up_ne (by omega), q_up_ne (by omega), q_up_ne (by omega), q_up_ne (by omega), q_up_ne (by omega)]
  rfl
theorem s_ad_ab {r : Int → Int} {p t c k : Int} (hc : 0 ≤ c) (hk : 0 ≤ k ∧ k < 13) : s_ad r p t (30 + 13 * c + k) = if c = r 4 then (if k = 0 then p else if k = 1 then t else if k = 2 then 0 else if k = 3 then -1 else if k = 4 then 0 else -1) else r (30 + 13 * c + k) := by
  unfold s_ad
  by_cases e : c = r 4
  · rw [if_pos e]
    by_cases k0 : k = 0
    · rw [if_pos k0, s_clr_ne (by omega), q_up_ne (by omega), q_up_ne (by omega), q_up_ne (by omega), q_up_ne (by omega), q_up_eq (by omega)]
    · rw [if_neg k0]
      by_cases k1 : k = 1
      · rw [if_pos k1, s_clr_ne (by omega), q_up_ne (by omega), q_up_ne (by omega), q_up_ne (by omega), q_up_eq (by omega)]
      · rw [if_neg k1]
        by_cases k2 : k = 2
        · rw [if_pos k2, s_clr_ne (by omega), q_up_ne (by omega), q_up_ne (by omega), q_up_eq (by omega)]
        · rw [if_neg k2]
          by_cases k3 : k = 3
          · rw [if_pos k3, s_clr_ne (by omega), q_up_ne (by omega), q_up_eq (by omega)]
          · rw [if_neg k3]
            by_cases k4 : k = 4
            · rw [if_pos k4, s_clr_ne (by omega), q_up_eq (by omega)]
            · rw [if_neg k4, s_clr_eq (by omega)]
  · rw [if_neg e, s_clr_ne (by omega), q_up_ne (by omega), q_up_ne (by omega), q_up_ne (by omega), q_up_ne (by omega), q_up_ne (by omega), q_up_ne (by omega)]
theorem s_ad_abs {r : Int → Int} {p t : Int} (hN : 0 ≤ r 4) (q i : Int) : s_abs (s_ad r p t) q i = (s_abs r q i || (decide (p = q) && decide (t = i))) := by
  have e4 : s_ad r p t 4 = r 4 + 1 := by rw [s_ad_lo hN (by omega), if_pos rfl]
  unfold s_abs
  rw [e4, show (r 4 + 1).toNat = (r 4).toNat + 1 by omega, s_any]
  congr 1
  · apply s_any_congr
    intro c hc
    unfold s_is
    rw [s_ad_ab (by omega) (by omega), s_ad_ab (by omega) (by omega), if_neg (by omega), if_neg (by omega)]
  · unfold s_is
    have e : ((r 4).toNat : Int) = r 4 := by omega
    rw [s_ad_ab (by omega) (by omega), s_ad_ab (by omega) (by omega), if_pos e, if_pos e, if_pos rfl, if_neg (show ¬ (1 : Int) = 0 by decide), if_pos rfl]
theorem s_ad_cvs {r : Int → Int} {p t : Int} (hN : 0 ≤ r 4) (q i : Int) : s_cvs (s_ad r p t) q i = s_cvs r q i := by
  have e4 : s_ad r p t 4 = r 4 + 1 := by rw [s_ad_lo hN (by omega), if_pos rfl]
  unfold s_cvs
  rw [e4, show (r 4 + 1).toNat = (r 4).toNat + 1 by omega, s_any]
  have e2 : s_cis (s_ad r p t) q i (r 4).toNat = false := by
    unfold s_cis s_cov
    rw [s_ad_ab (c := ((r 4).toNat : Int)) (k := 2) (by omega) (by omega), if_pos (show ((r 4).toNat : Int) = r 4 by omega), if_neg (show ¬ (2 : Int) = 0 by decide), if_neg (show ¬ (2 : Int) = 1 by decide), if_pos rfl]
    rfl
  rw [e2, Bool.or_false]
  apply s_any_congr
  intro c hc
  unfold s_cis s_cov
  rw [s_ad_ab (c := (c : Int)) (k := 2) (by omega) (by omega), s_ad_ab (c := (c : Int)) (k := 3) (by omega) (by omega), s_ad_ab (c := (c : Int)) (k := 1) (by omega) (by omega), if_neg (by omega), if_neg (by omega), if_neg (by omega)]
theorem v_ad {K : Int} {r : Int → Int} {p t : Int} (hv : v_x K r) (hN : r 4 < 30) (hp : 0 ≤ p ∧ p < r 3) (ht : 0 ≤ t ∧ t < 42) (hw : s_abs r p t = false) : v_x K (s_ad r p t) := by
  obtain ⟨hr, hk, hva, hu, hc⟩ := hv
  have h3 := hr.1.1
  have h4 := hr.1.2.1
  have lo : ∀ i : Int, i < 30 → i ≠ 4 → s_ad r p t i = r i := fun i hi h => by rw [s_ad_lo h4.1 hi, if_neg h]
  have lo4 : s_ad r p t 4 = r 4 + 1 := by rw [s_ad_lo h4.1 (by omega), if_pos rfl]
  have ab : ∀ c k : Int, 0 ≤ c → 0 ≤ k ∧ k < 13 → s_ad r p t (30 + 13 * c + k) = if c = r 4 then (if k = 0 then p else if k = 1 then t else if k = 2 then 0 else if k = 3 then -1 else if k = 4 then 0 else -1) else r (30 + 13 * c + k) := fun c k hc hk => s_ad_ab hc hk
  have old : ∀ c k : Int, 0 ≤ c → 0 ≤ k ∧ k < 13 → c ≠ r 4 → s_ad r p t (30 + 13 * c + k) = r (30 + 13 * c + k) := fun c k hc hk h => by rw [ab c k hc hk, if_neg h]
  have n0 : s_ad r p t (30 + 13 * r 4 + 0) = p := by rw [ab (r 4) 0 h4.1 (by omega), if_pos rfl, if_pos rfl]
  have n1 : s_ad r p t (30 + 13 * r 4 + 1) = t := by rw [ab (r 4) 1 h4.1 (by omega), if_pos rfl, if_neg (by decide), if_pos rfl]
  have n2 : s_ad r p t (30 + 13 * r 4 + 2) = 0 := by rw [ab (r 4) 2 h4.1 (by omega), if_pos rfl, if_neg (by decide), if_neg (by decide), if_pos rfl]
  have n3 : s_ad r p t (30 + 13 * r 4 + 3) = -1 := by rw [ab (r 4) 3 h4.1 (by omega), if_pos rfl, if_neg (by decide), if_neg (by decide), if_neg (by decide), if_pos rfl]
  have n4 : s_ad r p t (30 + 13 * r 4 + 4) = 0 := by rw [ab (r 4) 4 h4.1 (by omega), if_pos rfl, if_neg (by decide), if_neg (by decide), if_neg (by decide), if_neg (by decide), if_pos rfl]
  have ct : ∀ c : Int, 0 ≤ c → c ≠ r 4 → (s_ct (s_ad r p t) c ↔ s_ct r c) := fun c hc h => s_ct_congr (old c 2 hc (by omega) h)
  have ctN : ¬ s_ct (s_ad r p t) (r 4) := by
    unfold s_ct
    rw [n2]
    omega
  refine ⟨⟨⟨by rw [lo 3 (by omega) (by omega)]; exact h3, by rw [lo4]; omega, by rw [lo 0 (by omega) (by omega)]; exact hr.1.2.2.1, ?_⟩, ?_, ?_, ?_, by rw [lo 1 (by omega) (by omega)]; exact hr.2.2.2.2.1, by rw [lo 2 (by omega) (by omega)]; exact hr.2.2.2.2.2⟩, ⟨?_, by rw [lo 5 (by omega) (by omega)]; exact hk.2⟩, ?_, ?_, ?_⟩
  · intro c k hc hk
    have i0 := hr.1.2.2.2 c k hc hk
    rw [ab c k hc.1 hk]
    split
    · split
      · omega
      · split
        · omega
        · split
          · omega
          · split
            · omega
            · split <;> omega
    · exact i0
  · intro q hq
    rw [lo 3 (by omega) (by omega)] at hq
    rw [lo (6 + 3 * q + 0) (by omega) (by omega)]
    exact hr.2.1 q hq
  · intro c hc
    rw [lo4] at hc
    rw [lo 3 (by omega) (by omega)]
    by_cases e : c = r 4
    · rw [e, n0, n1]
      exact ⟨hp, ht⟩
    · rw [old c 0 hc.1 (by omega) e, old c 1 hc.1 (by omega) e]
      exact hr.2.2.1 c (by omega)
  · intro q hq
    rw [lo 3 (by omega) (by omega)] at hq
    rw [lo (6 + 3 * q + 1) (by omega) (by omega), lo (6 + 3 * q + 2) (by omega) (by omega)]
    exact hr.2.2.2.1 q hq
  · intro q hq
    rw [lo 3 (by omega) (by omega)] at hq
    rw [lo (6 + 3 * q + 1) (by omega) (by omega), lo (6 + 3 * q + 2) (by omega) (by omega)]
    exact hk.1 q hq
  · intro c hc
    rw [lo4] at hc
    unfold v_a
    rw [lo 3 (by omega) (by omega)]
    by_cases e : c = r 4
    · subst e
      rw [n2, n3, n4]
      refine ⟨by omega, fun h => absurd h ctN, fun _ => ⟨rfl, rfl⟩, by omega, fun q hq => ?_⟩
      rw [ab (r 4) (5 + q) h4.1 (by omega), if_pos rfl, if_neg (by omega), if_neg (by omega), if_neg (by omega), if_neg (by omega), if_neg (by omega)]
      exact ⟨by omega, fun _ => rfl, fun _ => rfl⟩
    · rw [ct c hc.1 e, old c 2 hc.1 (by omega) e, old c 3 hc.1 (by omega) e, old c 4 hc.1 (by omega) e]
      obtain ⟨y1, y2, y3, y4, y5⟩ := hva c (by omega)
      refine ⟨y1, y2, y3, y4, fun q hq => ?_⟩
      rw [old c (5 + q) hc.1 (by omega) e]
      exact y5 q hq
  · intro c d g1 g2 g3
    rw [lo4] at g3
    have ec : c ≠ r 4 := by omega
    rw [old c 0 (by omega) (by omega) ec, old c 1 (by omega) (by omega) ec]
    by_cases e : d = r 4
    · rw [e, n0, n1]
      intro z1 z2
      have : s_abs r p t = true := (s_abs_t h4.1).mpr ⟨c, g1, by omega, z1, z2⟩
      rw [hw] at this
      cases this
    · rw [old d 0 (by omega) (by omega) e, old d 1 (by omega) (by omega) e]
      exact hu c d g1 g2 (by omega)
  · intro c d g1 g2 g3
    rw [lo4] at g3
    have ec : c ≠ r 4 := by omega
    intro z1 z2
    by_cases e : d = r 4
    · rw [e] at z2
      exact absurd z2 ctN
    · rw [ct c (by omega) ec] at z1
      rw [ct d (by omega) e] at z2
      rw [old c 1 (by omega) (by omega) ec, old d 1 (by omega) (by omega) e, old c 3 (by omega) (by omega) ec, old d 3 (by omega) (by omega) e]
      exact hc c d g1 g2 (by omega) z1 z2
theorem x_enterAbsence {K : Int} {S : ST} {r : Int → Int} {p t : Nat} (hx : x_rel S r) (hv : v_x K r) (hN : r 4 < 30) (hp : (p : Int) < r 3) (ht : t < 42) : ∃ S', f_X1_enterAbsence S (z32 p) (z32 t) = some (z32 (r 4), S') ∧ x_rel S' (s_ad r p t) := by
  have h3 := hv.1.1.1
  have h4 := hv.1.1.2.1
  obtain ⟨n, hn⟩ : ∃ n : Nat, r 4 = n := ⟨(r 4).toNat, by omega⟩
  have hx2 := hx
  obtain ⟨w0, w3, w4, w5, wp, wa⟩ := hx
  obtain ⟨s0, s1, s2, s3, s4, s5, s6, s7, s8, s9, s10, s11, s12, s13, s14⟩ := S
  have e8 : s8 = z32 n := by rw [← hn]; exact w4
  subst e8
  obtain ⟨B, b1, b2⟩ := x_dropBids (S := (s0, s1, s2, s3, s4, s5, s6, s7, z32 (n : Int), upd s9 n (z32 p), upd s10 n (z32 t), upd s11 n (z32 0), upd s12 n (z32 (-1)), upd s13 n (z32 0), s14)) (a := n) (by omega)
  simp only [sST_bids] at b1
  refine ⟨(s0, s1, s2, s3, vp_updL s4 p (s4 p ||| ((1 : Int64) <<< ((z32 (t : Int)).toInt64 &&& 63))), s5, s6, s7, z32 ((n : Int) + 1), upd s9 n (z32 p), upd s10 n (z32 t), upd s11 n (z32 0), upd s12 n (z32 (-1)), upd s13 n (z32 0), B), ?_, ?_⟩
  · have hin : q_in (z32 (n : Int)) 30 = true := (z_in ⟨by omega, by omega, by omega⟩).mpr trivial
    have hip : q_in (z32 (p : Int)) 8 = true := (z_in ⟨by omega, by omega, by omega⟩).mpr trivial
    have b0 : (z32 (n : Int)).toNatClampNeg = n := by rw [z32_clamp (by omega)]; rfl
    have bp : (z32 (p : Int)).toNatClampNeg = p := by rw [z32_clamp (by omega)]; rfl
    have ea : ST_absences (s0, s1, s2, s3, s4, s5, s6, s7, z32 (n : Int), s9, s10, s11, s12, s13, s14) = z32 (n : Int) := rfl
    unfold f_X1_enterAbsence
    rw [ea]
    show (if q_in (z32 (n : Int)) 30 = true then _ else none) = _
    rw [if_pos hin]
    show (if q_in (z32 (n : Int)) 30 = true then _ else none) = _
    rw [if_pos hin]
    show (if q_in (z32 (n : Int)) 30 = true then _ else none) = _
    rw [if_pos hin]
    show (if q_in (z32 (n : Int)) 30 = true then _ else none) = _
    rw [if_pos hin]
    show (if q_in (z32 (n : Int)) 30 = true then _ else none) = _
    rw [if_pos hin, b0]
    show ((f_X1_dropBids (s0, s1, s2, s3, s4, s5, s6, s7, z32 (n : Int), upd s9 n (z32 p), upd s10 n (z32 t), upd s11 n (z32 0), upd s12 n (z32 (-1)), upd s13 n (z32 0), s14) (z32 (n : Int))).bind _) = _
    rw [b1, z_some, if_pos hip, if_pos hip, bp, hn]
    show some (z32 (n : Int), (s0, s1, s2, s3, vp_updL s4 p (s4 p ||| ((1 : Int64) <<< ((z32 (t : Int)).toInt64 &&& 63))), s5, s6, s7, z32 (n : Int) + z32 1, upd s9 n (z32 p), upd s10 n (z32 t), upd s11 n (z32 0), upd s12 n (z32 (-1)), upd s13 n (z32 0), B)) = _
    rw [z32_add]
  · have e4 : s_ad r p t 4 = r 4 + 1 := by rw [s_ad_lo h4.1 (by omega), if_pos rfl]
    have lo : ∀ i : Int, i < 30 → i ≠ 4 → s_ad r p t i = r i := fun i hi h => by rw [s_ad_lo h4.1 hi, if_neg h]
    have ab : ∀ c k : Int, 0 ≤ c → 0 ≤ k ∧ k < 13 → s_ad r p t (30 + 13 * c + k) = if c = r 4 then (if k = 0 then (p : Int) else if k = 1 then (t : Int) else if k = 2 then 0 else if k = 3 then -1 else if k = 4 then 0 else -1) else r (30 + 13 * c + k) := fun c k hc hk => s_ad_ab hc hk
    refine ⟨fun k hk => ?_, ?_, ?_, ?_, fun q hq => ?_, fun c hc => ?_⟩
    · rw [lo k (by omega) (by omega)]
      exact w0 k hk
    · rw [lo 3 (by omega) (by omega)]
      exact w3
    · rw [e4, hn]
      rfl
    · rw [lo 5 (by omega) (by omega)]
      exact w5
    · rw [lo 3 (by omega) (by omega)] at hq
      obtain ⟨x1, x2, x3, x4, x5⟩ := wp q hq
      rw [lo (6 + 3 * (q : Int) + 0) (by omega) (by omega), lo (6 + 3 * (q : Int) + 1) (by omega) (by omega), lo (6 + 3 * (q : Int) + 2) (by omega) (by omega)]
      refine ⟨x1, x2, x3, fun i hi => ?_, fun i hi => ?_⟩
      · rw [s_ad_abs h4.1]
        show b6 (vp_updL s4 p (s4 p ||| ((1 : Int64) <<< ((z32 (t : Int)).toInt64 &&& 63))) q) i = _
        have x4 : ∀ i, i < 64 → b6 (s4 q) i = (decide (i < 42) && s_abs r q i) := x4
        unfold vp_updL
        by_cases e : q = p
        · rw [if_pos e, ← e, b6_or, x4 i hi, b6_bit t (by omega) hi, decide_eq_true (show (q : Int) = q from rfl), Bool.true_and]
          by_cases e3 : i = t
          · rw [decide_eq_true e3, decide_eq_true (show (t : Int) = i by omega), decide_eq_true (show i < 42 by omega), Bool.or_true, Bool.or_true]; rfl
          · rw [decide_eq_false e3, decide_eq_false (show ¬ (t : Int) = i by omega), Bool.or_false, Bool.or_false]
        · rw [if_neg e, x4 i hi, decide_eq_false (show ¬ (p : Int) = q by omega), Bool.false_and, Bool.or_false]
      · rw [s_ad_cvs h4.1]
        exact x5 i hi
    · rw [e4] at hc
      by_cases e : c = n
      · subst e
        rw [ab c 0 (by omega) (by omega), ab c 1 (by omega) (by omega), ab c 2 (by omega) (by omega), ab c 3 (by omega) (by omega), ab c 4 (by omega) (by omega)]
        simp only [if_pos hn.symm]
        refine ⟨if_pos rfl, if_pos rfl, if_pos rfl, if_pos rfl, if_pos rfl, fun q hq => ?_⟩
        rw [ab c (5 + q) (by omega) (by omega), if_pos hn.symm, if_neg (by omega), if_neg (by omega), if_neg (by omega), if_neg (by omega), if_neg (by omega)]
        show B (8 * c + q) = _
        rw [b2, if_pos (by omega)]
      · obtain ⟨x1, x2, x3, x4, x5, x6⟩ := wa c (by omega)
        have ec : ¬ (c : Int) = r 4 := by omega
        rw [ab c 0 (by omega) (by omega), ab c 1 (by omega) (by omega), ab c 2 (by omega) (by omega), ab c 3 (by omega) (by omega), ab c 4 (by omega) (by omega), if_neg ec, if_neg ec, if_neg ec, if_neg ec, if_neg ec]
        refine ⟨(if_neg e).trans x1, (if_neg e).trans x2, (if_neg e).trans x3, (if_neg e).trans x4, (if_neg e).trans x5, fun q hq => ?_⟩
        rw [ab c (5 + q) (by omega) (by omega), if_neg ec]
        show B (8 * c + q) = _
        rw [b2, if_neg (by omega)]
        exact x6 q hq
