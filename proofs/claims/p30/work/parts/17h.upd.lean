/-! rows where no absence changes: a setting, a person's roster, a new person -/
/-- what holds where persons alone change -/
theorem v_low {K : Int} {r r' : Int → Int} (hv : v_x K r) (h3 : (0 ≤ r' 3 ∧ r' 3 ≤ 8) ∧ r 3 ≤ r' 3) (h4 : r' 4 = r 4) (h0 : 0 ≤ r' 0 ∧ r' 0 ≤ 5) (h1 : 1 ≤ r' 1 ∧ r' 1 ≤ 50) (h2 : 0 ≤ r' 2 ∧ r' 2 ≤ 50) (h5 : 0 ≤ r' 5 ∧ r' 5 ≤ K) (hK : K < 2000000000)
    (hp : ∀ p : Int, 0 ≤ p ∧ p < r' 3 → (0 ≤ r' (6 + 3 * p + 0) ∧ r' (6 + 3 * p + 0) < 4398046511104) ∧ (-K ≤ r' (6 + 3 * p + 1) ∧ r' (6 + 3 * p + 1) ≤ K) ∧ (0 ≤ r' (6 + 3 * p + 2) ∧ r' (6 + 3 * p + 2) ≤ K))
    (ab : ∀ c k : Int, 0 ≤ c → 0 ≤ k ∧ k < 13 → r' (30 + 13 * c + k) = r (30 + 13 * c + k)) : v_x K r' := by
  obtain ⟨hr, hk, hva, hu, hc⟩ := hv
  have ct : ∀ c : Int, 0 ≤ c → (s_ct r' c ↔ s_ct r c) := fun c h => s_ct_congr (ab c 2 h (by omega))
  have nk : v_k K r' := ⟨fun q hq => (hp q hq).2, h5⟩
  refine ⟨⟨⟨h3.1, by rw [h4]; exact hr.1.2.1, h0, ?_⟩, fun q hq => (hp q hq).1, ?_, nk.m32 hK, h1, h2⟩, nk, ?_, ?_, ?_⟩
  · intro c k hc hk
    rw [ab c k hc.1 hk]
    exact hr.1.2.2.2 c k hc hk
  · intro c hc
    rw [h4] at hc
    have := hr.2.2.1 c hc
    rw [ab c 0 hc.1 (by omega), ab c 1 hc.1 (by omega)]
    omega
  · intro c hc
    rw [h4] at hc
    obtain ⟨y1, y2, y3, y4, y5⟩ := hva c hc
    unfold v_a
    rw [ct c hc.1, ab c 2 hc.1 (by omega), ab c 3 hc.1 (by omega), ab c 4 hc.1 (by omega)]
    refine ⟨y1, fun h => ?_, y3, y4, fun q hq => ?_⟩
    · have := y2 h
      omega
    · rw [ab c (5 + q) hc.1 (by omega)]
      obtain ⟨g1, g2, g3⟩ := y5 q hq
      exact ⟨g1, fun h => g2 (by omega), g3⟩
  · intro c d g1 g2 g3
    rw [h4] at g3
    rw [ab c 0 (by omega) (by omega), ab d 0 (by omega) (by omega), ab c 1 (by omega) (by omega), ab d 1 (by omega) (by omega)]
    exact hu c d g1 g2 g3
  · intro c d g1 g2 g3
    rw [h4] at g3
    rw [ct c (by omega), ct d (by omega), ab c 3 (by omega) (by omega), ab d 3 (by omega) (by omega), ab c 1 (by omega) (by omega), ab d 1 (by omega) (by omega)]
    exact hc c d g1 g2 g3
theorem v_set {K : Int} {r : Int → Int} {k z : Int} (hv : v_x K r) (hK : K < 2000000000) (hk : 0 ≤ k ∧ k < 3) (hz : (if k = 1 then 1 else 0) ≤ z ∧ z ≤ (if k = 0 then 5 else 50)) : v_x K (q_up r k z) := by
  have e : ∀ i : Int, i ≠ k → q_up r k z i = r i := fun i hi => q_up_ne hi
  obtain ⟨hr, hk2, -⟩ := id hv
  refine v_low hv ⟨by rw [e 3 (by omega)]; exact hr.1.1, by rw [e 3 (by omega)]; omega⟩ (e 4 (by omega)) ?_ ?_ ?_ (by rw [e 5 (by omega)]; exact hk2.2) hK (fun p hp => ?_) (fun c k hc hk => e _ (by omega))
  · by_cases c : k = 0
    · rw [q_up_eq c.symm]
      rw [if_neg (by omega), if_pos c] at hz
      exact hz
    · rw [e 0 (by omega)]
      exact hr.1.2.2.1
  · by_cases c : k = 1
    · rw [q_up_eq c.symm]
      rw [if_pos c, if_neg (by omega)] at hz
      exact hz
    · rw [e 1 (by omega)]
      exact hr.2.2.2.2.1
  · by_cases c : k = 2
    · rw [q_up_eq c.symm]
      rw [if_neg (by omega), if_neg (by omega)] at hz
      exact hz
    · rw [e 2 (by omega)]
      exact hr.2.2.2.2.2
  · rw [e 3 (by omega)] at hp
    rw [e (6 + 3 * p + 0) (by omega), e (6 + 3 * p + 1) (by omega), e (6 + 3 * p + 2) (by omega)]
    exact ⟨hr.2.1 p hp, hk2.1 p hp⟩
theorem x_rel_set {S : ST} {r : Int → Int} {k : Nat} {z : Int} (hx : x_rel S r) (hk : k < 3) : x_rel (sST_settings S (upd (ST_settings S) k (z32 z))) (q_up r k z) := by
  have e : ∀ i : Int, i ≠ k → q_up r k z i = r i := fun i hi => q_up_ne hi
  refine ⟨fun j hj => ?_, ?_, ?_, ?_, fun q hq => ?_, fun c hc => ?_⟩
  · show upd (ST_settings S) k (z32 z) j = _
    unfold upd
    by_cases c : j = k
    · rw [if_pos c, q_up_eq (by omega)]
    · rw [if_neg c, e j (by omega)]
      exact hx.1 j hj
  · rw [e 3 (by omega)]
    exact hx.2.1
  · rw [e 4 (by omega)]
    exact hx.2.2.1
  · rw [e 5 (by omega)]
    exact hx.2.2.2.1
  · rw [e 3 (by omega)] at hq
    obtain ⟨x1, x2, x3, x4, x5⟩ := hx.2.2.2.2.1 q hq
    rw [e (6 + 3 * (q : Int) + 0) (by omega), e (6 + 3 * (q : Int) + 1) (by omega), e (6 + 3 * (q : Int) + 2) (by omega)]
    refine ⟨x1, x2, x3, fun i hi => ?_, fun i hi => ?_⟩
    · rw [s_abs_congr (e 4 (by omega)) (fun c _ => ⟨e _ (by omega), e _ (by omega)⟩)]
      exact x4 i hi
    · rw [s_cvs_congr (e 4 (by omega)) (fun c _ => ⟨s_cov_congr (e _ (by omega)), e _ (by omega), e _ (by omega)⟩)]
      exact x5 i hi
  · rw [e 4 (by omega)] at hc
    obtain ⟨x1, x2, x3, x4, x5, x6⟩ := hx.2.2.2.2.2 c hc
    rw [e (30 + 13 * (c : Int) + 0) (by omega), e (30 + 13 * (c : Int) + 1) (by omega), e (30 + 13 * (c : Int) + 2) (by omega), e (30 + 13 * (c : Int) + 3) (by omega), e (30 + 13 * (c : Int) + 4) (by omega)]
    refine ⟨x1, x2, x3, x4, x5, fun q hq => ?_⟩
    rw [e (30 + 13 * (c : Int) + (5 + (q : Int))) (by omega)]
    exact x6 q hq
theorem z64_self (x : Int64) : z64 x.toInt = x := by
  rw [← Int64.toInt_inj, z64_toInt (Int64.le_toInt x) (Int64.toInt_lt x)]
theorem z32_self (x : Int32) : z32 x.toInt = x := by
  rw [← Int32.toInt_inj, z32_toInt (Int32.le_toInt x) (Int32.toInt_lt x)]
/-- a set of shifts as a number -/
theorem b6_small {x : Int64} (h : ∀ i : Nat, 42 ≤ i → i < 64 → b6 x i = false) : 0 ≤ x.toInt ∧ x.toInt < 4398046511104 := by
  have e : x.toBitVec.toNat < 2 ^ 42 := by
    refine Nat.lt_pow_two_of_testBit _ fun i hi => ?_
    rcases Nat.lt_or_ge i 64 with g | g
    · exact h i hi g
    · exact Nat.testBit_lt_two_pow (Nat.lt_of_lt_of_le x.toBitVec.isLt (Nat.pow_le_pow_right (by decide) g))
  have e2 : x.toInt = if 2 * x.toBitVec.toNat < 2 ^ 64 then (x.toBitVec.toNat : Int) else (x.toBitVec.toNat : Int) - ((2 ^ 64 : Nat) : Int) := BitVec.toInt_eq_toNat_cond _
  rw [if_pos (by omega)] at e2
  omega
/-- one shift in, or out -/
theorem b6_flip_in {x : Int64} {t : Nat} (ht : t < 64) (h : b6 x t = false) : x + ((1 : Int64) <<< ((z32 (t : Nat)).toInt64 &&& 63)) = x ^^^ ((1 : Int64) <<< ((z32 (t : Nat)).toInt64 &&& 63)) := by
  rw [b6_addor ht h]
  apply b6_ext
  intro i hi
  rw [b6_or, b6_xor, b6_bit t ht hi]
  by_cases e : i = t
  · rw [e, h, decide_eq_true rfl]; rfl
  · rw [decide_eq_false e, Bool.or_false, Bool.xor_false]
theorem b6_flip_out {x : Int64} {t : Nat} (ht : t < 64) (h : b6 x t = true) : x + -((1 : Int64) <<< ((z32 (t : Nat)).toInt64 &&& 63)) = x ^^^ ((1 : Int64) <<< ((z32 (t : Nat)).toInt64 &&& 63)) := by
  have h2 : b6 (x ^^^ ((1 : Int64) <<< ((z32 (t : Nat)).toInt64 &&& 63))) t = false := by rw [b6_xor, b6_bit t ht ht, h, decide_eq_true rfl]; rfl
  have e := b6_flip_in ht h2
  have e2 : (x ^^^ ((1 : Int64) <<< ((z32 (t : Nat)).toInt64 &&& 63))) ^^^ ((1 : Int64) <<< ((z32 (t : Nat)).toInt64 &&& 63)) = x := by
    apply b6_ext
    intro i hi
    rw [b6_xor, b6_xor, Bool.xor_assoc, Bool.xor_self, Bool.xor_false]
  rw [e2] at e
  generalize ((1 : Int64) <<< ((z32 (t : Nat)).toInt64 &&& 63)) = b at e ⊢
  generalize x ^^^ b = y at e ⊢
  rw [← e, Int64.add_assoc, Int64.add_right_neg, Int64.add_zero]
def s_fl (r : Int → Int) (p : Int) (t : Nat) : Int := (z64 (r (6 + 3 * p + 0)) ^^^ ((1 : Int64) <<< ((z32 (t : Nat)).toInt64 &&& 63))).toInt
theorem s_fl_in {r : Int → Int} (hv : v_r r) {p : Int} (hp : 0 ≤ p ∧ p < r 3) {t : Nat} (ht : t < 42) : 0 ≤ s_fl r p t ∧ s_fl r p t < 4398046511104 := by
  unfold s_fl
  apply b6_small
  intro i h1 h2
  rw [b6_xor, b6_range (hv.2.1 p hp) h1, b6_bit t (by omega) h2, decide_eq_false (by omega)]
  rfl
theorem s_fl_z (r : Int → Int) (p : Int) (t : Nat) : z64 (s_fl r p t) = z64 (r (6 + 3 * p + 0)) ^^^ ((1 : Int64) <<< ((z32 (t : Nat)).toInt64 &&& 63)) := z64_self _
theorem v_ros {K : Int} {r : Int → Int} {p z : Int} (hv : v_x K r) (hK : K < 2000000000) (hp : 0 ≤ p ∧ p < r 3) (hz : 0 ≤ z ∧ z < 4398046511104) : v_x K (q_up r (6 + 3 * p + 0) z) := by
  have h3 := hv.1.1.1
  have e : ∀ i : Int, i ≠ 6 + 3 * p + 0 → q_up r (6 + 3 * p + 0) z i = r i := fun i hi => q_up_ne hi
  obtain ⟨hr, hk2, -⟩ := id hv
  refine v_low hv ⟨by rw [e 3 (by omega)]; exact hr.1.1, by rw [e 3 (by omega)]; omega⟩ (e 4 (by omega)) (by rw [e 0 (by omega)]; exact hr.1.2.2.1) (by rw [e 1 (by omega)]; exact hr.2.2.2.2.1) (by rw [e 2 (by omega)]; exact hr.2.2.2.2.2) (by rw [e 5 (by omega)]; exact hk2.2) hK (fun q hq => ?_) (fun c k hc hk => e _ (by omega))
  rw [e 3 (by omega)] at hq
  rw [e (6 + 3 * q + 1) (by omega), e (6 + 3 * q + 2) (by omega)]
  refine ⟨?_, hk2.1 q hq⟩
  by_cases c : q = p
  · rw [q_up_eq (by omega)]
    exact hz
  · rw [e (6 + 3 * q + 0) (by omega)]
    exact hr.2.1 q hq
theorem x_rel_ros {S : ST} {r : Int → Int} {p : Nat} {z : Int} (hx : x_rel S r) (hv : v_r r) (hp : (p : Int) < r 3) : x_rel (sST_rosters S (vp_updL (ST_rosters S) p (z64 z))) (q_up r (6 + 3 * (p : Int) + 0) z) := by
  have h3 := hv.1.1
  have e : ∀ i : Int, i ≠ 6 + 3 * (p : Int) + 0 → q_up r (6 + 3 * (p : Int) + 0) z i = r i := fun i hi => q_up_ne hi
  refine ⟨fun j hj => ?_, ?_, ?_, ?_, fun q hq => ?_, fun c hc => ?_⟩
  · rw [e j (by omega)]
    exact hx.1 j hj
  · rw [e 3 (by omega)]
    exact hx.2.1
  · rw [e 4 (by omega)]
    exact hx.2.2.1
  · rw [e 5 (by omega)]
    exact hx.2.2.2.1
  · rw [e 3 (by omega)] at hq
    obtain ⟨x1, x2, x3, x4, x5⟩ := hx.2.2.2.2.1 q hq
    rw [e (6 + 3 * (q : Int) + 1) (by omega), e (6 + 3 * (q : Int) + 2) (by omega)]
    refine ⟨?_, x2, x3, fun i hi => ?_, fun i hi => ?_⟩
    · show vp_updL (ST_rosters S) p (z64 z) q = _
      unfold vp_updL
      by_cases c : q = p
      · rw [if_pos c, q_up_eq (by omega)]
      · rw [if_neg c, e (6 + 3 * (q : Int) + 0) (by omega)]
        exact x1
    · rw [s_abs_congr (e 4 (by omega)) (fun c _ => ⟨e _ (by omega), e _ (by omega)⟩)]
      exact x4 i hi
    · rw [s_cvs_congr (e 4 (by omega)) (fun c _ => ⟨s_cov_congr (e _ (by omega)), e _ (by omega), e _ (by omega)⟩)]
      exact x5 i hi
  · rw [e 4 (by omega)] at hc
    obtain ⟨x1, x2, x3, x4, x5, x6⟩ := hx.2.2.2.2.2 c hc
    rw [e (30 + 13 * (c : Int) + 0) (by omega), e (30 + 13 * (c : Int) + 1) (by omega), e (30 + 13 * (c : Int) + 2) (by omega), e (30 + 13 * (c : Int) + 3) (by omega), e (30 + 13 * (c : Int) + 4) (by omega)]
    refine ⟨x1, x2, x3, x4, x5, fun q hq => ?_⟩
    rw [e (30 + 13 * (c : Int) + (5 + (q : Int))) (by omega)]
    exact x6 q hq
/-- a new person -/
def s_np (r : Int → Int) (z : Int) : Int → Int := q_up (q_up (q_up (q_up r (6 + 3 * r 3 + 0) z) (6 + 3 * r 3 + 1) 0) (6 + 3 * r 3 + 2) 0) 3 (r 3 + 1)
theorem s_np_at {r : Int → Int} {z i : Int} (h3 : 0 ≤ r 3) : s_np r z i = if i = 3 then r 3 + 1 else if i = 6 + 3 * r 3 + 2 then 0 else if i = 6 + 3 * r 3 + 1 then 0 else if i = 6 + 3 * r 3 + 0 then z else r i := rfl
theorem v_np {K : Int} {r : Int → Int} {z : Int} (hv : v_x K r) (hK : K < 2000000000) (hK0 : 0 ≤ K) (hP : r 3 < 8) (hz : 0 ≤ z ∧ z < 4398046511104) : v_x K (s_np r z) := by
  have h3 := hv.1.1.1
  have e : ∀ i : Int, i ≠ 3 → (i < 6 + 3 * r 3 ∨ 6 + 3 * r 3 + 2 < i) → s_np r z i = r i := fun i hi h => by
    rw [s_np_at h3.1, if_neg hi, if_neg (by omega), if_neg (by omega), if_neg (by omega)]
  have e3 : s_np r z 3 = r 3 + 1 := by rw [s_np_at h3.1, if_pos rfl]
  obtain ⟨hr, hk2, -⟩ := id hv
  refine v_low hv ⟨by rw [e3]; omega, by rw [e3]; omega⟩ (e 4 (by omega) (by omega)) (by rw [e 0 (by omega) (by omega)]; exact hr.1.2.2.1) (by rw [e 1 (by omega) (by omega)]; exact hr.2.2.2.2.1) (by rw [e 2 (by omega) (by omega)]; exact hr.2.2.2.2.2) (by rw [e 5 (by omega) (by omega)]; exact hk2.2) hK (fun q hq => ?_) (fun c k hc hk => e _ (by omega) (by omega))
  rw [e3] at hq
  by_cases c : q = r 3
  · subst c
    rw [s_np_at h3.1, s_np_at h3.1, s_np_at h3.1, if_neg (by omega), if_neg (by omega), if_neg (by omega), if_pos rfl, if_neg (by omega), if_neg (by omega), if_pos rfl, if_neg (by omega), if_pos rfl]
    omega
  · rw [e (6 + 3 * q + 0) (by omega) (by omega), e (6 + 3 * q + 1) (by omega) (by omega), e (6 + 3 * q + 2) (by omega) (by omega)]
    exact ⟨hr.2.1 q (by omega), hk2.1 q (by omega)⟩
theorem x_enterPerson {K : Int} {S : ST} {r : Int → Int} {z : Int} (hx : x_rel S r) (hv : v_x K r) (hP : r 3 < 8) : ∃ S', f_X1_enterPerson S (z64 z) = some (z32 (r 3), S') ∧ x_rel S' (s_np r z) := by
  have h3 := hv.1.1.1
  have h4 := hv.1.1.2.1
  obtain ⟨n, hn⟩ : ∃ n : Nat, r 3 = n := ⟨(r 3).toNat, by omega⟩
  have e : ∀ i : Int, i ≠ 3 → (i < 6 + 3 * r 3 ∨ 6 + 3 * r 3 + 2 < i) → s_np r z i = r i := fun i hi h => by
    rw [s_np_at h3.1, if_neg hi, if_neg (by omega), if_neg (by omega), if_neg (by omega)]
  have e3 : s_np r z 3 = r 3 + 1 := by rw [s_np_at h3.1, if_pos rfl]
  obtain ⟨w0, w3, w4, w5, wp, wa⟩ := hx
  obtain ⟨s0, s1, s2, s3, s4, s5, s6, s7, s8, s9, s10, s11, s12, s13, s14⟩ := S
  have e2 : s2 = z32 n := by rw [← hn]; exact w3
  subst e2
  refine ⟨(s0, s1, z32 ((n : Int) + 1), vp_updL s3 n (z64 z), vp_updL s4 n 0, vp_updL s5 n 0, upd s6 n (z32 0), upd s7 n (z32 0), s8, s9, s10, s11, s12, s13, s14), ?_, ?_⟩
  · unfold f_X1_enterPerson
    rw [show (0 : Int32) = z32 0 from rfl, show (1 : Int32) = z32 1 from rfl]
    simp (disch := omega) only [ST_persons, ST_rosters, ST_away, ST_covering, ST_meters, ST_turns, sST_persons, sST_rosters, sST_away, sST_covering, sST_meters, sST_turns, z_in, if_true, z_lets, z32_clamp, Int.toNat_natCast, z32_add, hn]
  · refine ⟨fun j hj => ?_, ?_, ?_, ?_, fun q hq => ?_, fun c hc => ?_⟩
    · rw [e j (by omega) (by omega)]
      exact w0 j hj
    · rw [e3, hn]
      rfl
    · rw [e 4 (by omega) (by omega)]
      exact w4
    · rw [e 5 (by omega) (by omega)]
      exact w5
    · rw [e3] at hq
      have ca : ∀ p i : Int, s_abs (s_np r z) p i = s_abs r p i := fun p i => s_abs_congr (e 4 (by omega) (by omega)) (fun c _ => ⟨e _ (by omega) (by omega), e _ (by omega) (by omega)⟩) p i
      have cc : ∀ p i : Int, s_cvs (s_np r z) p i = s_cvs r p i := fun p i => s_cvs_congr (e 4 (by omega) (by omega)) (fun c _ => ⟨s_cov_congr (e _ (by omega) (by omega)), e _ (by omega) (by omega), e _ (by omega) (by omega)⟩) p i
      by_cases c : q = n
      · subst c
        have no1 : ∀ i : Int, s_abs r q i = false := by
          intro i
          rw [← Bool.not_eq_true, s_abs_t h4.1]
          rintro ⟨c, c1, c2, c3, -⟩
          have := (hv.1.2.2.1 c ⟨c1, c2⟩).1
          omega
        have no2 : ∀ i : Int, s_cvs r q i = false := by
          intro i
          rw [← Bool.not_eq_true, s_cvs_t h4.1]
          rintro ⟨c, c1, c2, c3, c4, -⟩
          have := (hv.2.2.1 c ⟨c1, c2⟩).2.1 c3
          omega
        rw [s_np_at h3.1, s_np_at h3.1, s_np_at h3.1, if_neg (by omega), if_neg (by omega), if_neg (by omega), if_pos (by omega), if_neg (by omega), if_neg (by omega), if_pos (by omega), if_neg (by omega), if_pos (by omega)]
        refine ⟨if_pos rfl, if_pos rfl, if_pos rfl, fun i hi => ?_, fun i hi => ?_⟩
        · rw [ca, no1, Bool.and_false]
          show b6 (vp_updL s4 q 0 q) i = false
          unfold vp_updL
          rw [if_pos rfl]
          exact b6_0 i
        · rw [cc, no2, Bool.and_false]
          show b6 (vp_updL s5 q 0 q) i = false
          unfold vp_updL
          rw [if_pos rfl]
          exact b6_0 i
      · obtain ⟨x1, x2, x3, x4, x5⟩ := wp q (by omega)
        rw [e (6 + 3 * (q : Int) + 0) (by omega) (by omega), e (6 + 3 * (q : Int) + 1) (by omega) (by omega), e (6 + 3 * (q : Int) + 2) (by omega) (by omega)]
        refine ⟨(if_neg c).trans x1, (if_neg c).trans x2, (if_neg c).trans x3, fun i hi => ?_, fun i hi => ?_⟩
        · rw [ca]
          show b6 (vp_updL s4 n 0 q) i = _
          unfold vp_updL
          rw [if_neg c]
          exact x4 i hi
        · rw [cc]
          show b6 (vp_updL s5 n 0 q) i = _
          unfold vp_updL
          rw [if_neg c]
          exact x5 i hi
    · rw [e 4 (by omega) (by omega)] at hc
      obtain ⟨x1, x2, x3, x4, x5, x6⟩ := wa c hc
      rw [e (30 + 13 * (c : Int) + 0) (by omega) (by omega), e (30 + 13 * (c : Int) + 1) (by omega) (by omega), e (30 + 13 * (c : Int) + 2) (by omega) (by omega), e (30 + 13 * (c : Int) + 3) (by omega) (by omega), e (30 + 13 * (c : Int) + 4) (by omega) (by omega)]
      refine ⟨x1, x2, x3, x4, x5, fun q hq => ?_⟩
      rw [e (30 + 13 * (c : Int) + (5 + (q : Int))) (by omega) (by omega)]
      exact x6 q hq
