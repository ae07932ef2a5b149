/-! the calls of p30, each told by the row alone -/
/-! the calls that write, on -/
theorem n_canBeAbsent {S : ST} {r : Int → Int} (hx : x_rel S r) (hv : v_r r) {p t : Nat} (hp : (p : Int) < r 3) (ht : t < 42) : f_X1_canBeAbsent S (z32 p) (z32 t) = some (z_B (s_ros r p t && (!s_abs r p t && decide (r 4 < 30)))) := by
  have h3 := hv.1.1
  have h4 := hv.1.2.1
  obtain ⟨x1, -, -, x4, -⟩ := hx.2.2.2.2.1 p hp
  have hb : b6 (ST_rosters S p) t = s_ros r p t := by
    rw [x1]
    unfold s_ros
    rw [Int.toNat_natCast]
  unfold f_X1_canBeAbsent
  have l4 : (30 ≤ z32 (r 4)) ↔ (30 ≤ r 4) := z32_le (x := 30) ⟨by omega, by omega⟩ ⟨by omega, by omega⟩
  rw [hx.2.2.1]
  simp only [l4]
  simp (disch := omega) only [z_in, if_true, z_lets, z32_clamp, Int.toNat_natCast, x_has, b6_and, b6_xor, b6_m1 t (by omega), hb, x4 t (by omega), decide_eq_true (show t < 42 by omega), Bool.true_and]
  by_cases c : r 4 < 30
  · rw [if_neg (show ¬ 30 ≤ r 4 by omega), decide_eq_true c]
    cases s_ros r p t <;> cases s_abs r p t <;> rfl
  · rw [if_pos (show 30 ≤ r 4 by omega), decide_eq_false c]
    cases s_ros r p t <;> cases s_abs r p t <;> rfl
theorem n_canBid {S : ST} {r : Int → Int} (hx : x_rel S r) (hv : v_b r) {p : Int} (hp : rng p) {a : Nat} (ha : (a : Int) < r 4) : f_X1_canBid S (z32 p) (z32 a) = some (z_B (decide (r (30 + 13 * (a : Int) + 2) = 0 ∧ r (30 + 13 * (a : Int) + 0) ≠ p))) := by
  unfold rng at hp
  have h4 := hv.2.1
  have i0 := hv.2.2.2 a 0 (by omega) (by omega)
  have i2 := hv.2.2.2 a 2 (by omega) (by omega)
  obtain ⟨x1, -, x3, -⟩ := hx.2.2.2.2.2 a ha
  unfold f_X1_canBid
  simp (disch := omega) only [z32_lit, z_in, if_true, z32_clamp, Int.toNat_natCast, x1, x3, z32_eq]
  by_cases c : r (30 + 13 * (a : Int) + 2) = 0
  · rw [if_neg (fun z => z c)]
    by_cases d : r (30 + 13 * (a : Int) + 0) = p
    · rw [if_pos d, decide_eq_false (fun z => z.2 d)]; rfl
    · rw [if_neg d, decide_eq_true ⟨c, d⟩]; rfl
  · rw [if_pos c, decide_eq_false (fun z => c z.1)]; rfl
theorem n_isCovered {S : ST} {r : Int → Int} (hx : x_rel S r) (hv : v_b r) {a : Nat} (ha : (a : Int) < r 4) : f_X1_isCovered S (z32 a) = some (z_B (s_cov r a)) := by
  have h4 := hv.2.1
  have i2 := hv.2.2.2 a 2 (by omega) (by omega)
  obtain ⟨-, -, x3, -⟩ := hx.2.2.2.2.2 a ha
  unfold f_X1_isCovered s_cov
  simp (disch := omega) only [z32_lit, z_in, if_true, z32_clamp, Int.toNat_natCast, x3, z32_eq]
  by_cases c1 : r (30 + 13 * (a : Int) + 2) = 1
  · rw [if_pos c1, decide_eq_true c1]; rfl
  · rw [if_neg c1, decide_eq_false c1]
    by_cases c2 : r (30 + 13 * (a : Int) + 2) = 2
    · rw [if_neg (fun z => z c2), decide_eq_true c2]; rfl
    · rw [if_pos c2, decide_eq_false c2]; rfl
/-- who covers in the shift can't cover there once more -/
theorem s_wnf_own {K : Int} {r : Int → Int} (hv : v_x K r) {a : Int} (ha : 0 ≤ a ∧ a < r 4) (hc : s_ct r a) : s_wnf r (r (30 + 13 * a + 3)) a ≠ 0 := by
  have h4 := hv.1.1.2.1
  intro h
  have e := s_wnf_cvs (hv.1.2.2.1 a ha).2 h
  rw [(s_cvs_t h4.1).mpr ⟨a, ha.1, ha.2, hc, rfl, rfl⟩] at e
  cases e
theorem w_set {K : Int} (hK : K < 800000000) {x y : Int} (hx : rng x) (hy : rng y) : w_call K (fun S => f_X2_set S (z32 x) (z32 y)) := by
  intro r hv
  have e1 : f_X2_needInRange (z32 x) 0 2 = _ := n_range hx (l := 0) (h := 2) ⟨by omega, by omega⟩ ⟨by omega, by omega⟩
  by_cases c : 0 ≤ x ∧ x ≤ 2
  · obtain ⟨k, rfl⟩ : ∃ k : Nat, x = k := ⟨x.toNat, by omega⟩
    have hk : k < 3 := by omega
    have lo : q_lows k = z32 (if (k : Int) = 1 then 1 else 0) := by
      rcases (show k = 0 ∨ k = 1 ∨ k = 2 by omega) with e | e | e <;> (rw [e]; rfl)
    have hi : q_tops k = z32 (if (k : Int) = 0 then 5 else 50) := by
      rcases (show k = 0 ∨ k = 1 ∨ k = 2 by omega) with e | e | e <;> (rw [e]; rfl)
    have e2 : f_X2_needInRange (z32 y) (q_lows k) (q_tops k) = some (if (if (k : Int) = 1 then 1 else 0) ≤ y ∧ y ≤ (if (k : Int) = 0 then 5 else 50) then .inr () else .inl "java/lang/IllegalArgumentException") := by
      rw [lo, hi]
      exact n_range hy ⟨by split <;> omega, by split <;> omega⟩ ⟨by split <;> omega, by split <;> omega⟩
    by_cases d : (if (k : Int) = 1 then 1 else 0) ≤ y ∧ y ≤ (if (k : Int) = 0 then 5 else 50)
    · refine w_yes (v := r k) (r' := q_up r k y) (fun S S1 hr a1 a3 => ⟨_, ?_, x_rel_set (z := y) hr hk⟩) ?_ ((v_set hv (by omega) (by omega) d).mono (by omega)) (w_sum_up (by omega) (fun p hp => by omega)) (w_rs_up (by omega) (by omega) (fun q hq => by omega) (fun c hc => by omega))
      · show f_X2_set S (z32 (k : Int)) (z32 y) = _
        unfold f_X2_set
        rw [e1, z_some, if_pos c, z_ir]
        simp (disch := omega) only [z_in, if_true, z32_clamp, Int.toNat_natCast]
        rw [e2, z_some, if_pos d, z_ir, a1, z_some]
        simp only [z_lets, a3]
        rw [hr.1 k hk]
      · have h0 := hv.1.1.2.2.1
        have h1 := hv.1.2.2.2.2.1
        have h2 := hv.1.2.2.2.2.2
        rcases (show k = 0 ∨ k = 1 ∨ k = 2 by omega) with e | e | e
        · subst e
          show -1000 ≤ r 0 ∧ r 0 ≤ 1000
          omega
        · subst e
          show -1000 ≤ r 1 ∧ r 1 ≤ 1000
          omega
        · subst e
          show -1000 ≤ r 2 ∧ r 2 ≤ 1000
          omega
    · refine w_no w_ia (fun S hr => ?_)
      show f_X2_set S (z32 (k : Int)) (z32 y) = _
      unfold f_X2_set
      rw [e1, z_some, if_pos c, z_ir]
      simp (disch := omega) only [z_in, if_true, z32_clamp, Int.toNat_natCast]
      rw [e2, z_some, if_neg d, z_il]
  · refine w_no w_ia (fun S hr => ?_)
    show f_X2_set S (z32 x) (z32 y) = _
    unfold f_X2_set
    rw [e1, z_some, if_neg c, z_il]
theorem w_addPerson {K : Int} (hK : K < 800000000) {x : Int} (hx : -9223372036854775808 ≤ x ∧ x < 9223372036854775808) : w_call K (fun S => f_X2_addPerson S (z64 x)) := by
  intro r hv
  have h3 := hv.1.1.1
  have hK0 : 0 ≤ K := by have := hv.2.1.2; omega
  have l1 : (lg_cmp (z64 x) 0 < 0) ↔ (x < 0) := (lg_cmp_lt _ _).trans (z64_lt hx (y := 0) (by omega))
  have l2 : (lg_cmp (z64 x) 4398046511103 ≤ 0) ↔ (x ≤ 4398046511103) := (lg_cmp_le _ _).trans (z64_le hx (y := 4398046511103) (by omega))
  have l4 : (8 ≤ z32 (r 3)) ↔ (8 ≤ r 3) := z32_le (x := 8) ⟨by omega, by omega⟩ ⟨by omega, by omega⟩
  by_cases c : 0 ≤ x ∧ x ≤ 4398046511103
  · by_cases d : 8 ≤ r 3
    · refine w_no w_is (fun S hr => ?_)
      show f_X2_addPerson S (z64 x) = _
      unfold f_X2_addPerson
      rw [hr.2.1]
      simp only [l1, l2, l4]
      rw [if_neg (show ¬ x < 0 by omega), if_pos c.2, if_pos d]
      rfl
    · refine w_yes (v := r 3) (r' := s_np r x) (fun S S1 hr a1 a3 => ?_) (by omega) ((v_np hv (by omega) hK0 (by omega) (by omega)).mono (by omega)) (w_sum_np h3.1) (w_rs_np hv (by omega))
      obtain ⟨S2, b1, b2⟩ := x_enterPerson (z := x) hr hv (by omega)
      refine ⟨S2, ?_, b2⟩
      show f_X2_addPerson S (z64 x) = _
      unfold f_X2_addPerson
      rw [hr.2.1]
      simp only [l1, l2, l4]
      rw [if_neg (show ¬ x < 0 by omega), if_pos c.2, if_neg d]
      unfold f_X2_addPerson_41
      show ((f_X2_save S).bind _) = _
      rw [a1, z_some, a3, b1, z_some]
      rfl
  · refine w_no w_ia (fun S hr => ?_)
    show f_X2_addPerson S (z64 x) = _
    unfold f_X2_addPerson
    rw [hr.2.1]
    simp only [l1, l2, l4]
    by_cases d : x < 0
    · rw [if_pos d]
    · rw [if_neg d, if_neg (by omega)]
theorem w_roster {K : Int} (hK : K < 800000000) {x y : Int} (hx : rng x) (hy : rng y) (w : Bool) : w_call K (fun S => f_X2_roster S (z32 x) (z32 y) (z_B w)) := by
  intro r hv
  have h3 := hv.1.1.1
  have e1 : f_X2_needInRange (z32 y) 0 41 = _ := n_range hy (l := 0) (h := 41) ⟨by omega, by omega⟩ ⟨by omega, by omega⟩
  by_cases c : 0 ≤ x ∧ x < r 3
  · by_cases d : 0 ≤ y ∧ y ≤ 41
    · obtain ⟨p, rfl⟩ : ∃ p : Nat, x = p := ⟨x.toNat, by omega⟩
      obtain ⟨t, rfl⟩ : ∃ t : Nat, y = t := ⟨y.toNat, by omega⟩
      have en : ∀ S : CM, x_rel (CM_now S) r → f_X1_canChangeRoster (CM_now S) (z32 p) (z32 t) (z_B w) = some (z_B (decide (s_ros r p t ≠ w) && (!s_abs r p t && !s_cvs r p t))) := by
        intro S hr
        obtain ⟨x1, -, -, x4, x5⟩ := hr.2.2.2.2.1 p c.2
        have hb : b6 (ST_rosters (CM_now S) p) t = s_ros r p t := by
          rw [x1]
          unfold s_ros
          rw [Int.toNat_natCast]
        unfold f_X1_canChangeRoster f_X1_canChangeRoster_24
        simp (disch := omega) only [z_in, if_true, z_lets, z32_clamp, Int.toNat_natCast, x_has, hb, b6_or, x4 t (by omega), x5 t (by omega), decide_eq_true (show t < 42 by omega), Bool.true_and]
        cases s_ros r p t <;> cases s_abs r p t <;> cases s_cvs r p t <;> cases w <;> rfl
      have es : ∀ S : CM, x_rel (CM_now S) r → f_X2_roster S (z32 p) (z32 t) (z_B w) = ((f_X1_canChangeRoster (CM_now S) (z32 p) (z32 t) (z_B w)).bind fun r3 => (f_X2_needAllowed r3).bind fun r4 => q_exc r4 fun _ => (f_X2_save S).bind fun r5 => some (.inr (((f_J13_bitCount_95d88 (ST_rosters (CM_now r5) p ^^^ ((1 : Int64) <<< ((z32 (t : Int)).toInt64 &&& 63)))).getD 0), sCM_now r5 (sST_rosters (CM_now r5) (vp_updL (ST_rosters (CM_now r5)) p (ST_rosters (CM_now r5) p ^^^ ((1 : Int64) <<< ((z32 (t : Int)).toInt64 &&& 63)))))))) := by
        intro S hr
        unfold f_X2_roster
        rw [n_person hr hv.1.1 hx, z_some, if_pos c, z_ir, e1, z_some, if_pos d, z_ir]
        simp (disch := omega) only [z_in, if_true, z_lets, z32_clamp, Int.toNat_natCast, pc_bitCount, z_some]
        rw [en S hr, z_some, z_some]
        congr 1
        funext r4
        congr 1
        funext _
        congr 1
        funext r5
        congr 1
        congr 1
        congr 1
        show _ = z32 _
        congr 1
        show ((s_cnt (b6 (vp_updL (ST_rosters (CM_now r5)) p (ST_rosters (CM_now r5) p ^^^ ((1 : Int64) <<< ((z32 (t : Int)).toInt64 &&& 63))) p)) 64 : Nat) : Int) = _
        unfold vp_updL
        rw [if_pos rfl]
      by_cases g : (decide (s_ros r p t ≠ w) && (!s_abs r p t && !s_cvs r p t)) = true
      · have g9 := g
        rw [Bool.and_eq_true, Bool.and_eq_true, Bool.not_eq_true', Bool.not_eq_true'] at g9
        have hz := s_fl_in hv.1 c (t := t) (by omega)
        have hzz := s_fl_z r p t
        have cl : s_cnt (s_rsN (q_up r (6 + 3 * (p : Int) + 0) (s_fl r p t)) p) 42 ≤ 42 := s_cnt_le _ _
        refine w_yes (v := (s_cnt (s_rsN (q_up r (6 + 3 * (p : Int) + 0) (s_fl r p t)) p) 42 : Nat)) (r' := q_up r (6 + 3 * (p : Int) + 0) (s_fl r p t)) (fun S S1 hr a1 a3 => ?_) (by omega) ((v_ros hv (by omega) c hz).mono (by omega)) (w_sum_up (by omega) (fun q hq => by omega)) (w_rs_fl hv c.2 (by omega) g9.2.1 g9.2.2)
        obtain ⟨x1, -, -, x4, x5⟩ := hr.2.2.2.2.1 p c.2
        have hnew : x_rel (sST_rosters (CM_now S) (vp_updL (ST_rosters (CM_now S)) p (ST_rosters (CM_now S) p ^^^ ((1 : Int64) <<< ((z32 (t : Int)).toInt64 &&& 63))))) (q_up r (6 + 3 * (p : Int) + 0) (s_fl r p t)) := by
          rw [x1, ← hzz]
          exact x_rel_ros hr hv.1 c.2
        have cnt : s_cnt (b6 (ST_rosters (CM_now S) p ^^^ ((1 : Int64) <<< ((z32 (t : Int)).toInt64 &&& 63)))) 64 = s_cnt (s_rsN (q_up r (6 + 3 * (p : Int) + 0) (s_fl r p t)) p) 42 := by
          rw [x1, ← hzz]
          apply s_cnt64
          intro i hi
          by_cases e : i < 42
          · rw [decide_eq_true e, Bool.true_and]
            unfold s_rsN s_ros
            rw [q_up_eq rfl, Int.toNat_natCast]
          · rw [decide_eq_false e, Bool.false_and]
            exact b6_range hz (by omega)
        refine ⟨_, ?_, hnew⟩
        show f_X2_roster S (z32 p) (z32 t) (z_B w) = _
        rw [es S hr, en S hr, z_some, n_allowed, z_some, if_pos g, z_ir, a1, z_some, a3, pc_bitCount, cnt]
        rfl
      · refine w_no w_is (fun S hr => ?_)
        show f_X2_roster S (z32 p) (z32 t) (z_B w) = _
        rw [es S hr, en S hr, z_some, n_allowed, z_some, if_neg g, z_il]
    · refine w_no w_ia (fun S hr => ?_)
      show f_X2_roster S (z32 x) (z32 y) (z_B w) = _
      unfold f_X2_roster
      rw [n_person hr hv.1.1 hx, z_some, if_pos c, z_ir, e1, z_some, if_neg d, z_il]
  · refine w_no w_io (fun S hr => ?_)
    show f_X2_roster S (z32 x) (z32 y) (z_B w) = _
    unfold f_X2_roster
    rw [n_person hr hv.1.1 hx, z_some, if_neg c, z_il]
theorem w_absent {K : Int} {x y : Int} (hx : rng x) (hy : rng y) : w_call K (fun S => f_X2_absent S (z32 x) (z32 y)) := by
  intro r hv
  have h3 := hv.1.1.1
  have h4 := hv.1.1.2.1
  have e1 : f_X2_needInRange (z32 y) 0 41 = _ := n_range hy (l := 0) (h := 41) ⟨by omega, by omega⟩ ⟨by omega, by omega⟩
  by_cases c : 0 ≤ x ∧ x < r 3
  · by_cases d : 0 ≤ y ∧ y ≤ 41
    · obtain ⟨p, rfl⟩ : ∃ p : Nat, x = p := ⟨x.toNat, by omega⟩
      obtain ⟨t, rfl⟩ : ∃ t : Nat, y = t := ⟨y.toNat, by omega⟩
      by_cases e : (s_ros r p t && (!s_abs r p t && decide (r 4 < 30))) = true
      · have e0 := e
        rw [Bool.and_eq_true, Bool.and_eq_true, decide_eq_true_iff, Bool.not_eq_true'] at e
        refine w_yes (v := r 4) (r' := s_ad r p t) (fun S S1 hr a1 a3 => ?_) (by omega) ((v_ad hv e.2.2 c (by omega) e.2.1).mono (by omega)) (w_sum_ad h4.1 h3.2) (w_rs_ad h4.1 h3 e.1)
        obtain ⟨S2, b1, b2⟩ := x_enterAbsence (p := p) (t := t) hr hv e.2.2 c.2 (by omega)
        refine ⟨S2, ?_, b2⟩
        show f_X2_absent S (z32 p) (z32 t) = _
        unfold f_X2_absent
        rw [n_person hr hv.1.1 hx, z_some, if_pos c, z_ir, e1, z_some, if_pos d, z_ir, n_canBeAbsent hr hv.1 c.2 (by omega), z_some, n_allowed, z_some, if_pos e0, z_ir, a1, z_some, a3, b1, z_some]
        rfl
      · refine w_no w_is (fun S hr => ?_)
        show f_X2_absent S (z32 p) (z32 t) = _
        unfold f_X2_absent
        rw [n_person hr hv.1.1 hx, z_some, if_pos c, z_ir, e1, z_some, if_pos d, z_ir, n_canBeAbsent hr hv.1 c.2 (by omega), z_some, n_allowed, z_some, if_neg e, z_il]
    · refine w_no w_ia (fun S hr => ?_)
      show f_X2_absent S (z32 x) (z32 y) = _
      unfold f_X2_absent
      rw [n_person hr hv.1.1 hx, z_some, if_pos c, z_ir, e1, z_some, if_neg d, z_il]
  · refine w_no w_io (fun S hr => ?_)
    show f_X2_absent S (z32 x) (z32 y) = _
    unfold f_X2_absent
    rw [n_person hr hv.1.1 hx, z_some, if_neg c, z_il]
theorem w_bid {K : Int} {x y w : Int} (hx : rng x) (hy : rng y) (hw : rng w) : w_call K (fun S => f_X2_bid S (z32 x) (z32 y) (z32 w)) := by
  intro r hv
  have h3 := hv.1.1.1
  have h4 := hv.1.1.2.1
  have h2 := hv.1.2.2.2.2.2
  have es : ∀ S : CM, x_rel (CM_now S) r → ST_settings (CM_now S) (2 : Int32).toNatClampNeg = z32 (r 2) := fun S hr => hr.1 2 (by omega)
  have e1 : f_X2_needInRange (z32 w) 0 (z32 (r 2)) = _ := n_range hw (l := 0) (h := r 2) ⟨by omega, by omega⟩ ⟨by omega, by omega⟩
  by_cases c : 0 ≤ x ∧ x < r 3
  · by_cases d : 0 ≤ y ∧ y < r 4
    · by_cases e : 0 ≤ w ∧ w ≤ r 2
      · obtain ⟨p, rfl⟩ : ∃ p : Nat, x = p := ⟨x.toNat, by omega⟩
        obtain ⟨a, rfl⟩ : ∃ a : Nat, y = a := ⟨y.toNat, by omega⟩
        by_cases g : r (30 + 13 * (a : Int) + 2) = 0 ∧ r (30 + 13 * (a : Int) + 0) ≠ (p : Int)
        · have hvn := v_bid hv d c (z := w) (by omega) g.1
          have cl : s_cnt (s_nb8 (q_up r (30 + 13 * (a : Int) + (5 + (p : Int))) w) a) 8 ≤ 8 := s_cnt_le _ _
          refine w_yes (v := (s_cnt (s_nb8 (q_up r (30 + 13 * (a : Int) + (5 + (p : Int))) w) a) 8 : Nat)) (r' := q_up r (30 + 13 * (a : Int) + (5 + (p : Int))) w) (fun S S1 hr a1 a3 => ?_) (by omega) (hvn.mono (by omega)) (w_sum_up (by omega) (fun q hq => by omega)) (w_rs_up (by omega) (by omega) (fun q hq => by omega) (fun c hc => by omega))
          have hxn := x_rel_bid (z := w) hr hv.1 d.2 (show p < 8 by omega)
          refine ⟨_, ?_, hxn⟩
          show f_X2_bid S (z32 p) (z32 a) (z32 w) = _
          unfold f_X2_bid
          rw [n_person hr hv.1.1 hx, z_some, if_pos c, z_ir, n_absence hr hv.1.1 hy, z_some, if_pos d, z_ir, if_pos (show q_in 2 3 = true by decide), es S hr, e1, z_some, if_pos e, z_ir, n_canBid hr hv.1.1 hx d.2, z_some, n_allowed, z_some, decide_eq_true g, if_pos rfl, z_ir, a1, z_some, x_bidIndex, z_some]
          simp (disch := omega) only [z_in, if_true, z_lets, z32_clamp, Int.toNat_natCast]
          rw [a3]
          have := x_bidsFor hxn hvn (a := a) (by rw [q_up_ne (by omega)]; exact d.2)
          show ((f_X1_bidsFor (sST_bids (CM_now S) (upd (ST_bids (CM_now S)) (8 * a + p) (z32 w))) (z32 (a : Int))).bind _) = _
          rw [this, z_some]
        · refine w_no w_is (fun S hr => ?_)
          show f_X2_bid S (z32 p) (z32 a) (z32 w) = _
          unfold f_X2_bid
          rw [n_person hr hv.1.1 hx, z_some, if_pos c, z_ir, n_absence hr hv.1.1 hy, z_some, if_pos d, z_ir, if_pos (show q_in 2 3 = true by decide), es S hr, e1, z_some, if_pos e, z_ir, n_canBid hr hv.1.1 hx d.2, z_some, n_allowed, z_some, decide_eq_false g, if_neg (by decide), z_il]
      · refine w_no w_ia (fun S hr => ?_)
        show f_X2_bid S (z32 x) (z32 y) (z32 w) = _
        unfold f_X2_bid
        rw [n_person hr hv.1.1 hx, z_some, if_pos c, z_ir, n_absence hr hv.1.1 hy, z_some, if_pos d, z_ir, if_pos (show q_in 2 3 = true by decide), es S hr, e1, z_some, if_neg e, z_il]
    · refine w_no w_io (fun S hr => ?_)
      show f_X2_bid S (z32 x) (z32 y) (z32 w) = _
      unfold f_X2_bid
      rw [n_person hr hv.1.1 hx, z_some, if_pos c, z_ir, n_absence hr hv.1.1 hy, z_some, if_neg d, z_il]
  · refine w_no w_io (fun S hr => ?_)
    show f_X2_bid S (z32 x) (z32 y) (z32 w) = _
    unfold f_X2_bid
    rw [n_person hr hv.1.1 hx, z_some, if_neg c, z_il]
theorem w_takeBack {K : Int} {x y : Int} (hx : rng x) (hy : rng y) : w_call K (fun S => f_X2_takeBack S (z32 x) (z32 y)) := by
  intro r hv
  have h3 := hv.1.1.1
  have h4 := hv.1.1.2.1
  by_cases c : 0 ≤ x ∧ x < r 3
  · by_cases d : 0 ≤ y ∧ y < r 4
    · obtain ⟨p, rfl⟩ : ∃ p : Nat, x = p := ⟨x.toNat, by omega⟩
      obtain ⟨a, rfl⟩ : ∃ a : Nat, y = a := ⟨y.toNat, by omega⟩
      have i0 := hv.1.1.2.2.2 a (5 + p) (by omega) (by omega)
      have i1 := ((hv.2.2.1 a d).2.2.2.2 p (by omega)).1
      have l9 : (z32 (r (30 + 13 * (a : Int) + (5 + (p : Int)))) = -1) ↔ (r (30 + 13 * (a : Int) + (5 + (p : Int))) = -1) := by
        rw [show (-1 : Int32) = z32 (-1) by decide]
        exact z32_eq i0 ⟨by omega, by omega⟩
      by_cases e : r (30 + 13 * (a : Int) + (5 + (p : Int))) = -1
      · refine w_no w_is (fun S hr => ?_)
        show f_X2_takeBack S (z32 p) (z32 a) = _
        unfold f_X2_takeBack
        rw [n_person hr hv.1.1 hx, z_some, if_pos c, z_ir, n_absence hr hv.1.1 hy, z_some, if_pos d, z_ir, x_bidIndex, z_some, x_bidAt hr hv.1 (by omega) d.2]
        unfold s_bid
        rw [if_pos (z_inT ⟨by omega, by omega, by omega⟩)]
        simp only [l9]
        rw [if_pos e]
        rfl
      · have hst : r (30 + 13 * (a : Int) + 2) = 0 := by
          refine Classical.byContradiction fun z => e ?_
          exact ((hv.2.2.1 a d).2.2.2.2 p (by omega)).2.2 z
        refine w_yes (v := r (30 + 13 * (a : Int) + (5 + (p : Int)))) (r' := q_up r (30 + 13 * (a : Int) + (5 + (p : Int))) (-1)) (fun S S1 hr a1 a3 => ?_) (by omega) ((v_bid hv d c (z := -1) (by omega) hst).mono (by omega)) (w_sum_up (by omega) (fun q hq => by omega)) (w_rs_up (by omega) (by omega) (fun q hq => by omega) (fun c hc => by omega))
        have hxn := x_rel_bid (z := -1) hr hv.1 d.2 (show p < 8 by omega)
        refine ⟨_, ?_, hxn⟩
        show f_X2_takeBack S (z32 p) (z32 a) = _
        unfold f_X2_takeBack
        rw [n_person hr hv.1.1 hx, z_some, if_pos c, z_ir, n_absence hr hv.1.1 hy, z_some, if_pos d, z_ir, x_bidIndex, z_some, x_bidAt hr hv.1 (by omega) d.2]
        unfold s_bid
        rw [if_pos (z_inT ⟨by omega, by omega, by omega⟩)]
        simp only [l9]
        rw [if_neg e]
        unfold f_X2_takeBack_34
        show ((f_X2_save S).bind _) = _
        rw [a1, z_some, a3, x_bidAt hr hv.1 (by omega) d.2]
        simp (disch := omega) only [z_in, if_true, z_lets, z32_clamp, Int.toNat_natCast]
        rfl
    · refine w_no w_io (fun S hr => ?_)
      show f_X2_takeBack S (z32 x) (z32 y) = _
      unfold f_X2_takeBack
      rw [n_person hr hv.1.1 hx, z_some, if_pos c, z_ir, n_absence hr hv.1.1 hy, z_some, if_neg d, z_il]
  · refine w_no w_io (fun S hr => ?_)
    show f_X2_takeBack S (z32 x) (z32 y) = _
    unfold f_X2_takeBack
    rw [n_person hr hv.1.1 hx, z_some, if_neg c, z_il]
theorem w_cover {K : Int} (hK : K < 800000000) {x : Int} (hx : rng x) : w_call K (fun S => f_X2_cover S (z32 x)) := by
  intro r hv
  have h3 := hv.1.1.1
  have h4 := hv.1.1.2.1
  have hK0 : 0 ≤ K := by have := hv.2.1.2; omega
  by_cases c : 0 ≤ x ∧ x < r 4
  · obtain ⟨a, rfl⟩ : ∃ a : Nat, x = a := ⟨x.toNat, by omega⟩
    have hw := s_who_in hv.1 a
    have l9 : (z32 (s_who r a) = -1) ↔ (s_who r a = -1) := by
      rw [show (-1 : Int32) = z32 (-1) by decide]
      exact z32_eq ⟨by omega, by omega⟩ ⟨by omega, by omega⟩
    by_cases d : s_who r a = -1
    · refine w_no w_is (fun S hr => ?_)
      show f_X2_cover S (z32 a) = _
      unfold f_X2_cover
      rw [n_absence hr hv.1.1 hx, z_some, if_pos c, z_ir, x_nextCoverer hr hv.1 c.2, z_some]
      simp only [l9]
      rw [if_pos d]
      rfl
    · refine w_yes (v := s_who r a) (r' := s_cover r a) (fun S S1 hr a1 a3 => ?_) (by omega) ((v_cover hv (by omega) hK0 c).mono (by omega)) (w_sum_cover hv.1 c) (w_rs_cover hv c)
      obtain ⟨S2, b1, b2⟩ := x_coverOpen hr hv.1 c.2
      have e3 : ST_coverers S2 a = z32 (s_who r a) := by
        have e := (b2.2.2.2.2.2 a (by rw [s_cover_4 hv.1 c (by omega)]; exact c.2)).2.2.2.1
        rw [e]
        congr 1
        have ho := (hv.1.2.2.1 a c).1
        unfold s_cover
        rw [if_neg d, s_cvr_ab (by omega) (by omega) (by omega) (by omega) (by omega), if_pos rfl, if_neg (by decide), if_neg (by decide), if_pos rfl]
      refine ⟨S2, ?_, b2⟩
      show f_X2_cover S (z32 a) = _
      unfold f_X2_cover
      rw [n_absence hr hv.1.1 hx, z_some, if_pos c, z_ir, x_nextCoverer hr hv.1 c.2, z_some]
      simp only [l9]
      rw [if_neg d]
      unfold f_X2_cover_22
      show ((f_X2_save S).bind _) = _
      rw [a1, z_some, a3, b1, z_some]
      show (if q_in (z32 (a : Int)) 30 = true then some (Sum.inr (ST_coverers S2 (z32 (a : Int)).toNatClampNeg, sCM_now S1 S2)) else none) = _
      rw [if_pos (z_inT ⟨by omega, by omega, by omega⟩), z32_clamp (by omega), Int.toNat_natCast, e3]
  · refine w_no w_io (fun S hr => ?_)
    show f_X2_cover S (z32 x) = _
    unfold f_X2_cover
    rw [n_absence hr hv.1.1 hx, z_some, if_neg c, z_il]
theorem w_coverAll {K : Int} (hK : K < 800000000) : w_call K (fun S => (f_X2_coverAll S).bind fun r => some (.inr (r.1, r.2))) := by
  intro r hv
  have h4 := hv.1.1.2.1
  have hK0 : 0 ≤ K := by have := hv.2.1.2; omega
  have hle := s_alln_le r (r 4).toNat
  refine w_yes (v := (s_alln r (r 4).toNat : Nat)) (r' := s_all r (r 4).toNat) (fun S S1 hr a1 a3 => ?_) (by omega) ((v_all hv (by omega) hK0 (r 4).toNat (by omega)).1.mono (by omega)) (w_sum_all hv (by omega) hK0 _ (by omega)) (fun h => w_rs_all hv (by omega) hK0 h _ (by omega))
  obtain ⟨S2, b1, b2⟩ := x_coverAllOpen hr hv (by omega) hK0
  refine ⟨S2, ?_, b2⟩
  show ((f_X2_coverAll S).bind _) = _
  unfold f_X2_coverAll
  rw [a1, z_some, a3, b1, z_some]
  rfl
theorem w_handOver {K : Int} (hK : K < 800000000) {x y : Int} (hx : rng x) (hy : rng y) : w_call K (fun S => f_X2_handOver S (z32 x) (z32 y)) := by
  intro r hv
  have h3 := hv.1.1.1
  have h4 := hv.1.1.2.1
  have hK0 : 0 ≤ K := by have := hv.2.1.2; omega
  have bad : ∀ S a b, f_X2_handOver_38 S a b 0 = some (.inl "java/lang/IllegalStateException") := fun S a b => rfl
  by_cases c : 0 ≤ x ∧ x < r 4
  · by_cases d : 0 ≤ y ∧ y < r 3
    · obtain ⟨a, rfl⟩ : ∃ a : Nat, x = a := ⟨x.toNat, by omega⟩
      obtain ⟨p, rfl⟩ : ∃ p : Nat, y = p := ⟨y.toNat, by omega⟩
      have hwn := s_wnf_in r p a
      have l9 : (z32 (s_wnf r p a) = 0) ↔ (s_wnf r p a = 0) := z32_eq (y := 0) ⟨by omega, by omega⟩ ⟨by omega, by omega⟩
      by_cases e : s_cov r a = true
      · have hct := s_cov_t.mp e
        have hown := s_wnf_own hv c hct
        by_cases g : s_wnf r p a = 0
        · have hne : ¬ r (30 + 13 * (a : Int) + 3) = p := fun z => hown (by rw [z]; exact g)
          have hb := (hv.2.2.1 a c).2.1 hct
          have hpt := (hv.2.2.1 a c).2.2.2.1
          have hsh := (hv.1.2.2.1 a c).2
          have hvn := v_ho hv (by omega) hK0 c d hct (s_wnf_cvs hsh g)
          obtain ⟨b, hb2⟩ : ∃ b : Nat, r (30 + 13 * (a : Int) + 3) = b := ⟨(r (30 + 13 * (a : Int) + 3)).toNat, by omega⟩
          obtain ⟨t, ht2⟩ : ∃ t : Nat, r (30 + 13 * (a : Int) + 1) = t := ⟨(r (30 + 13 * (a : Int) + 1)).toNat, by omega⟩
          rw [hb2] at hvn hb
          refine w_yes (v := b) (r' := s_ho r a b p (r (30 + 13 * (a : Int) + 4))) (fun S S1 hr a1 a3 => ?_) (by omega) (hvn.mono (by omega)) (w_sum_ho (by omega) (by omega) (by omega) (by omega)) (w_rs_ho hv c d hct hb2 (w_wnf_ros hsh g))
          obtain ⟨S2, b1, b2⟩ := x_moveCover (b := b) (t := t) (pts := r (30 + 13 * (a : Int) + 4)) hr hv c.2 d.2 hct hb2 (by omega) ht2 rfl
          refine ⟨S2, ?_, b2⟩
          show f_X2_handOver S (z32 a) (z32 p) = _
          unfold f_X2_handOver
          rw [n_absence hr hv.1.1 hx, z_some, if_pos c, z_ir, n_person hr hv.1.1 hy, z_some, if_pos d, z_ir, n_isCovered hr hv.1.1 c.2, z_some, x_hindrance hr hv.1 d.2 c.2, z_some]
          simp only [l9]
          rw [e, z_ift, if_neg (fun z => z g)]
          unfold f_X2_handOver_38
          show ((f_X2_save S).bind _) = _
          rw [a1, z_some, a3, if_pos (z_inT ⟨by omega, by omega, by omega⟩)]
          show ((f_X1_moveCover (CM_now S) (z32 (a : Int)) (z32 (p : Int))).bind fun r11 => some (Sum.inr (ST_coverers (CM_now S) (z32 (a : Int)).toNatClampNeg, sCM_now S1 r11))) = _
          rw [b1, z_some, z32_clamp (by omega), Int.toNat_natCast, (hr.2.2.2.2.2 a c.2).2.2.2.1, hb2]
        · refine w_no w_is (fun S hr => ?_)
          show f_X2_handOver S (z32 a) (z32 p) = _
          unfold f_X2_handOver
          rw [n_absence hr hv.1.1 hx, z_some, if_pos c, z_ir, n_person hr hv.1.1 hy, z_some, if_pos d, z_ir, n_isCovered hr hv.1.1 c.2, z_some, x_hindrance hr hv.1 d.2 c.2, z_some]
          simp only [l9]
          rw [e, z_ift, if_pos g, bad]
      · refine w_no w_is (fun S hr => ?_)
        show f_X2_handOver S (z32 a) (z32 p) = _
        unfold f_X2_handOver
        rw [n_absence hr hv.1.1 hx, z_some, if_pos c, z_ir, n_person hr hv.1.1 hy, z_some, if_pos d, z_ir, n_isCovered hr hv.1.1 c.2, z_some, eq_false_of_ne_true e, if_pos (by decide), bad]
    · refine w_no w_io (fun S hr => ?_)
      show f_X2_handOver S (z32 x) (z32 y) = _
      unfold f_X2_handOver
      rw [n_absence hr hv.1.1 hx, z_some, if_pos c, z_ir, n_person hr hv.1.1 hy, z_some, if_neg d, z_il]
  · refine w_no w_io (fun S hr => ?_)
    show f_X2_handOver S (z32 x) (z32 y) = _
    unfold f_X2_handOver
    rw [n_absence hr hv.1.1 hx, z_some, if_neg c, z_il]
theorem w_giveUp {K : Int} {x : Int} (hx : rng x) : w_call K (fun S => f_X2_giveUp S (z32 x)) := by
  intro r hv
  have h3 := hv.1.1.1
  have h4 := hv.1.1.2.1
  have bad : ∀ S a, f_X2_giveUp_22 S a 0 = some (.inl "java/lang/IllegalStateException") := fun S a => rfl
  by_cases c : 0 ≤ x ∧ x < r 4
  · obtain ⟨a, rfl⟩ : ∃ a : Nat, x = a := ⟨x.toNat, by omega⟩
    have i2 := hv.1.1.2.2.2 a 2 (by omega) (by omega)
    have l9 : (z32 (r (30 + 13 * (a : Int) + 2)) = 0) ↔ (r (30 + 13 * (a : Int) + 2) = 0) := z32_eq (y := 0) i2 ⟨by omega, by omega⟩
    by_cases d : r (30 + 13 * (a : Int) + 2) = 0
    · have cl : s_cnt (s_nb8 r a) 8 ≤ 8 := s_cnt_le _ _
      refine w_yes (v := (s_cnt (s_nb8 r a) 8 : Nat)) (r' := s_gu r a) (fun S S1 hr a1 a3 => ?_) (by omega) ((v_gu hv c d).mono (by omega)) (w_sum_gu (by omega) h3.2) (w_rs_gu hv c d)
      have x3 := (hr.2.2.2.2.2 a c.2).2.2.1
      obtain ⟨B, b1, b2⟩ := x_dropBids (S := sST_statuses (CM_now S) (upd (ST_statuses (CM_now S)) a (z32 3))) (a := a) (by omega)
      refine ⟨_, ?_, x_rel_gu hr hv.1 c.2 d b2⟩
      show f_X2_giveUp S (z32 a) = _
      unfold f_X2_giveUp
      rw [n_absence hr hv.1.1 hx, z_some, if_pos c, z_ir, if_pos (z_inT ⟨by omega, by omega, by omega⟩), z32_clamp (by omega), Int.toNat_natCast, x3]
      simp only [l9]
      rw [if_neg (fun z => z d)]
      unfold f_X2_giveUp_22
      show ((f_X2_save S).bind _) = _
      rw [a1, z_some, a3, x_bidsFor hr hv c.2, z_some, if_pos (z_inT ⟨by omega, by omega, by omega⟩), z32_clamp (by omega), Int.toNat_natCast]
      show ((f_X1_dropBids (sST_statuses (CM_now S) (upd (ST_statuses (CM_now S)) a (z32 3))) (z32 (a : Int))).bind _) = _
      rw [b1, z_some]
      rfl
    · refine w_no w_is (fun S hr => ?_)
      have x3 := (hr.2.2.2.2.2 a c.2).2.2.1
      show f_X2_giveUp S (z32 a) = _
      unfold f_X2_giveUp
      rw [n_absence hr hv.1.1 hx, z_some, if_pos c, z_ir, if_pos (z_inT ⟨by omega, by omega, by omega⟩), z32_clamp (by omega), Int.toNat_natCast, x3]
      simp only [l9]
      rw [if_pos d, bad]
  · refine w_no w_io (fun S hr => ?_)
    show f_X2_giveUp S (z32 x) = _
    unfold f_X2_giveUp
    rw [n_absence hr hv.1.1 hx, z_some, if_neg c, z_il]
