/-! the calls that write, on -/
theorem n_canBeAbsent {S : ST} {r : Int → Int} (hx : x_rel S r) (hv : v_r r) {p t : Nat} (hp : (p : Int) < r 3) (ht : t < 42) : f_X1_canBeAbsent S (z32 p) (z32 t) = some (z_B (s_ros r p t && (!s_abs r p t && decide (r 4 < 30)))) := by
  have h3 := hv.1.1
  have h4 := hv.1.2.1
  obtain ⟨x1, -, -, x4, -⟩ := hx.2.2.2.2.1 p hp
  have hb : b6 (ST_rosters S p) t = s_ros r p t := by
    rw [x1]
    unfold s_ros
    rw [Int.toNat_natCast]
  unfold f_X1_canBeAbsent
  have l4 : (30 ≤ z32 (r 4)) ↔ (30 ≤ r 4) := z32_le (x := 30) ⟨by omega, by omega⟩ ⟨by omega, by omega⟩
  rw [hx.2.2.1]
  simp only [l4]
  simp (disch := omega) only [z_in, if_true, z_lets, z32_clamp, Int.toNat_natCast, x_has, b6_and, b6_xor, b6_m1 t (by omega), hb, x4 t (by omega), decide_eq_true (show t < 42 by omega), Bool.true_and]
  by_cases c : r 4 < 30
  · rw [if_neg (show ¬ 30 ≤ r 4 by omega), decide_eq_true c]
    cases s_ros r p t <;> cases s_abs r p t <;> rfl
  · rw [if_pos (show 30 ≤ r 4 by omega), decide_eq_false c]
    cases s_ros r p t <;> cases s_abs r p t <;> rfl
theorem m_mayBeAbsent {M : MD} {r : Int → Int} (h : q_row (MD_now M) r) (hv : v_b r) {p t : Int} (hp : 0 ≤ p ∧ p < 8) (ht : 0 ≤ t ∧ t < 42) : f_X3_mayBeAbsent M (z32 p) (z32 t) = some (z_B (s_ros r p t && (!s_abs r p t && decide (r 4 < 30)))) := by
  have h4 := hv.2.1
  have l3 : (0 ≤ lg_cmp (MD_now M (4 : Int32).toNatClampNeg) 30) ↔ (30 ≤ r 4) := by
    rw [show (4 : Int32) = z32 4 from rfl, h.at (by omega)]
    exact (lg_cmp_ge _ _).trans (z64_le (x := 30) (by omega) (by omega))
  unfold f_X3_mayBeAbsent
  rw [m_isRos h hp (by omega), z_some, m_isAbsent h hv.2.2.2 h4 (by omega) (by omega), z_some]
  simp only [l3]
  by_cases c : r 4 < 30
  · rw [if_neg (show ¬ 30 ≤ r 4 by omega), decide_eq_true c]
    cases s_ros r p t <;> cases s_abs r p t <;> rfl
  · rw [if_pos (show 30 ≤ r 4 by omega), decide_eq_false c]
    cases s_ros r p t <;> cases s_abs r p t <;> rfl
theorem sc_absent {K : Int} {S : CM} {M : MD} (h : s_inv K S M) {x y : Int} (hx : rng x) (hy : rng y) {code : String → Option Int32} (k1 : code "java/lang/IndexOutOfBoundsException" = some 1) (k2 : code "java/lang/IllegalArgumentException" = some 2) (k3 : code "java/lang/IllegalStateException" = some 3) : s_res K S M (f_X2_absent S (z32 x) (z32 y)) (f_X3_absent M (z32 x) (z32 y)) code := by
  obtain ⟨⟨r, hq, hv, hr⟩, hs, ht⟩ := h
  have h3 := hv.1.1.1
  have h4 := hv.1.1.2.1
  have e1 : f_X2_needInRange (z32 y) 0 41 = _ := n_range hy (l := 0) (h := 41) ⟨by omega, by omega⟩ ⟨by omega, by omega⟩
  have e2 : f_X3_isIn ((z32 y).toInt64) 0 41 = _ := m_range hy (l := 0) (h := 41) ⟨by omega, by omega⟩ ⟨by omega, by omega⟩
  have thr : ∀ k : Int32, k ≠ 0 → f_X3_shiftError M (z32 x) (z32 y) 0 = some k → f_X3_absent M (z32 x) (z32 y) = some (0, sMD_thrown M k) := by
    intro k hk hk2
    unfold f_X3_absent
    rw [hk2, z_some]
    rw [z_lets, z_tk hk]
  have er1 : ¬ (0 ≤ x ∧ x < r 3) → f_X3_shiftError M (z32 x) (z32 y) 0 = some 1 := by
    intro c
    unfold f_X3_shiftError
    rw [m_person_ hq hv.1.1 hx, z_some, decide_eq_false c, z_inf]
  have er2 : (0 ≤ x ∧ x < r 3) → ¬ (0 ≤ y ∧ y ≤ 41) → f_X3_shiftError M (z32 x) (z32 y) 0 = some 2 := by
    intro c d
    unfold f_X3_shiftError
    rw [m_person_ hq hv.1.1 hx, z_some, decide_eq_true c, z_int, e2, z_some, decide_eq_false d, z_inf]
  have er3 : (0 ≤ x ∧ x < r 3) → (0 ≤ y ∧ y ≤ 41) → f_X3_shiftError M (z32 x) (z32 y) 0 = some (if (s_ros r x y && (!s_abs r x y && decide (r 4 < 30))) = true then 0 else 3) := by
    intro c d
    unfold f_X3_shiftError
    rw [m_person_ hq hv.1.1 hx, z_some, decide_eq_true c, z_int, e2, z_some, decide_eq_true d, z_int, if_neg (by decide), m_mayBeAbsent hq hv.1.1 (by omega) (by omega), z_some]
    cases (s_ros r x y && (!s_abs r x y && decide (r 4 < 30))) <;> rfl
  unfold f_X2_absent
  rw [n_person hr hv.1.1 hx, z_some]
  by_cases c : 0 ≤ x ∧ x < r 3
  · rw [if_pos c, z_ir, e1, z_some]
    by_cases d : 0 ≤ y ∧ y ≤ 41
    · have er := er3 c d
      rw [if_pos d, z_ir]
      obtain ⟨p, rfl⟩ : ∃ p : Nat, x = p := ⟨x.toNat, by omega⟩
      obtain ⟨t, rfl⟩ : ∃ t : Nat, y = t := ⟨y.toNat, by omega⟩
      rw [n_canBeAbsent hr hv.1 c.2 (by omega), z_some, n_allowed, z_some]
      by_cases e : (s_ros r p t && (!s_abs r p t && decide (r 4 < 30))) = true
      · rw [if_pos e, z_ir]
        rw [if_pos e] at er
        rw [Bool.and_eq_true, Bool.and_eq_true, decide_eq_true_iff, Bool.not_eq_true'] at e
        obtain ⟨S1, k', st', a1, a2, a3, a4, a5⟩ := xm_save (M := sMD_thrown M 0) hq hr hv hs
        obtain ⟨S2, b1, b2⟩ := x_enterAbsence (p := p) (t := t) hr hv e.2.2 c.2 (by omega)
        obtain ⟨f', c1, c2⟩ := m_adds (M := sMD_states (sMD_kept (sMD_thrown M 0) k') st') (p := p) (t := t) hq ⟨h4.1, e.2.2⟩ (by omega) (by omega)
        refine .inr ⟨z32 (r 4), sCM_now S1 S2, sMD_now (sMD_states (sMD_kept (sMD_thrown M 0) k') st') f', ?_, ?_, rfl, ?_⟩
        · rw [a1, z_some, a3, b1, z_some]
          rfl
        · unfold f_X3_absent
          rw [er, z_some]
          rw [z_lets, z_t0, a2, z_some, c1, z_some]
        · refine s_inv_mk _ c2 (v_ad hv e.2.2 c (by omega) e.2.1) b2 a5 ?_
          rw [show CM_or (sCM_now S1 S2) = CM_or S1 from rfl, a4]
          exact ht
      · rw [if_neg e, z_il]
        rw [if_neg e] at er
        rw [thr 3 (by decide) er]
        exact .inl ⟨_, 3, 0, rfl, rfl, k3, by decide⟩
    · rw [if_neg d, z_il, thr 2 (by decide) (er2 c d)]
      exact .inl ⟨_, 2, 0, rfl, rfl, k2, by decide⟩
  · rw [if_neg c, z_il, thr 1 (by decide) (er1 c)]
    exact .inl ⟨_, 1, 0, rfl, rfl, k1, by decide⟩
theorem n_canBid {S : ST} {r : Int → Int} (hx : x_rel S r) (hv : v_b r) {p : Int} (hp : rng p) {a : Nat} (ha : (a : Int) < r 4) : f_X1_canBid S (z32 p) (z32 a) = some (z_B (decide (r (30 + 13 * (a : Int) + 2) = 0 ∧ r (30 + 13 * (a : Int) + 0) ≠ p))) := by
  unfold rng at hp
  have h4 := hv.2.1
  have i0 := hv.2.2.2 a 0 (by omega) (by omega)
  have i2 := hv.2.2.2 a 2 (by omega) (by omega)
  obtain ⟨x1, -, x3, -⟩ := hx.2.2.2.2.2 a ha
  unfold f_X1_canBid
  simp (disch := omega) only [z32_lit, z_in, if_true, z32_clamp, Int.toNat_natCast, x1, x3, z32_eq]
  by_cases c : r (30 + 13 * (a : Int) + 2) = 0
  · rw [if_neg (fun z => z c)]
    by_cases d : r (30 + 13 * (a : Int) + 0) = p
    · rw [if_pos d, decide_eq_false (fun z => z.2 d)]; rfl
    · rw [if_neg d, decide_eq_true ⟨c, d⟩]; rfl
  · rw [if_pos c, decide_eq_false (fun z => c z.1)]; rfl
theorem m_mayBid {M : MD} {r : Int → Int} (h : q_row (MD_now M) r) (hv : v_b r) {p a : Int} (hp : rng p) (ha : 0 ≤ a ∧ a < r 4) : f_X3_mayBid M (z32 p) (z32 a) = some (z_B (decide (r (30 + 13 * a + 2) = 0 ∧ r (30 + 13 * a + 0) ≠ p))) := by
  unfold rng at hp
  have h4 := hv.2.1
  have i0 := hv.2.2.2 a 0 (by omega) (by omega)
  have i2 := hv.2.2.2 a 2 (by omega) (by omega)
  unfold f_X3_mayBid
  simp (disch := omega) only [z32_lit, m_ofA h, z_some, z32_eq]
  by_cases c : r (30 + 13 * a + 2) = 0
  · rw [if_neg (fun z => z c)]
    by_cases d : r (30 + 13 * a + 0) = p
    · rw [if_pos d, decide_eq_false (fun z => z.2 d)]; rfl
    · rw [if_neg d, decide_eq_true ⟨c, d⟩]; rfl
  · rw [if_pos c, decide_eq_false (fun z => c z.1)]; rfl
theorem sc_bid {K : Int} {S : CM} {M : MD} (h : s_inv K S M) {x y w : Int} (hx : rng x) (hy : rng y) (hw : rng w) {code : String → Option Int32} (k1 : code "java/lang/IndexOutOfBoundsException" = some 1) (k2 : code "java/lang/IllegalArgumentException" = some 2) (k3 : code "java/lang/IllegalStateException" = some 3) : s_res K S M (f_X2_bid S (z32 x) (z32 y) (z32 w)) (f_X3_bid M (z32 x) (z32 y) (z32 w)) code := by
  obtain ⟨⟨r, hq, hv, hr⟩, hs, ht⟩ := h
  have h3 := hv.1.1.1
  have h4 := hv.1.1.2.1
  have h2 := hv.1.2.2.2.2.2
  have thr : ∀ k : Int32, k ≠ 0 → ∀ a b c, f_X3_bid_47 M a b c k = some (0, sMD_thrown M k) := fun k hk a b c => by
    unfold f_X3_bid_47
    rw [z_lets, z_tk hk]
  have es : ST_settings (CM_now S) (2 : Int32).toNatClampNeg = z32 (r 2) := hr.1 2 (by omega)
  have em : MD_now M (2 : Int32).toNatClampNeg = z64 (r 2) := hq.at (x := 2) (by omega)
  have e1 : f_X2_needInRange (z32 w) 0 (z32 (r 2)) = _ := n_range hw (l := 0) (h := r 2) ⟨by omega, by omega⟩ ⟨by omega, by omega⟩
  have e2 : f_X3_isIn ((z32 w).toInt64) 0 (z64 (r 2)) = _ := m_range hw (l := 0) (h := r 2) ⟨by omega, by omega⟩ ⟨by omega, by omega⟩
  unfold f_X2_bid f_X3_bid
  rw [n_person hr hv.1.1 hx, m_areThere hq hv.1.1 hx hy, z_some, z_some]
  by_cases c : 0 ≤ x ∧ x < r 3
  · rw [if_pos c, z_ir, n_absence hr hv.1.1 hy, z_some]
    by_cases d : 0 ≤ y ∧ y < r 4
    · rw [if_pos d, z_ir, decide_eq_true ⟨c, d⟩, z_int, if_pos (show q_in 2 3 = true by decide), if_pos (show q_in 2 420 = true by decide), es, em, e1, e2, z_some, z_some]
      by_cases e : 0 ≤ w ∧ w ≤ r 2
      · rw [if_pos e, z_ir, decide_eq_true e, z_int, m_mayBid hq hv.1.1 hx d, z_some]
        obtain ⟨p, rfl⟩ : ∃ p : Nat, x = p := ⟨x.toNat, by omega⟩
        obtain ⟨a, rfl⟩ : ∃ a : Nat, y = a := ⟨y.toNat, by omega⟩
        rw [n_canBid hr hv.1.1 hx d.2, z_some, n_allowed, z_some]
        by_cases g : r (30 + 13 * (a : Int) + 2) = 0 ∧ r (30 + 13 * (a : Int) + 0) ≠ (p : Int)
        · rw [decide_eq_true g, if_pos rfl, z_ir, z_ift]
          obtain ⟨S1, k', st', a1, a2, a3, a4, a5⟩ := xm_save (M := sMD_thrown M 0) hq hr hv hs
          have hxn := x_rel_bid (z := w) hr hv.1 d.2 (show p < 8 by omega)
          have hvn := v_bid hv d c (z := w) (by omega) g.1
          have hqn := hq.up (30 + 13 * (a : Int) + (5 + (p : Int))) (by omega) w
          rw [a1, z_some, x_bidIndex, z_some]
          simp (disch := omega) only [z_in, if_true, z_lets, z32_clamp, Int.toNat_natCast]
          refine .inr ⟨z32 (s_cnt (s_nb8 (q_up r (30 + 13 * (a : Int) + (5 + (p : Int))) w) a) 8 : Nat), sCM_now S1 (sST_bids (CM_now S) (upd (ST_bids (CM_now S)) (8 * a + p) (z32 w))), sMD_now (sMD_states (sMD_kept (sMD_thrown M 0) k') st') (vp_updL (MD_now M) (30 + 13 * (a : Int) + (5 + (p : Int))).toNat (z64 w)), ?_, ?_, rfl, ?_⟩
          · rw [a3]
            have := x_bidsFor hxn hvn (a := a) (by rw [q_up_ne (by omega)]; exact d.2)
            show ((f_X1_bidsFor (sST_bids (CM_now S) (upd (ST_bids (CM_now S)) (8 * a + p) (z32 w))) (z32 (a : Int))).bind _) = _
            rw [this, z_some]
          · unfold f_X3_bid_47
            rw [z_lets, z_t0, a2, z_some, show (5 : Int32) = z32 5 from rfl, z32_add, m_becomes (by omega) (by omega) hw, z_some]
            have := m_bids (M := sMD_now (sMD_states (sMD_kept (sMD_thrown M 0) k') st') (vp_updL (MD_now M) (30 + 13 * (a : Int) + (5 + (p : Int))).toNat (z64 w))) (r := q_up r (30 + 13 * (a : Int) + (5 + (p : Int))) w) hqn hvn.1.1.2.2.2 (a := a) (by omega)
            show ((f_X3_bids (sMD_now (sMD_states (sMD_kept (sMD_thrown M 0) k') st') (vp_updL (MD_now M) (30 + 13 * (a : Int) + (5 + (p : Int))).toNat (z64 w))) (z32 (a : Int))).bind _) = _
            rw [this, z_some]
            rfl
          · refine s_inv_mk _ hqn hvn hxn a5 ?_
            rw [show ∀ T, CM_or (sCM_now S1 T) = CM_or S1 from fun _ => rfl, a4]
            exact ht
        · rw [decide_eq_false g, if_neg (by decide), z_il, z_iff, thr 3 (by decide)]
          exact .inl ⟨_, 3, 0, rfl, rfl, k3, by decide⟩
      · rw [if_neg e, z_il, decide_eq_false e, z_inf, thr 2 (by decide)]
        exact .inl ⟨_, 2, 0, rfl, rfl, k2, by decide⟩
    · rw [if_neg d, z_il, decide_eq_false (fun z => d z.2), z_inf, thr 1 (by decide)]
      exact .inl ⟨_, 1, 0, rfl, rfl, k1, by decide⟩
  · rw [if_neg c, z_il, decide_eq_false (fun z => c z.1), z_inf, thr 1 (by decide)]
    exact .inl ⟨_, 1, 0, rfl, rfl, k1, by decide⟩
theorem sc_takeBack {K : Int} {S : CM} {M : MD} (h : s_inv K S M) {x y : Int} (hx : rng x) (hy : rng y) {code : String → Option Int32} (k1 : code "java/lang/IndexOutOfBoundsException" = some 1) (k2 : code "java/lang/IllegalStateException" = some 2) : s_res K S M (f_X2_takeBack S (z32 x) (z32 y)) (f_X3_takeBack M (z32 x) (z32 y)) code := by
  obtain ⟨⟨r, hq, hv, hr⟩, hs, ht⟩ := h
  have h3 := hv.1.1.1
  have h4 := hv.1.1.2.1
  have thr : ∀ k : Int32, k ≠ 0 → ∀ a b, f_X3_takeBack_31 M a b k = some (0, sMD_thrown M k) := fun k hk a b => by
    unfold f_X3_takeBack_31
    rw [z_lets, z_tk hk]
  unfold f_X2_takeBack f_X3_takeBack
  rw [n_person hr hv.1.1 hx, m_areThere hq hv.1.1 hx hy, z_some, z_some]
  by_cases c : 0 ≤ x ∧ x < r 3
  · rw [if_pos c, z_ir, n_absence hr hv.1.1 hy, z_some]
    by_cases d : 0 ≤ y ∧ y < r 4
    · rw [if_pos d, z_ir, decide_eq_true ⟨c, d⟩, z_int]
      obtain ⟨p, rfl⟩ : ∃ p : Nat, x = p := ⟨x.toNat, by omega⟩
      obtain ⟨a, rfl⟩ : ∃ a : Nat, y = a := ⟨y.toNat, by omega⟩
      have i0 := hv.1.1.2.2.2 a (5 + p) (by omega) (by omega)
      rw [x_bidIndex, z_some, x_bidAt hr hv.1 (by omega) d.2, show (5 : Int32) = z32 5 from rfl, z32_add, m_ofA hq (by omega) (by omega), z_some, if_pos (z_inT ⟨by omega, by omega, by omega⟩)]
      unfold s_bid
      have l9 : (z32 (r (30 + 13 * (a : Int) + (5 + (p : Int)))) = -1) ↔ (r (30 + 13 * (a : Int) + (5 + (p : Int))) = -1) := by
        rw [show (-1 : Int32) = z32 (-1) by decide]
        exact z32_eq i0 ⟨by omega, by omega⟩
      simp only [l9]
      by_cases e : r (30 + 13 * (a : Int) + (5 + (p : Int))) = -1
      · rw [if_pos e, if_pos e, thr 2 (by decide)]
        exact .inl ⟨_, 2, 0, rfl, rfl, k2, by decide⟩
      · rw [if_neg e, if_neg e]
        obtain ⟨S1, k', st', a1, a2, a3, a4, a5⟩ := xm_save (M := sMD_thrown M 0) hq hr hv hs
        have hst : r (30 + 13 * (a : Int) + 2) = 0 := by
          refine Classical.byContradiction fun z => e ?_
          exact ((hv.2.2.1 a d).2.2.2.2 p (by omega)).2.2 z
        have hxn := x_rel_bid (z := -1) hr hv.1 d.2 (show p < 8 by omega)
        have hvn := v_bid hv d c (z := -1) (by omega) hst
        have hqn := hq.up (30 + 13 * (a : Int) + (5 + (p : Int))) (by omega) (-1)
        refine .inr ⟨z32 (r (30 + 13 * (a : Int) + (5 + (p : Int)))), sCM_now S1 (sST_bids (CM_now S) (upd (ST_bids (CM_now S)) (8 * a + p) (z32 (-1)))), sMD_now (sMD_states (sMD_kept (sMD_thrown M 0) k') st') (vp_updL (MD_now M) (30 + 13 * (a : Int) + (5 + (p : Int))).toNat (z64 (-1))), ?_, ?_, rfl, ?_⟩
        · unfold f_X2_takeBack_34
          show ((f_X2_save S).bind _) = _
          rw [a1, z_some, a3, x_bidAt hr hv.1 (by omega) d.2]
          simp (disch := omega) only [z_in, if_true, z_lets, z32_clamp, Int.toNat_natCast]
          rfl
        · unfold f_X3_takeBack_31
          rw [z_lets, z_t0, show (5 : Int32) = z32 5 from rfl, z32_add, m_ofA (M := sMD_thrown M 0) hq (by omega) (by omega), z_some, a2, z_some, show (-1 : Int32) = z32 (-1) by decide, m_becomes (by omega) (by omega) (by omega), z_some]
          rfl
        · refine s_inv_mk _ hqn hvn hxn a5 ?_
          rw [show ∀ T, CM_or (sCM_now S1 T) = CM_or S1 from fun _ => rfl, a4]
          exact ht
    · rw [if_neg d, z_il, decide_eq_false (fun z => d z.2), z_inf, thr 1 (by decide)]
      exact .inl ⟨_, 1, 0, rfl, rfl, k1, by decide⟩
  · rw [if_neg c, z_il, decide_eq_false (fun z => c z.1), z_inf, thr 1 (by decide)]
    exact .inl ⟨_, 1, 0, rfl, rfl, k1, by decide⟩
