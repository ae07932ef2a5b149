/-! the calls that write -/
theorem s_inv_mk {K : Int} {S : CM} {M : MD} (r : Int → Int) (h1 : q_row (MD_now M) r) (h2 : v_x K r) (h3 : x_rel (CM_now S) r) (h4 : s_sav K (CM_ss S) (CM_sv S) (MD_states M) (MD_kept M)) (h5 : s_txt (CM_or S) (MD_text M) (MD_length M)) : s_inv K S M := ⟨⟨r, h1, h2, h3⟩, h4, h5⟩
theorem sc_set {K : Int} {S : CM} {M : MD} (h : s_inv K S M) (hK : K < 2000000000) {x y : Int} (hx : rng x) (hy : rng y) {code : String → Option Int32} (k1 : code "java/lang/IllegalArgumentException" = some 1) : s_res K S M (f_X2_set S (z32 x) (z32 y)) (f_X3_set M (z32 x) (z32 y)) code := by
  obtain ⟨⟨r, hq, hv, hr⟩, hs, ht⟩ := h
  have e1 : f_X2_needInRange (z32 x) 0 2 = _ := n_range hx (l := 0) (h := 2) ⟨by omega, by omega⟩ ⟨by omega, by omega⟩
  have e2 : f_X3_isIn ((z32 x).toInt64) 0 2 = _ := m_range hx (l := 0) (h := 2) ⟨by omega, by omega⟩ ⟨by omega, by omega⟩
  have t9 : ∀ a b, f_X3_set_49 M a b 1 = some (0, sMD_thrown M 1) := fun a b => by
    unfold f_X3_set_49
    rw [z_lets, z_tk (show (1 : Int32) ≠ 0 by decide)]
  unfold f_X2_set f_X3_set
  rw [e1, e2, z_some, z_some]
  by_cases c : 0 ≤ x ∧ x ≤ 2
  · obtain ⟨k, rfl⟩ : ∃ k : Nat, x = k := ⟨x.toNat, by omega⟩
    have hk : k < 3 := by omega
    rw [if_pos c, decide_eq_true c, z_ift, z_ir]
    simp (disch := omega) only [z_in, if_true, z32_clamp, Int.toNat_natCast]
    have lo : q_lows k = z32 (if (k : Int) = 1 then 1 else 0) := by
      rcases (show k = 0 ∨ k = 1 ∨ k = 2 by omega) with e | e | e <;> (rw [e]; rfl)
    have hi : q_tops k = z32 (if (k : Int) = 0 then 5 else 50) := by
      rcases (show k = 0 ∨ k = 1 ∨ k = 2 by omega) with e | e | e <;> (rw [e]; rfl)
    rw [lo, hi, n_range hy ⟨by split <;> omega, by split <;> omega⟩ ⟨by split <;> omega, by split <;> omega⟩, z_some]
    have em : (if ¬ z32 (k : Int) = 1 then f_X3_set_25 M (z32 k) (z32 y) 0 ((z32 y).toInt64) else f_X3_set_25 M (z32 k) (z32 y) 1 ((z32 y).toInt64)) = if (if (k : Int) = 1 then 1 else 0) ≤ y ∧ y ≤ (if (k : Int) = 0 then 5 else 50) then f_X3_set_49 M (z32 k) (z32 y) 0 else f_X3_set_49 M (z32 k) (z32 y) 1 := by
      have g1 : f_X3_isIn ((z32 y).toInt64) 0 50 = _ := m_range hy (l := 0) (h := 50) ⟨by omega, by omega⟩ ⟨by omega, by omega⟩
      have g2 : f_X3_isIn ((z32 y).toInt64) 1 50 = _ := m_range hy (l := 1) (h := 50) ⟨by omega, by omega⟩ ⟨by omega, by omega⟩
      have g3 : f_X3_isIn ((z32 y).toInt64) 0 5 = _ := m_range hy (l := 0) (h := 5) ⟨by omega, by omega⟩ ⟨by omega, by omega⟩
      unfold f_X3_set_25
      rw [g1, g2, g3]
      simp only [z_some]
      rcases (show k = 0 ∨ k = 1 ∨ k = 2 by omega) with e | e | e
      · rw [e, if_pos (show ¬ z32 ((0 : Nat) : Int) = 1 by decide), if_neg (show ¬ ¬ z32 ((0 : Nat) : Int) = 0 by decide), if_neg (show ¬ ((0 : Nat) : Int) = 1 by decide), if_pos (show ((0 : Nat) : Int) = 0 from rfl)]
        by_cases d : 0 ≤ y ∧ y ≤ 5
        · rw [decide_eq_true d, z_ift, if_pos d]
        · rw [decide_eq_false d, z_iff, if_neg d]
      · rw [e, if_neg (show ¬ ¬ z32 ((1 : Nat) : Int) = 1 by decide), if_pos (show ¬ z32 ((1 : Nat) : Int) = 0 by decide), if_pos (show ((1 : Nat) : Int) = 1 from rfl), if_neg (show ¬ ((1 : Nat) : Int) = 0 by decide)]
        by_cases d : 1 ≤ y ∧ y ≤ 50
        · rw [decide_eq_true d, z_ift, if_pos d]
        · rw [decide_eq_false d, z_iff, if_neg d]
      · rw [e, if_pos (show ¬ z32 ((2 : Nat) : Int) = 1 by decide), if_pos (show ¬ z32 ((2 : Nat) : Int) = 0 by decide), if_neg (show ¬ ((2 : Nat) : Int) = 1 by decide), if_neg (show ¬ ((2 : Nat) : Int) = 0 by decide)]
        by_cases d : 0 ≤ y ∧ y ≤ 50
        · rw [decide_eq_true d, z_ift, if_pos d]
        · rw [decide_eq_false d, z_iff, if_neg d]
    rw [em]
    by_cases d : (if (k : Int) = 1 then 1 else 0) ≤ y ∧ y ≤ (if (k : Int) = 0 then 5 else 50)
    · rw [if_pos d, if_pos d, z_ir]
      obtain ⟨S1, k', st', a1, a2, a3, a4, a5⟩ := xm_save (M := sMD_thrown M 0) hq hr hv hs
      rw [a1, z_some]
      unfold f_X3_set_49
      refine .inr ⟨z32 (r k), sCM_now S1 (sST_settings (CM_now S) (upd (ST_settings (CM_now S)) k (z32 y))), sMD_now (sMD_states (sMD_kept (sMD_thrown M 0) k') st') (vp_updL (MD_now M) k (z64 y)), ?_, ?_, rfl, ?_⟩
      · simp only [z_lets, a3]
        rw [hr.1 k hk]
      · rw [z_lets, z_t0, a2, z_some]
        simp (disch := omega) only [z_in, if_true, z_lets]
        show some ((MD_now M (z32 (k : Int)).toNatClampNeg).toInt32, sMD_now (sMD_states (sMD_kept (sMD_thrown M 0) k') st') (vp_updL (MD_now M) (z32 (k : Int)).toNatClampNeg ((z32 y).toInt64))) = _
        rw [hq.at (by omega), z64_to32, z32_clamp (by omega), Int.toNat_natCast, z32_to64 hy]
      · refine s_inv_mk (q_up r k y) ?_ (v_set hv hK (by omega) d) (x_rel_set hr hk) a5 ?_
        · have := hq.up (k : Int) (by omega) y
          rw [Int.toNat_natCast] at this
          exact this
        · rw [show CM_or (sCM_now S1 (sST_settings (CM_now S) (upd (ST_settings (CM_now S)) k (z32 y)))) = CM_or S1 from rfl, a4]
          exact ht
    · rw [if_neg d, if_neg d, z_il, t9]
      exact .inl ⟨_, 1, 0, rfl, rfl, k1, by decide⟩
  · rw [if_neg c, decide_eq_false c, z_iff, z_il, t9]
    exact .inl ⟨_, 1, 0, rfl, rfl, k1, by decide⟩
theorem sc_addPerson {K : Int} {S : CM} {M : MD} (h : s_inv K S M) (hK : K < 2000000000) {x : Int} (hx : -9223372036854775808 ≤ x ∧ x < 9223372036854775808) {code : String → Option Int32} (k1 : code "java/lang/IllegalArgumentException" = some 1) (k2 : code "java/lang/IllegalStateException" = some 2) : s_res K S M (f_X2_addPerson S (z64 x)) (f_X3_addPerson M (z64 x)) code := by
  obtain ⟨⟨r, hq, hv, hr⟩, hs, ht⟩ := h
  have h3 := hv.1.1.1
  have hK0 : 0 ≤ K := by have := hv.2.1.2; omega
  have t9 : ∀ a k, k ≠ 0 → f_X3_addPerson_34 M a k = some (0, sMD_thrown M k) := fun a k hk => by
    unfold f_X3_addPerson_34
    rw [z_lets, z_tk hk]
  have e2 : f_X3_isIn (z64 x) 0 4398046511103 = _ := m_isIn (x := x) (y := 0) (z := 4398046511103) hx (by omega) (by omega)
  have l1 : (lg_cmp (z64 x) 0 < 0) ↔ (x < 0) := (lg_cmp_lt _ _).trans (z64_lt hx (y := 0) (by omega))
  have l2 : (lg_cmp (z64 x) 4398046511103 ≤ 0) ↔ (x ≤ 4398046511103) := (lg_cmp_le _ _).trans (z64_le hx (y := 4398046511103) (by omega))
  have l4 : (8 ≤ z32 (r 3)) ↔ (8 ≤ r 3) := z32_le (x := 8) ⟨by omega, by omega⟩ ⟨by omega, by omega⟩
  unfold f_X2_addPerson f_X3_addPerson
  rw [e2, z_some, hr.2.1]
  simp only [l1, l2, l4]
  by_cases c : 0 ≤ x ∧ x ≤ 4398046511103
  · rw [if_neg (show ¬ x < 0 by omega), if_pos c.2, decide_eq_true c, z_int, if_pos (show q_in 3 420 = true by decide)]
    have l3 : (0 ≤ lg_cmp (MD_now M (3 : Int32).toNatClampNeg) 8) ↔ (8 ≤ r 3) := by
      rw [show (3 : Int32) = z32 3 from rfl, hq.at (by omega)]
      exact (lg_cmp_ge _ _).trans (z64_le (x := 8) (by omega) (by omega))
    simp only [l3]
    by_cases d : 8 ≤ r 3
    · rw [if_pos d, if_pos d, t9 _ _ (by decide)]
      exact .inl ⟨_, 2, 0, rfl, rfl, k2, by decide⟩
    · rw [if_neg d, if_neg d]
      obtain ⟨S1, k', st', a1, a2, a3, a4, a5⟩ := xm_save (M := sMD_thrown M 0) hq hr hv hs
      obtain ⟨S2, b1, b2⟩ := x_enterPerson (z := x) hr hv (by omega)
      refine .inr ⟨z32 (r 3), sCM_now S1 S2, sMD_now (sMD_states (sMD_kept (sMD_thrown M 0) k') st') (vp_updL (vp_updL (vp_updL (vp_updL (MD_now M) (6 + 3 * r 3 + 0).toNat (z64 x)) (6 + 3 * r 3 + 1).toNat (z64 0)) (6 + 3 * r 3 + 2).toNat (z64 0)) (3 : Int).toNat (z64 (r 3 + 1))), ?_, ?_, rfl, ?_⟩
      · unfold f_X2_addPerson_41
        show ((f_X2_save S).bind _) = _
        rw [a1, z_some, a3, b1, z_some]
        rfl
      · unfold f_X3_addPerson_34
        rw [z_lets, z_t0, a2, z_some]
        have g3 : MD_now (sMD_states (sMD_kept (sMD_thrown M (z32 0)) k') st') (z32 3).toNatClampNeg = z64 (r 3) := hq.at (x := 3) (by omega)
        simp (disch := omega) only [z32_lit, z64_lit, g3, z64_to32, z32_mul, z32_add, z_in, if_true, z_lets, gs_MD_now, ss_MD_now]
        have n1 := ((hq.up (6 + 3 * r 3 + 0) (by omega) x).up (6 + 3 * r 3 + 1) (by omega) 0).up (6 + 3 * r 3 + 2) (by omega) 0
        have n2 := n1.at (x := 3) (by omega)
        rw [z32_clamp (x := 6 + 3 * r 3 + 0) (by omega), z32_clamp (x := 6 + 3 * r 3 + 1) (by omega), z32_clamp (x := 6 + 3 * r 3 + 2) (by omega)]
        rw [show MD_now (sMD_states (sMD_kept (sMD_thrown M (z32 0)) k') st') = MD_now M from rfl, n2, z64_add, q_up_ne (by omega), q_up_ne (by omega), q_up_ne (by omega), z32_clamp (x := 3) (by omega)]
      · refine s_inv_mk (s_np r x) ?_ (v_np hv hK hK0 (by omega) (by omega)) b2 a5 ?_
        · exact (((hq.up (6 + 3 * r 3 + 0) (by omega) x).up (6 + 3 * r 3 + 1) (by omega) 0).up (6 + 3 * r 3 + 2) (by omega) 0).up 3 (by omega) (r 3 + 1)
        · rw [show CM_or (sCM_now S1 S2) = CM_or S1 from rfl, a4]
          exact ht
  · rw [decide_eq_false c, z_inf, t9 _ _ (by decide)]
    refine .inl ⟨"java/lang/IllegalArgumentException", 1, 0, ?_, rfl, k1, by decide⟩
    by_cases d : x < 0
    · rw [if_pos d]
    · rw [if_neg d, if_neg (by omega)]
theorem sc_roster {K : Int} {S : CM} {M : MD} (h : s_inv K S M) (hK : K < 2000000000) {x y : Int} (hx : rng x) (hy : rng y) (w : Bool) {code : String → Option Int32} (k1 : code "java/lang/IndexOutOfBoundsException" = some 1) (k2 : code "java/lang/IllegalArgumentException" = some 2) (k3 : code "java/lang/IllegalStateException" = some 3) : s_res K S M (f_X2_roster S (z32 x) (z32 y) (z_B w)) (f_X3_roster M (z32 x) (z32 y) (z_B w)) code := by
  obtain ⟨⟨r, hq, hv, hr⟩, hs, ht⟩ := h
  have h3 := hv.1.1.1
  have e1 : f_X2_needInRange (z32 y) 0 41 = _ := n_range hy (l := 0) (h := 41) ⟨by omega, by omega⟩ ⟨by omega, by omega⟩
  have e2 : f_X3_isIn ((z32 y).toInt64) 0 41 = _ := m_range hy (l := 0) (h := 41) ⟨by omega, by omega⟩ ⟨by omega, by omega⟩
  have er : f_X3_shiftError M (z32 x) (z32 y) 1 = some (if 0 ≤ x ∧ x < r 3 then (if 0 ≤ y ∧ y ≤ 41 then 0 else 2) else 1) := by
    unfold f_X3_shiftError
    rw [m_person_ hq hv.1.1 hx, z_some]
    by_cases c : 0 ≤ x ∧ x < r 3
    · rw [decide_eq_true c, z_int, e2, z_some, if_pos c]
      by_cases d : 0 ≤ y ∧ y ≤ 41
      · rw [decide_eq_true d, z_int, if_pos d, if_pos (by decide)]
      · rw [decide_eq_false d, z_inf, if_neg d]
    · rw [decide_eq_false c, z_inf, if_neg c]
  have thr : ∀ k : Int32, k ≠ 0 → f_X3_shiftError M (z32 x) (z32 y) 1 = some k → f_X3_roster M (z32 x) (z32 y) (z_B w) = some (0, sMD_thrown M k) := by
    intro k hk hk2
    unfold f_X3_roster
    rw [hk2, z_some]
    rw [z_lets, z_tk hk]
  by_cases c : 0 ≤ x ∧ x < r 3
  · rw [if_pos c] at er
    by_cases d : 0 ≤ y ∧ y ≤ 41
    · rw [if_pos d] at er
      obtain ⟨p, rfl⟩ : ∃ p : Nat, x = p := ⟨x.toNat, by omega⟩
      obtain ⟨t, rfl⟩ : ∃ t : Nat, y = t := ⟨y.toNat, by omega⟩
      obtain ⟨x1, -, -, x4, x5⟩ := hr.2.2.2.2.1 p c.2
      have hb : b6 (ST_rosters (CM_now S) p) t = s_ros r p t := by
        rw [x1]
        unfold s_ros
        rw [Int.toNat_natCast]
      have en : f_X1_canChangeRoster (CM_now S) (z32 p) (z32 t) (z_B w) = some (z_B (decide (s_ros r p t ≠ w) && (!s_abs r p t && !s_cvs r p t))) := by
        unfold f_X1_canChangeRoster f_X1_canChangeRoster_24
        simp (disch := omega) only [z_in, if_true, z_lets, z32_clamp, Int.toNat_natCast, x_has, hb, b6_or, x4 t (by omega), x5 t (by omega), decide_eq_true (show t < 42 by omega), Bool.true_and]
        cases s_ros r p t <;> cases s_abs r p t <;> cases s_cvs r p t <;> cases w <;> rfl
      have es : f_X2_roster S (z32 p) (z32 t) (z_B w) = ((f_X1_canChangeRoster (CM_now S) (z32 p) (z32 t) (z_B w)).bind fun r3 => (f_X2_needAllowed r3).bind fun r4 => q_exc r4 fun _ => (f_X2_save S).bind fun r5 => some (.inr (((f_J13_bitCount_95d88 (ST_rosters (CM_now r5) p ^^^ ((1 : Int64) <<< ((z32 (t : Int)).toInt64 &&& 63)))).getD 0), sCM_now r5 (sST_rosters (CM_now r5) (vp_updL (ST_rosters (CM_now r5)) p (ST_rosters (CM_now r5) p ^^^ ((1 : Int64) <<< ((z32 (t : Int)).toInt64 &&& 63)))))))) := by
        unfold f_X2_roster
        rw [n_person hr hv.1.1 hx, z_some, if_pos c, z_ir, e1, z_some, if_pos d, z_ir]
        simp (disch := omega) only [z_in, if_true, z_lets, z32_clamp, Int.toNat_natCast, pc_bitCount, z_some]
        rw [en, z_some, z_some]
        congr 1
        funext r4
        congr 1
        funext _
        congr 1
        funext r5
        congr 1
        congr 1
        congr 1
        show _ = z32 _
        congr 1
        show ((s_cnt (b6 (vp_updL (ST_rosters (CM_now r5)) p (ST_rosters (CM_now r5) p ^^^ ((1 : Int64) <<< ((z32 (t : Int)).toInt64 &&& 63))) p)) 64 : Nat) : Int) = _
        unfold vp_updL
        rw [if_pos rfl]
      have em : f_X3_roster M (z32 p) (z32 t) (z_B w) = if s_ros r p t = w then some (0, sMD_thrown M 3) else if s_abs r p t = true then some (0, sMD_thrown M 3) else if s_cvs r p t = true then some (0, sMD_thrown M 3) else ((f_X3_records (sMD_thrown M 0)).bind fun r12 => (if w = false then (q_let (sMD_now r12 (vp_updL (MD_now r12) (6 + 3 * p + 0) (MD_now r12 (6 + 3 * p + 0) + -((1 : Int64) <<< ((z32 (t : Int)).toInt64 &&& 63))))) fun S17 => (f_X3_rostered S17 (z32 p)).bind fun r18 => some (r18, S17)) else (q_let (sMD_now r12 (vp_updL (MD_now r12) (6 + 3 * p + 0) (MD_now r12 (6 + 3 * p + 0) + ((1 : Int64) <<< ((z32 (t : Int)).toInt64 &&& 63))))) fun S20 => (f_X3_rostered S20 (z32 p)).bind fun r21 => some (r21, S20)))) := by
        unfold f_X3_roster
        rw [er, z_some]
        have hj : (6 : Int) + 3 * (p : Int) + 0 = ((6 + 3 * p + 0 : Nat) : Int) := by omega
        rw [z_lets, z_t0, m_isRos (M := sMD_thrown M 0) hq (by omega) (by omega), z_some, m_isAbsent (M := sMD_thrown M 0) hq hv.1.1.2.2.2 hv.1.1.2.1 (by omega) (by omega), z_some, m_coversIn (M := sMD_thrown M 0) hq hv.1.1 (by omega) (by omega), z_some]
        simp (disch := omega) only [z32_lit, z32_mul, z32_add, hj, z_in, if_true, z_B0]
        simp only [z32_clamp (x := ((6 + 3 * p + 0 : Nat) : Int)) (by omega), Int.toNat_natCast]
        have ew : (z_B (s_ros r p t) = z_B w) ↔ s_ros r p t = w := by
          cases s_ros r p t <;> cases w <;> decide
        simp only [ew]
        by_cases g1 : s_ros r p t = w
        · rw [if_pos g1, if_pos g1]
          rfl
        · rw [if_neg g1, if_neg g1]
          cases s_abs r p t
          · rw [if_neg (show ¬ ¬ false = false by decide), if_neg (show ¬ false = true by decide)]
            cases s_cvs r p t
            · rw [if_pos (show false = false from rfl), if_neg (show ¬ false = true by decide)]
              rfl
            · rw [if_neg (show ¬ true = false by decide), if_pos (show true = true from rfl)]
              rfl
          · rw [if_pos (show ¬ true = false by decide), if_pos (show true = true from rfl)]
            rfl
      rw [es, em, en, z_some, n_allowed, z_some]
      by_cases g1 : s_ros r p t = w
      · rw [decide_eq_false (fun z => z g1), Bool.false_and, if_neg (by decide), z_il, if_pos g1]
        exact .inl ⟨_, 3, 0, rfl, rfl, k3, by decide⟩
      · rw [decide_eq_true g1, Bool.true_and, if_neg g1]
        by_cases g2 : s_abs r p t = true
        · rw [g2, if_pos (show true = true from rfl), if_neg (show ¬ (!true && !s_cvs r p t) = true by simp), z_il]
          exact .inl ⟨_, 3, 0, rfl, rfl, k3, by decide⟩
        · by_cases g3 : s_cvs r p t = true
          · rw [g3, if_neg g2, if_pos (show true = true from rfl), if_neg (show ¬ (!s_abs r p t && !true) = true by simp), z_il]
            exact .inl ⟨_, 3, 0, rfl, rfl, k3, by decide⟩
          · rw [if_neg g2, if_neg g3, eq_false_of_ne_true g2, eq_false_of_ne_true g3, if_pos (show (!false && !false) = true from rfl), z_ir]
            obtain ⟨S1, k', st', a1, a2, a3, a4, a5⟩ := xm_save (M := sMD_thrown M 0) hq hr hv hs
            have hz := s_fl_in hv.1 c (t := t) (by omega)
            have hzz := s_fl_z r p t
            have hnew : x_rel (sST_rosters (CM_now S) (vp_updL (ST_rosters (CM_now S)) p (ST_rosters (CM_now S) p ^^^ ((1 : Int64) <<< ((z32 (t : Int)).toInt64 &&& 63))))) (q_up r (6 + 3 * (p : Int) + 0) (s_fl r p t)) := by
              rw [x1, ← hzz]
              exact x_rel_ros hr hv.1 c.2
            have hvn := v_ros hv hK c hz
            have hqn : q_row (vp_updL (MD_now M) (6 + 3 * p + 0) (z64 (s_fl r p t))) (q_up r (6 + 3 * (p : Int) + 0) (s_fl r p t)) := by
              have := hq.up (6 + 3 * (p : Int) + 0) (by omega) (s_fl r p t)
              rw [show (6 + 3 * (p : Int) + 0).toNat = 6 + 3 * p + 0 by omega] at this
              exact this
            have hnow : MD_now M (6 + 3 * p + 0) = z64 (r (6 + 3 * (p : Int) + 0)) := by
              have := hq (6 + 3 * p + 0) (by omega)
              rw [this]
              congr 1
            have hbt : b6 (z64 (r (6 + 3 * (p : Int) + 0))) t = s_ros r p t := by
              rw [← x1]
              exact hb
            have cnt : s_cnt (b6 (ST_rosters (CM_now S) p ^^^ ((1 : Int64) <<< ((z32 (t : Int)).toInt64 &&& 63)))) 64 = s_cnt (s_rsN (q_up r (6 + 3 * (p : Int) + 0) (s_fl r p t)) p) 42 := by
              rw [x1, ← hzz]
              apply s_cnt64
              intro i hi
              by_cases e : i < 42
              · rw [decide_eq_true e, Bool.true_and]
                unfold s_rsN s_ros
                rw [q_up_eq rfl, Int.toNat_natCast]
              · rw [decide_eq_false e, Bool.false_and]
                exact b6_range hz (by omega)
            refine .inr ⟨z32 (s_cnt (s_rsN (q_up r (6 + 3 * (p : Int) + 0) (s_fl r p t)) p) 42 : Nat), sCM_now S1 (sST_rosters (CM_now S) (vp_updL (ST_rosters (CM_now S)) p (ST_rosters (CM_now S) p ^^^ ((1 : Int64) <<< ((z32 (t : Int)).toInt64 &&& 63))))), sMD_now (sMD_states (sMD_kept (sMD_thrown M 0) k') st') (vp_updL (MD_now M) (6 + 3 * p + 0) (z64 (s_fl r p t))), ?_, ?_, rfl, ?_⟩
            · rw [a1, z_some, a3, pc_bitCount, cnt]
              rfl
            · rw [a2, z_some]
              have hm : f_X3_rostered (sMD_now (sMD_states (sMD_kept (sMD_thrown M 0) k') st') (vp_updL (MD_now M) (6 + 3 * p + 0) (z64 (s_fl r p t)))) (z32 p) = _ := m_rostered (M := sMD_now (sMD_states (sMD_kept (sMD_thrown M 0) k') st') (vp_updL (MD_now M) (6 + 3 * p + 0) (z64 (s_fl r p t)))) hqn (p := p) (by omega)
              cases w
              · rw [if_pos rfl]
                have e : MD_now M (6 + 3 * p + 0) + -((1 : Int64) <<< ((z32 (t : Int)).toInt64 &&& 63)) = z64 (s_fl r p t) := by
                  rw [hnow, hzz]
                  exact b6_flip_out (by omega) (by rw [hbt]; exact eq_true_of_ne_false g1)
                show ((f_X3_rostered (sMD_now (sMD_states (sMD_kept (sMD_thrown M 0) k') st') (vp_updL (MD_now M) (6 + 3 * p + 0) (MD_now M (6 + 3 * p + 0) + -((1 : Int64) <<< ((z32 (t : Int)).toInt64 &&& 63))))) (z32 p)).bind fun r18 => some (r18, sMD_now (sMD_states (sMD_kept (sMD_thrown M 0) k') st') (vp_updL (MD_now M) (6 + 3 * p + 0) (MD_now M (6 + 3 * p + 0) + -((1 : Int64) <<< ((z32 (t : Int)).toInt64 &&& 63)))))) = _
                rw [e, hm, z_some]
              · rw [if_neg (by decide)]
                have e : MD_now M (6 + 3 * p + 0) + ((1 : Int64) <<< ((z32 (t : Int)).toInt64 &&& 63)) = z64 (s_fl r p t) := by
                  rw [hnow, hzz]
                  exact b6_flip_in (by omega) (by rw [hbt]; exact eq_false_of_ne_true g1)
                show ((f_X3_rostered (sMD_now (sMD_states (sMD_kept (sMD_thrown M 0) k') st') (vp_updL (MD_now M) (6 + 3 * p + 0) (MD_now M (6 + 3 * p + 0) + ((1 : Int64) <<< ((z32 (t : Int)).toInt64 &&& 63))))) (z32 p)).bind fun r18 => some (r18, sMD_now (sMD_states (sMD_kept (sMD_thrown M 0) k') st') (vp_updL (MD_now M) (6 + 3 * p + 0) (MD_now M (6 + 3 * p + 0) + ((1 : Int64) <<< ((z32 (t : Int)).toInt64 &&& 63)))))) = _
                rw [e, hm, z_some]
            · refine s_inv_mk _ hqn hvn hnew a5 ?_
              rw [show ∀ T, CM_or (sCM_now S1 T) = CM_or S1 from fun _ => rfl, a4]
              exact ht
    · rw [if_neg d] at er
      rw [thr 2 (by decide) er]
      refine .inl ⟨"java/lang/IllegalArgumentException", 2, 0, ?_, rfl, k2, by decide⟩
      unfold f_X2_roster
      rw [n_person hr hv.1.1 hx, z_some, if_pos c, z_ir, e1, z_some, if_neg d, z_il]
  · rw [if_neg c] at er
    rw [thr 1 (by decide) er]
    refine .inl ⟨"java/lang/IndexOutOfBoundsException", 1, 0, ?_, rfl, k1, by decide⟩
    unfold f_X2_roster
    rw [n_person hr hv.1.1 hx, z_some, if_neg c, z_il]
