/-! covering, handing over, giving up, undoing, what if, the text -/
theorem sc_cover {K : Int} {S : CM} {M : MD} (h : s_inv K S M) (hK : K < 900000000) {x : Int} (hx : rng x) {code : String → Option Int32} (k1 : code "java/lang/IndexOutOfBoundsException" = some 1) (k2 : code "java/lang/IllegalStateException" = some 2) : s_res (K + 50) S M (f_X2_cover S (z32 x)) (f_X3_cover M (z32 x)) code := by
  obtain ⟨⟨r, hq, hv, hr⟩, hs, ht⟩ := h
  have h3 := hv.1.1.1
  have h4 := hv.1.1.2.1
  have hK0 : 0 ≤ K := by have := hv.2.1.2; omega
  have thr : ∀ k : Int32, k ≠ 0 → ∀ a, f_X3_cover_27 M a k = some (0, sMD_thrown M k) := fun k hk a => by
    unfold f_X3_cover_27
    rw [z_lets, z_tk hk]
  unfold f_X2_cover f_X3_cover
  rw [n_absence hr hv.1.1 hx, m_absence_ hq hv.1.1 hx, z_some, z_some]
  by_cases c : 0 ≤ x ∧ x < r 4
  · rw [if_pos c, z_ir, decide_eq_true c, z_int, m_covererOf hq hv.1 c, z_some]
    obtain ⟨a, rfl⟩ : ∃ a : Nat, x = a := ⟨x.toNat, by omega⟩
    have hw := s_who_in hv.1 a
    have l9 : (z32 (s_who r a) = -1) ↔ (s_who r a = -1) := by
      rw [show (-1 : Int32) = z32 (-1) by decide]
      exact z32_eq ⟨by omega, by omega⟩ ⟨by omega, by omega⟩
    rw [x_nextCoverer hr hv.1 c.2, z_some]
    simp only [l9]
    by_cases d : s_who r a = -1
    · rw [if_pos d, if_pos d, thr 2 (by decide)]
      exact .inl ⟨_, 2, 0, rfl, rfl, k2, by decide⟩
    · rw [if_neg d, if_neg d]
      obtain ⟨S1, k', st', a1, a2, a3, a4, a5⟩ := xm_save (M := sMD_thrown M 0) hq hr hv hs
      obtain ⟨S2, b1, b2⟩ := x_coverOpen hr hv.1 c.2
      obtain ⟨f', c1, c2⟩ := m_covers (M := sMD_states (sMD_kept (sMD_thrown M 0) k') st') hq hv.1 c
      have hvn := v_cover hv (by omega) hK0 c
      have e3 : ST_coverers S2 a = z32 (s_who r a) := by
        have e := (b2.2.2.2.2.2 a (by rw [s_cover_4 hv.1 c (by omega)]; exact c.2)).2.2.2.1
        rw [e]
        congr 1
        have ho := (hv.1.2.2.1 a c).1
        unfold s_cover
        rw [if_neg d, s_cvr_ab (by omega) (by omega) (by omega) (by omega) (by omega), if_pos rfl, if_neg (by decide), if_neg (by decide), if_pos rfl]
      refine .inr ⟨z32 (s_who r a), sCM_now S1 S2, sMD_now (sMD_states (sMD_kept (sMD_thrown M 0) k') st') f', ?_, ?_, rfl, ?_⟩
      · unfold f_X2_cover_22
        show ((f_X2_save S).bind _) = _
        rw [a1, z_some, a3, b1, z_some]
        show (if q_in (z32 (a : Int)) 30 = true then some (Sum.inr (ST_coverers S2 (z32 (a : Int)).toNatClampNeg, sCM_now S1 S2)) else none) = _
        rw [if_pos (z_inT ⟨by omega, by omega, by omega⟩), z32_clamp (by omega), Int.toNat_natCast, e3]
      · unfold f_X3_cover_27
        rw [z_lets, z_t0, a2, z_some, c1, z_some]
      · refine s_inv_mk _ c2 hvn b2 (a5.mono (by omega)) ?_
        rw [show CM_or (sCM_now S1 S2) = CM_or S1 from rfl, a4]
        exact ht
  · rw [if_neg c, z_il, decide_eq_false c, z_inf, thr 1 (by decide)]
    exact .inl ⟨_, 1, 0, rfl, rfl, k1, by decide⟩
theorem sc_coverAll {K : Int} {S : CM} {M : MD} (h : s_inv K S M) (hK : K < 800000000) : ∃ v S' M', f_X2_coverAll S = some (v, S') ∧ f_X3_coverAll M = some (v, M') ∧ s_inv (K + 1500) S' M' := by
  obtain ⟨⟨r, hq, hv, hr⟩, hs, ht⟩ := h
  have h4 := hv.1.1.2.1
  have hK0 : 0 ≤ K := by have := hv.2.1.2; omega
  obtain ⟨S1, k', st', a1, a2, a3, a4, a5⟩ := xm_save (M := sMD_thrown M 0) hq hr hv hs
  obtain ⟨S2, b1, b2⟩ := x_coverAllOpen hr hv (by omega) hK0
  obtain ⟨f', c1, c2⟩ := m_coversAll (M := sMD_states (sMD_kept (sMD_thrown M 0) k') st') hq hv (by omega) hK0
  have hvn := (v_all hv (by omega) hK0 (r 4).toNat (by omega)).1
  refine ⟨z32 (s_alln r (r 4).toNat), sCM_now S1 S2, sMD_now (sMD_states (sMD_kept (sMD_thrown M 0) k') st') f', ?_, ?_, ?_⟩
  · unfold f_X2_coverAll
    rw [a1, z_some, a3, b1, z_some]
    rfl
  · unfold f_X3_coverAll
    show ((f_X3_records (sMD_thrown M 0)).bind _) = _
    rw [a2, z_some, c1, z_some]
  · refine s_inv_mk _ c2 (hvn.mono (by omega)) b2 (a5.mono (by omega)) ?_
    rw [show CM_or (sCM_now S1 S2) = CM_or S1 from rfl, a4]
    exact ht
theorem n_isCovered {S : ST} {r : Int → Int} (hx : x_rel S r) (hv : v_b r) {a : Nat} (ha : (a : Int) < r 4) : f_X1_isCovered S (z32 a) = some (z_B (s_cov r a)) := by
  have h4 := hv.2.1
  have i2 := hv.2.2.2 a 2 (by omega) (by omega)
  obtain ⟨-, -, x3, -⟩ := hx.2.2.2.2.2 a ha
  unfold f_X1_isCovered s_cov
  simp (disch := omega) only [z32_lit, z_in, if_true, z32_clamp, Int.toNat_natCast, x3, z32_eq]
  by_cases c1 : r (30 + 13 * (a : Int) + 2) = 1
  · rw [if_pos c1, decide_eq_true c1]; rfl
  · rw [if_neg c1, decide_eq_false c1]
    by_cases c2 : r (30 + 13 * (a : Int) + 2) = 2
    · rw [if_neg (fun z => z c2), decide_eq_true c2]; rfl
    · rw [if_pos c2, decide_eq_false c2]; rfl
/-- who covers in the shift can't cover there once more -/
theorem s_wnf_own {K : Int} {r : Int → Int} (hv : v_x K r) {a : Int} (ha : 0 ≤ a ∧ a < r 4) (hc : s_ct r a) : s_wnf r (r (30 + 13 * a + 3)) a ≠ 0 := by
  have h4 := hv.1.1.2.1
  intro h
  have e := s_wnf_cvs (hv.1.2.2.1 a ha).2 h
  rw [(s_cvs_t h4.1).mpr ⟨a, ha.1, ha.2, hc, rfl, rfl⟩] at e
  cases e
theorem sc_handOver {K : Int} {S : CM} {M : MD} (h : s_inv K S M) (hK : K < 900000000) {x y : Int} (hx : rng x) (hy : rng y) {code : String → Option Int32} (k1 : code "java/lang/IndexOutOfBoundsException" = some 1) (k2 : code "java/lang/IllegalStateException" = some 2) : s_res (K + 50) S M (f_X2_handOver S (z32 x) (z32 y)) (f_X3_handOver M (z32 x) (z32 y)) code := by
  obtain ⟨⟨r, hq, hv, hr⟩, hs, ht⟩ := h
  have h3 := hv.1.1.1
  have h4 := hv.1.1.2.1
  have hK0 : 0 ≤ K := by have := hv.2.1.2; omega
  have thr : ∀ k : Int32, k ≠ 0 → ∀ a b, f_X3_handOver_46 M a b k = some (0, sMD_thrown M k) := fun k hk a b => by
    unfold f_X3_handOver_46
    rw [z_lets, z_tk hk]
  have bad : ∀ a b, f_X2_handOver_38 S a b 0 = some (.inl "java/lang/IllegalStateException") := fun a b => rfl
  unfold f_X2_handOver f_X3_handOver
  rw [n_absence hr hv.1.1 hx, m_areThere hq hv.1.1 hy hx, z_some, z_some]
  by_cases c : 0 ≤ x ∧ x < r 4
  · rw [if_pos c, z_ir, n_person hr hv.1.1 hy, z_some]
    by_cases d : 0 ≤ y ∧ y < r 3
    · rw [if_pos d, z_ir, decide_eq_true ⟨d, c⟩, z_int, m_isCovered hq hv.1.1 (by omega), z_some]
      obtain ⟨a, rfl⟩ : ∃ a : Nat, x = a := ⟨x.toNat, by omega⟩
      obtain ⟨p, rfl⟩ : ∃ p : Nat, y = p := ⟨y.toNat, by omega⟩
      have i3 := hv.1.1.2.2.2 a 3 (by omega) (by omega)
      have hwn := s_wnf_in r p a
      rw [n_isCovered hr hv.1.1 c.2, z_some, x_hindrance hr hv.1 d.2 c.2, z_some, show (3 : Int32) = z32 3 from rfl, m_ofA hq (by omega) (by omega), z_some, m_whyNotFor hq hv.1.1 (by omega) (by omega) (hv.1.2.2.1 a c).2, z_some]
      have l8 : (z32 (r (30 + 13 * (a : Int) + 3)) = z32 (p : Int)) ↔ (r (30 + 13 * (a : Int) + 3) = p) := z32_eq i3 ⟨by omega, by omega⟩
      have l9 : (z32 (s_wnf r p a) = 0) ↔ (s_wnf r p a = 0) := z32_eq (y := 0) ⟨by omega, by omega⟩ ⟨by omega, by omega⟩
      simp only [l8, l9]
      by_cases e : s_cov r a = true
      · rw [e, z_ift, z_ift]
        have hct := s_cov_t.mp e
        have hown := s_wnf_own hv c hct
        by_cases g : s_wnf r p a = 0
        · have hne : ¬ r (30 + 13 * (a : Int) + 3) = p := fun z => hown (by rw [z]; exact g)
          rw [if_neg (fun z => z g), if_neg hne, if_neg (fun z => z g)]
          have hb := (hv.2.2.1 a c).2.1 hct
          have hpt := (hv.2.2.1 a c).2.2.2.1
          have hsh := (hv.1.2.2.1 a c).2
          obtain ⟨b, hb2⟩ : ∃ b : Nat, r (30 + 13 * (a : Int) + 3) = b := ⟨(r (30 + 13 * (a : Int) + 3)).toNat, by omega⟩
          obtain ⟨t, ht2⟩ : ∃ t : Nat, r (30 + 13 * (a : Int) + 1) = t := ⟨(r (30 + 13 * (a : Int) + 1)).toNat, by omega⟩
          obtain ⟨S1, k', st', a1, a2, a3, a4, a5⟩ := xm_save (M := sMD_thrown M 0) hq hr hv hs
          obtain ⟨S2, b1, b2⟩ := x_moveCover (b := b) (t := t) (pts := r (30 + 13 * (a : Int) + 4)) hr hv c.2 d.2 hct hb2 (by omega) ht2 rfl
          have hvn := v_ho hv (by omega) hK0 c d hct (s_wnf_cvs hsh g)
          rw [hb2] at hvn hb
          have q1 := hq.up (6 + 3 * (b : Int) + 1) (by omega) (r (6 + 3 * (b : Int) + 1) + -r (30 + 13 * (a : Int) + 4))
          have q2 := q1.up (6 + 3 * (p : Int) + 1) (by omega) (s_add r (6 + 3 * (b : Int) + 1) (-r (30 + 13 * (a : Int) + 4)) (6 + 3 * (p : Int) + 1) + r (30 + 13 * (a : Int) + 4))
          have q3 := q2.up (30 + 13 * (a : Int) + 3) (by omega) p
          have q4 := q3.up 5 (by omega) (q_up (s_add (s_add r (6 + 3 * (b : Int) + 1) (-r (30 + 13 * (a : Int) + 4))) (6 + 3 * (p : Int) + 1) (r (30 + 13 * (a : Int) + 4))) (30 + 13 * (a : Int) + 3) p 5 + 1)
          refine .inr ⟨z32 b, sCM_now S1 S2, sMD_now (sMD_states (sMD_kept (sMD_thrown M 0) k') st') _, ?_, ?_, rfl, s_inv_mk (s_ho r a b p (r (30 + 13 * (a : Int) + 4))) q4 hvn b2 (a5.mono (by omega)) ?_⟩
          · unfold f_X2_handOver_38
            show ((f_X2_save S).bind _) = _
            rw [a1, z_some, a3, if_pos (z_inT ⟨by omega, by omega, by omega⟩)]
            show ((f_X1_moveCover (CM_now S) (z32 (a : Int)) (z32 (p : Int))).bind fun r11 => some (Sum.inr (ST_coverers (CM_now S) (z32 (a : Int)).toNatClampNeg, sCM_now S1 r11))) = _
            rw [b1, z_some, z32_clamp (by omega), Int.toNat_natCast, (hr.2.2.2.2.2 a c.2).2.2.2.1, hb2]
          · unfold f_X3_handOver_46
            rw [z_lets, z_t0, show (3 : Int32) = z32 3 from rfl, show (4 : Int32) = z32 4 from rfl, m_ofA (M := sMD_thrown M 0) hq (by omega) (by omega), z_some, a2, z_some, m_ofA (M := sMD_states (sMD_kept (sMD_thrown M 0) k') st') hq (by omega) (by omega), z_some, hb2]
            simp (disch := omega) only [z32_lit, z64_lit, z32_mul, z32_add, z_in, if_true, z_lets, z32_to64]
            have g1 : MD_now (sMD_states (sMD_kept (sMD_thrown M (z32 0)) k') st') (z32 (6 + 3 * (b : Int) + 1)).toNatClampNeg = z64 (r (6 + 3 * (b : Int) + 1)) := hq.at (by omega)
            rw [g1, z64_sub, z32_clamp (x := 6 + 3 * (b : Int) + 1) (by omega)]
            have g2 := q1.at (x := 6 + 3 * (p : Int) + 1) (by omega)
            simp only [gs_MD_now, ss_MD_now]
            rw [show MD_now (sMD_states (sMD_kept (sMD_thrown M (z32 0)) k') st') = MD_now M from rfl, show r (6 + 3 * (b : Int) + 1) - r (30 + 13 * (a : Int) + 4) = r (6 + 3 * (b : Int) + 1) + -r (30 + 13 * (a : Int) + 4) by omega, g2, z64_add, z32_clamp (x := 6 + 3 * (p : Int) + 1) (by omega), m_becomes (by omega) (by omega) (by omega), z_some]
            simp only [gs_MD_now, ss_MD_now]
            have g3 := q3.at (x := 5) (by omega)
            rw [z32_clamp (x := 5) (by omega)]
            rw [z32_clamp (x := 5) (by omega)] at g3
            rw [show q_up r (6 + 3 * (b : Int) + 1) (r (6 + 3 * (b : Int) + 1) + -r (30 + 13 * (a : Int) + 4)) = s_add r (6 + 3 * (b : Int) + 1) (-r (30 + 13 * (a : Int) + 4)) from rfl, g3, z64_add]
            rfl
          · rw [show CM_or (sCM_now S1 S2) = CM_or S1 from rfl, a4]
            exact ht
        · rw [if_pos g, bad]
          refine .inl ⟨_, 2, 0, rfl, ?_, k2, by decide⟩
          split
          · exact thr 2 (by decide) _ _
          · exact thr 2 (by decide) _ _
      · rw [eq_false_of_ne_true e, if_pos (by decide), if_pos (by decide), thr 2 (by decide), bad]
        exact .inl ⟨_, 2, 0, rfl, rfl, k2, by decide⟩
    · rw [if_neg d, z_il, decide_eq_false (fun z => d z.1), z_inf, thr 1 (by decide)]
      exact .inl ⟨_, 1, 0, rfl, rfl, k1, by decide⟩
  · rw [if_neg c, z_il, decide_eq_false (fun z => c z.2), z_inf, thr 1 (by decide)]
    exact .inl ⟨_, 1, 0, rfl, rfl, k1, by decide⟩
theorem sc_giveUp {K : Int} {S : CM} {M : MD} (h : s_inv K S M) {x : Int} (hx : rng x) {code : String → Option Int32} (k1 : code "java/lang/IndexOutOfBoundsException" = some 1) (k2 : code "java/lang/IllegalStateException" = some 2) : s_res K S M (f_X2_giveUp S (z32 x)) (f_X3_giveUp M (z32 x)) code := by
  obtain ⟨⟨r, hq, hv, hr⟩, hs, ht⟩ := h
  have h3 := hv.1.1.1
  have h4 := hv.1.1.2.1
  have thr : ∀ k : Int32, k ≠ 0 → ∀ a, f_X3_giveUp_27 M a k = some (0, sMD_thrown M k) := fun k hk a => by
    unfold f_X3_giveUp_27
    rw [z_lets, z_tk hk]
  have bad : ∀ a, f_X2_giveUp_22 S a 0 = some (.inl "java/lang/IllegalStateException") := fun a => rfl
  unfold f_X2_giveUp f_X3_giveUp
  rw [n_absence hr hv.1.1 hx, m_absence_ hq hv.1.1 hx, z_some, z_some]
  by_cases c : 0 ≤ x ∧ x < r 4
  · obtain ⟨a, rfl⟩ : ∃ a : Nat, x = a := ⟨x.toNat, by omega⟩
    have i2 := hv.1.1.2.2.2 a 2 (by omega) (by omega)
    have x3 := (hr.2.2.2.2.2 a c.2).2.2.1
    rw [if_pos c, z_ir, decide_eq_true c, z_int, show (2 : Int32) = z32 2 from rfl, m_ofA hq (by omega) (by omega), z_some, if_pos (z_inT ⟨by omega, by omega, by omega⟩), z32_clamp (by omega), Int.toNat_natCast, x3]
    have l9 : (z32 (r (30 + 13 * (a : Int) + 2)) = 0) ↔ (r (30 + 13 * (a : Int) + 2) = 0) := z32_eq (y := 0) i2 ⟨by omega, by omega⟩
    simp only [l9]
    by_cases d : r (30 + 13 * (a : Int) + 2) = 0
    · rw [if_neg (fun z => z d), if_neg (fun z => z d)]
      obtain ⟨S1, k', st', a1, a2, a3, a4, a5⟩ := xm_save (M := sMD_thrown M 0) hq hr hv hs
      obtain ⟨B, b1, b2⟩ := x_dropBids (S := sST_statuses (CM_now S) (upd (ST_statuses (CM_now S)) a (z32 3))) (a := a) (by omega)
      have q1 := hq.up (30 + 13 * (a : Int) + 2) (by omega) 3
      obtain ⟨f', c1, c2⟩ := m_clearsBids (M := sMD_now (sMD_states (sMD_kept (sMD_thrown M 0) k') st') (vp_updL (MD_now M) (30 + 13 * (a : Int) + 2).toNat (z64 3))) (a := a) q1 (by omega)
      refine .inr ⟨z32 (s_cnt (s_nb8 r a) 8 : Nat), sCM_now S1 (sST_bids (sST_statuses (CM_now S) (upd (ST_statuses (CM_now S)) a (z32 3))) B), sMD_now (sMD_states (sMD_kept (sMD_thrown M 0) k') st') f', ?_, ?_, rfl, s_inv_mk (s_gu r a) c2 (v_gu hv c d) (x_rel_gu hr hv.1 c.2 d b2) a5 ?_⟩
      · unfold f_X2_giveUp_22
        show ((f_X2_save S).bind _) = _
        rw [a1, z_some, a3, x_bidsFor hr hv c.2, z_some, if_pos (z_inT ⟨by omega, by omega, by omega⟩), z32_clamp (by omega), Int.toNat_natCast]
        show ((f_X1_dropBids (sST_statuses (CM_now S) (upd (ST_statuses (CM_now S)) a (z32 3))) (z32 (a : Int))).bind _) = _
        rw [b1, z_some]
        rfl
      · unfold f_X3_giveUp_27
        rw [z_lets, z_t0, a2, z_some, m_bids (M := sMD_states (sMD_kept (sMD_thrown M 0) k') st') hq hv.1.1.2.2.2 (by omega), z_some, show (2 : Int32) = z32 2 from rfl, show (3 : Int32) = z32 3 from rfl, m_becomes (by omega) (by omega) (by omega), z_some]
        show ((f_X3_clearsBids (sMD_now (sMD_states (sMD_kept (sMD_thrown M 0) k') st') (vp_updL (MD_now M) (30 + 13 * (a : Int) + 2).toNat (z64 3))) (z32 (a : Int))).bind _) = _
        rw [c1, z_some]
        rfl
      · rw [show ∀ T, CM_or (sCM_now S1 T) = CM_or S1 from fun _ => rfl, a4]
        exact ht
    · rw [if_pos d, if_pos d, thr _ (by decide), bad]
      exact .inl ⟨_, 2, 0, rfl, rfl, k2, by decide⟩
  · rw [if_neg c, z_il, decide_eq_false c, z_inf, thr 1 (by decide)]
    exact .inl ⟨_, 1, 0, rfl, rfl, k1, by decide⟩
theorem sc_undo {K : Int} {S : CM} {M : MD} (h : s_inv K S M) {code : String → Option Int32} (k1 : code "java/lang/IllegalStateException" = some 1) : s_res K S M (f_X2_undo S) (f_X3_undo M) code := by
  obtain ⟨-, ⟨n, R, h1, h2, h3, h4⟩, ht⟩ := h
  by_cases c : n = 0
  · subst c
    refine .inl ⟨"java/lang/IllegalStateException", 1, 0, ?_, ?_, k1, by decide⟩
    · unfold f_X2_undo
      rw [if_pos (by rw [h2]; rfl)]
    · unfold f_X3_undo
      rw [h3, if_pos (by decide)]
      unfold f_X3_undo_13
      rw [z_lets, z_tk (show (1 : Int32) ≠ 0 by decide)]
  · obtain ⟨m, rfl⟩ : ∃ m, n = m + 1 := ⟨n - 1, by omega⟩
    obtain ⟨g1, g2, g3⟩ := h4 m (by omega)
    obtain ⟨f', b1, b2⟩ := m_brings (M := sMD_states (sMD_thrown M 0) (z32 m)) (c := m) (by omega)
    refine .inr ⟨z32 m, sCM_now (sCM_ss S (z32 m)) (cp_ST (CM_now S) (CM_sv S m)), sMD_now (sMD_states (sMD_thrown M 0) (z32 m)) f', x_undo_some (by omega) h2, ?_, rfl, s_inv_mk (R m) ?_ g2 (x_rel_cp g3 g2.1) ⟨m, R, by omega, rfl, rfl, fun j hj => h4 j (by omega)⟩ ht⟩
    · unfold f_X3_undo
      rw [h3, if_neg (by rw [show (0 : Int32) = z32 0 from rfl, z32_le ⟨by omega, by omega⟩ ⟨by omega, by omega⟩]; omega)]
      unfold f_X3_undo_13
      have e : MD_states (sMD_thrown M 0) - 1 = z32 m := by
        show MD_states M - 1 = _
        rw [h3, show (1 : Int32) = z32 1 from rfl, z32_sub]
        congr 1
        omega
      rw [z_lets, z_t0]
      show ((f_X3_brings (sMD_states (sMD_thrown M 0) (MD_states (sMD_thrown M 0) - 1)) (MD_states (sMD_thrown M 0) - 1)).bind _) = _
      rw [e, b1, z_some]
      rfl
    · intro i hi
      show f' i = _
      rw [b2 i hi]
      exact g1 i hi
theorem sc_coveredWith {K : Int} {S : CM} {M : MD} (h : s_inv K S M) (hK : K < 800000000) {x : Int} (hx : rng x) {code : String → Option Int32} (k1 : code "java/lang/IllegalArgumentException" = some 1) : s_res K S M (f_X2_coveredWith S (z32 x)) (f_X3_coveredWith M (z32 x)) code := by
  obtain ⟨⟨r, hq, hv, hr⟩, hs, ht⟩ := h
  have h4 := hv.1.1.2.1
  have hK0 : 0 ≤ K := by have := hv.2.1.2; omega
  have e1 : f_X2_needInRange (z32 x) (q_lows (0 : Int32).toNatClampNeg) (q_tops (0 : Int32).toNatClampNeg) = _ := n_range hx (l := 0) (h := 5) ⟨by omega, by omega⟩ ⟨by omega, by omega⟩
  have e2 : f_X3_isIn ((z32 x).toInt64) 0 5 = _ := m_range hx (l := 0) (h := 5) ⟨by omega, by omega⟩ ⟨by omega, by omega⟩
  unfold f_X2_coveredWith f_X3_coveredWith
  rw [if_pos (by decide), if_pos (by decide), e1, e2, z_some, z_some]
  by_cases c : 0 ≤ x ∧ x ≤ 5
  · rw [if_pos c, z_ir, decide_eq_true c, z_ift]
    have hvn := v_set (k := 0) (z := x) hv (by omega) (by omega) (by rw [if_neg (by decide), if_pos rfl]; exact c)
    have hxt : x_rel (cp_ST (CM_trial S) (CM_now S)) r := x_rel_cp hr hv.1
    have hxn := x_rel_set (k := 0) (z := x) hxt (by omega)
    obtain ⟨k', g1, g2⟩ := m_keeps (M := sMD_thrown M 0) (c := 4) (by omega)
    have hqn : q_row (MD_now (sMD_now (sMD_kept (sMD_thrown M 0) k') (vp_updL (MD_now M) 0 (z64 x)))) (q_up r 0 x) := hq.up 0 (by omega) x
    obtain ⟨S2, b1, b2⟩ := x_coverAllOpen hxn hvn (by omega) hK0
    obtain ⟨f', c1, c2⟩ := m_coversAll hqn hvn (by omega) hK0
    obtain ⟨f2, d1, d2⟩ := m_brings (M := sMD_now (sMD_kept (sMD_thrown M 0) k') f') (c := 4) (by omega)
    refine .inr ⟨z32 (s_alln (q_up r 0 x) (q_up r 0 x 4).toNat), sCM_trial (sCM_trial (sCM_trial S (cp_ST (CM_trial S) (CM_now S))) (sST_settings (cp_ST (CM_trial S) (CM_now S)) (upd (ST_settings (cp_ST (CM_trial S) (CM_now S))) 0 (z32 x)))) S2, sMD_now (sMD_kept (sMD_thrown M 0) k') f2, ?_, ?_, rfl, s_inv_mk r ?_ hv hr ?_ ht⟩
    · rw [z_lets, if_pos (by decide)]
      show ((f_X1_coverAllOpen (sST_settings (cp_ST (CM_trial S) (CM_now S)) (upd (ST_settings (cp_ST (CM_trial S) (CM_now S))) 0 (z32 x)))).bind _) = _
      rw [b1, z_some]
      rfl
    · unfold f_X3_coveredWith_18
      have g1 : f_X3_keeps (sMD_thrown M 0) 4 = _ := g1
      rw [z_lets, z_t0, g1, z_some, if_pos (by decide)]
      show ((f_X3_coversAll (sMD_now (sMD_kept (sMD_thrown M 0) k') (vp_updL (MD_now M) 0 ((z32 x).toInt64)))).bind _) = _
      rw [z32_to64 hx, c1, z_some]
      have d1 : f_X3_brings (sMD_now (sMD_kept (sMD_thrown M 0) k') f') 4 = _ := d1
      show ((f_X3_brings (sMD_now (sMD_kept (sMD_thrown M 0) k') f') 4).bind _) = _
      rw [d1, z_some]
      rfl
    · intro i hi
      show f2 i = _
      rw [d2 i hi]
      show k' (420 * 4 + i) = _
      rw [g2, if_pos (by omega), show 420 * 4 + i - 420 * 4 = i by omega]
      exact hq i hi
    · obtain ⟨n, R, h1, h2, h3, h5⟩ := hs
      refine ⟨n, R, h1, h2, h3, fun j hj => ?_⟩
      obtain ⟨y1, y2, y3⟩ := h5 j hj
      refine ⟨fun i hi => ?_, y2, y3⟩
      show k' (420 * j + i) = _
      rw [g2, if_neg (by omega)]
      exact y1 i hi
  · rw [if_neg c, z_il, decide_eq_false c, z_iff]
    refine .inl ⟨_, 1, 0, rfl, ?_, k1, by decide⟩
    unfold f_X3_coveredWith_18
    rw [z_lets, z_tk (show (1 : Int32) ≠ 0 by decide)]
theorem sc_append {K : Int} {S : CM} {M : MD} (h : s_inv K S M) {x : Int} (hx : rng x) {code : String → Option Int32} (k1 : code "java/lang/IllegalArgumentException" = some 1) (k2 : code "java/lang/IllegalStateException" = some 2) : s_res K S M (f_X2_append S (z32 x)) (f_X3_append M (z32 x)) code := by
  obtain ⟨hn, hs, len, h1, h2, h3, h4⟩ := h
  have e1 : f_X2_needInRange (z32 x) 0 127 = _ := n_range hx (l := 0) (h := 127) ⟨by omega, by omega⟩ ⟨by omega, by omega⟩
  have e2 : f_X3_isIn ((z32 x).toInt64) 0 127 = _ := m_range hx (l := 0) (h := 127) ⟨by omega, by omega⟩ ⟨by omega, by omega⟩
  have thr : ∀ k : Int32, k ≠ 0 → ∀ a, f_X3_append_31 M a k = some (0, sMD_thrown M k) := fun k hk a => by
    unfold f_X3_append_31
    rw [z_lets, z_tk hk]
  have el : (100 ≤ z32 (len : Int)) ↔ (100 ≤ len) := (z32_le (x := 100) ⟨by omega, by omega⟩ ⟨by omega, by omega⟩).trans (by omega)
  unfold f_X2_append f_X3_append
  rw [e1, e2, z_some, z_some, h2, h3]
  simp only [el]
  by_cases c : 0 ≤ x ∧ x ≤ 127
  · obtain ⟨v, rfl⟩ : ∃ v : Nat, x = v := ⟨x.toNat, by omega⟩
    rw [if_pos c, z_ir, decide_eq_true c, z_int]
    by_cases d : 100 ≤ len
    · rw [if_pos d, if_pos d, thr 2 (by decide)]
      exact .inl ⟨"java/lang/IllegalStateException", 2, 0, rfl, rfl, k2, by decide⟩
    · rw [if_neg d, if_neg d]
      refine .inr ⟨z32 ((len + 1 : Nat) : Int), sCM_or S (sOR_length (sOR_text (CM_or S) (upd (OR_text (CM_or S)) len (z32 v))) (z32 ((len + 1 : Nat) : Int))), sMD_length (sMD_text (sMD_thrown M 0) (upd (MD_text M) len (z32 v))) (z32 ((len + 1 : Nat) : Int)), ?_, ?_, rfl, hn, hs, ⟨len + 1, by omega, rfl, rfl, fun i hi => ?_⟩⟩
      · unfold f_X2_append_24
        show (if q_in (OR_length (CM_or S)) 100 = true then some (Sum.inr (OR_length (CM_or S) + 1, sCM_or (sCM_or S (sOR_text (CM_or S) (upd (OR_text (CM_or S)) (OR_length (CM_or S)).toNatClampNeg (z32 v)))) (sOR_length (sOR_text (CM_or S) (upd (OR_text (CM_or S)) (OR_length (CM_or S)).toNatClampNeg (z32 v))) (OR_length (CM_or S) + 1)))) else none) = _
        rw [h2, if_pos (z_inT ⟨by omega, by omega, by omega⟩), z32_clamp (by omega), Int.toNat_natCast, show (1 : Int32) = z32 1 from rfl, z32_add]
        rfl
      · unfold f_X3_append_31
        rw [z_lets, z_t0]
        show (if q_in (MD_length M) 100 = true then some (MD_length M + 1, sMD_length (sMD_text (sMD_thrown M 0) (upd (MD_text M) (MD_length M).toNatClampNeg (z32 v))) (MD_length M + 1)) else none) = _
        rw [h3, if_pos (z_inT ⟨by omega, by omega, by omega⟩), z32_clamp (by omega), Int.toNat_natCast, show (1 : Int32) = z32 1 from rfl, z32_add]
        rfl
      · show upd (OR_text (CM_or S)) len (z32 v) i = upd (MD_text M) len (z32 v) i ∧ ∃ c : Nat, c < 128 ∧ upd (MD_text M) len (z32 v) i = z32 c
        unfold upd
        by_cases e : i = len
        · rw [if_pos e, if_pos e]
          exact ⟨rfl, v, by omega, rfl⟩
        · rw [if_neg e, if_neg e]
          exact h4 i (by omega)
  · rw [if_neg c, z_il, decide_eq_false c, z_inf, thr 1 (by decide)]
    exact .inl ⟨_, 1, 0, rfl, rfl, k1, by decide⟩
theorem sc_clearText {K : Int} {S : CM} {M : MD} (h : s_inv K S M) : ∃ v S' M', f_X2_clearText S = some (v, S') ∧ f_X3_clearText M = some (v, M') ∧ s_inv K S' M' := by
  obtain ⟨hn, hs, len, h1, h2, h3, h4⟩ := h
  refine ⟨z32 len, sCM_or S (sOR_length (CM_or S) 0), sMD_length (sMD_thrown M 0) 0, ?_, ?_, hn, hs, ⟨0, by omega, rfl, rfl, fun i hi => absurd hi (Nat.not_lt_zero i)⟩⟩
  · unfold f_X2_clearText
    rw [h2]
    rfl
  · unfold f_X3_clearText
    show some (MD_length M, _) = _
    rw [h3]
