/-! an order is obeyed by both -/
/-- what is left of the invariants while orders are carried out -/
theorem s_inv.now {K K' : Int} {S : CM} {M : MD} (h : s_inv K S M) (hK : K ≤ K') {r : Int → Int} {T : ST} {f : Nat → Int64} (h1 : q_row f r) (h2 : v_x K' r) (h3 : x_rel T r) : s_inv K' (sCM_now S T) (sMD_now M f) := ⟨⟨r, h1, h2, h3⟩, h.2.1.mono hK, h.2.2⟩
theorem xm_obey {K : Int} {S : CM} {M : MD} (h : s_inv K S M) (hK : K < 800000000) {tx : Nat → Int32} {L A E k p n q fr nu ki f1 f2 f3 B : Int32} {r0 : t_r} (ho : CM_or S = OP tx L A E k p n q) (hc : t_cl r0 k p n q) (hm : t_mo r0 ki f1 f2 f3) (hr0 : t_in r0) : ∃ c T f', f_X2_obey S = some (z_B c, sCM_now S T) ∧ f_X3_does (MP M B fr nu ki f1 f2 f3) = some (z_B c, MP (sMD_now M f') B fr nu ki f1 f2 f3) ∧ s_inv (K + 1500) (sCM_now S T) (sMD_now M f') := by
  have h0 := h
  obtain ⟨⟨r, hq, hv, hr⟩, hs, ht⟩ := h
  have h3 := hv.1.1.1
  have h4 := hv.1.1.2.1
  have hK0 : 0 ≤ K := by have := hv.2.1.2; omega
  have same : s_inv (K + 1500) (sCM_now S (CM_now S)) (sMD_now M (MD_now M)) := h0.mono (by omega)
  have hqM : q_row (MD_now (MP M B fr nu ki f1 f2 f3)) r := hq
  unfold f_X2_obey f_X3_does
  rw [ho]
  rcases hr0 with ⟨e0, r1, r2⟩ | ⟨e0, r1, r2, r3⟩ | ⟨e0, r1⟩ | e0
  · -- absent
    rcases hc with ⟨-, rfl, rfl, rfl⟩ | ⟨z, -⟩ | ⟨z, -⟩ | ⟨z, -⟩ <;> try omega
    rcases hm with ⟨-, rfl, rfl, rfl⟩ | ⟨z, -⟩ | ⟨z, -⟩ | ⟨z, -⟩ <;> try omega
    generalize hx : r0.2.1 = x at *
    generalize hy : r0.2.2.1 = y at *
    show ∃ c T f', (if z32 97 = 97 then ((f_X2_obeyAbsent S (z32 x) (z32 y)).bind _) else _) = _ ∧ (if ¬ z32 0 = 0 then _ else ((f_X3_isPerson (MP M B fr nu (z32 0) (z32 x) (z32 y) f3) (z32 x)).bind fun r20 => if r20 = 0 then f_X3_does_38 (MP M B fr nu (z32 0) (z32 x) (z32 y) f3) 0 else ((f_X3_mayBeAbsent (MP M B fr nu (z32 0) (z32 x) (z32 y) f3) (z32 x) (z32 y)).bind fun r24 => if r24 = 0 then f_X3_does_38 (MP M B fr nu (z32 0) (z32 x) (z32 y) f3) 0 else f_X3_does_38 (MP M B fr nu (z32 0) (z32 x) (z32 y) f3) 1))) = _ ∧ _
    rw [if_pos (show z32 97 = 97 from rfl), if_neg (show ¬ ¬ z32 0 = 0 by decide), m_person_ (M := MP M B fr nu (z32 0) (z32 x) (z32 y) f3) hq hv.1.1 ⟨by omega, by omega⟩, z_some]
    unfold f_X2_obeyAbsent
    rw [n_hasP hr hv.1.1 ⟨by omega, by omega⟩, z_some]
    by_cases c : 0 ≤ x ∧ x < r 3
    · obtain ⟨p, rfl⟩ : ∃ p : Nat, x = p := ⟨x.toNat, by omega⟩
      obtain ⟨t, rfl⟩ : ∃ t : Nat, y = t := ⟨y.toNat, by omega⟩
      rw [decide_eq_true c, z_ift, z_ift, n_canBeAbsent hr hv.1 c.2 (by omega), z_some, m_mayBeAbsent (M := MP M B fr nu (z32 0) (z32 (p : Int)) (z32 (t : Int)) f3) hq hv.1.1 r1 r2, z_some]
      by_cases e : (s_ros r p t && (!s_abs r p t && decide (r 4 < 30))) = true
      · rw [e, z_int, z_ift]
        rw [Bool.and_eq_true, Bool.and_eq_true, decide_eq_true_iff, Bool.not_eq_true'] at e
        obtain ⟨S2, b1, b2⟩ := x_enterAbsence (p := p) (t := t) hr hv e.2.2 c.2 (by omega)
        obtain ⟨f', c1, c2⟩ := m_adds (M := MP M B fr nu (z32 0) (z32 (p : Int)) (z32 (t : Int)) f3) (p := p) (t := t) hq ⟨h4.1, e.2.2⟩ r1 r2
        refine ⟨true, S2, f', ?_, ?_, h0.now (by omega) c2 ((v_ad hv e.2.2 c r2 e.2.1).mono (by omega)) b2⟩
        · rw [b1, z_some]
          rfl
        · unfold f_X3_does_38
          rw [if_neg (show ¬ (1 : Int32) = 0 by decide)]
          show ((f_X3_adds (MP M B fr nu (z32 0) (z32 (p : Int)) (z32 (t : Int)) f3) (z32 (p : Int)) (z32 (t : Int))).bind _) = _
          rw [c1, z_some]
          rfl
      · rw [eq_false_of_ne_true e, z_inf, z_iff]
        exact ⟨false, CM_now S, MD_now M, rfl, rfl, same⟩
    · rw [decide_eq_false c, z_iff, z_iff]
      exact ⟨false, CM_now S, MD_now M, rfl, rfl, same⟩
  · -- bid
    rcases hc with ⟨z, -⟩ | ⟨-, rfl, rfl, rfl, rfl⟩ | ⟨z, -⟩ | ⟨z, -⟩ <;> try omega
    rcases hm with ⟨z, -⟩ | ⟨-, rfl, rfl, rfl, rfl⟩ | ⟨z, -⟩ | ⟨z, -⟩ <;> try omega
    generalize hx : r0.2.1 = x at *
    generalize hy : r0.2.2.1 = y at *
    generalize hw : r0.2.2.2 = w at *
    have h2 := hv.1.2.2.2.2.2
    have es : ST_settings (CM_now S) (2 : Int32).toNatClampNeg = z32 (r 2) := hr.1 2 (by omega)
    have em : MD_now M (2 : Int32).toNatClampNeg = z64 (r 2) := hq.at (x := 2) (by omega)
    have e2 : f_X3_isIn ((z32 w).toInt64) 0 (z64 (r 2)) = _ := m_range (l := 0) (h := r 2) ⟨by omega, by omega⟩ ⟨by omega, by omega⟩ ⟨by omega, by omega⟩
    show ∃ c T f', (if z32 98 = 97 then _ else (if z32 98 = 98 then ((f_X2_obeyBid S (z32 x) (z32 y) (z32 w)).bind _) else _)) = _ ∧ (if ¬ z32 1 = 0 then (if ¬ z32 1 = 1 then _ else ((f_X3_isPerson (MP M B fr nu (z32 1) (z32 x) (z32 y) (z32 w)) (z32 x)).bind fun r9 => if r9 = 0 then f_X3_does_126 (MP M B fr nu (z32 1) (z32 x) (z32 y) (z32 w)) 0 else ((f_X3_isAbsence (MP M B fr nu (z32 1) (z32 x) (z32 y) (z32 w)) (z32 y)).bind fun r13 => if r13 = 0 then f_X3_does_126 (MP M B fr nu (z32 1) (z32 x) (z32 y) (z32 w)) 0 else (if q_in 2 420 = true then ((f_X3_isIn ((z32 w).toInt64) 0 (MD_now M (2 : Int32).toNatClampNeg)).bind fun r16 => if r16 = 0 then f_X3_does_126 (MP M B fr nu (z32 1) (z32 x) (z32 y) (z32 w)) 0 else ((f_X3_mayBid (MP M B fr nu (z32 1) (z32 x) (z32 y) (z32 w)) (z32 x) (z32 y)).bind fun r18 => if r18 = 0 then f_X3_does_126 (MP M B fr nu (z32 1) (z32 x) (z32 y) (z32 w)) 0 else f_X3_does_126 (MP M B fr nu (z32 1) (z32 x) (z32 y) (z32 w)) 1)) else none)))) else _) = _ ∧ _
    rw [if_neg (show ¬ z32 98 = 97 by decide), if_pos (show z32 98 = 98 from rfl), if_pos (show ¬ z32 1 = 0 by decide), if_neg (show ¬ ¬ z32 1 = 1 by decide), m_person_ (M := MP M B fr nu (z32 1) (z32 x) (z32 y) (z32 w)) hq hv.1.1 ⟨by omega, by omega⟩, z_some]
    unfold f_X2_obeyBid
    rw [n_hasP hr hv.1.1 ⟨by omega, by omega⟩, z_some]
    by_cases c : 0 ≤ x ∧ x < r 3
    · rw [decide_eq_true c, z_ift, z_ift, n_hasA hr hv.1.1 ⟨by omega, by omega⟩, z_some, m_absence_ (M := MP M B fr nu (z32 1) (z32 x) (z32 y) (z32 w)) hq hv.1.1 ⟨by omega, by omega⟩, z_some]
      by_cases d : 0 ≤ y ∧ y < r 4
      · obtain ⟨p, rfl⟩ : ∃ p : Nat, x = p := ⟨x.toNat, by omega⟩
        obtain ⟨a, rfl⟩ : ∃ a : Nat, y = a := ⟨y.toNat, by omega⟩
        have Lw : (z32 (r 2) < z32 w) ↔ r 2 < w := z32_lt ⟨by omega, by omega⟩ ⟨by omega, by omega⟩
        rw [decide_eq_true d, z_int, z_ift, if_pos (show q_in 2 3 = true by decide), if_pos (show q_in 2 420 = true by decide), es, em, e2, z_some]
        by_cases e : w ≤ r 2
        · rw [if_neg (fun z => by have := Lw.mp z; omega), decide_eq_true ⟨r3.1, e⟩, z_ift, n_canBid hr hv.1.1 ⟨by omega, by omega⟩ d.2, z_some, m_mayBid (M := MP M B fr nu (z32 1) (z32 (p : Int)) (z32 (a : Int)) (z32 w)) hq hv.1.1 ⟨by omega, by omega⟩ d, z_some]
          by_cases g : r (30 + 13 * (a : Int) + 2) = 0 ∧ r (30 + 13 * (a : Int) + 0) ≠ (p : Int)
          · rw [decide_eq_true g, z_int, z_ift, x_bidIndex, z_some]
            have hxn := x_rel_bid (z := w) hr hv.1 d.2 (show p < 8 by omega)
            have hvn := v_bid hv d c (z := w) (by omega) g.1
            have hqn := hq.up (30 + 13 * (a : Int) + (5 + (p : Int))) (by omega) w
            refine ⟨true, sST_bids (CM_now S) (upd (ST_bids (CM_now S)) (8 * a + p) (z32 w)), vp_updL (MD_now M) (30 + 13 * (a : Int) + (5 + (p : Int))).toNat (z64 w), ?_, ?_, h0.now (by omega) hqn (hvn.mono (by omega)) hxn⟩
            · rw [if_pos (z_inT ⟨by omega, by omega, by omega⟩), z32_clamp (by omega), Int.toNat_natCast]
              rfl
            · unfold f_X3_does_126
              rw [if_neg (show ¬ (1 : Int32) = 0 by decide)]
              show ((f_X3_becomes (MP M B fr nu (z32 1) (z32 (p : Int)) (z32 (a : Int)) (z32 w)) (z32 (a : Int)) (5 + z32 (p : Int)) (z32 w)).bind _) = _
              rw [show (5 : Int32) = z32 5 from rfl, z32_add, m_becomes (by omega) (by omega) (by omega), z_some]
              rfl
          · rw [decide_eq_false g, z_inf, z_iff]
            exact ⟨false, CM_now S, MD_now M, rfl, rfl, same⟩
        · rw [if_pos (Lw.mpr (by omega)), decide_eq_false (fun z => e z.2), z_iff]
          exact ⟨false, CM_now S, MD_now M, rfl, rfl, same⟩
      · rw [decide_eq_false d, z_inf, z_iff]
        exact ⟨false, CM_now S, MD_now M, rfl, rfl, same⟩
    · rw [decide_eq_false c, z_iff, z_iff]
      exact ⟨false, CM_now S, MD_now M, rfl, rfl, same⟩
  · -- cover
    rcases hc with ⟨z, -⟩ | ⟨z, -⟩ | ⟨-, rfl, rfl⟩ | ⟨z, -⟩ <;> try omega
    rcases hm with ⟨z, -⟩ | ⟨z, -⟩ | ⟨-, rfl, rfl⟩ | ⟨z, -⟩ <;> try omega
    generalize hx : r0.2.1 = x at *
    show ∃ c T f', (if z32 99 = 97 then _ else (if z32 99 = 98 then _ else (if z32 99 = 99 then ((f_X1_hasAbsence (CM_now S) (z32 x)).bind fun r8 => if r8 = 0 then some (0, S) else ((f_X1_coverOpen (CM_now S) (z32 x)).bind _)) else _))) = _ ∧ (if ¬ z32 2 = 0 then (if ¬ z32 2 = 1 then (if ¬ z32 2 = 2 then _ else ((f_X3_isAbsence (MP M B fr nu (z32 2) (z32 x) f2 f3) (z32 x)).bind fun r5 => if r5 = 0 then some (0, MP M B fr nu (z32 2) (z32 x) f2 f3) else ((f_X3_covers (MP M B fr nu (z32 2) (z32 x) f2 f3) (z32 x)).bind fun r7 => if r7.1 = -1 then some (0, r7.2) else some (1, r7.2)))) else _) else _) = _ ∧ _
    rw [if_neg (show ¬ z32 99 = 97 by decide), if_neg (show ¬ z32 99 = 98 by decide), if_pos (show z32 99 = 99 from rfl), if_pos (show ¬ z32 2 = 0 by decide), if_pos (show ¬ z32 2 = 1 by decide), if_neg (show ¬ ¬ z32 2 = 2 by decide), n_hasA hr hv.1.1 ⟨by omega, by omega⟩, z_some, m_absence_ (M := MP M B fr nu (z32 2) (z32 x) f2 f3) hq hv.1.1 ⟨by omega, by omega⟩, z_some]
    by_cases c : 0 ≤ x ∧ x < r 4
    · obtain ⟨a, rfl⟩ : ∃ a : Nat, x = a := ⟨x.toNat, by omega⟩
      have hw := s_who_in hv.1 a
      obtain ⟨S2, b1, b2⟩ := x_coverOpen hr hv.1 c.2
      obtain ⟨f', c1, c2⟩ := m_covers (M := MP M B fr nu (z32 2) (z32 (a : Int)) f2 f3) hq hv.1 c
      have hvn := v_cover hv (by omega) hK0 c
      rw [decide_eq_true c, z_ift, z_ift, b1, z_some, z_lets, c1, z_some]
      have l9 : (z32 (s_who r a) = -1) ↔ (s_who r a = -1) := by
        rw [show (-1 : Int32) = z32 (-1) by decide]
        exact z32_eq ⟨by omega, by omega⟩ ⟨by omega, by omega⟩
      by_cases d : s_who r a = -1
      · refine ⟨false, S2, f', ?_, ?_, h0.now (by omega) c2 (hvn.mono (by omega)) b2⟩
        · rw [decide_eq_false (fun z => z d)]
          rfl
        · rw [if_pos (l9.mpr d)]
          rfl
      · refine ⟨true, S2, f', ?_, ?_, h0.now (by omega) c2 (hvn.mono (by omega)) b2⟩
        · rw [decide_eq_true d]
          rfl
        · rw [if_neg (fun z => d (l9.mp z))]
          rfl
    · rw [decide_eq_false c, z_iff, z_iff]
      exact ⟨false, CM_now S, MD_now M, rfl, rfl, same⟩
  · -- all
    rcases hc with ⟨z, -⟩ | ⟨z, -⟩ | ⟨z, -⟩ | ⟨-, rfl⟩ <;> try omega
    rcases hm with ⟨z, -⟩ | ⟨z, -⟩ | ⟨z, -⟩ | ⟨-, rfl⟩ <;> try omega
    obtain ⟨S2, b1, b2⟩ := x_coverAllOpen hr hv (by omega) hK0
    obtain ⟨f', c1, c2⟩ := m_coversAll (M := MP M B fr nu (z32 3) f1 f2 f3) hq hv (by omega) hK0
    have hvn := (v_all hv (by omega) hK0 (r 4).toNat (by omega)).1
    show ∃ c T f', (if z32 122 = 97 then _ else (if z32 122 = 98 then _ else (if z32 122 = 99 then _ else ((f_X1_coverAllOpen (CM_now S)).bind _)))) = _ ∧ (if ¬ z32 3 = 0 then (if ¬ z32 3 = 1 then (if ¬ z32 3 = 2 then ((f_X3_coversAll (MP M B fr nu (z32 3) f1 f2 f3)).bind _) else _) else _) else _) = _ ∧ _
    rw [if_neg (show ¬ z32 122 = 97 by decide), if_neg (show ¬ z32 122 = 98 by decide), if_neg (show ¬ z32 122 = 99 by decide), if_pos (show ¬ z32 3 = 0 by decide), if_pos (show ¬ z32 3 = 1 by decide), if_pos (show ¬ z32 3 = 2 by decide), b1, z_some, c1, z_some]
    exact ⟨true, S2, f', rfl, rfl, h0.now (by omega) c2 (hvn.mono (by omega)) b2⟩
