/-! p30: an absence is in a shift of the roster, a cover in none -/
def w_rs (r : Int → Int) : Prop := ∀ p t : Int, 0 ≤ p → p < r 3 → 0 ≤ t → t < 42 → (s_abs r p t = true → s_ros r p t = true) ∧ (s_cvs r p t = true → s_ros r p t = false)
theorem w_rs_low {r r' : Int → Int} (h3 : r' 3 = r 3) (h4 : r' 4 = r 4) (hp : ∀ p : Nat, (p : Int) < r 3 → r' (6 + 3 * (p : Int) + 0) = r (6 + 3 * (p : Int) + 0)) (ha : ∀ a : Nat, (a : Int) < r 4 → r' (30 + 13 * (a : Int) + 0) = r (30 + 13 * (a : Int) + 0) ∧ r' (30 + 13 * (a : Int) + 1) = r (30 + 13 * (a : Int) + 1) ∧ s_cov r' a = s_cov r a ∧ r' (30 + 13 * (a : Int) + 3) = r (30 + 13 * (a : Int) + 3)) (h : w_rs r) : w_rs r' := by
  intro p t h1 h2 h5 h6
  rw [h3] at h2
  obtain ⟨p, rfl⟩ : ∃ q : Nat, p = q := ⟨p.toNat, by omega⟩
  rw [s_abs_congr h4 (fun a h => ⟨(ha a h).1, (ha a h).2.1⟩), s_cvs_congr h4 (fun a h => ⟨(ha a h).2.2.1, (ha a h).2.1, (ha a h).2.2.2⟩)]
  have e : s_ros r' p t = s_ros r p t := by
    unfold s_ros
    rw [hp p h2]
  rw [e]
  exact h p t h1 h2 h5 h6
/-- a number of the row that neither shifts, persons, states nor rosters read -/
theorem w_rs_up {r : Int → Int} {k z : Int} (h3 : k ≠ 3) (h4 : k ≠ 4) (hp : ∀ p : Nat, (p : Int) < r 3 → 6 + 3 * (p : Int) + 0 ≠ k) (ha : ∀ a : Nat, (a : Int) < r 4 → 30 + 13 * (a : Int) + 0 ≠ k ∧ 30 + 13 * (a : Int) + 1 ≠ k ∧ 30 + 13 * (a : Int) + 2 ≠ k ∧ 30 + 13 * (a : Int) + 3 ≠ k) (h : w_rs r) : w_rs (q_up r k z) :=
  w_rs_low (q_up_ne (fun e => h3 e.symm)) (q_up_ne (fun e => h4 e.symm)) (fun p h => q_up_ne (hp p h)) (fun a h => ⟨q_up_ne (ha a h).1, q_up_ne (ha a h).2.1, s_cov_congr (q_up_ne (ha a h).2.2.1), q_up_ne (ha a h).2.2.2⟩) h
theorem w_rs_np {K : Int} {r : Int → Int} {z : Int} (hv : v_x K r) (hP : r 3 < 8) (h : w_rs r) : w_rs (s_np r z) := by
  have h3 := hv.1.1.1
  have h4 := hv.1.1.2.1
  intro p t h1 h2 h5 h6
  rw [s_np_at (i := 3) h3.1, if_pos rfl] at h2
  have e4 : s_np r z 4 = r 4 := by rw [s_np_at h3.1, if_neg (by omega), if_neg (by omega), if_neg (by omega), if_neg (by omega)]
  have eb : ∀ (a : Nat) (k : Int), 0 ≤ k → s_np r z (30 + 13 * (a : Int) + k) = r (30 + 13 * (a : Int) + k) := fun a k hk => by rw [s_np_at h3.1, if_neg (by omega), if_neg (by omega), if_neg (by omega), if_neg (by omega)]
  rw [s_abs_congr e4 (fun a _ => ⟨eb a 0 (by omega), eb a 1 (by omega)⟩), s_cvs_congr e4 (fun a _ => ⟨s_cov_congr (eb a 2 (by omega)), eb a 1 (by omega), eb a 3 (by omega)⟩)]
  by_cases c : p = r 3
  · refine ⟨fun e => ?_, fun e => ?_⟩
    · obtain ⟨a, g1, g2, g3, g4⟩ := (s_abs_t h4.1).mp e
      have := (hv.1.2.2.1 a ⟨g1, g2⟩).1
      omega
    · obtain ⟨a, g1, g2, g3, g4, g5⟩ := (s_cvs_t h4.1).mp e
      have := (hv.2.2.1 a ⟨g1, g2⟩).2.1 g3
      omega
  · have e : s_ros (s_np r z) p t = s_ros r p t := by
      unfold s_ros
      rw [s_np_at h3.1, if_neg (by omega), if_neg (by omega), if_neg (by omega), if_neg (by omega)]
    rw [e]
    exact h p t h1 (by omega) h5 h6
theorem w_rs_fl {K : Int} {r : Int → Int} {p t : Nat} (hv : v_x K r) (hp : (p : Int) < r 3) (ht : t < 42) (g1 : s_abs r p t = false) (g2 : s_cvs r p t = false) (h : w_rs r) : w_rs (q_up r (6 + 3 * (p : Int) + 0) (s_fl r p t)) := by
  have h3 := hv.1.1.1
  intro q i h1 h2 h5 h6
  rw [q_up_ne (by omega)] at h2
  rw [s_abs_congr (q_up_ne (by omega)) (fun a _ => ⟨q_up_ne (by omega), q_up_ne (by omega)⟩), s_cvs_congr (q_up_ne (by omega)) (fun a _ => ⟨s_cov_congr (q_up_ne (by omega)), q_up_ne (by omega), q_up_ne (by omega)⟩)]
  by_cases c : q = p
  · subst c
    obtain ⟨i, rfl⟩ : ∃ j : Nat, i = j := ⟨i.toNat, by omega⟩
    by_cases d : i = t
    · subst d
      rw [g1, g2]
      exact ⟨fun e => (by cases e), fun e => (by cases e)⟩
    · have e : s_ros (q_up r (6 + 3 * (p : Int) + 0) (s_fl r p t)) p i = s_ros r p i := by
        unfold s_ros
        rw [q_up_eq rfl, s_fl_z, b6_xor, Int.toNat_natCast, b6_bit t (by omega) (by omega), decide_eq_false d, Bool.xor_false]
      rw [e]
      exact h p i h1 h2 h5 h6
  · have e : s_ros (q_up r (6 + 3 * (p : Int) + 0) (s_fl r p t)) q i = s_ros r q i := by
      unfold s_ros
      rw [q_up_ne (by omega)]
    rw [e]
    exact h q i h1 h2 h5 h6
theorem w_rs_ad {r : Int → Int} {p t : Int} (hN : 0 ≤ r 4) (h3 : 0 ≤ r 3 ∧ r 3 ≤ 8) (hr : s_ros r p t = true) (h : w_rs r) : w_rs (s_ad r p t) := by
  intro q i h1 h2 h5 h6
  rw [s_ad_lo hN (by omega), if_neg (by decide)] at h2
  have e : s_ros (s_ad r p t) q i = s_ros r q i := by
    unfold s_ros
    rw [s_ad_lo hN (by omega), if_neg (by omega)]
  rw [e, s_ad_abs hN, s_ad_cvs hN]
  have g := h q i h1 h2 h5 h6
  refine ⟨fun z => ?_, g.2⟩
  rw [Bool.or_eq_true, Bool.and_eq_true, decide_eq_true_iff, decide_eq_true_iff] at z
  rcases z with z | ⟨z1, z2⟩
  · exact g.1 z
  · subst z1
    subst z2
    exact hr
theorem w_wnf_ros {r : Int → Int} {p a : Int} (ht : 0 ≤ r (30 + 13 * a + 1) ∧ r (30 + 13 * a + 1) < 42) (h : s_wnf r p a = 0) : s_ros r p (r (30 + 13 * a + 1)) = false := by
  unfold s_wnf at h
  by_cases c : r (30 + 13 * a + 0) = p
  · rw [if_pos c] at h; omega
  · rw [if_neg c] at h
    unfold s_why at h
    by_cases c1 : s_abs r p (r (30 + 13 * a + 1)) = true
    · rw [if_pos c1] at h; omega
    · rw [if_neg c1] at h
      by_cases c2 : s_wrk r p (r (30 + 13 * a + 1)) = true
      · rw [if_pos c2] at h; omega
      · unfold s_wrk at c2
        rw [decide_eq_true (show 0 ≤ r (30 + 13 * a + 1) ∧ r (30 + 13 * a + 1) ≤ 41 by omega), Bool.true_and, eq_false_of_ne_true c1, Bool.not_false, Bool.and_true] at c2
        cases e : s_ros r p (r (30 + 13 * a + 1))
        · rfl
        · rw [e, Bool.true_or] at c2
          exact absurd rfl c2
theorem w_rs_cover {K : Int} {r : Int → Int} {a : Int} (hv : v_x K r) (ha : 0 ≤ a ∧ a < r 4) (h : w_rs r) : w_rs (s_cover r a) := by
  have h3 := hv.1.1.1
  have h4 := hv.1.1.2.1
  have ho := (hv.1.2.2.1 a ha).1
  have hsh := (hv.1.2.2.1 a ha).2
  have hw := s_who_in hv.1 a
  unfold s_cover
  by_cases c : s_who r a = -1
  · rw [if_pos c]; exact h
  · rw [if_neg c]
    have h0 := s_who_open c
    have hn := w_wnf_ros hsh (s_who_w c)
    obtain ⟨a, rfl⟩ : ∃ q : Nat, a = q := ⟨a.toNat, by omega⟩
    have hst : (if s_byb r a = true then (1 : Int) else 2) = 1 ∨ (if s_byb r a = true then (1 : Int) else 2) = 2 := by
      split
      · exact .inl rfl
      · exact .inr rfl
    generalize (if s_byb r a = true then (1 : Int) else 2) = st at hst
    generalize s_byb r a = b
    generalize s_cpt r a = pts
    intro q i h1 h2 h5 h6
    rw [s_cvr_lo (by omega) (by omega) (by omega) (by omega)] at h2
    rw [s_cvr_abs (by omega) (by omega) (by omega) h4, s_cvr_cvs ha.2 (by omega) (by omega) h4 hst h0]
    have e : s_ros (s_cvr r a (s_who r a) b pts st) q i = s_ros r q i := by
      unfold s_ros
      rw [(s_cvr_ps (by omega) (by omega) (by omega) (by omega)).1]
    rw [e]
    have g := h q i h1 h2 h5 h6
    refine ⟨g.1, fun z => ?_⟩
    rw [Bool.or_eq_true, Bool.and_eq_true, decide_eq_true_iff, decide_eq_true_iff] at z
    rcases z with z | ⟨z1, z2⟩
    · exact g.2 z
    · rw [← z1, ← z2]
      exact hn
theorem w_rs_all {K : Int} {r : Int → Int} (hv : v_x K r) (hK : K < 900000000) (hK0 : 0 ≤ K) (h : w_rs r) : ∀ n : Nat, (n : Int) ≤ r 4 → w_rs (s_all r n) := by
  intro n
  induction n with
  | zero => intro _; exact h
  | succ n ih =>
    intro hn
    have g := v_all hv hK hK0 n (by omega)
    exact w_rs_cover g.1 ⟨by omega, by rw [g.2 4 (by omega)]; omega⟩ (ih (by omega))
theorem w_rs_ho {K : Int} {r : Int → Int} {a p b : Int} (hv : v_x K r) (ha : 0 ≤ a ∧ a < r 4) (hp : 0 ≤ p ∧ p < r 3) (hc0 : s_ct r a) (hb : r (30 + 13 * a + 3) = b) (hn : s_ros r p (r (30 + 13 * a + 1)) = false) (h : w_rs r) : w_rs (s_ho r a b p (r (30 + 13 * a + 4))) := by
  have h3 := hv.1.1.1
  have h4 := hv.1.1.2.1
  have hbb := (hv.2.2.1 a ha).2.1 hc0
  rw [hb] at hbb
  intro q i h1 h2 h5 h6
  rw [s_ho_lo (by omega) (by omega) (by omega) (by omega), if_neg (by decide)] at h2
  have e : s_ros (s_ho r a b p (r (30 + 13 * a + 4))) q i = s_ros r q i := by
    unfold s_ros
    rw [s_ho_ps (by omega) (by omega) (by omega) (by omega) (by omega), if_neg (by omega), if_neg (by omega), Int.add_zero, Int.sub_zero]
  have e4 : s_ho r a b p (r (30 + 13 * a + 4)) 4 = r 4 := by rw [s_ho_lo (by omega) (by omega) (by omega) (by omega), if_neg (by decide)]
  have ea : s_abs (s_ho r a b p (r (30 + 13 * a + 4))) q i = s_abs r q i := s_abs_congr e4 (fun c _ => ⟨by rw [s_ho_ab (by omega) (by omega) (by omega) (by omega), if_neg (by omega)], by rw [s_ho_ab (by omega) (by omega) (by omega) (by omega), if_neg (by omega)]⟩) q i
  rw [e, ea]
  have g := h q i h1 h2 h5 h6
  refine ⟨g.1, fun z => ?_⟩
  rw [← hb] at z
  rcases (s_ho_cvs hv ha hp hc0 q i).mp z with ⟨z1, z2⟩ | ⟨-, z⟩
  · rw [z1, ← z2]
    exact hn
  · exact g.2 z
theorem w_rs_gu {K : Int} {r : Int → Int} {a : Int} (hv : v_x K r) (ha : 0 ≤ a ∧ a < r 4) (hs : r (30 + 13 * a + 2) = 0) (h : w_rs r) : w_rs (s_gu r a) := by
  have h3 := hv.1.1.1
  refine w_rs_low (s_gu_lo ha.1 (by omega)) (s_gu_lo ha.1 (by omega)) (fun p hp => s_gu_lo ha.1 (by omega)) (fun c hc => ⟨?_, ?_, ?_, ?_⟩) h
  · rw [s_gu_ab (by omega)]
    split
    · rw [if_neg (by omega), if_pos (by omega)]
    · rfl
  · rw [s_gu_ab (by omega)]
    split
    · rw [if_neg (by omega), if_pos (by omega)]
    · rfl
  · by_cases d : (c : Int) = a
    · unfold s_cov
      rw [s_gu_ab (by omega), if_pos d, if_pos rfl, d, hs]
      rfl
    · exact s_cov_congr (by rw [s_gu_ab (by omega), if_neg d])
  · rw [s_gu_ab (by omega)]
    split
    · rw [if_neg (by omega), if_pos (by omega)]
    · rfl
