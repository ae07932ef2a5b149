theorem ss_MD_now (S : MD) (v w : Nat → Int64) : sMD_now (sMD_now S v) w = sMD_now S w := rfl
/-- a is covered by p for so many points -/
def s_cv1 (r : Int → Int) (a p pts st : Int) : Int → Int := s_clr (q_up (q_up (q_up r (30 + 13 * a + 2) st) (30 + 13 * a + 3) p) (30 + 13 * a + 4) pts) a 0
def s_add (r : Int → Int) (k z : Int) : Int → Int := q_up r k (r k + z)
def s_cvr (r : Int → Int) (a p : Int) (b : Bool) (pts st : Int) : Int → Int := s_add (s_add (s_add (s_cv1 r a p pts st) (6 + 3 * p + 1) pts) (6 + 3 * r (30 + 13 * a + 0) + 1) (-pts)) (6 + 3 * p + 2) (if b = true then 0 else 1)
theorem m_covers_64 {M : MD} {r : Int → Int} (h : q_row (MD_now M) r) {a p pts st : Int} (b : Bool) (ha : 0 ≤ a ∧ a < 30) (hp : 0 ≤ p ∧ p < 8) (hw : 0 ≤ r (30 + 13 * a + 0) ∧ r (30 + 13 * a + 0) < 8) (hq : -2147483648 ≤ pts ∧ pts < 2147483648) (hs : 0 ≤ st ∧ st < 4) : ∃ f', f_X3_covers_64 M (z32 a) (z32 p) (z_B b) (z32 pts) (z32 st) (z32 2) (z32 a) = some (z32 p, sMD_now M f') ∧ q_row f' (s_cvr r a p b pts st) := by
  have h1 := h.up (30 + 13 * a + 2) (by omega) st
  have h2 := h1.up (30 + 13 * a + 3) (by omega) p
  have h3 := h2.up (30 + 13 * a + 4) (by omega) pts
  obtain ⟨f4, e4, h4⟩ := m_clearsBids (M := sMD_now M (vp_updL (vp_updL (vp_updL (MD_now M) (30 + 13 * a + 2).toNat (z64 st)) (30 + 13 * a + 3).toNat (z64 p)) (30 + 13 * a + 4).toNat (z64 pts))) (a := a) h3 ha
  have h4 : q_row f4 (s_cv1 r a p pts st) := h4
  have w4 : s_cv1 r a p pts st (30 + 13 * a + 0) = r (30 + 13 * a + 0) := by
    unfold s_cv1 s_clr q_up
    rw [if_neg (by omega), if_neg (by omega), if_neg (by omega), if_neg (by omega)]
  have h5 := h4.up (6 + 3 * p + 1) (by omega) (s_cv1 r a p pts st (6 + 3 * p + 1) + pts)
  have w5 : q_up (s_cv1 r a p pts st) (6 + 3 * p + 1) (s_cv1 r a p pts st (6 + 3 * p + 1) + pts) (30 + 13 * a + 0) = r (30 + 13 * a + 0) := by
    unfold q_up
    rw [if_neg (by omega)]; exact w4
  have h6 := h5.up (6 + 3 * r (30 + 13 * a + 0) + 1) (by omega) (s_add (s_cv1 r a p pts st) (6 + 3 * p + 1) pts (6 + 3 * r (30 + 13 * a + 0) + 1) + -pts)
  have h7 := h6.up (6 + 3 * p + 2) (by omega) (s_add (s_add (s_cv1 r a p pts st) (6 + 3 * p + 1) pts) (6 + 3 * r (30 + 13 * a + 0) + 1) (-pts) (6 + 3 * p + 2) + (if b = true then 0 else 1))
  refine ⟨_, ?_, h7⟩
  unfold f_X3_covers_64
  rw [show (3 : Int32) = z32 3 from rfl, show (4 : Int32) = z32 4 from rfl, m_becomes ha (by omega) (by omega), z_some, m_becomes ha (by omega) (by omega), z_some, m_becomes ha (by omega) hq, z_some]
  simp only [gs_MD_now, ss_MD_now] at e4 ⊢
  rw [e4, z_some]
  simp (disch := omega) only [z32_lit, z32_mul, z32_add, z_in, if_true, z_lets, gs_MD_now, ss_MD_now, z32_to64]
  rw [h4.at (x := 6 + 3 * p + 1) (by omega), z64_add, z32_clamp (by omega), m_ofA (M := sMD_now M (vp_updL f4 (6 + 3 * p + 1).toNat (z64 (s_cv1 r a p pts st (6 + 3 * p + 1) + pts)))) h5 ha (by omega), w5, z_some]
  simp (disch := omega) only [z32_lit, z32_mul, z32_add, z_in, if_true, z_lets, gs_MD_now, ss_MD_now]
  rw [h5.at (x := 6 + 3 * r (30 + 13 * a + 0) + 1) (by omega), z64_sub, z32_clamp (x := 6 + 3 * r (30 + 13 * a + 0) + 1) (by omega), show q_up (s_cv1 r a p pts st) (6 + 3 * p + 1) (s_cv1 r a p pts st (6 + 3 * p + 1) + pts) (6 + 3 * r (30 + 13 * a + 0) + 1) - pts = s_add (s_cv1 r a p pts st) (6 + 3 * p + 1) pts (6 + 3 * r (30 + 13 * a + 0) + 1) + -pts from rfl, h6.at (x := 6 + 3 * p + 2) (by omega), z32_clamp (x := 6 + 3 * p + 2) (by omega)]
  simp only [z_B0, z64_lit, z64_add]
  cases b
  · rfl
  · rfl
/-- the row behind covering a, if it can be -/
def s_byb (r : Int → Int) (a : Int) : Bool := decide (s_bb r a (r 3).toNat ≠ -1)
def s_cpt (r : Int → Int) (a : Int) : Int := if s_byb r a = true then r (30 + 13 * a + (5 + s_who r a)) else r 1
def s_cover (r : Int → Int) (a : Int) : Int → Int := if s_who r a = -1 then r else s_cvr r a (s_who r a) (s_byb r a) (s_cpt r a) (if s_byb r a = true then 1 else 2)
theorem s_who_in {r : Int → Int} (hv : v_r r) (a : Int) : -1 ≤ s_who r a ∧ s_who r a < r 3 := by
  have h3 := hv.1.1
  have b1 := s_bb_in r a (r 3).toNat
  have b2 := s_nt_in r a (r 3).toNat
  unfold s_who
  split
  · split <;> omega
  · omega
theorem m_covers {M : MD} {r : Int → Int} (h : q_row (MD_now M) r) (hv : v_r r) {a : Int} (ha : 0 ≤ a ∧ a < r 4) : ∃ f', f_X3_covers M (z32 a) = some (z32 (s_who r a), sMD_now M f') ∧ q_row f' (s_cover r a) := by
  have h3 := hv.1.1
  have h4 := hv.1.2.1
  have hw := s_who_in hv a
  have hb := s_bb_in r a (r 3).toNat
  have ho := (hv.2.2.1 a ha).1
  have h1 := hv.2.2.2.2.1
  unfold f_X3_covers s_cover
  rw [m_covererOf h hv ha, z_some, m_bestBidder h hv ha, z_some]
  simp (disch := omega) only [z32_lit, z32_neg, z32_eq]
  by_cases c : s_who r a = -1
  · rw [if_neg (fun z => z c), if_pos c]
    exact ⟨MD_now M, by rw [c]; rfl, h⟩
  · rw [if_pos c, if_neg c]
    unfold f_X3_covers_27
    by_cases d : s_bb r a (r 3).toNat = -1
    · have e : s_byb r a = false := decide_eq_false (fun z => z d)
      rw [if_pos d, show s_cpt r a = r 1 by unfold s_cpt; rw [e]; rfl, e]
      obtain ⟨f', g1, g2⟩ := m_covers_64 h (a := a) (p := s_who r a) (pts := r 1) (st := 2) false (by omega) (by omega) (by omega) (by omega) (by omega)
      refine ⟨f', ?_, g2⟩
      simp (disch := omega) only [z32_lit, z_in, if_true, z_lets]
      rw [h.at (by omega), z64_to32]
      exact g1
    · have e : s_byb r a = true := decide_eq_true d
      have i0 := hv.1.2.2.2 a (5 + s_who r a) (by omega) (by omega)
      rw [if_neg d, show s_cpt r a = r (30 + 13 * a + (5 + s_who r a)) by unfold s_cpt; rw [e]; rfl, e]
      obtain ⟨f', g1, g2⟩ := m_covers_64 h (a := a) (p := s_who r a) (pts := r (30 + 13 * a + (5 + s_who r a))) (st := 1) true (by omega) (by omega) (by omega) i0 (by omega)
      refine ⟨f', ?_, g2⟩
      simp (disch := omega) only [z32_lit, z32_add, z_in, if_true, z_lets, z32_eq, m_ofA h, z_some]
      exact g1
