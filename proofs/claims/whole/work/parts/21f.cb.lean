/-! the reference's value of a code, and the greatest -/
theorem m_cb6 {K : Int} {M : MD} {r : Int → Int} (hq : q_row (MD_now M) r) (hv : v_x K r) {P : Nat} (hP : r 3 = P ∧ P ≤ 8) {L : List Nat} (hL : L.length ≤ 5) (ho : ∀ j, j < L.length → MD_open M j = z32 (L.getD j 0 : Nat) ∧ ((L.getD j 0 : Nat) : Int) < r 4 ∧ MD_able M j = s_able r (L.getD j 0 : Nat) P) {c : Nat} (hc : c < 100000) : ∀ (f i m : Nat), i ≤ L.length → L.length < f + i → m ≤ i → f_X3_coveredBy_6 M f (z32 (c : Nat)) (z32 (L.length : Nat)) (z32 ((P + 1 : Nat) : Int)) (z32 (m : Nat)) (z32 (i : Nat)) = some (z32 (g_cv r (g_dig (P + 1) c) (L.drop i) i (g_hf r (g_dig (P + 1) c) (fun j => L.getD j 0) i) m)) := by
  intro f
  induction f with
  | zero => intro i m h1 h2; omega
  | succ f ih =>
    intro i m h1 h2 h3
    rw [f_X3_coveredBy_6]
    have L1 : (z32 (L.length : Int) ≤ z32 (i : Int)) ↔ L.length ≤ i := (z32_le ⟨by omega, by omega⟩ ⟨by omega, by omega⟩).trans (by omega)
    by_cases c1 : L.length ≤ i
    · rw [if_pos (L1.mpr c1), List.drop_eq_nil_of_le c1, g_cv]
    · obtain ⟨oi1, oi2, oi3⟩ := ho i (by omega)
      have dl := g_dig_lt (B := P + 1) (by omega) i c
      have ej : z32 (i : Int) + 1 = z32 ((i + 1 : Nat) : Int) := by
        rw [show (1 : Int32) = z32 1 from rfl, z32_add]
        rfl
      have em : z32 (m : Int) + 1 = z32 ((m + 1 : Nat) : Int) := by
        rw [show (1 : Int32) = z32 1 from rfl, z32_add]
        rfl
      have L2 : (z32 ((g_dig (P + 1) c i : Nat) - 1 : Int) = -1) ↔ g_dig (P + 1) c i = 0 := (z32_eq (y := -1) ⟨by omega, by omega⟩ ⟨by omega, by omega⟩).trans (by omega)
      rw [if_neg (fun z => c1 (L1.mp z)), m_takes ⟨by omega, by omega⟩ (by omega) hc, z_some, ej, em, g_drop L i (by omega), g_cv]
      by_cases c2 : g_dig (P + 1) c i = 0
      · have ih1 := ih (i + 1) m (by omega) (by omega) (by omega)
        rw [g_hf, if_pos c2] at ih1
        rw [if_pos (L2.mpr c2), if_pos c2, z_lets, ih1]
      · obtain ⟨p, hp⟩ : ∃ p, g_dig (P + 1) c i = p + 1 := ⟨g_dig (P + 1) c i - 1, by omega⟩
        have ih1 := ih (i + 1) (m + 1) (by omega) (by omega) (by omega)
        rw [g_hf, if_neg c2, hp, show p + 1 - 1 = p by omega] at ih1
        have hok : g_ok r (g_hf r (g_dig (P + 1) c) (fun j => L.getD j 0) i) p ((L.getD i 0 : Nat) : Int) = (decide (s_wnf r p ((L.getD i 0 : Nat) : Int) = 0) && !s_any (g_t r (g_dig (P + 1) c) (fun j => L.getD j 0) p (r (30 + 13 * ((L.getD i 0 : Nat) : Int) + 1))) i) := by
          unfold g_ok
          rw [g_hf_cl]
        rw [if_neg (fun z => c2 (L2.mp z)), if_neg c2, z_lets, if_pos (z_inT ⟨by omega, by omega, by omega⟩), z32_clamp (by omega), Int.toNat_natCast, oi3, hp, show p + 1 - 1 = p by omega, show (((p + 1 : Nat) : Int) - 1) = p by omega, hok]
        have gb := g_bit (r := r) (a := ((L.getD i 0 : Nat) : Int)) (p := p) (P := P) (by omega) hP.2
        by_cases c3 : s_wnf r p ((L.getD i 0 : Nat) : Int) = 0
        · have e5 := m_cb50 hq hv (B := P + 1) (n := L.length) (c := c) (m := m + 1) (i := i) (p := p) ⟨by omega, by omega⟩ hL hc (by omega) (o := fun j => L.getD j 0) (fun j hj => ⟨(ho j hj).1, (ho j hj).2.1⟩) (by omega) 2000 0 (by omega) (by omega) (fun k hk => absurd hk (by omega))
          have e5 : f_X3_coveredBy_50 M 2000 (z32 (c : Nat)) (z32 (L.length : Nat)) (z32 ((P + 1 : Nat) : Int)) (z32 ((m + 1 : Nat) : Int)) (z32 (i : Nat)) (z32 (p : Nat)) 0 = _ := e5
          rw [if_pos (fun z => gb.mp z c3), e5, z_some, decide_eq_true c3, Bool.true_and]
          by_cases c4 : s_any (g_t r (g_dig (P + 1) c) (fun j => L.getD j 0) p (r (30 + 13 * ((L.getD i 0 : Nat) : Int) + 1))) i = true
          · have c5 : s_any (g_t r (g_dig (P + 1) c) (fun j => L.getD j 0) p (r (30 + 13 * (((fun j => L.getD j 0) i : Nat) : Int) + 1))) i = true := c4
            rw [if_pos c5, c4, if_neg (by decide)]
            rfl
          · have c5 : ¬ s_any (g_t r (g_dig (P + 1) c) (fun j => L.getD j 0) p (r (30 + 13 * (((fun j => L.getD j 0) i : Nat) : Int) + 1))) i = true := c4
            rw [if_neg c5, eq_false_of_ne_true c4, if_pos (by decide)]
            show q_let (z32 (i : Int) + 1) (fun v23 => f_X3_coveredBy_6 M f (z32 (c : Nat)) (z32 (L.length : Nat)) (z32 ((P + 1 : Nat) : Int)) (z32 ((m + 1 : Nat) : Int)) v23) = _
            rw [z_lets, ej, ih1]
            rfl
        · rw [if_neg (fun z => z (gb.mpr c3)), decide_eq_false c3, Bool.false_and, if_neg (by decide)]
          rfl
theorem m_cb {K : Int} {M : MD} {r : Int → Int} (hq : q_row (MD_now M) r) (hv : v_x K r) {P : Nat} (hP : r 3 = P ∧ P ≤ 8) {L : List Nat} (hL : L.length ≤ 5) (ho : ∀ j, j < L.length → MD_open M j = z32 (L.getD j 0 : Nat) ∧ ((L.getD j 0 : Nat) : Int) < r 4 ∧ MD_able M j = s_able r (L.getD j 0 : Nat) P) {c : Nat} (hc : c < 100000) : f_X3_coveredBy M (z32 (c : Nat)) (z32 (L.length : Nat)) (z32 ((P + 1 : Nat) : Int)) = some (z32 (g_cv r (g_dig (P + 1) c) L 0 [] 0)) := m_cb6 hq hv hP hL ho hc 2000 0 0 (by omega) (by omega) (by omega)
theorem m_mc101 {M : MD} {C n B g : Nat} (hC : C < 60000) (hg : g ≤ 5) {v : Nat → Int} (hv : ∀ c, c < C → f_X3_coveredBy M (z32 (c : Nat)) (z32 (n : Nat)) (z32 (B : Nat)) = some (z32 (v c)) ∧ -1 ≤ v c ∧ v c ≤ g) : ∀ (f c m : Nat), c ≤ C → C < f + c → m ≤ g → (m = g ∨ ∃ c0, c ≤ c0 ∧ c0 < C ∧ v c0 = g) → f_X3_mostCovered_101 f M (z32 (n : Nat)) (z32 (B : Nat)) (z32 (C : Nat)) (z32 (m : Nat)) (z32 (c : Nat)) = some (z32 (g : Nat), M) := by
  intro f
  induction f with
  | zero => intro c m h1 h2; omega
  | succ f ih =>
    intro c m h1 h2 h3 h4
    rw [f_X3_mostCovered_101]
    have L1 : (z32 (C : Int) ≤ z32 (c : Int)) ↔ C ≤ c := (z32_le ⟨by omega, by omega⟩ ⟨by omega, by omega⟩).trans (by omega)
    by_cases c1 : C ≤ c
    · rw [if_pos (L1.mpr c1)]
      rcases h4 with e | ⟨c0, x1, x2, x3⟩
      · rw [e]
      · omega
    · obtain ⟨v1, v2, v3⟩ := hv c (by omega)
      have ej : z32 (c : Int) + 1 = z32 ((c + 1 : Nat) : Int) := by
        rw [show (1 : Int32) = z32 1 from rfl, z32_add]
        rfl
      have L2 : (z32 (v c) ≤ z32 (m : Int)) ↔ v c ≤ m := z32_le ⟨by omega, by omega⟩ ⟨by omega, by omega⟩
      rw [if_neg (fun z => c1 (L1.mp z)), v1, z_some, ej]
      by_cases c2 : v c ≤ m
      · rw [if_pos (L2.mpr c2), z_lets]
        refine ih (c + 1) m (by omega) (by omega) h3 ?_
        rcases h4 with e | ⟨c0, x1, x2, x3⟩
        · exact .inl e
        · by_cases d : c0 = c
          · rw [d] at x3
            exact .inl (by omega)
          · exact .inr ⟨c0, by omega, x2, x3⟩
      · rw [if_neg (fun z => c2 (L2.mp z)), z_lets]
        obtain ⟨w, hw⟩ : ∃ w : Nat, v c = w := ⟨(v c).toNat, by omega⟩
        rw [hw]
        refine ih (c + 1) w (by omega) (by omega) (by omega) ?_
        rcases h4 with e | ⟨c0, x1, x2, x3⟩
        · omega
        · by_cases d : c0 = c
          · rw [d] at x3
            exact .inl (by omega)
          · exact .inr ⟨c0, by omega, x2, x3⟩
theorem m_mc79 {K : Int} {M : MD} {r : Int → Int} (hq : q_row (MD_now M) r) (hv : v_x K r) {P : Nat} (hP : r 3 = P ∧ P ≤ 8) {L : List Nat} (hL : L.length ≤ 5) (ho : ∀ j, j < L.length → MD_open M j = z32 (L.getD j 0 : Nat) ∧ ((L.getD j 0 : Nat) : Int) < r 4 ∧ MD_able M j = s_able r (L.getD j 0 : Nat) P) : ∀ (f i : Nat), i ≤ L.length → L.length < f + i → f_X3_mostCovered_79 f M (z32 (L.length : Nat)) (z32 ((P + 1 : Nat) : Int)) (z32 (((P + 1) ^ i : Nat) : Int)) (z32 (i : Nat)) = some (z32 (g_best r P L [] : Nat), M) := by
  intro f
  induction f with
  | zero => intro i h1 h2; omega
  | succ f ih =>
    intro i h1 h2
    rw [f_X3_mostCovered_79]
    have L1 : (z32 (L.length : Int) ≤ z32 (i : Int)) ↔ L.length ≤ i := (z32_le ⟨by omega, by omega⟩ ⟨by omega, by omega⟩).trans (by omega)
    by_cases c1 : L.length ≤ i
    · have e : i = L.length := by omega
      have gl := g_best_le r P L []
      have hC : (P + 1) ^ L.length ≤ 59049 := by
        have h5 := Nat.pow_le_pow_left (show P + 1 ≤ 9 by omega) L.length
        have h6 := Nat.pow_le_pow_right (show 0 < 9 by decide) hL
        have h7 : (9 : Nat) ^ 5 = 59049 := by decide
        omega
      rw [if_pos (L1.mpr c1), e]
      obtain ⟨d, d1, d2⟩ := g_cv_ex (r := r) (P := P) L 0 [] 0
      have d3 : ∀ j, d j < P + 1 := fun j => by have := d1 j; omega
      refine m_mc101 (g := g_best r P L []) (v := fun c => g_cv r (g_dig (P + 1) c) L 0 [] 0) (by omega) (by omega) (fun c hc => ⟨m_cb hq hv hP hL ho (by omega), ?_⟩) 60000 0 0 (by omega) (by omega) (by omega) (.inr ⟨g_code (P + 1) d L.length 0, by omega, g_code_lt d3 _ _, ?_⟩)
      · have := g_cv_le (r := r) (P := P) (d := g_dig (P + 1) c) (fun j => by have := g_dig_lt (B := P + 1) (by omega) j c; omega) L 0 [] 0 (by omega)
        show -1 ≤ g_cv r (g_dig (P + 1) c) L 0 [] 0 ∧ g_cv r (g_dig (P + 1) c) L 0 [] 0 ≤ _
        omega
      · show g_cv r (g_dig (P + 1) (g_code (P + 1) d L.length 0)) L 0 [] 0 = _
        rw [g_cv_congr (d' := d) L 0 [] 0 (fun j h1 h2 => by rw [g_dig_code d3 L.length 0 j (by omega), Nat.zero_add]), d2]
        omega
    · have ej : z32 (i : Int) + 1 = z32 ((i + 1 : Nat) : Int) := by
        rw [show (1 : Int32) = z32 1 from rfl, z32_add]
        rfl
      have em : z32 (((P + 1) ^ i : Nat) : Int) * z32 ((P + 1 : Nat) : Int) = z32 (((P + 1) ^ (i + 1) : Nat) : Int) := by
        rw [z32_mul, ← Int.natCast_mul, ← Nat.pow_succ]
      rw [if_neg (fun z => c1 (L1.mp z)), z_lets, z_lets, em, ej]
      exact ih (i + 1) (by omega) (by omega)
