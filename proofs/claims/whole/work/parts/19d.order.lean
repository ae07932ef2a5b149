/-! the reference reads an order -/
theorem m_ps_y {b : Nat → Int} {len : Nat} (hb : t_b b len) {M : MD} (hx : t_x b len (MD_text M)) (hl : MD_length M = z32 len) {a : Nat} (ha : a ≤ len) (fr nu ki f1 f2 f3 : Int32) {s : Int} (hs : 0 ≤ s ∧ s < 128) (c : b a = s) : f_X3_passes (MP M (z32 a) fr nu ki f1 f2 f3) (z32 s) (z32 s) = some (1, MP M (z32 ((a + 1 : Nat) : Int)) fr (z32 (b a - 48)) ki f1 f2 f3) := m_passes_y hb hx hl ha fr nu ki f1 f2 f3 hs hs (by omega)
theorem m_ps_n {b : Nat → Int} {len : Nat} (hb : t_b b len) {M : MD} (hx : t_x b len (MD_text M)) (hl : MD_length M = z32 len) {a : Nat} (ha : a ≤ len) (fr nu ki f1 f2 f3 : Int32) {s : Int} (hs : 0 ≤ s ∧ s < 128) (c : b a ≠ s) : f_X3_passes (MP M (z32 a) fr nu ki f1 f2 f3) (z32 s) (z32 s) = some (0, MP M (z32 a) fr nu ki f1 f2 f3) := m_passes_n hb hx hl ha fr nu ki f1 f2 f3 hs hs (by omega)
def t_mr (M : MD) (x : Option t_r × Nat) (y : Option (Int32 × MD)) : Prop := ∃ fr nu ki f1 f2 f3, y = some (z_B x.1.isSome, MP M (z32 (x.2 : Int)) fr nu ki f1 f2 f3) ∧ ∀ r, x.1 = some r → t_mo r ki f1 f2 f3
theorem t_mr_none {M : MD} {j : Nat} {fr nu ki f1 f2 f3 : Int32} : t_mr M (none, j) (some (0, MP M (z32 j) fr nu ki f1 f2 f3)) := ⟨fr, nu, ki, f1, f2, f3, rfl, fun r h => by cases h⟩
theorem m_semi {b : Nat → Int} {len : Nat} (hb : t_b b len) {M : MD} (hx : t_x b len (MD_text M)) (hl : MD_length M = z32 len) {a : Nat} (ha : a ≤ len) {fr nu ki f1 f2 f3 : Int32} {r : t_r} (hr : t_mo r ki f1 f2 f3) : t_mr M (s_semi r b a) (f_X3_passesOrder_96 (MP M (z32 a) fr nu ki f1 f2 f3) 1) := by
  unfold f_X3_passesOrder_96 s_semi
  rw [if_neg (show ¬ (1 : Int32) = 0 by decide)]
  by_cases c : b a = 59
  · have e : f_X3_passes (MP M (z32 a) fr nu ki f1 f2 f3) 59 59 = _ := m_ps_y hb hx hl ha fr nu ki f1 f2 f3 (s := 59) (by omega) c
    rw [e, z_some, if_pos c, if_neg (show ¬ (1 : Int32) = 0 by decide)]
    exact ⟨_, _, _, _, _, _, rfl, fun r' h => by cases h; exact hr⟩
  · have e : f_X3_passes (MP M (z32 a) fr nu ki f1 f2 f3) 59 59 = _ := m_ps_n hb hx hl ha fr nu ki f1 f2 f3 (s := 59) (by omega) c
    rw [e, z_some, if_neg c, if_pos (show (0 : Int32) = 0 from rfl)]
    exact t_mr_none
theorem m_96n (M : MD) : f_X3_passesOrder_96 M 0 = some (0, M) := rfl
theorem m_order {b : Nat → Int} {len : Nat} (hb : t_b b len) {M : MD} (hx : t_x b len (MD_text M)) (hl : MD_length M = z32 len) {a : Nat} (ha : a ≤ len) (fr nu ki f1 f2 f3 : Int32) : t_mr M (s_ord b a) (f_X3_passesOrder (MP M (z32 a) fr nu ki f1 f2 f3)) := by
  have h1 := hb.1
  unfold f_X3_passesOrder s_ord
  have r48 : (0 : Int) ≤ 48 ∧ (48 : Int) < 128 := by omega
  have r55 : (0 : Int) ≤ 55 ∧ (55 : Int) < 128 := by omega
  by_cases c1 : b a = 97
  · have l0 := hb.lt (i := a) (by omega)
    have e : f_X3_passes (MP M (z32 a) fr nu ki f1 f2 f3) 97 97 = _ := m_ps_y hb hx hl ha fr nu ki f1 f2 f3 (s := 97) (by omega) c1
    rw [e, z_some, if_neg (show ¬ (1 : Int32) = 0 by decide), z_lets, if_pos c1]
    unfold f_X3_passesAbsence
    show t_mr M _ (((f_X3_passes (MP M (z32 ((a + 1 : Nat) : Int)) fr (z32 (b a - 48)) (z32 0) f1 f2 f3) (z32 48) (z32 55)).bind _).bind _)
    by_cases c2 : 48 ≤ b (a + 1) ∧ b (a + 1) ≤ 55
    · have l1 := hb.lt (i := a + 1) (by omega)
      rw [m_passes_y hb hx hl (show a + 1 ≤ len by omega) _ _ _ _ _ _ r48 r55 c2, z_some, if_pos c2, if_pos (show ¬ (1 : Int32) = 0 by decide), z_lets]
      show t_mr M _ (((f_X3_passes (MP M (z32 ((a + 2 : Nat) : Int)) fr (z32 (b (a + 1) - 48)) (z32 0) (z32 (b (a + 1) - 48)) f2 f3) (z32 44) (z32 44)).bind _).bind _)
      by_cases c3 : b (a + 2) = 44
      · have l2 := hb.lt (i := a + 2) (by omega)
        rw [m_ps_y hb hx hl (show a + 2 ≤ len by omega) _ _ _ _ _ _ (by omega) c3, z_some, if_pos c3, if_neg (show ¬ (1 : Int32) = 0 by decide)]
        obtain ⟨fr', nu', g1, g2⟩ := m_num hb hx hl (show a + 3 ≤ len by omega) fr (z32 (b (a + 2) - 48)) (z32 0) (z32 (b (a + 1) - 48)) f2 f3 (mx := 41) (by omega)
        show t_mr M _ (((f_X3_passesNumber (MP M (z32 ((a + 3 : Nat) : Int)) fr (z32 (b (a + 2) - 48)) (z32 0) (z32 (b (a + 1) - 48)) f2 f3) (z32 41)).bind _).bind _)
        rw [g1, z_some]
        have hle := s_num_le hb (show a + 3 ≤ len by omega) 41
        cases d : (s_num b (a + 3) 41).1 with
        | none =>
          rw [s_on_none d]
          show t_mr M _ ((if ¬ z_B false = 0 then _ else some ((0 : Int32), MP M (z32 ((s_num b (a + 3) 41).2 : Int)) fr' nu' (z32 0) (z32 (b (a + 1) - 48)) f2 f3)).bind _)
          rw [z_inf, z_some, m_96n]
          exact t_mr_none
        | some v =>
          rw [s_on_some d]
          obtain rfl := g2 v d
          show t_mr M _ ((if ¬ z_B true = 0 then some ((1 : Int32), MP M (z32 ((s_num b (a + 3) 41).2 : Int)) fr' (z32 v) (z32 0) (z32 (b (a + 1) - 48)) (z32 v) f3) else _).bind _)
          rw [z_int, z_some]
          exact m_semi hb hx hl hle (.inl ⟨rfl, rfl, rfl, rfl⟩)
      · rw [m_ps_n hb hx hl (show a + 2 ≤ len by omega) _ _ _ _ _ _ (by omega) c3, z_some, if_neg c3, if_pos (show (0 : Int32) = 0 from rfl), z_some, m_96n]
        exact t_mr_none
    · rw [m_passes_n hb hx hl (show a + 1 ≤ len by omega) _ _ _ _ _ _ r48 r55 c2, z_some, if_neg c2, if_neg (show ¬ ¬ (0 : Int32) = 0 from fun z => z rfl), z_some, m_96n]
      exact t_mr_none
  have e : f_X3_passes (MP M (z32 a) fr nu ki f1 f2 f3) 97 97 = _ := m_ps_n hb hx hl ha fr nu ki f1 f2 f3 (s := 97) (by omega) c1
  rw [e, z_some, if_pos (show (0 : Int32) = 0 from rfl), if_neg c1]
  by_cases c4 : b a = 98
  · have l0 := hb.lt (i := a) (by omega)
    have e : f_X3_passes (MP M (z32 a) fr nu ki f1 f2 f3) 98 98 = _ := m_ps_y hb hx hl ha fr nu ki f1 f2 f3 (s := 98) (by omega) c4
    rw [e, z_some, if_neg (show ¬ (1 : Int32) = 0 by decide), z_lets, if_pos c4]
    unfold f_X3_passesBid
    show t_mr M _ (((f_X3_passes (MP M (z32 ((a + 1 : Nat) : Int)) fr (z32 (b a - 48)) (z32 1) f1 f2 f3) (z32 48) (z32 55)).bind _).bind _)
    by_cases c2 : 48 ≤ b (a + 1) ∧ b (a + 1) ≤ 55
    · have l1 := hb.lt (i := a + 1) (by omega)
      rw [m_passes_y hb hx hl (show a + 1 ≤ len by omega) _ _ _ _ _ _ r48 r55 c2, z_some, if_pos c2, if_pos (show ¬ (1 : Int32) = 0 by decide), z_lets]
      show t_mr M _ (((f_X3_passes (MP M (z32 ((a + 2 : Nat) : Int)) fr (z32 (b (a + 1) - 48)) (z32 1) (z32 (b (a + 1) - 48)) f2 f3) (z32 44) (z32 44)).bind _).bind _)
      by_cases c3 : b (a + 2) = 44
      · have l2 := hb.lt (i := a + 2) (by omega)
        rw [m_ps_y hb hx hl (show a + 2 ≤ len by omega) _ _ _ _ _ _ (by omega) c3, z_some, if_pos c3, if_neg (show ¬ (1 : Int32) = 0 by decide)]
        obtain ⟨fr', nu', g1, g2⟩ := m_num hb hx hl (show a + 3 ≤ len by omega) fr (z32 (b (a + 2) - 48)) (z32 1) (z32 (b (a + 1) - 48)) f2 f3 (mx := 29) (by omega)
        show t_mr M _ (((f_X3_passesNumber (MP M (z32 ((a + 3 : Nat) : Int)) fr (z32 (b (a + 2) - 48)) (z32 1) (z32 (b (a + 1) - 48)) f2 f3) (z32 29)).bind _).bind _)
        rw [g1, z_some]
        have hle := s_num_le hb (show a + 3 ≤ len by omega) 29
        cases d : (s_num b (a + 3) 29).1 with
        | none =>
          rw [s_on_none d]
          show t_mr M _ ((if ¬ z_B false = 0 then _ else some ((0 : Int32), MP M (z32 ((s_num b (a + 3) 29).2 : Int)) fr' nu' (z32 1) (z32 (b (a + 1) - 48)) f2 f3)).bind _)
          rw [z_inf, z_some, m_96n]
          exact t_mr_none
        | some v =>
          rw [s_on_some d]
          obtain rfl := g2 v d
          show t_mr M _ ((if ¬ z_B true = 0 then (q_let (MP M (z32 ((s_num b (a + 3) 29).2 : Int)) fr' (z32 v) (z32 1) (z32 (b (a + 1) - 48)) (z32 v) f3) fun S8 => (f_X3_passes S8 (z32 44) (z32 44)).bind _) else _).bind _)
          rw [z_int, z_lets]
          generalize (s_num b (a + 3) 29).2 = j at hle ⊢
          by_cases c5 : b j = 44
          · have l3 := hb.lt (i := j) (by omega)
            rw [m_ps_y hb hx hl hle _ _ _ _ _ _ (by omega) c5, z_some, if_pos c5, if_neg (show ¬ (1 : Int32) = 0 by decide)]
            obtain ⟨fr2, nu2, g3, g4⟩ := m_num hb hx hl (show j + 1 ≤ len by omega) fr' (z32 (b j - 48)) (z32 1) (z32 (b (a + 1) - 48)) (z32 v) f3 (mx := 50) (by omega)
            show t_mr M _ (((f_X3_passesNumber (MP M (z32 ((j + 1 : Nat) : Int)) fr' (z32 (b j - 48)) (z32 1) (z32 (b (a + 1) - 48)) (z32 v) f3) (z32 50)).bind _).bind _)
            rw [g3, z_some]
            have hle2 := s_num_le hb (show j + 1 ≤ len by omega) 50
            cases d2 : (s_num b (j + 1) 50).1 with
            | none =>
              rw [s_on_none d2]
              show t_mr M _ ((if ¬ z_B false = 0 then _ else some ((0 : Int32), MP M (z32 ((s_num b (j + 1) 50).2 : Int)) fr2 nu2 (z32 1) (z32 (b (a + 1) - 48)) (z32 v) f3)).bind _)
              rw [z_inf, z_some, m_96n]
              exact t_mr_none
            | some w =>
              rw [s_on_some d2]
              obtain rfl := g4 w d2
              show t_mr M _ ((if ¬ z_B true = 0 then some ((1 : Int32), MP M (z32 ((s_num b (j + 1) 50).2 : Int)) fr2 (z32 w) (z32 1) (z32 (b (a + 1) - 48)) (z32 v) (z32 w)) else _).bind _)
              rw [z_int, z_some]
              exact m_semi hb hx hl hle2 (.inr (.inl ⟨rfl, rfl, rfl, rfl, rfl⟩))
          · rw [m_ps_n hb hx hl hle _ _ _ _ _ _ (by omega) c5, z_some, if_neg c5, if_pos (show (0 : Int32) = 0 from rfl), z_some, m_96n]
            exact t_mr_none
      · rw [m_ps_n hb hx hl (show a + 2 ≤ len by omega) _ _ _ _ _ _ (by omega) c3, z_some, if_neg c3, if_pos (show (0 : Int32) = 0 from rfl), z_some, m_96n]
        exact t_mr_none
    · rw [m_passes_n hb hx hl (show a + 1 ≤ len by omega) _ _ _ _ _ _ r48 r55 c2, z_some, if_neg c2, if_neg (show ¬ ¬ (0 : Int32) = 0 from fun z => z rfl), z_some, m_96n]
      exact t_mr_none
  have e : f_X3_passes (MP M (z32 a) fr nu ki f1 f2 f3) 98 98 = _ := m_ps_n hb hx hl ha fr nu ki f1 f2 f3 (s := 98) (by omega) c4
  rw [e, z_some, if_pos (show (0 : Int32) = 0 from rfl), if_neg c4]
  by_cases c6 : b a = 99
  · have l0 := hb.lt (i := a) (by omega)
    have e : f_X3_passes (MP M (z32 a) fr nu ki f1 f2 f3) 99 99 = _ := m_ps_y hb hx hl ha fr nu ki f1 f2 f3 (s := 99) (by omega) c6
    rw [e, z_some, if_neg (show ¬ (1 : Int32) = 0 by decide), z_lets, if_pos c6]
    obtain ⟨fr', nu', g1, g2⟩ := m_num hb hx hl (show a + 1 ≤ len by omega) fr (z32 (b a - 48)) (z32 2) f1 f2 f3 (mx := 29) (by omega)
    show t_mr M _ ((f_X3_passesNumber (MP M (z32 ((a + 1 : Nat) : Int)) fr (z32 (b a - 48)) (z32 2) f1 f2 f3) (z32 29)).bind _)
    rw [g1, z_some, z_lets]
    have hle := s_num_le hb (show a + 1 ≤ len by omega) 29
    cases d : (s_num b (a + 1) 29).1 with
    | none =>
      rw [s_on_none d]
      show t_mr M _ (some ((0 : Int32), MP M (z32 ((s_num b (a + 1) 29).2 : Int)) fr' nu' (z32 2) nu' f2 f3))
      exact t_mr_none
    | some v =>
      rw [s_on_some d]
      obtain rfl := g2 v d
      show t_mr M _ (f_X3_passesOrder_96 (MP M (z32 ((s_num b (a + 1) 29).2 : Int)) fr' (z32 v) (z32 2) (z32 v) f2 f3) 1)
      exact m_semi hb hx hl hle (.inr (.inr (.inl ⟨rfl, rfl, rfl⟩)))
  have e : f_X3_passes (MP M (z32 a) fr nu ki f1 f2 f3) 99 99 = _ := m_ps_n hb hx hl ha fr nu ki f1 f2 f3 (s := 99) (by omega) c6
  rw [e, z_some, if_pos (show (0 : Int32) = 0 from rfl), if_neg c6, z_lets]
  by_cases c7 : b a = 122
  · have l0 := hb.lt (i := a) (by omega)
    have e : f_X3_passes (MP M (z32 a) fr nu (z32 3) f1 f2 f3) 122 122 = _ := m_ps_y hb hx hl ha fr nu (z32 3) f1 f2 f3 (s := 122) (by omega) c7
    show t_mr M _ ((f_X3_passes (MP M (z32 a) fr nu (z32 3) f1 f2 f3) 122 122).bind _)
    rw [e, z_some, if_pos c7]
    exact m_semi hb hx hl (show a + 1 ≤ len by omega) (.inr (.inr (.inr ⟨rfl, rfl⟩)))
  · have e : f_X3_passes (MP M (z32 a) fr nu (z32 3) f1 f2 f3) 122 122 = _ := m_ps_n hb hx hl ha fr nu (z32 3) f1 f2 f3 (s := 122) (by omega) c7
    show t_mr M _ ((f_X3_passes (MP M (z32 a) fr nu (z32 3) f1 f2 f3) 122 122).bind _)
    rw [e, z_some, if_neg c7, m_96n]
    exact t_mr_none
