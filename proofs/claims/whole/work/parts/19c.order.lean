/-! an order, read by both -/
theorem s_on_some {x : Option Int × Nat} {K : Int → Nat → Option t_r × Nat} {v : Int} (h : x.1 = some v) : s_on x K = K v x.2 := by
  obtain ⟨x1, x2⟩ := x
  have h : x1 = some v := h
  subst h
  rfl
theorem s_on_none {x : Option Int × Nat} {K : Int → Nat → Option t_r × Nat} (h : x.1 = none) : s_on x K = (none, x.2) := by
  obtain ⟨x1, x2⟩ := x
  have h : x1 = none := h
  subst h
  rfl
/-- a chain behind a fault -/
theorem o_ch1 {b : Nat → Int} {len : Nat} (hb : t_b b len) {tx : Nat → Int32} (hx : t_x b len tx) {e : Nat} (he : e ≤ 100) {o : OR} (ho : t_bad tx len e o) : ∃ o', f_X0_expect o 59 = some o' ∧ t_bad tx len e o' := o_expect_f hb hx he ho (s := 59) (by omega)
theorem o_ch0 {b : Nat → Int} {len : Nat} (hb : t_b b len) {tx : Nat → Int32} (hx : t_x b len tx) {e : Nat} (he : e ≤ 100) {o : OR} (ho : t_bad tx len e o) : ∃ o', f_X0_expect o 44 = some o' ∧ t_bad tx len e o' := o_expect_f hb hx he ho (s := 44) (by omega)
theorem o_read {b : Nat → Int} {len : Nat} (hb : t_b b len) {tx : Nat → Int32} (hx : t_x b len tx) {a : Nat} (ha : a ≤ len) (k p n q : Int32) : ∃ o', f_X0_read (OP tx (z32 len) (z32 a) (z32 (-1)) k p n q) = some o' ∧ t_cr tx len (s_ord b a) o' := by
  have h1 := hb.1
  have i0 := hb.rg a
  have E1 : (z32 (b a) = 97) ↔ b a = 97 := z32_eq (y := 97) ⟨by omega, by omega⟩ ⟨by omega, by omega⟩
  have E2 : (z32 (b a) = 98) ↔ b a = 98 := z32_eq (y := 98) ⟨by omega, by omega⟩ ⟨by omega, by omega⟩
  have E3 : (z32 (b a) = 99) ↔ b a = 99 := z32_eq (y := 99) ⟨by omega, by omega⟩ ⟨by omega, by omega⟩
  have E4 : (z32 (b a) = 122) ↔ b a = 122 := z32_eq (y := 122) ⟨by omega, by omega⟩ ⟨by omega, by omega⟩
  unfold f_X0_read
  show ∃ o', ((f_X0_signAt (OP tx (z32 len) (z32 a) (z32 (-1)) k p n q) (z32 a)).bind _) = some o' ∧ _
  rw [o_sign hb hx (by omega), z_some, z_lets]
  unfold s_ord
  have ep : z32 (a : Int) + 1 = z32 ((a + 1 : Nat) : Int) := by
    rw [show (1 : Int32) = z32 1 from rfl, z32_add]
    rfl
  by_cases c1 : b a = 97
  · have l0 := hb.lt (i := a) (by omega)
    rw [if_pos c1]
    show ∃ o', (if z32 (b a) = 97 then (q_let (sOR_at (OP tx (z32 len) (z32 a) (z32 (-1)) (z32 (b a)) p n q) (z32 (a : Int) + 1)) fun S4 => _) else _) = some o' ∧ _
    rw [if_pos (E1.mpr c1), z_lets, c1, ep]
    show ∃ o', ((f_X0_readPerson (OP tx (z32 len) (z32 ((a + 1 : Nat) : Int)) (z32 (-1)) (z32 97) p n q)).bind _) = some o' ∧ _
    by_cases c2 : 48 ≤ b (a + 1) ∧ b (a + 1) ≤ 55
    · have l1 := hb.lt (i := a + 1) (by omega)
      rw [if_pos c2, o_person_y hb hx (show a + 1 ≤ len by omega) _ _ _ _ _ c2, z_some, z_lets]
      show ∃ o', ((f_X0_expect (OP tx (z32 len) (z32 ((a + 2 : Nat) : Int)) (z32 (-1)) (z32 97) (z32 (b (a + 1) - 48)) n q) (z32 44)).bind _) = some o' ∧ _
      by_cases c3 : b (a + 2) = 44
      · have l2 := hb.lt (i := a + 2) (by omega)
        rw [if_pos c3, o_expect_y hb hx (show a + 2 ≤ len by omega) _ _ _ _ _ c3, z_some]
        obtain ⟨v', a', E', g1, g2, g3, g4⟩ := o_num hb hx (show a + 3 ≤ len by omega) (z32 (-1)) (z32 97) (z32 (b (a + 1) - 48)) n q (mx := 41) (by omega)
        have g1 : f_X0_readNumber (OP tx (z32 len) (z32 ((a + 2 + 1 : Nat) : Int)) (z32 (-1)) (z32 97) (z32 (b (a + 1) - 48)) n q) 41 = _ := g1
        rw [g1, z_some, z_lets]
        cases d : (s_num b (a + 3) 41).1 with
        | none =>
          rw [s_on_none d]
          have hE := g4 d
          rw [e_f_y] at hE
          subst hE
          have hle := s_num_le hb (show a + 3 ≤ len by omega) 41
          obtain ⟨o1, b1, b2⟩ := o_ch1 hb hx (e := (s_num b (a + 3) 41).2) (by omega) (o := OP tx (z32 len) (z32 a') (z32 ((s_num b (a + 3) 41).2 : Int)) (z32 97) (z32 (b (a + 1) - 48)) v' q) ⟨a', _, _, _, _, g2, rfl⟩
          refine ⟨o1, ?_, t_cr_bad b2⟩
          show ((f_X0_expect (OP tx (z32 len) (z32 a') (z32 ((s_num b (a + 3) 41).2 : Int)) (z32 97) (z32 (b (a + 1) - 48)) v' q) 59).bind _) = _
          rw [b1, z_some]
        | some v =>
          obtain ⟨rfl, rfl, rfl⟩ := g3 v d
          rw [s_on_some d]
          obtain ⟨o1, b1, b2⟩ := o_semi (r := (0, b (a + 1) - 48, v, 0)) hb hx (s_num_le hb (show a + 3 ≤ len by omega) 41) (k := z32 97) (p := z32 (b (a + 1) - 48)) (n := z32 v) (q := q) (.inl ⟨rfl, rfl, rfl, rfl⟩)
          refine ⟨o1, ?_, b2⟩
          show ((f_X0_expect (OP tx (z32 len) (z32 ((s_num b (a + 3) 41).2 : Int)) (z32 (-1)) (z32 97) (z32 (b (a + 1) - 48)) (z32 v) q) (z32 59)).bind _) = _
          rw [b1, z_some]
      · rw [if_neg c3, o_expect_n hb hx (show a + 2 ≤ len by omega) _ _ _ _ ⟨by omega, by omega⟩ c3, z_some]
        obtain ⟨v1, o1, b1, b2⟩ := o_num_f hb hx (e := a + 2) (by omega) (o := OP tx (z32 len) (z32 ((a + 2 : Nat) : Int)) (z32 ((a + 2 : Nat) : Int)) (z32 97) (z32 (b (a + 1) - 48)) n q) ⟨a + 2, _, _, _, _, by omega, rfl⟩ (mx := 41) (by omega)
        have b1 : f_X0_readNumber _ 41 = _ := b1
        rw [b1, z_some, z_lets]
        obtain ⟨o2, b3, b4⟩ := o_ch1 hb hx (by omega) (b2.number v1)
        rw [b3, z_some]
        exact ⟨o2, rfl, t_cr_bad b4⟩
    · rw [if_neg c2]
      obtain ⟨o1, b1, b2⟩ := o_person_f hb hx (show a + 1 ≤ len by omega) (z32 97) p n q c2
      rw [b1, z_some, z_lets]
      obtain ⟨o2, b3, b4⟩ := o_ch0 hb hx (by omega) (b2.person 0)
      rw [b3, z_some]
      obtain ⟨v3, o3, b5, b6⟩ := o_num_f hb hx (by omega) b4 (mx := 41) (by omega)
      have b5 : f_X0_readNumber o2 41 = _ := b5
      rw [b5, z_some, z_lets]
      obtain ⟨o4, b7, b8⟩ := o_ch1 hb hx (by omega) (b6.number v3)
      rw [b7, z_some]
      exact ⟨o4, rfl, t_cr_bad b8⟩
  rw [if_neg c1]
  by_cases c4 : b a = 98
  · have l0 := hb.lt (i := a) (by omega)
    rw [if_pos c4]
    show ∃ o', (if z32 (b a) = 97 then _ else (if z32 (b a) = 98 then (q_let (sOR_at (OP tx (z32 len) (z32 a) (z32 (-1)) (z32 (b a)) p n q) (z32 (a : Int) + 1)) fun S4 => _) else _)) = some o' ∧ _
    rw [if_neg (fun z => c1 (E1.mp z)), if_pos (E2.mpr c4), z_lets, c4, ep]
    show ∃ o', ((f_X0_readPerson (OP tx (z32 len) (z32 ((a + 1 : Nat) : Int)) (z32 (-1)) (z32 98) p n q)).bind _) = some o' ∧ _
    by_cases c2 : 48 ≤ b (a + 1) ∧ b (a + 1) ≤ 55
    · have l1 := hb.lt (i := a + 1) (by omega)
      rw [if_pos c2, o_person_y hb hx (show a + 1 ≤ len by omega) _ _ _ _ _ c2, z_some, z_lets]
      show ∃ o', ((f_X0_expect (OP tx (z32 len) (z32 ((a + 2 : Nat) : Int)) (z32 (-1)) (z32 98) (z32 (b (a + 1) - 48)) n q) (z32 44)).bind _) = some o' ∧ _
      by_cases c3 : b (a + 2) = 44
      · have l2 := hb.lt (i := a + 2) (by omega)
        rw [if_pos c3, o_expect_y hb hx (show a + 2 ≤ len by omega) _ _ _ _ _ c3, z_some]
        obtain ⟨v', a', E', g1, g2, g3, g4⟩ := o_num hb hx (show a + 3 ≤ len by omega) (z32 (-1)) (z32 98) (z32 (b (a + 1) - 48)) n q (mx := 29) (by omega)
        have g1 : f_X0_readNumber (OP tx (z32 len) (z32 ((a + 2 + 1 : Nat) : Int)) (z32 (-1)) (z32 98) (z32 (b (a + 1) - 48)) n q) 29 = _ := g1
        rw [g1, z_some, z_lets]
        have hle := s_num_le hb (show a + 3 ≤ len by omega) 29
        cases d : (s_num b (a + 3) 29).1 with
        | none =>
          rw [s_on_none d]
          have hE := g4 d
          rw [e_f_y] at hE
          subst hE
          obtain ⟨o1, b1, b2⟩ := o_ch0 hb hx (e := (s_num b (a + 3) 29).2) (by omega) (o := OP tx (z32 len) (z32 a') (z32 ((s_num b (a + 3) 29).2 : Int)) (z32 98) (z32 (b (a + 1) - 48)) v' q) ⟨a', _, _, _, _, g2, rfl⟩
          show ∃ o', ((f_X0_expect (OP tx (z32 len) (z32 a') (z32 ((s_num b (a + 3) 29).2 : Int)) (z32 98) (z32 (b (a + 1) - 48)) v' q) 44).bind _) = some o' ∧ _
          rw [b1, z_some]
          obtain ⟨v3, o3, b5, b6⟩ := o_num_f hb hx (by omega) b2 (mx := 50) (by omega)
          have b5 : f_X0_readNumber o1 50 = _ := b5
          rw [b5, z_some, z_lets]
          obtain ⟨o4, b7, b8⟩ := o_ch1 hb hx (by omega) (b6.points v3)
          rw [b7, z_some]
          exact ⟨o4, rfl, t_cr_bad b8⟩
        | some v =>
          obtain ⟨rfl, rfl, rfl⟩ := g3 v d
          rw [s_on_some d]
          show ∃ o', ((f_X0_expect (OP tx (z32 len) (z32 ((s_num b (a + 3) 29).2 : Int)) (z32 (-1)) (z32 98) (z32 (b (a + 1) - 48)) (z32 v) q) (z32 44)).bind _) = some o' ∧ _
          generalize (s_num b (a + 3) 29).2 = j at hle g2 ⊢
          by_cases c5 : b j = 44
          · have l3 := hb.lt (i := j) (by omega)
            rw [if_pos c5, o_expect_y hb hx hle _ _ _ _ _ c5, z_some]
            obtain ⟨w', a2, E2', g5, g6, g7, g8⟩ := o_num hb hx (show j + 1 ≤ len by omega) (z32 (-1)) (z32 98) (z32 (b (a + 1) - 48)) (z32 v) q (mx := 50) (by omega)
            have g5 : f_X0_readNumber (OP tx (z32 len) (z32 ((j + 1 : Nat) : Int)) (z32 (-1)) (z32 98) (z32 (b (a + 1) - 48)) (z32 v) q) 50 = _ := g5
            rw [g5, z_some, z_lets]
            have hle2 := s_num_le hb (show j + 1 ≤ len by omega) 50
            cases d2 : (s_num b (j + 1) 50).1 with
            | none =>
              rw [s_on_none d2]
              have hE := g8 d2
              rw [e_f_y] at hE
              subst hE
              obtain ⟨o1, b1, b2⟩ := o_ch1 hb hx (e := (s_num b (j + 1) 50).2) (by omega) (o := OP tx (z32 len) (z32 a2) (z32 ((s_num b (j + 1) 50).2 : Int)) (z32 98) (z32 (b (a + 1) - 48)) (z32 v) w') ⟨a2, _, _, _, _, g6, rfl⟩
              refine ⟨o1, ?_, t_cr_bad b2⟩
              show ((f_X0_expect (OP tx (z32 len) (z32 a2) (z32 ((s_num b (j + 1) 50).2 : Int)) (z32 98) (z32 (b (a + 1) - 48)) (z32 v) w') 59).bind _) = _
              rw [b1, z_some]
            | some w =>
              obtain ⟨rfl, rfl, rfl⟩ := g7 w d2
              rw [s_on_some d2]
              obtain ⟨o1, b1, b2⟩ := o_semi (r := (1, b (a + 1) - 48, v, w)) hb hx hle2 (k := z32 98) (p := z32 (b (a + 1) - 48)) (n := z32 v) (q := z32 w) (.inr (.inl ⟨rfl, rfl, rfl, rfl, rfl⟩))
              refine ⟨o1, ?_, b2⟩
              show ((f_X0_expect (OP tx (z32 len) (z32 ((s_num b (j + 1) 50).2 : Int)) (z32 (-1)) (z32 98) (z32 (b (a + 1) - 48)) (z32 v) (z32 w)) (z32 59)).bind _) = _
              rw [b1, z_some]
          · rw [if_neg c5, o_expect_n hb hx hle _ _ _ _ ⟨by omega, by omega⟩ c5, z_some]
            obtain ⟨v3, o3, b5, b6⟩ := o_num_f hb hx (e := j) (by omega) (o := OP tx (z32 len) (z32 (j : Int)) (z32 (j : Int)) (z32 98) (z32 (b (a + 1) - 48)) (z32 v) q) ⟨j, _, _, _, _, hle, rfl⟩ (mx := 50) (by omega)
            have b5 : f_X0_readNumber _ 50 = _ := b5
            rw [b5, z_some, z_lets]
            obtain ⟨o4, b7, b8⟩ := o_ch1 hb hx (by omega) (b6.points v3)
            rw [b7, z_some]
            exact ⟨o4, rfl, t_cr_bad b8⟩
      · rw [if_neg c3, o_expect_n hb hx (show a + 2 ≤ len by omega) _ _ _ _ ⟨by omega, by omega⟩ c3, z_some]
        obtain ⟨v1, o1, b1, b2⟩ := o_num_f hb hx (e := a + 2) (by omega) (o := OP tx (z32 len) (z32 ((a + 2 : Nat) : Int)) (z32 ((a + 2 : Nat) : Int)) (z32 98) (z32 (b (a + 1) - 48)) n q) ⟨a + 2, _, _, _, _, by omega, rfl⟩ (mx := 29) (by omega)
        have b1 : f_X0_readNumber _ 29 = _ := b1
        rw [b1, z_some, z_lets]
        obtain ⟨o2, b3, b4⟩ := o_ch0 hb hx (by omega) (b2.number v1)
        rw [b3, z_some]
        obtain ⟨v3, o3, b5, b6⟩ := o_num_f hb hx (by omega) b4 (mx := 50) (by omega)
        have b5 : f_X0_readNumber o2 50 = _ := b5
        rw [b5, z_some, z_lets]
        obtain ⟨o4, b7, b8⟩ := o_ch1 hb hx (by omega) (b6.points v3)
        rw [b7, z_some]
        exact ⟨o4, rfl, t_cr_bad b8⟩
    · rw [if_neg c2]
      obtain ⟨o1, b1, b2⟩ := o_person_f hb hx (show a + 1 ≤ len by omega) (z32 98) p n q c2
      rw [b1, z_some, z_lets]
      obtain ⟨o2, b3, b4⟩ := o_ch0 hb hx (by omega) (b2.person 0)
      rw [b3, z_some]
      obtain ⟨v3, o3, b5, b6⟩ := o_num_f hb hx (by omega) b4 (mx := 29) (by omega)
      have b5 : f_X0_readNumber o2 29 = _ := b5
      rw [b5, z_some, z_lets]
      obtain ⟨o4, b7, b8⟩ := o_ch0 hb hx (by omega) (b6.number v3)
      rw [b7, z_some]
      obtain ⟨v5, o5, b9, b10⟩ := o_num_f hb hx (by omega) b8 (mx := 50) (by omega)
      have b9 : f_X0_readNumber o4 50 = _ := b9
      rw [b9, z_some, z_lets]
      obtain ⟨o6, b11, b12⟩ := o_ch1 hb hx (by omega) (b10.points v5)
      rw [b11, z_some]
      exact ⟨o6, rfl, t_cr_bad b12⟩
  rw [if_neg c4]
  by_cases c6 : b a = 99
  · have l0 := hb.lt (i := a) (by omega)
    rw [if_pos c6]
    show ∃ o', (if z32 (b a) = 97 then _ else (if z32 (b a) = 98 then _ else (if z32 (b a) = 99 then (q_let (sOR_at (OP tx (z32 len) (z32 a) (z32 (-1)) (z32 (b a)) p n q) (z32 (a : Int) + 1)) fun S4 => _) else _))) = some o' ∧ _
    rw [if_neg (fun z => c1 (E1.mp z)), if_neg (fun z => c4 (E2.mp z)), if_pos (E3.mpr c6), z_lets, c6, ep]
    obtain ⟨v', a', E', g1, g2, g3, g4⟩ := o_num hb hx (show a + 1 ≤ len by omega) (z32 (-1)) (z32 99) p n q (mx := 29) (by omega)
    show ∃ o', ((f_X0_readNumber (OP tx (z32 len) (z32 ((a + 1 : Nat) : Int)) (z32 (-1)) (z32 99) p n q) (z32 29)).bind _) = some o' ∧ _
    rw [g1, z_some, z_lets]
    have hle := s_num_le hb (show a + 1 ≤ len by omega) 29
    cases d : (s_num b (a + 1) 29).1 with
    | none =>
      rw [s_on_none d]
      have hE := g4 d
      rw [e_f_y] at hE
      subst hE
      obtain ⟨o1, b1, b2⟩ := o_ch1 hb hx (e := (s_num b (a + 1) 29).2) (by omega) (o := OP tx (z32 len) (z32 a') (z32 ((s_num b (a + 1) 29).2 : Int)) (z32 99) p v' q) ⟨a', _, _, _, _, g2, rfl⟩
      refine ⟨o1, ?_, t_cr_bad b2⟩
      show ((f_X0_expect (OP tx (z32 len) (z32 a') (z32 ((s_num b (a + 1) 29).2 : Int)) (z32 99) p v' q) 59).bind _) = _
      rw [b1, z_some]
    | some v =>
      obtain ⟨rfl, rfl, rfl⟩ := g3 v d
      rw [s_on_some d]
      obtain ⟨o1, b1, b2⟩ := o_semi (r := (2, v, 0, 0)) hb hx hle (k := z32 99) (p := p) (n := z32 v) (q := q) (.inr (.inr (.inl ⟨rfl, rfl, rfl⟩)))
      refine ⟨o1, ?_, b2⟩
      show ((f_X0_expect (OP tx (z32 len) (z32 ((s_num b (a + 1) 29).2 : Int)) (z32 (-1)) (z32 99) p (z32 v) q) (z32 59)).bind _) = _
      rw [b1, z_some]
  rw [if_neg c6]
  by_cases c7 : b a = 122
  · have l0 := hb.lt (i := a) (by omega)
    rw [if_pos c7]
    show ∃ o', (if z32 (b a) = 97 then _ else (if z32 (b a) = 98 then _ else (if z32 (b a) = 99 then _ else (if z32 (b a) = 122 then (q_let (sOR_at (OP tx (z32 len) (z32 a) (z32 (-1)) (z32 (b a)) p n q) (z32 (a : Int) + 1)) fun S4 => _) else _)))) = some o' ∧ _
    rw [if_neg (fun z => c1 (E1.mp z)), if_neg (fun z => c4 (E2.mp z)), if_neg (fun z => c6 (E3.mp z)), if_pos (E4.mpr c7), z_lets, c7, ep]
    obtain ⟨o1, b1, b2⟩ := o_semi (r := (3, 0, 0, 0)) hb hx (show a + 1 ≤ len by omega) (k := z32 122) (p := p) (n := n) (q := q) (.inr (.inr (.inr ⟨rfl, rfl⟩)))
    refine ⟨o1, ?_, b2⟩
    show ((f_X0_expect (OP tx (z32 len) (z32 ((a + 1 : Nat) : Int)) (z32 (-1)) (z32 122) p n q) (z32 59)).bind _) = _
    rw [b1, z_some]
  rw [if_neg c7]
  show ∃ o', (if z32 (b a) = 97 then _ else (if z32 (b a) = 98 then _ else (if z32 (b a) = 99 then _ else (if z32 (b a) = 122 then _ else ((f_X0_fail (OP tx (z32 len) (z32 a) (z32 (-1)) (z32 (b a)) p n q) (z32 a)).bind _))))) = some o' ∧ _
  rw [if_neg (fun z => c1 (E1.mp z)), if_neg (fun z => c4 (E2.mp z)), if_neg (fun z => c6 (E3.mp z)), if_neg (fun z => c7 (E4.mp z)), o_fail, z_some, e_f_y]
  obtain ⟨o1, b1, b2⟩ := o_ch1 hb hx (e := a) (by omega) (o := OP tx (z32 len) (z32 a) (z32 (a : Int)) (z32 (b a)) p n q) ⟨a, _, _, _, _, ha, rfl⟩
  rw [b1, z_some]
  exact ⟨o1, rfl, t_cr_bad b2⟩
