/-! what has been read -/
def t_in (r : t_r) : Prop := (r.1 = 0 ∧ (0 ≤ r.2.1 ∧ r.2.1 < 8) ∧ (0 ≤ r.2.2.1 ∧ r.2.2.1 < 42)) ∨ (r.1 = 1 ∧ (0 ≤ r.2.1 ∧ r.2.1 < 8) ∧ (0 ≤ r.2.2.1 ∧ r.2.2.1 < 30) ∧ (0 ≤ r.2.2.2 ∧ r.2.2.2 ≤ 50)) ∨ (r.1 = 2 ∧ (0 ≤ r.2.1 ∧ r.2.1 < 30)) ∨ r.1 = 3
def t_fine (len a : Nat) (x : Option t_r × Nat) : Prop := x.2 ≤ len ∧ ∀ r, x.1 = some r → a < x.2 ∧ t_in r
theorem s_semi_f {b : Nat → Int} {len a j : Nat} (hb : t_b b len) (hj : j ≤ len) {r : t_r} (hr : t_in r) (ha : a < j) : t_fine len a (s_semi r b j) := by
  unfold s_semi
  by_cases c : b j = 59
  · have l := hb.lt (i := j) (by omega)
    rw [if_pos c]
    refine ⟨l, fun r' h => ?_⟩
    cases h
    exact ⟨by show a < j + 1; omega, hr⟩
  · rw [if_neg c]
    exact ⟨hj, fun r' h => by cases h⟩
theorem t_fine_n {len a x : Nat} (h : x ≤ len) : t_fine len a (none, x) := ⟨h, fun r h => by cases h⟩
theorem s_ord_f {b : Nat → Int} {len a : Nat} (hb : t_b b len) (ha : a ≤ len) : t_fine len a (s_ord b a) := by
  unfold s_ord
  by_cases c1 : b a = 97
  · have l0 := hb.lt (i := a) (by omega)
    rw [if_pos c1]
    by_cases c2 : 48 ≤ b (a + 1) ∧ b (a + 1) ≤ 55
    · have l1 := hb.lt (i := a + 1) (by omega)
      rw [if_pos c2]
      by_cases c3 : b (a + 2) = 44
      · have l2 := hb.lt (i := a + 2) (by omega)
        rw [if_pos c3]
        have hle := s_num_le hb (show a + 3 ≤ len by omega) 41
        cases d : (s_num b (a + 3) 41).1 with
        | none =>
          rw [s_on_none d]
          exact t_fine_n hle
        | some v =>
          rw [s_on_some d]
          have hi := s_num_in hb d
          exact s_semi_f hb hle (.inl ⟨rfl, by show 0 ≤ b (a + 1) - 48 ∧ b (a + 1) - 48 < 8; omega, by show 0 ≤ v ∧ v < 42; omega⟩) (by omega)
      · rw [if_neg c3]
        exact t_fine_n (by omega)
    · rw [if_neg c2]
      exact t_fine_n (by omega)
  rw [if_neg c1]
  by_cases c4 : b a = 98
  · have l0 := hb.lt (i := a) (by omega)
    rw [if_pos c4]
    by_cases c2 : 48 ≤ b (a + 1) ∧ b (a + 1) ≤ 55
    · have l1 := hb.lt (i := a + 1) (by omega)
      rw [if_pos c2]
      by_cases c3 : b (a + 2) = 44
      · have l2 := hb.lt (i := a + 2) (by omega)
        rw [if_pos c3]
        have hle := s_num_le hb (show a + 3 ≤ len by omega) 29
        cases d : (s_num b (a + 3) 29).1 with
        | none =>
          rw [s_on_none d]
          exact t_fine_n hle
        | some v =>
          rw [s_on_some d]
          have hi := s_num_in hb d
          by_cases c5 : b (s_num b (a + 3) 29).2 = 44
          · have l3 := hb.lt (i := (s_num b (a + 3) 29).2) (by omega)
            rw [if_pos c5]
            have hle2 := s_num_le hb (show (s_num b (a + 3) 29).2 + 1 ≤ len by omega) 50
            cases d2 : (s_num b ((s_num b (a + 3) 29).2 + 1) 50).1 with
            | none =>
              rw [s_on_none d2]
              exact t_fine_n hle2
            | some w =>
              rw [s_on_some d2]
              have hi2 := s_num_in hb d2
              exact s_semi_f hb hle2 (.inr (.inl ⟨rfl, by show 0 ≤ b (a + 1) - 48 ∧ b (a + 1) - 48 < 8; omega, by show 0 ≤ v ∧ v < 30; omega, by show 0 ≤ w ∧ w ≤ 50; omega⟩)) (by omega)
          · rw [if_neg c5]
            exact t_fine_n hle
      · rw [if_neg c3]
        exact t_fine_n (by omega)
    · rw [if_neg c2]
      exact t_fine_n (by omega)
  rw [if_neg c4]
  by_cases c6 : b a = 99
  · have l0 := hb.lt (i := a) (by omega)
    rw [if_pos c6]
    have hle := s_num_le hb (show a + 1 ≤ len by omega) 29
    cases d : (s_num b (a + 1) 29).1 with
    | none =>
      rw [s_on_none d]
      exact t_fine_n hle
    | some v =>
      rw [s_on_some d]
      have hi := s_num_in hb d
      exact s_semi_f hb hle (.inr (.inr (.inl ⟨rfl, by show 0 ≤ v ∧ v < 30; omega⟩))) (by omega)
  rw [if_neg c6]
  by_cases c7 : b a = 122
  · have l0 := hb.lt (i := a) (by omega)
    rw [if_pos c7]
    exact s_semi_f hb (by omega) (.inr (.inr (.inr rfl))) (by omega)
  · rw [if_neg c7]
    exact t_fine_n ha
/-! the syntax error position -/
def s_fault (b : Nat → Int) (len : Nat) : Nat → Nat → Int
  | 0, _ => -1
  | n + 1, a => if len ≤ a then -1 else if (s_ord b a).1.isSome = true then s_fault b len n (s_ord b a).2 else ((s_ord b a).2 : Int)
theorem s_fault_in {b : Nat → Int} {len : Nat} (hb : t_b b len) : ∀ n a : Nat, a ≤ len → -1 ≤ s_fault b len n a ∧ s_fault b len n a ≤ 100
  | 0, a, _ => by rw [s_fault]; omega
  | n + 1, a, ha => by
    have h1 := hb.1
    have hf := (s_ord_f hb ha).1
    rw [s_fault]
    split
    · omega
    · split
      · exact s_fault_in hb n _ hf
      · omega
theorem o_more (tx : Nat → Int32) {len a : Nat} (hl : len ≤ 100) (ha : a ≤ len) (E k p n q : Int32) : f_X0_hasMore (OP tx (z32 len) (z32 a) E k p n q) = some (z_B (decide (a < len))) := by
  unfold f_X0_hasMore
  show (if z32 (len : Int) ≤ z32 (a : Int) then some 0 else some 1) = _
  have L : (z32 (len : Int) ≤ z32 (a : Int)) ↔ len ≤ a := (z32_le ⟨by omega, by omega⟩ ⟨by omega, by omega⟩).trans (by omega)
  by_cases c : len ≤ a
  · rw [if_pos (L.mpr c), decide_eq_false (by omega)]; rfl
  · rw [if_neg (fun z => c (L.mp z)), decide_eq_true (by omega)]; rfl
theorem o_stop {tx : Nat → Int32} {len x : Nat} (hl : len ≤ 100) (hx : x ≤ 100) {o : OR} (ho : t_bad tx len x o) (n : Nat) (i : Int32) : f_X0_errorPosition_6 (n + 1) o i = some (z32 x, o) := by
  obtain ⟨a, k, p, m, q, ha, rfl⟩ := ho
  rw [f_X0_errorPosition_6]
  show (if z32 (len : Int) ≤ i then some (z32 (x : Int), OP tx (z32 len) (z32 a) (z32 x) k p m q) else _) = _
  split
  · rfl
  · rw [o_more tx hl ha, z_some]
    split
    · rfl
    · refine if_pos fun z => ?_
      have z : z32 (x : Int) = -1 := z
      rw [show (-1 : Int32) = z32 (-1) by decide] at z
      have := (z32_eq ⟨by omega, by omega⟩ ⟨by omega, by omega⟩).mp z
      omega
theorem o_fault {b : Nat → Int} {len : Nat} (hb : t_b b len) {tx : Nat → Int32} (hx : t_x b len tx) : ∀ (n a i : Nat), i ≤ a → a ≤ len → len < n + a → ∀ (k p m q : Int32), ∃ A E k' p' m' q', f_X0_errorPosition_6 n (OP tx (z32 len) (z32 a) (z32 (-1)) k p m q) (z32 i) = some (z32 (s_fault b len n a), OP tx (z32 len) A E k' p' m' q') := by
  have h1 := hb.1
  intro n
  induction n with
  | zero => intro a i h1 h2 h3; omega
  | succ n ih =>
    intro a i h2 h3 h4 k p m q
    rw [f_X0_errorPosition_6, s_fault]
    show ∃ A E k' p' m' q', (if z32 (len : Int) ≤ z32 (i : Int) then some (z32 (-1), OP tx (z32 len) (z32 a) (z32 (-1)) k p m q) else _) = _
    have L : (z32 (len : Int) ≤ z32 (i : Int)) ↔ len ≤ i := (z32_le ⟨by omega, by omega⟩ ⟨by omega, by omega⟩).trans (by omega)
    by_cases c : len ≤ i
    · rw [if_pos (L.mpr c), if_pos (by omega)]
      exact ⟨_, _, _, _, _, _, rfl⟩
    · rw [if_neg (fun z => c (L.mp z)), o_more tx h1 h3, z_some]
      by_cases d : len ≤ a
      · rw [decide_eq_false (by omega), z_iff, if_pos d]
        exact ⟨_, _, _, _, _, _, rfl⟩
      · rw [decide_eq_true (by omega), z_ift, if_neg d]
        rw [if_neg (show ¬ ¬ OR_error (OP tx (z32 len) (z32 a) (z32 (-1)) k p m q) = -1 from fun z => z rfl)]
        obtain ⟨o', g1, g2, g3⟩ := o_read hb hx h3 k p m q
        have hf := s_ord_f hb h3
        rw [g1, z_some, z_lets]
        cases e : (s_ord b a).1 with
        | none =>
          rw [if_neg (by simp)]
          have hbad := g3 e
          obtain ⟨N, rfl⟩ : ∃ N, n = N + 1 := ⟨n - 1, by omega⟩
          rw [o_stop h1 (by have := hf.1; omega) hbad]
          obtain ⟨a', k', p', m', q', -, rfl⟩ := hbad
          exact ⟨_, _, _, _, _, _, rfl⟩
        | some r =>
          rw [if_pos (by simp)]
          obtain ⟨k', p', m', q', rfl, -⟩ := g2 r e
          have hr := (hf.2 r e).1
          have := ih (s_ord b a).2 (i + 1) (by omega) hf.1 (by omega) k' p' m' q'
          rw [show z32 (i : Int) + 1 = z32 ((i + 1 : Nat) : Int) by rw [show (1 : Int32) = z32 1 from rfl, z32_add]; rfl]
          exact this
theorem m_fault {b : Nat → Int} {len : Nat} (hb : t_b b len) {M : MD} (hx : t_x b len (MD_text M)) (hl : MD_length M = z32 len) : ∀ (n a : Nat), a ≤ len → len < n + a → ∀ (fr nu ki f1 f2 f3 : Int32), ∃ A fr' nu' ki' g1 g2 g3, f_X3_faultOf_5 n (MP M (z32 a) fr nu ki f1 f2 f3) = some (z32 (s_fault b len n a), MP M A fr' nu' ki' g1 g2 g3) := by
  have h1 := hb.1
  intro n
  induction n with
  | zero => intro a h1 h2; omega
  | succ n ih =>
    intro a h2 h3 fr nu ki f1 f2 f3
    rw [f_X3_faultOf_5, s_fault]
    show ∃ A fr' nu' ki' g1 g2 g3, (if MD_length M ≤ z32 (a : Int) then some (-1, MP M (z32 a) fr nu ki f1 f2 f3) else _) = _
    rw [hl, show (-1 : Int32) = z32 (-1) by decide]
    have L : (z32 (len : Int) ≤ z32 (a : Int)) ↔ len ≤ a := (z32_le ⟨by omega, by omega⟩ ⟨by omega, by omega⟩).trans (by omega)
    by_cases d : len ≤ a
    · rw [if_pos (L.mpr d), if_pos d]
      exact ⟨_, _, _, _, _, _, _, rfl⟩
    · rw [if_neg (fun z => d (L.mp z)), if_neg d]
      obtain ⟨fr', nu', ki', f1', f2', f3', g1, g2⟩ := m_order hb hx hl h2 fr nu ki f1 f2 f3
      have hf := s_ord_f hb h2
      rw [g1, z_some]
      cases e : (s_ord b a).1 with
      | none =>
        rw [if_neg (show ¬ (none : Option t_r).isSome = true by simp)]
        show ∃ A y1 y2 y3 y4 y5 y6, (if ¬ z_B false = 0 then _ else some (z32 ((s_ord b a).2 : Int), MP M (z32 ((s_ord b a).2 : Int)) fr' nu' ki' f1' f2' f3')) = _
        rw [z_inf]
        exact ⟨_, _, _, _, _, _, _, rfl⟩
      | some r =>
        rw [if_pos (show (some r).isSome = true by simp)]
        show ∃ A y1 y2 y3 y4 y5 y6, (if ¬ z_B true = 0 then f_X3_faultOf_5 n (MP M (z32 ((s_ord b a).2 : Int)) fr' nu' ki' f1' f2' f3') else _) = _
        rw [z_int]
        have hr := (hf.2 r e).1
        exact ih (s_ord b a).2 hf.1 (by omega) _ _ _ _ _ _
