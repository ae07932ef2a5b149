/-! the class reads a number -/
def e_f (E x : Int32) : Int32 := if E = z32 (-1) then x else E
theorem o_fail (tx : Nat → Int32) (len A E k p n q x : Int32) : f_X0_fail (OP tx len A E k p n q) x = some (OP tx len A (e_f E x) k p n q) := by
  unfold f_X0_fail e_f
  show (if ¬ E = -1 then some (OP tx len A E k p n q) else some (OP tx len A x k p n q)) = _
  rw [show (-1 : Int32) = z32 (-1) by decide]
  by_cases c : E = z32 (-1)
  · rw [if_neg (fun z => z c), if_pos c]
  · rw [if_pos c, if_neg c]
theorem e_f_y (x : Int32) : e_f (z32 (-1)) x = x := if_pos rfl
theorem e_f_n {e : Nat} (he : e ≤ 100) (x : Int32) : e_f (z32 e) x = z32 e := by
  unfold e_f
  rw [if_neg]
  intro z
  have := (z32_eq ⟨by omega, by omega⟩ ⟨by omega, by omega⟩).mp z
  omega
theorem o_digit {x : Int} (hx : rng x) : f_X0_isDigit (z32 x) = some (z_B (decide (48 ≤ x ∧ x ≤ 57))) := by
  unfold rng at hx
  unfold f_X0_isDigit
  have L1 : (z32 x < 48) ↔ x < 48 := z32_lt (y := 48) ⟨by omega, by omega⟩ ⟨by omega, by omega⟩
  have L2 : (57 < z32 x) ↔ 57 < x := z32_lt (x := 57) ⟨by omega, by omega⟩ ⟨by omega, by omega⟩
  by_cases c : x < 48
  · rw [if_pos (L1.mpr c), decide_eq_false (by omega)]; rfl
  · rw [if_neg (fun z => c (L1.mp z))]
    by_cases d : 57 < x
    · rw [if_pos (L2.mpr d), decide_eq_false (by omega)]; rfl
    · rw [if_neg (fun z => d (L2.mp z)), decide_eq_true (by omega)]; rfl
theorem o_63 {b : Nat → Int} {len : Nat} (hb : t_b b len) {tx : Nat → Int32} (hx : t_x b len tx) {c : Nat} (hc : c ≤ len) (E k p n q : Int32) {f : Nat} (hf : f ≤ 100) {v mx : Int} (hv : 0 ≤ v ∧ v < 1000) (hm : 0 ≤ mx ∧ mx < 128) : f_X0_readNumber_63 (OP tx (z32 len) (z32 c) E k p n q) (z32 mx) (z32 f) (z32 v) = some (z32 v, OP tx (z32 len) (z32 c) (if c = f then e_f E (z32 c) else if 48 ≤ b c ∧ b c ≤ 57 then e_f E (z32 c) else if v ≤ mx then E else e_f E (z32 f)) k p n q) := by
  have h1 := hb.1
  have i0 := hb.rg c
  unfold f_X0_readNumber_63
  show (if z32 (c : Int) = z32 (f : Int) then ((f_X0_fail (OP tx (z32 len) (z32 c) E k p n q) (z32 c)).bind _) else ((f_X0_signAt (OP tx (z32 len) (z32 c) E k p n q) (z32 c)).bind _)) = _
  have L : (z32 (c : Int) = z32 (f : Int)) ↔ c = f := (z32_eq ⟨by omega, by omega⟩ ⟨by omega, by omega⟩).trans (by omega)
  by_cases g : c = f
  · rw [if_pos (L.mpr g), o_fail, z_some, if_pos g]
  · rw [if_neg (fun z => g (L.mp z)), if_neg g, o_sign hb hx (by omega), z_some, o_digit ⟨by omega, by omega⟩, z_some]
    by_cases d : 48 ≤ b c ∧ b c ≤ 57
    · rw [decide_eq_true d, z_ift, if_pos d]
      show ((f_X0_fail (OP tx (z32 len) (z32 c) E k p n q) (z32 c)).bind _) = _
      rw [o_fail, z_some]
    · rw [decide_eq_false d, z_iff, if_neg d]
      by_cases e : v ≤ mx
      · rw [if_pos ((z32_le ⟨by omega, by omega⟩ ⟨by omega, by omega⟩).mpr e), if_pos e]
      · rw [if_neg (fun z => e ((z32_le ⟨by omega, by omega⟩ ⟨by omega, by omega⟩).mp z)), if_neg e, o_fail, z_some]
theorem o_num_10 {b : Nat → Int} {len : Nat} (hb : t_b b len) {tx : Nat → Int32} (hx : t_x b len tx) {c : Nat} (hc : c ≤ len) (E k p n q : Int32) {f : Nat} (hf : f ≤ 100) {v mx : Int} (hv : 0 ≤ v ∧ v < 10) (hm : 0 ≤ mx ∧ mx < 128) {i : Nat} (hi : i < 2) (N : Nat) : f_X0_readNumber_10 (N + 1) (OP tx (z32 len) (z32 c) E k p n q) (z32 mx) (z32 f) (z32 v) (z32 i) = if 48 ≤ b c ∧ b c ≤ 57 then f_X0_readNumber_10 N (OP tx (z32 len) (z32 ((c + 1 : Nat) : Int)) E k p n q) (z32 mx) (z32 f) (z32 (10 * v + (b c - 48))) (z32 ((i + 1 : Nat) : Int)) else f_X0_readNumber_63 (OP tx (z32 len) (z32 c) E k p n q) (z32 mx) (z32 f) (z32 v) := by
  have h1 := hb.1
  have i0 := hb.rg c
  rw [f_X0_readNumber_10]
  have L : ¬ (2 : Int32) ≤ z32 (i : Int) := fun z => by
    have := (z32_le (x := 2) ⟨by omega, by omega⟩ ⟨by omega, by omega⟩).mp z
    omega
  rw [if_neg L]
  show ((f_X0_signAt (OP tx (z32 len) (z32 c) E k p n q) (z32 c)).bind fun r11 => (f_X0_isDigit r11).bind fun r12 => if r12 = 0 then _ else ((f_X0_signAt (OP tx (z32 len) (z32 c) E k p n q) (z32 c)).bind _)) = _
  rw [o_sign hb hx (by omega), z_some, o_digit ⟨by omega, by omega⟩, z_some]
  by_cases d : 48 ≤ b c ∧ b c ≤ 57
  · rw [decide_eq_true d, z_ift, if_pos d, z_some]
    show f_X0_readNumber_10 N (OP tx (z32 len) (z32 (c : Int) + 1) E k p n q) (z32 mx) (z32 f) ((10 * z32 v) + z32 (b c) - 48) (z32 (i : Int) + 1) = _
    rw [show (1 : Int32) = z32 1 from rfl, show (10 : Int32) = z32 10 from rfl, show (48 : Int32) = z32 48 from rfl, z32_add, z32_add, z32_mul, z32_add, z32_sub, show 10 * v + b c - 48 = 10 * v + (b c - 48) by omega]
    rfl
  · rw [decide_eq_false d, z_iff, if_neg d]
theorem o_num {b : Nat → Int} {len : Nat} (hb : t_b b len) {tx : Nat → Int32} (hx : t_x b len tx) {a : Nat} (ha : a ≤ len) (E k p n q : Int32) {mx : Int} (hm : 0 ≤ mx ∧ mx < 128) : ∃ (v' : Int32) (a' : Nat) (E' : Int32), f_X0_readNumber (OP tx (z32 len) (z32 a) E k p n q) (z32 mx) = some (v', OP tx (z32 len) (z32 a') E' k p n q) ∧ a' ≤ len ∧ (∀ v, (s_num b a mx).1 = some v → v' = z32 v ∧ a' = (s_num b a mx).2 ∧ E' = E) ∧ ((s_num b a mx).1 = none → E' = e_f E (z32 ((s_num b a mx).2 : Int))) := by
  have h1 := hb.1
  have i0 := hb.rg a
  have i1 := hb.rg (a + 1)
  obtain ⟨N, hN⟩ : ∃ N : Nat, 2000 = N + 1 + 1 + 1 := ⟨1997, rfl⟩
  unfold f_X0_readNumber
  rw [z_lets, hN]
  show ∃ (v' : Int32) (a' : Nat) (E' : Int32), f_X0_readNumber_10 (N + 1 + 1 + 1) (OP tx (z32 len) (z32 a) E k p n q) (z32 mx) (z32 a) (z32 0) (z32 ((0 : Nat) : Int)) = _ ∧ _
  rw [o_num_10 hb hx ha E k p n q (show a ≤ 100 by omega) (by omega) hm (show 0 < 2 by omega)]
  unfold s_num
  by_cases c0 : 48 ≤ b a ∧ b a ≤ 57
  · have l0 := hb.lt (i := a) (by omega)
    rw [if_pos c0, if_pos c0, o_num_10 hb hx (show a + 1 ≤ len by omega) E k p n q (show a ≤ 100 by omega) (by omega) hm (show 0 + 1 < 2 by omega), show 10 * 0 + (b a - 48) = b a - 48 by omega]
    by_cases c1 : 48 ≤ b (a + 1) ∧ b (a + 1) ≤ 57
    · have l1 := hb.lt (i := a + 1) (by omega)
      rw [if_pos c1, if_pos c1, f_X0_readNumber_10, if_pos (show (2 : Int32) ≤ z32 ((0 + 1 + 1 : Nat) : Int) by decide), o_63 hb hx (show a + 1 + 1 ≤ len by omega) E k p n q (show a ≤ 100 by omega) (by omega) hm, if_neg (by omega)]
      by_cases c2 : 48 ≤ b (a + 2) ∧ b (a + 2) ≤ 57
      · rw [if_pos c2, if_pos c2]
        exact ⟨_, _, _, rfl, by omega, fun v hv => (by cases hv), fun _ => rfl⟩
      · rw [if_neg c2, if_neg c2]
        by_cases c3 : 10 * (b a - 48) + (b (a + 1) - 48) ≤ mx
        · rw [if_pos c3, if_pos c3]
          exact ⟨_, _, _, rfl, by omega, fun v hv => by cases hv; exact ⟨rfl, rfl, rfl⟩, fun h => by cases h⟩
        · rw [if_neg c3, if_neg c3]
          exact ⟨_, _, _, rfl, by omega, fun v hv => (by cases hv), fun _ => rfl⟩
    · rw [if_neg c1, if_neg c1, o_63 hb hx (show a + 1 ≤ len by omega) E k p n q (show a ≤ 100 by omega) (by omega) hm, if_neg (by omega), if_neg c1]
      by_cases c3 : b a - 48 ≤ mx
      · rw [if_pos c3, if_pos c3]
        exact ⟨_, _, _, rfl, by omega, fun v hv => by cases hv; exact ⟨rfl, rfl, rfl⟩, fun h => by cases h⟩
      · rw [if_neg c3, if_neg c3]
        exact ⟨_, _, _, rfl, by omega, fun v hv => (by cases hv), fun _ => rfl⟩
  · rw [if_neg c0, if_neg c0, o_63 hb hx ha E k p n q (show a ≤ 100 by omega) (by omega) hm, if_pos rfl]
    exact ⟨_, _, _, rfl, ha, fun v hv => (by cases hv), fun _ => rfl⟩
theorem o_num_f {b : Nat → Int} {len : Nat} (hb : t_b b len) {tx : Nat → Int32} (hx : t_x b len tx) {e : Nat} (he : e ≤ 100) {o : OR} (ho : t_bad tx len e o) {mx : Int} (hm : 0 ≤ mx ∧ mx < 128) : ∃ v o', f_X0_readNumber o (z32 mx) = some (v, o') ∧ t_bad tx len e o' := by
  obtain ⟨a, k, p, n, q, ha, rfl⟩ := ho
  obtain ⟨v', a', E', g1, g2, g3, g4⟩ := o_num hb hx ha (z32 e) k p n q hm
  have hE : E' = z32 e := by
    cases c : (s_num b a mx).1 with
    | none => rw [g4 c, e_f_n he]
    | some v => exact (g3 v c).2.2
  subst hE
  exact ⟨v', _, g1, a', k, p, n, q, g2, rfl⟩
theorem o_person_f {b : Nat → Int} {len : Nat} (hb : t_b b len) {tx : Nat → Int32} (hx : t_x b len tx) {a : Nat} (ha : a ≤ len) (k p n q : Int32) (c : ¬ (48 ≤ b a ∧ b a ≤ 55)) : ∃ o', f_X0_readPerson (OP tx (z32 len) (z32 a) (z32 (-1)) k p n q) = some (0, o') ∧ t_bad tx len a o' := by
  refine ⟨OP tx (z32 len) (z32 a) (z32 a) k p n q, ?_, a, k, p, n, q, ha, rfl⟩
  rw [o_person_n hb hx ha _ k p n q c, o_fail, z_some, e_f_y]
theorem t_bad.person {tx : Nat → Int32} {len e : Nat} {o : OR} (h : t_bad tx len e o) (v : Int32) : t_bad tx len e (sOR_person o v) := by
  obtain ⟨a, k, p, n, q, ha, rfl⟩ := h
  exact ⟨a, k, v, n, q, ha, rfl⟩
theorem t_bad.number {tx : Nat → Int32} {len e : Nat} {o : OR} (h : t_bad tx len e o) (v : Int32) : t_bad tx len e (sOR_number o v) := by
  obtain ⟨a, k, p, n, q, ha, rfl⟩ := h
  exact ⟨a, k, p, v, q, ha, rfl⟩
theorem t_bad.points {tx : Nat → Int32} {len e : Nat} {o : OR} (h : t_bad tx len e o) (v : Int32) : t_bad tx len e (sOR_points o v) := by
  obtain ⟨a, k, p, n, q, ha, rfl⟩ := h
  exact ⟨a, k, p, n, v, ha, rfl⟩
/-! an order -/
abbrev t_r : Type := Int × Int × Int × Int
def s_semi (r : t_r) (b : Nat → Int) (j : Nat) : Option t_r × Nat := if b j = 59 then (some r, j + 1) else (none, j)
def s_on (x : Option Int × Nat) (K : Int → Nat → Option t_r × Nat) : Option t_r × Nat := match x with
  | (some v, j) => K v j
  | (none, j) => (none, j)
def s_ord (b : Nat → Int) (a : Nat) : Option t_r × Nat :=
  if b a = 97 then
    (if 48 ≤ b (a + 1) ∧ b (a + 1) ≤ 55 then (if b (a + 2) = 44 then s_on (s_num b (a + 3) 41) fun v j => s_semi (0, b (a + 1) - 48, v, 0) b j else (none, a + 2)) else (none, a + 1))
  else if b a = 98 then
    (if 48 ≤ b (a + 1) ∧ b (a + 1) ≤ 55 then (if b (a + 2) = 44 then s_on (s_num b (a + 3) 29) fun v j => (if b j = 44 then s_on (s_num b (j + 1) 50) fun w j2 => s_semi (1, b (a + 1) - 48, v, w) b j2 else (none, j)) else (none, a + 2)) else (none, a + 1))
  else if b a = 99 then s_on (s_num b (a + 1) 29) fun v j => s_semi (2, v, 0, 0) b j
  else if b a = 122 then s_semi (3, 0, 0, 0) b (a + 1)
  else (none, a)
def t_cl (r : t_r) (k p n q : Int32) : Prop := (r.1 = 0 ∧ k = z32 97 ∧ p = z32 r.2.1 ∧ n = z32 r.2.2.1) ∨ (r.1 = 1 ∧ k = z32 98 ∧ p = z32 r.2.1 ∧ n = z32 r.2.2.1 ∧ q = z32 r.2.2.2) ∨ (r.1 = 2 ∧ k = z32 99 ∧ n = z32 r.2.1) ∨ (r.1 = 3 ∧ k = z32 122)
def t_mo (r : t_r) (ki f1 f2 f3 : Int32) : Prop := (r.1 = 0 ∧ ki = z32 0 ∧ f1 = z32 r.2.1 ∧ f2 = z32 r.2.2.1) ∨ (r.1 = 1 ∧ ki = z32 1 ∧ f1 = z32 r.2.1 ∧ f2 = z32 r.2.2.1 ∧ f3 = z32 r.2.2.2) ∨ (r.1 = 2 ∧ ki = z32 2 ∧ f1 = z32 r.2.1) ∨ (r.1 = 3 ∧ ki = z32 3)
/-- what the class has read -/
def t_cr (tx : Nat → Int32) (len : Nat) (x : Option t_r × Nat) (o : OR) : Prop := (∀ r, x.1 = some r → ∃ k p n q, o = OP tx (z32 len) (z32 (x.2 : Int)) (z32 (-1)) k p n q ∧ t_cl r k p n q) ∧ (x.1 = none → t_bad tx len x.2 o)
theorem o_semi {b : Nat → Int} {len : Nat} (hb : t_b b len) {tx : Nat → Int32} (hx : t_x b len tx) {a : Nat} (ha : a ≤ len) {k p n q : Int32} {r : t_r} (hr : t_cl r k p n q) : ∃ o', f_X0_expect (OP tx (z32 len) (z32 a) (z32 (-1)) k p n q) (z32 59) = some o' ∧ t_cr tx len (s_semi r b a) o' := by
  unfold s_semi
  by_cases c : b a = 59
  · rw [if_pos c]
    exact ⟨_, o_expect_y hb hx ha _ k p n q c, fun r' h => by cases h; exact ⟨k, p, n, q, rfl, hr⟩, fun h => by cases h⟩
  · rw [if_neg c]
    exact ⟨_, o_expect_n hb hx ha k p n q ⟨by omega, by omega⟩ c, fun r' h => (by cases h), fun _ => ⟨a, k, p, n, q, ha, rfl⟩⟩
theorem t_cr_bad {tx : Nat → Int32} {len x : Nat} {o : OR} (h : t_bad tx len x o) : t_cr tx len (none, x) o := ⟨fun r hr => (by cases hr), fun _ => h⟩
