/-! the text as numbers; what stands behind its end is -1 -/
def t_b (b : Nat → Int) (len : Nat) : Prop := len ≤ 100 ∧ (∀ i, i < len → 0 ≤ b i ∧ b i < 128) ∧ (∀ i, len ≤ i → b i = -1)
def t_dig (x : Int) : Prop := 48 ≤ x ∧ x ≤ 57
def t_x (b : Nat → Int) (len : Nat) (tx : Nat → Int32) : Prop := ∀ i, i < len → tx i = z32 (b i)
theorem t_b.rg {b : Nat → Int} {len : Nat} (h : t_b b len) (i : Nat) : -1 ≤ b i ∧ b i < 128 := by
  rcases Nat.lt_or_ge i len with c | c
  · have := h.2.1 i c
    omega
  · have := h.2.2 i c
    omega
theorem t_b.lt {b : Nat → Int} {len : Nat} (h : t_b b len) {i : Nat} (hi : b i ≠ -1) : i < len := by
  refine Classical.byContradiction fun c => hi (h.2.2 i (by omega))
/-- a number at i: none, where it fails; or its value, and where the text goes on -/
def s_num (b : Nat → Int) (i : Nat) (mx : Int) : Option Int × Nat :=
  if 48 ≤ b i ∧ b i ≤ 57 then
    (if 48 ≤ b (i + 1) ∧ b (i + 1) ≤ 57 then
      (if 48 ≤ b (i + 2) ∧ b (i + 2) ≤ 57 then (none, i + 2)
       else if 10 * (b i - 48) + (b (i + 1) - 48) ≤ mx then (some (10 * (b i - 48) + (b (i + 1) - 48)), i + 2) else (none, i))
     else if b i - 48 ≤ mx then (some (b i - 48), i + 1) else (none, i))
  else (none, i)
/-- the reference's state while it reads -/
abbrev MP (M : MD) (a fr nu ki f1 f2 f3 : Int32) : MD := (MD_now M, MD_kept M, MD_states M, MD_thrown M, MD_text M, MD_length M, a, fr, nu, ki, f1, f2, f3, MD_open M, MD_able M)
theorem m_isHere {b : Nat → Int} {len : Nat} (hb : t_b b len) {M : MD} (hx : t_x b len (MD_text M)) (hl : MD_length M = z32 len) {a : Nat} (ha : a ≤ len) (fr nu ki f1 f2 f3 : Int32) {l h : Int} (hlr : 0 ≤ l ∧ l < 128) (hhr : 0 ≤ h ∧ h < 128) : f_X3_isHere (MP M (z32 a) fr nu ki f1 f2 f3) (z32 l) (z32 h) = some (z_B (decide (l ≤ b a ∧ b a ≤ h))) := by
  have h1 := hb.1
  unfold f_X3_isHere
  show (if MD_length M ≤ z32 a then some 0 else if q_in (z32 a) 100 = true then (f_X3_isIn ((MD_text M (z32 (a : Int)).toNatClampNeg).toInt64) ((z32 l).toInt64) ((z32 h).toInt64)).bind (fun r3 => if r3 = 0 then some 0 else some 1) else none) = _
  rw [hl]
  by_cases c : len ≤ a
  · have e := hb.2.2 a c
    rw [if_pos ((z32_le ⟨by omega, by omega⟩ ⟨by omega, by omega⟩).mpr (by omega)), decide_eq_false (by omega)]
    rfl
  · have e := hb.2.1 a (by omega)
    rw [if_neg (fun z => c (by have := (z32_le ⟨by omega, by omega⟩ ⟨by omega, by omega⟩).mp z; omega)), if_pos (z_inT ⟨by omega, by omega, by omega⟩), z32_clamp (by omega), Int.toNat_natCast, hx a (by omega), z32_to64 (by omega), z32_to64 (by omega), z32_to64 (by omega), m_isIn (by omega) (by omega) (by omega), z_some]
    by_cases d : l ≤ b a ∧ b a ≤ h
    · rw [decide_eq_true d]; rfl
    · rw [decide_eq_false d]; rfl
theorem m_passes_y {b : Nat → Int} {len : Nat} (hb : t_b b len) {M : MD} (hx : t_x b len (MD_text M)) (hl : MD_length M = z32 len) {a : Nat} (ha : a ≤ len) (fr nu ki f1 f2 f3 : Int32) {l h : Int} (hlr : 0 ≤ l ∧ l < 128) (hhr : 0 ≤ h ∧ h < 128) (c : l ≤ b a ∧ b a ≤ h) : f_X3_passes (MP M (z32 a) fr nu ki f1 f2 f3) (z32 l) (z32 h) = some (1, MP M (z32 ((a + 1 : Nat) : Int)) fr (z32 (b a - 48)) ki f1 f2 f3) := by
  have h1 := hb.1
  have hlt := hb.lt (i := a) (by omega)
  unfold f_X3_passes
  rw [m_isHere hb hx hl ha fr nu ki f1 f2 f3 hlr hhr, z_some, decide_eq_true c, z_int]
  show (if q_in (z32 a) 100 = true then some ((1 : Int32), MP M (z32 a + 1) fr (MD_text M (z32 (a : Int)).toNatClampNeg - 48) ki f1 f2 f3) else none) = _
  rw [if_pos (z_inT ⟨by omega, by omega, by omega⟩), z32_clamp (by omega), Int.toNat_natCast, hx a hlt, show (48 : Int32) = z32 48 from rfl, z32_sub, show (1 : Int32) = z32 1 from rfl, z32_add]
  rfl
theorem m_passes_n {b : Nat → Int} {len : Nat} (hb : t_b b len) {M : MD} (hx : t_x b len (MD_text M)) (hl : MD_length M = z32 len) {a : Nat} (ha : a ≤ len) (fr nu ki f1 f2 f3 : Int32) {l h : Int} (hlr : 0 ≤ l ∧ l < 128) (hhr : 0 ≤ h ∧ h < 128) (c : ¬ (l ≤ b a ∧ b a ≤ h)) : f_X3_passes (MP M (z32 a) fr nu ki f1 f2 f3) (z32 l) (z32 h) = some (0, MP M (z32 a) fr nu ki f1 f2 f3) := by
  unfold f_X3_passes
  rw [m_isHere hb hx hl ha fr nu ki f1 f2 f3 hlr hhr, z_some, decide_eq_false c, z_inf]
theorem m_num {b : Nat → Int} {len : Nat} (hb : t_b b len) {M : MD} (hx : t_x b len (MD_text M)) (hl : MD_length M = z32 len) {a : Nat} (ha : a ≤ len) (fr nu ki f1 f2 f3 : Int32) {mx : Int} (hm : 0 ≤ mx ∧ mx < 128) : ∃ fr' nu', f_X3_passesNumber (MP M (z32 a) fr nu ki f1 f2 f3) (z32 mx) = some (z_B (s_num b a mx).1.isSome, MP M (z32 ((s_num b a mx).2 : Int)) fr' nu' ki f1 f2 f3) ∧ ∀ v, (s_num b a mx).1 = some v → nu' = z32 v := by
  have i0 := hb.rg a
  have i1 := hb.rg (a + 1)
  have r48 : (0 : Int) ≤ 48 ∧ (48 : Int) < 128 := by omega
  have r57 : (0 : Int) ≤ 57 ∧ (57 : Int) < 128 := by omega
  unfold f_X3_passesNumber s_num
  rw [z_lets]
  show ∃ fr' nu', ((f_X3_passes (MP M (z32 a) (z32 a) nu ki f1 f2 f3) (z32 48) (z32 57)).bind _) = _ ∧ _
  by_cases c0 : 48 ≤ b a ∧ b a ≤ 57
  · have l0 := hb.lt (i := a) (by omega)
    rw [m_passes_y hb hx hl ha _ _ _ _ _ _ r48 r57 c0, z_some, if_pos c0]
    show ∃ fr' nu', ((f_X3_passes (MP M (z32 ((a + 1 : Nat) : Int)) (z32 a) (z32 (b a - 48)) ki f1 f2 f3) (z32 48) (z32 57)).bind (fun r5 => if r5.1 = 0 then f_X3_passesNumber_47 r5.2 (z32 mx) (z32 (b a - 48)) else q_let (10 * z32 (b a - 48) + MD_number r5.2) fun v12 => f_X3_passesNumber_47 r5.2 (z32 mx) v12)) = _ ∧ _
    by_cases c1 : 48 ≤ b (a + 1) ∧ b (a + 1) ≤ 57
    · have l1 := hb.lt (i := a + 1) (by omega)
      rw [m_passes_y hb hx hl (show a + 1 ≤ len by omega) _ _ _ _ _ _ r48 r57 c1, z_some, if_pos c1, if_neg (show ¬ (1 : Int32) = 0 by decide), z_lets]
      show ∃ fr' nu', f_X3_passesNumber_47 (MP M (z32 ((a + 2 : Nat) : Int)) (z32 a) (z32 (b (a + 1) - 48)) ki f1 f2 f3) (z32 mx) (10 * z32 (b a - 48) + z32 (b (a + 1) - 48)) = _ ∧ _
      rw [show (10 : Int32) = z32 10 from rfl, z32_mul, z32_add]
      unfold f_X3_passesNumber_47
      rw [show (48 : Int32) = z32 48 from rfl, show (57 : Int32) = z32 57 from rfl, m_isHere hb hx hl (show a + 2 ≤ len by omega) _ _ _ _ _ _ r48 r57, z_some]
      by_cases c2 : 48 ≤ b (a + 2) ∧ b (a + 2) ≤ 57
      · rw [decide_eq_true c2, z_ift, if_pos c2]
        exact ⟨_, _, rfl, fun v hv => by cases hv⟩
      · rw [decide_eq_false c2, z_iff, if_neg c2]
        by_cases c3 : 10 * (b a - 48) + (b (a + 1) - 48) ≤ mx
        · rw [if_pos ((z32_le ⟨by omega, by omega⟩ ⟨by omega, by omega⟩).mpr c3), if_pos c3]
          exact ⟨_, _, rfl, fun v hv => by cases hv; rfl⟩
        · rw [if_neg (fun z => c3 ((z32_le ⟨by omega, by omega⟩ ⟨by omega, by omega⟩).mp z)), if_neg c3]
          exact ⟨_, _, rfl, fun v hv => by cases hv⟩
    · rw [m_passes_n hb hx hl (show a + 1 ≤ len by omega) _ _ _ _ _ _ r48 r57 c1, z_some, if_neg c1, if_pos (show (0 : Int32) = 0 from rfl)]
      show ∃ fr' nu', f_X3_passesNumber_47 (MP M (z32 ((a + 1 : Nat) : Int)) (z32 a) (z32 (b a - 48)) ki f1 f2 f3) (z32 mx) (z32 (b a - 48)) = _ ∧ _
      unfold f_X3_passesNumber_47
      rw [show (48 : Int32) = z32 48 from rfl, show (57 : Int32) = z32 57 from rfl, m_isHere hb hx hl (show a + 1 ≤ len by omega) _ _ _ _ _ _ r48 r57, z_some, decide_eq_false c1, z_iff]
      by_cases c3 : b a - 48 ≤ mx
      · rw [if_pos ((z32_le ⟨by omega, by omega⟩ ⟨by omega, by omega⟩).mpr c3), if_pos c3]
        exact ⟨_, _, rfl, fun v hv => by cases hv; rfl⟩
      · rw [if_neg (fun z => c3 ((z32_le ⟨by omega, by omega⟩ ⟨by omega, by omega⟩).mp z)), if_neg c3]
        exact ⟨_, _, rfl, fun v hv => by cases hv⟩
  · rw [m_passes_n hb hx hl ha _ _ _ _ _ _ r48 r57 c0, z_some, if_neg c0]
    exact ⟨_, _, rfl, fun v hv => by cases hv⟩
theorem s_num_le {b : Nat → Int} {len : Nat} (hb : t_b b len) {a : Nat} (ha : a ≤ len) (mx : Int) : (s_num b a mx).2 ≤ len := by
  unfold s_num
  split
  · rename_i c0
    have l0 := hb.lt (i := a) (by omega)
    split
    · rename_i c1
      have l1 := hb.lt (i := a + 1) (by omega)
      split
      · show a + 2 ≤ len; omega
      · split
        · show a + 2 ≤ len; omega
        · exact ha
    · split
      · show a + 1 ≤ len; omega
      · exact ha
  · exact ha
theorem s_num_in {b : Nat → Int} {len : Nat} (hb : t_b b len) {a : Nat} {mx v : Int} (h : (s_num b a mx).1 = some v) : 0 ≤ v ∧ v ≤ mx ∧ a < (s_num b a mx).2 := by
  unfold s_num at h ⊢
  split at h
  · rename_i c0
    rw [if_pos c0]
    split at h
    · rename_i c1
      rw [if_pos c1]
      split at h
      · cases h
      · rename_i c2
        rw [if_neg c2]
        split at h
        · rename_i c3
          rw [if_pos c3]
          cases h
          refine ⟨by omega, c3, ?_⟩
          show a < a + 2
          omega
        · cases h
    · rename_i c1
      rw [if_neg c1]
      split at h
      · rename_i c3
        rw [if_pos c3]
        cases h
        refine ⟨by omega, c3, ?_⟩
        show a < a + 1
        omega
      · cases h
  · cases h
/-! the class's reader -/
abbrev OP (tx : Nat → Int32) (len a e k p n q : Int32) : OR := (tx, len, a, e, k, p, n, q)
theorem o_sign {b : Nat → Int} {len : Nat} (hb : t_b b len) {tx : Nat → Int32} (hx : t_x b len tx) {a : Nat} (ha : a ≤ 200) (A e k p n q : Int32) : f_X0_signAt (OP tx (z32 len) A e k p n q) (z32 a) = some (z32 (b a)) := by
  have h1 := hb.1
  unfold f_X0_signAt
  show (if z32 (a : Int) < 0 then some (-1) else if z32 (len : Int) ≤ z32 (a : Int) then some (-1) else if q_in (z32 (a : Int)) 100 = true then some (tx (z32 (a : Int)).toNatClampNeg) else none) = _
  have l0 : ¬ z32 (a : Int) < 0 := fun z => by
    have := (z32_lt (x := a) (y := 0) ⟨by omega, by omega⟩ ⟨by omega, by omega⟩).mp z
    omega
  rw [if_neg l0]
  by_cases c : len ≤ a
  · rw [if_pos ((z32_le ⟨by omega, by omega⟩ ⟨by omega, by omega⟩).mpr (by omega)), hb.2.2 a c]
    decide
  · rw [if_neg (fun z => c (by have := (z32_le ⟨by omega, by omega⟩ ⟨by omega, by omega⟩).mp z; omega)), if_pos (z_inT ⟨by omega, by omega, by omega⟩), z32_clamp (by omega), Int.toNat_natCast, hx a (by omega)]
theorem o_fail_y (tx : Nat → Int32) (len A k p n q x : Int32) : f_X0_fail (OP tx len A (z32 (-1)) k p n q) x = some (OP tx len A x k p n q) := rfl
theorem o_fail_n (tx : Nat → Int32) (len A k p n q x : Int32) {e : Nat} (he : e ≤ 100) : f_X0_fail (OP tx len A (z32 e) k p n q) x = some (OP tx len A (z32 e) k p n q) := by
  unfold f_X0_fail
  refine if_pos fun z => ?_
  have z : z32 (e : Int) = -1 := z
  rw [show (-1 : Int32) = z32 (-1) by decide] at z
  have := (z32_eq ⟨by omega, by omega⟩ ⟨by omega, by omega⟩).mp z
  omega
/-- the reader failed at e; where it stands, is in the text -/
def t_bad (tx : Nat → Int32) (len e : Nat) (o : OR) : Prop := ∃ (a : Nat) (k p n q : Int32), a ≤ len ∧ o = OP tx (z32 len) (z32 a) (z32 e) k p n q
theorem o_expect_y {b : Nat → Int} {len : Nat} (hb : t_b b len) {tx : Nat → Int32} (hx : t_x b len tx) {a : Nat} (ha : a ≤ len) (e k p n q : Int32) {s : Int} (c : b a = s) : f_X0_expect (OP tx (z32 len) (z32 a) e k p n q) (z32 s) = some (OP tx (z32 len) (z32 ((a + 1 : Nat) : Int)) e k p n q) := by
  have h1 := hb.1
  unfold f_X0_expect
  show ((f_X0_signAt (OP tx (z32 len) (z32 a) e k p n q) (z32 a)).bind _) = _
  rw [o_sign hb hx (by omega), z_some, c, if_neg (fun z => z rfl), z_lets]
  show some (OP tx (z32 len) (z32 (a : Int) + 1) e k p n q) = _
  rw [show (1 : Int32) = z32 1 from rfl, z32_add]
  rfl
theorem o_expect_n {b : Nat → Int} {len : Nat} (hb : t_b b len) {tx : Nat → Int32} (hx : t_x b len tx) {a : Nat} (ha : a ≤ len) (k p n q : Int32) {s : Int} (hs : rng s) (c : b a ≠ s) : f_X0_expect (OP tx (z32 len) (z32 a) (z32 (-1)) k p n q) (z32 s) = some (OP tx (z32 len) (z32 a) (z32 a) k p n q) := by
  have h1 := hb.1
  have i0 := hb.rg a
  unfold f_X0_expect
  show ((f_X0_signAt (OP tx (z32 len) (z32 a) (z32 (-1)) k p n q) (z32 a)).bind _) = _
  rw [o_sign hb hx (by omega), z_some, if_pos (fun z => c ((z32_eq ⟨by omega, by omega⟩ hs).mp z))]
  rfl
theorem o_expect_f {b : Nat → Int} {len : Nat} (hb : t_b b len) {tx : Nat → Int32} (hx : t_x b len tx) {e : Nat} (he : e ≤ 100) {o : OR} (ho : t_bad tx len e o) {s : Int} (hs : 0 ≤ s ∧ s < 128) : ∃ o', f_X0_expect o (z32 s) = some o' ∧ t_bad tx len e o' := by
  have h1 := hb.1
  obtain ⟨a, k, p, n, q, ha, rfl⟩ := ho
  by_cases c : b a = s
  · have l := hb.lt (i := a) (by omega)
    exact ⟨_, o_expect_y hb hx ha _ k p n q c, a + 1, k, p, n, q, l, rfl⟩
  · have i0 := hb.rg a
    refine ⟨_, ?_, a, k, p, n, q, ha, rfl⟩
    unfold f_X0_expect
    show ((f_X0_signAt (OP tx (z32 len) (z32 a) (z32 e) k p n q) (z32 a)).bind _) = _
    rw [o_sign hb hx (by omega), z_some, if_pos (fun z => c ((z32_eq ⟨by omega, by omega⟩ ⟨by omega, by omega⟩).mp z))]
    show ((f_X0_fail (OP tx (z32 len) (z32 a) (z32 e) k p n q) (z32 a)).bind _) = _
    rw [o_fail_n _ _ _ _ _ _ _ _ he, z_some]
theorem o_person_y {b : Nat → Int} {len : Nat} (hb : t_b b len) {tx : Nat → Int32} (hx : t_x b len tx) {a : Nat} (ha : a ≤ len) (e k p n q : Int32) (c : 48 ≤ b a ∧ b a ≤ 55) : f_X0_readPerson (OP tx (z32 len) (z32 a) e k p n q) = some (z32 (b a - 48), OP tx (z32 len) (z32 ((a + 1 : Nat) : Int)) e k p n q) := by
  have h1 := hb.1
  have i9 := hb.rg a
  have L0 : (z32 (b a - 48) < 0) ↔ b a - 48 < 0 := z32_lt (y := 0) ⟨by omega, by omega⟩ ⟨by omega, by omega⟩
  have L8 : (z32 (b a - 48) < 8) ↔ b a - 48 < 8 := z32_lt (y := 8) ⟨by omega, by omega⟩ ⟨by omega, by omega⟩
  unfold f_X0_readPerson
  show ((f_X0_signAt (OP tx (z32 len) (z32 a) e k p n q) (z32 a)).bind _) = _
  rw [o_sign hb hx (by omega), z_some, show (48 : Int32) = z32 48 from rfl, z32_sub, z_lets, if_neg (fun z => by have := L0.mp z; omega), if_pos (L8.mpr (by omega)), z_lets]
  show some (z32 (b a - 48), OP tx (z32 len) (z32 (a : Int) + 1) e k p n q) = _
  rw [show (1 : Int32) = z32 1 from rfl, z32_add]
  rfl
theorem o_person_n {b : Nat → Int} {len : Nat} (hb : t_b b len) {tx : Nat → Int32} (hx : t_x b len tx) {a : Nat} (ha : a ≤ len) (e k p n q : Int32) (c : ¬ (48 ≤ b a ∧ b a ≤ 55)) : f_X0_readPerson (OP tx (z32 len) (z32 a) e k p n q) = (f_X0_fail (OP tx (z32 len) (z32 a) e k p n q) (z32 a)).bind fun r => some (0, r) := by
  have h1 := hb.1
  have i0 := hb.rg a
  have i9 := hb.rg a
  have L0 : (z32 (b a - 48) < 0) ↔ b a - 48 < 0 := z32_lt (y := 0) ⟨by omega, by omega⟩ ⟨by omega, by omega⟩
  have L8 : (z32 (b a - 48) < 8) ↔ b a - 48 < 8 := z32_lt (y := 8) ⟨by omega, by omega⟩ ⟨by omega, by omega⟩
  unfold f_X0_readPerson
  show ((f_X0_signAt (OP tx (z32 len) (z32 a) e k p n q) (z32 a)).bind _) = _
  rw [o_sign hb hx (by omega), z_some, show (48 : Int32) = z32 48 from rfl, z32_sub, z_lets]
  by_cases d : b a - 48 < 0
  · rw [if_pos (L0.mpr d)]
    rfl
  · rw [if_neg (fun z => d (L0.mp z)), if_neg (fun z => by have := L8.mp z; omega)]
    rfl
