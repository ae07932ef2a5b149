/-! what is told of an absence, and of all -/
theorem z_or0 (x : Int32) : x ||| z32 0 = x := by
  apply Int32.toBitVec_inj.mp
  rw [Int32.toBitVec_or]
  exact BitVec.or_zero
def s_able (r : Int → Int) (a : Int) : Nat → Int32
  | 0 => z32 0
  | j + 1 => if s_wnf r j a = 0 then s_able r a j ||| (z32 1 <<< (z32 j &&& z32 31)) else s_able r a j
theorem x_personsWho_4 {S : ST} {r : Int → Int} (hx : x_rel S r) (hv : v_r r) {P : Nat} (hP : r 3 = P ∧ P ≤ 8) {a : Nat} (ha : (a : Int) < r 4) : ∀ (n j : Nat), j ≤ P → P < n + j → f_X1_personsWhoCanCover_4 S n (z32 a) (s_able r a j) (z32 j) = some (s_able r a P) := by
  intro n
  induction n with
  | zero => intro j h1 h2; omega
  | succ n ih =>
    intro j h1 h2
    rw [f_X1_personsWhoCanCover_4, hx.2.1, hP.1]
    simp (disch := omega) only [z32_lit, z32_le]
    by_cases c : j = P
    · rw [if_pos (by omega), c]
    · have ih1 := ih (j + 1) (by omega) (by omega)
      rw [s_able] at ih1
      have w0 := s_wnf_in r j a
      rw [if_neg (by omega), x_hindrance hx hv (by omega) ha]
      simp (disch := omega) only [z32_add, z_lets, z_some, z32_eq]
      by_cases c2 : s_wnf r j a = 0
      · rw [if_neg (fun z => z c2)]
        rw [if_pos c2] at ih1
        exact ih1
      · rw [if_pos c2]
        rw [if_neg c2] at ih1
        exact ih1
theorem x_personsWho {S : ST} {r : Int → Int} (hx : x_rel S r) (hv : v_r r) {a : Nat} (ha : (a : Int) < r 4) : f_X1_personsWhoCanCover S (z32 a) = some (s_able r a (r 3).toNat) := by
  have h3 := hv.1.1
  exact x_personsWho_4 hx hv (P := (r 3).toNat) (by omega) ha 2000 0 (by omega) (by omega)
/-- persons to come have not bid -/
theorem s_nb8_all {K : Int} {r : Int → Int} (hv : v_x K r) {a : Int} (ha : 0 ≤ a ∧ a < r 4) : s_cnt (s_nb8 r a) 8 = s_cnt (s_nb8 r a) (r 3).toNat := by
  have h3 := hv.1.1.1
  rw [show 8 = (r 3).toNat + (8 - (r 3).toNat) by omega, s_cnt_split, s_cnt_zero (m := 8 - (r 3).toNat)]
  · rfl
  · intro i hi
    have := ((hv.2.2.1 a ha).2.2.2.2 (((r 3).toNat + i : Nat) : Int) (by omega)).2.1 (by omega)
    exact decide_eq_false (fun z => z this)
theorem x_bidsFor_4 {S : ST} {r : Int → Int} (hx : x_rel S r) (hv : v_r r) {P : Nat} (hP : r 3 = P ∧ P ≤ 8) {a : Nat} (ha : (a : Int) < r 4) : ∀ (n j : Nat), j ≤ P → P < n + j → f_X1_bidsFor_4 S n (z32 a) (z32 (s_cnt (s_nb8 r a) j)) (z32 j) = some (z32 (s_cnt (s_nb8 r a) P)) := by
  have h4 := hv.1.2.1
  intro n
  induction n with
  | zero => intro j h1 h2; omega
  | succ n ih =>
    intro j h1 h2
    rw [f_X1_bidsFor_4, hx.2.1, hP.1, x_bidIndex]
    simp (disch := omega) only [z32_lit, z32_le]
    by_cases c : j = P
    · rw [if_pos (by omega), c]
    · have ih1 := ih (j + 1) (by omega) (by omega)
      have i0 : -2147483648 ≤ s_bid r a j ∧ s_bid r a j < 2147483648 := hv.1.2.2.2 a (5 + j) (by omega) (by omega)
      rw [s_cnt] at ih1
      rw [if_neg (by omega), z_some, x_bidAt hx hv (by omega) ha]
      simp (disch := omega) only [z_in, if_true, z32_eq, z32_neg, z32_add, z_lets]
      by_cases d : s_bid r a j = -1
      · rw [show s_nb8 r a j = false from decide_eq_false (fun z => z d), if_neg (by decide)] at ih1
        rw [if_pos d]
        exact ih1
      · rw [show s_nb8 r a j = true from decide_eq_true d, if_pos rfl] at ih1
        rw [if_neg d]
        exact ih1
theorem x_bidsFor {K : Int} {S : ST} {r : Int → Int} (hx : x_rel S r) (hv : v_x K r) {a : Nat} (ha : (a : Int) < r 4) : f_X1_bidsFor S (z32 a) = some (z32 (s_cnt (s_nb8 r a) 8)) := by
  have h3 := hv.1.1.1
  rw [s_nb8_all hv (by omega)]
  exact x_bidsFor_4 hx hv.1 (P := (r 3).toNat) (by omega) ha 2000 0 (by omega) (by omega)
def s_ta (r : Int → Int) (a k : Int) : Int32 := if k < 5 then z32 (r (30 + 13 * a + k)) else if k = 5 then z32 (s_cnt (s_nb8 r a) 8) else s_able r a (r 3).toNat
theorem x_aboutAbsence {K : Int} {S : ST} {r : Int → Int} (hx : x_rel S r) (hv : v_x K r) {a : Nat} (ha : (a : Int) < r 4) {k : Int} (hk : 0 ≤ k ∧ k < 7) : f_X1_aboutAbsence S (z32 a) (z32 k) = some (s_ta r a k) := by
  have h4 := hv.1.1.2.1
  obtain ⟨e0, e1, e2, e3, e4, -⟩ := hx.2.2.2.2.2 a ha
  have ea : (z32 (a : Int)).toNatClampNeg = a := by rw [z32_clamp (by omega)]; rfl
  unfold f_X1_aboutAbsence s_ta
  rw [ea, e0, e1, e2, e3, e4]
  simp (disch := omega) only [z32_lit, z32_eq, z_in, if_true, x_bidsFor hx hv ha, x_personsWho hx hv.1 ha, z_some]
  by_cases c0 : k = 0
  · subst c0; rfl
  · rw [if_neg c0]
    by_cases c1 : k = 1
    · subst c1; rfl
    · rw [if_neg c1]
      by_cases c2 : k = 2
      · subst c2; rfl
      · rw [if_neg c2]
        by_cases c3 : k = 3
        · subst c3; rfl
        · rw [if_neg c3]
          by_cases c4 : k = 4
          · subst c4; rfl
          · rw [if_neg c4, if_neg (show ¬ k < 5 by omega)]
            by_cases c5 : k = 5
            · rw [if_pos c5, if_pos c5]
            · rw [if_neg c5, if_neg c5]
theorem x_countOf_4 {S : ST} {r : Int → Int} (hx : x_rel S r) (hv : v_b r) {N : Nat} (hN : r 4 = N ∧ N ≤ 30) {st : Int} (hs : 0 ≤ st ∧ st < 4) : ∀ (n j : Nat), j ≤ N → N < n + j → f_X1_countOf_4 S n (z32 st) (z32 (s_cnt (s_eqN r st 2) j)) (z32 j) = some (z32 (s_cnt (s_eqN r st 2) N)) := by
  intro n
  induction n with
  | zero => intro j h1 h2; omega
  | succ n ih =>
    intro j h1 h2
    rw [f_X1_countOf_4, hx.2.2.1, hN.1]
    simp (disch := omega) only [z32_lit, z32_le]
    by_cases c : j = N
    · rw [if_pos (by omega), c]
    · have ih1 := ih (j + 1) (by omega) (by omega)
      have i0 := hv.2.2.2 j 2 (by omega) (by omega)
      obtain ⟨-, -, e, -⟩ := hx.2.2.2.2.2 j (by omega)
      rw [s_cnt] at ih1
      rw [if_neg (by omega)]
      simp (disch := omega) only [z_in, if_true, z32_clamp, Int.toNat_natCast, e, z32_eq, z32_add, z_lets]
      by_cases d : r (30 + 13 * (j : Int) + 2) = st
      · rw [show s_eqN r st 2 j = true from decide_eq_true d, if_pos rfl] at ih1
        rw [if_neg (fun z => z d)]
        exact ih1
      · rw [show s_eqN r st 2 j = false from decide_eq_false d, if_neg (by decide)] at ih1
        rw [if_pos d]
        exact ih1
theorem x_countOf {S : ST} {r : Int → Int} (hx : x_rel S r) (hv : v_b r) {st : Int} (hs : 0 ≤ st ∧ st < 4) : f_X1_countOf S (z32 st) = some (z32 (s_cnt (s_eqN r st 2) (r 4).toNat)) := by
  have := hv.2.1
  exact x_countOf_4 hx hv (N := (r 4).toNat) (by omega) hs 2000 0 (by omega) (by omega)
/-- the greatest meter, or the lowest one -/
def s_mx (r : Int → Int) (g : Bool) : Nat → Int
  | 0 => -1
  | j + 1 => if j = 0 ∨ (if g = true then s_mx r g j < r (6 + 3 * (j : Int) + 1) else r (6 + 3 * (j : Int) + 1) < s_mx r g j) then r (6 + 3 * (j : Int) + 1) else s_mx r g j
theorem s_mx_in {r : Int → Int} (hv : v_r r) (g : Bool) : ∀ n : Nat, (n : Int) ≤ r 3 → -2147483648 ≤ s_mx r g n ∧ s_mx r g n < 2147483648
  | 0, _ => by rw [s_mx]; omega
  | n + 1, h => by
    have h1 := s_mx_in hv g n (by omega)
    have h2 := (hv.2.2.2.1 n (by omega)).1
    rw [s_mx]
    by_cases c : n = 0 ∨ (if g = true then s_mx r g n < r (6 + 3 * (n : Int) + 1) else r (6 + 3 * (n : Int) + 1) < s_mx r g n)
    · rw [if_pos c]
      exact h2
    · rw [if_neg c]
      exact h1
theorem x_greatest_18 {S : ST} {r : Int → Int} (hx : x_rel S r) (hv : v_r r) {P : Nat} (hP : r 3 = P ∧ P ≤ 8) : ∀ (n j : Nat), 1 ≤ j → j ≤ P → P < n + j → f_X1_greatestMeter_18 S n (z32 (s_mx r true j)) (z32 j) = some (z32 (s_mx r true P)) := by
  intro n
  induction n with
  | zero => intro j h0 h1 h2; omega
  | succ n ih =>
    intro j h0 h1 h2
    have b1 := s_mx_in hv true j (by omega)
    rw [f_X1_greatestMeter_18, hx.2.1, hP.1]
    simp (disch := omega) only [z32_lit, z32_le]
    by_cases c : j = P
    · rw [if_pos (by omega), c]
    · have ih1 := ih (j + 1) (by omega) (by omega) (by omega)
      have m1 := (hv.2.2.2.1 j (by omega)).1
      obtain ⟨-, e, -⟩ := hx.2.2.2.2.1 j (by omega)
      rw [s_mx] at ih1
      rw [if_neg (by omega)]
      simp (disch := omega) only [z_in, if_true, z32_clamp, Int.toNat_natCast, e, z32_lt, z32_add, z_lets]
      by_cases d : s_mx r true j < r (6 + 3 * (j : Int) + 1)
      · rw [if_pos (.inr (by rw [if_pos rfl]; exact d))] at ih1
        rw [if_pos d]
        exact ih1
      · rw [if_neg (fun z => z.elim (by omega) (fun y => by rw [if_pos rfl] at y; exact d y))] at ih1
        rw [if_neg d]
        exact ih1
theorem x_lowest_18 {S : ST} {r : Int → Int} (hx : x_rel S r) (hv : v_r r) {P : Nat} (hP : r 3 = P ∧ P ≤ 8) : ∀ (n j : Nat), 1 ≤ j → j ≤ P → P < n + j → f_X1_lowestMeter_18 S n (z32 (s_mx r false j)) (z32 j) = some (z32 (s_mx r false P)) := by
  intro n
  induction n with
  | zero => intro j h0 h1 h2; omega
  | succ n ih =>
    intro j h0 h1 h2
    have b1 := s_mx_in hv false j (by omega)
    rw [f_X1_lowestMeter_18, hx.2.1, hP.1]
    simp (disch := omega) only [z32_lit, z32_le]
    by_cases c : j = P
    · rw [if_pos (by omega), c]
    · have ih1 := ih (j + 1) (by omega) (by omega) (by omega)
      have m1 := (hv.2.2.2.1 j (by omega)).1
      obtain ⟨-, e, -⟩ := hx.2.2.2.2.1 j (by omega)
      rw [s_mx] at ih1
      rw [if_neg (by omega)]
      simp (disch := omega) only [z_in, if_true, z32_clamp, Int.toNat_natCast, e, z32_lt, z32_add, z_lets]
      by_cases d : r (6 + 3 * (j : Int) + 1) < s_mx r false j
      · rw [if_pos (.inr (by rw [if_neg (by decide)]; exact d))] at ih1
        rw [if_pos d]
        exact ih1
      · rw [if_neg (fun z => z.elim (by omega) (fun y => by rw [if_neg (by decide)] at y; exact d y))] at ih1
        rw [if_neg d]
        exact ih1
theorem x_greatest {S : ST} {r : Int → Int} (hx : x_rel S r) (hv : v_r r) : f_X1_greatestMeter S = some (z32 (s_mx r true (r 3).toNat)) := by
  have h3 := hv.1.1
  unfold f_X1_greatestMeter
  rw [hx.2.1]
  simp (disch := omega) only [z32_lit, z32_eq, z_in, if_true, z32_neg, z_lets]
  by_cases c : r 3 = 0
  · rw [if_neg (fun z => z c), c]; rfl
  · rw [if_pos c]
    obtain ⟨-, e, -⟩ := hx.2.2.2.2.1 0 (by omega)
    rw [show (z32 0).toNatClampNeg = 0 from rfl, e]
    exact x_greatest_18 hx hv (P := (r 3).toNat) (by omega) 2000 1 (by omega) (by omega) (by omega)
theorem x_lowest {S : ST} {r : Int → Int} (hx : x_rel S r) (hv : v_r r) : f_X1_lowestMeter S = some (z32 (s_mx r false (r 3).toNat)) := by
  have h3 := hv.1.1
  unfold f_X1_lowestMeter
  rw [hx.2.1]
  simp (disch := omega) only [z32_lit, z32_eq, z_in, if_true, z32_neg, z_lets]
  by_cases c : r 3 = 0
  · rw [if_neg (fun z => z c), c]; rfl
  · rw [if_pos c]
    obtain ⟨-, e, -⟩ := hx.2.2.2.2.1 0 (by omega)
    rw [show (z32 0).toNatClampNeg = 0 from rfl, e]
    exact x_lowest_18 hx hv (P := (r 3).toNat) (by omega) 2000 1 (by omega) (by omega) (by omega)
/-- sums over the absences -/
def s_ptN (r : Int → Int) (a : Nat) : Int := r (30 + 13 * (a : Int) + 4)
def s_nbN (r : Int → Int) (a : Nat) : Int := (s_cnt (s_nb8 r a) 8 : Nat)
theorem x_allPoints_4 {S : ST} {r : Int → Int} (hx : x_rel S r) {N : Nat} (hN : r 4 = N ∧ N ≤ 30) : ∀ (n j : Nat), j ≤ N → N < n + j → f_X1_allPoints_4 S n (z32 (s_sum (s_ptN r) j)) (z32 j) = some (z32 (s_sum (s_ptN r) N)) := by
  intro n
  induction n with
  | zero => intro j h1 h2; omega
  | succ n ih =>
    intro j h1 h2
    rw [f_X1_allPoints_4, hx.2.2.1, hN.1]
    simp (disch := omega) only [z32_lit, z32_le]
    by_cases c : j = N
    · rw [if_pos (by omega), c]
    · have ih1 := ih (j + 1) (by omega) (by omega)
      obtain ⟨-, -, -, -, e, -⟩ := hx.2.2.2.2.2 j (by omega)
      rw [s_sum] at ih1
      rw [if_neg (by omega)]
      simp (disch := omega) only [z_in, if_true, z32_clamp, Int.toNat_natCast, e, z32_add, z_lets]
      exact ih1
theorem x_allBids_4 {K : Int} {S : ST} {r : Int → Int} (hx : x_rel S r) (hv : v_x K r) {N : Nat} (hN : r 4 = N ∧ N ≤ 30) : ∀ (n j : Nat), j ≤ N → N < n + j → f_X1_allBids_4 S n (z32 (s_sum (s_nbN r) j)) (z32 j) = some (z32 (s_sum (s_nbN r) N)) := by
  intro n
  induction n with
  | zero => intro j h1 h2; omega
  | succ n ih =>
    intro j h1 h2
    rw [f_X1_allBids_4, hx.2.2.1, hN.1]
    simp (disch := omega) only [z32_lit, z32_le]
    by_cases c : j = N
    · rw [if_pos (by omega), c]
    · have ih1 := ih (j + 1) (by omega) (by omega)
      rw [s_sum] at ih1
      rw [if_neg (by omega), x_bidsFor hx hv (by omega)]
      simp (disch := omega) only [z_some, z32_add, z_lets]
      exact ih1
/-- a number of all -/
def s_tv (r : Int → Int) (k : Int) : Int := if k = 0 then r 3 else if k = 1 then r 4 else if k = 2 then (s_cnt (s_eqN r 0 2) (r 4).toNat : Nat) else if k = 3 then (s_cnt (s_eqN r 1 2) (r 4).toNat : Nat) else if k = 4 then (s_cnt (s_eqN r 2 2) (r 4).toNat : Nat) else if k = 5 then (s_cnt (s_eqN r 3 2) (r 4).toNat : Nat) else if k = 6 then s_mx r true (r 3).toNat else if k = 7 then s_mx r false (r 3).toNat else if k = 8 then s_sum (s_nbN r) (r 4).toNat else if k = 9 then s_sum (s_ptN r) (r 4).toNat else r 5
theorem x_aboutAll {K : Int} {S : ST} {r : Int → Int} (hx : x_rel S r) (hv : v_x K r) {k : Int} (hk : -2147483648 ≤ k ∧ k < 2147483648) : f_X1_aboutAll S (z32 k) = some (z32 (s_tv r k)) := by
  have h4 := hv.1.1.2.1
  have g8 : f_X1_allBids S = _ := x_allBids_4 hx hv (N := (r 4).toNat) (by omega) 2000 0 (by omega) (by omega)
  have g9 : f_X1_allPoints S = _ := x_allPoints_4 hx (N := (r 4).toNat) (by omega) 2000 0 (by omega) (by omega)
  have o0 := (x_countOf hx hv.1.1 (st := 0) (by omega))
  have o1 := (x_countOf hx hv.1.1 (st := 1) (by omega))
  have o2 := (x_countOf hx hv.1.1 (st := 2) (by omega))
  have o3 := (x_countOf hx hv.1.1 (st := 3) (by omega))
  have g6 := x_greatest hx hv.1
  have g7 := x_lowest hx hv.1
  unfold f_X1_aboutAll s_tv
  by_cases c0 : k = 0
  · subst c0
    rw [if_pos (show z32 0 = 0 from rfl)]
    exact congrArg some hx.2.1
  · have n0 : ¬ z32 k = 0 := fun z => c0 ((z32_eq (x := k) (y := 0) hk ⟨by omega, by omega⟩).mp z)
    by_cases c1 : k = 1
    · subst c1
      rw [if_neg (show ¬ z32 1 = 0 by decide), if_pos (show z32 1 = 1 from rfl)]
      exact congrArg some hx.2.2.1
    · have n1 : ¬ z32 k = 1 := fun z => c1 ((z32_eq (x := k) (y := 1) hk ⟨by omega, by omega⟩).mp z)
      by_cases c2 : k = 2
      · subst c2
        rw [if_neg (show ¬ z32 2 = 0 by decide), if_neg (show ¬ z32 2 = 1 by decide), if_pos (show z32 2 = 2 from rfl)]
        exact congrArg (fun o : Option Int32 => o.bind fun r => some r) o0
      · have n2 : ¬ z32 k = 2 := fun z => c2 ((z32_eq (x := k) (y := 2) hk ⟨by omega, by omega⟩).mp z)
        by_cases c3 : k = 3
        · subst c3
          rw [if_neg (show ¬ z32 3 = 0 by decide), if_neg (show ¬ z32 3 = 1 by decide), if_neg (show ¬ z32 3 = 2 by decide), if_pos (show z32 3 = 3 from rfl)]
          exact congrArg (fun o : Option Int32 => o.bind fun r => some r) o1
        · have n3 : ¬ z32 k = 3 := fun z => c3 ((z32_eq (x := k) (y := 3) hk ⟨by omega, by omega⟩).mp z)
          by_cases c4 : k = 4
          · subst c4
            rw [if_neg (show ¬ z32 4 = 0 by decide), if_neg (show ¬ z32 4 = 1 by decide), if_neg (show ¬ z32 4 = 2 by decide), if_neg (show ¬ z32 4 = 3 by decide), if_pos (show z32 4 = 4 from rfl)]
            exact congrArg (fun o : Option Int32 => o.bind fun r => some r) o2
          · have n4 : ¬ z32 k = 4 := fun z => c4 ((z32_eq (x := k) (y := 4) hk ⟨by omega, by omega⟩).mp z)
            by_cases c5 : k = 5
            · subst c5
              rw [if_neg (show ¬ z32 5 = 0 by decide), if_neg (show ¬ z32 5 = 1 by decide), if_neg (show ¬ z32 5 = 2 by decide), if_neg (show ¬ z32 5 = 3 by decide), if_neg (show ¬ z32 5 = 4 by decide), if_pos (show z32 5 = 5 from rfl)]
              exact congrArg (fun o : Option Int32 => o.bind fun r => some r) o3
            · have n5 : ¬ z32 k = 5 := fun z => c5 ((z32_eq (x := k) (y := 5) hk ⟨by omega, by omega⟩).mp z)
              by_cases c6 : k = 6
              · subst c6
                rw [if_neg (show ¬ z32 6 = 0 by decide), if_neg (show ¬ z32 6 = 1 by decide), if_neg (show ¬ z32 6 = 2 by decide), if_neg (show ¬ z32 6 = 3 by decide), if_neg (show ¬ z32 6 = 4 by decide), if_neg (show ¬ z32 6 = 5 by decide), if_pos (show z32 6 = 6 from rfl)]
                exact congrArg (fun o : Option Int32 => o.bind fun r => some r) g6
              · have n6 : ¬ z32 k = 6 := fun z => c6 ((z32_eq (x := k) (y := 6) hk ⟨by omega, by omega⟩).mp z)
                by_cases c7 : k = 7
                · subst c7
                  rw [if_neg (show ¬ z32 7 = 0 by decide), if_neg (show ¬ z32 7 = 1 by decide), if_neg (show ¬ z32 7 = 2 by decide), if_neg (show ¬ z32 7 = 3 by decide), if_neg (show ¬ z32 7 = 4 by decide), if_neg (show ¬ z32 7 = 5 by decide), if_neg (show ¬ z32 7 = 6 by decide), if_pos (show z32 7 = 7 from rfl)]
                  exact congrArg (fun o : Option Int32 => o.bind fun r => some r) g7
                · have n7 : ¬ z32 k = 7 := fun z => c7 ((z32_eq (x := k) (y := 7) hk ⟨by omega, by omega⟩).mp z)
                  by_cases c8 : k = 8
                  · subst c8
                    rw [if_neg (show ¬ z32 8 = 0 by decide), if_neg (show ¬ z32 8 = 1 by decide), if_neg (show ¬ z32 8 = 2 by decide), if_neg (show ¬ z32 8 = 3 by decide), if_neg (show ¬ z32 8 = 4 by decide), if_neg (show ¬ z32 8 = 5 by decide), if_neg (show ¬ z32 8 = 6 by decide), if_neg (show ¬ z32 8 = 7 by decide), if_pos (show z32 8 = 8 from rfl)]
                    exact congrArg (fun o : Option Int32 => o.bind fun r => some r) g8
                  · have n8 : ¬ z32 k = 8 := fun z => c8 ((z32_eq (x := k) (y := 8) hk ⟨by omega, by omega⟩).mp z)
                    by_cases c9 : k = 9
                    · subst c9
                      rw [if_neg (show ¬ z32 9 = 0 by decide), if_neg (show ¬ z32 9 = 1 by decide), if_neg (show ¬ z32 9 = 2 by decide), if_neg (show ¬ z32 9 = 3 by decide), if_neg (show ¬ z32 9 = 4 by decide), if_neg (show ¬ z32 9 = 5 by decide), if_neg (show ¬ z32 9 = 6 by decide), if_neg (show ¬ z32 9 = 7 by decide), if_neg (show ¬ z32 9 = 8 by decide), if_pos (show z32 9 = 9 from rfl)]
                      exact congrArg (fun o : Option Int32 => o.bind fun r => some r) g9
                    · have n9 : ¬ z32 k = 9 := fun z => c9 ((z32_eq (x := k) (y := 9) hk ⟨by omega, by omega⟩).mp z)
                      rw [if_neg n0, if_neg n1, if_neg n2, if_neg n3, if_neg n4, if_neg n5, if_neg n6, if_neg n7, if_neg n8, if_neg n9, if_neg c0, if_neg c1, if_neg c2, if_neg c3, if_neg c4, if_neg c5, if_neg c6, if_neg c7, if_neg c8, if_neg c9]
                      exact congrArg some hx.2.2.2.1
