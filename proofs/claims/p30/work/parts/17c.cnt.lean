/-! counting: the reference goes through absences or shifts, the class counts bits -/
theorem s_cnt_zero {f : Nat → Bool} : ∀ {m : Nat}, (∀ i, i < m → f i = false) → s_cnt f m = 0
  | 0, _ => rfl
  | m + 1, h => by
    rw [s_cnt, s_cnt_zero (fun i hi => h i (by omega)), h m (by omega), if_neg (by decide)]
theorem s_cnt_one {f g : Nat → Bool} {k : Nat} : ∀ {m : Nat}, k < m → (∀ i, i < m → i ≠ k → g i = f i) → f k = false → g k = true → s_cnt g m = s_cnt f m + 1
  | 0, hk, _, _, _ => by omega
  | m + 1, hk, h, h0, h1 => by
    rw [s_cnt, s_cnt]
    by_cases c : m = k
    · subst c
      rw [h0, h1, if_pos rfl, if_neg (by decide), s_cnt_congr (fun i hi => h i (by omega) (by omega))]
    · rw [s_cnt_one (by omega) (fun i hi hne => h i (by omega) hne) h0 h1, h m (by omega) c]
      omega
theorem s_cnt_keys {c : Nat → Bool} {k : Nat → Nat} {m : Nat} : ∀ n : Nat, (∀ i, i < n → c i = true → k i < m) → (∀ i j, i < j → j < n → c i = true → c j = true → k i ≠ k j) → s_cnt (fun t => s_any (fun i => c i && decide (k i = t)) n) m = s_cnt c n := by
  intro n
  induction n with
  | zero =>
    intro _ _
    exact s_cnt_zero (fun i _ => rfl)
  | succ n ih =>
    intro h1 h2
    have ih1 := ih (fun i hi => h1 i (by omega)) (fun i j hi hj => h2 i j hi (by omega))
    rw [s_cnt]
    cases d : c n
    · rw [if_neg (by decide), ← ih1]
      apply s_cnt_congr
      intro t _
      show (s_any _ n || (c n && decide (k n = t))) = _
      rw [d, Bool.false_and, Bool.or_false]
    · rw [if_pos rfl, ← ih1]
      refine s_cnt_one (k := k n) (h1 n (by omega) d) (fun t _ hne => ?_) ?_ ?_
      · show (s_any _ n || (c n && decide (k n = t))) = _
        rw [decide_eq_false (fun z => hne z.symm), Bool.and_false, Bool.or_false]
      · refine s_any_no.mpr fun i hi => ?_
        cases e : c i
        · rfl
        · rw [Bool.true_and]
          exact decide_eq_false (h2 i n hi (by omega) e d)
      · show (s_any _ n || (c n && decide (k n = k n))) = true
        rw [d, decide_eq_true rfl, Bool.true_and, Bool.or_true]
theorem s_cnt64 {f : Nat → Bool} {w : Int64} (h : ∀ i, i < 64 → b6 w i = (decide (i < 42) && f i)) : s_cnt (b6 w) 64 = s_cnt f 42 := by
  rw [show 64 = 42 + 22 from rfl, s_cnt_split, s_cnt_zero (m := 22), Nat.add_zero]
  · apply s_cnt_congr
    intro i hi
    rw [h i (by omega), decide_eq_true hi, Bool.true_and]
  · intro i hi
    rw [h _ (by omega), decide_eq_false (by omega), Bool.false_and]
/-- what is counted -/
def s_rsN (r : Int → Int) (p : Int) (t : Nat) : Bool := s_ros r p t
def s_wkN (r : Int → Int) (p : Int) (t : Nat) : Bool := s_wrk r p t
def s_frN (r : Int → Int) (p : Int) (t : Nat) : Bool := decide (s_why r p t = 0)
def s_eqN (r : Int → Int) (p k : Int) (a : Nat) : Bool := decide (r (30 + 13 * (a : Int) + k) = p)
def s_bdN (r : Int → Int) (p : Int) (a : Nat) : Bool := decide (r (30 + 13 * (a : Int) + (5 + p)) ≠ -1)
theorem s_why_in (r : Int → Int) (p t : Int) : 0 ≤ s_why r p t ∧ s_why r p t ≤ 5 := by
  unfold s_why
  split
  · omega
  · split
    · omega
    · split
      · omega
      · split <;> omega
/-- what is told of a person -/
def s_tp (r : Int → Int) (p k : Int) : Int := if k = 0 then (s_cnt (s_rsN r p) 42 : Nat) else if k = 1 then (s_cnt (s_eqN r p 0) (r 4).toNat : Nat) else if k = 2 then (s_cnt (s_eqN r p 3) (r 4).toNat : Nat) else if k = 3 then r (6 + 3 * p + 1) else if k = 4 then r (6 + 3 * p + 2) else if k = 5 then (s_cnt (s_wkN r p) 42 : Nat) else (s_cnt (s_bdN r p) (r 4).toNat : Nat)
/-! the class's counts -/
theorem s_absN {r : Int → Int} {K : Int} (hv : v_x K r) (p : Int) : s_cnt (fun t => s_abs r p t) 42 = s_cnt (s_eqN r p 0) (r 4).toNat := by
  have h4 := hv.1.1.2.1
  have e : ∀ t : Nat, s_abs r p t = s_any (fun i => s_eqN r p 0 i && decide ((r (30 + 13 * (i : Int) + 1)).toNat = t)) (r 4).toNat := by
    intro t
    unfold s_abs
    apply s_any_congr
    intro i hi
    have := (hv.1.2.2.1 i (by omega)).2
    unfold s_is s_eqN
    congr 1
    rw [decide_eq_decide]
    omega
  rw [s_cnt_congr (fun t _ => e t)]
  refine s_cnt_keys (c := s_eqN r p 0) (k := fun i => (r (30 + 13 * (i : Int) + 1)).toNat) _ (fun i hi _ => ?_) (fun i j hi hj c1 c2 => ?_)
  · have := (hv.1.2.2.1 i (by omega)).2
    show (r (30 + 13 * (i : Int) + 1)).toNat < 42
    omega
  · have g1 := (hv.1.2.2.1 i (by omega)).2
    have g2 := (hv.1.2.2.1 j (by omega)).2
    have u := hv.2.2.2.1 i j (by omega) (by omega) (by omega) ((of_decide_eq_true c1).trans (of_decide_eq_true c2).symm)
    show (r (30 + 13 * (i : Int) + 1)).toNat ≠ (r (30 + 13 * (j : Int) + 1)).toNat
    omega
theorem s_cvsN {r : Int → Int} {K : Int} (hv : v_x K r) {p : Int} (hp : 0 ≤ p) : s_cnt (fun t => s_cvs r p t) 42 = s_cnt (s_eqN r p 3) (r 4).toNat := by
  have h4 := hv.1.1.2.1
  have ec : ∀ i : Nat, (i : Int) < r 4 → s_eqN r p 3 i = true → s_ct r i := by
    intro i hi c
    refine Classical.byContradiction fun z => ?_
    have := ((hv.2.2.1 i (by omega)).2.2.1 z).1
    have c := of_decide_eq_true c
    omega
  have e : ∀ t : Nat, s_cvs r p t = s_any (fun i => s_eqN r p 3 i && decide ((r (30 + 13 * (i : Int) + 1)).toNat = t)) (r 4).toNat := by
    intro t
    unfold s_cvs
    apply s_any_congr
    intro i hi
    have g := (hv.1.2.2.1 i (by omega)).2
    have d : decide (r (30 + 13 * (i : Int) + 1) = t) = decide ((r (30 + 13 * (i : Int) + 1)).toNat = t) := by
      rw [decide_eq_decide]
      omega
    unfold s_cis
    rw [d]
    cases c : s_eqN r p 3 i
    · rw [show decide (r (30 + 13 * (i : Int) + 3) = p) = false from c, Bool.false_and, Bool.and_false]
    · rw [show decide (r (30 + 13 * (i : Int) + 3) = p) = true from c, s_cov_t.mpr (ec i (by omega) c), Bool.true_and]
  rw [s_cnt_congr (fun t _ => e t)]
  refine s_cnt_keys (c := s_eqN r p 3) (k := fun i => (r (30 + 13 * (i : Int) + 1)).toNat) _ (fun i hi _ => ?_) (fun i j hi hj c1 c2 => ?_)
  · have := (hv.1.2.2.1 i (by omega)).2
    show (r (30 + 13 * (i : Int) + 1)).toNat < 42
    omega
  · have g1 := (hv.1.2.2.1 i (by omega)).2
    have g2 := (hv.1.2.2.1 j (by omega)).2
    have u := hv.2.2.2.2 i j (by omega) (by omega) (by omega) (ec i (by omega) c1) (ec j (by omega) c2) ((of_decide_eq_true c1).trans (of_decide_eq_true c2).symm)
    show (r (30 + 13 * (i : Int) + 1)).toNat ≠ (r (30 + 13 * (j : Int) + 1)).toNat
    omega
theorem x_bidsBy_4 {S : ST} {r : Int → Int} (hx : x_rel S r) (hv : v_r r) {p : Nat} (hp : p < 8) {N : Nat} (hN : r 4 = N ∧ N ≤ 30) : ∀ (n j : Nat), j ≤ N → N < n + j → f_X1_bidsBy_4 S n (z32 p) (z32 (s_cnt (s_bdN r p) j)) (z32 j) = some (z32 (s_cnt (s_bdN r p) N)) := by
  intro n
  induction n with
  | zero => intro j h1 h2; omega
  | succ n ih =>
    intro j h1 h2
    have b1 := s_cnt_le (s_bdN r p) j
    rw [f_X1_bidsBy_4, hx.2.2.1, hN.1, x_bidIndex]
    simp (disch := omega) only [z32_lit, z32_le]
    by_cases c : j = N
    · rw [if_pos (by omega), c]
    · have ih1 := ih (j + 1) (by omega) (by omega)
      have i0 : -2147483648 ≤ s_bid r j p ∧ s_bid r j p < 2147483648 := hv.1.2.2.2 j (5 + p) (by omega) (by omega)
      rw [s_cnt] at ih1
      rw [if_neg (by omega), z_some, x_bidAt hx hv hp (by omega)]
      simp (disch := omega) only [z_in, if_true, z32_eq, z32_neg, z32_add, z_lets]
      by_cases d : s_bid r j p = -1
      · rw [show s_bdN r p j = false from decide_eq_false (fun z => z d), if_neg (by decide)] at ih1
        rw [if_pos d]
        exact ih1
      · rw [show s_bdN r p j = true from decide_eq_true d, if_pos rfl] at ih1
        rw [if_neg d]
        exact ih1
theorem x_bidsBy {S : ST} {r : Int → Int} (hx : x_rel S r) (hv : v_r r) {p : Nat} (hp : p < 8) : f_X1_bidsBy S (z32 p) = some (z32 (s_cnt (s_bdN r p) (r 4).toNat)) := by
  have := hv.1.2.1
  exact x_bidsBy_4 hx hv hp (N := (r 4).toNat) (by omega) 2000 0 (by omega) (by omega)
theorem x_aboutPerson {S : ST} {K : Int} {r : Int → Int} (hx : x_rel S r) (hv : v_x K r) {p : Nat} (hp : (p : Int) < r 3) {k : Int} (hk : -2147483648 ≤ k ∧ k < 2147483648) : f_X1_aboutPerson S (z32 p) (z32 k) = some (z32 (s_tp r p k)) := by
  have hr := hv.1
  have h3 := hr.1.1
  obtain ⟨e1, e2, e3, e4, e5⟩ := hx.2.2.2.2.1 p hp
  obtain ⟨w, hw, hwb⟩ := x_worked hx hr hp
  have n0 : s_cnt (b6 (ST_rosters S p)) 64 = s_cnt (s_rsN r p) 42 := by
    apply s_cnt64
    intro i hi
    rw [e1]
    by_cases c : i < 42
    · rw [decide_eq_true c, Bool.true_and]
      unfold s_rsN s_ros
      rw [Int.toNat_natCast]
    · rw [decide_eq_false c, Bool.false_and]
      exact s_ros_big hr ⟨by omega, hp⟩ (by omega)
  have n1 : s_cnt (b6 (ST_away S p)) 64 = s_cnt (s_eqN r p 0) (r 4).toNat := by
    rw [s_cnt64 e4, s_absN hv]
  have n2 : s_cnt (b6 (ST_covering S p)) 64 = s_cnt (s_eqN r p 3) (r 4).toNat := by
    rw [s_cnt64 e5, s_cvsN hv (by omega)]
  have n5 : s_cnt (b6 w) 64 = s_cnt (s_wkN r p) 42 := by
    apply s_cnt64
    intro i hi
    rw [hwb i hi]
    by_cases c : i < 42
    · rw [decide_eq_true c, Bool.true_and]
      rfl
    · rw [decide_eq_false c, Bool.false_and]
      unfold s_wrk
      rw [decide_eq_false (by omega), Bool.false_and]
  have e0 : (z32 (p : Int)).toNatClampNeg = p := by rw [z32_clamp (by omega)]; rfl
  unfold f_X1_aboutPerson s_tp
  rw [e0, hw, e2, e3]
  simp (disch := omega) only [z32_lit, z32_eq, z_in, if_true, pc_bitCount, n0, n1, n2, n5, z_some, x_bidsBy hx hr]
  by_cases c0 : k = 0
  · simp only [if_pos c0]
  · simp only [if_neg c0]
    by_cases c1 : k = 1
    · simp only [if_pos c1]
    · simp only [if_neg c1]
      by_cases c2 : k = 2
      · simp only [if_pos c2]
      · simp only [if_neg c2]
        by_cases c3 : k = 3
        · simp only [if_pos c3]
        · simp only [if_neg c3]
          by_cases c4 : k = 4
          · simp only [if_pos c4]
          · simp only [if_neg c4]
            by_cases c5 : k = 5
            · simp only [if_pos c5]
            · simp only [if_neg c5]
