/-! sets of shifts -/
theorem b6_andz {x : Int64} {t : Nat} (ht : t < 64) (h : b6 x t = false) : x.toBitVec &&& ((1 : Int64) <<< ((z32 (t : Nat)).toInt64 &&& 63)).toBitVec = 0#64 := by
  have e := congrArg Int64.toBitVec ((b6_has x t ht).mpr h)
  rw [Int64.toBitVec_and] at e
  exact e
theorem b6_addor {x : Int64} {t : Nat} (ht : t < 64) (h : b6 x t = false) : x + ((1 : Int64) <<< ((z32 (t : Nat)).toInt64 &&& 63)) = x ||| ((1 : Int64) <<< ((z32 (t : Nat)).toInt64 &&& 63)) := by
  apply Int64.toBitVec_inj.mp
  rw [Int64.toBitVec_add, Int64.toBitVec_or]
  exact BitVec.add_eq_or_of_and_eq_zero _ _ (b6_andz ht h)
theorem m_workOf_5 {M : MD} {r : Int → Int} (h : q_row (MD_now M) r) (hv : v_b r) {p : Int} (hp : 0 ≤ p ∧ p < 8) : ∀ (n j : Nat) (w : Int64), j ≤ 42 → 42 < n + j → (∀ i : Nat, i < 64 → b6 w i = (decide (i < j) && s_wrk r p i)) → ∃ u, f_X3_workOf_5 M n (z32 p) w (z32 j) = some u ∧ ∀ i : Nat, i < 64 → b6 u i = s_wrk r p i := by
  intro n
  induction n with
  | zero => intro j w h1 h2; omega
  | succ n ih =>
    intro j w h1 h2 hw
    rw [f_X3_workOf_5]
    by_cases c : j = 42
    · simp (disch := omega) only [z32_lit, z32_le]
      rw [if_pos (by omega)]
      refine ⟨w, rfl, fun i hi => ?_⟩
      rw [hw i hi]
      by_cases d : i < j
      · rw [decide_eq_true d, Bool.true_and]
      · rw [decide_eq_false d, Bool.false_and]
        unfold s_wrk
        rw [decide_eq_false (by omega), Bool.false_and]
    · rw [m_worksIn h hv hp (by omega), z_some]
      simp (disch := omega) only [z32_lit, z32_le, z_B0, z32_add, z_lets]
      rw [if_neg (by omega)]
      cases d : s_wrk r p j
      · rw [if_pos rfl]
        refine ih (j + 1) _ (by omega) (by omega) (fun i hi => ?_)
        rw [Int64.add_zero, hw i hi]
        by_cases e : i = j
        · rw [e, d, Bool.and_false, Bool.and_false]
        · rw [decide_eq_decide.mpr (show i < j ↔ i < j + 1 by omega)]
      · rw [if_neg (by decide)]
        have hj : b6 w j = false := by rw [hw j (by omega), decide_eq_false (by omega), Bool.false_and]
        refine ih (j + 1) _ (by omega) (by omega) (fun i hi => ?_)
        rw [b6_addor (by omega) hj, b6_or, b6_bit j (by omega) hi, hw i hi]
        by_cases e : i = j
        · rw [e, d, decide_eq_true rfl, decide_eq_true (show j < j + 1 by omega), Bool.or_true]; rfl
        · rw [decide_eq_false e, Bool.or_false, decide_eq_decide.mpr (show i < j ↔ i < j + 1 by omega)]
theorem m_workOf {M : MD} {r : Int → Int} (h : q_row (MD_now M) r) (hv : v_b r) {p : Int} (hp : 0 ≤ p ∧ p < 8) : ∃ u, f_X3_workOf M (z32 p) = some u ∧ ∀ i : Nat, i < 64 → b6 u i = s_wrk r p i := m_workOf_5 h hv hp 2000 0 0 (by omega) (by omega) (fun i _ => by rw [b6_0]; rfl)
/-- class and reference tell the same work -/
theorem xm_work {M : MD} {S : ST} {r : Int → Int} (h : q_row (MD_now M) r) (hx : x_rel S r) (hv : v_r r) {p : Nat} (hp : (p : Int) < r 3) : ∃ u, f_X3_workOf M (z32 p) = some u ∧ f_X1_worked S (z32 p) = some u := by
  have h3 := hv.1.1
  obtain ⟨w, g1, g2⟩ := x_worked hx hv hp
  obtain ⟨u, g3, g4⟩ := m_workOf h hv.1 (p := p) (by omega)
  have e : u = w := b6_ext fun i hi => by rw [g4 i hi, g2 i hi]
  exact ⟨u, g3, by rw [e]; exact g1⟩
theorem b6_all : ∀ i, i < 64 → b6 4398046511103 i = decide (i < 42) := by decide +kernel
theorem x_free {S : ST} {r : Int → Int} (hx : x_rel S r) (hv : v_r r) {p : Nat} (hp : (p : Int) < r 3) : ∃ u, f_X1_free S (z32 p) = some u ∧ ∀ i : Nat, i < 64 → b6 u i = (decide (i < 42) && s_frN r p i) := by
  have h3 := hv.1.1
  obtain ⟨-, -, -, e4, -⟩ := hx.2.2.2.2.1 p hp
  obtain ⟨w, hw, hwb⟩ := x_worked hx hv hp
  obtain ⟨u1, hu1, hb1⟩ := x_restBehind hx hv (p := p) hwb
  obtain ⟨u2, hu2, hb2⟩ := x_restBefore hx hv (p := p) hwb
  refine ⟨4398046511103 &&& ((((ST_away S p ||| w) ||| u1) ||| u2) ^^^ (-1)), ?_, fun i hi => ?_⟩
  · unfold f_X1_free
    rw [hw, z_some]
    simp (disch := omega) only [z_in, if_true, z32_clamp, Int.toNat_natCast]
    rw [hu1, z_some, hu2, z_some]
  · rw [b6_and, b6_all i hi]
    by_cases c : i < 42
    · rw [decide_eq_true c, Bool.true_and, Bool.true_and, b6_xor, b6_m1 i hi, b6_or, b6_or, b6_or, e4 i hi, hwb i hi, hb1 i c, hb2 i c, decide_eq_true c]
      unfold s_frN s_why
      cases s_abs r p i <;> cases s_wrk r p i <;> cases s_any (s_nb r p i) (r 0).toNat <;> cases s_any (s_na r p i) (r 0).toNat <;> rfl
    · rw [decide_eq_false c, Bool.false_and, Bool.false_and]
/-! how far the meters are apart -/
def s_ab (r : Int → Int) (j : Nat) : Int := if r (6 + 3 * (j : Int) + 1) < 0 then -r (6 + 3 * (j : Int) + 1) else r (6 + 3 * (j : Int) + 1)
theorem s_ab_sum {K : Int} {r : Int → Int} (hk : v_k K r) : ∀ n : Nat, (n : Int) ≤ r 3 → 0 ≤ s_sum (s_ab r) n ∧ s_sum (s_ab r) n ≤ K * n
  | 0, _ => by rw [s_sum]; omega
  | n + 1, h => by
    obtain ⟨g1, g2⟩ := s_ab_sum hk n (by omega)
    have m := (hk.1 n (by omega)).1
    have e : K * ((n + 1 : Nat) : Int) = K * n + K := by rw [Int.natCast_add, Int.mul_add]; omega
    rw [s_sum, e]
    unfold s_ab at *
    split <;> omega
/-- bits that are no NaN -/
def fp_ok (n : Nat) : Prop := n % 9223372036854775808 ≤ 9218868437227405312 ∧ n < 18446744073709551616
theorem fp_fin (s : Bool) (c : Nat) (q : Int) (hc : c < 9007199254740992) (hq : q ≤ 971) : fp_ok (FP.Core.encode FP.Core.b64 (.fin s c q)) := by
  have e : FP.Core.encode FP.Core.b64 (.fin s c q) = if c < 4503599627370496 then (s.toNat * 2048 + 0) * 4503599627370496 + c else (s.toNat * 2048 + ((q - (-1074)).toNat + 1)) * 4503599627370496 + (c - 4503599627370496) := rfl
  rw [e]
  unfold fp_ok
  cases s
  · rw [show false.toNat = 0 from rfl]
    split <;> omega
  · rw [show true.toNat = 1 from rfl]
    split <;> omega
theorem fp_inf (s : Bool) : fp_ok (FP.Core.encode FP.Core.b64 (.inf s)) := by
  cases s <;> (unfold fp_ok; decide +kernel)
theorem fp_bound (s : Bool) (c : Nat) (q : Int) (hc : c < 9007199254740992) : fp_ok (FP.Core.encode FP.Core.b64 (FP.Core.bound FP.Core.b64 s c q)) := by
  unfold FP.Core.bound
  by_cases h : q ≤ FP.Core.Fmt.qmax FP.Core.b64
  · rw [if_pos h]
    rw [show FP.Core.Fmt.qmax FP.Core.b64 = 971 by decide] at h
    exact fp_fin s c q hc h
  · rw [if_neg h]
    exact fp_inf s
theorem fp_rr (s : Bool) (A B : Nat) (e : Int) : fp_ok (FP.Core.encode FP.Core.b64 (FP.Core.roundRatio FP.Core.b64 s A B e)) := by
  unfold FP.Core.roundRatio
  by_cases h : A = 0
  · rw [if_pos h]
    exact fp_fin s 0 _ (by omega) (by decide)
  · rw [if_neg h]
    unfold FP.Core.roundAt FP.Core.settle
    generalize FP.Core.nearest _ _ = c
    by_cases h2 : c < 2 ^ FP.Core.Fmt.p FP.Core.b64
    · rw [if_pos h2]
      exact fp_bound s c _ h2
    · rw [if_neg h2]
      exact fp_bound s _ _ (by decide)
theorem fp_dec {n : Nat} (h : n % 9223372036854775808 ≤ 9218868437227405312) : FP.Core.decode FP.Core.b64 n ≠ .nan := by
  intro hn
  unfold FP.Core.decode at hn
  by_cases e : FP.Core.fieldE FP.Core.b64 n = FP.Core.Fmt.exps FP.Core.b64 - 1
  · rw [if_pos e] at hn
    have e2 : n / 4503599627370496 % 2048 = 2047 := e
    have t : FP.Core.fieldT FP.Core.b64 n = 0 := by
      show n % 4503599627370496 = 0
      omega
    rw [if_pos t] at hn
    cases hn
  · rw [if_neg e] at hn
    split at hn <;> cases hn
theorem fp_tn {n : Nat} (h : n < 18446744073709551616) : (UInt64.ofNat n).toNat = n := Nat.mod_eq_of_lt h
theorem fp_num {n : Nat} (h : fp_ok n) : q_num (UInt64.ofNat n) = true := by
  unfold q_num
  apply decide_eq_true
  rw [UInt64.le_iff_toNat_le, UInt64.toNat_and, fp_tn h.2, show (0x7fffffffffffffff : UInt64).toNat = 2 ^ 63 - 1 from rfl, Nat.and_two_pow_sub_one_eq_mod]
  exact h.1
theorem fp_q (x y : FP.Core.Datum) (c : Nat) (q : Int) (hx : x ≠ .nan) (hy : y = .fin false c q) (hc : c ≠ 0) : fp_ok (FP.Core.encode FP.Core.b64 (FP.Core.quotient FP.Core.b64 x y)) := by
  subst hy
  cases x with
  | nan => exact absurd rfl hx
  | inf s => exact fp_inf _
  | fin s a b =>
    have e : FP.Core.quotient FP.Core.b64 (.fin s a b) (.fin false c q) = if c = 0 then (if a = 0 then FP.Core.Datum.nan else .inf (s != false)) else FP.Core.roundRatio FP.Core.b64 (s != false) a c (b - q) := rfl
    rw [e, if_neg hc]
    exact fp_rr _ _ _ _
theorem fp_small : ∀ P : Nat, P < 9 → P ≠ 0 → ∃ c q, c ≠ 0 ∧ FP.Core.decode FP.Core.b64 (FP.i2d (z32 (P : Int))).toNat = .fin false c q := by
  intro P hP h0
  match P, hP, h0 with
  | 1, _, _ => exact ⟨4503599627370496, -52, by decide, by decide +kernel⟩
  | 2, _, _ => exact ⟨4503599627370496, -51, by decide, by decide +kernel⟩
  | 3, _, _ => exact ⟨6755399441055744, -51, by decide, by decide +kernel⟩
  | 4, _, _ => exact ⟨4503599627370496, -50, by decide, by decide +kernel⟩
  | 5, _, _ => exact ⟨5629499534213120, -50, by decide, by decide +kernel⟩
  | 6, _, _ => exact ⟨6755399441055744, -50, by decide, by decide +kernel⟩
  | 7, _, _ => exact ⟨7881299347898368, -50, by decide, by decide +kernel⟩
  | 8, _, _ => exact ⟨4503599627370496, -49, by decide, by decide +kernel⟩
theorem fp_div (x : Int32) {P : Nat} (hP : P < 9) (h0 : P ≠ 0) : ∃ n, fp_ok n ∧ FP.ddiv (FP.i2d x) (FP.i2d (z32 (P : Int))) = UInt64.ofNat n := by
  obtain ⟨c, q, hc, e⟩ := fp_small P hP h0
  have hx : fp_ok (FP.Core.encode FP.Core.b64 (FP.Core.round FP.Core.b64 (FP.Core.ofInt x.toInt))) := fp_rr _ _ _ _
  refine ⟨FP.Core.encode FP.Core.b64 (FP.Core.quotient FP.Core.b64 (FP.Core.decode FP.Core.b64 (FP.i2d x).toNat) (FP.Core.decode FP.Core.b64 (FP.i2d (z32 (P : Int))).toNat)), fp_q _ _ c q ?_ e hc, rfl⟩
  have e2 : (FP.i2d x).toNat = FP.Core.encode FP.Core.b64 (FP.Core.round FP.Core.b64 (FP.Core.ofInt x.toInt)) := fp_tn hx.2
  rw [e2]
  exact fp_dec hx.1
theorem fp_num2 (x : Int32) {P : Nat} (hP : P < 9) (h0 : P ≠ 0) : q_num (FP.ddiv (FP.i2d x) (FP.i2d (z32 (P : Int)))) = true := by
  obtain ⟨n, h1, h2⟩ := fp_div x hP h0
  rw [h2]
  exact fp_num h1
theorem fp_self {n : Nat} (h : fp_ok n) : FP.dcmp (UInt64.ofNat n) (UInt64.ofNat n) = some .eq := by
  have cs : ∀ z : Int, compare z z = Ordering.eq := by
    intro z
    show compareOfLessAndEq z z = .eq
    unfold compareOfLessAndEq
    rw [if_neg (Int.lt_irrefl _), if_pos rfl]
  show FP.Core.order (FP.Core.decode FP.Core.b64 (UInt64.ofNat n).toNat) (FP.Core.decode FP.Core.b64 (UInt64.ofNat n).toNat) = _
  rw [fp_tn h.2]
  have hd := fp_dec h.1
  generalize FP.Core.decode FP.Core.b64 n = d at hd
  cases d with
  | nan => exact absurd rfl hd
  | inf s => exact congrArg some (cs _)
  | fin s a b => exact congrArg some (cs _)
theorem fp_l2d {s : Int} (h : -2147483648 ≤ s ∧ s < 2147483648) : FP.l2d (z64 s) = FP.i2d (z32 s) := by
  show UInt64.ofNat (FP.Core.fromInt FP.Core.b64 (z64 s).toInt) = UInt64.ofNat (FP.Core.fromInt FP.Core.b64 (z32 s).toInt)
  rw [z32_toInt h.1 h.2, z64_toInt (by omega) (by omega)]
theorem m_spread_9 {K : Int} {M : MD} {r : Int → Int} (h : q_row (MD_now M) r) (hv : v_x K r) (hK : K < 200000000) {P : Nat} (hP : r 3 = P ∧ P ≤ 8) : ∀ (n j : Nat), j ≤ P → P < n + j → f_X3_spread_9 n M (z64 (s_sum (s_ab r) j)) (z32 j) = some (if P = 0 then FP.dconst0 else FP.ddiv (FP.i2d (z32 (s_sum (s_ab r) P))) (FP.i2d (z32 (P : Int))), M) := by
  intro n
  induction n with
  | zero => intro j h1 h2; omega
  | succ n ih =>
    intro j h1 h2
    rw [f_X3_spread_9]
    simp (disch := omega) only [z32_lit, z64_lit, z_in, if_true, z32_to64]
    rw [h.at (by omega), hP.1]
    by_cases c : j = P
    · subst c
      simp (disch := omega) only [z_cmp_ge, z_cmp_eq]
      rw [if_pos (by omega)]
      by_cases d : j = 0
      · rw [if_neg (by omega), if_pos d]
      · have b := s_ab_sum hv.2.1 j (by omega)
        have b2 : K * j ≤ K * 8 := Int.mul_le_mul_of_nonneg_left (by omega) (by have := hv.2.1.2; omega)
        rw [if_pos (by omega), if_neg d, fp_l2d (by omega), fp_l2d (by omega), if_pos (fp_num2 _ (by omega) d)]
    · have ih1 := ih (j + 1) (by omega) (by omega)
      have m := (hv.2.1.1 j (by omega)).1
      rw [s_sum] at ih1
      unfold s_ab at ih1 ⊢
      simp (disch := omega) only [z_cmp_ge, m_ofP h, z_some, z64_add, z64_neg, z32_add, z_lets]
      rw [if_neg (by omega)]
      by_cases d : r (6 + 3 * (j : Int) + 1) < 0
      · rw [if_pos d] at ih1
        rw [if_neg (by omega)]
        exact ih1
      · rw [if_neg d] at ih1
        rw [if_pos (by omega)]
        exact ih1
theorem x_spread_16 {K : Int} {S : CM} {r : Int → Int} (hx : x_rel (CM_now S) r) (hv : v_x K r) (hK : K < 200000000) {P : Nat} (hP : r 3 = P ∧ P ≤ 8) (hP0 : P ≠ 0) : ∀ (n j : Nat), j ≤ P → P < n + j → f_X2_spread_16 S n (z32 (s_sum (s_ab r) j)) (z32 j) = some (FP.ddiv (FP.i2d (z32 (s_sum (s_ab r) P))) (FP.i2d (z32 (P : Int)))) := by
  intro n
  induction n with
  | zero => intro j h1 h2; omega
  | succ n ih =>
    intro j h1 h2
    rw [f_X2_spread_16, hx.2.1, hP.1]
    by_cases c : j = P
    · subst c
      rw [if_pos (by simp (disch := omega) only [z32_le]; omega), if_pos (fp_num2 _ (by omega) hP0)]
    · have ih1 := ih (j + 1) (by omega) (by omega)
      have m := (hv.2.1.1 j (by omega)).1
      obtain ⟨-, e, -⟩ := hx.2.2.2.2.1 j (by omega)
      rw [s_sum] at ih1
      unfold s_ab at ih1 ⊢
      simp (disch := omega) only [z32_lit, z32_le, z_in, if_true, z32_clamp, Int.toNat_natCast, e, z_lets, z32_sub]
      rw [if_neg (by omega)]
      by_cases d : r (6 + 3 * (j : Int) + 1) < 0
      · rw [if_pos d] at ih1
        rw [if_neg (by omega), z32_add, z32_add, show 0 - r (6 + 3 * (j : Int) + 1) = -r (6 + 3 * (j : Int) + 1) by omega]
        exact ih1
      · rw [if_neg d] at ih1
        rw [if_pos (by omega), z32_add, z32_add]
        exact ih1
theorem xm_spread {K : Int} {S : CM} {M : MD} {r : Int → Int} (h : q_row (MD_now M) r) (hx : x_rel (CM_now S) r) (hv : v_x K r) (hK : K < 200000000) : ∃ v, f_X2_spread S = some v ∧ f_X3_spread M = some (v, sMD_thrown M 0) ∧ Op.cmpValue (FP.dcmp v v) .l = 0 := by
  have h3 := hv.1.1.1
  have e1 : f_X3_spread M = _ := m_spread_9 (M := sMD_thrown M 0) h hv hK (P := (r 3).toNat) (by omega) 2000 0 (by omega) (by omega)
  refine ⟨_, ?_, e1, ?_⟩
  · unfold f_X2_spread
    rw [hx.2.1]
    by_cases c : r 3 = 0
    · rw [c, if_neg (fun z => z rfl), if_pos (by omega)]
    · rw [if_pos (by simp (disch := omega) only [z32_lit, z32_eq]; exact c), if_neg (by omega)]
      exact x_spread_16 hx hv hK (P := (r 3).toNat) (by omega) (by omega) 2000 0 (by omega) (by omega)
  · by_cases c : (r 3).toNat = 0
    · rw [if_pos c]
      decide +kernel
    · rw [if_neg c]
      obtain ⟨n, g1, g2⟩ := fp_div (z32 (s_sum (s_ab r) (r 3).toNat)) (P := (r 3).toNat) (by omega) c
      rw [g2, fp_self g1]
      rfl
