/-! the calls that read -/
def rng (x : Int) : Prop := -2147483648 ≤ x ∧ x < 2147483648
theorem z_t0 {α : Type} (M : MD) (a b : α) : (if MD_thrown (sMD_thrown M 0) = 0 then a else b) = a := if_pos rfl
theorem z_t0n {α : Type} (M : MD) (a b : α) : (if ¬ MD_thrown (sMD_thrown M 0) = 0 then a else b) = b := if_neg (fun z => z rfl)
theorem z_tk {α : Type} {k : Int32} (hk : k ≠ 0) (M : MD) (a b : α) : (if MD_thrown (sMD_thrown M k) = 0 then a else b) = b := if_neg hk
theorem z_tkn {α : Type} {k : Int32} (hk : k ≠ 0) (M : MD) (a b : α) : (if ¬ MD_thrown (sMD_thrown M k) = 0 then a else b) = a := if_pos hk
theorem z_inT {x : Int} {n : Nat} (h : 0 ≤ x ∧ x < n ∧ n < 2147483648) : q_in (z32 x) n = true := (z_in h).mpr trivial
theorem z_ift {α : Type} (a b : α) : (if z_B true = 0 then a else b) = b := if_neg (by decide)
theorem z_iff {α : Type} (a b : α) : (if z_B false = 0 then a else b) = a := if_pos (by decide)
theorem z_int {α : Type} (a b : α) : (if ¬ z_B true = 0 then a else b) = a := if_pos (by decide)
theorem z_inf {α : Type} (a b : α) : (if ¬ z_B false = 0 then a else b) = b := if_neg (by decide)
theorem n_range {x l h : Int} (hx : rng x) (hl : rng l) (hh : rng h) : f_X2_needInRange (z32 x) (z32 l) (z32 h) = some (if l ≤ x ∧ x ≤ h then .inr () else .inl "java/lang/IllegalArgumentException") := by
  unfold f_X2_needInRange
  by_cases c : x < l
  · rw [if_pos ((z32_lt hx hl).mpr c), if_neg (by omega)]
  · rw [if_neg (fun z => c ((z32_lt hx hl).mp z))]
    by_cases d : x ≤ h
    · rw [if_pos ((z32_le hx hh).mpr d), if_pos (by omega)]
    · rw [if_neg (fun z => d ((z32_le hx hh).mp z)), if_neg (by omega)]
theorem n_allowed (b : Bool) : f_X2_needAllowed (z_B b) = some (if b = true then .inr () else .inl "java/lang/IllegalStateException") := by
  cases b <;> rfl
theorem n_hasP {S : ST} {r : Int → Int} (hx : x_rel S r) (hv : v_b r) {x : Int} (h : rng x) : f_X1_hasPerson S (z32 x) = some (z_B (decide (0 ≤ x ∧ x < r 3))) := by
  have h3 := hv.1
  unfold f_X1_hasPerson
  unfold rng at h
  rw [hx.2.1]
  simp (disch := omega) only [z32_lit, z32_lt, z32_le]
  by_cases c : x < 0
  · rw [if_pos c, decide_eq_false (by omega)]; rfl
  · rw [if_neg c]
    by_cases d : r 3 ≤ x
    · rw [if_pos d, decide_eq_false (by omega)]; rfl
    · rw [if_neg d, decide_eq_true (by omega)]; rfl
theorem n_hasA {S : ST} {r : Int → Int} (hx : x_rel S r) (hv : v_b r) {x : Int} (h : rng x) : f_X1_hasAbsence S (z32 x) = some (z_B (decide (0 ≤ x ∧ x < r 4))) := by
  have h4 := hv.2.1
  unfold f_X1_hasAbsence
  unfold rng at h
  rw [hx.2.2.1]
  simp (disch := omega) only [z32_lit, z32_lt, z32_le]
  by_cases c : x < 0
  · rw [if_pos c, decide_eq_false (by omega)]; rfl
  · rw [if_neg c]
    by_cases d : r 4 ≤ x
    · rw [if_pos d, decide_eq_false (by omega)]; rfl
    · rw [if_neg d, decide_eq_true (by omega)]; rfl
theorem n_person {S : CM} {r : Int → Int} (hx : x_rel (CM_now S) r) (hv : v_b r) {x : Int} (h : rng x) : f_X2_needPerson S (z32 x) = some (if 0 ≤ x ∧ x < r 3 then .inr () else .inl "java/lang/IndexOutOfBoundsException") := by
  unfold f_X2_needPerson
  rw [n_hasP hx hv h, z_some]
  by_cases c : 0 ≤ x ∧ x < r 3
  · rw [decide_eq_true c, if_pos c]; rfl
  · rw [decide_eq_false c, if_neg c]; rfl
theorem n_absence {S : CM} {r : Int → Int} (hx : x_rel (CM_now S) r) (hv : v_b r) {x : Int} (h : rng x) : f_X2_needAbsence S (z32 x) = some (if 0 ≤ x ∧ x < r 4 then .inr () else .inl "java/lang/IndexOutOfBoundsException") := by
  unfold f_X2_needAbsence
  rw [n_hasA hx hv h, z_some]
  by_cases c : 0 ≤ x ∧ x < r 4
  · rw [decide_eq_true c, if_pos c]; rfl
  · rw [decide_eq_false c, if_neg c]; rfl
theorem z_il {υ ρ : Type} (e : String) (K : υ → Option (String ⊕ ρ)) : q_exc (.inl e) K = some (.inl e) := rfl
theorem z_ir {υ ρ : Type} (y : υ) (K : υ → Option (String ⊕ ρ)) : q_exc (.inr y) K = K y := rfl
theorem z_Bn (b : Bool) : (¬ z_B b = 0) ↔ b = true := by cases b <;> decide
theorem z_Be (b : Bool) : (z_B b = 0) ↔ b = false := by cases b <;> decide
theorem m_person_ {M : MD} {r : Int → Int} (h : q_row (MD_now M) r) (hv : v_b r) {x : Int} (hx : rng x) : f_X3_isPerson M (z32 x) = some (z_B (decide (0 ≤ x ∧ x < r 3))) := m_isPerson h hv.1 hx
theorem m_absence_ {M : MD} {r : Int → Int} (h : q_row (MD_now M) r) (hv : v_b r) {x : Int} (hx : rng x) : f_X3_isAbsence M (z32 x) = some (z_B (decide (0 ≤ x ∧ x < r 4))) := m_isAbsence h hv.2.1 hx
theorem m_areThere {M : MD} {r : Int → Int} (h : q_row (MD_now M) r) (hv : v_b r) {x y : Int} (hx : rng x) (hy : rng y) : f_X3_areThere M (z32 x) (z32 y) = some (z_B (decide ((0 ≤ x ∧ x < r 3) ∧ (0 ≤ y ∧ y < r 4)))) := by
  unfold f_X3_areThere
  rw [m_person_ h hv hx, z_some]
  by_cases c : 0 ≤ x ∧ x < r 3
  · rw [decide_eq_true c, if_neg (by decide), m_absence_ h hv hy, z_some]
    by_cases d : 0 ≤ y ∧ y < r 4
    · rw [decide_eq_true d, if_neg (by decide), decide_eq_true ⟨c, d⟩]; rfl
    · rw [decide_eq_false d, if_pos (by decide), decide_eq_false (fun z => d z.2)]; rfl
  · rw [decide_eq_false c, if_pos (by decide), decide_eq_false (fun z => c z.1)]; rfl
/-- small numbers in a range, for the reference -/
theorem m_range {x l h : Int} (hx : rng x) (hl : rng l) (hh : rng h) : f_X3_isIn ((z32 x).toInt64) (z64 l) (z64 h) = some (z_B (decide (l ≤ x ∧ x ≤ h))) := by
  unfold rng at hx hl hh
  rw [z32_to64 hx, m_isIn (by omega) (by omega) (by omega)]
theorem sc_person {K : Int} {S : CM} {M : MD} (h : s_inv K S M) {x y : Int} (hx : rng x) (hy : rng y) {code : String → Option Int32} (k1 : code "java/lang/IndexOutOfBoundsException" = some 1) (k2 : code "java/lang/IllegalArgumentException" = some 2) : s_resR M (f_X2_person S (z32 x) (z32 y)) (f_X3_person M (z32 x) (z32 y)) code := by
  obtain ⟨⟨r, hq, hv, hr⟩, -, -⟩ := h
  have h3 := hv.1.1.1
  unfold f_X2_person f_X3_person
  rw [n_person hr hv.1.1 hx, m_person_ hq hv.1.1 hx, z_some, z_some]
  by_cases c : 0 ≤ x ∧ x < r 3
  · rw [if_pos c, decide_eq_true c, if_pos (by decide), z_ir]
    have e1 : f_X2_needInRange (z32 y) 0 6 = _ := n_range hy (l := 0) (h := 6) ⟨by omega, by omega⟩ ⟨by omega, by omega⟩
    have e2 : f_X3_isIn ((z32 y).toInt64) 0 6 = _ := m_range hy (l := 0) (h := 6) ⟨by omega, by omega⟩ ⟨by omega, by omega⟩
    rw [e1, e2, z_some, z_some]
    by_cases d : 0 ≤ y ∧ y ≤ 6
    · rw [if_pos d, decide_eq_true d, if_neg (by decide), z_ir]
      obtain ⟨p, rfl⟩ : ∃ p : Nat, x = p := ⟨x.toNat, by omega⟩
      rw [x_aboutPerson hr hv c.2 hy, z_some]
      refine .inr ⟨_, rfl, ?_⟩
      unfold f_X3_person_30
      rw [z_lets, z_t0n, m_tellsPerson (M := sMD_thrown M 0) hq hv.1 c hy, z_some]
    · rw [if_neg d, decide_eq_false d, if_pos (by decide), z_il]
      exact .inl ⟨_, 2, 0, rfl, rfl, k2, by decide⟩
  · rw [if_neg c, decide_eq_false c, if_neg (by decide), z_il]
    exact .inl ⟨_, 1, 0, rfl, rfl, k1, by decide⟩
theorem sc_absence {K : Int} {S : CM} {M : MD} (h : s_inv K S M) {x y : Int} (hx : rng x) (hy : rng y) {code : String → Option Int32} (k1 : code "java/lang/IndexOutOfBoundsException" = some 1) (k2 : code "java/lang/IllegalArgumentException" = some 2) : s_resR M (f_X2_absence S (z32 x) (z32 y)) (f_X3_absence M (z32 x) (z32 y)) code := by
  obtain ⟨⟨r, hq, hv, hr⟩, -, -⟩ := h
  unfold f_X2_absence f_X3_absence
  rw [n_absence hr hv.1.1 hx, m_absence_ hq hv.1.1 hx, z_some, z_some]
  by_cases c : 0 ≤ x ∧ x < r 4
  · rw [if_pos c, decide_eq_true c, if_pos (by decide), z_ir]
    have e1 : f_X2_needInRange (z32 y) 0 6 = _ := n_range hy (l := 0) (h := 6) ⟨by omega, by omega⟩ ⟨by omega, by omega⟩
    have e2 : f_X3_isIn ((z32 y).toInt64) 0 6 = _ := m_range hy (l := 0) (h := 6) ⟨by omega, by omega⟩ ⟨by omega, by omega⟩
    rw [e1, e2, z_some, z_some]
    by_cases d : 0 ≤ y ∧ y ≤ 6
    · rw [if_pos d, decide_eq_true d, if_neg (by decide), z_ir]
      obtain ⟨p, rfl⟩ : ∃ p : Nat, x = p := ⟨x.toNat, by omega⟩
      rw [x_aboutAbsence hr hv c.2 ⟨d.1, by omega⟩, z_some]
      refine .inr ⟨_, rfl, ?_⟩
      unfold f_X3_absence_30
      rw [z_lets, z_t0n, m_tellsAbsence (M := sMD_thrown M 0) hq hv.1 c ⟨d.1, by omega⟩, z_some]
    · rw [if_neg d, decide_eq_false d, if_pos (by decide), z_il]
      exact .inl ⟨_, 2, 0, rfl, rfl, k2, by decide⟩
  · rw [if_neg c, decide_eq_false c, if_neg (by decide), z_il]
    exact .inl ⟨_, 1, 0, rfl, rfl, k1, by decide⟩
theorem sc_bidOf {K : Int} {S : CM} {M : MD} (h : s_inv K S M) {x y : Int} (hx : rng x) (hy : rng y) {code : String → Option Int32} (k1 : code "java/lang/IndexOutOfBoundsException" = some 1) : s_resR M (f_X2_bidOf S (z32 x) (z32 y)) (f_X3_bidOf M (z32 x) (z32 y)) code := by
  obtain ⟨⟨r, hq, hv, hr⟩, -, -⟩ := h
  have h3 := hv.1.1.1
  have h4 := hv.1.1.2.1
  unfold f_X2_bidOf f_X3_bidOf
  rw [n_person hr hv.1.1 hx, m_areThere hq hv.1.1 hx hy, z_some, z_some]
  by_cases c : 0 ≤ x ∧ x < r 3
  · rw [if_pos c, z_ir, n_absence hr hv.1.1 hy, z_some]
    by_cases d : 0 ≤ y ∧ y < r 4
    · rw [if_pos d, decide_eq_true ⟨c, d⟩, if_neg (by decide), z_ir]
      obtain ⟨p, rfl⟩ : ∃ p : Nat, x = p := ⟨x.toNat, by omega⟩
      obtain ⟨a, rfl⟩ : ∃ a : Nat, y = a := ⟨y.toNat, by omega⟩
      rw [x_bidIndex, z_some, x_bidAt hr hv.1 (by omega) d.2]
      simp (disch := omega) only [z_in, if_true]
      refine .inr ⟨_, rfl, ?_⟩
      unfold f_X3_bidOf_15
      rw [z_lets, z_t0n, show (5 : Int32) = z32 5 from rfl, z32_add, m_ofA (M := sMD_thrown M 0) hq (by omega) (by omega), z_some]
      rfl
    · rw [if_neg d, decide_eq_false (fun z => d z.2), if_pos (by decide), z_il]
      exact .inl ⟨_, 1, 0, rfl, rfl, k1, by decide⟩
  · rw [if_neg c, decide_eq_false (fun z => c z.1), if_pos (by decide), z_il]
    exact .inl ⟨_, 1, 0, rfl, rfl, k1, by decide⟩
theorem sc_why {K : Int} {S : CM} {M : MD} (h : s_inv K S M) {x y : Int} (hx : rng x) (hy : rng y) {code : String → Option Int32} (k1 : code "java/lang/IndexOutOfBoundsException" = some 1) : s_resR M (f_X2_why S (z32 x) (z32 y)) (f_X3_why M (z32 x) (z32 y)) code := by
  obtain ⟨⟨r, hq, hv, hr⟩, -, -⟩ := h
  have h3 := hv.1.1.1
  have h4 := hv.1.1.2.1
  unfold f_X2_why f_X3_why
  rw [n_person hr hv.1.1 hx, m_person_ hq hv.1.1 hx, z_some, z_some]
  by_cases c : 0 ≤ x ∧ x < r 3
  · rw [if_pos c, z_ir, n_absence hr hv.1.1 hy, z_some, decide_eq_true c, z_ift, m_absence_ hq hv.1.1 hy, z_some]
    by_cases d : 0 ≤ y ∧ y < r 4
    · rw [if_pos d, decide_eq_true d, z_ift, z_ir]
      obtain ⟨p, rfl⟩ : ∃ p : Nat, x = p := ⟨x.toNat, by omega⟩
      obtain ⟨a, rfl⟩ : ∃ a : Nat, y = a := ⟨y.toNat, by omega⟩
      rw [x_hindrance hr hv.1 c.2 d.2, z_some]
      refine .inr ⟨_, rfl, ?_⟩
      unfold f_X3_why_22
      rw [z_lets, z_t0n, m_whyNotFor (M := sMD_thrown M 0) hq hv.1.1 (by omega) (by omega) (hv.1.2.2.1 a d).2, z_some]
    · rw [if_neg d, decide_eq_false d, z_iff, z_il]
      exact .inl ⟨_, 1, 0, rfl, rfl, k1, by decide⟩
  · rw [if_neg c, decide_eq_false c, z_iff, z_il]
    exact .inl ⟨_, 1, 0, rfl, rfl, k1, by decide⟩
theorem sc_value {K : Int} {S : CM} {M : MD} (h : s_inv K S M) {x : Int} (hx : rng x) {code : String → Option Int32} (k1 : code "java/lang/IllegalArgumentException" = some 1) : s_resR M (f_X2_value S (z32 x)) (f_X3_value M (z32 x)) code := by
  obtain ⟨⟨r, hq, hv, hr⟩, -, -⟩ := h
  have e1 : f_X2_needInRange (z32 x) 0 10 = _ := n_range hx (l := 0) (h := 10) ⟨by omega, by omega⟩ ⟨by omega, by omega⟩
  have e2 : f_X3_isIn ((z32 x).toInt64) 0 10 = _ := m_range hx (l := 0) (h := 10) ⟨by omega, by omega⟩ ⟨by omega, by omega⟩
  unfold f_X2_value f_X3_value
  rw [e1, e2, z_some, z_some]
  by_cases c : 0 ≤ x ∧ x ≤ 10
  · rw [if_pos c, decide_eq_true c, if_neg (by decide), z_ir, x_aboutAll hr hv hx, z_some]
    refine .inr ⟨_, rfl, ?_⟩
    rw [z_lets, z_t0n, m_tellsAll (M := sMD_thrown M 0) hq hv.1 hx, z_some]
  · rw [if_neg c, decide_eq_false c, if_pos (by decide), z_il]
    exact .inl ⟨_, 1, 0, rfl, rfl, k1, by decide⟩
theorem sc_setting {K : Int} {S : CM} {M : MD} (h : s_inv K S M) {x : Int} (hx : rng x) {code : String → Option Int32} (k1 : code "java/lang/IllegalArgumentException" = some 1) : s_resR M (f_X2_setting S (z32 x)) (f_X3_setting M (z32 x)) code := by
  obtain ⟨⟨r, hq, hv, hr⟩, -, -⟩ := h
  have e1 : f_X2_needInRange (z32 x) 0 2 = _ := n_range hx (l := 0) (h := 2) ⟨by omega, by omega⟩ ⟨by omega, by omega⟩
  have e2 : f_X3_isIn ((z32 x).toInt64) 0 2 = _ := m_range hx (l := 0) (h := 2) ⟨by omega, by omega⟩ ⟨by omega, by omega⟩
  unfold f_X2_setting f_X3_setting
  rw [e1, e2, z_some, z_some]
  by_cases c : 0 ≤ x ∧ x ≤ 2
  · obtain ⟨p, rfl⟩ : ∃ p : Nat, x = p := ⟨x.toNat, by omega⟩
    rw [if_pos c, decide_eq_true c, z_ift, z_ir]
    simp (disch := omega) only [z_in, if_true]
    refine .inr ⟨_, rfl, ?_⟩
    rw [z_lets, z_t0n]
    show some ((MD_now M (z32 (p : Int)).toNatClampNeg).toInt32, sMD_thrown M 0) = _
    rw [hq.at (by omega), z64_to32, z32_clamp (by omega), Int.toNat_natCast, hr.1 p (by omega)]
  · rw [if_neg c, decide_eq_false c, z_iff, z_il]
    exact .inl ⟨_, 1, 0, rfl, rfl, k1, by decide⟩
theorem sc_coverer {K : Int} {S : CM} {M : MD} (h : s_inv K S M) {x : Int} (hx : rng x) {code : String → Option Int32} (k1 : code "java/lang/IndexOutOfBoundsException" = some 1) : s_resR M (f_X2_coverer S (z32 x)) (f_X3_coverer M (z32 x)) code := by
  obtain ⟨⟨r, hq, hv, hr⟩, -, -⟩ := h
  unfold f_X2_coverer f_X3_coverer
  rw [n_absence hr hv.1.1 hx, m_absence_ hq hv.1.1 hx, z_some, z_some]
  by_cases c : 0 ≤ x ∧ x < r 4
  · obtain ⟨a, rfl⟩ : ∃ a : Nat, x = a := ⟨x.toNat, by omega⟩
    rw [if_pos c, decide_eq_true c, if_neg (by decide), z_ir, x_nextCoverer hr hv.1 c.2, z_some]
    refine .inr ⟨_, rfl, ?_⟩
    rw [z_lets, z_t0n, m_covererOf (M := sMD_thrown M 0) hq hv.1 c, z_some]
  · rw [if_neg c, decide_eq_false c, if_pos (by decide), z_il]
    exact .inl ⟨_, 1, 0, rfl, rfl, k1, by decide⟩
theorem sc_freeShifts {K : Int} {S : CM} {M : MD} (h : s_inv K S M) {x : Int} (hx : rng x) {code : String → Option Int32} (k1 : code "java/lang/IndexOutOfBoundsException" = some 1) : s_resR M (f_X2_freeShifts S (z32 x)) (f_X3_freeShifts M (z32 x)) code := by
  obtain ⟨⟨r, hq, hv, hr⟩, -, -⟩ := h
  have h3 := hv.1.1.1
  unfold f_X2_freeShifts f_X3_freeShifts
  rw [n_person hr hv.1.1 hx, m_person_ hq hv.1.1 hx, z_some, z_some]
  by_cases c : 0 ≤ x ∧ x < r 3
  · obtain ⟨p, rfl⟩ : ∃ p : Nat, x = p := ⟨x.toNat, by omega⟩
    obtain ⟨u, g1, g2⟩ := x_free hr hv.1 c.2
    rw [if_pos c, decide_eq_true c, if_neg (by decide), z_ir, g1, z_some, pc_bitCount, z_some, s_cnt64 g2]
    refine .inr ⟨_, rfl, ?_⟩
    rw [z_lets, z_t0]
    exact m_freeShifts_30 (M := sMD_thrown M 0) hq hv.1.1 (by omega) 2000 0 (by omega) (by omega)
  · rw [if_neg c, decide_eq_false c, if_pos (by decide), z_il]
    refine .inl ⟨_, 1, 0, rfl, ?_, k1, by decide⟩
    rw [z_lets, z_tk (show (1 : Int32) ≠ 0 by decide)]
/-- work tells a long -/
theorem sc_work {K : Int} {S : CM} {M : MD} {O : Nat → Int64} (h : s_inv K S M) {x : Int} (hx : rng x) : s_step K ((f_L_work S O (z32 x)).bind fun u => (f_X3_work M (z32 x)).bind fun y => q_ok u y.1 y.2) := by
  have h0 := h
  obtain ⟨⟨r, hq, hv, hr⟩, -, -⟩ := h
  have h3 := hv.1.1.1
  unfold f_L_work f_X2_work f_X3_work
  rw [n_person hr hv.1.1 hx, m_person_ hq hv.1.1 hx, z_some, z_some]
  by_cases c : 0 ≤ x ∧ x < r 3
  · obtain ⟨p, rfl⟩ : ∃ p : Nat, x = p := ⟨x.toNat, by omega⟩
    obtain ⟨u, g1, g2⟩ := xm_work (M := sMD_thrown M 0) hq hr hv.1 c.2
    refine ⟨S, sMD_thrown M 0, vp_updL O (0 : Int32).toNatClampNeg u, ?_, h0.thr 0⟩
    rw [if_pos c, decide_eq_true c, if_neg (by decide), z_ir, g2, z_some]
    simp only [z_some, q_outJ]
    rw [z_lets, z_t0n, g1, z_some, z_some]
    exact s_ok_don rfl
  · refine ⟨S, sMD_thrown M 1, O, ?_, h0.thr 1⟩
    rw [if_neg c, decide_eq_false c, if_pos (by decide), z_il]
    simp only [z_some, q_outJ, if_true]
    rw [z_lets, z_tkn (show (1 : Int32) ≠ 0 by decide), z_some]
    exact s_ok_thr (by decide)
