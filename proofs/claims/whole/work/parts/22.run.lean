/-! every call of the script -/
theorem s_step.up {K K' : Int} {x : Option (CM × MD × (Nat → Int64))} (h : s_step K x) (hK : K ≤ K') : s_step K' x := by
  obtain ⟨S, M, O, h1, h2⟩ := h
  exact ⟨S, M, O, h1, h2.mono hK⟩
theorem rng_of (a : Int32) : rng a.toInt := ⟨Int32.le_toInt a, Int32.toInt_lt a⟩
theorem st_c0 {K : Int} {S : CM} {M : MD} {O : Nat → Int64} (h : s_inv K S M) (hK : K < 150000000) (a1 a2 a3 : Int32) : s_step (K + 200000) (q_c0 S M O a1 a2 a3) := by
  have e := (sc_set (code := fun E => if E = "java/lang/IllegalArgumentException" then some 1 else none) h (by omega) (rng_of a1) (rng_of a2) (by simp)).step (O := O) h (Int.le_refl K)
  rw [z32_self, z32_self] at e
  exact e.up (by omega)
theorem st_c1 {K : Int} {S : CM} {M : MD} {O : Nat → Int64} (h : s_inv K S M) (hK : K < 150000000) (a1 a2 a3 : Int32) : s_step (K + 200000) (q_c1 S M O a1 a2 a3) := by
  have e := (sc_addPerson (code := fun E => if E = "java/lang/IllegalArgumentException" then some 1 else if E = "java/lang/IllegalStateException" then some 2 else none) h (by omega) (x := ((((a1 : Int32).toInt64) <<< ((32 : Int32).toInt64 &&& 63)) ||| (((a2 : Int32).toInt64) &&& 4294967295)).toInt) ⟨Int64.le_toInt _, Int64.toInt_lt _⟩ (by simp) (by simp)).step (O := O) h (Int.le_refl K)
  rw [z64_self] at e
  exact e.up (by omega)
theorem st_c2 {K : Int} {S : CM} {M : MD} {O : Nat → Int64} (h : s_inv K S M) (hK : K < 150000000) (a1 a2 a3 : Int32) : s_step (K + 200000) (q_c2 S M O a1 a2 a3) := by
  have e := fun w => (sc_roster (code := fun E => if E = "java/lang/IndexOutOfBoundsException" then some 1 else if E = "java/lang/IllegalArgumentException" then some 2 else if E = "java/lang/IllegalStateException" then some 3 else none) h (by omega) (rng_of a1) (rng_of a2) w (by simp) (by simp) (by simp)).step (O := O) h (Int.le_refl K)
  rw [z32_self, z32_self] at e
  unfold q_c2
  split
  · exact (e false).up (by omega)
  · exact (e true).up (by omega)
theorem st_c3 {K : Int} {S : CM} {M : MD} {O : Nat → Int64} (h : s_inv K S M) (hK : K < 150000000) (a1 a2 a3 : Int32) : s_step (K + 200000) (q_c3 S M O a1 a2 a3) := by
  have e := (sc_absent (code := fun E => if E = "java/lang/IndexOutOfBoundsException" then some 1 else if E = "java/lang/IllegalArgumentException" then some 2 else if E = "java/lang/IllegalStateException" then some 3 else none) h (rng_of a1) (rng_of a2) (by simp) (by simp) (by simp)).step (O := O) h (Int.le_refl K)
  rw [z32_self, z32_self] at e
  exact e.up (by omega)
theorem st_c4 {K : Int} {S : CM} {M : MD} {O : Nat → Int64} (h : s_inv K S M) (hK : K < 150000000) (a1 a2 a3 : Int32) : s_step (K + 200000) (q_c4 S M O a1 a2 a3) := by
  have e := (sc_bid (code := fun E => if E = "java/lang/IndexOutOfBoundsException" then some 1 else if E = "java/lang/IllegalArgumentException" then some 2 else if E = "java/lang/IllegalStateException" then some 3 else none) h (rng_of a1) (rng_of a2) (rng_of a3) (by simp) (by simp) (by simp)).step (O := O) h (Int.le_refl K)
  rw [z32_self, z32_self, z32_self] at e
  exact e.up (by omega)
theorem st_c5 {K : Int} {S : CM} {M : MD} {O : Nat → Int64} (h : s_inv K S M) (hK : K < 150000000) (a1 a2 a3 : Int32) : s_step (K + 200000) (q_c5 S M O a1 a2 a3) := by
  have e := (sc_takeBack (code := fun E => if E = "java/lang/IndexOutOfBoundsException" then some 1 else if E = "java/lang/IllegalStateException" then some 2 else none) h (rng_of a1) (rng_of a2) (by simp) (by simp)).step (O := O) h (Int.le_refl K)
  rw [z32_self, z32_self] at e
  exact e.up (by omega)
theorem st_c6 {K : Int} {S : CM} {M : MD} {O : Nat → Int64} (h : s_inv K S M) (hK : K < 150000000) (a1 a2 a3 : Int32) : s_step (K + 200000) (q_c6 S M O a1 a2 a3) := by
  have e := (sc_cover (code := fun E => if E = "java/lang/IndexOutOfBoundsException" then some 1 else if E = "java/lang/IllegalStateException" then some 2 else none) h (by omega) (rng_of a1) (by simp) (by simp)).step (O := O) h (by omega)
  rw [z32_self] at e
  exact e.up (by omega)
theorem st_c7 {K : Int} {S : CM} {M : MD} {O : Nat → Int64} (h : s_inv K S M) (hK : K < 150000000) (a1 a2 a3 : Int32) : s_step (K + 200000) (q_c7 S M O a1 a2 a3) := by
  obtain ⟨v, S', M', e1, e2, e3⟩ := sc_coverAll h (by omega)
  refine ⟨S', M', O, ?_, e3.mono (by omega)⟩
  unfold q_c7
  rw [e1, z_some, e2, z_some, if_pos rfl]
theorem st_c8 {K : Int} {S : CM} {M : MD} {O : Nat → Int64} (h : s_inv K S M) (hK : K < 150000000) (a1 a2 a3 : Int32) : s_step (K + 200000) (q_c8 S M O a1 a2 a3) := by
  have e := (sc_handOver (code := fun E => if E = "java/lang/IndexOutOfBoundsException" then some 1 else if E = "java/lang/IllegalStateException" then some 2 else none) h (by omega) (rng_of a1) (rng_of a2) (by simp) (by simp)).step (O := O) h (by omega)
  rw [z32_self, z32_self] at e
  exact e.up (by omega)
theorem st_c9 {K : Int} {S : CM} {M : MD} {O : Nat → Int64} (h : s_inv K S M) (hK : K < 150000000) (a1 a2 a3 : Int32) : s_step (K + 200000) (q_c9 S M O a1 a2 a3) := by
  have e := (sc_giveUp (code := fun E => if E = "java/lang/IndexOutOfBoundsException" then some 1 else if E = "java/lang/IllegalStateException" then some 2 else none) h (rng_of a1) (by simp) (by simp)).step (O := O) h (Int.le_refl K)
  rw [z32_self] at e
  exact e.up (by omega)
theorem st_c10 {K : Int} {S : CM} {M : MD} {O : Nat → Int64} (h : s_inv K S M) (hK : K < 150000000) (a1 a2 a3 : Int32) : s_step (K + 200000) (q_c10 S M O a1 a2 a3) := by
  have e := (sc_person (code := fun E => if E = "java/lang/IndexOutOfBoundsException" then some 1 else if E = "java/lang/IllegalArgumentException" then some 2 else none) h (rng_of a1) (rng_of a2) (by simp) (by simp)).step (O := O) h
  rw [z32_self, z32_self] at e
  exact e.up (by omega)
theorem st_c11 {K : Int} {S : CM} {M : MD} {O : Nat → Int64} (h : s_inv K S M) (hK : K < 150000000) (a1 a2 a3 : Int32) : s_step (K + 200000) (q_c11 S M O a1 a2 a3) := by
  have e := sc_work (O := O) h (rng_of a1)
  rw [z32_self] at e
  exact e.up (by omega)
theorem st_c12 {K : Int} {S : CM} {M : MD} {O : Nat → Int64} (h : s_inv K S M) (hK : K < 150000000) (a1 a2 a3 : Int32) : s_step (K + 200000) (q_c12 S M O a1 a2 a3) := by
  have e := (sc_absence (code := fun E => if E = "java/lang/IndexOutOfBoundsException" then some 1 else if E = "java/lang/IllegalArgumentException" then some 2 else none) h (rng_of a1) (rng_of a2) (by simp) (by simp)).step (O := O) h
  rw [z32_self, z32_self] at e
  exact e.up (by omega)
theorem st_c13 {K : Int} {S : CM} {M : MD} {O : Nat → Int64} (h : s_inv K S M) (hK : K < 150000000) (a1 a2 a3 : Int32) : s_step (K + 200000) (q_c13 S M O a1 a2 a3) := by
  have e := (sc_bidOf (code := fun E => if E = "java/lang/IndexOutOfBoundsException" then some 1 else none) h (rng_of a1) (rng_of a2) (by simp)).step (O := O) h
  rw [z32_self, z32_self] at e
  exact e.up (by omega)
theorem st_c14 {K : Int} {S : CM} {M : MD} {O : Nat → Int64} (h : s_inv K S M) (hK : K < 150000000) (a1 a2 a3 : Int32) : s_step (K + 200000) (q_c14 S M O a1 a2 a3) := by
  have e := (sc_why (code := fun E => if E = "java/lang/IndexOutOfBoundsException" then some 1 else none) h (rng_of a1) (rng_of a2) (by simp)).step (O := O) h
  rw [z32_self, z32_self] at e
  exact e.up (by omega)
theorem st_c15 {K : Int} {S : CM} {M : MD} {O : Nat → Int64} (h : s_inv K S M) (hK : K < 150000000) (a1 a2 a3 : Int32) : s_step (K + 200000) (q_c15 S M O a1 a2 a3) := by
  have e := (sc_value (code := fun E => if E = "java/lang/IllegalArgumentException" then some 1 else none) h (rng_of a1) (by simp)).step (O := O) h
  rw [z32_self] at e
  exact e.up (by omega)
theorem st_c16 {K : Int} {S : CM} {M : MD} {O : Nat → Int64} (h : s_inv K S M) (hK : K < 150000000) (a1 a2 a3 : Int32) : s_step (K + 200000) (q_c16 S M O a1 a2 a3) := by
  have e := (sc_setting (code := fun E => if E = "java/lang/IllegalArgumentException" then some 1 else none) h (rng_of a1) (by simp)).step (O := O) h
  rw [z32_self] at e
  exact e.up (by omega)
theorem st_c17 {K : Int} {S : CM} {M : MD} {O : Nat → Int64} (h : s_inv K S M) (hK : K < 150000000) (a1 a2 a3 : Int32) : s_step (K + 200000) (q_c17 S M O a1 a2 a3) := by
  have e := (sc_coverer (code := fun E => if E = "java/lang/IndexOutOfBoundsException" then some 1 else none) h (rng_of a1) (by simp)).step (O := O) h
  rw [z32_self] at e
  exact e.up (by omega)
theorem st_c18 {K : Int} {S : CM} {M : MD} {O : Nat → Int64} (h : s_inv K S M) (hK : K < 150000000) (a1 a2 a3 : Int32) : s_step (K + 200000) (q_c18 S M O a1 a2 a3) := by
  have e := (sc_coveredWith (code := fun E => if E = "java/lang/IllegalArgumentException" then some 1 else none) h (by omega) (rng_of a1) (by simp)).step (O := O) h (Int.le_refl K)
  rw [z32_self] at e
  exact e.up (by omega)
theorem st_c19 {K : Int} {S : CM} {M : MD} {O : Nat → Int64} (h : s_inv K S M) (hK : K < 150000000) (a1 a2 a3 : Int32) : s_step (K + 200000) (q_c19 S M O a1 a2 a3) := by
  obtain ⟨v, S', M', e1, e2, e3⟩ := sc_mostCovered h
  refine ⟨S', M', O, ?_, e3.mono (by omega)⟩
  unfold q_c19
  rw [e1, z_some, e2, z_some, if_pos rfl]
theorem st_c20 {K : Int} {S : CM} {M : MD} {O : Nat → Int64} (h : s_inv K S M) (hK : K < 150000000) (a1 a2 a3 : Int32) : s_step (K + 200000) (q_c20 S M O a1 a2 a3) := by
  have e := (sc_freeShifts (code := fun E => if E = "java/lang/IndexOutOfBoundsException" then some 1 else none) h (rng_of a1) (by simp)).step (O := O) h
  rw [z32_self] at e
  exact e.up (by omega)
theorem st_c21 {K : Int} {S : CM} {M : MD} {O : Nat → Int64} (h : s_inv K S M) (hK : K < 150000000) (a1 a2 a3 : Int32) : s_step (K + 200000) (q_c21 S M O a1 a2 a3) := by
  obtain ⟨⟨r, hq, hv, hr⟩, -, -⟩ := id h
  obtain ⟨v, e1, e2, e3⟩ := xm_spread hq hr hv (by omega)
  refine ⟨S, sMD_thrown M 0, O, ?_, (h.thr 0).mono (by omega)⟩
  unfold q_c21
  rw [e1, z_some, e2, z_some, if_pos e3]
theorem st_c22 {K : Int} {S : CM} {M : MD} {O : Nat → Int64} (h : s_inv K S M) (hK : K < 150000000) (a1 a2 a3 : Int32) : s_step (K + 200000) (q_c22 S M O a1 a2 a3) := by
  have e := (sc_append (code := fun E => if E = "java/lang/IllegalArgumentException" then some 1 else if E = "java/lang/IllegalStateException" then some 2 else none) h (rng_of a1) (by simp) (by simp)).step (O := O) h (Int.le_refl K)
  rw [z32_self] at e
  exact e.up (by omega)
theorem st_c23 {K : Int} {S : CM} {M : MD} {O : Nat → Int64} (h : s_inv K S M) (hK : K < 150000000) (a1 a2 a3 : Int32) : s_step (K + 200000) (q_c23 S M O a1 a2 a3) := by
  obtain ⟨v, S', M', e1, e2, e3⟩ := sc_clearText h
  refine ⟨S', M', O, ?_, e3.mono (by omega)⟩
  unfold q_c23
  rw [e1, z_some, e2, z_some, if_pos rfl]
theorem st_c24 {K : Int} {S : CM} {M : MD} {O : Nat → Int64} (h : s_inv K S M) (hK : K < 150000000) (a1 a2 a3 : Int32) : s_step (K + 200000) (q_c24 S M O a1 a2 a3) := by
  obtain ⟨v, S', M', e1, e2, e3⟩ := sc_carryOut h (by omega)
  refine ⟨S', M', O, ?_, e3.mono (by omega)⟩
  unfold q_c24
  rw [e1, z_some, e2, z_some, if_pos rfl]
theorem st_c25 {K : Int} {S : CM} {M : MD} {O : Nat → Int64} (h : s_inv K S M) (hK : K < 150000000) (a1 a2 a3 : Int32) : s_step (K + 200000) (q_c25 S M O a1 a2 a3) := by
  have e := (sc_undo (code := fun E => if E = "java/lang/IllegalStateException" then some 1 else none) h (by simp)).step (O := O) h (Int.le_refl K)
  exact e.up (by omega)
theorem st_c26 {K : Int} {S : CM} {M : MD} {O : Nat → Int64} (h : s_inv K S M) (hK : K < 150000000) (a1 a2 a3 : Int32) : s_step (K + 200000) (q_c26 S M O a1 a2 a3) := by
  obtain ⟨g, e1, e2⟩ := sc_digest h
  refine ⟨S, sMD_thrown M 0, O, ?_, (h.thr 0).mono (by omega)⟩
  unfold q_c26
  rw [e1, z_some, e2, z_some, if_pos ((lg_cmp_eq _ _).mpr rfl)]
theorem st_step {K : Int} {S : CM} {M : MD} {O : Nat → Int64} (h : s_inv K S M) (hK : K < 150000000) (x a1 a2 a3 : Int32) : s_step (K + 200000) (q_step x a1 a2 a3 S M O) := by
  unfold q_step
  by_cases c0 : x &&& 31 = 0
  · rw [if_pos c0]
    exact st_c0 h hK a1 a2 a3
  rw [if_neg c0]
  by_cases c1 : x &&& 31 = 1
  · rw [if_pos c1]
    exact st_c1 h hK a1 a2 a3
  rw [if_neg c1]
  by_cases c2 : x &&& 31 = 2
  · rw [if_pos c2]
    exact st_c2 h hK a1 a2 a3
  rw [if_neg c2]
  by_cases c3 : x &&& 31 = 3
  · rw [if_pos c3]
    exact st_c3 h hK a1 a2 a3
  rw [if_neg c3]
  by_cases c4 : x &&& 31 = 4
  · rw [if_pos c4]
    exact st_c4 h hK a1 a2 a3
  rw [if_neg c4]
  by_cases c5 : x &&& 31 = 5
  · rw [if_pos c5]
    exact st_c5 h hK a1 a2 a3
  rw [if_neg c5]
  by_cases c6 : x &&& 31 = 6
  · rw [if_pos c6]
    exact st_c6 h hK a1 a2 a3
  rw [if_neg c6]
  by_cases c7 : x &&& 31 = 7
  · rw [if_pos c7]
    exact st_c7 h hK a1 a2 a3
  rw [if_neg c7]
  by_cases c8 : x &&& 31 = 8
  · rw [if_pos c8]
    exact st_c8 h hK a1 a2 a3
  rw [if_neg c8]
  by_cases c9 : x &&& 31 = 9
  · rw [if_pos c9]
    exact st_c9 h hK a1 a2 a3
  rw [if_neg c9]
  by_cases c10 : x &&& 31 = 10
  · rw [if_pos c10]
    exact st_c10 h hK a1 a2 a3
  rw [if_neg c10]
  by_cases c11 : x &&& 31 = 11
  · rw [if_pos c11]
    exact st_c11 h hK a1 a2 a3
  rw [if_neg c11]
  by_cases c12 : x &&& 31 = 12
  · rw [if_pos c12]
    exact st_c12 h hK a1 a2 a3
  rw [if_neg c12]
  by_cases c13 : x &&& 31 = 13
  · rw [if_pos c13]
    exact st_c13 h hK a1 a2 a3
  rw [if_neg c13]
  by_cases c14 : x &&& 31 = 14
  · rw [if_pos c14]
    exact st_c14 h hK a1 a2 a3
  rw [if_neg c14]
  by_cases c15 : x &&& 31 = 15
  · rw [if_pos c15]
    exact st_c15 h hK a1 a2 a3
  rw [if_neg c15]
  by_cases c16 : x &&& 31 = 16
  · rw [if_pos c16]
    exact st_c16 h hK a1 a2 a3
  rw [if_neg c16]
  by_cases c17 : x &&& 31 = 17
  · rw [if_pos c17]
    exact st_c17 h hK a1 a2 a3
  rw [if_neg c17]
  by_cases c18 : x &&& 31 = 18
  · rw [if_pos c18]
    exact st_c18 h hK a1 a2 a3
  rw [if_neg c18]
  by_cases c19 : x &&& 31 = 19
  · rw [if_pos c19]
    exact st_c19 h hK a1 a2 a3
  rw [if_neg c19]
  by_cases c20 : x &&& 31 = 20
  · rw [if_pos c20]
    exact st_c20 h hK a1 a2 a3
  rw [if_neg c20]
  by_cases c21 : x &&& 31 = 21
  · rw [if_pos c21]
    exact st_c21 h hK a1 a2 a3
  rw [if_neg c21]
  by_cases c22 : x &&& 31 = 22
  · rw [if_pos c22]
    exact st_c22 h hK a1 a2 a3
  rw [if_neg c22]
  by_cases c23 : x &&& 31 = 23
  · rw [if_pos c23]
    exact st_c23 h hK a1 a2 a3
  rw [if_neg c23]
  by_cases c24 : x &&& 31 = 24
  · rw [if_pos c24]
    exact st_c24 h hK a1 a2 a3
  rw [if_neg c24]
  by_cases c25 : x &&& 31 = 25
  · rw [if_pos c25]
    exact st_c25 h hK a1 a2 a3
  rw [if_neg c25]
  by_cases c26 : x &&& 31 = 26
  · rw [if_pos c26]
    exact st_c26 h hK a1 a2 a3
  rw [if_neg c26]
  exact ⟨S, M, O, rfl, h.mono (by omega)⟩
theorem st_run {xs : Nat → Int32} {L : Nat} (hL : L ≤ 2048) : ∀ (n k : Nat) (S : CM) (M : MD) (O : Nat → Int64), k ≤ 2048 → 2048 < 4 * n + k → s_inv (50000 * (k : Int)) S M → q_run xs L n k S M O = some () := by
  intro n
  induction n with
  | zero =>
    intro k S M O h1 h2 h
    omega
  | succ n ih =>
    intro k S M O h1 h2 h
    rw [q_run]
    by_cases c : k + 4 ≤ L
    · rw [if_pos c]
      obtain ⟨S', M', O', e1, e2⟩ := st_step (O := O) h (by omega) (xs k) (xs (k + 1)) (xs (k + 2)) (xs (k + 3))
      rw [e1, z_some]
      exact ih (k + 4) S' M' O' (by omega) (by omega) (e2.mono (by omega))
    · rw [if_neg c]
/-- a fresh object -/
def r_0 (i : Int) : Int := if i = 0 then 1 else if i = 1 then 10 else if i = 2 then 20 else 0
theorem st_start : s_inv 0 CM0 MD0 := by
  have e3 : r_0 3 = 0 := by decide
  have e4 : r_0 4 = 0 := by decide
  have rg : ∀ i : Int, 0 ≤ r_0 i ∧ r_0 i ≤ 20 := by
    intro i
    unfold r_0
    split
    · omega
    · split
      · omega
      · split <;> omega
  refine s_inv_mk r_0 ?_ ⟨⟨⟨by rw [e3]; omega, by rw [e4]; omega, by decide, fun a k _ _ => by have := rg (30 + 13 * a + k); omega⟩, fun p hp => by rw [e3] at hp; omega, fun a ha => by rw [e4] at ha; omega, fun p hp => by rw [e3] at hp; omega, by decide, by decide⟩, ⟨fun p hp => by rw [e3] at hp; omega, by decide⟩, fun a ha => by rw [e4] at ha; omega, fun a b h1 h2 h3 => by rw [e4] at h3; omega, fun a b h1 h2 h3 => by rw [e4] at h3; omega⟩ ⟨?_, rfl, rfl, rfl, fun p hp => by rw [e3] at hp; omega, fun a ha => by rw [e4] at ha; omega⟩ ⟨0, fun _ => r_0, by omega, rfl, rfl, fun j hj => absurd hj (Nat.not_lt_zero j)⟩ ⟨0, by omega, rfl, rfl, fun i hi => absurd hi (Nat.not_lt_zero i)⟩
  · intro i hi
    show (if i = 2 then (20 : Int64) else if i = 1 then 10 else if i = 0 then 1 else 0) = z64 (r_0 i)
    unfold r_0
    by_cases c2 : i = 2
    · subst c2; rfl
    · rw [if_neg c2]
      by_cases c1 : i = 1
      · subst c1; rfl
      · rw [if_neg c1]
        by_cases c0 : i = 0
        · subst c0; rfl
        · rw [if_neg c0, if_neg (by omega), if_neg (by omega), if_neg (by omega)]
          rfl
  · intro k hk
    rcases (show k = 0 ∨ k = 1 ∨ k = 2 by omega) with e | e | e <;> subst e <;> rfl
theorem st_all {xs : Nat → Int32} {L : Nat} (hL : L ≤ 2048) : q_run xs L 600 0 CM0 MD0 (fun _ => 0) = some () := st_run hL 600 0 CM0 MD0 (fun _ => 0) (by omega) (by omega) st_start
