/-! the digest -/
theorem xm_digestPerson {K : Int} {S : CM} {M : MD} {r : Int → Int} (hq : q_row (MD_now M) r) (hx : x_rel (CM_now S) r) (hv : v_x K r) {p : Nat} (hp : (p : Int) < r 3) : ∀ (n k : Nat) (h : Int64), k ≤ 7 → 7 < n + k → ∃ g, f_X2_digestPerson_6 S n (z32 p) h (z32 k) = some g ∧ f_X3_digestPerson_6 M n (z32 p) h (z32 k) = some g := by
  have h3 := hv.1.1.1
  intro n
  induction n with
  | zero => intro k h h1 h2; omega
  | succ n ih =>
    intro k h h1 h2
    rw [f_X2_digestPerson_6, f_X3_digestPerson_6]
    have L : ((7 : Int32) ≤ z32 (k : Int)) ↔ 7 ≤ k := (z32_le (x := 7) ⟨by omega, by omega⟩ ⟨by omega, by omega⟩).trans (by omega)
    by_cases c : 7 ≤ k
    · obtain ⟨u, g1, g2⟩ := xm_work hq hx hv.1 hp
      rw [if_pos (L.mpr c), if_pos (L.mpr c), g1, g2, z_some]
      exact ⟨_, rfl, rfl⟩
    · rw [if_neg (fun z => c (L.mp z)), if_neg (fun z => c (L.mp z)), x_aboutPerson hx hv hp ⟨by omega, by omega⟩, m_tellsPerson hq hv.1 (by omega) ⟨by omega, by omega⟩, z_some, z_some]
      simp only [z_lets]
      rw [show z32 (k : Int) + 1 = z32 ((k + 1 : Nat) : Int) by rw [show (1 : Int32) = z32 1 from rfl, z32_add]; rfl]
      exact ih (k + 1) _ (by omega) (by omega)
theorem xm_digestAbs2 {K : Int} {S : CM} {M : MD} {r : Int → Int} (hq : q_row (MD_now M) r) (hx : x_rel (CM_now S) r) (hv : v_x K r) {a : Nat} (ha : (a : Int) < r 4) {P : Nat} (hP : r 3 = P ∧ P ≤ 8) : ∀ (n k : Nat) (h : Int64), k ≤ P → P < n + k → ∃ g, f_X2_digestAbsence_42 S n (z32 a) h (z32 k) = some g ∧ f_X3_digestAbsence_39 M n (z32 a) h (z32 k) = some g := by
  have h4 := hv.1.1.2.1
  intro n
  induction n with
  | zero => intro k h h1 h2; omega
  | succ n ih =>
    intro k h h1 h2
    rw [f_X2_digestAbsence_42, f_X3_digestAbsence_39, if_pos (show q_in 3 420 = true by decide), hx.2.1, hP.1, show MD_now M (3 : Int32).toNatClampNeg = z64 P by rw [← hP.1]; exact hq.at (x := 3) (by omega), z32_to64 ⟨by omega, by omega⟩]
    have L : (z32 (P : Int) ≤ z32 (k : Int)) ↔ P ≤ k := (z32_le ⟨by omega, by omega⟩ ⟨by omega, by omega⟩).trans (by omega)
    have L2 : (0 ≤ lg_cmp (z64 (k : Int)) (z64 (P : Int))) ↔ P ≤ k := ((lg_cmp_ge _ _).trans (z64_le (by omega) (by omega))).trans (by omega)
    by_cases c : P ≤ k
    · rw [if_pos (L.mpr c), if_pos (L2.mpr c)]
      exact ⟨_, rfl, rfl⟩
    · rw [if_neg (fun z => c (L.mp z)), if_neg (fun z => c (L2.mp z)), x_bidIndex, z_some, if_pos (z_inT ⟨by omega, by omega, by omega⟩), x_bidAt hx hv.1 (by omega) ha, show (5 : Int32) = z32 5 from rfl, z32_add, m_ofA hq (by omega) (by omega), z_some]
      simp only [z_lets]
      rw [show z32 (k : Int) + 1 = z32 ((k + 1 : Nat) : Int) by rw [show (1 : Int32) = z32 1 from rfl, z32_add]; rfl]
      exact ih (k + 1) _ (by omega) (by omega)
theorem xm_digestAbs {K : Int} {S : CM} {M : MD} {r : Int → Int} (hq : q_row (MD_now M) r) (hx : x_rel (CM_now S) r) (hv : v_x K r) {a : Nat} (ha : (a : Int) < r 4) : ∀ (n k : Nat) (h : Int64), k ≤ 7 → 7 < n + k → ∃ g, f_X2_digestAbsence_6 S n (z32 a) h (z32 k) = some g ∧ f_X3_digestAbsence_6 M n (z32 a) h (z32 k) = some g := by
  have h3 := hv.1.1.1
  intro n
  induction n with
  | zero => intro k h h1 h2; omega
  | succ n ih =>
    intro k h h1 h2
    rw [f_X2_digestAbsence_6, f_X3_digestAbsence_6]
    have L : ((7 : Int32) ≤ z32 (k : Int)) ↔ 7 ≤ k := (z32_le (x := 7) ⟨by omega, by omega⟩ ⟨by omega, by omega⟩).trans (by omega)
    by_cases c : 7 ≤ k
    · rw [if_pos (L.mpr c), if_pos (L.mpr c)]
      exact xm_digestAbs2 hq hx hv ha (P := (r 3).toNat) (by omega) 2000 0 h (by omega) (by omega)
    · rw [if_neg (fun z => c (L.mp z)), if_neg (fun z => c (L.mp z)), x_aboutAbsence hx hv ha ⟨by omega, by omega⟩, m_tellsAbsence hq hv.1 ⟨by omega, ha⟩ ⟨by omega, by omega⟩, z_some, z_some]
      simp only [z_lets]
      rw [show z32 (k : Int) + 1 = z32 ((k + 1 : Nat) : Int) by rw [show (1 : Int32) = z32 1 from rfl, z32_add]; rfl]
      exact ih (k + 1) _ (by omega) (by omega)
theorem xm_dig4 {K : Int} {S : CM} {M : MD} {r : Int → Int} (hq : q_row (MD_now M) r) (hx : x_rel (CM_now S) r) (hv : v_x K r) (hs : CM_ss S = MD_states M) {N : Nat} (hN : r 4 = N ∧ N ≤ 30) : ∀ (n k : Nat) (h : Int64), k ≤ N → N < n + k → ∃ g, f_X2_digest_101 S n h (z32 k) = some g ∧ f_X3_digest_97 n M h (z32 k) = some (g, M) := by
  intro n
  induction n with
  | zero => intro k h h1 h2; omega
  | succ n ih =>
    intro k h h1 h2
    rw [f_X2_digest_101, f_X3_digest_97, if_pos (show q_in 4 420 = true by decide), hx.2.2.1, hN.1, show MD_now M (4 : Int32).toNatClampNeg = z64 N by rw [← hN.1]; exact hq.at (x := 4) (by omega), z32_to64 ⟨by omega, by omega⟩]
    have L : (z32 (N : Int) ≤ z32 (k : Int)) ↔ N ≤ k := (z32_le ⟨by omega, by omega⟩ ⟨by omega, by omega⟩).trans (by omega)
    have L2 : (0 ≤ lg_cmp (z64 (k : Int)) (z64 (N : Int))) ↔ N ≤ k := ((lg_cmp_ge _ _).trans (z64_le (by omega) (by omega))).trans (by omega)
    by_cases c : N ≤ k
    · rw [if_pos (L.mpr c), if_pos (L2.mpr c), hs]
      exact ⟨_, rfl, rfl⟩
    · obtain ⟨g, e1, e2⟩ := xm_digestAbs hq hx hv (a := k) (by omega) 2000 0 h (by omega) (by omega)
      have e1 : f_X2_digestAbsence S h (z32 (k : Int)) = some g := e1
      have e2 : f_X3_digestAbsence M h (z32 (k : Int)) = some g := e2
      rw [if_neg (fun z => c (L.mp z)), if_neg (fun z => c (L2.mp z)), e1, e2, z_some, z_some]
      simp only [z_lets]
      rw [show z32 (k : Int) + 1 = z32 ((k + 1 : Nat) : Int) by rw [show (1 : Int32) = z32 1 from rfl, z32_add]; rfl]
      exact ih (k + 1) _ (by omega) (by omega)
theorem xm_dig3 {K : Int} {S : CM} {M : MD} {r : Int → Int} (hq : q_row (MD_now M) r) (hx : x_rel (CM_now S) r) (hv : v_x K r) (hs : CM_ss S = MD_states M) {P : Nat} (hP : r 3 = P ∧ P ≤ 8) : ∀ (n k : Nat) (h : Int64), k ≤ P → P < n + k → ∃ g, f_X2_digest_75 S n h (z32 k) = some g ∧ f_X3_digest_70 n M h (z32 k) = some (g, M) := by
  have h4 := hv.1.1.2.1
  intro n
  induction n with
  | zero => intro k h h1 h2; omega
  | succ n ih =>
    intro k h h1 h2
    rw [f_X2_digest_75, f_X3_digest_70, if_pos (show q_in 3 420 = true by decide), hx.2.1, hP.1, show MD_now M (3 : Int32).toNatClampNeg = z64 P by rw [← hP.1]; exact hq.at (x := 3) (by omega), z32_to64 ⟨by omega, by omega⟩]
    have L : (z32 (P : Int) ≤ z32 (k : Int)) ↔ P ≤ k := (z32_le ⟨by omega, by omega⟩ ⟨by omega, by omega⟩).trans (by omega)
    have L2 : (0 ≤ lg_cmp (z64 (k : Int)) (z64 (P : Int))) ↔ P ≤ k := ((lg_cmp_ge _ _).trans (z64_le (by omega) (by omega))).trans (by omega)
    by_cases c : P ≤ k
    · rw [if_pos (L.mpr c), if_pos (L2.mpr c)]
      exact xm_dig4 hq hx hv hs (N := (r 4).toNat) (by omega) 2000 0 h (by omega) (by omega)
    · obtain ⟨g, e1, e2⟩ := xm_digestPerson hq hx hv (p := k) (by omega) 2000 0 h (by omega) (by omega)
      have e1 : f_X2_digestPerson S h (z32 (k : Int)) = some g := e1
      have e2 : f_X3_digestPerson M h (z32 (k : Int)) = some g := e2
      rw [if_neg (fun z => c (L.mp z)), if_neg (fun z => c (L2.mp z)), e1, e2, z_some, z_some]
      simp only [z_lets]
      rw [show z32 (k : Int) + 1 = z32 ((k + 1 : Nat) : Int) by rw [show (1 : Int32) = z32 1 from rfl, z32_add]; rfl]
      exact ih (k + 1) _ (by omega) (by omega)
theorem xm_dig2 {K : Int} {S : CM} {M : MD} {r : Int → Int} (hq : q_row (MD_now M) r) (hx : x_rel (CM_now S) r) (hv : v_x K r) (hs : CM_ss S = MD_states M) : ∀ (n k : Nat) (h : Int64), k ≤ 3 → 3 < n + k → ∃ g, f_X2_digest_45 S n h (z32 k) = some g ∧ f_X3_digest_44 n M h (z32 k) = some (g, M) := by
  have h3 := hv.1.1.1
  have r0 := hv.1.1.2.2.1
  have r1 := hv.1.2.2.2.2.1
  have r2 := hv.1.2.2.2.2.2
  intro n
  induction n with
  | zero => intro k h h1 h2; omega
  | succ n ih =>
    intro k h h1 h2
    rw [f_X2_digest_45, f_X3_digest_44]
    have L : ((3 : Int32) ≤ z32 (k : Int)) ↔ 3 ≤ k := (z32_le (x := 3) ⟨by omega, by omega⟩ ⟨by omega, by omega⟩).trans (by omega)
    by_cases c : 3 ≤ k
    · rw [if_pos (L.mpr c), if_pos (L.mpr c)]
      exact xm_dig3 hq hx hv hs (P := (r 3).toNat) (by omega) 2000 0 h (by omega) (by omega)
    · have rk : -2147483648 ≤ r k ∧ r k < 2147483648 := by
        rcases (show k = 0 ∨ k = 1 ∨ k = 2 by omega) with e | e | e <;> subst e
        · show -2147483648 ≤ r 0 ∧ r 0 < 2147483648
          omega
        · show -2147483648 ≤ r 1 ∧ r 1 < 2147483648
          omega
        · show -2147483648 ≤ r 2 ∧ r 2 < 2147483648
          omega
      rw [if_neg (fun z => c (L.mp z)), if_neg (fun z => c (L.mp z)), if_pos (z_inT ⟨by omega, by omega, by omega⟩), if_pos (z_inT ⟨by omega, by omega, by omega⟩), hq.at (by omega), show ST_settings (CM_now S) (z32 (k : Int)).toNatClampNeg = z32 (r k) by rw [z32_clamp (by omega), Int.toNat_natCast]; exact hx.1 k (by omega), z32_to64 rk]
      simp only [z_lets]
      rw [show z32 (k : Int) + 1 = z32 ((k + 1 : Nat) : Int) by rw [show (1 : Int32) = z32 1 from rfl, z32_add]; rfl]
      exact ih (k + 1) _ (by omega) (by omega)
theorem xm_dig1 {K : Int} {S : CM} {M : MD} {r : Int → Int} (hq : q_row (MD_now M) r) (hx : x_rel (CM_now S) r) (hv : v_x K r) (hs : CM_ss S = MD_states M) : ∀ (n k : Nat) (h : Int64), k ≤ 11 → 11 < n + k → ∃ g, f_X2_digest_15 S n h (z32 k) = some g ∧ f_X3_digest_17 n M h (z32 k) = some (g, M) := by
  intro n
  induction n with
  | zero => intro k h h1 h2; omega
  | succ n ih =>
    intro k h h1 h2
    rw [f_X2_digest_15, f_X3_digest_17]
    have L : ((11 : Int32) ≤ z32 (k : Int)) ↔ 11 ≤ k := (z32_le (x := 11) ⟨by omega, by omega⟩ ⟨by omega, by omega⟩).trans (by omega)
    by_cases c : 11 ≤ k
    · rw [if_pos (L.mpr c), if_pos (L.mpr c)]
      exact xm_dig2 hq hx hv hs 2000 0 h (by omega) (by omega)
    · rw [if_neg (fun z => c (L.mp z)), if_neg (fun z => c (L.mp z)), x_aboutAll hx hv ⟨by omega, by omega⟩, m_tellsAll hq hv.1 ⟨by omega, by omega⟩, z_some, z_some]
      simp only [z_lets]
      rw [show z32 (k : Int) + 1 = z32 ((k + 1 : Nat) : Int) by rw [show (1 : Int32) = z32 1 from rfl, z32_add]; rfl]
      exact ih (k + 1) _ (by omega) (by omega)
theorem sc_digest {K : Int} {S : CM} {M : MD} (h : s_inv K S M) : ∃ g, f_X2_digest S = some g ∧ f_X3_digest M = some (g, sMD_thrown M 0) := by
  obtain ⟨⟨r, hq, hv, hr⟩, ⟨n, R, s1, s2, s3, s4⟩, len, t1, t2, t3, t4⟩ := h
  obtain ⟨g, e1, e2⟩ := xm_dig1 (M := sMD_thrown M 0) hq hr hv (s2.trans s3.symm) 2000 0 (115537 + (z32 (len : Int)).toInt64) (by omega) (by omega)
  refine ⟨g, ?_, ?_⟩
  · unfold f_X2_digest
    rw [t2, z_lets]
    exact e1
  · unfold f_X3_digest
    rw [z_lets, show MD_length (sMD_thrown M 0) = z32 len from t3, z_lets]
    exact e2
