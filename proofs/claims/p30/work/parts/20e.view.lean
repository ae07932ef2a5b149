/-! p30: what is asked of an object is told by its row; the digest is told at all -/
theorem o_range {x l h : Int} (hx : rng x) (hl : rng l) (hh : rng h) (c : l ≤ x ∧ x ≤ h) : f_O_needInRange (z32 x) (z32 l) (z32 h) = some () := by
  unfold f_O_needInRange
  rw [if_neg (fun z => by have := (z32_lt hx hl).mp z; omega), if_pos ((z32_le hx hh).mpr c.2)]
theorem o_needP {S : CM} {r : Int → Int} (hx : x_rel (CM_now S) r) (hv : v_b r) {p : Nat} (hp : (p : Int) < r 3) : f_O_needPerson S (z32 p) = some () := by
  have h3 := hv.1
  unfold f_O_needPerson
  rw [n_hasP hx hv ⟨by omega, by omega⟩, z_some, decide_eq_true (show 0 ≤ (p : Int) ∧ (p : Int) < r 3 from ⟨by omega, hp⟩), z_int]
theorem o_needA {S : CM} {r : Int → Int} (hx : x_rel (CM_now S) r) (hv : v_b r) {a : Nat} (ha : (a : Int) < r 4) : f_O_needAbsence S (z32 a) = some () := by
  have h4 := hv.2.1
  unfold f_O_needAbsence
  rw [n_hasA hx hv ⟨by omega, by omega⟩, z_some, decide_eq_true (show 0 ≤ (a : Int) ∧ (a : Int) < r 4 from ⟨by omega, ha⟩), z_int]
theorem o_value {K : Int} {S : CM} {r : Int → Int} (hx : x_rel (CM_now S) r) (hv : v_x K r) {k : Int} (hk : 0 ≤ k ∧ k ≤ 10) : f_O_value S (z32 k) = some (z32 (s_tv r k)) := by
  unfold f_O_value
  rw [show f_O_needInRange (z32 k) 0 10 = some () from o_range (l := 0) (h := 10) ⟨by omega, by omega⟩ ⟨by omega, by omega⟩ ⟨by omega, by omega⟩ hk, z_some, x_aboutAll hx hv ⟨by omega, by omega⟩, z_some]
theorem o_setting {S : CM} {r : Int → Int} (hx : x_rel (CM_now S) r) {k : Nat} (hk : k < 3) : f_O_setting S (z32 k) = some (z32 (r k)) := by
  unfold f_O_setting
  rw [show f_O_needInRange (z32 (k : Int)) 0 2 = some () from o_range (l := 0) (h := 2) ⟨by omega, by omega⟩ ⟨by omega, by omega⟩ ⟨by omega, by omega⟩ ⟨by omega, by omega⟩, z_some, if_pos (z_inT ⟨by omega, by omega, by omega⟩), z32_clamp (by omega), Int.toNat_natCast, hx.1 k hk]
theorem o_person {K : Int} {S : CM} {r : Int → Int} (hx : x_rel (CM_now S) r) (hv : v_x K r) {p : Nat} (hp : (p : Int) < r 3) {k : Int} (hk : 0 ≤ k ∧ k ≤ 6) : f_O_person S (z32 p) (z32 k) = some (z32 (s_tp r p k)) := by
  unfold f_O_person
  rw [o_needP hx hv.1.1 hp, z_some, show f_O_needInRange (z32 k) 0 6 = some () from o_range (l := 0) (h := 6) ⟨by omega, by omega⟩ ⟨by omega, by omega⟩ ⟨by omega, by omega⟩ hk, z_some, x_aboutPerson hx hv hp ⟨by omega, by omega⟩, z_some]
theorem o_work1 {K : Int} {S : CM} {r : Int → Int} (hx : x_rel (CM_now S) r) (hv : v_x K r) {p : Nat} (hp : (p : Int) < r 3) : ∃ w, f_O_work S (z32 p) = some w ∧ ∀ i, i < 64 → b6 w i = s_wrk r p i := by
  obtain ⟨w, h1, h2⟩ := x_worked hx hv.1 hp
  refine ⟨w, ?_, h2⟩
  unfold f_O_work
  rw [o_needP hx hv.1.1 hp, z_some, h1, z_some]
theorem o_work {K : Int} {r : Int → Int} (hv : v_x K r) {p : Nat} (hp : (p : Int) < r 3) : ∃ w, ∀ S : CM, x_rel (CM_now S) r → f_O_work S (z32 p) = some w := by
  by_cases h : ∃ S0 : CM, x_rel (CM_now S0) r
  · obtain ⟨S0, h0⟩ := h
    obtain ⟨w, e1, e2⟩ := o_work1 h0 hv hp
    refine ⟨w, fun S hx => ?_⟩
    obtain ⟨w2, g1, g2⟩ := o_work1 hx hv hp
    rw [g1, b6_ext (x := w2) (y := w) (fun i hi => by rw [g2 i hi, e2 i hi])]
  · exact ⟨0, fun S hx => absurd ⟨S, hx⟩ h⟩
theorem o_absence {K : Int} {S : CM} {r : Int → Int} (hx : x_rel (CM_now S) r) (hv : v_x K r) {a : Nat} (ha : (a : Int) < r 4) {k : Int} (hk : 0 ≤ k ∧ k ≤ 6) : f_O_absence S (z32 a) (z32 k) = some (s_ta r a k) := by
  unfold f_O_absence
  rw [o_needA hx hv.1.1 ha, z_some, show f_O_needInRange (z32 k) 0 6 = some () from o_range (l := 0) (h := 6) ⟨by omega, by omega⟩ ⟨by omega, by omega⟩ ⟨by omega, by omega⟩ hk, z_some, x_aboutAbsence hx hv ha ⟨by omega, by omega⟩, z_some]
theorem o_bidOf {K : Int} {S : CM} {r : Int → Int} (hx : x_rel (CM_now S) r) (hv : v_x K r) {p a : Nat} (hp : (p : Int) < r 3) (ha : (a : Int) < r 4) : f_O_bidOf S (z32 p) (z32 a) = some (z32 (r (30 + 13 * (a : Int) + (5 + (p : Int))))) := by
  have h3 := hv.1.1.1
  have h4 := hv.1.1.2.1
  unfold f_O_bidOf
  rw [o_needP hx hv.1.1 hp, z_some, o_needA hx hv.1.1 ha, z_some, x_bidIndex, z_some, if_pos (z_inT ⟨by omega, by omega, by omega⟩), x_bidAt hx hv.1 (by omega) ha]
  rfl
theorem z_inc (k : Nat) : z32 (k : Int) + 1 = z32 ((k + 1 : Nat) : Int) := by
  rw [show (1 : Int32) = z32 1 from rfl, z32_add]; rfl
section WV
variable {K : Int} {r : Int → Int}
theorem w_view_131 (hv : v_x K r) {a : Nat} (ha : (a : Int) < r 4) : ∀ (n k : Nat) (h : Int64), k ≤ 7 → 7 < n + k → ∃ g, ∀ S : CM, x_rel (CM_now S) r → f_L_view_131 S n h (z32 a) (z32 k) = some (.inr (g, z32 a)) := by
  intro n
  induction n with
  | zero => intro k h h1 h2; omega
  | succ n ih =>
    intro k h h1 h2
    have L : ((7 : Int32) ≤ z32 (k : Int)) ↔ 7 ≤ k := (z32_le (x := 7) ⟨by omega, by omega⟩ ⟨by omega, by omega⟩).trans (by omega)
    by_cases c : 7 ≤ k
    · exact ⟨h, fun S hx => by rw [f_L_view_131, if_pos (L.mpr c)]⟩
    · obtain ⟨g, hg⟩ := ih (k + 1) (31 * h + (s_ta r a k).toInt64) (by omega) (by omega)
      refine ⟨g, fun S hx => ?_⟩
      rw [f_L_view_131, if_neg (fun z => c (L.mp z)), o_absence hx hv ha ⟨by omega, by omega⟩, z_some]
      simp only [z_lets]
      rw [z_inc]
      exact hg S hx
theorem w_view_162 (hv : v_x K r) {a : Nat} (ha : (a : Int) < r 4) {P : Nat} (hP : r 3 = P ∧ P ≤ 8) : ∀ (n k : Nat) (h : Int64), k ≤ P → P < n + k → ∃ g, ∀ S : CM, x_rel (CM_now S) r → f_L_view_162 S n h (z32 a) (z32 k) = some (.inr (g, z32 a)) := by
  intro n
  induction n with
  | zero => intro k h h1 h2; omega
  | succ n ih =>
    intro k h h1 h2
    have L : (z32 (P : Int) ≤ z32 (k : Int)) ↔ P ≤ k := (z32_le ⟨by omega, by omega⟩ ⟨by omega, by omega⟩).trans (by omega)
    have e0 : ∀ S : CM, x_rel (CM_now S) r → f_O_value S 0 = some (z32 (P : Int)) := fun S hx => by
      rw [show (0 : Int32) = z32 0 from rfl, o_value hx hv (by omega), ← hP.1]
      rfl
    by_cases c : P ≤ k
    · exact ⟨h, fun S hx => by rw [f_L_view_162, e0 S hx, z_some, if_pos (L.mpr c)]⟩
    · obtain ⟨g, hg⟩ := ih (k + 1) (31 * h + (z32 (r (30 + 13 * (a : Int) + (5 + (k : Int))))).toInt64) (by omega) (by omega)
      refine ⟨g, fun S hx => ?_⟩
      rw [f_L_view_162, e0 S hx, z_some, if_neg (fun z => c (L.mp z)), o_bidOf hx hv (by omega) ha, z_some]
      simp only [z_lets]
      rw [z_inc]
      exact hg S hx
theorem w_view_119 (hv : v_x K r) {N : Nat} (hN : r 4 = N ∧ N ≤ 30) : ∀ (n k : Nat) (h : Int64), k ≤ N → N < n + k → ∃ g, ∀ S : CM, x_rel (CM_now S) r → f_L_view_119 S n h (z32 k) = some g := by
  have h3 := hv.1.1.1
  intro n
  induction n with
  | zero => intro k h h1 h2; omega
  | succ n ih =>
    intro k h h1 h2
    have L : (z32 (N : Int) ≤ z32 (k : Int)) ↔ N ≤ k := (z32_le ⟨by omega, by omega⟩ ⟨by omega, by omega⟩).trans (by omega)
    have e0 : ∀ S : CM, x_rel (CM_now S) r → f_O_value S 1 = some (z32 (N : Int)) := fun S hx => by
      rw [show (1 : Int32) = z32 1 from rfl, o_value hx hv (by omega), ← hN.1]
      rfl
    by_cases c : N ≤ k
    · exact ⟨h, fun S hx => by rw [f_L_view_119, e0 S hx, z_some, if_pos (L.mpr c)]⟩
    · obtain ⟨g1, hg1⟩ := w_view_131 hv (a := k) (by omega) 2000 0 h (by omega) (by omega)
      obtain ⟨g2, hg2⟩ := w_view_162 hv (a := k) (by omega) (P := (r 3).toNat) (by omega) 2000 0 g1 (by omega) (by omega)
      obtain ⟨g, hg⟩ := ih (k + 1) g2 (by omega) (by omega)
      refine ⟨g, fun S hx => ?_⟩
      rw [f_L_view_119, e0 S hx, z_some, if_neg (fun z => c (L.mp z)), show f_L_view_131 S 2000 h (z32 (k : Int)) 0 = _ from hg1 S hx, z_some]
      show ((f_L_view_162 S 2000 g1 (z32 (k : Int)) 0).bind _) = _
      rw [show f_L_view_162 S 2000 g1 (z32 (k : Int)) 0 = _ from hg2 S hx, z_some]
      show f_L_view_119 S n g2 (z32 (k : Int) + 1) = _
      rw [z_inc]
      exact hg S hx
theorem w_view_71 (hv : v_x K r) {p : Nat} (hp : (p : Int) < r 3) : ∀ (n k : Nat) (h : Int64), k ≤ 7 → 7 < n + k → ∃ g, ∀ S : CM, x_rel (CM_now S) r → f_L_view_71 S n h (z32 p) (z32 k) = some (.inr (g, z32 p)) := by
  intro n
  induction n with
  | zero => intro k h h1 h2; omega
  | succ n ih =>
    intro k h h1 h2
    have L : ((7 : Int32) ≤ z32 (k : Int)) ↔ 7 ≤ k := (z32_le (x := 7) ⟨by omega, by omega⟩ ⟨by omega, by omega⟩).trans (by omega)
    by_cases c : 7 ≤ k
    · exact ⟨h, fun S hx => by rw [f_L_view_71, if_pos (L.mpr c)]⟩
    · obtain ⟨g, hg⟩ := ih (k + 1) (31 * h + (z32 (s_tp r p k)).toInt64) (by omega) (by omega)
      refine ⟨g, fun S hx => ?_⟩
      rw [f_L_view_71, if_neg (fun z => c (L.mp z)), o_person hx hv hp ⟨by omega, by omega⟩, z_some]
      simp only [z_lets]
      rw [z_inc]
      exact hg S hx
theorem w_view_59 (hv : v_x K r) {P : Nat} (hP : r 3 = P ∧ P ≤ 8) : ∀ (n k : Nat) (h : Int64), k ≤ P → P < n + k → ∃ g, ∀ S : CM, x_rel (CM_now S) r → f_L_view_59 S n h (z32 k) = some g := by
  have h4 := hv.1.1.2.1
  intro n
  induction n with
  | zero => intro k h h1 h2; omega
  | succ n ih =>
    intro k h h1 h2
    have L : (z32 (P : Int) ≤ z32 (k : Int)) ↔ P ≤ k := (z32_le ⟨by omega, by omega⟩ ⟨by omega, by omega⟩).trans (by omega)
    have e0 : ∀ S : CM, x_rel (CM_now S) r → f_O_value S 0 = some (z32 (P : Int)) := fun S hx => by
      rw [show (0 : Int32) = z32 0 from rfl, o_value hx hv (by omega), ← hP.1]
      rfl
    by_cases c : P ≤ k
    · obtain ⟨g, hg⟩ := w_view_119 hv (N := (r 4).toNat) (by omega) 2000 0 h (by omega) (by omega)
      exact ⟨g, fun S hx => by rw [f_L_view_59, e0 S hx, z_some, if_pos (L.mpr c)]; exact hg S hx⟩
    · obtain ⟨g1, hg1⟩ := w_view_71 hv (p := k) (by omega) 2000 0 h (by omega) (by omega)
      obtain ⟨w, hw⟩ := o_work hv (p := k) (by omega)
      obtain ⟨g, hg⟩ := ih (k + 1) (31 * g1 + w) (by omega) (by omega)
      refine ⟨g, fun S hx => ?_⟩
      rw [f_L_view_59, e0 S hx, z_some, if_neg (fun z => c (L.mp z)), show f_L_view_71 S 2000 h (z32 (k : Int)) 0 = _ from hg1 S hx, z_some]
      show ((f_O_work S (z32 (k : Int))).bind _) = _
      rw [hw S hx, z_some]
      show f_L_view_59 S n (31 * g1 + w) (z32 (k : Int) + 1) = _
      rw [z_inc]
      exact hg S hx
theorem w_view_33 (hv : v_x K r) : ∀ (n k : Nat) (h : Int64), k ≤ 3 → 3 < n + k → ∃ g, ∀ S : CM, x_rel (CM_now S) r → f_L_view_33 S n h (z32 k) = some g := by
  have h3 := hv.1.1.1
  intro n
  induction n with
  | zero => intro k h h1 h2; omega
  | succ n ih =>
    intro k h h1 h2
    have L : ((3 : Int32) ≤ z32 (k : Int)) ↔ 3 ≤ k := (z32_le (x := 3) ⟨by omega, by omega⟩ ⟨by omega, by omega⟩).trans (by omega)
    by_cases c : 3 ≤ k
    · obtain ⟨g, hg⟩ := w_view_59 hv (P := (r 3).toNat) (by omega) 2000 0 h (by omega) (by omega)
      exact ⟨g, fun S hx => by rw [f_L_view_33, if_pos (L.mpr c)]; exact hg S hx⟩
    · obtain ⟨g, hg⟩ := ih (k + 1) (31 * h + (z32 (r k)).toInt64) (by omega) (by omega)
      refine ⟨g, fun S hx => ?_⟩
      rw [f_L_view_33, if_neg (fun z => c (L.mp z)), o_setting hx (by omega), z_some]
      simp only [z_lets]
      rw [z_inc]
      exact hg S hx
theorem w_view_6 (hv : v_x K r) : ∀ (n k : Nat) (h : Int64), k ≤ 11 → 11 < n + k → ∃ g, ∀ S : CM, x_rel (CM_now S) r → f_L_view_6 S n h (z32 k) = some g := by
  intro n
  induction n with
  | zero => intro k h h1 h2; omega
  | succ n ih =>
    intro k h h1 h2
    have L : ((11 : Int32) ≤ z32 (k : Int)) ↔ 11 ≤ k := (z32_le (x := 11) ⟨by omega, by omega⟩ ⟨by omega, by omega⟩).trans (by omega)
    by_cases c : 11 ≤ k
    · obtain ⟨g, hg⟩ := w_view_33 hv 2000 0 h (by omega) (by omega)
      exact ⟨g, fun S hx => by rw [f_L_view_6, if_pos (L.mpr c)]; exact hg S hx⟩
    · obtain ⟨g, hg⟩ := ih (k + 1) (31 * h + (z32 (s_tv r k)).toInt64) (by omega) (by omega)
      refine ⟨g, fun S hx => ?_⟩
      rw [f_L_view_6, if_neg (fun z => c (L.mp z)), o_value hx hv ⟨by omega, by omega⟩, z_some]
      simp only [z_lets]
      rw [z_inc]
      exact hg S hx
theorem w_view (hv : v_x K r) : ∃ g, ∀ S : CM, x_rel (CM_now S) r → f_L_view S = some g := w_view_6 hv 2000 0 7 (by omega) (by omega)
variable {S : CM}
theorem w_digP (hx : x_rel (CM_now S) r) (hv : v_x K r) {p : Nat} (hp : (p : Int) < r 3) : ∀ (n k : Nat) (h : Int64), k ≤ 7 → 7 < n + k → ∃ g, f_X2_digestPerson_6 S n (z32 p) h (z32 k) = some g := by
  intro n
  induction n with
  | zero => intro k h h1 h2; omega
  | succ n ih =>
    intro k h h1 h2
    rw [f_X2_digestPerson_6]
    have L : ((7 : Int32) ≤ z32 (k : Int)) ↔ 7 ≤ k := (z32_le (x := 7) ⟨by omega, by omega⟩ ⟨by omega, by omega⟩).trans (by omega)
    by_cases c : 7 ≤ k
    · obtain ⟨u, g1, -⟩ := x_worked hx hv.1 hp
      rw [if_pos (L.mpr c), g1, z_some]
      exact ⟨_, rfl⟩
    · rw [if_neg (fun z => c (L.mp z)), x_aboutPerson hx hv hp ⟨by omega, by omega⟩, z_some]
      simp only [z_lets]
      rw [z_inc]
      exact ih (k + 1) _ (by omega) (by omega)
theorem w_digA2 (hx : x_rel (CM_now S) r) (hv : v_x K r) {a : Nat} (ha : (a : Int) < r 4) {P : Nat} (hP : r 3 = P ∧ P ≤ 8) : ∀ (n k : Nat) (h : Int64), k ≤ P → P < n + k → ∃ g, f_X2_digestAbsence_42 S n (z32 a) h (z32 k) = some g := by
  have h4 := hv.1.1.2.1
  intro n
  induction n with
  | zero => intro k h h1 h2; omega
  | succ n ih =>
    intro k h h1 h2
    rw [f_X2_digestAbsence_42, hx.2.1, hP.1]
    have L : (z32 (P : Int) ≤ z32 (k : Int)) ↔ P ≤ k := (z32_le ⟨by omega, by omega⟩ ⟨by omega, by omega⟩).trans (by omega)
    by_cases c : P ≤ k
    · rw [if_pos (L.mpr c)]
      exact ⟨_, rfl⟩
    · rw [if_neg (fun z => c (L.mp z)), x_bidIndex, z_some, if_pos (z_inT ⟨by omega, by omega, by omega⟩)]
      simp only [z_lets]
      rw [z_inc]
      exact ih (k + 1) _ (by omega) (by omega)
theorem w_digA (hx : x_rel (CM_now S) r) (hv : v_x K r) {a : Nat} (ha : (a : Int) < r 4) : ∀ (n k : Nat) (h : Int64), k ≤ 7 → 7 < n + k → ∃ g, f_X2_digestAbsence_6 S n (z32 a) h (z32 k) = some g := by
  have h3 := hv.1.1.1
  intro n
  induction n with
  | zero => intro k h h1 h2; omega
  | succ n ih =>
    intro k h h1 h2
    rw [f_X2_digestAbsence_6]
    have L : ((7 : Int32) ≤ z32 (k : Int)) ↔ 7 ≤ k := (z32_le (x := 7) ⟨by omega, by omega⟩ ⟨by omega, by omega⟩).trans (by omega)
    by_cases c : 7 ≤ k
    · rw [if_pos (L.mpr c)]
      exact w_digA2 hx hv ha (P := (r 3).toNat) (by omega) 2000 0 h (by omega) (by omega)
    · rw [if_neg (fun z => c (L.mp z)), x_aboutAbsence hx hv ha ⟨by omega, by omega⟩, z_some]
      simp only [z_lets]
      rw [z_inc]
      exact ih (k + 1) _ (by omega) (by omega)
theorem w_dig4 (hx : x_rel (CM_now S) r) (hv : v_x K r) {N : Nat} (hN : r 4 = N ∧ N ≤ 30) : ∀ (n k : Nat) (h : Int64), k ≤ N → N < n + k → ∃ g, f_X2_digest_101 S n h (z32 k) = some g := by
  intro n
  induction n with
  | zero => intro k h h1 h2; omega
  | succ n ih =>
    intro k h h1 h2
    rw [f_X2_digest_101, hx.2.2.1, hN.1]
    have L : (z32 (N : Int) ≤ z32 (k : Int)) ↔ N ≤ k := (z32_le ⟨by omega, by omega⟩ ⟨by omega, by omega⟩).trans (by omega)
    by_cases c : N ≤ k
    · rw [if_pos (L.mpr c)]
      exact ⟨_, rfl⟩
    · obtain ⟨g, hg⟩ := w_digA hx hv (a := k) (by omega) 2000 0 h (by omega) (by omega)
      rw [if_neg (fun z => c (L.mp z)), show f_X2_digestAbsence S h (z32 (k : Int)) = some g from hg, z_some]
      simp only [z_lets]
      rw [z_inc]
      exact ih (k + 1) _ (by omega) (by omega)
theorem w_dig3 (hx : x_rel (CM_now S) r) (hv : v_x K r) {P : Nat} (hP : r 3 = P ∧ P ≤ 8) : ∀ (n k : Nat) (h : Int64), k ≤ P → P < n + k → ∃ g, f_X2_digest_75 S n h (z32 k) = some g := by
  have h4 := hv.1.1.2.1
  intro n
  induction n with
  | zero => intro k h h1 h2; omega
  | succ n ih =>
    intro k h h1 h2
    rw [f_X2_digest_75, hx.2.1, hP.1]
    have L : (z32 (P : Int) ≤ z32 (k : Int)) ↔ P ≤ k := (z32_le ⟨by omega, by omega⟩ ⟨by omega, by omega⟩).trans (by omega)
    by_cases c : P ≤ k
    · rw [if_pos (L.mpr c)]
      exact w_dig4 hx hv (N := (r 4).toNat) (by omega) 2000 0 h (by omega) (by omega)
    · obtain ⟨g, hg⟩ := w_digP hx hv (p := k) (by omega) 2000 0 h (by omega) (by omega)
      rw [if_neg (fun z => c (L.mp z)), show f_X2_digestPerson S h (z32 (k : Int)) = some g from hg, z_some]
      simp only [z_lets]
      rw [z_inc]
      exact ih (k + 1) _ (by omega) (by omega)
theorem w_dig2 (hx : x_rel (CM_now S) r) (hv : v_x K r) : ∀ (n k : Nat) (h : Int64), k ≤ 3 → 3 < n + k → ∃ g, f_X2_digest_45 S n h (z32 k) = some g := by
  have h3 := hv.1.1.1
  intro n
  induction n with
  | zero => intro k h h1 h2; omega
  | succ n ih =>
    intro k h h1 h2
    rw [f_X2_digest_45]
    have L : ((3 : Int32) ≤ z32 (k : Int)) ↔ 3 ≤ k := (z32_le (x := 3) ⟨by omega, by omega⟩ ⟨by omega, by omega⟩).trans (by omega)
    by_cases c : 3 ≤ k
    · rw [if_pos (L.mpr c)]
      exact w_dig3 hx hv (P := (r 3).toNat) (by omega) 2000 0 h (by omega) (by omega)
    · rw [if_neg (fun z => c (L.mp z)), if_pos (z_inT ⟨by omega, by omega, by omega⟩)]
      simp only [z_lets]
      rw [z_inc]
      exact ih (k + 1) _ (by omega) (by omega)
theorem w_dig1 (hx : x_rel (CM_now S) r) (hv : v_x K r) : ∀ (n k : Nat) (h : Int64), k ≤ 11 → 11 < n + k → ∃ g, f_X2_digest_15 S n h (z32 k) = some g := by
  intro n
  induction n with
  | zero => intro k h h1 h2; omega
  | succ n ih =>
    intro k h h1 h2
    rw [f_X2_digest_15]
    have L : ((11 : Int32) ≤ z32 (k : Int)) ↔ 11 ≤ k := (z32_le (x := 11) ⟨by omega, by omega⟩ ⟨by omega, by omega⟩).trans (by omega)
    by_cases c : 11 ≤ k
    · rw [if_pos (L.mpr c)]
      exact w_dig2 hx hv 2000 0 h (by omega) (by omega)
    · rw [if_neg (fun z => c (L.mp z)), x_aboutAll hx hv ⟨by omega, by omega⟩, z_some]
      simp only [z_lets]
      rw [z_inc]
      exact ih (k + 1) _ (by omega) (by omega)
theorem w_digest (hx : x_rel (CM_now S) r) (hv : v_x K r) : ∃ g, f_X2_digest S = some g := w_dig1 hx hv 2000 0 _ (by omega) (by omega)
end WV
