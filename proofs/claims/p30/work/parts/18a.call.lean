/-! the calls that read -/
def rng (x : Int) : Prop := -2147483648 ≤ x ∧ x < 2147483648
theorem z_inT {x : Int} {n : Nat} (h : 0 ≤ x ∧ x < n ∧ n < 2147483648) : q_in (z32 x) n = true := (z_in h).mpr trivial
theorem z_ift {α : Type} (a b : α) : (if z_B true = 0 then a else b) = b := if_neg (by decide)
theorem z_iff {α : Type} (a b : α) : (if z_B false = 0 then a else b) = a := if_pos (by decide)
theorem z_int {α : Type} (a b : α) : (if ¬ z_B true = 0 then a else b) = a := if_pos (by decide)
theorem z_inf {α : Type} (a b : α) : (if ¬ z_B false = 0 then a else b) = b := if_neg (by decide)
theorem n_range {x l h : Int} (hx : rng x) (hl : rng l) (hh : rng h) : f_X2_needInRange (z32 x) (z32 l) (z32 h) = some (if l ≤ x ∧ x ≤ h then .inr () else .inl "java/lang/IllegalArgumentException") := by
  unfold f_X2_needInRange
  by_cases c : x < l
  · rw [if_pos ((z32_lt hx hl).mpr c), if_neg (by omega)]
  · rw [if_neg (fun z => c ((z32_lt hx hl).mp z))]
    by_cases d : x ≤ h
    · rw [if_pos ((z32_le hx hh).mpr d), if_pos (by omega)]
    · rw [if_neg (fun z => d ((z32_le hx hh).mp z)), if_neg (by omega)]
theorem n_allowed (b : Bool) : f_X2_needAllowed (z_B b) = some (if b = true then .inr () else .inl "java/lang/IllegalStateException") := by
  cases b <;> rfl
theorem n_hasP {S : ST} {r : Int → Int} (hx : x_rel S r) (hv : v_b r) {x : Int} (h : rng x) : f_X1_hasPerson S (z32 x) = some (z_B (decide (0 ≤ x ∧ x < r 3))) := by
  have h3 := hv.1
  unfold f_X1_hasPerson
  unfold rng at h
  rw [hx.2.1]
  simp (disch := omega) only [z32_lit, z32_lt, z32_le]
  by_cases c : x < 0
  · rw [if_pos c, decide_eq_false (by omega)]; rfl
  · rw [if_neg c]
    by_cases d : r 3 ≤ x
    · rw [if_pos d, decide_eq_false (by omega)]; rfl
    · rw [if_neg d, decide_eq_true (by omega)]; rfl
theorem n_hasA {S : ST} {r : Int → Int} (hx : x_rel S r) (hv : v_b r) {x : Int} (h : rng x) : f_X1_hasAbsence S (z32 x) = some (z_B (decide (0 ≤ x ∧ x < r 4))) := by
  have h4 := hv.2.1
  unfold f_X1_hasAbsence
  unfold rng at h
  rw [hx.2.2.1]
  simp (disch := omega) only [z32_lit, z32_lt, z32_le]
  by_cases c : x < 0
  · rw [if_pos c, decide_eq_false (by omega)]; rfl
  · rw [if_neg c]
    by_cases d : r 4 ≤ x
    · rw [if_pos d, decide_eq_false (by omega)]; rfl
    · rw [if_neg d, decide_eq_true (by omega)]; rfl
theorem n_person {S : CM} {r : Int → Int} (hx : x_rel (CM_now S) r) (hv : v_b r) {x : Int} (h : rng x) : f_X2_needPerson S (z32 x) = some (if 0 ≤ x ∧ x < r 3 then .inr () else .inl "java/lang/IndexOutOfBoundsException") := by
  unfold f_X2_needPerson
  rw [n_hasP hx hv h, z_some]
  by_cases c : 0 ≤ x ∧ x < r 3
  · rw [decide_eq_true c, if_pos c]; rfl
  · rw [decide_eq_false c, if_neg c]; rfl
theorem n_absence {S : CM} {r : Int → Int} (hx : x_rel (CM_now S) r) (hv : v_b r) {x : Int} (h : rng x) : f_X2_needAbsence S (z32 x) = some (if 0 ≤ x ∧ x < r 4 then .inr () else .inl "java/lang/IndexOutOfBoundsException") := by
  unfold f_X2_needAbsence
  rw [n_hasA hx hv h, z_some]
  by_cases c : 0 ≤ x ∧ x < r 4
  · rw [decide_eq_true c, if_pos c]; rfl
  · rw [decide_eq_false c, if_neg c]; rfl
theorem z_il {υ ρ : Type} (e : String) (K : υ → Option (String ⊕ ρ)) : q_exc (.inl e) K = some (.inl e) := rfl
theorem z_ir {υ ρ : Type} (y : υ) (K : υ → Option (String ⊕ ρ)) : q_exc (.inr y) K = K y := rfl
theorem z_Bn (b : Bool) : (¬ z_B b = 0) ↔ b = true := by cases b <;> decide
theorem z_Be (b : Bool) : (z_B b = 0) ↔ b = false := by cases b <;> decide
