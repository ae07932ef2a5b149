/-! small words of the mirrored functions: a named value, a guard of an index, a branch, a call -/
def q_let {α β : Type} (x : α) (k : α → β) : β := k x
def q_in (i : Int32) (n : Nat) : Bool := decide (¬ (i < 0 ∨ n ≤ i.toNatClampNeg))
theorem q_inE {i : Int32} {n : Nat} : q_in i n = true ↔ vp_in i n := by unfold q_in vp_in; exact decide_eq_true_iff
theorem q_let_go {α β : Type} {x : α} {k : α → Option β} {o : β} (h : q_let x k = some o) : ∃ z, x = z ∧ k z = some o := ⟨x, rfl, h⟩
theorem q_bd_go {α β : Type} {x : Option α} {k : α → Option β} {o : β} (h : x.bind k = some o) : ∃ r, x = some r ∧ k r = some o := by
  cases x with
  | none => cases h
  | some r => exact ⟨r, rfl, h⟩
theorem q_gd_in {α : Type} {i : Int32} {n : Nat} {A : Option α} {o : α} (h : (if q_in i n = true then A else none) = some o) : vp_in i n := by
  by_cases c : q_in i n = true
  · exact q_inE.mp c
  · rw [if_neg c] at h; cases h
theorem q_gd_go {α : Type} {i : Int32} {n : Nat} {A : Option α} {o : α} (h : (if q_in i n = true then A else none) = some o) : A = some o := by
  by_cases c : q_in i n = true
  · rw [if_pos c] at h; exact h
  · rw [if_neg c] at h; cases h
theorem q_gc_in {α : Type} {c : Prop} [Decidable c] {A : Option α} {o : α} (h : (if c then A else none) = some o) : c := by
  by_cases d : c
  · exact d
  · rw [if_neg d] at h; cases h
theorem q_ite_t {α : Type} {c : Prop} [Decidable c] {A B o : α} (h : c) (e : (if c then A else B) = o) : A = o := by rw [if_pos h] at e; exact e
theorem q_ite_f {α : Type} {c : Prop} [Decidable c] {A B o : α} (h : ¬ c) (e : (if c then A else B) = o) : B = o := by rw [if_neg h] at e; exact e
def q_sum {ρ υ : Type} (x : ρ ⊕ υ) (K : υ → Option ρ) : Option ρ := match x with
  | .inl r => some r
  | .inr y => K y
def q_num (r : UInt64) : Bool := decide (r &&& 0x7fffffffffffffff ≤ 0x7ff0000000000000)
theorem q_num_n {r : UInt64} (h : q_num r = true) : vf_n64 r := by unfold q_num at h; unfold vf_n64; exact of_decide_eq_true h
theorem q_nz {v : Int32} (h : v = 0 ∨ v = 1) : narrow .boolean (.int v) = .int v := by rcases h with rfl | rfl <;> rfl
theorem q_ite_n {α : Type} {c : Prop} [Decidable c] {A B o : α} (h : c) (e : (if ¬ c then A else B) = o) : B = o := by rw [if_neg (fun z => z h)] at e; exact e
theorem q_some {α : Type} {x o : α} (h : some x = some o) : x = o := Option.some.inj h
abbrev OR : Type := (Nat → Int32) × Int32 × Int32 × Int32 × Int32 × Int32 × Int32 × Int32
def OR_text (S : OR) : (Nat → Int32) := S.1
def OR_length (S : OR) : Int32 := S.2.1
def OR_at (S : OR) : Int32 := S.2.2.1
def OR_error (S : OR) : Int32 := S.2.2.2.1
def OR_kind (S : OR) : Int32 := S.2.2.2.2.1
def OR_person (S : OR) : Int32 := S.2.2.2.2.2.1
def OR_number (S : OR) : Int32 := S.2.2.2.2.2.2.1
def OR_points (S : OR) : Int32 := S.2.2.2.2.2.2.2
def sOR_text (S : OR) (v : (Nat → Int32)) : OR := (v, S.2.1, S.2.2.1, S.2.2.2.1, S.2.2.2.2.1, S.2.2.2.2.2.1, S.2.2.2.2.2.2.1, S.2.2.2.2.2.2.2)
def sOR_length (S : OR) (v : Int32) : OR := (S.1, v, S.2.2.1, S.2.2.2.1, S.2.2.2.2.1, S.2.2.2.2.2.1, S.2.2.2.2.2.2.1, S.2.2.2.2.2.2.2)
def sOR_at (S : OR) (v : Int32) : OR := (S.1, S.2.1, v, S.2.2.2.1, S.2.2.2.2.1, S.2.2.2.2.2.1, S.2.2.2.2.2.2.1, S.2.2.2.2.2.2.2)
def sOR_error (S : OR) (v : Int32) : OR := (S.1, S.2.1, S.2.2.1, v, S.2.2.2.2.1, S.2.2.2.2.2.1, S.2.2.2.2.2.2.1, S.2.2.2.2.2.2.2)
def sOR_kind (S : OR) (v : Int32) : OR := (S.1, S.2.1, S.2.2.1, S.2.2.2.1, v, S.2.2.2.2.2.1, S.2.2.2.2.2.2.1, S.2.2.2.2.2.2.2)
def sOR_person (S : OR) (v : Int32) : OR := (S.1, S.2.1, S.2.2.1, S.2.2.2.1, S.2.2.2.2.1, v, S.2.2.2.2.2.2.1, S.2.2.2.2.2.2.2)
def sOR_number (S : OR) (v : Int32) : OR := (S.1, S.2.1, S.2.2.1, S.2.2.2.1, S.2.2.2.2.1, S.2.2.2.2.2.1, v, S.2.2.2.2.2.2.2)
def sOR_points (S : OR) (v : Int32) : OR := (S.1, S.2.1, S.2.2.1, S.2.2.2.1, S.2.2.2.2.1, S.2.2.2.2.2.1, S.2.2.2.2.2.2.1, v)
abbrev oOR (a : Nat → Nat) (S : OR) : List Value := [.ref (a 1), .int (OR_length S), .int (OR_at S), .int (OR_error S), .int (OR_kind S), .int (OR_person S), .int (OR_number S), .int (OR_points S)]
def wOR (cI cJ : ClassId) (a : Nat → Nat) (S : OR) : va_W := [(a 0, .inr (0, oOR a S)), (a 1, .inl (cI, 100, .inl (OR_text S)))]
theorem gs_OR_text (S : OR) (v : (Nat → Int32)) : OR_text (sOR_text S v) = v := rfl
theorem gs_OR_length (S : OR) (v : Int32) : OR_length (sOR_length S v) = v := rfl
theorem gs_OR_at (S : OR) (v : Int32) : OR_at (sOR_at S v) = v := rfl
theorem gs_OR_error (S : OR) (v : Int32) : OR_error (sOR_error S v) = v := rfl
theorem gs_OR_kind (S : OR) (v : Int32) : OR_kind (sOR_kind S v) = v := rfl
theorem gs_OR_person (S : OR) (v : Int32) : OR_person (sOR_person S v) = v := rfl
theorem gs_OR_number (S : OR) (v : Int32) : OR_number (sOR_number S v) = v := rfl
theorem gs_OR_points (S : OR) (v : Int32) : OR_points (sOR_points S v) = v := rfl
abbrev ST : Type := (Nat → Int32) × Int32 × Int32 × (Nat → Int64) × (Nat → Int64) × (Nat → Int64) × (Nat → Int32) × (Nat → Int32) × Int32 × (Nat → Int32) × (Nat → Int32) × (Nat → Int32) × (Nat → Int32) × (Nat → Int32) × (Nat → Int32)
def ST_settings (S : ST) : (Nat → Int32) := S.1
def ST_handedOver (S : ST) : Int32 := S.2.1
def ST_persons (S : ST) : Int32 := S.2.2.1
def ST_rosters (S : ST) : (Nat → Int64) := S.2.2.2.1
def ST_away (S : ST) : (Nat → Int64) := S.2.2.2.2.1
def ST_covering (S : ST) : (Nat → Int64) := S.2.2.2.2.2.1
def ST_meters (S : ST) : (Nat → Int32) := S.2.2.2.2.2.2.1
def ST_turns (S : ST) : (Nat → Int32) := S.2.2.2.2.2.2.2.1
def ST_absences (S : ST) : Int32 := S.2.2.2.2.2.2.2.2.1
def ST_absentees (S : ST) : (Nat → Int32) := S.2.2.2.2.2.2.2.2.2.1
def ST_shifts (S : ST) : (Nat → Int32) := S.2.2.2.2.2.2.2.2.2.2.1
def ST_statuses (S : ST) : (Nat → Int32) := S.2.2.2.2.2.2.2.2.2.2.2.1
def ST_coverers (S : ST) : (Nat → Int32) := S.2.2.2.2.2.2.2.2.2.2.2.2.1
def ST_points (S : ST) : (Nat → Int32) := S.2.2.2.2.2.2.2.2.2.2.2.2.2.1
def ST_bids (S : ST) : (Nat → Int32) := S.2.2.2.2.2.2.2.2.2.2.2.2.2.2
def sST_settings (S : ST) (v : (Nat → Int32)) : ST := (v, S.2.1, S.2.2.1, S.2.2.2.1, S.2.2.2.2.1, S.2.2.2.2.2.1, S.2.2.2.2.2.2.1, S.2.2.2.2.2.2.2.1, S.2.2.2.2.2.2.2.2.1, S.2.2.2.2.2.2.2.2.2.1, S.2.2.2.2.2.2.2.2.2.2.1, S.2.2.2.2.2.2.2.2.2.2.2.1, S.2.2.2.2.2.2.2.2.2.2.2.2.1, S.2.2.2.2.2.2.2.2.2.2.2.2.2.1, S.2.2.2.2.2.2.2.2.2.2.2.2.2.2)
def sST_handedOver (S : ST) (v : Int32) : ST := (S.1, v, S.2.2.1, S.2.2.2.1, S.2.2.2.2.1, S.2.2.2.2.2.1, S.2.2.2.2.2.2.1, S.2.2.2.2.2.2.2.1, S.2.2.2.2.2.2.2.2.1, S.2.2.2.2.2.2.2.2.2.1, S.2.2.2.2.2.2.2.2.2.2.1, S.2.2.2.2.2.2.2.2.2.2.2.1, S.2.2.2.2.2.2.2.2.2.2.2.2.1, S.2.2.2.2.2.2.2.2.2.2.2.2.2.1, S.2.2.2.2.2.2.2.2.2.2.2.2.2.2)
def sST_persons (S : ST) (v : Int32) : ST := (S.1, S.2.1, v, S.2.2.2.1, S.2.2.2.2.1, S.2.2.2.2.2.1, S.2.2.2.2.2.2.1, S.2.2.2.2.2.2.2.1, S.2.2.2.2.2.2.2.2.1, S.2.2.2.2.2.2.2.2.2.1, S.2.2.2.2.2.2.2.2.2.2.1, S.2.2.2.2.2.2.2.2.2.2.2.1, S.2.2.2.2.2.2.2.2.2.2.2.2.1, S.2.2.2.2.2.2.2.2.2.2.2.2.2.1, S.2.2.2.2.2.2.2.2.2.2.2.2.2.2)
def sST_rosters (S : ST) (v : (Nat → Int64)) : ST := (S.1, S.2.1, S.2.2.1, v, S.2.2.2.2.1, S.2.2.2.2.2.1, S.2.2.2.2.2.2.1, S.2.2.2.2.2.2.2.1, S.2.2.2.2.2.2.2.2.1, S.2.2.2.2.2.2.2.2.2.1, S.2.2.2.2.2.2.2.2.2.2.1, S.2.2.2.2.2.2.2.2.2.2.2.1, S.2.2.2.2.2.2.2.2.2.2.2.2.1, S.2.2.2.2.2.2.2.2.2.2.2.2.2.1, S.2.2.2.2.2.2.2.2.2.2.2.2.2.2)
def sST_away (S : ST) (v : (Nat → Int64)) : ST := (S.1, S.2.1, S.2.2.1, S.2.2.2.1, v, S.2.2.2.2.2.1, S.2.2.2.2.2.2.1, S.2.2.2.2.2.2.2.1, S.2.2.2.2.2.2.2.2.1, S.2.2.2.2.2.2.2.2.2.1, S.2.2.2.2.2.2.2.2.2.2.1, S.2.2.2.2.2.2.2.2.2.2.2.1, S.2.2.2.2.2.2.2.2.2.2.2.2.1, S.2.2.2.2.2.2.2.2.2.2.2.2.2.1, S.2.2.2.2.2.2.2.2.2.2.2.2.2.2)
def sST_covering (S : ST) (v : (Nat → Int64)) : ST := (S.1, S.2.1, S.2.2.1, S.2.2.2.1, S.2.2.2.2.1, v, S.2.2.2.2.2.2.1, S.2.2.2.2.2.2.2.1, S.2.2.2.2.2.2.2.2.1, S.2.2.2.2.2.2.2.2.2.1, S.2.2.2.2.2.2.2.2.2.2.1, S.2.2.2.2.2.2.2.2.2.2.2.1, S.2.2.2.2.2.2.2.2.2.2.2.2.1, S.2.2.2.2.2.2.2.2.2.2.2.2.2.1, S.2.2.2.2.2.2.2.2.2.2.2.2.2.2)
def sST_meters (S : ST) (v : (Nat → Int32)) : ST := (S.1, S.2.1, S.2.2.1, S.2.2.2.1, S.2.2.2.2.1, S.2.2.2.2.2.1, v, S.2.2.2.2.2.2.2.1, S.2.2.2.2.2.2.2.2.1, S.2.2.2.2.2.2.2.2.2.1, S.2.2.2.2.2.2.2.2.2.2.1, S.2.2.2.2.2.2.2.2.2.2.2.1, S.2.2.2.2.2.2.2.2.2.2.2.2.1, S.2.2.2.2.2.2.2.2.2.2.2.2.2.1, S.2.2.2.2.2.2.2.2.2.2.2.2.2.2)
def sST_turns (S : ST) (v : (Nat → Int32)) : ST := (S.1, S.2.1, S.2.2.1, S.2.2.2.1, S.2.2.2.2.1, S.2.2.2.2.2.1, S.2.2.2.2.2.2.1, v, S.2.2.2.2.2.2.2.2.1, S.2.2.2.2.2.2.2.2.2.1, S.2.2.2.2.2.2.2.2.2.2.1, S.2.2.2.2.2.2.2.2.2.2.2.1, S.2.2.2.2.2.2.2.2.2.2.2.2.1, S.2.2.2.2.2.2.2.2.2.2.2.2.2.1, S.2.2.2.2.2.2.2.2.2.2.2.2.2.2)
def sST_absences (S : ST) (v : Int32) : ST := (S.1, S.2.1, S.2.2.1, S.2.2.2.1, S.2.2.2.2.1, S.2.2.2.2.2.1, S.2.2.2.2.2.2.1, S.2.2.2.2.2.2.2.1, v, S.2.2.2.2.2.2.2.2.2.1, S.2.2.2.2.2.2.2.2.2.2.1, S.2.2.2.2.2.2.2.2.2.2.2.1, S.2.2.2.2.2.2.2.2.2.2.2.2.1, S.2.2.2.2.2.2.2.2.2.2.2.2.2.1, S.2.2.2.2.2.2.2.2.2.2.2.2.2.2)
def sST_absentees (S : ST) (v : (Nat → Int32)) : ST := (S.1, S.2.1, S.2.2.1, S.2.2.2.1, S.2.2.2.2.1, S.2.2.2.2.2.1, S.2.2.2.2.2.2.1, S.2.2.2.2.2.2.2.1, S.2.2.2.2.2.2.2.2.1, v, S.2.2.2.2.2.2.2.2.2.2.1, S.2.2.2.2.2.2.2.2.2.2.2.1, S.2.2.2.2.2.2.2.2.2.2.2.2.1, S.2.2.2.2.2.2.2.2.2.2.2.2.2.1, S.2.2.2.2.2.2.2.2.2.2.2.2.2.2)
def sST_shifts (S : ST) (v : (Nat → Int32)) : ST := (S.1, S.2.1, S.2.2.1, S.2.2.2.1, S.2.2.2.2.1, S.2.2.2.2.2.1, S.2.2.2.2.2.2.1, S.2.2.2.2.2.2.2.1, S.2.2.2.2.2.2.2.2.1, S.2.2.2.2.2.2.2.2.2.1, v, S.2.2.2.2.2.2.2.2.2.2.2.1, S.2.2.2.2.2.2.2.2.2.2.2.2.1, S.2.2.2.2.2.2.2.2.2.2.2.2.2.1, S.2.2.2.2.2.2.2.2.2.2.2.2.2.2)
def sST_statuses (S : ST) (v : (Nat → Int32)) : ST := (S.1, S.2.1, S.2.2.1, S.2.2.2.1, S.2.2.2.2.1, S.2.2.2.2.2.1, S.2.2.2.2.2.2.1, S.2.2.2.2.2.2.2.1, S.2.2.2.2.2.2.2.2.1, S.2.2.2.2.2.2.2.2.2.1, S.2.2.2.2.2.2.2.2.2.2.1, v, S.2.2.2.2.2.2.2.2.2.2.2.2.1, S.2.2.2.2.2.2.2.2.2.2.2.2.2.1, S.2.2.2.2.2.2.2.2.2.2.2.2.2.2)
def sST_coverers (S : ST) (v : (Nat → Int32)) : ST := (S.1, S.2.1, S.2.2.1, S.2.2.2.1, S.2.2.2.2.1, S.2.2.2.2.2.1, S.2.2.2.2.2.2.1, S.2.2.2.2.2.2.2.1, S.2.2.2.2.2.2.2.2.1, S.2.2.2.2.2.2.2.2.2.1, S.2.2.2.2.2.2.2.2.2.2.1, S.2.2.2.2.2.2.2.2.2.2.2.1, v, S.2.2.2.2.2.2.2.2.2.2.2.2.2.1, S.2.2.2.2.2.2.2.2.2.2.2.2.2.2)
def sST_points (S : ST) (v : (Nat → Int32)) : ST := (S.1, S.2.1, S.2.2.1, S.2.2.2.1, S.2.2.2.2.1, S.2.2.2.2.2.1, S.2.2.2.2.2.2.1, S.2.2.2.2.2.2.2.1, S.2.2.2.2.2.2.2.2.1, S.2.2.2.2.2.2.2.2.2.1, S.2.2.2.2.2.2.2.2.2.2.1, S.2.2.2.2.2.2.2.2.2.2.2.1, S.2.2.2.2.2.2.2.2.2.2.2.2.1, v, S.2.2.2.2.2.2.2.2.2.2.2.2.2.2)
def sST_bids (S : ST) (v : (Nat → Int32)) : ST := (S.1, S.2.1, S.2.2.1, S.2.2.2.1, S.2.2.2.2.1, S.2.2.2.2.2.1, S.2.2.2.2.2.2.1, S.2.2.2.2.2.2.2.1, S.2.2.2.2.2.2.2.2.1, S.2.2.2.2.2.2.2.2.2.1, S.2.2.2.2.2.2.2.2.2.2.1, S.2.2.2.2.2.2.2.2.2.2.2.1, S.2.2.2.2.2.2.2.2.2.2.2.2.1, S.2.2.2.2.2.2.2.2.2.2.2.2.2.1, v)
abbrev oST (a : Nat → Nat) (S : ST) : List Value := [.ref (a 1), .int (ST_handedOver S), .int (ST_persons S), .ref (a 2), .ref (a 3), .ref (a 4), .ref (a 5), .ref (a 6), .int (ST_absences S), .ref (a 7), .ref (a 8), .ref (a 9), .ref (a 10), .ref (a 11), .ref (a 12)]
def wST (cI cJ : ClassId) (a : Nat → Nat) (S : ST) : va_W := [(a 0, .inr (1, oST a S)), (a 1, .inl (cI, 3, .inl (ST_settings S))), (a 2, .inl (cJ, 8, .inr (.inl (ST_rosters S)))), (a 3, .inl (cJ, 8, .inr (.inl (ST_away S)))), (a 4, .inl (cJ, 8, .inr (.inl (ST_covering S)))), (a 5, .inl (cI, 8, .inl (ST_meters S))), (a 6, .inl (cI, 8, .inl (ST_turns S))), (a 7, .inl (cI, 30, .inl (ST_absentees S))), (a 8, .inl (cI, 30, .inl (ST_shifts S))), (a 9, .inl (cI, 30, .inl (ST_statuses S))), (a 10, .inl (cI, 30, .inl (ST_coverers S))), (a 11, .inl (cI, 30, .inl (ST_points S))), (a 12, .inl (cI, 240, .inl (ST_bids S)))]
theorem gs_ST_settings (S : ST) (v : (Nat → Int32)) : ST_settings (sST_settings S v) = v := rfl
theorem gs_ST_handedOver (S : ST) (v : Int32) : ST_handedOver (sST_handedOver S v) = v := rfl
theorem gs_ST_persons (S : ST) (v : Int32) : ST_persons (sST_persons S v) = v := rfl
theorem gs_ST_rosters (S : ST) (v : (Nat → Int64)) : ST_rosters (sST_rosters S v) = v := rfl
theorem gs_ST_away (S : ST) (v : (Nat → Int64)) : ST_away (sST_away S v) = v := rfl
theorem gs_ST_covering (S : ST) (v : (Nat → Int64)) : ST_covering (sST_covering S v) = v := rfl
theorem gs_ST_meters (S : ST) (v : (Nat → Int32)) : ST_meters (sST_meters S v) = v := rfl
theorem gs_ST_turns (S : ST) (v : (Nat → Int32)) : ST_turns (sST_turns S v) = v := rfl
theorem gs_ST_absences (S : ST) (v : Int32) : ST_absences (sST_absences S v) = v := rfl
theorem gs_ST_absentees (S : ST) (v : (Nat → Int32)) : ST_absentees (sST_absentees S v) = v := rfl
theorem gs_ST_shifts (S : ST) (v : (Nat → Int32)) : ST_shifts (sST_shifts S v) = v := rfl
theorem gs_ST_statuses (S : ST) (v : (Nat → Int32)) : ST_statuses (sST_statuses S v) = v := rfl
theorem gs_ST_coverers (S : ST) (v : (Nat → Int32)) : ST_coverers (sST_coverers S v) = v := rfl
theorem gs_ST_points (S : ST) (v : (Nat → Int32)) : ST_points (sST_points S v) = v := rfl
theorem gs_ST_bids (S : ST) (v : (Nat → Int32)) : ST_bids (sST_bids S v) = v := rfl
/-! what holds of the machine, apart from the heap: the classes, the array classes, the nest's words -/
abbrev q_tys (cI cJ cS : ClassId) : List (ClassId × FieldType) := [(cI, .int), (cJ, .long), (cS, .object "CoverMeter$State")]
def q_E (D : va_G) (cI cJ cS : ClassId) (U : State) : Prop := va_K D vwCl (q_tys cI cJ cS) U ∧ va_Nw (.methodLinkNest RX1 74 yX2_bidIndex "CoverMeter") U
theorem q_E.warm {D : va_G} {cI cJ cS : ClassId} {s U : State} (hW : s.WarmedH U.vm) (h : q_E D cI cJ cS s) : q_E D cI cJ cS U := ⟨va_K.moved hW.alike h.1, va_Nw.warmM hW h.2⟩
theorem q_E.same {D : va_G} {cI cJ cS : ClassId} {s U : State} (hv : s.vm = U.vm) (h : q_E D cI cJ cS s) : q_E D cI cJ cS U := ⟨va_K.moved (by rw [← hv]; exact Vm.Alike.refl _) h.1, va_Nw.same rfl hv h.2⟩
/-- a reader's start -/
def q_B (D : va_G) (cI cJ cS : ClassId) (w : va_W) (U : State) : Prop := va_P D vwCl w U.heap ∧ q_E D cI cJ cS U
/-- a writer's start -/
def q_BW (D : va_G) (cI cJ cS : ClassId) (w : va_W) (sz : Nat) (U : State) : Prop := U.heap.size = sz ∧ va_P D vwCl w U.heap ∧ q_E D cI cJ cS U ∧ va_D (fun _ => True) w
/-- a reader's end -/
def q_Ri (o : Int32) : Array Value → State → Outcome → State → Prop := fun _ st oc t => oc = .returned (some (.int o)) ∧ t.heap = st.heap
def q_Rd (o : UInt64) : Array Value → State → Outcome → State → Prop := fun _ st oc t => oc = .returned (some (.double o)) ∧ t.heap = st.heap
def q_Rl (o : Int64) : Array Value → State → Outcome → State → Prop := fun _ st oc t => oc = .returned (some (.long o)) ∧ t.heap = st.heap
/-- a writer's end -/
def q_Wo (v : Option Value) (D : va_G) (w w' : va_W) (sz : Nat) : Array Value → State → Outcome → State → Prop := fun _ st oc t => oc = .returned v ∧ (va_P D vwCl w' t.heap ∧ va_D (va_A w sz) w') ∧ va_F (va_A w sz) st t
theorem q_blind {D : va_G} {cI cJ cS : ClassId} {w : va_W} {av : List Value} : FrameBlind (va_Pc av (q_B D cI cJ cS w)) := fun a U g mk q => ⟨q.1, q.2.1, q_E.same (s := U) (U := U.calling g mk a) rfl q.2.2⟩
theorem q_blindW {D : va_G} {cI cJ cS : ClassId} {w : va_W} {sz : Nat} {av : List Value} : FrameBlind (va_Pc av (q_BW D cI cJ cS w sz)) := fun a U g mk q => ⟨q.1, q.2.1, q.2.2.1, q_E.same (s := U) (U := U.calling g mk a) rfl q.2.2.2.1, q.2.2.2.2⟩
section QR
variable {p : Program} {l : Launch} {e : Env} {R : Room} {s : State} {m : MethodId} {args : Array Value} {below : List Frame} {meth : Method} {c : Code} {H : Heap} {locs : List Loc} {cells slots : Nat} {Q : State → Prop}
variable {pc : Nat} {ls : Array Slot} {rest st0 : List Value} {a : Array Value}
theorem q_nmi {x y : Int32} (h : x = y) (k : W p l e R s m args below meth c H locs cells slots Q (F0 m pc ls (.int y :: rest))) : W p l e R s m args below meth c H locs cells slots Q (F0 m pc ls (.int x :: rest)) := by rw [h]; exact k
theorem q_nml {x y : Int64} (h : x = y) (k : W p l e R s m args below meth c H locs cells slots Q (F0 m pc ls (.long y :: rest))) : W p l e R s m args below meth c H locs cells slots Q (F0 m pc ls (.long x :: rest)) := by rw [h]; exact k
theorem q_rdo {o : Value} (hr : va_Run p l e R s m args below meth c H locs cells slots 0 0 (F0 m pc ls st0) rest (fun st oc t => oc = .returned (some o) ∧ t.heap = st.heap) (fun _ => False))
    (kk : W p l e R s m args below meth c H locs cells slots Q (F0 m (pc + 3) ls (o :: rest))) : W p l e R s m args below meth c H locs cells slots Q (F0 m pc ls st0) := by
  intro T hT X
  obtain ⟨v, st₀, t, T', L, h0, X', hL, e1, -, ⟨hv, hh⟩, st⟩ := hr T hT X
  cases hv
  obtain ⟨t2, a1, b1⟩ := kk T' (by rw [e1, hh, h0]) (Stand.forget X' (fun q h => (hL q h).elim))
  exact ⟨t2, st t2 a1, b1⟩
theorem q_wro {v : Option Value} {D : va_G} {w w' : va_W} {A0 : Nat → Prop} {H0 : Heap} {mc ms : Nat} (hr : va_Run p l e R s m args below meth c H locs cells slots mc ms (F0 m pc ls st0) rest (q_Wo v D w w' H.size a) (va_A w H.size)) (hS : va_S A0 H0 H locs) (hF : ∀ q, va_A w H.size q → A0 q)
    (kk : ∀ (H1 : Heap) (locs1 : List Loc), H.size ≤ H1.size → (∀ q : Nat, q < H.size → ¬ va_A w H.size q → H1[q]? = H[q]?) → va_P D vwCl w' H1 → va_D (va_A w H.size) w' → va_S A0 H0 H1 locs1 → W p l e R s m args below meth c H1 locs1 (cells + mc) (slots + ms) Q (F0 m (pc + 3) ls (v.toList ++ rest))) : W p l e R s m args below meth c H locs cells slots Q (F0 m pc ls st0) := by
  intro T hT X
  obtain ⟨v', st₀, t, T', L, h0, X', hL, e1, e2, ⟨hv, ⟨hp, hd⟩, hz, hk⟩, st⟩ := hr T hT X
  cases hv
  rw [h0] at hz hk
  obtain ⟨t2, a1, b1⟩ := kk T'.heap (locs ++ L) (by rw [e1]; exact hz) (fun q h1 h2 => by rw [e1]; exact hk q h1 h2) (by rw [e1]; exact hp) hd
    ⟨Nat.le_trans hS.1 (by rw [e1]; exact hz), fun q h1 h2 => by rw [e1, hk q (Nat.lt_of_lt_of_le h1 hS.1) (fun z => h2 (hF q z))]; exact hS.2.1 q h1 h2, fun q hq => by
      rcases List.mem_append.mp hq with h | h
      · exact hS.2.2 q h
      · exact hF _ (hL q h)⟩ T' rfl X'
  exact ⟨t2, st t2 a1, b1⟩
variable {y : MethodName} {bytes cc : ByteArray} {maxL nL n index mc ms : Nat} {ret : Option FieldType} {ws : List Cond} {rm : Room} {Ts : List Cond} {own C : String} {b : Addr} {As : List Value}
variable {D : va_G} {cI cJ cS : ClassId} {w w' : va_W} {ci : Nat} {fs : List Value} {r : vw_C}
/-- an instance method that reads: an int, a boolean -/
theorem q_rdVi {o : Int32} (hx : p.tables.exec = Jvm.exec) (hb : c.code = cc) (hml : c.maxLocals = nL) (hown : s.vm.findClass own = some m.cls) (hts : ∀ z ∈ Ts, z.before args s = true) (hM : Met l y ws rm (va_Pc (.ref b :: As) (q_B D cI cJ cS w)) (q_Ri o) 0 0 (fun _ => False)) (cw : CallW R s args own r.1 index y bytes maxL ret ws rm 0 0 n)
    (hE : q_E D cI cJ cS s) (hP : va_P D vwCl w H) (hw : w[0]? = some (b, .inr (ci, fs))) (hc : vwCl[ci]? = some r) (hn : As.length = n) (hsize : ls.size = nL) (hst : st0 = As.reverse ++ .ref b :: rest) (hW : (rest.map fun v => v.category).sum ≤ 8) (hdg : decode cc pc = .ok (.invokevirtual index, 3)) (hf : cells + 0 ≤ R.cells ∧ slots + 0 ≤ R.slots)
    (kk : W p l e R s m args below meth c H locs cells slots Q (F0 m (pc + 3) ls (.int o :: rest))) : W p l e R s m args below meth c H locs cells slots Q (F0 m pc ls st0) :=
  q_rdo (va_runV (As := As) (rest := rest) ⟨hx, hb, hml, hown, hts⟩ hM cw ⟨q_blind, va_recv hE.1 hP (ci := ci) (q0 := 0) hc hw, fun U hU hW => ⟨rfl, by rw [hU]; exact hP, q_E.warm hW hE⟩⟩ rfl hn hsize hst (lv_room (pc := pc) (ls := ls) (m := m) (rest := st0) hW) hdg hf) kk
theorem q_rdVl {o : Int64} (hx : p.tables.exec = Jvm.exec) (hb : c.code = cc) (hml : c.maxLocals = nL) (hown : s.vm.findClass own = some m.cls) (hts : ∀ z ∈ Ts, z.before args s = true) (hM : Met l y ws rm (va_Pc (.ref b :: As) (q_B D cI cJ cS w)) (q_Rl o) 0 0 (fun _ => False)) (cw : CallW R s args own r.1 index y bytes maxL ret ws rm 0 0 n)
    (hE : q_E D cI cJ cS s) (hP : va_P D vwCl w H) (hw : w[0]? = some (b, .inr (ci, fs))) (hc : vwCl[ci]? = some r) (hn : As.length = n) (hsize : ls.size = nL) (hst : st0 = As.reverse ++ .ref b :: rest) (hW : (rest.map fun v => v.category).sum ≤ 8) (hdg : decode cc pc = .ok (.invokevirtual index, 3)) (hf : cells + 0 ≤ R.cells ∧ slots + 0 ≤ R.slots)
    (kk : W p l e R s m args below meth c H locs cells slots Q (F0 m (pc + 3) ls (.long o :: rest))) : W p l e R s m args below meth c H locs cells slots Q (F0 m pc ls st0) :=
  q_rdo (va_runV (As := As) (rest := rest) ⟨hx, hb, hml, hown, hts⟩ hM cw ⟨q_blind, va_recv hE.1 hP (ci := ci) (q0 := 0) hc hw, fun U hU hW => ⟨rfl, by rw [hU]; exact hP, q_E.warm hW hE⟩⟩ rfl hn hsize hst (lv_room (pc := pc) (ls := ls) (m := m) (rest := st0) hW) hdg hf) kk
/-- a static one, no cells at all -/
theorem q_rdSi {o : Int32} (hx : p.tables.exec = Jvm.exec) (hb : c.code = cc) (hml : c.maxLocals = nL) (hown : s.vm.findClass own = some m.cls) (hts : ∀ z ∈ Ts, z.before args s = true) (hM : Met l y ws rm (va_Pc As (q_B D cI cJ cS [])) (q_Ri o) 0 0 (fun _ => False)) (cw : CallB R s args own index y bytes maxL ret ws rm 0 0 n ∧ (Cond.static y).before args s = true)
    (hE : q_E D cI cJ cS s) (hn : As.length = n) (hsize : ls.size = nL) (hst : st0 = As.reverse ++ rest) (hW : (rest.map fun v => v.category).sum ≤ 8) (hdg : decode cc pc = .ok (.invokestatic index, 3)) (hf : cells + 0 ≤ R.cells ∧ slots + 0 ≤ R.slots)
    (kk : W p l e R s m args below meth c H locs cells slots Q (F0 m (pc + 3) ls (.int o :: rest))) : W p l e R s m args below meth c H locs cells slots Q (F0 m pc ls st0) :=
  q_rdo (va_runS (As := As) (rest := rest) ⟨hx, hb, hml, hown, hts⟩ hM cw ⟨q_blind, fun U hU hW => ⟨rfl, (fun k q h => by simp at h), q_E.warm hW hE⟩⟩ rfl hn hsize hst (lv_room (pc := pc) (ls := ls) (m := m) (rest := st0) hW) hdg hf) kk
/-- a static one of a nest mate -/
theorem q_rdNi {host : String} {o : Int32} (hx : p.tables.exec = Jvm.exec) (hb : c.code = cc) (hml : c.maxLocals = nL) (hown : s.vm.findClass own = some m.cls) (hts : ∀ z ∈ Ts, z.before args s = true) (hM : Met l y ws rm (va_Pc As (q_B D cI cJ cS [])) (q_Ri o) 0 0 (fun _ => False)) (cw : va_CN R s args own index y host bytes maxL ret ws rm 0 0 n ∧ (Cond.static y).before args s = true ∧ True)
    (hE : q_E D cI cJ cS s) (hn : As.length = n) (hsize : ls.size = nL) (hst : st0 = As.reverse ++ rest) (hW : (rest.map fun v => v.category).sum ≤ 8) (hdg : decode cc pc = .ok (.invokestatic index, 3)) (hf : cells + 0 ≤ R.cells ∧ slots + 0 ≤ R.slots)
    (kk : W p l e R s m args below meth c H locs cells slots Q (F0 m (pc + 3) ls (.int o :: rest))) : W p l e R s m args below meth c H locs cells slots Q (F0 m pc ls st0) :=
  q_rdo (va_runSN (As := As) (rest := rest) ⟨hx, hb, hml, hown, hts⟩ hM cw ⟨q_blind, fun U hU hW => ⟨rfl, (fun k q h => by simp at h), q_E.warm hW hE⟩⟩ rfl hn hsize hst (lv_room (pc := pc) (ls := ls) (m := m) (rest := st0) hW) hdg hf) kk
/-- an instance method that writes its own cells: v is the answer -/
theorem q_wrV {v : Option Value} {A0 : Nat → Prop} {H0 : Heap} (hx : p.tables.exec = Jvm.exec) (hb : c.code = cc) (hml : c.maxLocals = nL) (hown : s.vm.findClass own = some m.cls) (hts : ∀ z ∈ Ts, z.before args s = true) (hM : Met l y ws rm (va_Pc (.ref b :: As) (q_BW D cI cJ cS w H.size)) (q_Wo v D w w' H.size) mc ms (va_A w H.size)) (cw : CallW R s args own r.1 index y bytes maxL ret ws rm mc ms n)
    (hE : q_E D cI cJ cS s) (hP : va_P D vwCl w H) (hD : va_D A0 w) (hS : va_S A0 H0 H locs) (hA : ∀ q, H0.size ≤ q → A0 q) (hw : w[0]? = some (b, .inr (ci, fs))) (hc : vwCl[ci]? = some r) (hn : As.length = n) (hsize : ls.size = nL) (hst : st0 = As.reverse ++ .ref b :: rest) (hW : (rest.map fun v => v.category).sum ≤ 8) (hdg : decode cc pc = .ok (.invokevirtual index, 3)) (hf : cells + mc ≤ R.cells ∧ slots + ms ≤ R.slots)
    (kk : ∀ (H1 : Heap) (locs1 : List Loc), va_P D vwCl w' H1 → va_D A0 w' → va_S A0 H0 H1 locs1 → W p l e R s m args below meth c H1 locs1 (cells + mc) (slots + ms) Q (F0 m (pc + 3) ls (v.toList ++ rest))) : W p l e R s m args below meth c H locs cells slots Q (F0 m pc ls st0) := by
  have hF : ∀ q, va_A w H.size q → A0 q := fun q h => h.elim (fun ⟨k, e9, he⟩ => hD.2 k _ he) (fun h => hA q (Nat.le_trans hS.1 h))
  exact q_wro (va_runV (As := As) (rest := rest) ⟨hx, hb, hml, hown, hts⟩ hM cw ⟨q_blindW, va_recv hE.1 hP (ci := ci) (q0 := 0) hc hw, fun U hU hW => ⟨rfl, by rw [hU], by rw [hU]; exact hP, q_E.warm hW hE, hD.weaken (fun _ _ _ _ => trivial)⟩⟩ rfl hn hsize hst (lv_room (pc := pc) (ls := ls) (m := m) (rest := st0) hW) hdg hf) hS hF
    (fun H1 locs1 _ _ hP1 hD1 hS1 => kk H1 locs1 hP1 (hD1.weaken (fun k q hk h => hF _ h)) hS1)
theorem q_wrVi {o : Int32} {A0 : Nat → Prop} {H0 : Heap} (hx : p.tables.exec = Jvm.exec) (hb : c.code = cc) (hml : c.maxLocals = nL) (hown : s.vm.findClass own = some m.cls) (hts : ∀ z ∈ Ts, z.before args s = true) (hM : Met l y ws rm (va_Pc (.ref b :: As) (q_BW D cI cJ cS w H.size)) (q_Wo (some (.int o)) D w w' H.size) mc ms (va_A w H.size)) (cw : CallW R s args own r.1 index y bytes maxL ret ws rm mc ms n)
    (hE : q_E D cI cJ cS s) (hP : va_P D vwCl w H) (hD : va_D A0 w) (hS : va_S A0 H0 H locs) (hA : ∀ q, H0.size ≤ q → A0 q) (hw : w[0]? = some (b, .inr (ci, fs))) (hc : vwCl[ci]? = some r) (hn : As.length = n) (hsize : ls.size = nL) (hst : st0 = As.reverse ++ .ref b :: rest) (hW : (rest.map fun v => v.category).sum ≤ 8) (hdg : decode cc pc = .ok (.invokevirtual index, 3)) (hf : cells + mc ≤ R.cells ∧ slots + ms ≤ R.slots)
    (kk : ∀ (H1 : Heap) (locs1 : List Loc), va_P D vwCl w' H1 → va_D A0 w' → va_S A0 H0 H1 locs1 → W p l e R s m args below meth c H1 locs1 (cells + mc) (slots + ms) Q (F0 m (pc + 3) ls (.int o :: rest))) : W p l e R s m args below meth c H locs cells slots Q (F0 m pc ls st0) :=
  q_wrV (As := As) (rest := rest) (ci := ci) hx hb hml hown hts hM cw hE hP hD hS hA hw hc hn hsize hst hW hdg hf kk
theorem q_wrVl {o : Int64} {A0 : Nat → Prop} {H0 : Heap} (hx : p.tables.exec = Jvm.exec) (hb : c.code = cc) (hml : c.maxLocals = nL) (hown : s.vm.findClass own = some m.cls) (hts : ∀ z ∈ Ts, z.before args s = true) (hM : Met l y ws rm (va_Pc (.ref b :: As) (q_BW D cI cJ cS w H.size)) (q_Wo (some (.long o)) D w w' H.size) mc ms (va_A w H.size)) (cw : CallW R s args own r.1 index y bytes maxL ret ws rm mc ms n)
    (hE : q_E D cI cJ cS s) (hP : va_P D vwCl w H) (hD : va_D A0 w) (hS : va_S A0 H0 H locs) (hA : ∀ q, H0.size ≤ q → A0 q) (hw : w[0]? = some (b, .inr (ci, fs))) (hc : vwCl[ci]? = some r) (hn : As.length = n) (hsize : ls.size = nL) (hst : st0 = As.reverse ++ .ref b :: rest) (hW : (rest.map fun v => v.category).sum ≤ 8) (hdg : decode cc pc = .ok (.invokevirtual index, 3)) (hf : cells + mc ≤ R.cells ∧ slots + ms ≤ R.slots)
    (kk : ∀ (H1 : Heap) (locs1 : List Loc), va_P D vwCl w' H1 → va_D A0 w' → va_S A0 H0 H1 locs1 → W p l e R s m args below meth c H1 locs1 (cells + mc) (slots + ms) Q (F0 m (pc + 3) ls (.long o :: rest))) : W p l e R s m args below meth c H locs cells slots Q (F0 m pc ls st0) :=
  q_wrV (As := As) (rest := rest) (ci := ci) hx hb hml hown hts hM cw hE hP hD hS hA hw hc hn hsize hst hW hdg hf kk
theorem q_wrVd {o : UInt64} {A0 : Nat → Prop} {H0 : Heap} (hx : p.tables.exec = Jvm.exec) (hb : c.code = cc) (hml : c.maxLocals = nL) (hown : s.vm.findClass own = some m.cls) (hts : ∀ z ∈ Ts, z.before args s = true) (hM : Met l y ws rm (va_Pc (.ref b :: As) (q_BW D cI cJ cS w H.size)) (q_Wo (some (.double o)) D w w' H.size) mc ms (va_A w H.size)) (cw : CallW R s args own r.1 index y bytes maxL ret ws rm mc ms n)
    (hE : q_E D cI cJ cS s) (hP : va_P D vwCl w H) (hD : va_D A0 w) (hS : va_S A0 H0 H locs) (hA : ∀ q, H0.size ≤ q → A0 q) (hw : w[0]? = some (b, .inr (ci, fs))) (hc : vwCl[ci]? = some r) (hn : As.length = n) (hsize : ls.size = nL) (hst : st0 = As.reverse ++ .ref b :: rest) (hW : (rest.map fun v => v.category).sum ≤ 8) (hdg : decode cc pc = .ok (.invokevirtual index, 3)) (hf : cells + mc ≤ R.cells ∧ slots + ms ≤ R.slots)
    (kk : ∀ (H1 : Heap) (locs1 : List Loc), va_P D vwCl w' H1 → va_D A0 w' → va_S A0 H0 H1 locs1 → W p l e R s m args below meth c H1 locs1 (cells + mc) (slots + ms) Q (F0 m (pc + 3) ls (.double o :: rest))) : W p l e R s m args below meth c H locs cells slots Q (F0 m pc ls st0) :=
  q_wrV (As := As) (rest := rest) (ci := ci) hx hb hml hown hts hM cw hE hP hD hS hA hw hc hn hsize hst hW hdg hf kk
theorem q_wrVv {A0 : Nat → Prop} {H0 : Heap} (hx : p.tables.exec = Jvm.exec) (hb : c.code = cc) (hml : c.maxLocals = nL) (hown : s.vm.findClass own = some m.cls) (hts : ∀ z ∈ Ts, z.before args s = true) (hM : Met l y ws rm (va_Pc (.ref b :: As) (q_BW D cI cJ cS w H.size)) (q_Wo none D w w' H.size) mc ms (va_A w H.size)) (cw : CallW R s args own r.1 index y bytes maxL ret ws rm mc ms n)
    (hE : q_E D cI cJ cS s) (hP : va_P D vwCl w H) (hD : va_D A0 w) (hS : va_S A0 H0 H locs) (hA : ∀ q, H0.size ≤ q → A0 q) (hw : w[0]? = some (b, .inr (ci, fs))) (hc : vwCl[ci]? = some r) (hn : As.length = n) (hsize : ls.size = nL) (hst : st0 = As.reverse ++ .ref b :: rest) (hW : (rest.map fun v => v.category).sum ≤ 8) (hdg : decode cc pc = .ok (.invokevirtual index, 3)) (hf : cells + mc ≤ R.cells ∧ slots + ms ≤ R.slots)
    (kk : ∀ (H1 : Heap) (locs1 : List Loc), va_P D vwCl w' H1 → va_D A0 w' → va_S A0 H0 H1 locs1 → W p l e R s m args below meth c H1 locs1 (cells + mc) (slots + ms) Q (F0 m (pc + 3) ls rest)) : W p l e R s m args below meth c H locs cells slots Q (F0 m pc ls st0) :=
  q_wrV (As := As) (rest := rest) (ci := ci) hx hb hml hown hts hM cw hE hP hD hS hA hw hc hn hsize hst hW hdg hf kk
theorem q_wrSi {o : Int32} {A0 : Nat → Prop} {H0 : Heap} (hx : p.tables.exec = Jvm.exec) (hb : c.code = cc) (hml : c.maxLocals = nL) (hown : s.vm.findClass own = some m.cls) (hts : ∀ z ∈ Ts, z.before args s = true) (hM : Met l y ws rm (va_Pc As (q_BW D cI cJ cS w H.size)) (q_Wo (some (.int o)) D w w' H.size) mc ms (va_A w H.size)) (cw : CallB R s args own index y bytes maxL ret ws rm mc ms n ∧ (Cond.static y).before args s = true)
    (hE : q_E D cI cJ cS s) (hP : va_P D vwCl w H) (hD : va_D A0 w) (hS : va_S A0 H0 H locs) (hA : ∀ q, H0.size ≤ q → A0 q) (hn : As.length = n) (hsize : ls.size = nL) (hst : st0 = As.reverse ++ rest) (hW : (rest.map fun v => v.category).sum ≤ 8) (hdg : decode cc pc = .ok (.invokestatic index, 3)) (hf : cells + mc ≤ R.cells ∧ slots + ms ≤ R.slots)
    (kk : ∀ (H1 : Heap) (locs1 : List Loc), va_P D vwCl w' H1 → va_D A0 w' → va_S A0 H0 H1 locs1 → W p l e R s m args below meth c H1 locs1 (cells + mc) (slots + ms) Q (F0 m (pc + 3) ls (.int o :: rest))) : W p l e R s m args below meth c H locs cells slots Q (F0 m pc ls st0) := by
  have hF : ∀ q, va_A w H.size q → A0 q := fun q h => h.elim (fun ⟨k, e9, he⟩ => hD.2 k _ he) (fun h => hA q (Nat.le_trans hS.1 h))
  exact q_wro (va_runS (As := As) (rest := rest) ⟨hx, hb, hml, hown, hts⟩ hM cw ⟨q_blindW, fun U hU hW => ⟨rfl, by rw [hU], by rw [hU]; exact hP, q_E.warm hW hE, hD.weaken (fun _ _ _ _ => trivial)⟩⟩ rfl hn hsize hst (lv_room (pc := pc) (ls := ls) (m := m) (rest := st0) hW) hdg hf) hS hF
    (fun H1 locs1 _ _ hP1 hD1 hS1 => kk H1 locs1 hP1 (hD1.weaken (fun k q hk h => hF _ h)) hS1)
end QR
