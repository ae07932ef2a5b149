/-! the open absences as a list; what the class answers -/
def g_op (r : Int → Int) : Nat → Nat → List Nat
  | 0, _ => []
  | k + 1, st => if r (30 + 13 * (st : Int) + 2) = 0 then st :: g_op r k (st + 1) else g_op r k (st + 1)
theorem g_list_skip {r : Int → Int} {st : Nat} (h : r (30 + 13 * (st : Int) + 2) ≠ 0) : ∀ {os : List Nat}, g_list r (st + 1) os → g_list r st os
  | [], hl => fun a h1 h2 => by
    have hl : ∀ a : Nat, st + 1 ≤ a → (a : Int) < r 4 → r (30 + 13 * (a : Int) + 2) ≠ 0 := hl
    by_cases c : a = st
    · rw [c]; exact h
    · exact hl a (by omega) h2
  | a :: os, hl => by
    obtain ⟨l1, l2, l3, l4, l5⟩ := hl
    refine ⟨by omega, l2, l3, fun b b1 b2 => ?_, l5⟩
    by_cases c : b = st
    · rw [c]; exact h
    · exact l4 b (by omega) b2
theorem g_op_list (r : Int → Int) {N : Nat} (hN : r 4 = N) : ∀ (k st : Nat), st + k = N → g_list r st (g_op r k st)
  | 0, st, h => fun a h1 h2 => absurd h2 (by omega)
  | k + 1, st, h => by
    have ih := g_op_list r hN k (st + 1) (by omega)
    rw [g_op]
    by_cases c : r (30 + 13 * (st : Int) + 2) = 0
    · rw [if_pos c]
      exact ⟨Nat.le_refl _, by omega, c, fun b b1 b2 => absurd b1 (by omega), ih⟩
    · rw [if_neg c]
      exact g_list_skip c ih
theorem g_op_len (r : Int → Int) : ∀ (k st : Nat), (g_op r k st).length + s_cnt (s_eqN r 0 2) st = s_cnt (s_eqN r 0 2) (st + k)
  | 0, st => Nat.zero_add _
  | k + 1, st => by
    have ih := g_op_len r k (st + 1)
    have e : s_cnt (s_eqN r 0 2) (st + 1) = s_cnt (s_eqN r 0 2) st + (if s_eqN r 0 2 st = true then 1 else 0) := rfl
    rw [e, show st + 1 + k = st + (k + 1) by omega] at ih
    rw [g_op]
    by_cases c : r (30 + 13 * (st : Int) + 2) = 0
    · rw [if_pos c, List.length_cons]
      rw [show s_eqN r 0 2 st = true from decide_eq_true c, if_pos rfl] at ih
      omega
    · rw [if_neg c]
      rw [show s_eqN r 0 2 st = false from decide_eq_false c, if_neg (by decide)] at ih
      omega
theorem g_rel_0 {T : ST} {r : Int → Int} (hx : x_rel T r) : g_rel T r [] := ⟨ST_covering T, hx, fun p hp i hi => by
  rw [(hx.2.2.2.2.1 p hp).2.2.2.2 i hi]
  exact (Bool.or_false _).symm⟩
theorem g_class {K : Int} {S : CM} {r : Int → Int} (hx : x_rel (CM_now S) r) (hv : v_x K r) {P N : Nat} (hP : r 3 = P ∧ P ≤ 8) (hN : r 4 = N ∧ N ≤ 30) : ∃ T, f_X2_mostCovered S = some (if (g_op r N 0).length ≤ 5 then z32 (g_best r P (g_op r N 0) [] : Nat) else -1, sCM_trial S T) := by
  have hl := g_op_len r N 0
  have hl : (g_op r N 0).length + 0 = s_cnt (s_eqN r 0 2) (0 + N) := hl
  rw [Nat.add_zero, Nat.zero_add] at hl
  have hb := s_cnt_le (s_eqN r 0 2) N
  have e1 : f_X1_countOf (CM_now S) 0 = some (z32 ((g_op r N 0).length : Nat)) := by
    have h := x_countOf hx hv.1.1 (st := 0) (by omega)
    rw [hl, show N = (r 4).toNat by omega]
    exact h
  unfold f_X2_mostCovered
  have L : (z32 ((g_op r N 0).length : Nat) ≤ 5) ↔ (g_op r N 0).length ≤ 5 := (z32_le (y := 5) ⟨by omega, by omega⟩ ⟨by omega, by omega⟩).trans (by omega)
  rw [e1, z_some]
  by_cases c : (g_op r N 0).length ≤ 5
  · have e2 : f_X2_mostFrom 8 (cp_ST (CM_trial S) (CM_now S)) 0 (z32 ((g_op r N 0).length : Nat)) = some (z32 (g_best r P (g_op r N 0) [] : Nat), cp_ST (CM_trial S) (CM_now S)) := g_from hv hP (g_op r N 0) 8 _ [] 0 (by omega) (by omega) (by omega) (g_op_list r hN.1 N 0 (by omega)) (g_rel_0 (x_rel_cp hx hv.1)) (fun q hq => by cases hq)
    refine ⟨cp_ST (CM_trial S) (CM_now S), ?_⟩
    rw [if_pos (L.mpr c), if_pos c, z_lets]
    show ((f_X2_mostFrom 8 (cp_ST (CM_trial S) (CM_now S)) 0 (z32 ((g_op r N 0).length : Nat))).bind _) = _
    rw [e2, z_some]
    rfl
  · refine ⟨CM_trial S, ?_⟩
    rw [if_neg (fun z => c (L.mp z)), if_neg c]
    rfl
