/-! p30: the whole look at an object -/
section WA
variable {K : Int} {r : Int → Int} {S : CM}
def w_m (r : Int → Int) (p : Nat) : Int := r (6 + 3 * (p : Int) + 1)
def w_ab (r : Int → Int) (p : Nat) : Int := ((s_cnt (s_eqN r p 0) (r 4).toNat : Nat) : Int)
def w_cv (r : Int → Int) (p : Nat) : Int := ((s_cnt (s_eqN r p 3) (r 4).toNat : Nat) : Int)
theorem w_val (hx : x_rel (CM_now S) r) (hv : v_x K r) : f_O_value S 0 = some (z32 (r 3)) ∧ f_O_value S 1 = some (z32 (r 4)) ∧ f_O_value S 2 = some (z32 (s_cnt (s_eqN r 0 2) (r 4).toNat : Nat)) ∧ f_O_value S 3 = some (z32 (s_cnt (s_eqN r 1 2) (r 4).toNat : Nat)) ∧ f_O_value S 4 = some (z32 (s_cnt (s_eqN r 2 2) (r 4).toNat : Nat)) ∧ f_O_value S 5 = some (z32 (s_cnt (s_eqN r 3 2) (r 4).toNat : Nat)) :=
  ⟨o_value hx hv (k := 0) (by omega), o_value hx hv (k := 1) (by omega), o_value hx hv (k := 2) (by omega), o_value hx hv (k := 3) (by omega), o_value hx hv (k := 4) (by omega), o_value hx hv (k := 5) (by omega)⟩
theorem w_158 (hx : x_rel (CM_now S) r) (hv : v_x K r) : f_L_areRight_158 S (z64 0) (z32 (r 4)) (z32 (((s_cnt (s_eqN r 1 2) (r 4).toNat : Nat) : Int) + ((s_cnt (s_eqN r 2 2) (r 4).toNat : Nat) : Int))) 1 = some 1 := by
  obtain ⟨-, v1, v2, v3, v4, v5⟩ := w_val hx hv
  have h4 := hv.1.1.2.1
  have hs := w_states hv
  have e : (((s_cnt (s_eqN r 0 2) (r 4).toNat : Nat) : Int) + ((s_cnt (s_eqN r 1 2) (r 4).toNat : Nat) : Int) + ((s_cnt (s_eqN r 2 2) (r 4).toNat : Nat) : Int) + ((s_cnt (s_eqN r 3 2) (r 4).toNat : Nat) : Int)) = r 4 := by omega
  unfold f_L_areRight_158
  rw [v2, z_some, v3, z_some, v4, z_some, v5, z_some, v1, z_some, z32_add, z32_add, z32_add, e, if_neg (fun z => z rfl), z_some, z_some, z32_add, if_neg (fun z => z rfl)]
  unfold f_L_areRight_210
  rw [if_neg (by decide), if_neg (fun z => z ((lg_cmp_eq _ _).mpr rfl)), v1, z_some, if_neg (fun z => z rfl), if_neg (by decide)]
theorem w_129 (hx : x_rel (CM_now S) r) (hv : v_x K r) (h : w_rs r) (l1 : Int64) (l3 l4 : Int32) {N : Nat} (hN : r 4 = N ∧ N ≤ 30) (hend : f_L_areRight_158 S l1 l3 l4 1 = some 1) : ∀ (n k : Nat), k ≤ N → N < n + k → f_L_areRight_129 S n l1 l3 l4 1 (z32 k) = some 1 := by
  intro n
  induction n with
  | zero => intro k h1 h2; omega
  | succ n ih =>
    intro k h1 h2
    have L : (z32 (N : Int) ≤ z32 (k : Int)) ↔ N ≤ k := (z32_le ⟨by omega, by omega⟩ ⟨by omega, by omega⟩).trans (by omega)
    rw [f_L_areRight_129, (w_val hx hv).2.1, z_some, hN.1]
    by_cases c : N ≤ k
    · rw [if_pos (L.mpr c)]
      exact hend
    · rw [if_neg (fun z => c (L.mp z)), if_neg (by decide), w_isRight hx hv h (by omega), z_some]
      simp only [z_lets]
      rw [z_inc]
      exact ih (k + 1) (by omega) (by omega)
theorem w_13 (hx : x_rel (CM_now S) r) (hv : v_x K r) (hK : K < 800000000) (h : w_rs r) (h0 : w_sum r = 0) {P : Nat} (hP : r 3 = P ∧ P ≤ 8) : ∀ (n k : Nat), k ≤ P → P < n + k → f_L_areRight_13 S n (z64 (s_sum (w_m r) k)) (z32 (s_sum (w_ab r) k)) (z32 (s_sum (w_cv r) k)) 1 (z32 k) = some 1 := by
  have h4 := hv.1.1.2.1
  intro n
  induction n with
  | zero => intro k h1 h2; omega
  | succ n ih =>
    intro k h1 h2
    have L : (z32 (P : Int) ≤ z32 (k : Int)) ↔ P ≤ k := (z32_le ⟨by omega, by omega⟩ ⟨by omega, by omega⟩).trans (by omega)
    rw [f_L_areRight_13, (w_val hx hv).1, z_some, hP.1]
    by_cases c : P ≤ k
    · obtain rfl : k = P := by omega
      rw [if_pos (L.mpr c)]
      have a1 : s_sum (w_m r) k = 0 := by
        have : w_sum r = s_sum (w_m r) (r 3).toNat := rfl
        rw [h0, hP.1, Int.toNat_natCast] at this
        exact this.symm
      have a2 : s_sum (w_ab r) k = r 4 := by
        have := w_absents hv
        rw [hP.1, Int.toNat_natCast] at this
        exact this
      have a3 : s_sum (w_cv r) k = ((s_cnt (s_eqN r 1 2) (r 4).toNat : Nat) : Int) + ((s_cnt (s_eqN r 2 2) (r 4).toNat : Nat) : Int) := by
        have := w_covers hv
        rw [hP.1, Int.toNat_natCast] at this
        exact this
      rw [a1, a2, a3]
      exact w_129 hx hv h _ _ _ (N := (r 4).toNat) (by omega) (w_158 hx hv) 2000 0 (by omega) (by omega)
    · have hk : (k : Int) < r 3 := by omega
      obtain ⟨w, hw1, hw2⟩ := o_work1 hx hv hk
      have q3 : f_O_person S (z32 (k : Int)) 3 = some (z32 (w_m r k)) := o_person hx hv hk (k := 3) (by omega)
      have q1 : f_O_person S (z32 (k : Int)) 1 = some (z32 (w_ab r k)) := o_person hx hv hk (k := 1) (by omega)
      have q2 : f_O_person S (z32 (k : Int)) 2 = some (z32 (w_cv r k)) := o_person hx hv hk (k := 2) (by omega)
      have q5 : f_O_person S (z32 (k : Int)) 5 = some (z32 (s_cnt (s_wkN r k) 42 : Nat)) := o_person hx hv hk (k := 5) (by omega)
      have q0 : f_O_person S (z32 (k : Int)) 0 = some (z32 (s_cnt (s_rsN r k) 42 : Nat)) := o_person hx hv hk (k := 0) (by omega)
      have ew : s_cnt (b6 w) 42 = s_cnt (s_wkN r k) 42 := s_cnt_congr (fun i hi => hw2 i (by omega))
      have hb := (hv.2.1.1 k ⟨by omega, hk⟩).1
      have hwk := w_work hv h hk
      have e5 : ((s_cnt (s_rsN r k) 42 : Nat) : Int) - w_ab r k + w_cv r k = ((s_cnt (s_wkN r k) 42 : Nat) : Int) := by
        unfold w_ab w_cv
        omega
      have em : z64 (s_sum (w_m r) k) + (z32 (w_m r k)).toInt64 = z64 (s_sum (w_m r) (k + 1)) := by
        rw [z32_to64 (by unfold w_m; omega), z64_add]
        rfl
      rw [if_neg (fun z => c (L.mp z)), if_neg (by decide), q3, z_some]
      simp only [z_lets]
      rw [q1, z_some, q2, z_some, q5, z_some, hw1, z_some, w_ones, z_some, ew, if_neg (fun z => z rfl), z_some, q0, z_some, z_some, z_some, z32_sub, z32_add, e5, if_neg (fun z => z rfl), em, z32_add, z32_add, z_inc]
      exact ih (k + 1) (by omega) (by omega)
theorem w_areRight (hx : x_rel (CM_now S) r) (hv : v_x K r) (hK : K < 800000000) (h : w_rs r) (h0 : w_sum r = 0) : f_L_areRight S = some 1 := by
  have h3 := hv.1.1.1
  exact w_13 hx hv hK h h0 (P := (r 3).toNat) (by omega) 2000 0 (by omega) (by omega)
end WA
