/-! p30: from every object that a valid row tells, all is right -/
theorem w_and1 (y : Int64) : y &&& 1 = if b6 y 0 = true then 1 else 0 := by
  apply b6_ext
  intro i hi
  rw [b6_and, b6_one]
  by_cases c : i = 0
  · subst c
    rw [decide_eq_true rfl, Bool.and_true]
    cases e : b6 y 0
    · rw [if_neg (by decide), b6_0]
    · rw [if_pos rfl, b6_one, decide_eq_true rfl]
  · rw [decide_eq_false c, Bool.and_false]
    split
    · rw [b6_one, decide_eq_false c]
    · rw [b6_0]
theorem w_bit (x : Int64) (t : Nat) (ht : t < 64) : ((x >>> ((z32 (t : Nat)).toInt64 &&& 63)) &&& 1) = if b6 x t = true then 1 else 0 := by
  rw [w_and1, b6_sshr t ht x (by omega), show (if t + 0 < 64 then b6 x (t + 0) else b6 x 63) = b6 x t from if_pos (by omega)]
theorem w_ones_4 (w : Int64) : ∀ (n k : Nat), k ≤ 42 → 42 < n + k → f_L_ones_4 n w (z32 (s_cnt (b6 w) k : Nat)) (z32 k) = some (z32 (s_cnt (b6 w) 42 : Nat)) := by
  intro n
  induction n with
  | zero => intro k h1 h2; omega
  | succ n ih =>
    intro k h1 h2
    have L : ((42 : Int32) ≤ z32 (k : Int)) ↔ 42 ≤ k := (z32_le (x := 42) ⟨by omega, by omega⟩ ⟨by omega, by omega⟩).trans (by omega)
    rw [f_L_ones_4]
    by_cases c : 42 ≤ k
    · obtain rfl : k = 42 := by omega
      rw [if_pos (L.mpr c)]
    · rw [if_neg (fun z => c (L.mp z)), w_bit w k (by omega)]
      simp only [z_lets]
      rw [z_inc]
      have e9 : z32 ((s_cnt (b6 w) k : Nat) : Int) + (if b6 w k = true then (1 : Int64) else 0).toInt32 = z32 ((s_cnt (b6 w) (k + 1) : Nat) : Int) := by
        rw [s_cnt]
        cases b6 w k
        · rw [if_neg (by decide), if_neg (by decide), show (0 : Int64).toInt32 = z32 0 by decide, z32_add, Int.add_zero, Nat.add_zero]
        · rw [if_pos rfl, if_pos rfl, show (1 : Int64).toInt32 = z32 1 by decide, z32_add]
          rfl
      rw [e9]
      exact ih (k + 1) (by omega) (by omega)
theorem w_ones (w : Int64) : f_L_ones w = some (z32 (s_cnt (b6 w) 42 : Nat)) := w_ones_4 w 2000 0 (by omega) (by omega)
theorem s_cnt4 {A B C D : Nat → Bool} : ∀ n : Nat, (∀ i, i < n → (if A i = true then 1 else 0) + (if B i = true then 1 else 0) = (if C i = true then 1 else 0) + (if D i = true then 1 else 0 : Nat)) → s_cnt A n + s_cnt B n = s_cnt C n + s_cnt D n := by
  intro n
  induction n with
  | zero => intro _; rfl
  | succ n ih =>
    intro h
    have h1 := ih (fun i hi => h i (by omega))
    have h2 := h n (by omega)
    rw [s_cnt, s_cnt, s_cnt, s_cnt]
    omega
theorem s_cnt3 {A B C : Nat → Bool} : ∀ n : Nat, (∀ i, i < n → (if A i = true then 1 else 0) = (if B i = true then 1 else 0) + (if C i = true then 1 else 0 : Nat)) → s_cnt A n = s_cnt B n + s_cnt C n := by
  intro n
  induction n with
  | zero => intro _; rfl
  | succ n ih =>
    intro h
    have h1 := ih (fun i hi => h i (by omega))
    have h2 := h n (by omega)
    rw [s_cnt, s_cnt, s_cnt]
    omega
theorem s_cnt1 {A B C D : Nat → Bool} : ∀ n : Nat, (∀ i, i < n → (if A i = true then 1 else 0) + (if B i = true then 1 else 0) + (if C i = true then 1 else 0) + (if D i = true then 1 else 0 : Nat) = 1) → s_cnt A n + s_cnt B n + s_cnt C n + s_cnt D n = n := by
  intro n
  induction n with
  | zero => intro _; rfl
  | succ n ih =>
    intro h
    have h1 := ih (fun i hi => h i (by omega))
    have h2 := h n (by omega)
    rw [s_cnt, s_cnt, s_cnt, s_cnt]
    omega
theorem s_sum_0 : ∀ n : Nat, s_sum (fun _ => 0) n = 0 := by
  intro n
  induction n with
  | zero => rfl
  | succ n ih => rw [s_sum, ih]; rfl
theorem w_cnt_sum (kf : Nat → Int) {P : Nat} : ∀ n : Nat, (∀ a, a < n → kf a < P) → s_sum (fun p => ((s_cnt (fun a => decide (kf a = (p : Int))) n : Nat) : Int)) P = ((s_cnt (fun a => decide (0 ≤ kf a)) n : Nat) : Int) := by
  intro n
  induction n with
  | zero => intro _; exact s_sum_0 P
  | succ n ih =>
    intro h
    have h1 := ih (fun a ha => h a (by omega))
    have h2 := h n (by omega)
    by_cases c : 0 ≤ kf n
    · obtain ⟨q, hq⟩ : ∃ q : Nat, kf n = q := ⟨(kf n).toNat, by omega⟩
      have e : s_sum (fun p => ((s_cnt (fun a => decide (kf a = (p : Int))) (n + 1) : Nat) : Int)) P = s_sum (fun p => (fun p : Nat => ((s_cnt (fun a => decide (kf a = (p : Int))) n : Nat) : Int)) p + (if p = q then 1 else 0)) P := by
        apply s_sum_congr
        intro p _
        show ((s_cnt (fun a => decide (kf a = (p : Int))) n + (if decide (kf n = (p : Int)) = true then 1 else 0) : Nat) : Int) = _
        by_cases d : p = q
        · rw [if_pos (decide_eq_true (by omega)), if_pos d]; rfl
        · rw [if_neg (by rw [decide_eq_true_iff]; omega), if_neg d, Int.add_zero]; rfl
      rw [e, w_sum_pt, h1, if_pos (by omega)]
      rw [s_cnt, if_pos (decide_eq_true c)]
      omega
    · have e : s_sum (fun p => ((s_cnt (fun a => decide (kf a = (p : Int))) (n + 1) : Nat) : Int)) P = s_sum (fun p => ((s_cnt (fun a => decide (kf a = (p : Int))) n : Nat) : Int)) P := by
        apply s_sum_congr
        intro p _
        show ((s_cnt (fun a => decide (kf a = (p : Int))) n + (if decide (kf n = (p : Int)) = true then 1 else 0) : Nat) : Int) = _
        rw [if_neg (by rw [decide_eq_true_iff]; omega)]
        rfl
      rw [e, h1, s_cnt, if_neg (by rw [decide_eq_true_iff]; exact c)]
      rfl
section WR
variable {K : Int} {r : Int → Int}
theorem w_work (hv : v_x K r) (h : w_rs r) {p : Nat} (hp : (p : Int) < r 3) : s_cnt (s_wkN r p) 42 + s_cnt (s_eqN r p 0) (r 4).toNat = s_cnt (s_rsN r p) 42 + s_cnt (s_eqN r p 3) (r 4).toNat := by
  rw [← s_absN hv p, ← s_cvsN hv (p := p) (by omega)]
  apply s_cnt4
  intro t ht
  have g := h p t (by omega) hp (by omega) (by omega)
  unfold s_wkN s_rsN s_wrk
  rw [decide_eq_true (show 0 ≤ (t : Int) ∧ (t : Int) ≤ 41 by omega), Bool.true_and]
  cases e1 : s_abs r p t <;> cases e2 : s_ros r p t <;> cases e3 : s_cvs r p t <;> simp_all
theorem w_absents (hv : v_x K r) : s_sum (fun p => ((s_cnt (s_eqN r p 0) (r 4).toNat : Nat) : Int)) (r 3).toNat = r 4 := by
  have h4 := hv.1.1.2.1
  have e := w_cnt_sum (fun a => r (30 + 13 * (a : Int) + 0)) (P := (r 3).toNat) (r 4).toNat (fun a ha => by have := (hv.1.2.2.1 a ⟨by omega, by omega⟩).1; omega)
  have e2 : s_cnt (fun a : Nat => decide (0 ≤ r (30 + 13 * (a : Int) + 0))) (r 4).toNat = (r 4).toNat := by
    have e3 : ∀ n : Nat, n ≤ (r 4).toNat → s_cnt (fun a : Nat => decide (0 ≤ r (30 + 13 * (a : Int) + 0))) n = n := by
      intro n
      induction n with
      | zero => intro _; rfl
      | succ n ih =>
        intro hn
        have := (hv.1.2.2.1 n ⟨by omega, by omega⟩).1
        rw [s_cnt, ih (by omega), if_pos (decide_eq_true this.1)]
    exact e3 _ (Nat.le_refl _)
  rw [e2] at e
  refine e.trans ?_
  omega
theorem w_covers (hv : v_x K r) : s_sum (fun p => ((s_cnt (s_eqN r p 3) (r 4).toNat : Nat) : Int)) (r 3).toNat = ((s_cnt (s_eqN r 1 2) (r 4).toNat : Nat) : Int) + ((s_cnt (s_eqN r 2 2) (r 4).toNat : Nat) : Int) := by
  have h3 := hv.1.1.1
  have h4 := hv.1.1.2.1
  have e := w_cnt_sum (fun a => r (30 + 13 * (a : Int) + 3)) (P := (r 3).toNat) (r 4).toNat (fun a ha => by
    have g := hv.2.2.1 a ⟨by omega, by omega⟩
    by_cases c : s_ct r a
    · have := g.2.1 c
      omega
    · have := (g.2.2.1 c).1
      show r (30 + 13 * (a : Int) + 3) < _
      omega)
  refine e.trans ?_
  have e2 : s_cnt (fun a : Nat => decide (0 ≤ r (30 + 13 * (a : Int) + 3))) (r 4).toNat = s_cnt (s_eqN r 1 2) (r 4).toNat + s_cnt (s_eqN r 2 2) (r 4).toNat := by
    apply s_cnt3
    intro a ha
    have g := hv.2.2.1 a ⟨by omega, by omega⟩
    unfold s_eqN
    by_cases c : s_ct r a
    · have g1 := (g.2.1 c).1
      rw [if_pos (decide_eq_true g1)]
      rcases c with c | c
      · rw [if_pos (decide_eq_true c), if_neg (by rw [decide_eq_true_iff]; omega)]
      · rw [if_neg (by rw [decide_eq_true_iff]; omega), if_pos (decide_eq_true c)]
    · have g1 := (g.2.2.1 c).1
      rw [if_neg (by rw [decide_eq_true_iff]; omega), if_neg (by rw [decide_eq_true_iff]; exact fun z => c (.inl z)), if_neg (by rw [decide_eq_true_iff]; exact fun z => c (.inr z))]
  rw [e2]
  rfl
theorem w_states (hv : v_x K r) : s_cnt (s_eqN r 0 2) (r 4).toNat + s_cnt (s_eqN r 1 2) (r 4).toNat + s_cnt (s_eqN r 2 2) (r 4).toNat + s_cnt (s_eqN r 3 2) (r 4).toNat = (r 4).toNat := by
  apply s_cnt1
  intro a ha
  have h4 := hv.1.1.2.1
  have g := (hv.2.2.1 a ⟨by omega, by omega⟩).1
  unfold s_eqN
  rcases (show r (30 + 13 * (a : Int) + 2) = 0 ∨ r (30 + 13 * (a : Int) + 2) = 1 ∨ r (30 + 13 * (a : Int) + 2) = 2 ∨ r (30 + 13 * (a : Int) + 2) = 3 by omega) with e | e | e | e <;> rw [e] <;> rfl
variable {S : CM}
theorem w_isRight (hx : x_rel (CM_now S) r) (hv : v_x K r) (h : w_rs r) {a : Nat} (ha : (a : Int) < r 4) : f_L_isAbsenceRight S (z32 a) = some 1 := by
  have h3 := hv.1.1.1
  have h4 := hv.1.1.2.1
  have hr2 := hv.1.2.2.1 a ⟨by omega, ha⟩
  have g := hv.2.2.1 a ⟨by omega, ha⟩
  have gs := g.1
  have gp := g.2.2.2.1
  obtain ⟨p, hp⟩ : ∃ q : Nat, r (30 + 13 * (a : Int) + 0) = q := ⟨(r (30 + 13 * (a : Int) + 0)).toNat, by omega⟩
  obtain ⟨t, ht⟩ : ∃ q : Nat, r (30 + 13 * (a : Int) + 1) = q := ⟨(r (30 + 13 * (a : Int) + 1)).toNat, by omega⟩
  have e0 : f_O_absence S (z32 a) 0 = some (z32 (p : Int)) := by
    rw [show (0 : Int32) = z32 0 from rfl, o_absence hx hv ha (by omega), ← hp]
    exact congrArg some (if_pos (by decide))
  have e1 : f_O_absence S (z32 a) 1 = some (z32 (t : Int)) := by
    rw [show (1 : Int32) = z32 1 from rfl, o_absence hx hv ha (by omega), ← ht]
    exact congrArg some (if_pos (by decide))
  have e2 : f_O_absence S (z32 a) 2 = some (z32 (r (30 + 13 * (a : Int) + 2))) := by
    rw [show (2 : Int32) = z32 2 from rfl, o_absence hx hv ha (by omega)]
    exact congrArg some (if_pos (by decide))
  have e3 : f_O_absence S (z32 a) 3 = some (z32 (r (30 + 13 * (a : Int) + 3))) := by
    rw [show (3 : Int32) = z32 3 from rfl, o_absence hx hv ha (by omega)]
    exact congrArg some (if_pos (by decide))
  have e4 : f_O_absence S (z32 a) 4 = some (z32 (r (30 + 13 * (a : Int) + 4))) := by
    rw [show (4 : Int32) = z32 4 from rfl, o_absence hx hv ha (by omega)]
    exact congrArg some (if_pos (by decide))
  have e5 : r (30 + 13 * (a : Int) + 2) ≠ 0 → f_O_absence S (z32 a) 5 = some 0 := by
    intro hn
    rw [show (5 : Int32) = z32 5 from rfl, o_absence hx hv ha (by omega)]
    have z : s_cnt (s_nb8 r a) 8 = 0 := s_cnt_zero (fun i hi => by
      unfold s_nb8
      rw [((g.2.2.2.2 i ⟨by omega, by omega⟩).2.2 hn)]
      rfl)
    show some (if (5 : Int) < 5 then _ else if (5 : Int) = 5 then z32 ((s_cnt (s_nb8 r a) 8 : Nat) : Int) else _) = _
    rw [if_neg (by decide), if_pos rfl, z]
    rfl
  have habs : s_abs r p t = true := (s_abs_t h4.1).mpr ⟨a, by omega, ha, hp, ht⟩
  have gr := h p t (by omega) (by omega) (by omega) (by omega)
  have hros := gr.1 habs
  have hncv : s_cvs r p t = false := by
    cases e : s_cvs r p t
    · rfl
    · rw [gr.2 e] at hros; cases hros
  obtain ⟨w, hw1, hw2⟩ := o_work1 hx hv (p := p) (by omega)
  have b0 : ((w >>> ((z32 (t : Nat)).toInt64 &&& 63)) &&& 1) = 0 := by
    rw [w_bit w t (by omega), if_neg]
    rw [hw2 t (by omega)]
    unfold s_wrk
    rw [habs, hncv, decide_eq_true (show 0 ≤ (t : Int) ∧ (t : Int) ≤ 41 by omega)]
    simp
  have c0 : lg_cmp ((w >>> ((z32 (t : Nat)).toInt64 &&& 63)) &&& 1) 0 = 0 := by
    rw [b0]
    exact (lg_cmp_eq _ _).mpr rfl
  have p61 : ∀ (l3 l4 l5 t0 : Int32), f_L_isAbsenceRight_61 S (z32 a) (z32 (t : Int)) l3 l4 l5 t0 t0 = f_L_isAbsenceRight_88 S (z32 a) (z32 (t : Int)) l3 l4 l5 1 := by
    intro l3 l4 l5 t0
    unfold f_L_isAbsenceRight_61
    rw [if_neg (fun z => z rfl), e0, z_some, hw1, z_some, if_neg (fun z => z c0)]
  unfold f_L_isAbsenceRight
  rw [e1, z_some, e2, z_some, e3, z_some]
  by_cases c : s_ct r a
  · have hc := g.2.1 c
    have hst : r (30 + 13 * (a : Int) + 2) ≠ 0 := by
      rcases c with c | c <;> omega
    obtain ⟨q, hq⟩ : ∃ q : Nat, r (30 + 13 * (a : Int) + 3) = q := ⟨(r (30 + 13 * (a : Int) + 3)).toNat, by omega⟩
    have hcv : s_cvs r q t = true := (s_cvs_t h4.1).mpr ⟨a, by omega, ha, c, hq, ht⟩
    have hne : q ≠ p := fun z => by
      rw [z, hncv] at hcv
      cases hcv
    obtain ⟨wc, hc1, hc2⟩ := o_work1 hx hv (p := q) (by omega)
    have b1 : ((wc >>> ((z32 (t : Nat)).toInt64 &&& 63)) &&& 1) = 1 := by
      rw [w_bit wc t (by omega), if_pos]
      rw [hc2 t (by omega)]
      unfold s_wrk
      rw [hcv, decide_eq_true (show 0 ≤ (t : Int) ∧ (t : Int) ≤ 41 by omega), Bool.or_true]
      rfl
    have c1 : lg_cmp ((wc >>> ((z32 (t : Nat)).toInt64 &&& 63)) &&& 1) 1 = 0 := by
      rw [b1]
      exact (lg_cmp_eq _ _).mpr rfl
    have n1 : ¬ z32 (q : Int) = -1 := fun z => by
      rw [show (-1 : Int32) = z32 (-1) by decide] at z
      have := (z32_eq ⟨by omega, by omega⟩ ⟨by omega, by omega⟩).mp z
      omega
    have n2 : ¬ z32 (q : Int) = z32 (p : Int) := fun z => by
      have := (z32_eq ⟨by omega, by omega⟩ ⟨by omega, by omega⟩).mp z
      omega
    have n3 : ¬ z32 (r (30 + 13 * (a : Int) + 2)) < 0 := fun z => by
      have := (z32_lt (y := 0) ⟨by omega, by omega⟩ ⟨by omega, by omega⟩).mp z
      omega
    have n4 : ¬ 4 ≤ z32 (r (30 + 13 * (a : Int) + 2)) := fun z => by
      have := (z32_le (x := 4) ⟨by omega, by omega⟩ ⟨by omega, by omega⟩).mp z
      omega
    have n5 : ¬ z32 (r (30 + 13 * (a : Int) + 2)) = 0 := fun z => by
      have := (z32_eq (y := 0) ⟨by omega, by omega⟩ ⟨by omega, by omega⟩).mp z
      omega
    have p37 : f_L_isAbsenceRight_37 S (z32 a) (z32 (t : Int)) (z32 (r (30 + 13 * (a : Int) + 2))) (z32 (q : Int)) 1 = some 1 := by
      unfold f_L_isAbsenceRight_37
      rw [if_neg n3, if_neg n4, if_neg n1, p61]
      unfold f_L_isAbsenceRight_88
      rw [if_neg (by decide), if_neg (by decide), hc1, z_some, if_neg (fun z => z c1), e0, z_some, if_neg n2]
      unfold f_L_isAbsenceRight_131
      rw [if_neg (by decide), if_neg n5, e5 hst, z_some, if_neg (fun z => z rfl)]
      unfold f_L_isAbsenceRight_151
      rw [if_pos (by decide)]
    rw [hq, p37]
    rcases c with c | c
    · rw [c, if_pos (by decide)]
    · rw [c, if_neg (by decide), if_neg (fun z => z (by decide))]
  · have hc := g.2.2.1 c
    have m1 : ¬ z32 (r (30 + 13 * (a : Int) + 2)) = 1 := fun z => by
      have := (z32_eq (y := 1) ⟨by omega, by omega⟩ ⟨by omega, by omega⟩).mp z
      exact c (.inl this)
    have m2 : ¬ z32 (r (30 + 13 * (a : Int) + 2)) = 2 := fun z => by
      have := (z32_eq (y := 2) ⟨by omega, by omega⟩ ⟨by omega, by omega⟩).mp z
      exact c (.inr this)
    have n3 : ¬ z32 (r (30 + 13 * (a : Int) + 2)) < 0 := fun z => by
      have := (z32_lt (y := 0) ⟨by omega, by omega⟩ ⟨by omega, by omega⟩).mp z
      omega
    have n4 : ¬ 4 ≤ z32 (r (30 + 13 * (a : Int) + 2)) := fun z => by
      have := (z32_le (x := 4) ⟨by omega, by omega⟩ ⟨by omega, by omega⟩).mp z
      omega
    have p151 : f_L_isAbsenceRight_151 S (z32 a) 0 = some 1 := by
      unfold f_L_isAbsenceRight_151
      rw [if_neg (fun z => z rfl), e4, z_some, hc.2, if_neg (fun z => z rfl)]
    rw [if_neg m1, if_pos m2, hc.1]
    unfold f_L_isAbsenceRight_37
    rw [if_neg n3, if_neg n4, if_pos (show z32 (-1) = -1 by decide), p61]
    unfold f_L_isAbsenceRight_88
    rw [if_neg (by decide), if_pos rfl]
    unfold f_L_isAbsenceRight_131
    rw [if_neg (by decide)]
    by_cases d : z32 (r (30 + 13 * (a : Int) + 2)) = 0
    · rw [if_pos d, p151]
    · rw [if_neg d, e5 (fun z => d (by rw [z]; rfl)), z_some, if_neg (fun z => z rfl), p151]
end WR
