/-! p30: the sum of the meters, and that no row behind a call changes it -/
theorem w_sum_pt (f : Nat → Int) (a : Nat) (x : Int) : ∀ n, s_sum (fun q => f q + (if q = a then x else 0)) n = s_sum f n + (if a < n then x else 0) := by
  intro n
  induction n with
  | zero => rw [if_neg (Nat.not_lt_zero a)]; rfl
  | succ n ih =>
    rw [s_sum, s_sum, ih]
    by_cases c : n = a
    · rw [if_pos c, if_neg (by omega), if_pos (by omega)]; omega
    · rw [if_neg c]
      by_cases d : a < n
      · rw [if_pos d, if_pos (by omega)]; omega
      · rw [if_neg d, if_neg (by omega)]; omega
theorem w_sum_mv (f : Nat → Int) (a b : Nat) (x : Int) {n : Nat} (ha : a < n) (hb : b < n) : s_sum (fun q => f q + (if q = a then x else 0) - (if q = b then x else 0)) n = s_sum f n := by
  have e : s_sum (fun q => f q + (if q = a then x else 0) - (if q = b then x else 0)) n = s_sum (fun q => (fun q => f q + (if q = a then x else 0)) q + (if q = b then -x else 0)) n := by
    apply s_sum_congr
    intro i _
    by_cases c : i = b
    · simp only [if_pos c]; omega
    · simp only [if_neg c]; omega
  rw [e, w_sum_pt, w_sum_pt, if_pos ha, if_pos hb]
  omega
/-- the sum of all meters -/
def w_sum (r : Int → Int) : Int := s_sum (fun p => r (6 + 3 * (p : Int) + 1)) (r 3).toNat
theorem w_sum_low {r r' : Int → Int} (h3 : r' 3 = r 3) (h : ∀ p : Nat, (p : Int) < r 3 → r' (6 + 3 * (p : Int) + 1) = r (6 + 3 * (p : Int) + 1)) : w_sum r' = w_sum r := by
  unfold w_sum
  rw [h3]
  exact s_sum_congr (fun i hi => h i (by omega))
theorem w_sum_up {r : Int → Int} {k z : Int} (hk : k ≠ 3) (h : ∀ p : Nat, (p : Int) < r 3 → 6 + 3 * (p : Int) + 1 ≠ k) : w_sum (q_up r k z) = w_sum r := w_sum_low (q_up_ne (fun e => hk e.symm)) (fun p hp => q_up_ne (h p hp))
theorem w_sum_cover {r : Int → Int} {a : Int} (hv : v_r r) (ha : 0 ≤ a ∧ a < r 4) : w_sum (s_cover r a) = w_sum r := by
  have h3 := hv.1.1
  have h4 := hv.1.2.1
  have ho := (hv.2.2.1 a ha).1
  have hw := s_who_in hv a
  unfold s_cover
  by_cases c : s_who r a = -1
  · rw [if_pos c]
  · rw [if_neg c]
    obtain ⟨p, hp⟩ : ∃ p : Nat, s_who r a = p := ⟨(s_who r a).toNat, by omega⟩
    obtain ⟨o, ho2⟩ : ∃ o : Nat, r (30 + 13 * a + 0) = o := ⟨(r (30 + 13 * a + 0)).toNat, by omega⟩
    generalize (if s_byb r a = true then (1 : Int) else 2) = st
    generalize s_byb r a = b
    generalize s_cpt r a = pts
    unfold w_sum
    rw [s_cvr_lo (i := 3) (by omega) (by omega) (by omega) (by omega)]
    refine (s_sum_congr (g := fun q => (fun q : Nat => r (6 + 3 * (q : Int) + 1)) q + (if q = p then pts else 0) - (if q = o then pts else 0)) (fun q hq => ?_)).trans (w_sum_mv (fun q : Nat => r (6 + 3 * (q : Int) + 1)) p o pts (by omega) (by omega))
    rw [(s_cvr_ps (q := (q : Int)) (by omega) (by omega) (by omega) (by omega)).2.1, hp, ho2]
    simp only [Int.ofNat_inj]
theorem w_sum_all {K : Int} {r : Int → Int} (hv : v_x K r) (hK : K < 900000000) (hK0 : 0 ≤ K) : ∀ n : Nat, (n : Int) ≤ r 4 → w_sum (s_all r n) = w_sum r := by
  intro n
  induction n with
  | zero => intro _; rfl
  | succ n ih =>
    intro hn
    have g := v_all hv hK hK0 n (by omega)
    show w_sum (s_cover (s_all r n) n) = _
    rw [w_sum_cover g.1.1 ⟨by omega, by rw [g.2 4 (by omega)]; omega⟩]
    exact ih (by omega)
theorem w_sum_ho {r : Int → Int} {a p b : Int} {pts : Int} (ha : 0 ≤ a) (h3 : 0 ≤ r 3 ∧ r 3 ≤ 8) (hp : 0 ≤ p ∧ p < r 3) (hb : 0 ≤ b ∧ b < r 3) : w_sum (s_ho r a b p pts) = w_sum r := by
  obtain ⟨p, rfl⟩ : ∃ q : Nat, p = q := ⟨p.toNat, by omega⟩
  obtain ⟨b, rfl⟩ : ∃ q : Nat, b = q := ⟨b.toNat, by omega⟩
  unfold w_sum
  rw [s_ho_lo (i := 3) ha (by omega) (by omega) (by omega), if_neg (by decide)]
  refine (s_sum_congr (g := fun q => (fun q : Nat => r (6 + 3 * (q : Int) + 1)) q + (if q = p then pts else 0) - (if q = b then pts else 0)) (fun q hq => ?_)).trans (w_sum_mv (fun q : Nat => r (6 + 3 * (q : Int) + 1)) p b pts (by omega) (by omega))
  rw [s_ho_ps ha (by omega) (by omega) (by omega) (by omega)]
  simp only [true_and, Int.ofNat_inj]
theorem w_sum_np {r : Int → Int} {z : Int} (h3 : 0 ≤ r 3) : w_sum (s_np r z) = w_sum r := by
  unfold w_sum
  rw [s_np_at (i := 3) h3, if_pos rfl, show (r 3 + 1).toNat = (r 3).toNat + 1 by omega, s_sum]
  rw [show s_np r z (6 + 3 * (((r 3).toNat : Nat) : Int) + 1) = 0 by
    rw [s_np_at h3, if_neg (by omega), if_neg (by omega), if_pos (by omega)]]
  rw [Int.add_zero]
  apply s_sum_congr
  intro i hi
  rw [s_np_at h3, if_neg (by omega), if_neg (by omega), if_neg (by omega), if_neg (by omega)]
theorem w_sum_ad {r : Int → Int} {p t : Int} (hN : 0 ≤ r 4) (h3 : r 3 ≤ 8) : w_sum (s_ad r p t) = w_sum r := w_sum_low (by rw [s_ad_lo hN (by omega), if_neg (by decide)]) (fun q hq => by rw [s_ad_lo hN (by omega), if_neg (by omega)])
theorem w_sum_gu {r : Int → Int} {a : Int} (ha : 0 ≤ a) (h3 : r 3 ≤ 8) : w_sum (s_gu r a) = w_sum r := w_sum_low (s_gu_lo ha (by omega)) (fun q hq => s_gu_lo ha (by omega))
