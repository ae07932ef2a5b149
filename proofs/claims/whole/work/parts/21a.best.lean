/-! the greatest number of open absences that can be covered together -/
abbrev g_H : Type := List (Int × Int)
def g_at (H : g_H) (p u : Int) : Bool := H.any fun q => decide (q.1 = p) && decide (q.2 = u)
def g_cl (r : Int → Int) (H : g_H) (p t : Int) : Bool := H.any fun q => decide (q.1 = p) && decide (-(r 0) ≤ t - q.2 ∧ t - q.2 ≤ r 0)
def g_ok (r : Int → Int) (H : g_H) (p a : Int) : Bool := decide (s_wnf r p a = 0) && !g_cl r H p (r (30 + 13 * a + 1))
def g_mp (f : Nat → Nat) : Nat → Nat
  | 0 => 0
  | p + 1 => if g_mp f p < f p then f p else g_mp f p
def g_best (r : Int → Int) (P : Nat) : List Nat → g_H → Nat
  | [], _ => 0
  | a :: os, H => max (g_mp (fun p => if g_ok r H p a = true then 1 + g_best r P os (((p : Int), r (30 + 13 * (a : Int) + 1)) :: H) else 0) P) (g_best r P os H)
theorem g_mp_le {f : Nat → Nat} {b : Nat} (h : ∀ p, f p ≤ b) : ∀ n, g_mp f n ≤ b
  | 0 => Nat.zero_le _
  | n + 1 => by
    have := g_mp_le h n
    have := h n
    rw [g_mp]
    split <;> omega
theorem g_mp_mono (f : Nat → Nat) (m : Nat) : ∀ k, g_mp f m ≤ g_mp f (m + k)
  | 0 => Nat.le_refl _
  | k + 1 => by
    have := g_mp_mono f m k
    rw [show m + (k + 1) = (m + k) + 1 by omega, g_mp]
    split <;> omega
theorem g_mp_at {f : Nat → Nat} {p n : Nat} (h : p < n) : f p ≤ g_mp f n := by
  have h1 : f p ≤ g_mp f (p + 1) := by
    rw [g_mp]
    split <;> omega
  have h2 := g_mp_mono f (p + 1) (n - (p + 1))
  rw [show p + 1 + (n - (p + 1)) = n by omega] at h2
  omega
theorem g_mp_ex (f : Nat → Nat) : ∀ n, g_mp f n = 0 ∨ ∃ p, p < n ∧ f p = g_mp f n
  | 0 => .inl rfl
  | n + 1 => by
    rw [g_mp]
    split
    · exact .inr ⟨n, by omega, rfl⟩
    · rcases g_mp_ex f n with h | ⟨p, h1, h2⟩
      · exact .inl h
      · exact .inr ⟨p, by omega, h2⟩
theorem g_best_le (r : Int → Int) (P : Nat) : ∀ (os : List Nat) (H : g_H), g_best r P os H ≤ os.length
  | [], _ => Nat.zero_le _
  | a :: os, H => by
    have h1 := g_best_le r P os H
    have h2 := g_mp_le (f := fun p => if g_ok r H p a = true then 1 + g_best r P os (((p : Int), r (30 + 13 * (a : Int) + 1)) :: H) else 0) (b := 1 + os.length) (fun p => by
      show (if g_ok r H p a = true then 1 + g_best r P os (((p : Int), r (30 + 13 * (a : Int) + 1)) :: H) else 0) ≤ _
      have h3 := g_best_le r P os (((p : Int), r (30 + 13 * (a : Int) + 1)) :: H)
      split <;> omega) P
    rw [g_best, List.length_cons]
    omega
/-- the State of a trial: some persons cover in some shifts more -/
def g_rel (S : ST) (r : Int → Int) (H : g_H) : Prop := ∃ C0 : Nat → Int64, x_rel (sST_covering S C0) r ∧ ∀ p : Nat, (p : Int) < r 3 → ∀ i : Nat, i < 64 → b6 (ST_covering S p) i = ((decide (i < 42) && s_cvs r p i) || g_at H p i)
def g_in (H : g_H) : Prop := ∀ q, q ∈ H → 0 ≤ q.2 ∧ q.2 < 42
theorem g_at_t {H : g_H} {p u : Int} : g_at H p u = true ↔ (p, u) ∈ H := by
  unfold g_at
  rw [List.any_eq_true]
  constructor
  · rintro ⟨⟨x, y⟩, h1, h2⟩
    rw [Bool.and_eq_true, decide_eq_true_iff, decide_eq_true_iff] at h2
    obtain ⟨rfl, rfl⟩ := h2
    exact h1
  · intro h
    exact ⟨(p, u), h, by rw [Bool.and_eq_true, decide_eq_true_iff, decide_eq_true_iff]; exact ⟨rfl, rfl⟩⟩
theorem g_at_in {H : g_H} (hH : g_in H) {p u : Int} (h : ¬ (0 ≤ u ∧ u < 42)) : g_at H p u = false := by
  rw [← Bool.not_eq_true, g_at_t]
  intro z
  exact h (hH _ z)
def g_w (r : Int → Int) (H : g_H) (p t : Int) : Bool := s_wrk r p t || g_at H p t
theorem g_w_out {r : Int → Int} {H : g_H} (hH : g_in H) {p t : Int} (h : ¬ (0 ≤ t ∧ t < 42)) : g_w r H p t = false := by
  unfold g_w s_wrk
  rw [g_at_in hH h, decide_eq_false (by omega)]
  rfl
def g_bh (r : Int → Int) (H : g_H) (p t : Int) (k : Nat) : Bool := g_w r H p (t - (k + 1))
def g_bf (r : Int → Int) (H : g_H) (p t : Int) (k : Nat) : Bool := g_w r H p (t + (k + 1))
/-- the shifts near t are free, as far as p's work and the further covers go -/
theorem g_free {r : Int → Int} {H : g_H} {p t : Int} (h0 : 0 ≤ r 0) : (g_w r H p t = false ∧ s_any (g_bh r H p t) (r 0).toNat = false ∧ s_any (g_bf r H p t) (r 0).toNat = false) ↔ (s_wrk r p t = false ∧ s_any (s_nb r p t) (r 0).toNat = false ∧ s_any (s_na r p t) (r 0).toNat = false) ∧ g_cl r H p t = false := by
  rw [s_any_no, s_any_no, s_any_no, s_any_no]
  unfold g_bh g_bf s_nb s_na g_w
  simp only [Bool.or_eq_false_iff]
  have hc : g_cl r H p t = false ↔ ∀ u : Int, t - r 0 ≤ u ∧ u ≤ t + r 0 → g_at H p u = false := by
    rw [← Bool.not_eq_true]
    unfold g_cl
    rw [List.any_eq_true]
    constructor
    · intro h u hu
      rw [← Bool.not_eq_true, g_at_t]
      intro z
      exact h ⟨(p, u), z, by rw [Bool.and_eq_true, decide_eq_true_iff, decide_eq_true_iff]; exact ⟨rfl, by show -(r 0) ≤ t - u ∧ t - u ≤ r 0; omega⟩⟩
    · rintro h ⟨⟨x, y⟩, h1, h2⟩
      rw [Bool.and_eq_true, decide_eq_true_iff, decide_eq_true_iff] at h2
      obtain ⟨rfl, h3⟩ := h2
      have h3 : -(r 0) ≤ t - y ∧ t - y ≤ r 0 := h3
      have e := h y (by omega)
      rw [g_at_t.mpr h1] at e
      cases e
  rw [hc]
  constructor
  · rintro ⟨⟨a1, a2⟩, b1, c1⟩
    refine ⟨⟨a1, fun i hi => (b1 i hi).1, fun i hi => (c1 i hi).1⟩, fun u hu => ?_⟩
    by_cases e1 : u = t
    · rw [e1]; exact a2
    · by_cases e2 : u < t
      · have := (b1 (t - u - 1).toNat (by omega)).2
        rw [show t - (((t - u - 1).toNat : Int) + 1) = u by omega] at this
        exact this
      · have := (c1 (u - t - 1).toNat (by omega)).2
        rw [show t + (((u - t - 1).toNat : Int) + 1) = u by omega] at this
        exact this
  · rintro ⟨⟨a1, b1, c1⟩, h⟩
    exact ⟨⟨a1, h t (by omega)⟩, fun i hi => ⟨b1 i hi, h _ (by omega)⟩, fun i hi => ⟨c1 i hi, h _ (by omega)⟩⟩
theorem g_ok_t {r : Int → Int} {H : g_H} {p a : Int} : g_ok r H p a = true ↔ s_wnf r p a = 0 ∧ g_cl r H p (r (30 + 13 * a + 1)) = false := by
  unfold g_ok
  rw [Bool.and_eq_true, decide_eq_true_iff, Bool.not_eq_true']
theorem s_wnf_0 {r : Int → Int} {p a : Int} : s_wnf r p a = 0 ↔ r (30 + 13 * a + 0) ≠ p ∧ s_abs r p (r (30 + 13 * a + 1)) = false ∧ (s_wrk r p (r (30 + 13 * a + 1)) = false ∧ s_any (s_nb r p (r (30 + 13 * a + 1))) (r 0).toNat = false ∧ s_any (s_na r p (r (30 + 13 * a + 1))) (r 0).toNat = false) := by
  unfold s_wnf s_why
  by_cases c : r (30 + 13 * a + 0) = p
  · rw [if_pos c]
    exact ⟨fun h => by omega, fun h => absurd c h.1⟩
  · rw [if_neg c]
    generalize r (30 + 13 * a + 0) = y at c ⊢
    cases s_abs r p (r (30 + 13 * a + 1)) <;> cases s_wrk r p (r (30 + 13 * a + 1)) <;> cases s_any (s_nb r p (r (30 + 13 * a + 1))) (r 0).toNat <;> cases s_any (s_na r p (r (30 + 13 * a + 1))) (r 0).toNat <;> simp [c]
theorem g_hind {K : Int} {S : ST} {r : Int → Int} {H : g_H} (hg : g_rel S r H) (hv : v_x K r) (hH : g_in H) {p a : Nat} (hp : (p : Int) < r 3) (ha : (a : Int) < r 4) : ∃ v : Int, 0 ≤ v ∧ v ≤ 5 ∧ f_X1_hindrance S (z32 p) (z32 a) = some (z32 v) ∧ (v = 0 ↔ g_ok r H p a = true) := by
  have h3 := hv.1.1.1
  have h4 := hv.1.1.2.1
  have h0 := hv.1.1.2.2.1
  obtain ⟨C0, hx, hcov⟩ := hg
  obtain ⟨e1, e2, -⟩ := hx.2.2.2.2.2 a ha
  obtain ⟨x1, -, -, x4, -⟩ := hx.2.2.2.2.1 p hp
  have e1 : ST_absentees S a = z32 (r (30 + 13 * (a : Int) + 0)) := e1
  have e2 : ST_shifts S a = z32 (r (30 + 13 * (a : Int) + 1)) := e2
  have x1 : ST_rosters S p = z64 (r (6 + 3 * (p : Int) + 0)) := x1
  have x4 : ∀ i, i < 64 → b6 (ST_away S p) i = (decide (i < 42) && s_abs r p i) := x4
  have hR : ST_settings S 0 = z32 ((r 0).toNat : Int) ∧ (r 0).toNat ≤ 5 := by
    have hR0 := x_rest hx hv.1
    exact hR0
  have i0 := hv.1.1.2.2.2 a 0 (by omega) (by omega)
  obtain ⟨v1, v2⟩ := hv.1.2.2.1 a ⟨by omega, ha⟩
  obtain ⟨t, ht⟩ : ∃ t : Nat, r (30 + 13 * (a : Int) + 1) = t := ⟨(r (30 + 13 * (a : Int) + 1)).toNat, by omega⟩
  have ht42 : t < 42 := by omega
  obtain ⟨w, hw, hwb⟩ : ∃ w, f_X1_worked S (z32 p) = some w ∧ ∀ i : Nat, i < 64 → b6 w i = g_w r H p i := by
    refine ⟨(ST_rosters S p &&& (ST_away S p ^^^ (-1))) ||| ST_covering S p, ?_, ?_⟩
    · unfold f_X1_worked
      simp (disch := omega) only [z_in, if_true, z32_clamp, Int.toNat_natCast]
    · intro i hi
      rw [b6_or, b6_and, b6_xor, b6_m1 i hi, x1, x4 i hi, hcov p hp i hi]
      unfold g_w s_wrk s_ros
      rw [Int.toNat_natCast]
      by_cases c : i < 42
      · rw [decide_eq_true c, decide_eq_true (show (0 : Int) ≤ i ∧ (i : Int) ≤ 41 by omega)]
        cases b6 (z64 (r (6 + 3 * (p : Int) + 0))) i <;> cases s_abs r p i <;> cases s_cvs r p i <;> cases g_at H p i <;> rfl
      · rw [decide_eq_false c, decide_eq_false (show ¬ ((0 : Int) ≤ i ∧ (i : Int) ≤ 41) by omega), s_ros_big hv.1 ⟨by omega, hp⟩ (by omega)]
        cases g_at H p i <;> rfl
  obtain ⟨u1, hu1, hb1⟩ := x_restBehind_5 hR w 2000 0 0 (by omega) (by omega) (fun i hi => b6_0 i)
  obtain ⟨u2, hu2, hb2⟩ := x_restBefore_5 hR w 2000 0 0 (by omega) (by omega) (fun i hi => b6_0 i)
  have hu1 : f_X1_restBehind S w = some u1 := hu1
  have hu2 : f_X1_restBefore S w = some u2 := hu2
  have hb1 : b6 u1 t = s_any (g_bh r H p t) (r 0).toNat := by
    rw [hb1 t (by omega)]
    apply s_any_congr
    intro k hk
    unfold s_bh g_bh
    by_cases c : k + 1 ≤ t
    · rw [decide_eq_true c, hwb _ (by omega), show ((t - (k + 1) : Nat) : Int) = (t : Int) - (k + 1) by omega]
      rfl
    · rw [decide_eq_false c, g_w_out hH (by omega)]
      rfl
  have hb2 : b6 u2 t = s_any (g_bf r H p t) (r 0).toNat := by
    rw [hb2 t (by omega)]
    apply s_any_congr
    intro k hk
    unfold s_bf g_bf
    rw [hwb _ (by omega), show ((k + 1 + t : Nat) : Int) = (t : Int) + (k + 1) by omega]
  have hk : g_ok r H p a = true ↔ r (30 + 13 * (a : Int) + 0) ≠ p ∧ s_abs r p t = false ∧ g_w r H p t = false ∧ s_any (g_bh r H p t) (r 0).toNat = false ∧ s_any (g_bf r H p t) (r 0).toNat = false := by
    rw [g_ok_t, s_wnf_0, ht, g_free h0.1]
    constructor
    · rintro ⟨⟨y1, y2, y3⟩, y4⟩
      exact ⟨y1, y2, y3, y4⟩
    · rintro ⟨y1, y2, y3, y4⟩
      exact ⟨⟨y1, y2, y3⟩, y4⟩
  refine ⟨if r (30 + 13 * (a : Int) + 0) = p then 1 else if s_abs r p t = true then 2 else if g_w r H p t = true then 3 else if s_any (g_bh r H p t) (r 0).toNat = true then 4 else if s_any (g_bf r H p t) (r 0).toNat = true then 5 else 0, ?_, ?_, ?_, ?_⟩
  · split
    · omega
    · split
      · omega
      · split
        · omega
        · split
          · omega
          · split <;> omega
  · split
    · omega
    · split
      · omega
      · split
        · omega
        · split
          · omega
          · split <;> omega
  · unfold f_X1_hindrance
    simp (disch := omega) only [z_in, if_true, z32_clamp, Int.toNat_natCast, e1, e2, ht, z_lets, hw, hu1, hu2, z_some, x_has, z32_eq]
    by_cases c1 : r (30 + 13 * (a : Int) + 0) = p
    · rw [if_neg (fun z => z c1), if_pos c1]; rfl
    · rw [if_pos c1, if_neg c1, x4 t (by omega), hwb t (by omega), hb1, hb2, decide_eq_true ht42, Bool.true_and]
      cases s_abs r p t <;> cases g_w r H p t <;> cases s_any (g_bh r H p t) (r 0).toNat <;> cases s_any (g_bf r H p t) (r 0).toNat <;> rfl
  · rw [hk]
    by_cases c1 : r (30 + 13 * (a : Int) + 0) = p
    · rw [if_pos c1]
      exact ⟨fun h => by omega, fun h => absurd c1 h.1⟩
    · rw [if_neg c1]
      clear hk e1 i0
      generalize r (30 + 13 * (a : Int) + 0) = y at c1 ⊢
      cases s_abs r p t <;> cases g_w r H p t <;> cases s_any (g_bh r H p t) (r 0).toNat <;> cases s_any (g_bf r H p t) (r 0).toNat <;> simp [c1]
