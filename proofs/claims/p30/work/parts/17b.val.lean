/-! what holds of every row that is reached -/
def s_ct (r : Int → Int) (a : Int) : Prop := r (30 + 13 * a + 2) = 1 ∨ r (30 + 13 * a + 2) = 2
theorem s_cov_t {r : Int → Int} {a : Int} : s_cov r a = true ↔ s_ct r a := by
  unfold s_cov s_ct
  rw [Bool.or_eq_true, decide_eq_true_iff, decide_eq_true_iff]
def v_a (r : Int → Int) (a : Int) : Prop := (0 ≤ r (30 + 13 * a + 2) ∧ r (30 + 13 * a + 2) ≤ 3) ∧ (s_ct r a → 0 ≤ r (30 + 13 * a + 3) ∧ r (30 + 13 * a + 3) < r 3) ∧ (¬ s_ct r a → r (30 + 13 * a + 3) = -1 ∧ r (30 + 13 * a + 4) = 0) ∧ (0 ≤ r (30 + 13 * a + 4) ∧ r (30 + 13 * a + 4) ≤ 50) ∧ (∀ p : Int, 0 ≤ p ∧ p < 8 → (-1 ≤ r (30 + 13 * a + (5 + p)) ∧ r (30 + 13 * a + (5 + p)) ≤ 50) ∧ (r 3 ≤ p → r (30 + 13 * a + (5 + p)) = -1) ∧ (r (30 + 13 * a + 2) ≠ 0 → r (30 + 13 * a + (5 + p)) = -1))
def v_k (K : Int) (r : Int → Int) : Prop := (∀ p : Int, 0 ≤ p ∧ p < r 3 → (-K ≤ r (6 + 3 * p + 1) ∧ r (6 + 3 * p + 1) ≤ K) ∧ (0 ≤ r (6 + 3 * p + 2) ∧ r (6 + 3 * p + 2) ≤ K)) ∧ (0 ≤ r 5 ∧ r 5 ≤ K)
def v_u (r : Int → Int) : Prop := ∀ a b : Int, 0 ≤ a → a < b → b < r 4 → r (30 + 13 * a + 0) = r (30 + 13 * b + 0) → r (30 + 13 * a + 1) ≠ r (30 + 13 * b + 1)
def v_c (r : Int → Int) : Prop := ∀ a b : Int, 0 ≤ a → a < b → b < r 4 → s_ct r a → s_ct r b → r (30 + 13 * a + 3) = r (30 + 13 * b + 3) → r (30 + 13 * a + 1) ≠ r (30 + 13 * b + 1)
def v_x (K : Int) (r : Int → Int) : Prop := v_r r ∧ v_k K r ∧ (∀ a : Int, 0 ≤ a ∧ a < r 4 → v_a r a) ∧ v_u r ∧ v_c r
theorem v_k.mono {K K' : Int} {r : Int → Int} (h : v_k K r) (hK : K ≤ K') : v_k K' r := by
  refine ⟨fun p hp => ?_, ?_⟩
  · obtain ⟨h1, h2⟩ := h.1 p hp
    omega
  · have := h.2
    omega
theorem v_x.mono {K K' : Int} {r : Int → Int} (h : v_x K r) (hK : K ≤ K') : v_x K' r := ⟨h.1, h.2.1.mono hK, h.2.2⟩
/-- meters within K are ints -/
theorem v_k.m32 {K : Int} {r : Int → Int} (h : v_k K r) (hK : K < 2000000000) : ∀ p : Int, 0 ≤ p ∧ p < r 3 → (-2147483648 ≤ r (6 + 3 * p + 1) ∧ r (6 + 3 * p + 1) < 2147483648) ∧ (-2147483648 ≤ r (6 + 3 * p + 2) ∧ r (6 + 3 * p + 2) < 2147483648) := by
  intro p hp
  obtain ⟨h1, h2⟩ := h.1 p hp
  omega
theorem s_abs_congr {r r' : Int → Int} (h4 : r' 4 = r 4) (h : ∀ a : Nat, (a : Int) < r 4 → r' (30 + 13 * (a : Int) + 0) = r (30 + 13 * (a : Int) + 0) ∧ r' (30 + 13 * (a : Int) + 1) = r (30 + 13 * (a : Int) + 1)) (p t : Int) : s_abs r' p t = s_abs r p t := by
  unfold s_abs
  rw [h4]
  apply s_any_congr
  intro i hi
  obtain ⟨e1, e2⟩ := h i (by omega)
  unfold s_is
  rw [e1, e2]
theorem s_cvs_congr {r r' : Int → Int} (h4 : r' 4 = r 4) (h : ∀ a : Nat, (a : Int) < r 4 → s_cov r' a = s_cov r a ∧ r' (30 + 13 * (a : Int) + 1) = r (30 + 13 * (a : Int) + 1) ∧ r' (30 + 13 * (a : Int) + 3) = r (30 + 13 * (a : Int) + 3)) (p t : Int) : s_cvs r' p t = s_cvs r p t := by
  unfold s_cvs
  rw [h4]
  apply s_any_congr
  intro i hi
  obtain ⟨e1, e2, e3⟩ := h i (by omega)
  unfold s_cis
  rw [e1, e2, e3]
theorem s_cov_congr {r r' : Int → Int} {a : Int} (h : r' (30 + 13 * a + 2) = r (30 + 13 * a + 2)) : s_cov r' a = s_cov r a := by
  unfold s_cov
  rw [h]
theorem s_ct_congr {r r' : Int → Int} {a : Int} (h : r' (30 + 13 * a + 2) = r (30 + 13 * a + 2)) : s_ct r' a ↔ s_ct r a := by
  unfold s_ct
  rw [h]
/-- p covers in t: some covered absence says so -/
theorem s_cvs_t {r : Int → Int} (hN : 0 ≤ r 4) {p t : Int} : s_cvs r p t = true ↔ ∃ a : Int, 0 ≤ a ∧ a < r 4 ∧ s_ct r a ∧ r (30 + 13 * a + 3) = p ∧ r (30 + 13 * a + 1) = t := by
  unfold s_cvs
  rw [s_any_iff]
  constructor
  · rintro ⟨i, h1, h2⟩
    unfold s_cis at h2
    rw [Bool.and_eq_true, Bool.and_eq_true, decide_eq_true_iff, decide_eq_true_iff, s_cov_t] at h2
    exact ⟨i, by omega, by omega, h2⟩
  · rintro ⟨a, h1, h2, h3⟩
    obtain ⟨n, rfl⟩ : ∃ n : Nat, a = n := ⟨a.toNat, by omega⟩
    refine ⟨n, by omega, ?_⟩
    unfold s_cis
    rw [Bool.and_eq_true, Bool.and_eq_true, decide_eq_true_iff, decide_eq_true_iff, s_cov_t]
    exact h3
theorem s_abs_t {r : Int → Int} (hN : 0 ≤ r 4) {p t : Int} : s_abs r p t = true ↔ ∃ a : Int, 0 ≤ a ∧ a < r 4 ∧ r (30 + 13 * a + 0) = p ∧ r (30 + 13 * a + 1) = t := by
  unfold s_abs
  rw [s_any_iff]
  constructor
  · rintro ⟨i, h1, h2⟩
    unfold s_is at h2
    rw [Bool.and_eq_true, decide_eq_true_iff, decide_eq_true_iff] at h2
    exact ⟨i, by omega, by omega, h2⟩
  · rintro ⟨a, h1, h2, h3⟩
    obtain ⟨n, rfl⟩ : ∃ n : Nat, a = n := ⟨a.toNat, by omega⟩
    refine ⟨n, by omega, ?_⟩
    unfold s_is
    rw [Bool.and_eq_true, decide_eq_true_iff, decide_eq_true_iff]
    exact h3
/-- who can cover a doesn't cover in its shift already -/
theorem s_wnf_cvs {r : Int → Int} {p a : Int} (ht : 0 ≤ r (30 + 13 * a + 1) ∧ r (30 + 13 * a + 1) < 42) (h : s_wnf r p a = 0) : s_cvs r p (r (30 + 13 * a + 1)) = false := by
  unfold s_wnf at h
  by_cases c : r (30 + 13 * a + 0) = p
  · rw [if_pos c] at h; omega
  · rw [if_neg c] at h
    unfold s_why at h
    by_cases c1 : s_abs r p (r (30 + 13 * a + 1)) = true
    · rw [if_pos c1] at h; omega
    · rw [if_neg c1] at h
      by_cases c2 : s_wrk r p (r (30 + 13 * a + 1)) = true
      · rw [if_pos c2] at h; omega
      · unfold s_wrk at c2
        rw [decide_eq_true (show 0 ≤ r (30 + 13 * a + 1) ∧ r (30 + 13 * a + 1) ≤ 41 by omega), Bool.true_and] at c2
        cases e : s_cvs r p (r (30 + 13 * a + 1))
        · rfl
        · rw [e, Bool.or_true] at c2
          exact absurd rfl c2
theorem s_bb_w (r : Int → Int) (a : Int) : ∀ n : Nat, s_bb r a n ≠ -1 → s_wnf r (s_bb r a n) a = 0
  | 0, h => absurd rfl h
  | n + 1, h => by
    rw [s_bb] at h ⊢
    split
    · rename_i c
      exact c.2.1
    · rename_i c
      rw [if_neg c] at h
      exact s_bb_w r a n h
theorem s_nt_w (r : Int → Int) (a : Int) : ∀ n : Nat, s_nt r a n ≠ -1 → s_wnf r (s_nt r a n) a = 0
  | 0, h => absurd rfl h
  | n + 1, h => by
    rw [s_nt] at h ⊢
    split
    · rename_i c
      exact c.1
    · rename_i c
      rw [if_neg c] at h
      exact s_nt_w r a n h
theorem s_who_w {r : Int → Int} {a : Int} (h : s_who r a ≠ -1) : s_wnf r (s_who r a) a = 0 := by
  unfold s_who at h ⊢
  split
  · rename_i c
    rw [if_pos c] at h
    split
    · rename_i c2
      rw [if_pos c2] at h
      exact s_nt_w r a _ h
    · rename_i c2
      exact s_bb_w r a _ c2
  · rename_i c
    rw [if_neg c] at h
    exact absurd rfl h
/-- covering keeps what holds; the meters may grow by 50 -/
theorem v_cvr {K : Int} {r : Int → Int} {a p pts st : Int} {b : Bool} (hv : v_x K r) (hK : K < 1000000000) (hK0 : 0 ≤ K) (ha : 0 ≤ a ∧ a < r 4) (hp : 0 ≤ p ∧ p < r 3) (hst : st = 1 ∨ st = 2) (hq : 0 ≤ pts ∧ pts ≤ 50) (hw : s_cvs r p (r (30 + 13 * a + 1)) = false) : v_x (K + 50) (s_cvr r a p b pts st) := by
  obtain ⟨hr, hk, hva, hu, hc⟩ := hv
  have h3 := hr.1.1
  have h4 := hr.1.2.1
  have ho := (hr.2.2.1 a ha).1
  have ha2 : 0 ≤ a ∧ a < 30 := by omega
  have hp2 : 0 ≤ p ∧ p < 8 := by omega
  have hw2 : 0 ≤ r (30 + 13 * a + 0) ∧ r (30 + 13 * a + 0) < 8 := by omega
  have lo : ∀ i : Int, i < 6 → s_cvr r a p b pts st i = r i := fun i hi => s_cvr_lo ha2 hp2 hw2 hi
  have ab : ∀ c k : Int, 0 ≤ c ∧ c < 30 → 0 ≤ k ∧ k < 13 → s_cvr r a p b pts st (30 + 13 * c + k) = if c = a then (if k < 2 then r (30 + 13 * c + k) else if k = 2 then st else if k = 3 then p else if k = 4 then pts else -1) else r (30 + 13 * c + k) := fun c k hc hk => s_cvr_ab ha2 hp2 hw2 hc hk
  have ps : ∀ q : Int, 0 ≤ q ∧ q < 8 → _ := fun q hq => s_cvr_ps (r := r) (a := a) (p := p) (pts := pts) (st := st) (b := b) ha2 hp2 hw2 (q := q) hq
  have a0 : ∀ c : Int, 0 ≤ c ∧ c < 30 → s_cvr r a p b pts st (30 + 13 * c + 0) = r (30 + 13 * c + 0) := fun c hc => by
    rw [ab c 0 hc (by omega)]
    by_cases e : c = a
    · rw [if_pos e, if_pos (by decide)]
    · rw [if_neg e]
  have a1 : ∀ c : Int, 0 ≤ c ∧ c < 30 → s_cvr r a p b pts st (30 + 13 * c + 1) = r (30 + 13 * c + 1) := fun c hc => by
    rw [ab c 1 hc (by omega)]
    by_cases e : c = a
    · rw [if_pos e, if_pos (by decide)]
    · rw [if_neg e]
  have a2 : ∀ c : Int, 0 ≤ c ∧ c < 30 → s_cvr r a p b pts st (30 + 13 * c + 2) = if c = a then st else r (30 + 13 * c + 2) := fun c hc => by
    rw [ab c 2 hc (by omega)]
    by_cases e : c = a
    · rw [if_pos e, if_pos e, if_neg (by decide), if_pos rfl]
    · rw [if_neg e, if_neg e]
  have a3 : ∀ c : Int, 0 ≤ c ∧ c < 30 → s_cvr r a p b pts st (30 + 13 * c + 3) = if c = a then p else r (30 + 13 * c + 3) := fun c hc => by
    rw [ab c 3 hc (by omega)]
    by_cases e : c = a
    · rw [if_pos e, if_pos e, if_neg (by decide), if_neg (by decide), if_pos rfl]
    · rw [if_neg e, if_neg e]
  have a4 : ∀ c : Int, 0 ≤ c ∧ c < 30 → s_cvr r a p b pts st (30 + 13 * c + 4) = if c = a then pts else r (30 + 13 * c + 4) := fun c hc => by
    rw [ab c 4 hc (by omega)]
    by_cases e : c = a
    · rw [if_pos e, if_pos e, if_neg (by decide), if_neg (by decide), if_neg (by decide), if_pos rfl]
    · rw [if_neg e, if_neg e]
  have a5 : ∀ c q : Int, 0 ≤ c ∧ c < 30 → 0 ≤ q ∧ q < 8 → s_cvr r a p b pts st (30 + 13 * c + (5 + q)) = if c = a then -1 else r (30 + 13 * c + (5 + q)) := fun c q hc hq => by
    rw [ab c (5 + q) hc (by omega)]
    by_cases e : c = a
    · rw [if_pos e, if_pos e, if_neg (show ¬ 5 + q < 2 by omega), if_neg (show ¬ 5 + q = 2 by omega), if_neg (show ¬ 5 + q = 3 by omega), if_neg (show ¬ 5 + q = 4 by omega)]
    · rw [if_neg e, if_neg e]
  have nk : v_k (K + 50) (s_cvr r a p b pts st) := by
    refine ⟨fun q hq => ?_, ?_⟩
    · rw [lo 3 (by omega)] at hq
      obtain ⟨-, g1, g2⟩ := ps q (by omega)
      obtain ⟨k1, k2⟩ := hk.1 q hq
      rw [g1, g2]
      constructor
      · split <;> split <;> omega
      · split <;> omega
    · rw [lo 5 (by omega)]
      have := hk.2
      omega
  have ct : ∀ c : Int, 0 ≤ c ∧ c < 30 → (s_ct (s_cvr r a p b pts st) c ↔ c = a ∨ s_ct r c) := by
    intro c hc
    unfold s_ct
    rw [a2 c hc]
    by_cases e : c = a
    · rw [if_pos e]
      exact ⟨fun _ => .inl e, fun _ => hst⟩
    · rw [if_neg e]
      exact ⟨fun h => .inr h, fun h => h.resolve_left e⟩
  refine ⟨⟨⟨by rw [lo 3 (by omega)]; exact h3, by rw [lo 4 (by omega)]; exact h4, by rw [lo 0 (by omega)]; exact hr.1.2.2.1, ?_⟩, ?_, ?_, nk.m32 (by omega), by rw [lo 1 (by omega)]; exact hr.2.2.2.2.1, by rw [lo 2 (by omega)]; exact hr.2.2.2.2.2⟩, nk, ?_, ?_, ?_⟩
  · intro c k hc hk
    rw [ab c k hc hk]
    have i0 := hr.1.2.2.2 c k hc hk
    split
    · split
      · exact i0
      · split
        · omega
        · split
          · omega
          · split <;> omega
    · exact i0
  · intro q hq
    rw [lo 3 (by omega)] at hq
    rw [(ps q (by omega)).1]
    exact hr.2.1 q hq
  · intro c hc
    rw [lo 4 (by omega)] at hc
    rw [a0 c (by omega), a1 c (by omega), lo 3 (by omega)]
    exact hr.2.2.1 c hc
  · intro c hc
    rw [lo 4 (by omega)] at hc
    have hc2 : 0 ≤ c ∧ c < 30 := by omega
    obtain ⟨y1, y2, y3, y4, y5⟩ := hva c hc
    unfold v_a
    rw [a2 c hc2, a3 c hc2, a4 c hc2, lo 3 (by omega), ct c hc2]
    by_cases e : c = a
    · simp only [if_pos e]
      refine ⟨by omega, fun _ => hp, fun h => absurd (.inl e) h, hq, fun q hq => ?_⟩
      rw [a5 c q hc2 hq, if_pos e]
      exact ⟨by omega, fun _ => rfl, fun _ => rfl⟩
    · simp only [if_neg e]
      refine ⟨y1, fun h => y2 (h.resolve_left e), fun h => y3 (fun z => h (.inr z)), y4, fun q hq => ?_⟩
      rw [a5 c q hc2 hq, if_neg e]
      exact y5 q hq
  · intro c d g1 g2 g3
    rw [lo 4 (by omega)] at g3
    rw [a0 c (by omega), a0 d (by omega), a1 c (by omega), a1 d (by omega)]
    exact hu c d g1 g2 g3
  · intro c d g1 g2 g3
    rw [lo 4 (by omega)] at g3
    rw [ct c (by omega), ct d (by omega), a3 c (by omega), a3 d (by omega), a1 c (by omega), a1 d (by omega)]
    intro z1 z2 z3 z4
    by_cases e1 : c = a
    · have e2 : ¬ d = a := by omega
      rw [if_pos e1, if_neg e2] at z3
      have : s_cvs r p (r (30 + 13 * a + 1)) = true := (s_cvs_t h4.1).mpr ⟨d, by omega, g3, z2.resolve_left e2, z3.symm, by rw [← z4, e1]⟩
      rw [hw] at this
      cases this
    · rw [if_neg e1] at z3
      by_cases e2 : d = a
      · rw [if_pos e2] at z3
        have : s_cvs r p (r (30 + 13 * a + 1)) = true := (s_cvs_t h4.1).mpr ⟨c, g1, by omega, z1.resolve_left e1, z3, by rw [z4, e2]⟩
        rw [hw] at this
        cases this
      · rw [if_neg e2] at z3
        exact hc c d g1 g2 g3 (z1.resolve_left e1) (z2.resolve_left e2) z3 z4
theorem v_cover {K : Int} {r : Int → Int} {a : Int} (hv : v_x K r) (hK : K < 1000000000) (hK0 : 0 ≤ K) (ha : 0 ≤ a ∧ a < r 4) : v_x (K + 50) (s_cover r a) := by
  have hr := hv.1
  have h3 := hr.1.1
  have hw := s_who_in hr a
  unfold s_cover
  by_cases c : s_who r a = -1
  · rw [if_pos c]
    exact hv.mono (by omega)
  · rw [if_neg c]
    refine v_cvr hv hK hK0 ha (by omega) (by split <;> omega) ?_ (s_wnf_cvs (hr.2.2.1 a ha).2 (s_who_w c))
    have h5 := (hv.2.2.1 a ha).2.2.2.2 (s_who r a) (by omega)
    have hb := s_byb_bid c
    unfold s_cpt
    by_cases d : s_byb r a = true
    · rw [if_pos d]
      have := hb.mp d
      unfold s_bid at this
      omega
    · rw [if_neg d]
      have := hr.2.2.2.2.1
      omega
theorem s_cover_4 {r : Int → Int} (hv : v_r r) {a : Int} (ha : 0 ≤ a ∧ a < r 4) {i : Int} (hi : i < 6) : s_cover r a i = r i := by
  have hw := s_who_in hv a
  have h3 := hv.1.1
  have h4 := hv.1.2.1
  have ho := (hv.2.2.1 a ha).1
  unfold s_cover
  split
  · rfl
  · exact s_cvr_lo (by omega) (by omega) (by omega) hi
/-! all open absences, one behind another -/
def s_all (r : Int → Int) : Nat → Int → Int
  | 0 => r
  | n + 1 => s_cover (s_all r n) n
def s_alln (r : Int → Int) : Nat → Nat
  | 0 => 0
  | n + 1 => s_alln r n + (if s_who (s_all r n) n = -1 then 0 else 1)
theorem s_alln_le (r : Int → Int) : ∀ n, s_alln r n ≤ n
  | 0 => Nat.le_refl _
  | n + 1 => by
    have := s_alln_le r n
    rw [s_alln]
    split <;> omega
theorem v_all {K : Int} {r : Int → Int} (hv : v_x K r) (hK : K < 900000000) (hK0 : 0 ≤ K) : ∀ n : Nat, (n : Int) ≤ r 4 → v_x (K + 50 * n) (s_all r n) ∧ (∀ i : Int, i < 6 → s_all r n i = r i)
  | 0, _ => ⟨by rw [show K + 50 * ((0 : Nat) : Int) = K by omega]; exact hv, fun _ _ => rfl⟩
  | n + 1, h => by
    have h4 := hv.1.1.2.1
    obtain ⟨h1, h2⟩ := v_all hv hK hK0 n (by omega)
    have e4 := h2 4 (by omega)
    have g := v_cover (a := n) h1 (by omega) (by omega) (by omega)
    refine ⟨?_, fun i hi => ?_⟩
    · rw [show K + 50 * ((n + 1 : Nat) : Int) = K + 50 * (n : Int) + 50 by omega]
      exact g
    · rw [s_all, s_cover_4 h1.1 (by omega) hi]
      exact h2 i hi
theorem x_coverAllOpen_4 {K : Int} {r : Int → Int} (hv : v_x K r) (hK : K < 900000000) (hK0 : 0 ≤ K) {N : Nat} (hN : r 4 = N) : ∀ (n j : Nat) (S : ST), j ≤ N → N < n + j → x_rel S (s_all r j) → ∃ S', f_X1_coverAllOpen_4 n S (z32 (s_alln r j)) (z32 j) = some (z32 (s_alln r N), S') ∧ x_rel S' (s_all r N) := by
  have h4 := hv.1.1.2.1
  intro n
  induction n with
  | zero => intro j S h1 h2; omega
  | succ n ih =>
    intro j S h1 h2 h
    obtain ⟨vj, lo⟩ := v_all hv hK hK0 j (by omega)
    have e4 := lo 4 (by omega)
    have b1 := s_alln_le r j
    rw [f_X1_coverAllOpen_4, h.2.2.1, e4, hN]
    by_cases c : j = N
    · subst c
      simp (disch := omega) only [z32_le]
      rw [if_pos (by omega)]
      exact ⟨S, rfl, h⟩
    · obtain ⟨S1, g1, g2⟩ := x_coverOpen h vj.1 (a := j) (by omega)
      simp (disch := omega) only [z32_lit, z32_le, g1, z_some, z_B0, z32_add, z_lets]
      rw [if_neg (by omega)]
      have ih1 := ih (j + 1) S1 (by omega) (by omega) g2
      rw [s_alln] at ih1
      by_cases e : s_who (s_all r j) j = -1
      · rw [if_pos (decide_eq_false (fun z => z e))]
        rw [if_pos e] at ih1
        exact ih1
      · rw [if_neg (by rw [decide_eq_true e]; decide)]
        rw [if_neg e] at ih1
        exact ih1
theorem x_coverAllOpen {K : Int} {S : ST} {r : Int → Int} (h : x_rel S r) (hv : v_x K r) (hK : K < 900000000) (hK0 : 0 ≤ K) : ∃ S', f_X1_coverAllOpen S = some (z32 (s_alln r (r 4).toNat), S') ∧ x_rel S' (s_all r (r 4).toNat) := by
  have h4 := hv.1.1.2.1
  exact x_coverAllOpen_4 hv hK hK0 (N := (r 4).toNat) (by omega) 2000 0 S (by omega) (by omega) h
