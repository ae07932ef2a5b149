/-! the rows behind the other calls: a bid, giving up, handing over -/
theorem x_rel_bid {S : ST} {r : Int → Int} {a p : Nat} {z : Int} (hx : x_rel S r) (hv : v_r r) (ha : (a : Int) < r 4) (hp : p < 8) : x_rel (sST_bids S (upd (ST_bids S) (8 * a + p) (z32 z))) (q_up r (30 + 13 * (a : Int) + (5 + (p : Int))) z) := by
  have h3 := hv.1.1
  have h4 := hv.1.2.1
  have lo : ∀ i : Int, i < 30 → q_up r (30 + 13 * (a : Int) + (5 + (p : Int))) z i = r i := fun i hi => q_up_ne (by omega)
  have ab : ∀ c k : Int, k < 5 → 0 ≤ k → q_up r (30 + 13 * (a : Int) + (5 + (p : Int))) z (30 + 13 * c + k) = r (30 + 13 * c + k) := fun c k hk hk0 => q_up_ne (by omega)
  refine ⟨fun k hk => ?_, ?_, ?_, ?_, fun q hq => ?_, fun c hc => ?_⟩
  · rw [lo k (by omega)]
    exact hx.1 k hk
  · rw [lo 3 (by omega)]
    exact hx.2.1
  · rw [lo 4 (by omega)]
    exact hx.2.2.1
  · rw [lo 5 (by omega)]
    exact hx.2.2.2.1
  · rw [lo 3 (by omega)] at hq
    obtain ⟨x1, x2, x3, x4, x5⟩ := hx.2.2.2.2.1 q hq
    rw [lo (6 + 3 * (q : Int) + 0) (by omega), lo (6 + 3 * (q : Int) + 1) (by omega), lo (6 + 3 * (q : Int) + 2) (by omega)]
    refine ⟨x1, x2, x3, fun i hi => ?_, fun i hi => ?_⟩
    · rw [s_abs_congr (lo 4 (by omega)) (fun c _ => ⟨ab c 0 (by omega) (by omega), ab c 1 (by omega) (by omega)⟩)]
      exact x4 i hi
    · rw [s_cvs_congr (lo 4 (by omega)) (fun c _ => ⟨s_cov_congr (ab c 2 (by omega) (by omega)), ab c 1 (by omega) (by omega), ab c 3 (by omega) (by omega)⟩)]
      exact x5 i hi
  · rw [lo 4 (by omega)] at hc
    obtain ⟨x1, x2, x3, x4, x5, x6⟩ := hx.2.2.2.2.2 c hc
    rw [ab c 0 (by omega) (by omega), ab c 1 (by omega) (by omega), ab c 2 (by omega) (by omega), ab c 3 (by omega) (by omega), ab c 4 (by omega) (by omega)]
    refine ⟨x1, x2, x3, x4, x5, fun q hq => ?_⟩
    show upd (ST_bids S) (8 * a + p) (z32 z) (8 * c + q) = _
    unfold upd
    by_cases e : 8 * c + q = 8 * a + p
    · rw [if_pos e, q_up_eq (by omega)]
    · rw [if_neg e, q_up_ne (by omega)]
      exact x6 q hq
theorem v_bid {K : Int} {r : Int → Int} {a p z : Int} (hv : v_x K r) (ha : 0 ≤ a ∧ a < r 4) (hp : 0 ≤ p ∧ p < r 3) (hz : -1 ≤ z ∧ z ≤ 50) (hs : r (30 + 13 * a + 2) = 0) : v_x K (q_up r (30 + 13 * a + (5 + p)) z) := by
  obtain ⟨hr, hk, hva, hu, hc⟩ := hv
  have h3 := hr.1.1
  have h4 := hr.1.2.1
  have lo : ∀ i : Int, i < 30 → q_up r (30 + 13 * a + (5 + p)) z i = r i := fun i hi => q_up_ne (by omega)
  have ab : ∀ c k : Int, k < 5 → 0 ≤ k → q_up r (30 + 13 * a + (5 + p)) z (30 + 13 * c + k) = r (30 + 13 * c + k) := fun c k hk hk0 => q_up_ne (by omega)
  have ct : ∀ c : Int, s_ct (q_up r (30 + 13 * a + (5 + p)) z) c ↔ s_ct r c := fun c => s_ct_congr (ab c 2 (by omega) (by omega))
  refine ⟨⟨⟨by rw [lo 3 (by omega)]; exact h3, by rw [lo 4 (by omega)]; exact h4, by rw [lo 0 (by omega)]; exact hr.1.2.2.1, ?_⟩, ?_, ?_, ?_, by rw [lo 1 (by omega)]; exact hr.2.2.2.2.1, by rw [lo 2 (by omega)]; exact hr.2.2.2.2.2⟩, ⟨?_, by rw [lo 5 (by omega)]; exact hk.2⟩, ?_, ?_, ?_⟩
  · intro c k hc hk
    by_cases e : 30 + 13 * c + k = 30 + 13 * a + (5 + p)
    · rw [q_up_eq e]
      omega
    · rw [q_up_ne e]
      exact hr.1.2.2.2 c k hc hk
  · intro q hq
    rw [lo 3 (by omega)] at hq
    rw [lo (6 + 3 * q + 0) (by omega)]
    exact hr.2.1 q hq
  · intro c hc
    rw [lo 4 (by omega)] at hc
    rw [ab c 0 (by omega) (by omega), ab c 1 (by omega) (by omega), lo 3 (by omega)]
    exact hr.2.2.1 c hc
  · intro q hq
    rw [lo 3 (by omega)] at hq
    rw [lo (6 + 3 * q + 1) (by omega), lo (6 + 3 * q + 2) (by omega)]
    exact hr.2.2.2.1 q hq
  · intro q hq
    rw [lo 3 (by omega)] at hq
    rw [lo (6 + 3 * q + 1) (by omega), lo (6 + 3 * q + 2) (by omega)]
    exact hk.1 q hq
  · intro c hc
    rw [lo 4 (by omega)] at hc
    obtain ⟨y1, y2, y3, y4, y5⟩ := hva c hc
    unfold v_a
    rw [ct c, ab c 2 (by omega) (by omega), ab c 3 (by omega) (by omega), ab c 4 (by omega) (by omega), lo 3 (by omega)]
    refine ⟨y1, y2, y3, y4, fun q hq => ?_⟩
    by_cases e : 30 + 13 * c + (5 + q) = 30 + 13 * a + (5 + p)
    · have e1 : c = a := by omega
      rw [q_up_eq e]
      refine ⟨hz, fun h => ?_, fun h => ?_⟩
      · omega
      · rw [e1] at h; exact absurd hs h
    · rw [q_up_ne e]
      exact y5 q hq
  · intro c d g1 g2 g3
    rw [lo 4 (by omega)] at g3
    rw [ab c 0 (by omega) (by omega), ab d 0 (by omega) (by omega), ab c 1 (by omega) (by omega), ab d 1 (by omega) (by omega)]
    exact hu c d g1 g2 g3
  · intro c d g1 g2 g3
    rw [lo 4 (by omega)] at g3
    rw [ct c, ct d, ab c 3 (by omega) (by omega), ab d 3 (by omega) (by omega), ab c 1 (by omega) (by omega), ab d 1 (by omega) (by omega)]
    exact hc c d g1 g2 g3
/-- a is given up -/
def s_gu (r : Int → Int) (a : Int) : Int → Int := s_clr (q_up r (30 + 13 * a + 2) 3) a 0
theorem s_gu_lo {r : Int → Int} {a i : Int} (ha : 0 ≤ a) (hi : i < 30) : s_gu r a i = r i := by
  unfold s_gu
  rw [s_clr_ne (by omega), q_up_ne (by omega)]
theorem s_gu_ab {r : Int → Int} {a c k : Int} (hk : 0 ≤ k ∧ k < 13) : s_gu r a (30 + 13 * c + k) = if c = a then (if k = 2 then 3 else if k < 5 then r (30 + 13 * c + k) else -1) else r (30 + 13 * c + k) := by
  unfold s_gu
  by_cases e : c = a
  · rw [if_pos e]
    by_cases e2 : k = 2
    · rw [if_pos e2, s_clr_ne (by omega), q_up_eq (by omega)]
    · rw [if_neg e2]
      by_cases e3 : k < 5
      · rw [if_pos e3, s_clr_ne (by omega), q_up_ne (by omega)]
      · rw [if_neg e3, s_clr_eq (by omega)]
  · rw [if_neg e, s_clr_ne (by omega), q_up_ne (by omega)]
theorem x_rel_gu {S : ST} {r : Int → Int} {a : Nat} {B : Nat → Int32} (hx : x_rel S r) (hv : v_r r) (ha : (a : Int) < r 4) (hs : r (30 + 13 * (a : Int) + 2) = 0) (hB : ∀ i, B i = if 8 * a ≤ i ∧ i < 8 * a + 8 then z32 (-1) else ST_bids S i) : x_rel (sST_bids (sST_statuses S (upd (ST_statuses S) a (z32 3))) B) (s_gu r a) := by
  have h3 := hv.1.1
  have h4 := hv.1.2.1
  have lo : ∀ i : Int, i < 30 → s_gu r a i = r i := fun i hi => s_gu_lo (by omega) hi
  have ab : ∀ c k : Int, 0 ≤ k ∧ k < 13 → s_gu r a (30 + 13 * c + k) = if c = a then (if k = 2 then 3 else if k < 5 then r (30 + 13 * c + k) else -1) else r (30 + 13 * c + k) := fun c k hk => s_gu_ab hk
  have ab1 : ∀ c k : Int, 0 ≤ k ∧ k < 5 → k ≠ 2 → s_gu r a (30 + 13 * c + k) = r (30 + 13 * c + k) := fun c k hk h2 => by
    rw [ab c k (by omega), if_neg h2, if_pos hk.2, ite_self]
  have cv : ∀ c : Nat, s_cov (s_gu r a) c = s_cov r c := by
    intro c
    unfold s_cov
    rw [ab c 2 (by omega)]
    by_cases e : (c : Int) = a
    · rw [if_pos e, if_pos rfl, e, hs]; rfl
    · rw [if_neg e]
  refine ⟨fun k hk => ?_, ?_, ?_, ?_, fun q hq => ?_, fun c hc => ?_⟩
  · rw [lo k (by omega)]
    exact hx.1 k hk
  · rw [lo 3 (by omega)]
    exact hx.2.1
  · rw [lo 4 (by omega)]
    exact hx.2.2.1
  · rw [lo 5 (by omega)]
    exact hx.2.2.2.1
  · rw [lo 3 (by omega)] at hq
    obtain ⟨x1, x2, x3, x4, x5⟩ := hx.2.2.2.2.1 q hq
    rw [lo (6 + 3 * (q : Int) + 0) (by omega), lo (6 + 3 * (q : Int) + 1) (by omega), lo (6 + 3 * (q : Int) + 2) (by omega)]
    refine ⟨x1, x2, x3, fun i hi => ?_, fun i hi => ?_⟩
    · rw [s_abs_congr (lo 4 (by omega)) (fun c _ => ⟨ab1 c 0 (by omega) (by omega), ab1 c 1 (by omega) (by omega)⟩)]
      exact x4 i hi
    · rw [s_cvs_congr (lo 4 (by omega)) (fun c _ => ⟨cv c, ab1 c 1 (by omega) (by omega), ab1 c 3 (by omega) (by omega)⟩)]
      exact x5 i hi
  · rw [lo 4 (by omega)] at hc
    obtain ⟨x1, x2, x3, x4, x5, x6⟩ := hx.2.2.2.2.2 c hc
    rw [ab1 c 0 (by omega) (by omega), ab1 c 1 (by omega) (by omega), ab1 c 3 (by omega) (by omega), ab1 c 4 (by omega) (by omega), ab c 2 (by omega)]
    refine ⟨x1, x2, ?_, x4, x5, fun q hq => ?_⟩
    · show upd (ST_statuses S) a (z32 3) c = _
      unfold upd
      by_cases e : c = a
      · rw [if_pos e, if_pos (by omega), if_pos rfl]
      · rw [if_neg e, if_neg (by omega)]
        exact x3
    · show B (8 * c + q) = _
      rw [hB, ab c (5 + q) (by omega)]
      by_cases e : c = a
      · rw [if_pos (by omega), if_pos (by omega), if_neg (by omega), if_neg (by omega)]
      · rw [if_neg (by omega), if_neg (by omega)]
        exact x6 q hq
theorem v_gu {K : Int} {r : Int → Int} {a : Int} (hv : v_x K r) (ha : 0 ≤ a ∧ a < r 4) (hs : r (30 + 13 * a + 2) = 0) : v_x K (s_gu r a) := by
  obtain ⟨hr, hk, hva, hu, hc⟩ := hv
  have h3 := hr.1.1
  have h4 := hr.1.2.1
  have lo : ∀ i : Int, i < 30 → s_gu r a i = r i := fun i hi => s_gu_lo (by omega) hi
  have ab : ∀ c k : Int, 0 ≤ k ∧ k < 13 → s_gu r a (30 + 13 * c + k) = if c = a then (if k = 2 then 3 else if k < 5 then r (30 + 13 * c + k) else -1) else r (30 + 13 * c + k) := fun c k hk => s_gu_ab hk
  have ab1 : ∀ c k : Int, 0 ≤ k ∧ k < 5 → k ≠ 2 → s_gu r a (30 + 13 * c + k) = r (30 + 13 * c + k) := fun c k hk h2 => by
    rw [ab c k (by omega), if_neg h2, if_pos hk.2, ite_self]
  have ct : ∀ c : Int, s_ct (s_gu r a) c ↔ s_ct r c := by
    intro c
    unfold s_ct
    rw [ab c 2 (by omega)]
    by_cases e : c = a
    · rw [if_pos e, if_pos rfl, e, hs]
      omega
    · rw [if_neg e]
  refine ⟨⟨⟨by rw [lo 3 (by omega)]; exact h3, by rw [lo 4 (by omega)]; exact h4, by rw [lo 0 (by omega)]; exact hr.1.2.2.1, ?_⟩, ?_, ?_, ?_, by rw [lo 1 (by omega)]; exact hr.2.2.2.2.1, by rw [lo 2 (by omega)]; exact hr.2.2.2.2.2⟩, ⟨?_, by rw [lo 5 (by omega)]; exact hk.2⟩, ?_, ?_, ?_⟩
  · intro c k hc hk
    have i0 := hr.1.2.2.2 c k hc hk
    rw [ab c k hk]
    split
    · split
      · omega
      · split <;> omega
    · exact i0
  · intro q hq
    rw [lo 3 (by omega)] at hq
    rw [lo (6 + 3 * q + 0) (by omega)]
    exact hr.2.1 q hq
  · intro c hc
    rw [lo 4 (by omega)] at hc
    rw [ab1 c 0 (by omega) (by omega), ab1 c 1 (by omega) (by omega), lo 3 (by omega)]
    exact hr.2.2.1 c hc
  · intro q hq
    rw [lo 3 (by omega)] at hq
    rw [lo (6 + 3 * q + 1) (by omega), lo (6 + 3 * q + 2) (by omega)]
    exact hr.2.2.2.1 q hq
  · intro q hq
    rw [lo 3 (by omega)] at hq
    rw [lo (6 + 3 * q + 1) (by omega), lo (6 + 3 * q + 2) (by omega)]
    exact hk.1 q hq
  · intro c hc
    rw [lo 4 (by omega)] at hc
    obtain ⟨y1, y2, y3, y4, y5⟩ := hva c hc
    unfold v_a
    rw [ct c, ab c 2 (by omega), ab1 c 3 (by omega) (by omega), ab1 c 4 (by omega) (by omega), lo 3 (by omega)]
    refine ⟨by split <;> omega, y2, y3, y4, fun q hq => ?_⟩
    rw [ab c (5 + q) (by omega)]
    by_cases e : c = a
    · rw [if_pos e, if_neg (by omega), if_neg (by omega)]
      exact ⟨by omega, fun _ => rfl, fun _ => rfl⟩
    · rw [if_neg e, if_neg e]
      exact y5 q hq
  · intro c d g1 g2 g3
    rw [lo 4 (by omega)] at g3
    rw [ab1 c 0 (by omega) (by omega), ab1 d 0 (by omega) (by omega), ab1 c 1 (by omega) (by omega), ab1 d 1 (by omega) (by omega)]
    exact hu c d g1 g2 g3
  · intro c d g1 g2 g3
    rw [lo 4 (by omega)] at g3
    rw [ct c, ct d, ab1 c 3 (by omega) (by omega), ab1 d 3 (by omega) (by omega), ab1 c 1 (by omega) (by omega), ab1 d 1 (by omega) (by omega)]
    exact hc c d g1 g2 g3
/-- a's cover is handed over from b to p -/
def s_ho (r : Int → Int) (a b p pts : Int) : Int → Int := s_add (q_up (s_add (s_add r (6 + 3 * b + 1) (-pts)) (6 + 3 * p + 1) pts) (30 + 13 * a + 3) p) 5 1
theorem s_ho_lo {r : Int → Int} {a b p pts i : Int} (ha : 0 ≤ a) (hb : 0 ≤ b ∧ b < 8) (hp : 0 ≤ p ∧ p < 8) (hi : i < 6) : s_ho r a b p pts i = if i = 5 then r i + 1 else r i := by
  unfold s_ho
  by_cases e : i = 5
  · rw [if_pos e, s_add_eq e, q_up_ne (by omega), s_add_ne (by omega), s_add_ne (by omega)]
  · rw [if_neg e, s_add_ne e, q_up_ne (by omega), s_add_ne (by omega), s_add_ne (by omega)]
theorem s_ho_ps {r : Int → Int} {a b p pts q k : Int} (ha : 0 ≤ a) (hb : 0 ≤ b ∧ b < 8) (hp : 0 ≤ p ∧ p < 8) (hq : 0 ≤ q ∧ q < 8) (hk : 0 ≤ k ∧ k < 3) : s_ho r a b p pts (6 + 3 * q + k) = r (6 + 3 * q + k) + (if k = 1 ∧ q = p then pts else 0) - (if k = 1 ∧ q = b then pts else 0) := by
  unfold s_ho
  rw [s_add_ne (by omega), q_up_ne (by omega)]
  by_cases e1 : k = 1 ∧ q = p
  · rw [if_pos e1, s_add_eq (by omega)]
    by_cases e2 : k = 1 ∧ q = b
    · rw [if_pos e2, s_add_eq (by omega)]; omega
    · rw [if_neg e2, s_add_ne (by omega)]; omega
  · rw [if_neg e1, s_add_ne (by omega)]
    by_cases e2 : k = 1 ∧ q = b
    · rw [if_pos e2, s_add_eq (by omega)]; omega
    · rw [if_neg e2, s_add_ne (by omega)]; omega
theorem s_ho_ab {r : Int → Int} {a b p pts c k : Int} (hb : 0 ≤ b ∧ b < 8) (hp : 0 ≤ p ∧ p < 8) (hc : 0 ≤ c) (hk : 0 ≤ k ∧ k < 13) : s_ho r a b p pts (30 + 13 * c + k) = if c = a ∧ k = 3 then p else r (30 + 13 * c + k) := by
  unfold s_ho
  rw [s_add_ne (by omega)]
  by_cases e : c = a ∧ k = 3
  · rw [if_pos e, q_up_eq (by omega)]
  · rw [if_neg e, q_up_ne (by omega), s_add_ne (by omega), s_add_ne (by omega)]
theorem v_ho {K : Int} {r : Int → Int} {a p : Int} (hv : v_x K r) (hK : K < 1000000000) (hK0 : 0 ≤ K) (ha : 0 ≤ a ∧ a < r 4) (hp : 0 ≤ p ∧ p < r 3) (hc0 : s_ct r a) (hw : s_cvs r p (r (30 + 13 * a + 1)) = false) : v_x (K + 50) (s_ho r a (r (30 + 13 * a + 3)) p (r (30 + 13 * a + 4))) := by
  obtain ⟨hr, hk, hva, hu, hc⟩ := hv
  have h3 := hr.1.1
  have h4 := hr.1.2.1
  obtain ⟨-, z2, -, z4, -⟩ := hva a ha
  have hb := z2 hc0
  generalize hbe : r (30 + 13 * a + 3) = b at hb
  generalize r (30 + 13 * a + 4) = pts at z4
  have lo : ∀ i : Int, i < 5 → s_ho r a b p pts i = r i := fun i hi => by rw [s_ho_lo (by omega) (by omega) (by omega) (by omega), if_neg (by omega)]
  have lo5 : s_ho r a b p pts 5 = r 5 + 1 := by rw [s_ho_lo (by omega) (by omega) (by omega) (by omega), if_pos rfl]
  have ps : ∀ q k : Int, 0 ≤ q ∧ q < 8 → 0 ≤ k ∧ k < 3 → s_ho r a b p pts (6 + 3 * q + k) = r (6 + 3 * q + k) + (if k = 1 ∧ q = p then pts else 0) - (if k = 1 ∧ q = b then pts else 0) := fun q k hq hk => s_ho_ps (by omega) (by omega) (by omega) hq hk
  have ab : ∀ c k : Int, 0 ≤ c → 0 ≤ k ∧ k < 13 → s_ho r a b p pts (30 + 13 * c + k) = if c = a ∧ k = 3 then p else r (30 + 13 * c + k) := fun c k hc hk => s_ho_ab (by omega) (by omega) hc hk
  have ab1 : ∀ c k : Int, 0 ≤ c → 0 ≤ k ∧ k < 13 → k ≠ 3 → s_ho r a b p pts (30 + 13 * c + k) = r (30 + 13 * c + k) := fun c k hc hk h3 => by
    rw [ab c k hc hk, if_neg (by omega)]
  have ab3 : ∀ c : Int, 0 ≤ c → s_ho r a b p pts (30 + 13 * c + 3) = if c = a then p else r (30 + 13 * c + 3) := fun c hc => by
    rw [ab c 3 hc (by omega)]
    by_cases e : c = a
    · rw [if_pos ⟨e, rfl⟩, if_pos e]
    · rw [if_neg (fun z => e z.1), if_neg e]
  have ct : ∀ c : Int, 0 ≤ c → (s_ct (s_ho r a b p pts) c ↔ s_ct r c) := fun c hc => s_ct_congr (ab1 c 2 hc (by omega) (by omega))
  have nk : v_k (K + 50) (s_ho r a b p pts) := by
    refine ⟨fun q hq => ?_, ?_⟩
    · rw [lo 3 (by omega)] at hq
      obtain ⟨k1, k2⟩ := hk.1 q hq
      rw [ps q 1 (by omega) (by omega), ps q 2 (by omega) (by omega)]
      constructor
      · split <;> split <;> omega
      · rw [if_neg (by omega), if_neg (by omega)]; omega
    · rw [lo5]
      have := hk.2
      omega
  refine ⟨⟨⟨by rw [lo 3 (by omega)]; exact h3, by rw [lo 4 (by omega)]; exact h4, by rw [lo 0 (by omega)]; exact hr.1.2.2.1, ?_⟩, ?_, ?_, nk.m32 (by omega), by rw [lo 1 (by omega)]; exact hr.2.2.2.2.1, by rw [lo 2 (by omega)]; exact hr.2.2.2.2.2⟩, nk, ?_, ?_, ?_⟩
  · intro c k hc hk
    have i0 := hr.1.2.2.2 c k hc hk
    rw [ab c k hc.1 hk]
    split <;> omega
  · intro q hq
    rw [lo 3 (by omega)] at hq
    rw [ps q 0 (by omega) (by omega), if_neg (by omega), if_neg (by omega)]
    have := hr.2.1 q hq
    omega
  · intro c hc
    rw [lo 4 (by omega)] at hc
    rw [ab1 c 0 hc.1 (by omega) (by omega), ab1 c 1 hc.1 (by omega) (by omega), lo 3 (by omega)]
    exact hr.2.2.1 c hc
  · intro c hc
    rw [lo 4 (by omega)] at hc
    obtain ⟨y1, y2, y3, y4, y5⟩ := hva c hc
    unfold v_a
    rw [ct c hc.1, ab1 c 2 hc.1 (by omega) (by omega), ab3 c hc.1, ab1 c 4 hc.1 (by omega) (by omega), lo 3 (by omega)]
    refine ⟨y1, fun h => ?_, fun h => ?_, y4, fun q hq => ?_⟩
    · split
      · exact hp
      · exact y2 h
    · by_cases e : c = a
      · rw [e] at h
        exact absurd hc0 h
      · rw [if_neg e]
        exact y3 h
    · rw [ab1 c (5 + q) hc.1 (by omega) (by omega)]
      exact y5 q hq
  · intro c d g1 g2 g3
    rw [lo 4 (by omega)] at g3
    rw [ab1 c 0 (by omega) (by omega) (by omega), ab1 d 0 (by omega) (by omega) (by omega), ab1 c 1 (by omega) (by omega) (by omega), ab1 d 1 (by omega) (by omega) (by omega)]
    exact hu c d g1 g2 g3
  · intro c d g1 g2 g3
    rw [lo 4 (by omega)] at g3
    rw [ct c (by omega), ct d (by omega), ab3 c (by omega), ab3 d (by omega), ab1 c 1 (by omega) (by omega) (by omega), ab1 d 1 (by omega) (by omega) (by omega)]
    intro z1 z2 z3 z4
    by_cases e1 : c = a
    · rw [if_pos e1, if_neg (by omega)] at z3
      have : s_cvs r p (r (30 + 13 * a + 1)) = true := (s_cvs_t h4.1).mpr ⟨d, by omega, g3, z2, z3.symm, by rw [← z4, e1]⟩
      rw [hw] at this
      cases this
    · rw [if_neg e1] at z3
      by_cases e2 : d = a
      · rw [if_pos e2] at z3
        have : s_cvs r p (r (30 + 13 * a + 1)) = true := (s_cvs_t h4.1).mpr ⟨c, g1, by omega, z1, z3, by rw [z4, e2]⟩
        rw [hw] at this
        cases this
      · rw [if_neg e2] at z3
        exact hc c d g1 g2 g3 z1 z2 z3 z4
