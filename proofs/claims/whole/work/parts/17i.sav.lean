/-! the saved states -/
theorem cp_at {α : Type} (f g : Nat → α) (n k : Nat) (h : k < n) : va_cpy f g (0 : Int32).toNatClampNeg (0 : Int32).toNatClampNeg n k = f k := by
  show (if 0 ≤ k ∧ k < 0 + n then f (0 + (k - 0)) else g k) = f k
  rw [if_pos (by omega)]
  congr 1
  omega
theorem x_rel_cp {T O : ST} {r : Int → Int} (hx : x_rel O r) (hv : v_r r) : x_rel (cp_ST T O) r := by
  have h3 := hv.1.1
  have h4 := hv.1.2.1
  refine ⟨fun k hk => ?_, hx.2.1, hx.2.2.1, hx.2.2.2.1, fun q hq => ?_, fun c hc => ?_⟩
  · exact (cp_at (ST_settings O) (ST_settings T) 3 k hk).trans (hx.1 k hk)
  · obtain ⟨x1, x2, x3, x4, x5⟩ := hx.2.2.2.2.1 q hq
    refine ⟨(cp_at (ST_rosters O) (ST_rosters T) 8 q (by omega)).trans x1, (cp_at (ST_meters O) (ST_meters T) 8 q (by omega)).trans x2, (cp_at (ST_turns O) (ST_turns T) 8 q (by omega)).trans x3, fun i hi => ?_, fun i hi => ?_⟩
    · rw [show ST_away (cp_ST T O) q = ST_away O q from cp_at (ST_away O) (ST_away T) 8 q (by omega)]
      exact x4 i hi
    · rw [show ST_covering (cp_ST T O) q = ST_covering O q from cp_at (ST_covering O) (ST_covering T) 8 q (by omega)]
      exact x5 i hi
  · obtain ⟨x1, x2, x3, x4, x5, x6⟩ := hx.2.2.2.2.2 c hc
    exact ⟨(cp_at (ST_absentees O) (ST_absentees T) 30 c (by omega)).trans x1, (cp_at (ST_shifts O) (ST_shifts T) 30 c (by omega)).trans x2, (cp_at (ST_statuses O) (ST_statuses T) 30 c (by omega)).trans x3, (cp_at (ST_coverers O) (ST_coverers T) 30 c (by omega)).trans x4, (cp_at (ST_points O) (ST_points T) 30 c (by omega)).trans x5, fun q hq => (cp_at (ST_bids O) (ST_bids T) 240 (8 * c + q) (by omega)).trans (x6 q hq)⟩
theorem ss_MD_kept (S : MD) (v w : Nat → Int64) : sMD_kept (sMD_kept S v) w = sMD_kept S w := rfl
theorem kn_MD_now_kept (S : MD) (v : Nat → Int64) : MD_now (sMD_kept S v) = MD_now S := rfl
theorem kn_MD_kept_now (S : MD) (v : Nat → Int64) : MD_kept (sMD_now S v) = MD_kept S := rfl
theorem m_keeps_2 {M : MD} {c : Nat} (hc : c < 5) : ∀ (n j : Nat) (k : Nat → Int64), j ≤ 420 → 420 < n + j → ∃ k', f_X3_keeps_2 n (sMD_kept M k) (z32 c) (z32 j) = some (sMD_kept M k') ∧ ∀ i, k' i = if 420 * c + j ≤ i ∧ i < 420 * c + 420 then MD_now M (i - 420 * c) else k i := by
  intro n
  induction n with
  | zero => intro j k h1 h2; omega
  | succ n ih =>
    intro j k h1 h2
    rw [f_X3_keeps_2]
    by_cases d : j = 420
    · rw [if_pos (by simp (disch := omega) only [z32_lit, z32_le]; omega)]
      exact ⟨k, rfl, fun i => by rw [if_neg (by omega)]⟩
    · have hj : (c : Int) * 420 + (j : Int) = ((420 * c + j : Nat) : Int) := by omega
      rw [if_neg (by simp (disch := omega) only [z32_lit, z32_le]; omega)]
      simp (disch := omega) only [z32_lit, z32_mul, z32_add, hj, z_in, if_true, z_lets, ss_MD_kept, gs_MD_kept, kn_MD_now_kept, z32_clamp, Int.toNat_natCast]
      obtain ⟨k', h3, h4⟩ := ih (j + 1) (vp_updL k (420 * c + j) (MD_now M j)) (by omega) (by omega)
      refine ⟨k', h3, fun i => ?_⟩
      rw [h4 i]
      unfold vp_updL
      by_cases e : 420 * c + (j + 1) ≤ i ∧ i < 420 * c + 420
      · rw [if_pos e, if_pos (by omega)]
      · rw [if_neg e]
        by_cases e2 : i = 420 * c + j
        · rw [if_pos e2, if_pos (by omega), e2]
          congr 1
          omega
        · rw [if_neg e2, if_neg (by omega)]
theorem m_keeps {M : MD} {c : Nat} (hc : c < 5) : ∃ k', f_X3_keeps M (z32 c) = some (sMD_kept M k') ∧ ∀ i, k' i = if 420 * c ≤ i ∧ i < 420 * c + 420 then MD_now M (i - 420 * c) else MD_kept M i := m_keeps_2 (M := M) hc 2000 0 (MD_kept M) (by omega) (by omega)
theorem m_brings_2 {M : MD} {c : Nat} (hc : c < 5) : ∀ (n j : Nat) (f : Nat → Int64), j ≤ 420 → 420 < n + j → ∃ f', f_X3_brings_2 n (sMD_now M f) (z32 c) (z32 j) = some (sMD_now M f') ∧ ∀ i, i < 420 → f' i = if j ≤ i then MD_kept M (420 * c + i) else f i := by
  intro n
  induction n with
  | zero => intro j k h1 h2; omega
  | succ n ih =>
    intro j f h1 h2
    rw [f_X3_brings_2]
    by_cases d : j = 420
    · rw [if_pos (by simp (disch := omega) only [z32_lit, z32_le]; omega)]
      exact ⟨f, rfl, fun i hi => by rw [if_neg (by omega)]⟩
    · have hj : (c : Int) * 420 + (j : Int) = ((420 * c + j : Nat) : Int) := by omega
      rw [if_neg (by simp (disch := omega) only [z32_lit, z32_le]; omega)]
      simp (disch := omega) only [z32_lit, z32_mul, z32_add, hj, z_in, if_true, z_lets, ss_MD_now, gs_MD_now, kn_MD_kept_now, z32_clamp, Int.toNat_natCast]
      obtain ⟨f', h3, h4⟩ := ih (j + 1) (vp_updL f j (MD_kept M (420 * c + j))) (by omega) (by omega)
      refine ⟨f', h3, fun i hi => ?_⟩
      rw [h4 i hi]
      unfold vp_updL
      by_cases e : j + 1 ≤ i
      · rw [if_pos e, if_pos (by omega)]
      · rw [if_neg e]
        by_cases e2 : i = j
        · rw [if_pos e2, if_pos (by omega), e2]
        · rw [if_neg e2, if_neg (by omega)]
theorem m_brings {M : MD} {c : Nat} (hc : c < 5) : ∃ f', f_X3_brings M (z32 c) = some (sMD_now M f') ∧ ∀ i, i < 420 → f' i = MD_kept M (420 * c + i) := by
  obtain ⟨f', h1, h2⟩ := m_brings_2 (M := M) hc 2000 0 (MD_now M) (by omega) (by omega)
  exact ⟨f', h1, fun i hi => by rw [h2 i hi, if_pos (by omega)]⟩
theorem m_records_10 {M : MD} (h4 : MD_states M = z32 4) : ∀ (n j : Nat) (k : Nat → Int64), j ≤ 1260 → 1260 < n + j → (∀ i, k i = if i < j then MD_kept M (i + 420) else MD_kept M i) → ∃ k', f_X3_records_10 n (sMD_kept M k) (z32 j) = some (sMD_states (sMD_kept M k') (z32 4)) ∧ ∀ i, k' i = if 1260 ≤ i ∧ i < 1680 then MD_now M (i - 1260) else if i < 1260 then MD_kept M (i + 420) else MD_kept M i := by
  intro n
  induction n with
  | zero => intro j k h1 h2; omega
  | succ n ih =>
    intro j k h1 h2 hk
    rw [f_X3_records_10]
    by_cases d : j = 1260
    · rw [if_pos (by simp (disch := omega) only [z32_lit, z32_le]; omega)]
      obtain ⟨k', g1, g2⟩ := m_keeps (M := sMD_states (sMD_kept M k) (z32 3)) (c := 3) (by omega)
      have e0 : MD_states (sMD_kept M k) - 1 = z32 3 := by
        show MD_states M - 1 = z32 3
        rw [h4]
        decide
      refine ⟨k', ?_, fun i => ?_⟩
      · simp only [z_lets, e0]
        rw [show MD_states (sMD_states (sMD_kept M k) (z32 3)) = z32 ((3 : Nat) : Int) from rfl, g1, z_some]
        rfl
      · rw [g2 i]
        show (if 420 * 3 ≤ i ∧ i < 420 * 3 + 420 then MD_now M (i - 420 * 3) else k i) = _
        rw [hk i, d]
    · rw [if_neg (by simp (disch := omega) only [z32_lit, z32_le]; omega)]
      have hj : (j : Int) + 420 = ((j + 420 : Nat) : Int) := by omega
      simp (disch := omega) only [z32_lit, z32_add, hj, z_in, if_true, z_lets, ss_MD_kept, gs_MD_kept, z32_clamp, Int.toNat_natCast]
      refine ih (j + 1) (vp_updL k j (k (j + 420))) (by omega) (by omega) (fun i => ?_)
      unfold vp_updL
      by_cases e : i = j
      · rw [if_pos e, if_pos (by omega), hk, if_neg (by omega), e]
      · rw [if_neg e, hk i]
        by_cases e2 : i < j
        · rw [if_pos e2, if_pos (by omega)]
        · rw [if_neg e2, if_neg (by omega)]
theorem m_records_less {M : MD} {n : Nat} (hn : n < 4) (h : MD_states M = z32 n) : ∃ k', f_X3_records M = some (sMD_states (sMD_kept M k') (z32 ((n + 1 : Nat) : Int))) ∧ ∀ i, k' i = if 420 * n ≤ i ∧ i < 420 * n + 420 then MD_now M (i - 420 * n) else MD_kept M i := by
  obtain ⟨k', g1, g2⟩ := m_keeps (M := M) (c := n) (by omega)
  refine ⟨k', ?_, g2⟩
  unfold f_X3_records
  rw [h, if_pos (by simp (disch := omega) only [z32_lit, z32_eq]; omega), g1, z_some]
  show some (sMD_states (sMD_kept M k') (MD_states M + 1)) = _
  rw [h, show (1 : Int32) = z32 1 from rfl, z32_add]
  rfl
theorem m_records_full {M : MD} (h : MD_states M = z32 4) : ∃ k', f_X3_records M = some (sMD_states (sMD_kept M k') (z32 4)) ∧ ∀ i, k' i = if 1260 ≤ i ∧ i < 1680 then MD_now M (i - 1260) else if i < 1260 then MD_kept M (i + 420) else MD_kept M i := by
  obtain ⟨k', g1, g2⟩ := m_records_10 h 2000 0 (MD_kept M) (by omega) (by omega) (fun i => by rw [if_neg (by omega)])
  refine ⟨k', ?_, g2⟩
  unfold f_X3_records
  rw [if_neg (fun z => z (by rw [h]; rfl))]
  exact g1
/-- the class's saved states in their order -/
def CM_sv (S : CM) (j : Nat) : ST := if j = 0 then CM_s0 S else if j = 1 then CM_s1 S else if j = 2 then CM_s2 S else CM_s3 S
def s_sav (K : Int) (ss : Int32) (V : Nat → ST) (st : Int32) (kept : Nat → Int64) : Prop := ∃ (n : Nat) (R : Nat → Int → Int), n ≤ 4 ∧ ss = z32 n ∧ st = z32 n ∧ ∀ j, j < n → (∀ i : Nat, i < 420 → kept (420 * j + i) = z64 (R j i)) ∧ v_x K (R j) ∧ x_rel (V j) (R j)
theorem s_sav.mono {K K' : Int} {ss st : Int32} {V : Nat → ST} {kept : Nat → Int64} (h : s_sav K ss V st kept) (hK : K ≤ K') : s_sav K' ss V st kept := by
  obtain ⟨n, R, h1, h2, h3, h4⟩ := h
  exact ⟨n, R, h1, h2, h3, fun j hj => ⟨(h4 j hj).1, (h4 j hj).2.1.mono hK, (h4 j hj).2.2⟩⟩
theorem x_save_less {S : CM} {n : Nat} (hn : n < 4) (h : CM_ss S = z32 n) : ∃ S1 T, f_X2_save S = some S1 ∧ CM_now S1 = CM_now S ∧ CM_or S1 = CM_or S ∧ CM_ss S1 = z32 ((n + 1 : Nat) : Int) ∧ (∀ j, j < n → CM_sv S1 j = CM_sv S j) ∧ CM_sv S1 n = cp_ST T (CM_now S) := by
  unfold f_X2_save
  match n, hn, h with
  | 0, _, h =>
    rw [h, if_pos (by decide)]
    exact ⟨_, CM_s0 S, rfl, rfl, rfl, rfl, fun j hj => absurd hj (Nat.not_lt_zero j), rfl⟩
  | 1, _, h =>
    rw [h, if_neg (by decide), if_pos (by decide)]
    refine ⟨_, CM_s1 S, rfl, rfl, rfl, rfl, fun j hj => ?_, rfl⟩
    have e : j = 0 := by omega
    subst e
    rfl
  | 2, _, h =>
    rw [h, if_neg (by decide), if_neg (by decide), if_pos (by decide)]
    refine ⟨_, CM_s2 S, rfl, rfl, rfl, rfl, fun j hj => ?_, rfl⟩
    rcases (show j = 0 ∨ j = 1 by omega) with e | e <;> subst e <;> rfl
  | 3, _, h =>
    rw [h, if_neg (by decide), if_neg (by decide), if_neg (by decide), if_pos (by decide)]
    refine ⟨_, CM_s3 S, rfl, rfl, rfl, rfl, fun j hj => ?_, rfl⟩
    rcases (show j = 0 ∨ j = 1 ∨ j = 2 by omega) with e | e | e <;> subst e <;> rfl
theorem x_save_full {S : CM} (h : CM_ss S = z32 4) : ∃ S1 T, f_X2_save S = some S1 ∧ CM_now S1 = CM_now S ∧ CM_or S1 = CM_or S ∧ CM_ss S1 = z32 4 ∧ (∀ j, j < 3 → CM_sv S1 j = CM_sv S (j + 1)) ∧ CM_sv S1 3 = cp_ST T (CM_now S) := by
  unfold f_X2_save
  rw [h, if_neg (by decide), if_neg (by decide), if_neg (by decide), if_neg (by decide), if_pos (by decide)]
  refine ⟨_, CM_s0 S, rfl, rfl, rfl, rfl, fun j hj => ?_, rfl⟩
  rcases (show j = 0 ∨ j = 1 ∨ j = 2 by omega) with e | e | e <;> subst e <;> rfl
/-- both save -/
theorem xm_save {K : Int} {S : CM} {M : MD} {r : Int → Int} (h : q_row (MD_now M) r) (hx : x_rel (CM_now S) r) (hv : v_x K r) (hs : s_sav K (CM_ss S) (CM_sv S) (MD_states M) (MD_kept M)) : ∃ S1 k' st', f_X2_save S = some S1 ∧ f_X3_records M = some (sMD_states (sMD_kept M k') st') ∧ CM_now S1 = CM_now S ∧ CM_or S1 = CM_or S ∧ s_sav K (CM_ss S1) (CM_sv S1) st' k' := by
  obtain ⟨n, R, h1, h2, h3, h4⟩ := hs
  by_cases c : n < 4
  · obtain ⟨S1, T, a1, a2, a3, a4, a5, a6⟩ := x_save_less c h2
    obtain ⟨k', b1, b2⟩ := m_records_less c h3
    refine ⟨S1, k', _, a1, b1, a2, a3, n + 1, fun j => if j = n then r else R j, by omega, a4, rfl, fun j hj => ?_⟩
    by_cases e : j = n
    · subst e
      simp only [if_pos]
      refine ⟨fun i hi => ?_, hv, ?_⟩
      · rw [b2, if_pos (by omega), show 420 * j + i - 420 * j = i by omega]
        exact h i hi
      · rw [a6]
        exact x_rel_cp hx hv.1
    · simp only [if_neg e]
      obtain ⟨g1, g2, g3⟩ := h4 j (by omega)
      refine ⟨fun i hi => ?_, g2, ?_⟩
      · rw [b2, if_neg (by omega)]
        exact g1 i hi
      · rw [a5 j (by omega)]
        exact g3
  · have e4 : n = 4 := by omega
    subst e4
    obtain ⟨S1, T, a1, a2, a3, a4, a5, a6⟩ := x_save_full h2
    obtain ⟨k', b1, b2⟩ := m_records_full h3
    refine ⟨S1, k', _, a1, b1, a2, a3, 4, fun j => if j = 3 then r else R (j + 1), by omega, a4, rfl, fun j hj => ?_⟩
    by_cases e : j = 3
    · subst e
      simp only [if_pos]
      refine ⟨fun i hi => ?_, hv, ?_⟩
      · rw [b2, if_pos (by omega), show 420 * 3 + i - 1260 = i by omega]
        exact h i hi
      · rw [a6]
        exact x_rel_cp hx hv.1
    · simp only [if_neg e]
      obtain ⟨g1, g2, g3⟩ := h4 (j + 1) (by omega)
      refine ⟨fun i hi => ?_, g2, ?_⟩
      · rw [b2, if_neg (by omega), if_pos (by omega), show 420 * j + i + 420 = 420 * (j + 1) + i by omega]
        exact g1 i hi
      · rw [a5 j (by omega)]
        exact g3
theorem x_undo_some {S : CM} {n : Nat} (hn : n < 4) (h : CM_ss S = z32 ((n + 1 : Nat) : Int)) : f_X2_undo S = some (.inr (z32 n, sCM_now (sCM_ss S (z32 n)) (cp_ST (CM_now S) (CM_sv S n)))) := by
  unfold f_X2_undo
  match n, hn, h with
  | 0, _, h =>
    rw [h, if_neg (by decide), if_pos (by decide)]
    rfl
  | 1, _, h =>
    rw [h, if_neg (by decide), if_neg (by decide), if_pos (by decide)]
    rfl
  | 2, _, h =>
    rw [h, if_neg (by decide), if_neg (by decide), if_neg (by decide), if_pos (by decide)]
    rfl
  | 3, _, h =>
    rw [h, if_neg (by decide), if_neg (by decide), if_neg (by decide), if_neg (by decide), if_pos (by decide)]
    rfl
/-! class and reference side by side -/
def s_txt (o : OR) (tx : Nat → Int32) (ln : Int32) : Prop := ∃ len : Nat, len ≤ 100 ∧ OR_length o = z32 len ∧ ln = z32 len ∧ ∀ i, i < len → OR_text o i = tx i ∧ ∃ c : Nat, c < 128 ∧ tx i = z32 c
def s_inv (K : Int) (S : CM) (M : MD) : Prop := (∃ r, q_row (MD_now M) r ∧ v_x K r ∧ x_rel (CM_now S) r) ∧ s_sav K (CM_ss S) (CM_sv S) (MD_states M) (MD_kept M) ∧ s_txt (CM_or S) (MD_text M) (MD_length M)
theorem s_inv.mono {K K' : Int} {S : CM} {M : MD} (h : s_inv K S M) (hK : K ≤ K') : s_inv K' S M := by
  obtain ⟨⟨r, h1, h2, h3⟩, h4, h5⟩ := h
  exact ⟨⟨r, h1, h2.mono hK, h3⟩, h4.mono hK, h5⟩
theorem s_inv.thr {K : Int} {S : CM} {M : MD} (h : s_inv K S M) (k : Int32) : s_inv K S (sMD_thrown M k) := h
/-- what a writing call does on both sides -/
def s_res (K : Int) (S : CM) (M : MD) (F : Option (String ⊕ (Int32 × CM))) (G : Option (Int32 × MD)) (code : String → Option Int32) : Prop := (∃ E k y, F = some (.inl E) ∧ G = some (y, sMD_thrown M k) ∧ code E = some k ∧ k ≠ 0) ∨ (∃ v S' M', F = some (.inr (v, S')) ∧ G = some (v, M') ∧ MD_thrown M' = 0 ∧ s_inv K S' M')
def s_resR (M : MD) (F : Option (String ⊕ Int32)) (G : Option (Int32 × MD)) (code : String → Option Int32) : Prop := (∃ E k y, F = some (.inl E) ∧ G = some (y, sMD_thrown M k) ∧ code E = some k ∧ k ≠ 0) ∨ (∃ v, F = some (.inr v) ∧ G = some (v, sMD_thrown M 0))
def s_step (K : Int) (x : Option (CM × MD × (Nat → Int64))) : Prop := ∃ S' M' O', x = some (S', M', O') ∧ s_inv K S' M'
theorem s_ok_thr {k : Int32} {S : CM} {O : Nat → Int64} {v : Int64} {M : MD} (hk : k ≠ 0) : q_ok (k, S, O) v (sMD_thrown M k) = some (S, sMD_thrown M k, O) := by
  unfold q_ok
  show (if k = k then (if k = 0 then _ else _) else _) = _
  rw [if_pos rfl, if_neg hk]
theorem s_ok_don {S : CM} {O : Nat → Int64} {v : Int64} {M : MD} (ht : MD_thrown M = 0) : q_ok (0, S, vp_updL O (0 : Int32).toNatClampNeg v) v M = some (S, M, vp_updL O (0 : Int32).toNatClampNeg v) := by
  unfold q_ok
  rw [ht]
  show (if (0 : Int32) = 0 then (if (0 : Int32) = 0 then (if lg_cmp (vp_updL O (0 : Int32).toNatClampNeg v (0 : Int32).toNatClampNeg) v = 0 then _ else _) else _) else _) = _
  have e : vp_updL O (0 : Int32).toNatClampNeg v (0 : Int32).toNatClampNeg = v := if_pos rfl
  rw [if_pos rfl, if_pos rfl, if_pos ((lg_cmp_eq _ _).mpr e)]
theorem s_res.step {K K' : Int} {S : CM} {M : MD} {F : Option (String ⊕ (Int32 × CM))} {G : Option (Int32 × MD)} {code : String → Option Int32} {O : Nat → Int64} (h0 : s_inv K S M) (hK : K ≤ K') (h : s_res K' S M F G code) : s_step K' ((F.bind fun x => q_out x O code S).bind fun x => G.bind fun y => q_ok x ((y.1 : Int32).toInt64) y.2) := by
  rcases h with ⟨E, k, y, rfl, rfl, hc, hk⟩ | ⟨v, S', M', rfl, rfl, ht, hi⟩
  · refine ⟨S, sMD_thrown M k, O, ?_, (h0.thr k).mono hK⟩
    simp only [z_some, q_out, hc]
    exact s_ok_thr hk
  · refine ⟨S', M', vp_updL O (0 : Int32).toNatClampNeg v.toInt64, ?_, hi⟩
    simp only [z_some, q_out]
    exact s_ok_don ht
theorem s_resR.step {K : Int} {S : CM} {M : MD} {F : Option (String ⊕ Int32)} {G : Option (Int32 × MD)} {code : String → Option Int32} {O : Nat → Int64} (h0 : s_inv K S M) (h : s_resR M F G code) : s_step K ((F.bind fun x => q_outR x O code S).bind fun x => G.bind fun y => q_ok x ((y.1 : Int32).toInt64) y.2) := by
  rcases h with ⟨E, k, y, rfl, rfl, hc, hk⟩ | ⟨v, rfl, rfl⟩
  · refine ⟨S, sMD_thrown M k, O, ?_, h0.thr k⟩
    simp only [z_some, q_outR, hc]
    exact s_ok_thr hk
  · refine ⟨S, sMD_thrown M 0, vp_updL O (0 : Int32).toNatClampNeg v.toInt64, ?_, h0.thr 0⟩
    simp only [z_some, q_outR]
    exact s_ok_don rfl
