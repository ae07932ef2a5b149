/-! p30: a turn, a script, the start -/
def w_inv (K : Int) (S : CM) : Prop := w_ss S ∧ ∃ r, v_x K r ∧ x_rel (CM_now S) r ∧ w_rs r ∧ w_sum r = 0
theorem w_end {K : Int} {S : CM} (hK : K < 800000000) (h : w_inv K S) : p_end S = some S := by
  obtain ⟨-, r, hv, hx, hg, h0⟩ := h
  unfold p_end
  rw [w_areRight hx hv hK hg h0, z_some, if_neg (by decide)]
theorem w_step {K : Int} {S : CM} (hK : K < 700000000) (h : w_inv K S) (x a b : Int32) (k : Nat) : ∃ S', p_step x a b k S = some S' ∧ w_inv (K + 1500) S' := by
  have h9 := h
  obtain ⟨hs, r, hv, hx, hg, h0⟩ := h
  obtain ⟨v0, hv0⟩ := w_view hv
  obtain ⟨d0, hd0⟩ := w_digest hx hv
  generalize hw : p_w k x = w
  obtain ⟨T, t1, t2⟩ := w_tries (K := K) (by omega) w a b hv
  unfold p_step
  rw [hv0 S hx, z_some, hd0, z_some, hw]
  rcases t1 S hx hs with ⟨-, e⟩ | ⟨v, r', S1, N, eT, e1, e, e2⟩
  · refine ⟨S, ?_, hs, r, hv.mono (by omega), hx, hg, h0⟩
    rw [e, z_some]
    unfold p_mid
    rw [if_pos rfl]
    show ((f_L_view S).bind _) = _
    rw [hv0 S hx, z_some, if_pos ((lg_cmp_eq _ _).mpr rfl)]
    show ((f_X2_digest S).bind _) = _
    rw [hd0, z_some, if_pos ((lg_cmp_eq _ _).mpr rfl)]
    exact w_end (by omega) h9
  · obtain ⟨g1, g2, g3, g4⟩ := t2 v r' eT
    obtain ⟨u1, n, U, u2, u3, u4⟩ := w_undo (N := N) hs e1 hx hv.1
    have inv1 : w_inv (K + 1500) (sCM_now S1 N) := ⟨u1, r', g2, e2, g4 hg, g3.trans h0⟩
    have hne : ¬ z32 v = -1000000000 := fun z => by
      rw [show (-1000000000 : Int32) = z32 (-1000000000) by decide] at z
      have := (z32_eq ⟨by omega, by omega⟩ ⟨by omega, by omega⟩).mp z
      omega
    rw [e, z_some]
    unfold p_mid
    rw [if_neg hne]
    by_cases c : x &&& 16 = 0
    · rw [if_pos c]
      obtain ⟨vt, hvt⟩ := w_view g2
      rcases t1 U u3 u4 with ⟨z, -⟩ | ⟨v2, r2, S2, N2, fT, f1, f, f2⟩
      · rw [z] at eT
        cases eT
      · rw [eT] at fT
        cases fT
        obtain ⟨y1, -⟩ := w_undo (N := N2) u4 f1 u3 hv.1
        have inv2 : w_inv (K + 1500) (sCM_now S2 N2) := ⟨y1, r', g2, f2, g4 hg, g3.trans h0⟩
        have key : f_L_isUndone (sCM_now S1 N) w a b (z32 v) v0 = some (1, sCM_now S2 N2) := by
          unfold f_L_isUndone
          rw [hvt (sCM_now S1 N) e2, z_some, u2, z_some]
          show ((f_L_view U).bind _) = _
          rw [hv0 U u3, z_some, if_neg (fun z => z ((lg_cmp_eq _ _).mpr rfl))]
          show ((f_L_tries U w a b).bind _) = _
          rw [f, z_some, if_neg (fun z => z rfl)]
          show ((f_L_view (sCM_now S2 N2)).bind _) = _
          rw [hvt (sCM_now S2 N2) f2, z_some, if_neg (fun z => z ((lg_cmp_eq _ _).mpr rfl))]
        refine ⟨sCM_now S2 N2, ?_, inv2⟩
        show ((f_L_isUndone (sCM_now S1 N) w a b (z32 v) v0).bind _) = _
        rw [key, z_some, if_neg (show ¬ (1 : Int32) = 0 by decide)]
        exact w_end (by omega) inv2
    · rw [if_neg c]
      exact ⟨sCM_now S1 N, w_end (by omega) inv1, inv1⟩
theorem w_run {L : Nat} {xs : Nat → Int32} {T : Nat} (hT : T ≤ 36) : ∀ (n k : Nat) (S : CM), k ≤ T → T < n + k → w_inv (1500 * (k : Int)) S → p_run L xs T n k S = some () := by
  intro n
  induction n with
  | zero => intro k S h1 h2 h; omega
  | succ n ih =>
    intro k S h1 h2 h
    rw [p_run]
    by_cases c : k < T
    · rw [if_pos c]
      obtain ⟨S', e1, e2⟩ := w_step (by omega) h (f_L_cell L xs (3 * k)) (f_L_cell L xs (3 * k + 1)) (f_L_cell L xs (3 * k + 2)) k
      rw [e1, z_some]
      refine ih (k + 1) S' (by omega) (by omega) ?_
      rw [show 1500 * ((k + 1 : Nat) : Int) = 1500 * (k : Int) + 1500 by omega]
      exact e2
    · rw [if_neg c]
/-- a fresh object's row -/
def r_0 (i : Int) : Int := if i = 0 then 1 else if i = 1 then 10 else if i = 2 then 20 else 0
theorem w_start : w_inv 0 CM0 := by
  have e3 : r_0 3 = 0 := by decide
  have e4 : r_0 4 = 0 := by decide
  have rg : ∀ i : Int, 0 ≤ r_0 i ∧ r_0 i ≤ 20 := by
    intro i
    unfold r_0
    split
    · omega
    · split
      · omega
      · split <;> omega
  refine ⟨⟨0, by omega, rfl⟩, r_0, ⟨⟨⟨by rw [e3]; omega, by rw [e4]; omega, by decide, fun a k _ _ => by have := rg (30 + 13 * a + k); omega⟩, fun p hp => by rw [e3] at hp; omega, fun a ha => by rw [e4] at ha; omega, fun p hp => by rw [e3] at hp; omega, by decide, by decide⟩, ⟨fun p hp => by rw [e3] at hp; omega, by decide⟩, fun a ha => by rw [e4] at ha; omega, fun a b h1 h2 h3 => by rw [e4] at h3; omega, fun a b h1 h2 h3 => by rw [e4] at h3; omega⟩, ⟨?_, rfl, rfl, rfl, fun p hp => by rw [e3] at hp; omega, fun a ha => by rw [e4] at ha; omega⟩, fun p t h1 h2 => by rw [e3] at h2; omega, ?_⟩
  · intro k hk
    rcases (show k = 0 ∨ k = 1 ∨ k = 2 by omega) with e | e | e <;> subst e <;> rfl
  · unfold w_sum
    rw [e3]
    rfl
theorem w_all {L : Nat} {xs : Nat → Int32} : p_run L xs (p_T L) 40 0 CM0 = some () := w_run (by unfold p_T; split <;> omega) 40 0 CM0 (Nat.zero_le _) (by unfold p_T; split <;> omega) w_start
