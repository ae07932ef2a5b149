/-! the greatest number of absences covered together: both answers -/
theorem g_getD_l : ∀ (L : List Nat) (a j : Nat), j < L.length → (L ++ [a]).getD j 0 = L.getD j 0
  | [], _, _, h => absurd h (Nat.not_lt_zero _)
  | _ :: _, _, 0, _ => rfl
  | _ :: L, a, j + 1, h => g_getD_l L a j (Nat.lt_of_succ_lt_succ h)
theorem g_getD_r : ∀ (L : List Nat) (a : Nat), (L ++ [a]).getD L.length 0 = a
  | [], _ => rfl
  | _ :: L, a => g_getD_r L a
theorem m_mc9 {K : Int} {M : MD} {r : Int → Int} (hq : q_row (MD_now M) r) (hv : v_x K r) {P N : Nat} (hP : r 3 = P ∧ P ≤ 8) (hN : r 4 = N ∧ N ≤ 30) : ∀ (f a : Nat) (pre : List Nat) (o b : Nat → Int32), a ≤ N → N < f + a → pre.length ≤ a → (∀ j, j < pre.length → o j = z32 (pre.getD j 0 : Nat) ∧ ((pre.getD j 0 : Nat) : Int) < r 4 ∧ b j = s_able r (pre.getD j 0 : Nat) P) → ∃ o' b', f_X3_mostCovered_9 f (sMD_able (sMD_open M o) b) (z32 (pre.length : Nat)) (z32 (a : Nat)) = some (if (pre ++ g_op r (N - a) a).length ≤ 5 then z32 (g_best r P (pre ++ g_op r (N - a) a) [] : Nat) else -1, sMD_able (sMD_open M o') b') := by
  intro f
  induction f with
  | zero => intro a pre o b h1 h2; omega
  | succ f ih =>
    intro a pre o b h1 h2 h3 h4
    rw [f_X3_mostCovered_9, if_pos (show q_in 4 420 = true by decide), show MD_now (sMD_able (sMD_open M o) b) (4 : Int32).toNatClampNeg = z64 N by rw [← hN.1]; exact hq.at (x := 4) (by omega), z32_to64 ⟨by omega, by omega⟩]
    have L2 : (0 ≤ lg_cmp (z64 (a : Int)) (z64 (N : Int))) ↔ N ≤ a := ((lg_cmp_ge _ _).trans (z64_le (by omega) (by omega))).trans (by omega)
    by_cases c : N ≤ a
    · rw [if_pos (L2.mpr c), show N - a = 0 by omega, g_op, List.append_nil]
      have L1 : (z32 (pre.length : Int) ≤ 5) ↔ pre.length ≤ 5 := (z32_le (y := 5) ⟨by omega, by omega⟩ ⟨by omega, by omega⟩).trans (by omega)
      by_cases d : pre.length ≤ 5
      · have e := m_mc79 (M := sMD_able (sMD_open M o) b) hq hv hP (L := pre) d h4 2000 0 (by omega) (by omega)
        have e : f_X3_mostCovered_79 2000 (sMD_able (sMD_open M o) b) (z32 (pre.length : Nat)) (z32 ((P + 1 : Nat) : Int)) 1 0 = _ := e
        refine ⟨o, b, ?_⟩
        rw [if_pos (L1.mpr d), if_pos d, if_pos (show q_in 3 420 = true by decide), z_lets, show MD_now (sMD_able (sMD_open M o) b) (3 : Int32).toNatClampNeg = z64 P by rw [← hP.1]; exact hq.at (x := 3) (by omega), z64_to32, show z32 (P : Int) + 1 = z32 ((P + 1 : Nat) : Int) by rw [show (1 : Int32) = z32 1 from rfl, z32_add]; rfl, e]
      · refine ⟨o, b, ?_⟩
        rw [if_neg (fun z => d (L1.mp z)), if_neg d]
    · have i2 := hv.1.1.2.2.2 a 2 (by omega) (by omega)
      have ea : f_X3_ofA (sMD_able (sMD_open M o) b) (z32 (a : Nat)) 2 = some (z32 (r (30 + 13 * (a : Int) + 2))) := m_ofA (M := sMD_able (sMD_open M o) b) hq (k := 2) (by omega) (by omega)
      have ej : z32 (a : Int) + 1 = z32 ((a + 1 : Nat) : Int) := by
        rw [show (1 : Int32) = z32 1 from rfl, z32_add]
        rfl
      have ei : z32 (pre.length : Int) + 1 = z32 ((pre.length + 1 : Nat) : Int) := by
        rw [show (1 : Int32) = z32 1 from rfl, z32_add]
        rfl
      have L3 : (z32 (r (30 + 13 * (a : Int) + 2)) = 0) ↔ r (30 + 13 * (a : Int) + 2) = 0 := z32_eq (y := 0) i2 ⟨by omega, by omega⟩
      rw [if_neg (fun z => c (L2.mp z)), ea, z_some, show N - a = (N - (a + 1)) + 1 by omega, g_op]
      by_cases d : r (30 + 13 * (a : Int) + 2) = 0
      · have eb : f_X3_ableFor (sMD_open (sMD_able (sMD_open M o) b) (upd (MD_open (sMD_able (sMD_open M o) b)) pre.length (z32 (a : Nat)))) (z32 (a : Nat)) = some (s_able r a P) := by
          rw [show P = (r 3).toNat by omega]
          exact m_ableFor (M := sMD_open (sMD_able (sMD_open M o) b) (upd (MD_open (sMD_able (sMD_open M o) b)) pre.length (z32 (a : Nat)))) hq hv.1 (by omega)
        obtain ⟨o', b', e⟩ := ih (a + 1) (pre ++ [a]) (upd o pre.length (z32 (a : Nat))) (upd b pre.length (s_able r a P)) (by omega) (by omega) (by rw [List.length_append, List.length_singleton]; omega) (fun j hj => by
          rw [List.length_append, List.length_singleton] at hj
          by_cases g : j = pre.length
          · subst g
            rw [g_getD_r]
            exact ⟨if_pos rfl, by omega, if_pos rfl⟩
          · rw [g_getD_l pre a j (by omega)]
            obtain ⟨x1, x2, x3⟩ := h4 j (by omega)
            exact ⟨(if_neg g).trans x1, x2, (if_neg g).trans x3⟩)
        refine ⟨o', b', ?_⟩
        rw [List.append_assoc] at e
        have e : f_X3_mostCovered_9 f (sMD_able (sMD_open M (upd o pre.length (z32 (a : Nat)))) (upd b pre.length (s_able r a P))) (z32 ((pre ++ [a]).length : Nat)) (z32 ((a + 1 : Nat) : Int)) = some (if (pre ++ a :: g_op r (N - (a + 1)) (a + 1)).length ≤ 5 then z32 (g_best r P (pre ++ a :: g_op r (N - (a + 1)) (a + 1)) [] : Nat) else -1, sMD_able (sMD_open M o') b') := e
        rw [show (pre ++ [a]).length = pre.length + 1 by rw [List.length_append, List.length_singleton]] at e
        rw [if_neg (fun z => z (L3.mpr d)), if_pos d, if_pos (z_inT ⟨by omega, by omega, by omega⟩), z_lets, z32_clamp (by omega), Int.toNat_natCast, eb, z_some, if_pos (z_inT ⟨by omega, by omega, by omega⟩), z_lets, z_lets, z_lets, ei, ej]
        exact e
      · obtain ⟨o', b', e⟩ := ih (a + 1) pre o b (by omega) (by omega) (by omega) h4
        refine ⟨o', b', ?_⟩
        rw [if_pos (fun z => d (L3.mp z)), if_neg d, z_lets, ej]
        exact e
theorem sc_mostCovered {K : Int} {S : CM} {M : MD} (h : s_inv K S M) : ∃ v S' M', f_X2_mostCovered S = some (v, S') ∧ f_X3_mostCovered M = some (v, M') ∧ s_inv K S' M' := by
  obtain ⟨⟨r, hq, hv, hr⟩, hs, ht⟩ := h
  have h3 := hv.1.1.1
  have h4 := hv.1.1.2.1
  have hP : r 3 = (((r 3).toNat : Nat) : Int) ∧ (r 3).toNat ≤ 8 := by omega
  have hN : r 4 = (((r 4).toNat : Nat) : Int) ∧ (r 4).toNat ≤ 30 := by omega
  obtain ⟨T, e1⟩ := g_class hr hv hP hN
  obtain ⟨o, b, e2⟩ := m_mc9 (M := sMD_thrown M 0) hq hv hP hN 2000 0 [] (MD_open M) (MD_able M) (by omega) (by omega) (Nat.le_refl _) (fun j hj => absurd hj (Nat.not_lt_zero _))
  have e2 : f_X3_mostCovered_9 2000 (sMD_thrown M 0) 0 0 = some (if (g_op r ((r 4).toNat - 0) 0).length ≤ 5 then z32 (g_best r (r 3).toNat (g_op r ((r 4).toNat - 0) 0) [] : Nat) else -1, sMD_able (sMD_open (sMD_thrown M 0) o) b) := e2
  rw [Nat.sub_zero] at e2
  refine ⟨_, sCM_trial S T, sMD_able (sMD_open (sMD_thrown M 0) o) b, e1, ?_, ⟨⟨r, hq, hv, hr⟩, hs, ht⟩⟩
  unfold f_X3_mostCovered
  rw [z_lets]
  exact e2
