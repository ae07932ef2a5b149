/-! the value of a code -/
def g_cv (r : Int → Int) (d : Nat → Nat) : List Nat → Nat → g_H → Int → Int
  | [], _, _, m => m
  | a :: os, i, H, m => if d i = 0 then g_cv r d os (i + 1) H m else if g_ok r H ((d i - 1 : Nat) : Int) a = true then g_cv r d os (i + 1) ((((d i - 1 : Nat) : Int), r (30 + 13 * (a : Int) + 1)) :: H) (m + 1) else -1
theorem g_cv_congr {r : Int → Int} {d d' : Nat → Nat} : ∀ (os : List Nat) (i : Nat) (H : g_H) (m : Int), (∀ j, i ≤ j → j < i + os.length → d j = d' j) → g_cv r d os i H m = g_cv r d' os i H m
  | [], _, _, _, _ => rfl
  | a :: os, i, H, m, h => by
    rw [List.length_cons] at h
    have e := h i (by omega) (by omega)
    rw [g_cv, g_cv, e, g_cv_congr os (i + 1) H m (fun j h1 h2 => h j (by omega) (by omega)), g_cv_congr os (i + 1) _ (m + 1) (fun j h1 h2 => h j (by omega) (by omega))]
theorem g_cv_le {r : Int → Int} {P : Nat} {d : Nat → Nat} (hd : ∀ j, d j ≤ P) : ∀ (os : List Nat) (i : Nat) (H : g_H) (m : Int), 0 ≤ m → -1 ≤ g_cv r d os i H m ∧ g_cv r d os i H m ≤ m + (g_best r P os H : Nat)
  | [], _, _, m, h => by
    rw [g_cv, g_best]
    omega
  | a :: os, i, H, m, h => by
    have hdi := hd i
    have h1 := g_cv_le (r := r) hd os (i + 1) H m h
    have h2 := g_cv_le (r := r) hd os (i + 1) ((((d i - 1 : Nat) : Int), r (30 + 13 * (a : Int) + 1)) :: H) (m + 1) (by omega)
    rw [g_cv, g_best]
    by_cases c : d i = 0
    · rw [if_pos c]
      omega
    · rw [if_neg c]
      by_cases k : g_ok r H ((d i - 1 : Nat) : Int) a = true
      · have h3 := g_mp_at (f := fun p => if g_ok r H p a = true then 1 + g_best r P os (((p : Int), r (30 + 13 * (a : Int) + 1)) :: H) else 0) (p := d i - 1) (n := P) (by omega)
        have h3 : (if g_ok r H ((d i - 1 : Nat) : Int) a = true then 1 + g_best r P os ((((d i - 1 : Nat) : Int), r (30 + 13 * (a : Int) + 1)) :: H) else 0) ≤ g_mp (fun p => if g_ok r H p a = true then 1 + g_best r P os (((p : Int), r (30 + 13 * (a : Int) + 1)) :: H) else 0) P := h3
        rw [if_pos k] at h3
        rw [if_pos k]
        omega
      · rw [if_neg k]
        omega
theorem g_cv_ex {r : Int → Int} {P : Nat} : ∀ (os : List Nat) (i : Nat) (H : g_H) (m : Int), ∃ d : Nat → Nat, (∀ j, d j ≤ P) ∧ g_cv r d os i H m = m + (g_best r P os H : Nat)
  | [], _, _, m => ⟨fun _ => 0, fun _ => Nat.zero_le _, by rw [g_cv, g_best]; omega⟩
  | a :: os, i, H, m => by
    have skip : g_mp (fun p => if g_ok r H p a = true then 1 + g_best r P os (((p : Int), r (30 + 13 * (a : Int) + 1)) :: H) else 0) P ≤ g_best r P os H → ∃ d : Nat → Nat, (∀ j, d j ≤ P) ∧ g_cv r d (a :: os) i H m = m + (g_best r P (a :: os) H : Nat) := by
      intro c
      obtain ⟨d, d1, d2⟩ := g_cv_ex (r := r) (P := P) os (i + 1) H m
      refine ⟨fun j => if j = i then 0 else d j, fun j => ?_, ?_⟩
      · show (if j = i then 0 else d j) ≤ P
        have := d1 j
        split <;> omega
      · rw [g_cv, g_best, if_pos (show (if i = i then 0 else d i) = 0 from if_pos rfl)]
        rw [g_cv_congr (d' := d) os (i + 1) H m (fun j h1 h2 => if_neg (by omega)), d2]
        omega
    by_cases c : g_mp (fun p => if g_ok r H p a = true then 1 + g_best r P os (((p : Int), r (30 + 13 * (a : Int) + 1)) :: H) else 0) P ≤ g_best r P os H
    · exact skip c
    · rcases g_mp_ex (fun p => if g_ok r H p a = true then 1 + g_best r P os (((p : Int), r (30 + 13 * (a : Int) + 1)) :: H) else 0) P with h | ⟨p, h1, h2⟩
      · exact skip (by omega)
      · have h2 : (if g_ok r H p a = true then 1 + g_best r P os (((p : Int), r (30 + 13 * (a : Int) + 1)) :: H) else 0) = g_mp (fun p => if g_ok r H p a = true then 1 + g_best r P os (((p : Int), r (30 + 13 * (a : Int) + 1)) :: H) else 0) P := h2
        by_cases k : g_ok r H p a = true
        · rw [if_pos k] at h2
          obtain ⟨d, d1, d2⟩ := g_cv_ex (r := r) (P := P) os (i + 1) (((p : Int), r (30 + 13 * (a : Int) + 1)) :: H) (m + 1)
          refine ⟨fun j => if j = i then p + 1 else d j, fun j => ?_, ?_⟩
          · show (if j = i then p + 1 else d j) ≤ P
            have := d1 j
            split <;> omega
          · have e : (if i = i then p + 1 else d i) = p + 1 := if_pos rfl
            rw [g_cv, g_best]
            show (if (if i = i then p + 1 else d i) = 0 then _ else if g_ok r H (((if i = i then p + 1 else d i) - 1 : Nat) : Int) a = true then g_cv r _ os (i + 1) (((((if i = i then p + 1 else d i) - 1 : Nat) : Int), r (30 + 13 * (a : Int) + 1)) :: H) (m + 1) else -1) = _
            rw [e, if_neg (by omega), show p + 1 - 1 = p by omega, if_pos k]
            rw [g_cv_congr (d' := d) os (i + 1) _ (m + 1) (fun j h1 h2 => if_neg (by omega)), d2]
            omega
        · rw [if_neg k] at h2
          exact skip (by omega)
/-- the covers that the digits before i name -/
def g_hf (r : Int → Int) (d o : Nat → Nat) : Nat → g_H
  | 0 => []
  | i + 1 => if d i = 0 then g_hf r d o i else (((d i - 1 : Nat) : Int), r (30 + 13 * (o i : Int) + 1)) :: g_hf r d o i
def g_t (r : Int → Int) (d o : Nat → Nat) (p : Nat) (t : Int) (k : Nat) : Bool := decide (d k = p + 1) && decide (-(r 0) ≤ t - r (30 + 13 * (o k : Int) + 1) ∧ t - r (30 + 13 * (o k : Int) + 1) ≤ r 0)
theorem g_hf_cl (r : Int → Int) (d o : Nat → Nat) (p : Nat) (t : Int) : ∀ i, g_cl r (g_hf r d o i) p t = s_any (g_t r d o p t) i
  | 0 => rfl
  | i + 1 => by
    have ih := g_hf_cl r d o p t i
    rw [g_hf, s_any, ← ih]
    by_cases c : d i = 0
    · rw [if_pos c, show g_t r d o p t i = false by unfold g_t; rw [decide_eq_false (by omega), Bool.false_and], Bool.or_false]
    · rw [if_neg c]
      show ((decide (((d i - 1 : Nat) : Int) = p) && decide (-(r 0) ≤ t - r (30 + 13 * (o i : Int) + 1) ∧ t - r (30 + 13 * (o i : Int) + 1) ≤ r 0)) || g_cl r (g_hf r d o i) p t) = _
      rw [Bool.or_comm]
      unfold g_t
      rw [decide_eq_decide.mpr (show (((d i - 1 : Nat) : Int) = p) ↔ d i = p + 1 by omega)]
theorem m_cb50 {K : Int} {M : MD} {r : Int → Int} (hq : q_row (MD_now M) r) (hv : v_x K r) {B n c m i p : Nat} (hB : 0 < B ∧ B < 100) (hn : n ≤ 5) (hc : c < 100000) (hp : p < 100) {o : Nat → Nat} (ho : ∀ j, j < n → MD_open M j = z32 (o j : Nat) ∧ (o j : Int) < r 4) (hi : i < n) : ∀ (f j : Nat), j ≤ i → i < f + j → (∀ k, k < j → g_t r (g_dig B c) o p (r (30 + 13 * (o i : Int) + 1)) k = false) → f_X3_coveredBy_50 M f (z32 (c : Nat)) (z32 (n : Nat)) (z32 (B : Nat)) (z32 (m : Nat)) (z32 (i : Nat)) (z32 (p : Nat)) (z32 (j : Nat)) = some (if s_any (g_t r (g_dig B c) o p (r (30 + 13 * (o i : Int) + 1))) i = true then .inl (-1) else .inr (z32 (c : Nat), z32 (n : Nat), z32 (B : Nat), z32 (m : Nat), z32 (i : Nat))) := by
  have h4 := hv.1.1.2.1
  have h0 := hv.1.1.2.2.1
  obtain ⟨oi1, oi2⟩ := ho i hi
  have ti := (hv.1.2.2.1 (o i) ⟨by omega, oi2⟩).2
  intro f
  induction f with
  | zero => intro j h1 h2; omega
  | succ f ih =>
    intro j h1 h2 hno
    rw [f_X3_coveredBy_50]
    have L : (z32 (i : Int) ≤ z32 (j : Int)) ↔ i ≤ j := (z32_le ⟨by omega, by omega⟩ ⟨by omega, by omega⟩).trans (by omega)
    by_cases c1 : i ≤ j
    · have e : j = i := by omega
      subst e
      rw [if_pos (L.mpr c1), s_any_no.mpr hno, if_neg (by decide)]
    · obtain ⟨oj1, oj2⟩ := ho j (by omega)
      have tj := (hv.1.2.2.1 (o j) ⟨by omega, oj2⟩).2
      have dl := g_dig_lt hB.1 j c
      have ej : z32 (j : Int) + 1 = z32 ((j + 1 : Nat) : Int) := by
        rw [show (1 : Int32) = z32 1 from rfl, z32_add]
        rfl
      have ei : f_X3_ofA M (z32 (o i : Nat)) 1 = some (z32 (r (30 + 13 * (o i : Int) + 1))) := m_ofA hq (k := 1) (by omega) (by omega)
      have ek : f_X3_ofA M (z32 (o j : Nat)) 1 = some (z32 (r (30 + 13 * (o j : Int) + 1))) := m_ofA hq (k := 1) (by omega) (by omega)
      have L2 : (z32 ((g_dig B c j : Nat) - 1 : Int) = z32 (p : Int)) ↔ g_dig B c j = p + 1 := (z32_eq ⟨by omega, by omega⟩ ⟨by omega, by omega⟩).trans (by omega)
      rw [if_neg (fun z => c1 (L.mp z)), if_pos (z_inT ⟨by omega, by omega, by omega⟩), z32_clamp (by omega), Int.toNat_natCast, oi1, ei, z_some, if_pos (z_inT ⟨by omega, by omega, by omega⟩), z32_clamp (by omega), Int.toNat_natCast, oj1, ek, z_some, z_lets, m_takes hB (by omega) hc, z_some, z32_sub, ej]
      have next : g_t r (g_dig B c) o p (r (30 + 13 * (o i : Int) + 1)) j = false → f_X3_coveredBy_50 M f (z32 (c : Nat)) (z32 (n : Nat)) (z32 (B : Nat)) (z32 (m : Nat)) (z32 (i : Nat)) (z32 (p : Nat)) (z32 ((j + 1 : Nat) : Int)) = some (if s_any (g_t r (g_dig B c) o p (r (30 + 13 * (o i : Int) + 1))) i = true then .inl (-1) else .inr (z32 (c : Nat), z32 (n : Nat), z32 (B : Nat), z32 (m : Nat), z32 (i : Nat))) := fun g => ih (j + 1) (by omega) (by omega) (fun k hk => by
        by_cases e : k = j
        · rw [e]; exact g
        · exact hno k (by omega))
      by_cases c2 : g_dig B c j = p + 1
      · rw [if_neg (fun z => z (L2.mpr c2)), if_pos (show q_in 0 420 = true by decide), if_pos (show q_in 0 420 = true by decide), show MD_now M (0 : Int32).toNatClampNeg = z64 (r 0) from hq.at (x := 0) (by omega), z64_neg, z32_to64 ⟨by omega, by omega⟩, m_isIn (by omega) (by omega) (by omega), z_some]
        have eg : g_t r (g_dig B c) o p (r (30 + 13 * (o i : Int) + 1)) j = decide (-(r 0) ≤ r (30 + 13 * (o i : Int) + 1) - r (30 + 13 * (o j : Int) + 1) ∧ r (30 + 13 * (o i : Int) + 1) - r (30 + 13 * (o j : Int) + 1) ≤ r 0) := by
          unfold g_t
          rw [decide_eq_true c2, Bool.true_and]
        rw [← eg]
        by_cases g : g_t r (g_dig B c) o p (r (30 + 13 * (o i : Int) + 1)) j = true
        · rw [g, z_ift, s_any_iff.mpr ⟨j, by omega, g⟩, if_pos rfl]
        · have g : g_t r (g_dig B c) o p (r (30 + 13 * (o i : Int) + 1)) j = false := eq_false_of_ne_true g
          rw [g, z_iff, z_lets]
          exact next g
      · rw [if_pos (fun z => c2 (L2.mp z)), z_lets]
        exact next (by unfold g_t; rw [decide_eq_false c2, Bool.false_and])
theorem g_drop : ∀ (L : List Nat) (i : Nat), i < L.length → L.drop i = L.getD i 0 :: L.drop (i + 1)
  | [], _, h => absurd h (Nat.not_lt_zero _)
  | _ :: _, 0, _ => rfl
  | _ :: L, i + 1, h => g_drop L i (Nat.lt_of_succ_lt_succ h)
