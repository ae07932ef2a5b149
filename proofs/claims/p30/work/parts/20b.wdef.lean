/-! p30: what a call does is told by the row alone -/
def w_ss (S : CM) : Prop := ∃ n : Nat, n ≤ 4 ∧ CM_ss S = z32 n
def w_exc (E : String) : Prop := E = "java/lang/IndexOutOfBoundsException" ∨ E = "java/lang/IllegalArgumentException" ∨ E = "java/lang/IllegalStateException"
theorem w_io : w_exc "java/lang/IndexOutOfBoundsException" := .inl rfl
theorem w_ia : w_exc "java/lang/IllegalArgumentException" := .inr (.inl rfl)
theorem w_is : w_exc "java/lang/IllegalStateException" := .inr (.inr rfl)
def w_go (S : CM) (F : Option (String ⊕ (Int32 × CM))) (T : Option (Int × (Int → Int))) : Prop :=
  (T = none ∧ ∃ E, w_exc E ∧ F = some (.inl E)) ∨ (∃ v r' S1 N, T = some (v, r') ∧ f_X2_save S = some S1 ∧ F = some (.inr (z32 v, sCM_now S1 N)) ∧ x_rel N r')
/-- from every object that the row r tells, the same: an exception, or the same answer and the same row behind it -/
def w_one (K : Int) (r : Int → Int) (F : CM → Option (String ⊕ (Int32 × CM))) : Prop := ∃ T, (∀ S, x_rel (CM_now S) r → w_ss S → w_go S (F S) T) ∧ ∀ v r', T = some (v, r') → (-1000 ≤ v ∧ v ≤ 1000) ∧ v_x (K + 1500) r' ∧ w_sum r' = w_sum r ∧ (w_rs r → w_rs r')
def w_call (K : Int) (F : CM → Option (String ⊕ (Int32 × CM))) : Prop := ∀ r, v_x K r → w_one K r F
theorem w_save {S : CM} (h : w_ss S) : ∃ S1, f_X2_save S = some S1 ∧ CM_now S1 = CM_now S := by
  obtain ⟨n, hn, e⟩ := h
  by_cases c : n < 4
  · obtain ⟨S1, T, a1, a2, -⟩ := x_save_less c e
    exact ⟨S1, a1, a2⟩
  · obtain rfl : n = 4 := by omega
    obtain ⟨S1, T, a1, a2, -⟩ := x_save_full e
    exact ⟨S1, a1, a2⟩
theorem w_undo {S S1 : CM} {N : ST} {r : Int → Int} (h : w_ss S) (h1 : f_X2_save S = some S1) (hx : x_rel (CM_now S) r) (hv : v_r r) : w_ss (sCM_now S1 N) ∧ ∃ v U, f_X2_undo (sCM_now S1 N) = some (.inr (v, U)) ∧ x_rel (CM_now U) r ∧ w_ss U := by
  have key : ∃ (m : Nat) (T : ST), m < 4 ∧ CM_ss S1 = z32 ((m + 1 : Nat) : Int) ∧ CM_sv S1 m = cp_ST T (CM_now S) := by
    obtain ⟨n, hn, e⟩ := h
    by_cases c : n < 4
    · obtain ⟨S2, T, a1, -, -, a4, -, a6⟩ := x_save_less c e
      rw [h1] at a1
      cases a1
      exact ⟨n, T, c, a4, a6⟩
    · obtain rfl : n = 4 := by omega
      obtain ⟨S2, T, a1, -, -, a4, -, a6⟩ := x_save_full e
      rw [h1] at a1
      cases a1
      exact ⟨3, T, by omega, a4, a6⟩
  obtain ⟨m, T, hm, k1, k2⟩ := key
  refine ⟨⟨m + 1, by omega, k1⟩, z32 m, _, x_undo_some (S := sCM_now S1 N) hm k1, ?_, ⟨m, by omega, rfl⟩⟩
  show x_rel (cp_ST N (CM_sv (sCM_now S1 N) m)) r
  rw [show CM_sv (sCM_now S1 N) m = CM_sv S1 m from rfl, k2]
  exact x_rel_cp (x_rel_cp hx hv) hv
theorem w_no {K : Int} {r : Int → Int} {F : CM → Option (String ⊕ (Int32 × CM))} {E : String} (hE : w_exc E) (h : ∀ S, x_rel (CM_now S) r → F S = some (.inl E)) : w_one K r F :=
  ⟨none, fun S hr _ => .inl ⟨rfl, E, hE, h S hr⟩, fun _ _ e => nomatch e⟩
theorem w_yes {K : Int} {r r' : Int → Int} {F : CM → Option (String ⊕ (Int32 × CM))} {v : Int} (h : ∀ S S1, x_rel (CM_now S) r → f_X2_save S = some S1 → CM_now S1 = CM_now S → ∃ N, F S = some (.inr (z32 v, sCM_now S1 N)) ∧ x_rel N r') (hv : -1000 ≤ v ∧ v ≤ 1000) (hx : v_x (K + 1500) r') (hs : w_sum r' = w_sum r) (hg : w_rs r → w_rs r') : w_one K r F := by
  refine ⟨some (v, r'), fun S hr hss => ?_, fun v2 r2 e => ?_⟩
  · obtain ⟨S1, a1, a2⟩ := w_save hss
    obtain ⟨N, b1, b2⟩ := h S S1 hr a1 a2
    exact .inr ⟨v, r', S1, N, rfl, a1, b1, b2⟩
  · cases e
    exact ⟨hv, hx, hs, hg⟩
