/-! the orders are carried out -/
theorem z_c11 {α : Type} (a b : α) : (if (1 : Int32) = 0 then a else b) = b := if_neg (by decide)
theorem z_c00 {α : Type} (a b : α) : (if (0 : Int32) = 0 then a else b) = a := if_pos rfl
theorem xm_loop {b : Nat → Int} {len : Nat} (hb : t_b b len) {tx : Nat → Int32} (hx : t_x b len tx) {K : Int} (hK : K < 700000000) (hK0 : 0 ≤ K) : ∀ (n a i d : Nat), i ≤ a → a ≤ len → len < n + a → s_fault b len n a = -1 → ∀ (S : CM) (M : MD) (k p m q fr nu ki f1 f2 f3 : Int32), t_x b len (MD_text M) → MD_length M = z32 len → CM_or S = OP tx (z32 len) (z32 a) (z32 (-1)) k p m q → s_inv (K + 1500 * a) S M → ∃ v S' M', f_X2_carryOut_33 n S (z32 d) (z32 i) = some (v, S') ∧ f_X3_carryOut_44 n (MP M (z32 a) fr nu ki f1 f2 f3) (z32 d) (z_B (decide (a < len))) = some (v, M') ∧ s_inv (K + 150000) S' M' := by
  have h1 := hb.1
  intro n
  induction n with
  | zero => intro a i d h2 h3 h4; omega
  | succ n ih =>
    intro a i d h2 h3 h4 hf S M k p m q fr nu ki f1 f2 f3 hxM hlM hoS hi
    rw [f_X2_carryOut_33, f_X3_carryOut_44]
    have Li : (z32 (len : Int) ≤ z32 (i : Int)) ↔ len ≤ i := (z32_le ⟨by omega, by omega⟩ ⟨by omega, by omega⟩).trans (by omega)
    rw [hoS]
    by_cases c : a < len
    · rw [decide_eq_true c, z_ift]
      show ∃ v S' M', (if z32 (len : Int) ≤ z32 (i : Int) then _ else _) = _ ∧ _
      rw [if_neg (fun z => by have := Li.mp z; omega), o_more tx h1 h3, z_some, decide_eq_true c, z_ift]
      rw [s_fault, if_neg (by omega)] at hf
      obtain ⟨o', g1, g2, g3⟩ := o_read hb hx h3 k p m q
      have ff := s_ord_f hb h3
      obtain ⟨fr', nu', ki', f1', f2', f3', g4, g5⟩ := m_order hb hxM hlM h3 fr nu ki f1 f2 f3
      cases e : (s_ord b a).1 with
      | none =>
        rw [e, if_neg (by simp)] at hf
        omega
      | some r =>
        rw [e, if_pos (by simp)] at hf
        obtain ⟨k', p', m', q', ho', hcl⟩ := g2 r e
        have hmo := g5 r e
        obtain ⟨hlt, hin⟩ := ff.2 r e
        have hle := ff.1
        generalize hj : (s_ord b a).2 = j at *
        rw [g1, z_some, z_lets, g4, z_some, e]
        have hi2 : s_inv (K + 1500 * a) (sCM_or S o') M := by
          refine ⟨hi.1, hi.2.1, ?_⟩
          rw [ho']
          obtain ⟨l2, y1, y2, y3, y4⟩ := hi.2.2
          rw [hoS] at y2 y4
          exact ⟨l2, y1, y2, y3, y4⟩
        obtain ⟨cc, T, f', w1, w2, w3⟩ := xm_obey (B := z32 (j : Int)) (fr := fr') (nu := nu') hi2 (by omega) (A := z32 (j : Int)) (E := z32 (-1)) (tx := tx) (L := z32 len) (show CM_or (sCM_or S o') = OP tx (z32 len) (z32 (j : Int)) (z32 (-1)) k' p' m' q' from ho') hcl hmo hin
        rw [w1, z_some]
        show ∃ v S' M', _ ∧ (if z_B true = 0 then _ else ((f_X3_does (MP M (z32 (j : Int)) fr' nu' ki' f1' f2' f3')).bind _)) = _ ∧ _
        rw [z_ift, w2, z_some]
        cases cc with
        | false =>
          obtain ⟨N, rfl⟩ : ∃ N, n = N + 1 := ⟨n - 1, by omega⟩
          refine ⟨z32 d, sCM_now (sCM_or S o') T, MP (sMD_now M f') (z32 (j : Int)) fr' nu' ki' f1' f2' f3', ?_, ?_, w3.mono (by omega)⟩
          · show (if ¬ z_B false = 0 then _ else some (z32 (d : Int), sCM_now (sCM_or S o') T)) = _
            rw [z_inf]
          · show (if z_B false = 0 then (if (0 : Int32) = 0 then (q_let (z32 (d : Int) + 0) fun v20 => if (0 : Int32) = 0 then f_X3_carryOut_44 (N + 1) (MP (sMD_now M f') (z32 (j : Int)) fr' nu' ki' f1' f2' f3') v20 0 else _) else _) else _) = _
            rw [z_iff, z_c00, z_lets, z_c00, f_X3_carryOut_44, z_c00, show z32 (d : Int) + 0 = z32 (d : Int) by rw [show (0 : Int32) = z32 0 from rfl, z32_add, Int.add_zero]]
        | true =>
          have Lj : (z32 (len : Int) ≤ z32 (j : Int)) ↔ len ≤ j := (z32_le ⟨by omega, by omega⟩ ⟨by omega, by omega⟩).trans (by omega)
          obtain ⟨v, S', M', u1, u2, u3⟩ := ih j (i + 1) (d + 1) (by omega) hle (by omega) hf (sCM_now (sCM_or S o') T) (sMD_now M f') k' p' m' q' fr' nu' ki' f1' f2' f3' hxM hlM ho' (w3.mono (by omega))
          refine ⟨v, S', M', ?_, ?_, u3⟩
          · show (if ¬ z_B true = 0 then (q_let (z32 (d : Int) + 1) fun v18 => q_let (z32 (i : Int) + 1) fun v19 => f_X2_carryOut_33 n (sCM_now (sCM_or S o') T) v18 v19) else _) = _
            rw [z_int, z_lets, z_lets, show (1 : Int32) = z32 1 from rfl, z32_add, z32_add]
            exact u1
          · show (if z_B true = 0 then _ else (if (1 : Int32) = 0 then _ else (q_let (z32 (d : Int) + 1) fun v30 => if (1 : Int32) = 0 then _ else (if MD_length M ≤ z32 (j : Int) then f_X3_carryOut_44 n (MP (sMD_now M f') (z32 (j : Int)) fr' nu' ki' f1' f2' f3') v30 0 else f_X3_carryOut_44 n (MP (sMD_now M f') (z32 (j : Int)) fr' nu' ki' f1' f2' f3') v30 1)))) = _
            rw [z_ift, z_c11, z_lets, z_c11, hlM, show (1 : Int32) = z32 1 from rfl, z32_add]
            by_cases g : len ≤ j
            · rw [if_pos (Lj.mpr g)]
              rw [decide_eq_false (by omega)] at u2
              exact u2
            · rw [if_neg (fun z => g (Lj.mp z))]
              rw [decide_eq_true (by omega)] at u2
              exact u2
    · refine ⟨z32 d, S, MP M (z32 a) fr nu ki f1 f2 f3, ?_, ?_, hi.mono (by omega)⟩
      · show (if z32 (len : Int) ≤ z32 (i : Int) then _ else _) = _
        by_cases g : len ≤ i
        · rw [if_pos (Li.mpr g)]
        · rw [if_neg (fun z => g (Li.mp z)), o_more tx h1 h3, z_some, decide_eq_false c, z_iff]
      · rw [decide_eq_false c, z_iff]
theorem OP_eta (o : OR) : o = OP (OR_text o) (OR_length o) (OR_at o) (OR_error o) (OR_kind o) (OR_person o) (OR_number o) (OR_points o) := rfl
theorem sc_carryOut {K : Int} {S : CM} {M : MD} (h : s_inv K S M) (hK : K < 700000000) : ∃ v S' M', f_X2_carryOut S = some (v, S') ∧ f_X3_carryOut M = some (v, M') ∧ s_inv (K + 150000) S' M' := by
  have h0 := h
  obtain ⟨⟨r, hq, hv, hr⟩, hs, len, t1, t2, t3, t4⟩ := h
  have hK0 : 0 ≤ K := by have := hv.2.1.2; omega
  obtain ⟨b, hbd⟩ : ∃ b : Nat → Int, b = fun i => if i < len then (MD_text M i).toInt else -1 := ⟨_, rfl⟩
  have hbt : ∀ i, i < len → MD_text M i = z32 (b i) ∧ 0 ≤ b i ∧ b i < 128 := by
    intro i hi
    obtain ⟨-, c, hc, e⟩ := t4 i hi
    have e2 : b i = c := by
      rw [hbd]
      show (if i < len then (MD_text M i).toInt else -1) = _
      rw [if_pos hi, e, z32_toInt (by omega) (by omega)]
    rw [e2]
    exact ⟨e, by omega, by omega⟩
  have hb : t_b b len := by
    refine ⟨t1, fun i hi => (hbt i hi).2, fun i hi => ?_⟩
    rw [hbd]
    exact if_neg (by omega)
  have hxM : t_x b len (MD_text M) := fun i hi => (hbt i hi).1
  have hxO : t_x b len (OR_text (CM_or S)) := fun i hi => by rw [(t4 i hi).1]; exact (hbt i hi).1
  have fin := s_fault_in hb 2000 0 (by omega)
  obtain ⟨A, E, k', p', m', q', g1⟩ := o_fault hb hxO 2000 0 0 (by omega) (by omega) (by omega) (OR_kind (CM_or S)) (OR_person (CM_or S)) (OR_number (CM_or S)) (OR_points (CM_or S))
  obtain ⟨A2, fr', nu', ki', y1, y2, y3, g2⟩ := m_fault hb (M := sMD_thrown M 0) hxM t3 2000 0 (by omega) (by omega) (MD_from M) (MD_number M) (MD_kind M) (MD_first M) (MD_second M) (MD_third M)
  have e1 : f_X0_errorPosition (CM_or S) = some (z32 (s_fault b len 2000 0), OP (OR_text (CM_or S)) (z32 len) A E k' p' m' q') := by
    rw [← g1, ← t2]
    rfl
  have e2 : f_X3_faultOf (sMD_thrown M 0) = some (z32 (s_fault b len 2000 0), MP (sMD_thrown M 0) A2 fr' nu' ki' y1 y2 y3) := g2
  have htx : s_txt (OP (OR_text (CM_or S)) (z32 len) A E k' p' m' q') (MD_text M) (MD_length M) := ⟨len, t1, rfl, t3, t4⟩
  unfold f_X2_carryOut f_X3_carryOut
  rw [e1, z_some, z_lets, z_lets, e2, z_some]
  have L : (z32 (s_fault b len 2000 0) = -1) ↔ s_fault b len 2000 0 = -1 := by
    rw [show (-1 : Int32) = z32 (-1) by decide]
    exact z32_eq ⟨by omega, by omega⟩ ⟨by omega, by omega⟩
  by_cases c : s_fault b len 2000 0 = -1
  · obtain ⟨S1, k1, st', a1, a2, a3, a4, a5⟩ := xm_save (S := sCM_or S (OP (OR_text (CM_or S)) (z32 len) A E k' p' m' q')) (M := MP (sMD_thrown M 0) A2 fr' nu' ki' y1 y2 y3) hq hr hv hs
    rw [if_pos (L.mpr c), if_pos (L.mpr c), a1, z_some, a2, z_some, a4]
    have inv2 : s_inv (K + 1500 * ((0 : Nat) : Int)) (sCM_or S1 (OP (OR_text (CM_or S)) (z32 len) (z32 ((0 : Nat) : Int)) (z32 (-1)) k' p' m' q')) (sMD_states (sMD_kept (sMD_thrown M 0) k1) st') := by
      rw [show K + 1500 * ((0 : Nat) : Int) = K by omega]
      refine s_inv_mk r hq hv ?_ a5 ⟨len, t1, rfl, t3, t4⟩
      show x_rel (CM_now S1) r
      rw [a3]
      exact hr
    obtain ⟨v, S', M', u1, u2, u3⟩ := xm_loop hb hxO hK hK0 2000 0 0 0 (by omega) (by omega) (by omega) c _ (sMD_states (sMD_kept (sMD_thrown M 0) k1) st') k' p' m' q' fr' nu' ki' y1 y2 y3 hxM t3 rfl inv2
    refine ⟨v, S', M', u1, ?_, u3⟩
    rw [z_lets]
    show (if MD_length M ≤ 0 then f_X3_carryOut_44 2000 (MP (sMD_states (sMD_kept (sMD_thrown M 0) k1) st') (z32 ((0 : Nat) : Int)) fr' nu' ki' y1 y2 y3) (z32 ((0 : Nat) : Int)) 0 else f_X3_carryOut_44 2000 (MP (sMD_states (sMD_kept (sMD_thrown M 0) k1) st') (z32 ((0 : Nat) : Int)) fr' nu' ki' y1 y2 y3) (z32 ((0 : Nat) : Int)) 1) = _
    have Ll : (z32 (len : Int) ≤ 0) ↔ len ≤ 0 := (z32_le (y := 0) ⟨by omega, by omega⟩ ⟨by omega, by omega⟩).trans (by omega)
    rw [t3]
    by_cases g : len ≤ 0
    · rw [if_pos (Ll.mpr g)]
      rw [decide_eq_false (by omega)] at u2
      exact u2
    · rw [if_neg (fun z => g (Ll.mp z))]
      rw [decide_eq_true (by omega)] at u2
      exact u2
  · rw [if_neg (fun z => c (L.mp z)), if_neg (fun z => c (L.mp z))]
    exact ⟨_, _, _, rfl, rfl, (show s_inv K (sCM_or S (OP (OR_text (CM_or S)) (z32 len) A E k' p' m' q')) (MP (sMD_thrown M 0) A2 fr' nu' ki' y1 y2 y3) from ⟨⟨r, hq, hv, hr⟩, hs, htx⟩).mono (by omega)⟩
