def f_L_any (S : CM) (p1 : Int32) (p2 : Int32) : Option (String ⊕ (Int32 × CM)) := if (p2 &&& 7) = 0 then
 ((f_X2_set S p1 p2).bind fun r2 =>
 q_exc r2 fun z5 =>
 some (.inr (z5.1, z5.2)))
 else (if (p2 &&& 7) = 1 then
 ((f_X2_addPerson S (((p1 : Int32).toInt64) * ((p2 : Int32).toInt64))).bind fun r6 =>
 q_exc r6 fun z9 =>
 some (.inr (z9.1, z9.2)))
 else (if (p2 &&& 7) = 2 then
 ((f_X2_roster S p1 p2 1).bind fun r10 =>
 q_exc r10 fun z13 =>
 some (.inr (z13.1, z13.2)))
 else (if (p2 &&& 7) = 3 then
 ((f_X2_absent S p1 p2).bind fun r14 =>
 q_exc r14 fun z17 =>
 some (.inr (z17.1, z17.2)))
 else (if (p2 &&& 7) = 4 then
 ((f_X2_bid S p1 p2 p1).bind fun r18 =>
 q_exc r18 fun z21 =>
 some (.inr (z21.1, z21.2)))
 else (if (p2 &&& 7) = 5 then
 ((f_X2_cover S p1).bind fun r22 =>
 q_exc r22 fun z25 =>
 some (.inr (z25.1, z25.2)))
 else (if (p2 &&& 7) = 6 then
 ((f_X2_handOver S p1 p2).bind fun r26 =>
 q_exc r26 fun z29 =>
 some (.inr (z29.1, z29.2)))
 else ((f_X2_giveUp S p1).bind fun r30 =>
 q_exc r30 fun z33 =>
 some (.inr (z33.1, z33.2)))))))))
abbrev rL_any : Room := { frames := 8, cells := 4, slots := 24, locals := 135 }
set_option maxRecDepth 100000 in
set_option maxHeartbeats 4000000 in
theorem c_L_any (l : Launch) (hlt : l.stackTraces = false) (D : va_G) (cI cJ cS : ClassId) (sa : Nat → Nat) (A : Nat → Nat → Nat) (g : Nat → Option Nat) (B : Nat → Nat → Nat) (hg : ∀ i, i < 4 → g i = some (B i 0)) (S : CM) (sz : Nat) (p1 : Int32) (p2 : Int32) (o : (String ⊕ (Int32 × CM))) (hf : f_L_any S p1 p2 = some o) : vx_Met l yL_any wsL_any rL_any (va_Pc [.ref (A 3 0), .int p1, .int p2] (q_BWX D cI cJ cS sa (wCM cI cJ cS A g B S) sz)) (q_XW (fun r => some (.int r)) o D cI cJ cS A (wCM cI cJ cS A g B S) sz) (q_XC o) 4 24 (va_A (wCM cI cJ cS A g B S) sz) := by
  refine vx_ofW (cc := cL_any) (maxL := 3) (ret := some .int) (by decide) rfl ?_
  intro p e s m args below meth c s₁ B9 hml htab hv
  obtain ⟨rfl, hsz, hP, hE, hD0, hES, hZ⟩ := hv
  have hx := B9.exec
  have hb := B9.bytes
  have hr := B9.returns
  have hts := atoms_spec (ws := wsL_any) B9.pre
  have hown : s.vm.findClass RL = some m.cls := findClass_of_methodNamed B9.named
  have hlocks := B9.notSynchronized
  have hu1 : ∀ z ∈ wsX10, z.before _ s = true := fun z h => hts z (List.mem_cons_of_mem _ (List.mem_append_left _ (List.mem_append_left _ (List.mem_append_left _ (List.mem_append_right _ h)))))
  have hu2 : ∀ z ∈ wsX20, z.before _ s = true := fun z h => hts z (List.mem_cons_of_mem _ (List.mem_append_left _ (List.mem_append_left _ (List.mem_append_left _ (List.mem_append_left _ (List.mem_append_right _ h))))))
  subst hsz
  have hD := hD0.self (sz := s.heap.size)
  have hS : va_S (va_A (wCM cI cJ cS A g B S) s.heap.size) s.heap s.heap [] := va_S.rf
  have hl := lv_entry ([.ref (A 3 0), .int p1, .int p2]) (n := 3) (Nat.le_of_ble_eq_true rfl)
  rw [lg_entry_eq]
  generalize (lg_sl ([.ref (A 3 0), .int p1, .int p2]) ++ List.replicate (3 - (lg_sl ([.ref (A 3 0), .int p1, .int p2])).length) Slot.unset).toArray = ls at hl ⊢
  have hl : lv_has ls 3 [(0, .ref (A 3 0)), (1, .int p1), (2, .int p2)] := hl
  unfold f_L_any at hf
  refine lv_iload_n hx hb dL_any_0 rfl (lv_at hl 2 rfl) ?_
  refine lv_bipush (v := 7) hx hb dL_any_1 (by decide) ?_
  refine lv_iand hx hb dL_any_3 ?_
  by_cases c1_0 : (p2 &&& 7) = 0
  · have hf := q_ite_t c1_0 hf
    refine lv_tableIn (tgt := 48) hx hb dL_any_4 (by rw [c1_0]; decide) (by rw [c1_0]; decide) (by rw [c1_0]; rfl) (by decide) ?_
    refine lv_aload_n hx hb dL_any_48 rfl (lv_at hl 0 rfl) ?_
    refine lv_iload_n hx hb dL_any_49 rfl (lv_at hl 1 rfl) ?_
    refine lv_iload_n hx hb dL_any_50 rfl (lv_at hl 2 rfl) ?_
    obtain ⟨r2, hr2, hf⟩ := q_bd_go hf
    refine q_thV (ci := 2) (As := [.int p1, .int p2]) (rest := []) hx hb hml hown hts hlocks htab (c_X2_set l hlt D cI cJ cS sa A g B hg S _ p1 p2 _ hr2) (cwV 2 hts gL_any_X2_set rfl rfl rfl (by decide +kernel) ⟨(Nat.le_of_ble_eq_true rfl), (Nat.le_of_ble_eq_true rfl)⟩) hE hES hZ hP hD (fun q h => Or.inr h) rfl rfl rfl hl.1 rfl (Nat.le_of_ble_eq_true rfl) dL_any_51 ⟨(Nat.le_of_ble_eq_true rfl), (Nat.le_of_ble_eq_true rfl)⟩ (fun E e => q_exc_l hf E e) (Nat.le_of_ble_eq_true rfl) (Nat.le_of_ble_eq_true rfl) (fun z5 g3 B4 H locs er2 hg hP hD hS => ?_)
    have hf := q_exc_r hf er2
    have ho := q_some hf
    refine vx_ret ?_
    refine W.widen (k := 4) (n := 24) (Nat.le_of_ble_eq_true rfl) (Nat.le_of_ble_eq_true rfl) ?_
    exact W.iret hx hb hr (fun t ht hW => ⟨_, ho.symm, rfl, ⟨_, ⟨g3, B4, hg, rfl⟩, by rw [ht]; exact hP, hD⟩, hS.F ht⟩) hS.2.2 dL_any_54
  have hf := q_ite_f c1_0 hf
  by_cases c1_1 : (p2 &&& 7) = 1
  · have hf := q_ite_t c1_1 hf
    refine lv_tableIn (tgt := 55) hx hb dL_any_4 (by rw [c1_1]; decide) (by rw [c1_1]; decide) (by rw [c1_1]; rfl) (by decide) ?_
    refine lv_aload_n hx hb dL_any_55 rfl (lv_at hl 0 rfl) ?_
    refine lv_iload_n hx hb dL_any_56 rfl (lv_at hl 1 rfl) ?_
    refine lv_i2l (v := ((p1 : Int32).toInt64)) hx hb dL_any_57 rfl ?_
    refine lv_iload_n hx hb dL_any_58 rfl (lv_at hl 2 rfl) ?_
    refine lv_i2l (v := ((p2 : Int32).toInt64)) hx hb dL_any_59 rfl ?_
    refine lv_lmul hx hb dL_any_60 ?_
    obtain ⟨r6, hr6, hf⟩ := q_bd_go hf
    refine q_thV (ci := 2) (As := [.long (((p1 : Int32).toInt64) * ((p2 : Int32).toInt64))]) (rest := []) hx hb hml hown hts hlocks htab (c_X2_addPerson l hlt D cI cJ cS sa A g B hg S _ (((p1 : Int32).toInt64) * ((p2 : Int32).toInt64)) _ hr6) (cwV 1 hts gL_any_X2_addPerson rfl rfl rfl (by decide +kernel) ⟨(Nat.le_of_ble_eq_true rfl), (Nat.le_of_ble_eq_true rfl)⟩) hE hES hZ hP hD (fun q h => Or.inr h) rfl rfl rfl hl.1 rfl (Nat.le_of_ble_eq_true rfl) dL_any_61 ⟨(Nat.le_of_ble_eq_true rfl), (Nat.le_of_ble_eq_true rfl)⟩ (fun E e => q_exc_l hf E e) (Nat.le_of_ble_eq_true rfl) (Nat.le_of_ble_eq_true rfl) (fun z9 g7 B8 H locs er6 hg hP hD hS => ?_)
    have hf := q_exc_r hf er6
    have ho := q_some hf
    refine vx_ret ?_
    refine W.widen (k := 4) (n := 24) (Nat.le_of_ble_eq_true rfl) (Nat.le_of_ble_eq_true rfl) ?_
    exact W.iret hx hb hr (fun t ht hW => ⟨_, ho.symm, rfl, ⟨_, ⟨g7, B8, hg, rfl⟩, by rw [ht]; exact hP, hD⟩, hS.F ht⟩) hS.2.2 dL_any_64
  have hf := q_ite_f c1_1 hf
  by_cases c1_2 : (p2 &&& 7) = 2
  · have hf := q_ite_t c1_2 hf
    refine lv_tableIn (tgt := 65) hx hb dL_any_4 (by rw [c1_2]; decide) (by rw [c1_2]; decide) (by rw [c1_2]; rfl) (by decide) ?_
    refine lv_aload_n hx hb dL_any_65 rfl (lv_at hl 0 rfl) ?_
    refine lv_iload_n hx hb dL_any_66 rfl (lv_at hl 1 rfl) ?_
    refine lv_iload_n hx hb dL_any_67 rfl (lv_at hl 2 rfl) ?_
    refine lv_iconst (v := 1) hx hb dL_any_68 (by decide) ?_
    obtain ⟨r10, hr10, hf⟩ := q_bd_go hf
    refine q_thV (ci := 2) (As := [.int p1, .int p2, .int 1]) (rest := []) hx hb hml hown hts hlocks htab (c_X2_roster l hlt D cI cJ cS sa A g B hg S _ p1 p2 1 _ hr10) (cwV 3 hts gL_any_X2_roster rfl rfl rfl (by decide +kernel) ⟨(Nat.le_of_ble_eq_true rfl), (Nat.le_of_ble_eq_true rfl)⟩) hE hES hZ hP hD (fun q h => Or.inr h) rfl rfl rfl hl.1 rfl (Nat.le_of_ble_eq_true rfl) dL_any_69 ⟨(Nat.le_of_ble_eq_true rfl), (Nat.le_of_ble_eq_true rfl)⟩ (fun E e => q_exc_l hf E e) (Nat.le_of_ble_eq_true rfl) (Nat.le_of_ble_eq_true rfl) (fun z13 g11 B12 H locs er10 hg hP hD hS => ?_)
    have hf := q_exc_r hf er10
    have ho := q_some hf
    refine vx_ret ?_
    refine W.widen (k := 4) (n := 24) (Nat.le_of_ble_eq_true rfl) (Nat.le_of_ble_eq_true rfl) ?_
    exact W.iret hx hb hr (fun t ht hW => ⟨_, ho.symm, rfl, ⟨_, ⟨g11, B12, hg, rfl⟩, by rw [ht]; exact hP, hD⟩, hS.F ht⟩) hS.2.2 dL_any_72
  have hf := q_ite_f c1_2 hf
  by_cases c1_3 : (p2 &&& 7) = 3
  · have hf := q_ite_t c1_3 hf
    refine lv_tableIn (tgt := 73) hx hb dL_any_4 (by rw [c1_3]; decide) (by rw [c1_3]; decide) (by rw [c1_3]; rfl) (by decide) ?_
    refine lv_aload_n hx hb dL_any_73 rfl (lv_at hl 0 rfl) ?_
    refine lv_iload_n hx hb dL_any_74 rfl (lv_at hl 1 rfl) ?_
    refine lv_iload_n hx hb dL_any_75 rfl (lv_at hl 2 rfl) ?_
    obtain ⟨r14, hr14, hf⟩ := q_bd_go hf
    refine q_thV (ci := 2) (As := [.int p1, .int p2]) (rest := []) hx hb hml hown hts hlocks htab (c_X2_absent l hlt D cI cJ cS sa A g B hg S _ p1 p2 _ hr14) (cwV 2 hts gL_any_X2_absent rfl rfl rfl (by decide +kernel) ⟨(Nat.le_of_ble_eq_true rfl), (Nat.le_of_ble_eq_true rfl)⟩) hE hES hZ hP hD (fun q h => Or.inr h) rfl rfl rfl hl.1 rfl (Nat.le_of_ble_eq_true rfl) dL_any_76 ⟨(Nat.le_of_ble_eq_true rfl), (Nat.le_of_ble_eq_true rfl)⟩ (fun E e => q_exc_l hf E e) (Nat.le_of_ble_eq_true rfl) (Nat.le_of_ble_eq_true rfl) (fun z17 g15 B16 H locs er14 hg hP hD hS => ?_)
    have hf := q_exc_r hf er14
    have ho := q_some hf
    refine vx_ret ?_
    refine W.widen (k := 4) (n := 24) (Nat.le_of_ble_eq_true rfl) (Nat.le_of_ble_eq_true rfl) ?_
    exact W.iret hx hb hr (fun t ht hW => ⟨_, ho.symm, rfl, ⟨_, ⟨g15, B16, hg, rfl⟩, by rw [ht]; exact hP, hD⟩, hS.F ht⟩) hS.2.2 dL_any_79
  have hf := q_ite_f c1_3 hf
  by_cases c1_4 : (p2 &&& 7) = 4
  · have hf := q_ite_t c1_4 hf
    refine lv_tableIn (tgt := 80) hx hb dL_any_4 (by rw [c1_4]; decide) (by rw [c1_4]; decide) (by rw [c1_4]; rfl) (by decide) ?_
    refine lv_aload_n hx hb dL_any_80 rfl (lv_at hl 0 rfl) ?_
    refine lv_iload_n hx hb dL_any_81 rfl (lv_at hl 1 rfl) ?_
    refine lv_iload_n hx hb dL_any_82 rfl (lv_at hl 2 rfl) ?_
    refine lv_iload_n hx hb dL_any_83 rfl (lv_at hl 1 rfl) ?_
    obtain ⟨r18, hr18, hf⟩ := q_bd_go hf
    refine q_thV (ci := 2) (As := [.int p1, .int p2, .int p1]) (rest := []) hx hb hml hown hts hlocks htab (c_X2_bid l hlt D cI cJ cS sa A g B hg S _ p1 p2 p1 _ hr18) (cwV 3 hts gL_any_X2_bid rfl rfl rfl (by decide +kernel) ⟨(Nat.le_of_ble_eq_true rfl), (Nat.le_of_ble_eq_true rfl)⟩) hE hES hZ hP hD (fun q h => Or.inr h) rfl rfl rfl hl.1 rfl (Nat.le_of_ble_eq_true rfl) dL_any_84 ⟨(Nat.le_of_ble_eq_true rfl), (Nat.le_of_ble_eq_true rfl)⟩ (fun E e => q_exc_l hf E e) (Nat.le_of_ble_eq_true rfl) (Nat.le_of_ble_eq_true rfl) (fun z21 g19 B20 H locs er18 hg hP hD hS => ?_)
    have hf := q_exc_r hf er18
    have ho := q_some hf
    refine vx_ret ?_
    refine W.widen (k := 4) (n := 24) (Nat.le_of_ble_eq_true rfl) (Nat.le_of_ble_eq_true rfl) ?_
    exact W.iret hx hb hr (fun t ht hW => ⟨_, ho.symm, rfl, ⟨_, ⟨g19, B20, hg, rfl⟩, by rw [ht]; exact hP, hD⟩, hS.F ht⟩) hS.2.2 dL_any_87
  have hf := q_ite_f c1_4 hf
  by_cases c1_5 : (p2 &&& 7) = 5
  · have hf := q_ite_t c1_5 hf
    refine lv_tableIn (tgt := 88) hx hb dL_any_4 (by rw [c1_5]; decide) (by rw [c1_5]; decide) (by rw [c1_5]; rfl) (by decide) ?_
    refine lv_aload_n hx hb dL_any_88 rfl (lv_at hl 0 rfl) ?_
    refine lv_iload_n hx hb dL_any_89 rfl (lv_at hl 1 rfl) ?_
    obtain ⟨r22, hr22, hf⟩ := q_bd_go hf
    refine q_thV (ci := 2) (As := [.int p1]) (rest := []) hx hb hml hown hts hlocks htab (c_X2_cover l hlt D cI cJ cS sa A g B hg S _ p1 _ hr22) (cwV 1 hts gL_any_X2_cover rfl rfl rfl (by decide +kernel) ⟨(Nat.le_of_ble_eq_true rfl), (Nat.le_of_ble_eq_true rfl)⟩) hE hES hZ hP hD (fun q h => Or.inr h) rfl rfl rfl hl.1 rfl (Nat.le_of_ble_eq_true rfl) dL_any_90 ⟨(Nat.le_of_ble_eq_true rfl), (Nat.le_of_ble_eq_true rfl)⟩ (fun E e => q_exc_l hf E e) (Nat.le_of_ble_eq_true rfl) (Nat.le_of_ble_eq_true rfl) (fun z25 g23 B24 H locs er22 hg hP hD hS => ?_)
    have hf := q_exc_r hf er22
    have ho := q_some hf
    refine vx_ret ?_
    refine W.widen (k := 4) (n := 24) (Nat.le_of_ble_eq_true rfl) (Nat.le_of_ble_eq_true rfl) ?_
    exact W.iret hx hb hr (fun t ht hW => ⟨_, ho.symm, rfl, ⟨_, ⟨g23, B24, hg, rfl⟩, by rw [ht]; exact hP, hD⟩, hS.F ht⟩) hS.2.2 dL_any_93
  have hf := q_ite_f c1_5 hf
  by_cases c1_6 : (p2 &&& 7) = 6
  · have hf := q_ite_t c1_6 hf
    refine lv_tableIn (tgt := 94) hx hb dL_any_4 (by rw [c1_6]; decide) (by rw [c1_6]; decide) (by rw [c1_6]; rfl) (by decide) ?_
    refine lv_aload_n hx hb dL_any_94 rfl (lv_at hl 0 rfl) ?_
    refine lv_iload_n hx hb dL_any_95 rfl (lv_at hl 1 rfl) ?_
    refine lv_iload_n hx hb dL_any_96 rfl (lv_at hl 2 rfl) ?_
    obtain ⟨r26, hr26, hf⟩ := q_bd_go hf
    refine q_thV (ci := 2) (As := [.int p1, .int p2]) (rest := []) hx hb hml hown hts hlocks htab (c_X2_handOver l hlt D cI cJ cS sa A g B hg S _ p1 p2 _ hr26) (cwV 2 hts gL_any_X2_handOver rfl rfl rfl (by decide +kernel) ⟨(Nat.le_of_ble_eq_true rfl), (Nat.le_of_ble_eq_true rfl)⟩) hE hES hZ hP hD (fun q h => Or.inr h) rfl rfl rfl hl.1 rfl (Nat.le_of_ble_eq_true rfl) dL_any_97 ⟨(Nat.le_of_ble_eq_true rfl), (Nat.le_of_ble_eq_true rfl)⟩ (fun E e => q_exc_l hf E e) (Nat.le_of_ble_eq_true rfl) (Nat.le_of_ble_eq_true rfl) (fun z29 g27 B28 H locs er26 hg hP hD hS => ?_)
    have hf := q_exc_r hf er26
    have ho := q_some hf
    refine vx_ret ?_
    refine W.widen (k := 4) (n := 24) (Nat.le_of_ble_eq_true rfl) (Nat.le_of_ble_eq_true rfl) ?_
    exact W.iret hx hb hr (fun t ht hW => ⟨_, ho.symm, rfl, ⟨_, ⟨g27, B28, hg, rfl⟩, by rw [ht]; exact hP, hD⟩, hS.F ht⟩) hS.2.2 dL_any_100
  have hf := q_ite_f c1_6 hf
  have zc1_0 := lv_neT (a := 0) c1_0 (by decide)
  have zc1_1 := lv_neT (a := 1) c1_1 (by decide)
  have zc1_2 := lv_neT (a := 2) c1_2 (by decide)
  have zc1_3 := lv_neT (a := 3) c1_3 (by decide)
  have zc1_4 := lv_neT (a := 4) c1_4 (by decide)
  have zc1_5 := lv_neT (a := 5) c1_5 (by decide)
  have zc1_6 := lv_neT (a := 6) c1_6 (by decide)
  refine lv_tableOut (tgt := 101) hx hb dL_any_4 (by omega) (by decide) ?_
  refine lv_aload_n hx hb dL_any_101 rfl (lv_at hl 0 rfl) ?_
  refine lv_iload_n hx hb dL_any_102 rfl (lv_at hl 1 rfl) ?_
  obtain ⟨r30, hr30, hf⟩ := q_bd_go hf
  refine q_thV (ci := 2) (As := [.int p1]) (rest := []) hx hb hml hown hts hlocks htab (c_X2_giveUp l hlt D cI cJ cS sa A g B hg S _ p1 _ hr30) (cwV 1 hts gL_any_X2_giveUp rfl rfl rfl (by decide +kernel) ⟨(Nat.le_of_ble_eq_true rfl), (Nat.le_of_ble_eq_true rfl)⟩) hE hES hZ hP hD (fun q h => Or.inr h) rfl rfl rfl hl.1 rfl (Nat.le_of_ble_eq_true rfl) dL_any_103 ⟨(Nat.le_of_ble_eq_true rfl), (Nat.le_of_ble_eq_true rfl)⟩ (fun E e => q_exc_l hf E e) (Nat.le_of_ble_eq_true rfl) (Nat.le_of_ble_eq_true rfl) (fun z33 g31 B32 H locs er30 hg hP hD hS => ?_)
  have hf := q_exc_r hf er30
  have ho := q_some hf
  refine vx_ret ?_
  refine W.widen (k := 4) (n := 24) (Nat.le_of_ble_eq_true rfl) (Nat.le_of_ble_eq_true rfl) ?_
  exact W.iret hx hb hr (fun t ht hW => ⟨_, ho.symm, rfl, ⟨_, ⟨g31, B32, hg, rfl⟩, by rw [ht]; exact hP, hD⟩, hS.F ht⟩) hS.2.2 dL_any_106
def f_L_turn (S : CM) (p1 : Int32) (p2 : Int32) (p3 : Int32) : Option (String ⊕ (Int32 × CM)) := (f_L_up p2 6).bind fun r1 =>
 (f_L_up p3 8).bind fun r2 =>
 if p1 = 0 then
 ((f_L_up p2 3).bind fun r4 =>
 if ¬ (p2 &&& 4) = 0 then
 ((f_L_up p3 51).bind fun r6 =>
 (f_X2_set S r4 r6).bind fun r7 =>
 q_exc r7 fun z10 =>
 some (.inr (z10.1, z10.2)))
 else ((f_L_up p3 6).bind fun r11 =>
 (f_X2_set S r4 r11).bind fun r12 =>
 q_exc r12 fun z15 =>
 some (.inr (z15.1, z15.2))))
 else (if p1 = 1 then
 ((f_L_some p2 p3).bind fun r16 =>
 (f_X2_addPerson S r16).bind fun r17 =>
 q_exc r17 fun z20 =>
 some (.inr (z20.1, z20.2)))
 else (if p1 = 2 then
 ((f_L_up p3 42).bind fun r21 =>
 if ¬ (p2 &&& 64) = 0 then
 ((f_X2_roster S r1 r21 0).bind fun r23 =>
 q_exc r23 fun z26 =>
 some (.inr (z26.1, z26.2)))
 else ((f_X2_roster S r1 r21 1).bind fun r27 =>
 q_exc r27 fun z30 =>
 some (.inr (z30.1, z30.2))))
 else (if p1 = 3 then
 (if ¬ (p2 &&& 64) = 0 then
 ((f_L_up p3 42).bind fun r32 =>
 (f_X2_absent S r1 r32).bind fun r33 =>
 q_exc r33 fun z36 =>
 some (.inr (z36.1, z36.2)))
 else ((f_L_up p3 12).bind fun r37 =>
 (f_X2_absent S r1 r37).bind fun r38 =>
 q_exc r38 fun z41 =>
 some (.inr (z41.1, z41.2))))
 else (if p1 = 4 then
 (if ¬ (p2 &&& 64) = 0 then
 ((f_L_up p3 42).bind fun r43 =>
 (f_X2_absent S r1 r43).bind fun r44 =>
 q_exc r44 fun z47 =>
 some (.inr (z47.1, z47.2)))
 else ((f_L_up p3 12).bind fun r48 =>
 (f_X2_absent S r1 r48).bind fun r49 =>
 q_exc r49 fun z52 =>
 some (.inr (z52.1, z52.2))))
 else (if p1 = 5 then
 (if ¬ (p2 &&& 64) = 0 then
 ((f_L_up p3 42).bind fun r54 =>
 (f_X2_absent S r1 r54).bind fun r55 =>
 q_exc r55 fun z58 =>
 some (.inr (z58.1, z58.2)))
 else ((f_L_up p3 12).bind fun r59 =>
 (f_X2_absent S r1 r59).bind fun r60 =>
 q_exc r60 fun z63 =>
 some (.inr (z63.1, z63.2))))
 else (if p1 = 6 then
 ((f_L_up (p2 >>> (4 &&& 31)) 21).bind fun r64 =>
 (f_X2_bid S r1 r2 r64).bind fun r65 =>
 q_exc r65 fun z68 =>
 some (.inr (z68.1, z68.2)))
 else (if p1 = 7 then
 ((f_L_up (p2 >>> (4 &&& 31)) 21).bind fun r69 =>
 (f_X2_bid S r1 r2 r69).bind fun r70 =>
 q_exc r70 fun z73 =>
 some (.inr (z73.1, z73.2)))
 else (if p1 = 8 then
 ((f_L_up (p2 >>> (4 &&& 31)) 21).bind fun r74 =>
 (f_X2_bid S r1 r2 r74).bind fun r75 =>
 q_exc r75 fun z78 =>
 some (.inr (z78.1, z78.2)))
 else (if p1 = 9 then
 ((f_X2_takeBack S r1 r2).bind fun r79 =>
 q_exc r79 fun z82 =>
 some (.inr (z82.1, z82.2)))
 else (if p1 = 10 then
 ((f_X2_cover S r2).bind fun r83 =>
 q_exc r83 fun z86 =>
 some (.inr (z86.1, z86.2)))
 else (if p1 = 11 then
 ((f_X2_cover S r2).bind fun r87 =>
 q_exc r87 fun z90 =>
 some (.inr (z90.1, z90.2)))
 else (if p1 = 12 then
 ((f_X2_coverAll S ).bind fun r91 =>
 some (.inr (r91.1, r91.2)))
 else (if p1 = 13 then
 ((f_X2_handOver S r2 r1).bind fun r94 =>
 q_exc r94 fun z97 =>
 some (.inr (z97.1, z97.2)))
 else (if p1 = 14 then
 ((f_X2_giveUp S r2).bind fun r98 =>
 q_exc r98 fun z101 =>
 some (.inr (z101.1, z101.2)))
 else ((f_L_any S p2 p3).bind fun r102 =>
 q_exc r102 fun z105 =>
 some (.inr (z105.1, z105.2)))))))))))))))))
abbrev rL_turn : Room := { frames := 9, cells := 4, slots := 24, locals := 157 }
set_option maxRecDepth 100000 in
set_option maxHeartbeats 4000000 in
theorem c_L_turn (l : Launch) (hlt : l.stackTraces = false) (D : va_G) (cI cJ cS : ClassId) (sa : Nat → Nat) (A : Nat → Nat → Nat) (g : Nat → Option Nat) (B : Nat → Nat → Nat) (hg : ∀ i, i < 4 → g i = some (B i 0)) (S : CM) (sz : Nat) (p1 : Int32) (p2 : Int32) (p3 : Int32) (o : (String ⊕ (Int32 × CM))) (hf : f_L_turn S p1 p2 p3 = some o) : vx_Met l yL_turn wsL_turn rL_turn (va_Pc [.ref (A 3 0), .int p1, .int p2, .int p3] (q_BWX D cI cJ cS sa (wCM cI cJ cS A g B S) sz)) (q_XW (fun r => some (.int r)) o D cI cJ cS A (wCM cI cJ cS A g B S) sz) (q_XC o) 4 24 (va_A (wCM cI cJ cS A g B S) sz) := by
  refine vx_ofW (cc := cL_turn) (maxL := 6) (ret := some .int) (by decide) rfl ?_
  intro p e s m args below meth c s₁ B9 hml htab hv
  obtain ⟨rfl, hsz, hP, hE, hD0, hES, hZ⟩ := hv
  have hx := B9.exec
  have hb := B9.bytes
  have hr := B9.returns
  have hts := atoms_spec (ws := wsL_turn) B9.pre
  have hown : s.vm.findClass RL = some m.cls := findClass_of_methodNamed B9.named
  have hlocks := B9.notSynchronized
  have hu1 : ∀ z ∈ wsX10, z.before _ s = true := fun z h => hts z (List.mem_cons_of_mem _ (List.mem_append_left _ (List.mem_append_left _ (List.mem_append_left _ (List.mem_append_right _ h)))))
  have hu2 : ∀ z ∈ wsX20, z.before _ s = true := fun z h => hts z (List.mem_cons_of_mem _ (List.mem_append_left _ (List.mem_append_left _ (List.mem_append_left _ (List.mem_append_left _ (List.mem_append_right _ h))))))
  subst hsz
  have hD := hD0.self (sz := s.heap.size)
  have hS : va_S (va_A (wCM cI cJ cS A g B S) s.heap.size) s.heap s.heap [] := va_S.rf
  have hl := lv_entry ([.ref (A 3 0), .int p1, .int p2, .int p3]) (n := 6) (Nat.le_of_ble_eq_true rfl)
  rw [lg_entry_eq]
  generalize (lg_sl ([.ref (A 3 0), .int p1, .int p2, .int p3]) ++ List.replicate (6 - (lg_sl ([.ref (A 3 0), .int p1, .int p2, .int p3])).length) Slot.unset).toArray = ls at hl ⊢
  have hl : lv_has ls 6 [(0, .ref (A 3 0)), (1, .int p1), (2, .int p2), (3, .int p3)] := hl
  unfold f_L_turn at hf
  refine lv_iload_n hx hb dL_turn_0 rfl (lv_at hl 2 rfl) ?_
  refine lv_bipush (v := 6) hx hb dL_turn_1 (by decide) ?_
  obtain ⟨r1, hr1, hf⟩ := q_bd_go hf
  refine q_rdSi (As := [.int p2, .int 6]) (rest := []) hx hb hml hown hts (c_L_up l D cI cJ cS p2 6 _ hr1) (va_cwS 2 hts gL_turn_L_up rfl rfl rfl (by decide +kernel) ⟨(Nat.le_of_ble_eq_true rfl), (Nat.le_of_ble_eq_true rfl)⟩) hE rfl hl.1 rfl (Nat.le_of_ble_eq_true rfl) dL_turn_3 ⟨(Nat.le_of_ble_eq_true rfl), (Nat.le_of_ble_eq_true rfl)⟩ ?_
  refine lv_istore (lv' := [(4, .int r1), (0, .ref (A 3 0)), (1, .int p1), (2, .int p2), (3, .int p3)]) hx hb dL_turn_6 hl (by decide) rfl (fun ls hl => ?_)
  refine lv_iload_n hx hb dL_turn_8 rfl (lv_at hl 4 rfl) ?_
  refine lv_bipush (v := 8) hx hb dL_turn_9 (by decide) ?_
  obtain ⟨r2, hr2, hf⟩ := q_bd_go hf
  refine q_rdSi (As := [.int p3, .int 8]) (rest := []) hx hb hml hown hts (c_L_up l D cI cJ cS p3 8 _ hr2) (va_cwS 2 hts gL_turn_L_up rfl rfl rfl (by decide +kernel) ⟨(Nat.le_of_ble_eq_true rfl), (Nat.le_of_ble_eq_true rfl)⟩) hE rfl hl.1 rfl (Nat.le_of_ble_eq_true rfl) dL_turn_11 ⟨(Nat.le_of_ble_eq_true rfl), (Nat.le_of_ble_eq_true rfl)⟩ ?_
  refine lv_istore (lv' := [(5, .int r2), (4, .int r1), (0, .ref (A 3 0)), (1, .int p1), (2, .int p2), (3, .int p3)]) hx hb dL_turn_14 hl (by decide) rfl (fun ls hl => ?_)
  refine lv_iload_n hx hb dL_turn_16 rfl (lv_at hl 3 rfl) ?_
  by_cases c3_0 : p1 = 0
  · have hf := q_ite_t c3_0 hf
    refine lv_tableIn (tgt := 92) hx hb dL_turn_17 (by rw [c3_0]; decide) (by rw [c3_0]; decide) (by rw [c3_0]; rfl) (by decide) ?_
    refine lv_aload_n hx hb dL_turn_92 rfl (lv_at hl 2 rfl) ?_
    refine lv_iload_n hx hb dL_turn_93 rfl (lv_at hl 4 rfl) ?_
    refine lv_iconst (v := 3) hx hb dL_turn_94 (by decide) ?_
    obtain ⟨r4, hr4, hf⟩ := q_bd_go hf
    refine q_rdSi (As := [.int p2, .int 3]) (rest := [.ref (A 3 0)]) hx hb hml hown hts (c_L_up l D cI cJ cS p2 3 _ hr4) (va_cwS 2 hts gL_turn_L_up rfl rfl rfl (by decide +kernel) ⟨(Nat.le_of_ble_eq_true rfl), (Nat.le_of_ble_eq_true rfl)⟩) hE rfl hl.1 rfl (Nat.le_of_ble_eq_true rfl) dL_turn_95 ⟨(Nat.le_of_ble_eq_true rfl), (Nat.le_of_ble_eq_true rfl)⟩ ?_
    refine lv_iload_n hx hb dL_turn_98 rfl (lv_at hl 5 rfl) ?_
    refine lv_iload_n hx hb dL_turn_99 rfl (lv_at hl 4 rfl) ?_
    refine lv_iconst (v := 4) hx hb dL_turn_100 (by decide) ?_
    refine lv_iand hx hb dL_turn_101 ?_
    refine lv_if_ne (tgt := 110) hx hb dL_turn_102 (by decide) (fun c5 => ?_) (fun c5 => ?_)
    · have hf := q_ite_t c5 hf
      refine lv_bipush (v := 51) hx hb dL_turn_110 (by decide) ?_
      obtain ⟨r6, hr6, hf⟩ := q_bd_go hf
      refine q_rdSi (As := [.int p3, .int 51]) (rest := [.int r4, .ref (A 3 0)]) hx hb hml hown hts (c_L_up l D cI cJ cS p3 51 _ hr6) (va_cwS 2 hts gL_turn_L_up rfl rfl rfl (by decide +kernel) ⟨(Nat.le_of_ble_eq_true rfl), (Nat.le_of_ble_eq_true rfl)⟩) hE rfl hl.1 rfl (Nat.le_of_ble_eq_true rfl) dL_turn_112 ⟨(Nat.le_of_ble_eq_true rfl), (Nat.le_of_ble_eq_true rfl)⟩ ?_
      obtain ⟨r7, hr7, hf⟩ := q_bd_go hf
      refine q_thV (ci := 2) (As := [.int r4, .int r6]) (rest := []) hx hb hml hown hts hlocks htab (c_X2_set l hlt D cI cJ cS sa A g B hg S _ r4 r6 _ hr7) (cwV 2 hts gL_turn_X2_set rfl rfl rfl (by decide +kernel) ⟨(Nat.le_of_ble_eq_true rfl), (Nat.le_of_ble_eq_true rfl)⟩) hE hES hZ hP hD (fun q h => Or.inr h) rfl rfl rfl hl.1 rfl (Nat.le_of_ble_eq_true rfl) dL_turn_115 ⟨(Nat.le_of_ble_eq_true rfl), (Nat.le_of_ble_eq_true rfl)⟩ (fun E e => q_exc_l hf E e) (Nat.le_of_ble_eq_true rfl) (Nat.le_of_ble_eq_true rfl) (fun z10 g8 B9 H locs er7 hg hP hD hS => ?_)
      have hf := q_exc_r hf er7
      have ho := q_some hf
      refine vx_ret ?_
      refine W.widen (k := 4) (n := 24) (Nat.le_of_ble_eq_true rfl) (Nat.le_of_ble_eq_true rfl) ?_
      exact W.iret hx hb hr (fun t ht hW => ⟨_, ho.symm, rfl, ⟨_, ⟨g8, B9, hg, rfl⟩, by rw [ht]; exact hP, hD⟩, hS.F ht⟩) hS.2.2 dL_turn_118
    · have hf := q_ite_n c5 hf
      refine lv_bipush (v := 6) hx hb dL_turn_105 (by decide) ?_
      refine lv_goto (tgt := 112) hx hb dL_turn_107 (by decide) ?_
      obtain ⟨r11, hr11, hf⟩ := q_bd_go hf
      refine q_rdSi (As := [.int p3, .int 6]) (rest := [.int r4, .ref (A 3 0)]) hx hb hml hown hts (c_L_up l D cI cJ cS p3 6 _ hr11) (va_cwS 2 hts gL_turn_L_up rfl rfl rfl (by decide +kernel) ⟨(Nat.le_of_ble_eq_true rfl), (Nat.le_of_ble_eq_true rfl)⟩) hE rfl hl.1 rfl (Nat.le_of_ble_eq_true rfl) dL_turn_112 ⟨(Nat.le_of_ble_eq_true rfl), (Nat.le_of_ble_eq_true rfl)⟩ ?_
      obtain ⟨r12, hr12, hf⟩ := q_bd_go hf
      refine q_thV (ci := 2) (As := [.int r4, .int r11]) (rest := []) hx hb hml hown hts hlocks htab (c_X2_set l hlt D cI cJ cS sa A g B hg S _ r4 r11 _ hr12) (cwV 2 hts gL_turn_X2_set rfl rfl rfl (by decide +kernel) ⟨(Nat.le_of_ble_eq_true rfl), (Nat.le_of_ble_eq_true rfl)⟩) hE hES hZ hP hD (fun q h => Or.inr h) rfl rfl rfl hl.1 rfl (Nat.le_of_ble_eq_true rfl) dL_turn_115 ⟨(Nat.le_of_ble_eq_true rfl), (Nat.le_of_ble_eq_true rfl)⟩ (fun E e => q_exc_l hf E e) (Nat.le_of_ble_eq_true rfl) (Nat.le_of_ble_eq_true rfl) (fun z15 g13 B14 H locs er12 hg hP hD hS => ?_)
      have hf := q_exc_r hf er12
      have ho := q_some hf
      refine vx_ret ?_
      refine W.widen (k := 4) (n := 24) (Nat.le_of_ble_eq_true rfl) (Nat.le_of_ble_eq_true rfl) ?_
      exact W.iret hx hb hr (fun t ht hW => ⟨_, ho.symm, rfl, ⟨_, ⟨g13, B14, hg, rfl⟩, by rw [ht]; exact hP, hD⟩, hS.F ht⟩) hS.2.2 dL_turn_118
  have hf := q_ite_f c3_0 hf
  by_cases c3_1 : p1 = 1
  · have hf := q_ite_t c3_1 hf
    refine lv_tableIn (tgt := 119) hx hb dL_turn_17 (by rw [c3_1]; decide) (by rw [c3_1]; decide) (by rw [c3_1]; rfl) (by decide) ?_
    refine lv_aload_n hx hb dL_turn_119 rfl (lv_at hl 2 rfl) ?_
    refine lv_iload_n hx hb dL_turn_120 rfl (lv_at hl 4 rfl) ?_
    refine lv_iload_n hx hb dL_turn_121 rfl (lv_at hl 5 rfl) ?_
    obtain ⟨r16, hr16, hf⟩ := q_bd_go hf
    refine q_rdSl (As := [.int p2, .int p3]) (rest := [.ref (A 3 0)]) hx hb hml hown hts (c_L_some l D cI cJ cS p2 p3 _ hr16) (va_cwS 2 hts gL_turn_L_some rfl rfl rfl (by decide +kernel) ⟨(Nat.le_of_ble_eq_true rfl), (Nat.le_of_ble_eq_true rfl)⟩) hE rfl hl.1 rfl (Nat.le_of_ble_eq_true rfl) dL_turn_122 ⟨(Nat.le_of_ble_eq_true rfl), (Nat.le_of_ble_eq_true rfl)⟩ ?_
    obtain ⟨r17, hr17, hf⟩ := q_bd_go hf
    refine q_thV (ci := 2) (As := [.long r16]) (rest := []) hx hb hml hown hts hlocks htab (c_X2_addPerson l hlt D cI cJ cS sa A g B hg S _ r16 _ hr17) (cwV 1 hts gL_turn_X2_addPerson rfl rfl rfl (by decide +kernel) ⟨(Nat.le_of_ble_eq_true rfl), (Nat.le_of_ble_eq_true rfl)⟩) hE hES hZ hP hD (fun q h => Or.inr h) rfl rfl rfl hl.1 rfl (Nat.le_of_ble_eq_true rfl) dL_turn_125 ⟨(Nat.le_of_ble_eq_true rfl), (Nat.le_of_ble_eq_true rfl)⟩ (fun E e => q_exc_l hf E e) (Nat.le_of_ble_eq_true rfl) (Nat.le_of_ble_eq_true rfl) (fun z20 g18 B19 H locs er17 hg hP hD hS => ?_)
    have hf := q_exc_r hf er17
    have ho := q_some hf
    refine vx_ret ?_
    refine W.widen (k := 4) (n := 24) (Nat.le_of_ble_eq_true rfl) (Nat.le_of_ble_eq_true rfl) ?_
    exact W.iret hx hb hr (fun t ht hW => ⟨_, ho.symm, rfl, ⟨_, ⟨g18, B19, hg, rfl⟩, by rw [ht]; exact hP, hD⟩, hS.F ht⟩) hS.2.2 dL_turn_128
  have hf := q_ite_f c3_1 hf
  by_cases c3_2 : p1 = 2
  · have hf := q_ite_t c3_2 hf
    refine lv_tableIn (tgt := 129) hx hb dL_turn_17 (by rw [c3_2]; decide) (by rw [c3_2]; decide) (by rw [c3_2]; rfl) (by decide) ?_
    refine lv_aload_n hx hb dL_turn_129 rfl (lv_at hl 2 rfl) ?_
    refine lv_iload hx hb dL_turn_130 (lv_at hl 1 rfl) ?_
    refine lv_iload_n hx hb dL_turn_132 rfl (lv_at hl 5 rfl) ?_
    refine lv_bipush (v := 42) hx hb dL_turn_133 (by decide) ?_
    obtain ⟨r21, hr21, hf⟩ := q_bd_go hf
    refine q_rdSi (As := [.int p3, .int 42]) (rest := [.int r1, .ref (A 3 0)]) hx hb hml hown hts (c_L_up l D cI cJ cS p3 42 _ hr21) (va_cwS 2 hts gL_turn_L_up rfl rfl rfl (by decide +kernel) ⟨(Nat.le_of_ble_eq_true rfl), (Nat.le_of_ble_eq_true rfl)⟩) hE rfl hl.1 rfl (Nat.le_of_ble_eq_true rfl) dL_turn_135 ⟨(Nat.le_of_ble_eq_true rfl), (Nat.le_of_ble_eq_true rfl)⟩ ?_
    refine lv_iload_n hx hb dL_turn_138 rfl (lv_at hl 4 rfl) ?_
    refine lv_bipush (v := 64) hx hb dL_turn_139 (by decide) ?_
    refine lv_iand hx hb dL_turn_141 ?_
    refine lv_if_ne (tgt := 149) hx hb dL_turn_142 (by decide) (fun c22 => ?_) (fun c22 => ?_)
    · have hf := q_ite_t c22 hf
      refine lv_iconst (v := 0) hx hb dL_turn_149 (by decide) ?_
      obtain ⟨r23, hr23, hf⟩ := q_bd_go hf
      refine q_thV (ci := 2) (As := [.int r1, .int r21, .int 0]) (rest := []) hx hb hml hown hts hlocks htab (c_X2_roster l hlt D cI cJ cS sa A g B hg S _ r1 r21 0 _ hr23) (cwV 3 hts gL_turn_X2_roster rfl rfl rfl (by decide +kernel) ⟨(Nat.le_of_ble_eq_true rfl), (Nat.le_of_ble_eq_true rfl)⟩) hE hES hZ hP hD (fun q h => Or.inr h) rfl rfl rfl hl.1 rfl (Nat.le_of_ble_eq_true rfl) dL_turn_150 ⟨(Nat.le_of_ble_eq_true rfl), (Nat.le_of_ble_eq_true rfl)⟩ (fun E e => q_exc_l hf E e) (Nat.le_of_ble_eq_true rfl) (Nat.le_of_ble_eq_true rfl) (fun z26 g24 B25 H locs er23 hg hP hD hS => ?_)
      have hf := q_exc_r hf er23
      have ho := q_some hf
      refine vx_ret ?_
      refine W.widen (k := 4) (n := 24) (Nat.le_of_ble_eq_true rfl) (Nat.le_of_ble_eq_true rfl) ?_
      exact W.iret hx hb hr (fun t ht hW => ⟨_, ho.symm, rfl, ⟨_, ⟨g24, B25, hg, rfl⟩, by rw [ht]; exact hP, hD⟩, hS.F ht⟩) hS.2.2 dL_turn_153
    · have hf := q_ite_n c22 hf
      refine lv_iconst (v := 1) hx hb dL_turn_145 (by decide) ?_
      refine lv_goto (tgt := 150) hx hb dL_turn_146 (by decide) ?_
      obtain ⟨r27, hr27, hf⟩ := q_bd_go hf
      refine q_thV (ci := 2) (As := [.int r1, .int r21, .int 1]) (rest := []) hx hb hml hown hts hlocks htab (c_X2_roster l hlt D cI cJ cS sa A g B hg S _ r1 r21 1 _ hr27) (cwV 3 hts gL_turn_X2_roster rfl rfl rfl (by decide +kernel) ⟨(Nat.le_of_ble_eq_true rfl), (Nat.le_of_ble_eq_true rfl)⟩) hE hES hZ hP hD (fun q h => Or.inr h) rfl rfl rfl hl.1 rfl (Nat.le_of_ble_eq_true rfl) dL_turn_150 ⟨(Nat.le_of_ble_eq_true rfl), (Nat.le_of_ble_eq_true rfl)⟩ (fun E e => q_exc_l hf E e) (Nat.le_of_ble_eq_true rfl) (Nat.le_of_ble_eq_true rfl) (fun z30 g28 B29 H locs er27 hg hP hD hS => ?_)
      have hf := q_exc_r hf er27
      have ho := q_some hf
      refine vx_ret ?_
      refine W.widen (k := 4) (n := 24) (Nat.le_of_ble_eq_true rfl) (Nat.le_of_ble_eq_true rfl) ?_
      exact W.iret hx hb hr (fun t ht hW => ⟨_, ho.symm, rfl, ⟨_, ⟨g28, B29, hg, rfl⟩, by rw [ht]; exact hP, hD⟩, hS.F ht⟩) hS.2.2 dL_turn_153
  have hf := q_ite_f c3_2 hf
  by_cases c3_3 : p1 = 3
  · have hf := q_ite_t c3_3 hf
    refine lv_tableIn (tgt := 154) hx hb dL_turn_17 (by rw [c3_3]; decide) (by rw [c3_3]; decide) (by rw [c3_3]; rfl) (by decide) ?_
    refine lv_aload_n hx hb dL_turn_154 rfl (lv_at hl 2 rfl) ?_
    refine lv_iload hx hb dL_turn_155 (lv_at hl 1 rfl) ?_
    refine lv_iload_n hx hb dL_turn_157 rfl (lv_at hl 5 rfl) ?_
    refine lv_iload_n hx hb dL_turn_158 rfl (lv_at hl 4 rfl) ?_
    refine lv_bipush (v := 64) hx hb dL_turn_159 (by decide) ?_
    refine lv_iand hx hb dL_turn_161 ?_
    refine lv_if_ne (tgt := 170) hx hb dL_turn_162 (by decide) (fun c31 => ?_) (fun c31 => ?_)
    · have hf := q_ite_t c31 hf
      refine lv_bipush (v := 42) hx hb dL_turn_170 (by decide) ?_
      obtain ⟨r32, hr32, hf⟩ := q_bd_go hf
      refine q_rdSi (As := [.int p3, .int 42]) (rest := [.int r1, .ref (A 3 0)]) hx hb hml hown hts (c_L_up l D cI cJ cS p3 42 _ hr32) (va_cwS 2 hts gL_turn_L_up rfl rfl rfl (by decide +kernel) ⟨(Nat.le_of_ble_eq_true rfl), (Nat.le_of_ble_eq_true rfl)⟩) hE rfl hl.1 rfl (Nat.le_of_ble_eq_true rfl) dL_turn_172 ⟨(Nat.le_of_ble_eq_true rfl), (Nat.le_of_ble_eq_true rfl)⟩ ?_
      obtain ⟨r33, hr33, hf⟩ := q_bd_go hf
      refine q_thV (ci := 2) (As := [.int r1, .int r32]) (rest := []) hx hb hml hown hts hlocks htab (c_X2_absent l hlt D cI cJ cS sa A g B hg S _ r1 r32 _ hr33) (cwV 2 hts gL_turn_X2_absent rfl rfl rfl (by decide +kernel) ⟨(Nat.le_of_ble_eq_true rfl), (Nat.le_of_ble_eq_true rfl)⟩) hE hES hZ hP hD (fun q h => Or.inr h) rfl rfl rfl hl.1 rfl (Nat.le_of_ble_eq_true rfl) dL_turn_175 ⟨(Nat.le_of_ble_eq_true rfl), (Nat.le_of_ble_eq_true rfl)⟩ (fun E e => q_exc_l hf E e) (Nat.le_of_ble_eq_true rfl) (Nat.le_of_ble_eq_true rfl) (fun z36 g34 B35 H locs er33 hg hP hD hS => ?_)
      have hf := q_exc_r hf er33
      have ho := q_some hf
      refine vx_ret ?_
      refine W.widen (k := 4) (n := 24) (Nat.le_of_ble_eq_true rfl) (Nat.le_of_ble_eq_true rfl) ?_
      exact W.iret hx hb hr (fun t ht hW => ⟨_, ho.symm, rfl, ⟨_, ⟨g34, B35, hg, rfl⟩, by rw [ht]; exact hP, hD⟩, hS.F ht⟩) hS.2.2 dL_turn_178
    · have hf := q_ite_n c31 hf
      refine lv_bipush (v := 12) hx hb dL_turn_165 (by decide) ?_
      refine lv_goto (tgt := 172) hx hb dL_turn_167 (by decide) ?_
      obtain ⟨r37, hr37, hf⟩ := q_bd_go hf
      refine q_rdSi (As := [.int p3, .int 12]) (rest := [.int r1, .ref (A 3 0)]) hx hb hml hown hts (c_L_up l D cI cJ cS p3 12 _ hr37) (va_cwS 2 hts gL_turn_L_up rfl rfl rfl (by decide +kernel) ⟨(Nat.le_of_ble_eq_true rfl), (Nat.le_of_ble_eq_true rfl)⟩) hE rfl hl.1 rfl (Nat.le_of_ble_eq_true rfl) dL_turn_172 ⟨(Nat.le_of_ble_eq_true rfl), (Nat.le_of_ble_eq_true rfl)⟩ ?_
      obtain ⟨r38, hr38, hf⟩ := q_bd_go hf
      refine q_thV (ci := 2) (As := [.int r1, .int r37]) (rest := []) hx hb hml hown hts hlocks htab (c_X2_absent l hlt D cI cJ cS sa A g B hg S _ r1 r37 _ hr38) (cwV 2 hts gL_turn_X2_absent rfl rfl rfl (by decide +kernel) ⟨(Nat.le_of_ble_eq_true rfl), (Nat.le_of_ble_eq_true rfl)⟩) hE hES hZ hP hD (fun q h => Or.inr h) rfl rfl rfl hl.1 rfl (Nat.le_of_ble_eq_true rfl) dL_turn_175 ⟨(Nat.le_of_ble_eq_true rfl), (Nat.le_of_ble_eq_true rfl)⟩ (fun E e => q_exc_l hf E e) (Nat.le_of_ble_eq_true rfl) (Nat.le_of_ble_eq_true rfl) (fun z41 g39 B40 H locs er38 hg hP hD hS => ?_)
      have hf := q_exc_r hf er38
      have ho := q_some hf
      refine vx_ret ?_
      refine W.widen (k := 4) (n := 24) (Nat.le_of_ble_eq_true rfl) (Nat.le_of_ble_eq_true rfl) ?_
      exact W.iret hx hb hr (fun t ht hW => ⟨_, ho.symm, rfl, ⟨_, ⟨g39, B40, hg, rfl⟩, by rw [ht]; exact hP, hD⟩, hS.F ht⟩) hS.2.2 dL_turn_178
  have hf := q_ite_f c3_3 hf
  by_cases c3_4 : p1 = 4
  · have hf := q_ite_t c3_4 hf
    refine lv_tableIn (tgt := 154) hx hb dL_turn_17 (by rw [c3_4]; decide) (by rw [c3_4]; decide) (by rw [c3_4]; rfl) (by decide) ?_
    refine lv_aload_n hx hb dL_turn_154 rfl (lv_at hl 2 rfl) ?_
    refine lv_iload hx hb dL_turn_155 (lv_at hl 1 rfl) ?_
    refine lv_iload_n hx hb dL_turn_157 rfl (lv_at hl 5 rfl) ?_
    refine lv_iload_n hx hb dL_turn_158 rfl (lv_at hl 4 rfl) ?_
    refine lv_bipush (v := 64) hx hb dL_turn_159 (by decide) ?_
    refine lv_iand hx hb dL_turn_161 ?_
    refine lv_if_ne (tgt := 170) hx hb dL_turn_162 (by decide) (fun c42 => ?_) (fun c42 => ?_)
    · have hf := q_ite_t c42 hf
      refine lv_bipush (v := 42) hx hb dL_turn_170 (by decide) ?_
      obtain ⟨r43, hr43, hf⟩ := q_bd_go hf
      refine q_rdSi (As := [.int p3, .int 42]) (rest := [.int r1, .ref (A 3 0)]) hx hb hml hown hts (c_L_up l D cI cJ cS p3 42 _ hr43) (va_cwS 2 hts gL_turn_L_up rfl rfl rfl (by decide +kernel) ⟨(Nat.le_of_ble_eq_true rfl), (Nat.le_of_ble_eq_true rfl)⟩) hE rfl hl.1 rfl (Nat.le_of_ble_eq_true rfl) dL_turn_172 ⟨(Nat.le_of_ble_eq_true rfl), (Nat.le_of_ble_eq_true rfl)⟩ ?_
      obtain ⟨r44, hr44, hf⟩ := q_bd_go hf
      refine q_thV (ci := 2) (As := [.int r1, .int r43]) (rest := []) hx hb hml hown hts hlocks htab (c_X2_absent l hlt D cI cJ cS sa A g B hg S _ r1 r43 _ hr44) (cwV 2 hts gL_turn_X2_absent rfl rfl rfl (by decide +kernel) ⟨(Nat.le_of_ble_eq_true rfl), (Nat.le_of_ble_eq_true rfl)⟩) hE hES hZ hP hD (fun q h => Or.inr h) rfl rfl rfl hl.1 rfl (Nat.le_of_ble_eq_true rfl) dL_turn_175 ⟨(Nat.le_of_ble_eq_true rfl), (Nat.le_of_ble_eq_true rfl)⟩ (fun E e => q_exc_l hf E e) (Nat.le_of_ble_eq_true rfl) (Nat.le_of_ble_eq_true rfl) (fun z47 g45 B46 H locs er44 hg hP hD hS => ?_)
      have hf := q_exc_r hf er44
      have ho := q_some hf
      refine vx_ret ?_
      refine W.widen (k := 4) (n := 24) (Nat.le_of_ble_eq_true rfl) (Nat.le_of_ble_eq_true rfl) ?_
      exact W.iret hx hb hr (fun t ht hW => ⟨_, ho.symm, rfl, ⟨_, ⟨g45, B46, hg, rfl⟩, by rw [ht]; exact hP, hD⟩, hS.F ht⟩) hS.2.2 dL_turn_178
    · have hf := q_ite_n c42 hf
      refine lv_bipush (v := 12) hx hb dL_turn_165 (by decide) ?_
      refine lv_goto (tgt := 172) hx hb dL_turn_167 (by decide) ?_
      obtain ⟨r48, hr48, hf⟩ := q_bd_go hf
      refine q_rdSi (As := [.int p3, .int 12]) (rest := [.int r1, .ref (A 3 0)]) hx hb hml hown hts (c_L_up l D cI cJ cS p3 12 _ hr48) (va_cwS 2 hts gL_turn_L_up rfl rfl rfl (by decide +kernel) ⟨(Nat.le_of_ble_eq_true rfl), (Nat.le_of_ble_eq_true rfl)⟩) hE rfl hl.1 rfl (Nat.le_of_ble_eq_true rfl) dL_turn_172 ⟨(Nat.le_of_ble_eq_true rfl), (Nat.le_of_ble_eq_true rfl)⟩ ?_
      obtain ⟨r49, hr49, hf⟩ := q_bd_go hf
      refine q_thV (ci := 2) (As := [.int r1, .int r48]) (rest := []) hx hb hml hown hts hlocks htab (c_X2_absent l hlt D cI cJ cS sa A g B hg S _ r1 r48 _ hr49) (cwV 2 hts gL_turn_X2_absent rfl rfl rfl (by decide +kernel) ⟨(Nat.le_of_ble_eq_true rfl), (Nat.le_of_ble_eq_true rfl)⟩) hE hES hZ hP hD (fun q h => Or.inr h) rfl rfl rfl hl.1 rfl (Nat.le_of_ble_eq_true rfl) dL_turn_175 ⟨(Nat.le_of_ble_eq_true rfl), (Nat.le_of_ble_eq_true rfl)⟩ (fun E e => q_exc_l hf E e) (Nat.le_of_ble_eq_true rfl) (Nat.le_of_ble_eq_true rfl) (fun z52 g50 B51 H locs er49 hg hP hD hS => ?_)
      have hf := q_exc_r hf er49
      have ho := q_some hf
      refine vx_ret ?_
      refine W.widen (k := 4) (n := 24) (Nat.le_of_ble_eq_true rfl) (Nat.le_of_ble_eq_true rfl) ?_
      exact W.iret hx hb hr (fun t ht hW => ⟨_, ho.symm, rfl, ⟨_, ⟨g50, B51, hg, rfl⟩, by rw [ht]; exact hP, hD⟩, hS.F ht⟩) hS.2.2 dL_turn_178
  have hf := q_ite_f c3_4 hf
  by_cases c3_5 : p1 = 5
  · have hf := q_ite_t c3_5 hf
    refine lv_tableIn (tgt := 154) hx hb dL_turn_17 (by rw [c3_5]; decide) (by rw [c3_5]; decide) (by rw [c3_5]; rfl) (by decide) ?_
    refine lv_aload_n hx hb dL_turn_154 rfl (lv_at hl 2 rfl) ?_
    refine lv_iload hx hb dL_turn_155 (lv_at hl 1 rfl) ?_
    refine lv_iload_n hx hb dL_turn_157 rfl (lv_at hl 5 rfl) ?_
    refine lv_iload_n hx hb dL_turn_158 rfl (lv_at hl 4 rfl) ?_
    refine lv_bipush (v := 64) hx hb dL_turn_159 (by decide) ?_
    refine lv_iand hx hb dL_turn_161 ?_
    refine lv_if_ne (tgt := 170) hx hb dL_turn_162 (by decide) (fun c53 => ?_) (fun c53 => ?_)
    · have hf := q_ite_t c53 hf
      refine lv_bipush (v := 42) hx hb dL_turn_170 (by decide) ?_
      obtain ⟨r54, hr54, hf⟩ := q_bd_go hf
      refine q_rdSi (As := [.int p3, .int 42]) (rest := [.int r1, .ref (A 3 0)]) hx hb hml hown hts (c_L_up l D cI cJ cS p3 42 _ hr54) (va_cwS 2 hts gL_turn_L_up rfl rfl rfl (by decide +kernel) ⟨(Nat.le_of_ble_eq_true rfl), (Nat.le_of_ble_eq_true rfl)⟩) hE rfl hl.1 rfl (Nat.le_of_ble_eq_true rfl) dL_turn_172 ⟨(Nat.le_of_ble_eq_true rfl), (Nat.le_of_ble_eq_true rfl)⟩ ?_
      obtain ⟨r55, hr55, hf⟩ := q_bd_go hf
      refine q_thV (ci := 2) (As := [.int r1, .int r54]) (rest := []) hx hb hml hown hts hlocks htab (c_X2_absent l hlt D cI cJ cS sa A g B hg S _ r1 r54 _ hr55) (cwV 2 hts gL_turn_X2_absent rfl rfl rfl (by decide +kernel) ⟨(Nat.le_of_ble_eq_true rfl), (Nat.le_of_ble_eq_true rfl)⟩) hE hES hZ hP hD (fun q h => Or.inr h) rfl rfl rfl hl.1 rfl (Nat.le_of_ble_eq_true rfl) dL_turn_175 ⟨(Nat.le_of_ble_eq_true rfl), (Nat.le_of_ble_eq_true rfl)⟩ (fun E e => q_exc_l hf E e) (Nat.le_of_ble_eq_true rfl) (Nat.le_of_ble_eq_true rfl) (fun z58 g56 B57 H locs er55 hg hP hD hS => ?_)
      have hf := q_exc_r hf er55
      have ho := q_some hf
      refine vx_ret ?_
      refine W.widen (k := 4) (n := 24) (Nat.le_of_ble_eq_true rfl) (Nat.le_of_ble_eq_true rfl) ?_
      exact W.iret hx hb hr (fun t ht hW => ⟨_, ho.symm, rfl, ⟨_, ⟨g56, B57, hg, rfl⟩, by rw [ht]; exact hP, hD⟩, hS.F ht⟩) hS.2.2 dL_turn_178
    · have hf := q_ite_n c53 hf
      refine lv_bipush (v := 12) hx hb dL_turn_165 (by decide) ?_
      refine lv_goto (tgt := 172) hx hb dL_turn_167 (by decide) ?_
      obtain ⟨r59, hr59, hf⟩ := q_bd_go hf
      refine q_rdSi (As := [.int p3, .int 12]) (rest := [.int r1, .ref (A 3 0)]) hx hb hml hown hts (c_L_up l D cI cJ cS p3 12 _ hr59) (va_cwS 2 hts gL_turn_L_up rfl rfl rfl (by decide +kernel) ⟨(Nat.le_of_ble_eq_true rfl), (Nat.le_of_ble_eq_true rfl)⟩) hE rfl hl.1 rfl (Nat.le_of_ble_eq_true rfl) dL_turn_172 ⟨(Nat.le_of_ble_eq_true rfl), (Nat.le_of_ble_eq_true rfl)⟩ ?_
      obtain ⟨r60, hr60, hf⟩ := q_bd_go hf
      refine q_thV (ci := 2) (As := [.int r1, .int r59]) (rest := []) hx hb hml hown hts hlocks htab (c_X2_absent l hlt D cI cJ cS sa A g B hg S _ r1 r59 _ hr60) (cwV 2 hts gL_turn_X2_absent rfl rfl rfl (by decide +kernel) ⟨(Nat.le_of_ble_eq_true rfl), (Nat.le_of_ble_eq_true rfl)⟩) hE hES hZ hP hD (fun q h => Or.inr h) rfl rfl rfl hl.1 rfl (Nat.le_of_ble_eq_true rfl) dL_turn_175 ⟨(Nat.le_of_ble_eq_true rfl), (Nat.le_of_ble_eq_true rfl)⟩ (fun E e => q_exc_l hf E e) (Nat.le_of_ble_eq_true rfl) (Nat.le_of_ble_eq_true rfl) (fun z63 g61 B62 H locs er60 hg hP hD hS => ?_)
      have hf := q_exc_r hf er60
      have ho := q_some hf
      refine vx_ret ?_
      refine W.widen (k := 4) (n := 24) (Nat.le_of_ble_eq_true rfl) (Nat.le_of_ble_eq_true rfl) ?_
      exact W.iret hx hb hr (fun t ht hW => ⟨_, ho.symm, rfl, ⟨_, ⟨g61, B62, hg, rfl⟩, by rw [ht]; exact hP, hD⟩, hS.F ht⟩) hS.2.2 dL_turn_178
  have hf := q_ite_f c3_5 hf
  by_cases c3_6 : p1 = 6
  · have hf := q_ite_t c3_6 hf
    refine lv_tableIn (tgt := 179) hx hb dL_turn_17 (by rw [c3_6]; decide) (by rw [c3_6]; decide) (by rw [c3_6]; rfl) (by decide) ?_
    refine lv_aload_n hx hb dL_turn_179 rfl (lv_at hl 2 rfl) ?_
    refine lv_iload hx hb dL_turn_180 (lv_at hl 1 rfl) ?_
    refine lv_iload hx hb dL_turn_182 (lv_at hl 0 rfl) ?_
    refine lv_iload_n hx hb dL_turn_184 rfl (lv_at hl 4 rfl) ?_
    refine lv_iconst (v := 4) hx hb dL_turn_185 (by decide) ?_
    refine lv_ishr hx hb dL_turn_186 ?_
    refine lv_bipush (v := 21) hx hb dL_turn_187 (by decide) ?_
    obtain ⟨r64, hr64, hf⟩ := q_bd_go hf
    refine q_rdSi (As := [.int (p2 >>> (4 &&& 31)), .int 21]) (rest := [.int r2, .int r1, .ref (A 3 0)]) hx hb hml hown hts (c_L_up l D cI cJ cS (p2 >>> (4 &&& 31)) 21 _ hr64) (va_cwS 2 hts gL_turn_L_up rfl rfl rfl (by decide +kernel) ⟨(Nat.le_of_ble_eq_true rfl), (Nat.le_of_ble_eq_true rfl)⟩) hE rfl hl.1 rfl (Nat.le_of_ble_eq_true rfl) dL_turn_189 ⟨(Nat.le_of_ble_eq_true rfl), (Nat.le_of_ble_eq_true rfl)⟩ ?_
    obtain ⟨r65, hr65, hf⟩ := q_bd_go hf
    refine q_thV (ci := 2) (As := [.int r1, .int r2, .int r64]) (rest := []) hx hb hml hown hts hlocks htab (c_X2_bid l hlt D cI cJ cS sa A g B hg S _ r1 r2 r64 _ hr65) (cwV 3 hts gL_turn_X2_bid rfl rfl rfl (by decide +kernel) ⟨(Nat.le_of_ble_eq_true rfl), (Nat.le_of_ble_eq_true rfl)⟩) hE hES hZ hP hD (fun q h => Or.inr h) rfl rfl rfl hl.1 rfl (Nat.le_of_ble_eq_true rfl) dL_turn_192 ⟨(Nat.le_of_ble_eq_true rfl), (Nat.le_of_ble_eq_true rfl)⟩ (fun E e => q_exc_l hf E e) (Nat.le_of_ble_eq_true rfl) (Nat.le_of_ble_eq_true rfl) (fun z68 g66 B67 H locs er65 hg hP hD hS => ?_)
    have hf := q_exc_r hf er65
    have ho := q_some hf
    refine vx_ret ?_
    refine W.widen (k := 4) (n := 24) (Nat.le_of_ble_eq_true rfl) (Nat.le_of_ble_eq_true rfl) ?_
    exact W.iret hx hb hr (fun t ht hW => ⟨_, ho.symm, rfl, ⟨_, ⟨g66, B67, hg, rfl⟩, by rw [ht]; exact hP, hD⟩, hS.F ht⟩) hS.2.2 dL_turn_195
  have hf := q_ite_f c3_6 hf
  by_cases c3_7 : p1 = 7
  · have hf := q_ite_t c3_7 hf
    refine lv_tableIn (tgt := 179) hx hb dL_turn_17 (by rw [c3_7]; decide) (by rw [c3_7]; decide) (by rw [c3_7]; rfl) (by decide) ?_
    refine lv_aload_n hx hb dL_turn_179 rfl (lv_at hl 2 rfl) ?_
    refine lv_iload hx hb dL_turn_180 (lv_at hl 1 rfl) ?_
    refine lv_iload hx hb dL_turn_182 (lv_at hl 0 rfl) ?_
    refine lv_iload_n hx hb dL_turn_184 rfl (lv_at hl 4 rfl) ?_
    refine lv_iconst (v := 4) hx hb dL_turn_185 (by decide) ?_
    refine lv_ishr hx hb dL_turn_186 ?_
    refine lv_bipush (v := 21) hx hb dL_turn_187 (by decide) ?_
    obtain ⟨r69, hr69, hf⟩ := q_bd_go hf
    refine q_rdSi (As := [.int (p2 >>> (4 &&& 31)), .int 21]) (rest := [.int r2, .int r1, .ref (A 3 0)]) hx hb hml hown hts (c_L_up l D cI cJ cS (p2 >>> (4 &&& 31)) 21 _ hr69) (va_cwS 2 hts gL_turn_L_up rfl rfl rfl (by decide +kernel) ⟨(Nat.le_of_ble_eq_true rfl), (Nat.le_of_ble_eq_true rfl)⟩) hE rfl hl.1 rfl (Nat.le_of_ble_eq_true rfl) dL_turn_189 ⟨(Nat.le_of_ble_eq_true rfl), (Nat.le_of_ble_eq_true rfl)⟩ ?_
    obtain ⟨r70, hr70, hf⟩ := q_bd_go hf
    refine q_thV (ci := 2) (As := [.int r1, .int r2, .int r69]) (rest := []) hx hb hml hown hts hlocks htab (c_X2_bid l hlt D cI cJ cS sa A g B hg S _ r1 r2 r69 _ hr70) (cwV 3 hts gL_turn_X2_bid rfl rfl rfl (by decide +kernel) ⟨(Nat.le_of_ble_eq_true rfl), (Nat.le_of_ble_eq_true rfl)⟩) hE hES hZ hP hD (fun q h => Or.inr h) rfl rfl rfl hl.1 rfl (Nat.le_of_ble_eq_true rfl) dL_turn_192 ⟨(Nat.le_of_ble_eq_true rfl), (Nat.le_of_ble_eq_true rfl)⟩ (fun E e => q_exc_l hf E e) (Nat.le_of_ble_eq_true rfl) (Nat.le_of_ble_eq_true rfl) (fun z73 g71 B72 H locs er70 hg hP hD hS => ?_)
    have hf := q_exc_r hf er70
    have ho := q_some hf
    refine vx_ret ?_
    refine W.widen (k := 4) (n := 24) (Nat.le_of_ble_eq_true rfl) (Nat.le_of_ble_eq_true rfl) ?_
    exact W.iret hx hb hr (fun t ht hW => ⟨_, ho.symm, rfl, ⟨_, ⟨g71, B72, hg, rfl⟩, by rw [ht]; exact hP, hD⟩, hS.F ht⟩) hS.2.2 dL_turn_195
  have hf := q_ite_f c3_7 hf
  by_cases c3_8 : p1 = 8
  · have hf := q_ite_t c3_8 hf
    refine lv_tableIn (tgt := 179) hx hb dL_turn_17 (by rw [c3_8]; decide) (by rw [c3_8]; decide) (by rw [c3_8]; rfl) (by decide) ?_
    refine lv_aload_n hx hb dL_turn_179 rfl (lv_at hl 2 rfl) ?_
    refine lv_iload hx hb dL_turn_180 (lv_at hl 1 rfl) ?_
    refine lv_iload hx hb dL_turn_182 (lv_at hl 0 rfl) ?_
    refine lv_iload_n hx hb dL_turn_184 rfl (lv_at hl 4 rfl) ?_
    refine lv_iconst (v := 4) hx hb dL_turn_185 (by decide) ?_
    refine lv_ishr hx hb dL_turn_186 ?_
    refine lv_bipush (v := 21) hx hb dL_turn_187 (by decide) ?_
    obtain ⟨r74, hr74, hf⟩ := q_bd_go hf
    refine q_rdSi (As := [.int (p2 >>> (4 &&& 31)), .int 21]) (rest := [.int r2, .int r1, .ref (A 3 0)]) hx hb hml hown hts (c_L_up l D cI cJ cS (p2 >>> (4 &&& 31)) 21 _ hr74) (va_cwS 2 hts gL_turn_L_up rfl rfl rfl (by decide +kernel) ⟨(Nat.le_of_ble_eq_true rfl), (Nat.le_of_ble_eq_true rfl)⟩) hE rfl hl.1 rfl (Nat.le_of_ble_eq_true rfl) dL_turn_189 ⟨(Nat.le_of_ble_eq_true rfl), (Nat.le_of_ble_eq_true rfl)⟩ ?_
    obtain ⟨r75, hr75, hf⟩ := q_bd_go hf
    refine q_thV (ci := 2) (As := [.int r1, .int r2, .int r74]) (rest := []) hx hb hml hown hts hlocks htab (c_X2_bid l hlt D cI cJ cS sa A g B hg S _ r1 r2 r74 _ hr75) (cwV 3 hts gL_turn_X2_bid rfl rfl rfl (by decide +kernel) ⟨(Nat.le_of_ble_eq_true rfl), (Nat.le_of_ble_eq_true rfl)⟩) hE hES hZ hP hD (fun q h => Or.inr h) rfl rfl rfl hl.1 rfl (Nat.le_of_ble_eq_true rfl) dL_turn_192 ⟨(Nat.le_of_ble_eq_true rfl), (Nat.le_of_ble_eq_true rfl)⟩ (fun E e => q_exc_l hf E e) (Nat.le_of_ble_eq_true rfl) (Nat.le_of_ble_eq_true rfl) (fun z78 g76 B77 H locs er75 hg hP hD hS => ?_)
    have hf := q_exc_r hf er75
    have ho := q_some hf
    refine vx_ret ?_
    refine W.widen (k := 4) (n := 24) (Nat.le_of_ble_eq_true rfl) (Nat.le_of_ble_eq_true rfl) ?_
    exact W.iret hx hb hr (fun t ht hW => ⟨_, ho.symm, rfl, ⟨_, ⟨g76, B77, hg, rfl⟩, by rw [ht]; exact hP, hD⟩, hS.F ht⟩) hS.2.2 dL_turn_195
  have hf := q_ite_f c3_8 hf
  by_cases c3_9 : p1 = 9
  · have hf := q_ite_t c3_9 hf
    refine lv_tableIn (tgt := 196) hx hb dL_turn_17 (by rw [c3_9]; decide) (by rw [c3_9]; decide) (by rw [c3_9]; rfl) (by decide) ?_
    refine lv_aload_n hx hb dL_turn_196 rfl (lv_at hl 2 rfl) ?_
    refine lv_iload hx hb dL_turn_197 (lv_at hl 1 rfl) ?_
    refine lv_iload hx hb dL_turn_199 (lv_at hl 0 rfl) ?_
    obtain ⟨r79, hr79, hf⟩ := q_bd_go hf
    refine q_thV (ci := 2) (As := [.int r1, .int r2]) (rest := []) hx hb hml hown hts hlocks htab (c_X2_takeBack l hlt D cI cJ cS sa A g B hg S _ r1 r2 _ hr79) (cwV 2 hts gL_turn_X2_takeBack rfl rfl rfl (by decide +kernel) ⟨(Nat.le_of_ble_eq_true rfl), (Nat.le_of_ble_eq_true rfl)⟩) hE hES hZ hP hD (fun q h => Or.inr h) rfl rfl rfl hl.1 rfl (Nat.le_of_ble_eq_true rfl) dL_turn_201 ⟨(Nat.le_of_ble_eq_true rfl), (Nat.le_of_ble_eq_true rfl)⟩ (fun E e => q_exc_l hf E e) (Nat.le_of_ble_eq_true rfl) (Nat.le_of_ble_eq_true rfl) (fun z82 g80 B81 H locs er79 hg hP hD hS => ?_)
    have hf := q_exc_r hf er79
    have ho := q_some hf
    refine vx_ret ?_
    refine W.widen (k := 4) (n := 24) (Nat.le_of_ble_eq_true rfl) (Nat.le_of_ble_eq_true rfl) ?_
    exact W.iret hx hb hr (fun t ht hW => ⟨_, ho.symm, rfl, ⟨_, ⟨g80, B81, hg, rfl⟩, by rw [ht]; exact hP, hD⟩, hS.F ht⟩) hS.2.2 dL_turn_204
  have hf := q_ite_f c3_9 hf
  by_cases c3_10 : p1 = 10
  · have hf := q_ite_t c3_10 hf
    refine lv_tableIn (tgt := 205) hx hb dL_turn_17 (by rw [c3_10]; decide) (by rw [c3_10]; decide) (by rw [c3_10]; rfl) (by decide) ?_
    refine lv_aload_n hx hb dL_turn_205 rfl (lv_at hl 2 rfl) ?_
    refine lv_iload hx hb dL_turn_206 (lv_at hl 0 rfl) ?_
    obtain ⟨r83, hr83, hf⟩ := q_bd_go hf
    refine q_thV (ci := 2) (As := [.int r2]) (rest := []) hx hb hml hown hts hlocks htab (c_X2_cover l hlt D cI cJ cS sa A g B hg S _ r2 _ hr83) (cwV 1 hts gL_turn_X2_cover rfl rfl rfl (by decide +kernel) ⟨(Nat.le_of_ble_eq_true rfl), (Nat.le_of_ble_eq_true rfl)⟩) hE hES hZ hP hD (fun q h => Or.inr h) rfl rfl rfl hl.1 rfl (Nat.le_of_ble_eq_true rfl) dL_turn_208 ⟨(Nat.le_of_ble_eq_true rfl), (Nat.le_of_ble_eq_true rfl)⟩ (fun E e => q_exc_l hf E e) (Nat.le_of_ble_eq_true rfl) (Nat.le_of_ble_eq_true rfl) (fun z86 g84 B85 H locs er83 hg hP hD hS => ?_)
    have hf := q_exc_r hf er83
    have ho := q_some hf
    refine vx_ret ?_
    refine W.widen (k := 4) (n := 24) (Nat.le_of_ble_eq_true rfl) (Nat.le_of_ble_eq_true rfl) ?_
    exact W.iret hx hb hr (fun t ht hW => ⟨_, ho.symm, rfl, ⟨_, ⟨g84, B85, hg, rfl⟩, by rw [ht]; exact hP, hD⟩, hS.F ht⟩) hS.2.2 dL_turn_211
  have hf := q_ite_f c3_10 hf
  by_cases c3_11 : p1 = 11
  · have hf := q_ite_t c3_11 hf
    refine lv_tableIn (tgt := 205) hx hb dL_turn_17 (by rw [c3_11]; decide) (by rw [c3_11]; decide) (by rw [c3_11]; rfl) (by decide) ?_
    refine lv_aload_n hx hb dL_turn_205 rfl (lv_at hl 2 rfl) ?_
    refine lv_iload hx hb dL_turn_206 (lv_at hl 0 rfl) ?_
    obtain ⟨r87, hr87, hf⟩ := q_bd_go hf
    refine q_thV (ci := 2) (As := [.int r2]) (rest := []) hx hb hml hown hts hlocks htab (c_X2_cover l hlt D cI cJ cS sa A g B hg S _ r2 _ hr87) (cwV 1 hts gL_turn_X2_cover rfl rfl rfl (by decide +kernel) ⟨(Nat.le_of_ble_eq_true rfl), (Nat.le_of_ble_eq_true rfl)⟩) hE hES hZ hP hD (fun q h => Or.inr h) rfl rfl rfl hl.1 rfl (Nat.le_of_ble_eq_true rfl) dL_turn_208 ⟨(Nat.le_of_ble_eq_true rfl), (Nat.le_of_ble_eq_true rfl)⟩ (fun E e => q_exc_l hf E e) (Nat.le_of_ble_eq_true rfl) (Nat.le_of_ble_eq_true rfl) (fun z90 g88 B89 H locs er87 hg hP hD hS => ?_)
    have hf := q_exc_r hf er87
    have ho := q_some hf
    refine vx_ret ?_
    refine W.widen (k := 4) (n := 24) (Nat.le_of_ble_eq_true rfl) (Nat.le_of_ble_eq_true rfl) ?_
    exact W.iret hx hb hr (fun t ht hW => ⟨_, ho.symm, rfl, ⟨_, ⟨g88, B89, hg, rfl⟩, by rw [ht]; exact hP, hD⟩, hS.F ht⟩) hS.2.2 dL_turn_211
  have hf := q_ite_f c3_11 hf
  by_cases c3_12 : p1 = 12
  · have hf := q_ite_t c3_12 hf
    refine lv_tableIn (tgt := 212) hx hb dL_turn_17 (by rw [c3_12]; decide) (by rw [c3_12]; decide) (by rw [c3_12]; rfl) (by decide) ?_
    refine lv_aload_n hx hb dL_turn_212 rfl (lv_at hl 2 rfl) ?_
    obtain ⟨r91, hr91, hf⟩ := q_bd_go hf
    refine q_wrE (ci := 2) (As := []) (rest := []) hx hb hml hown hts (c_X2_coverAll l hlt D cI cJ cS sa A g B hg S _  _ hr91) (cwV 0 hts gL_turn_X2_coverAll rfl rfl rfl (by decide +kernel) ⟨(Nat.le_of_ble_eq_true rfl), (Nat.le_of_ble_eq_true rfl)⟩) hE hES hZ hP hD hS (fun q h => Or.inr h) rfl rfl rfl hl.1 rfl (Nat.le_of_ble_eq_true rfl) dL_turn_213 ⟨(Nat.le_of_ble_eq_true rfl), (Nat.le_of_ble_eq_true rfl)⟩ (fun g92 B93 H locs hg hP hD hS => ?_)
    have ho := q_some hf
    refine vx_ret ?_
    refine W.widen (k := 4) (n := 24) (Nat.le_of_ble_eq_true rfl) (Nat.le_of_ble_eq_true rfl) ?_
    exact W.iret hx hb hr (fun t ht hW => ⟨_, ho.symm, rfl, ⟨_, ⟨g92, B93, hg, rfl⟩, by rw [ht]; exact hP, hD⟩, hS.F ht⟩) hS.2.2 dL_turn_216
  have hf := q_ite_f c3_12 hf
  by_cases c3_13 : p1 = 13
  · have hf := q_ite_t c3_13 hf
    refine lv_tableIn (tgt := 217) hx hb dL_turn_17 (by rw [c3_13]; decide) (by rw [c3_13]; decide) (by rw [c3_13]; rfl) (by decide) ?_
    refine lv_aload_n hx hb dL_turn_217 rfl (lv_at hl 2 rfl) ?_
    refine lv_iload hx hb dL_turn_218 (lv_at hl 0 rfl) ?_
    refine lv_iload hx hb dL_turn_220 (lv_at hl 1 rfl) ?_
    obtain ⟨r94, hr94, hf⟩ := q_bd_go hf
    refine q_thV (ci := 2) (As := [.int r2, .int r1]) (rest := []) hx hb hml hown hts hlocks htab (c_X2_handOver l hlt D cI cJ cS sa A g B hg S _ r2 r1 _ hr94) (cwV 2 hts gL_turn_X2_handOver rfl rfl rfl (by decide +kernel) ⟨(Nat.le_of_ble_eq_true rfl), (Nat.le_of_ble_eq_true rfl)⟩) hE hES hZ hP hD (fun q h => Or.inr h) rfl rfl rfl hl.1 rfl (Nat.le_of_ble_eq_true rfl) dL_turn_222 ⟨(Nat.le_of_ble_eq_true rfl), (Nat.le_of_ble_eq_true rfl)⟩ (fun E e => q_exc_l hf E e) (Nat.le_of_ble_eq_true rfl) (Nat.le_of_ble_eq_true rfl) (fun z97 g95 B96 H locs er94 hg hP hD hS => ?_)
    have hf := q_exc_r hf er94
    have ho := q_some hf
    refine vx_ret ?_
    refine W.widen (k := 4) (n := 24) (Nat.le_of_ble_eq_true rfl) (Nat.le_of_ble_eq_true rfl) ?_
    exact W.iret hx hb hr (fun t ht hW => ⟨_, ho.symm, rfl, ⟨_, ⟨g95, B96, hg, rfl⟩, by rw [ht]; exact hP, hD⟩, hS.F ht⟩) hS.2.2 dL_turn_225
  have hf := q_ite_f c3_13 hf
  by_cases c3_14 : p1 = 14
  · have hf := q_ite_t c3_14 hf
    refine lv_tableIn (tgt := 226) hx hb dL_turn_17 (by rw [c3_14]; decide) (by rw [c3_14]; decide) (by rw [c3_14]; rfl) (by decide) ?_
    refine lv_aload_n hx hb dL_turn_226 rfl (lv_at hl 2 rfl) ?_
    refine lv_iload hx hb dL_turn_227 (lv_at hl 0 rfl) ?_
    obtain ⟨r98, hr98, hf⟩ := q_bd_go hf
    refine q_thV (ci := 2) (As := [.int r2]) (rest := []) hx hb hml hown hts hlocks htab (c_X2_giveUp l hlt D cI cJ cS sa A g B hg S _ r2 _ hr98) (cwV 1 hts gL_turn_X2_giveUp rfl rfl rfl (by decide +kernel) ⟨(Nat.le_of_ble_eq_true rfl), (Nat.le_of_ble_eq_true rfl)⟩) hE hES hZ hP hD (fun q h => Or.inr h) rfl rfl rfl hl.1 rfl (Nat.le_of_ble_eq_true rfl) dL_turn_229 ⟨(Nat.le_of_ble_eq_true rfl), (Nat.le_of_ble_eq_true rfl)⟩ (fun E e => q_exc_l hf E e) (Nat.le_of_ble_eq_true rfl) (Nat.le_of_ble_eq_true rfl) (fun z101 g99 B100 H locs er98 hg hP hD hS => ?_)
    have hf := q_exc_r hf er98
    have ho := q_some hf
    refine vx_ret ?_
    refine W.widen (k := 4) (n := 24) (Nat.le_of_ble_eq_true rfl) (Nat.le_of_ble_eq_true rfl) ?_
    exact W.iret hx hb hr (fun t ht hW => ⟨_, ho.symm, rfl, ⟨_, ⟨g99, B100, hg, rfl⟩, by rw [ht]; exact hP, hD⟩, hS.F ht⟩) hS.2.2 dL_turn_232
  have hf := q_ite_f c3_14 hf
  have zc3_0 := lv_neT (a := 0) c3_0 (by decide)
  have zc3_1 := lv_neT (a := 1) c3_1 (by decide)
  have zc3_2 := lv_neT (a := 2) c3_2 (by decide)
  have zc3_3 := lv_neT (a := 3) c3_3 (by decide)
  have zc3_4 := lv_neT (a := 4) c3_4 (by decide)
  have zc3_5 := lv_neT (a := 5) c3_5 (by decide)
  have zc3_6 := lv_neT (a := 6) c3_6 (by decide)
  have zc3_7 := lv_neT (a := 7) c3_7 (by decide)
  have zc3_8 := lv_neT (a := 8) c3_8 (by decide)
  have zc3_9 := lv_neT (a := 9) c3_9 (by decide)
  have zc3_10 := lv_neT (a := 10) c3_10 (by decide)
  have zc3_11 := lv_neT (a := 11) c3_11 (by decide)
  have zc3_12 := lv_neT (a := 12) c3_12 (by decide)
  have zc3_13 := lv_neT (a := 13) c3_13 (by decide)
  have zc3_14 := lv_neT (a := 14) c3_14 (by decide)
  refine lv_tableOut (tgt := 233) hx hb dL_turn_17 (by omega) (by decide) ?_
  refine lv_aload_n hx hb dL_turn_233 rfl (lv_at hl 2 rfl) ?_
  refine lv_iload_n hx hb dL_turn_234 rfl (lv_at hl 4 rfl) ?_
  refine lv_iload_n hx hb dL_turn_235 rfl (lv_at hl 5 rfl) ?_
  obtain ⟨r102, hr102, hf⟩ := q_bd_go hf
  refine q_thS (As := [.ref (A 3 0), .int p2, .int p3]) (rest := []) hx hb hml hown hts hlocks htab (c_L_any l hlt D cI cJ cS sa A g B hg S _ p2 p3 _ hr102) (va_cwS 3 hts gL_turn_L_any rfl rfl rfl (by decide +kernel) ⟨(Nat.le_of_ble_eq_true rfl), (Nat.le_of_ble_eq_true rfl)⟩) hE hES hZ hP hD (fun q h => Or.inr h) rfl hl.1 rfl (Nat.le_of_ble_eq_true rfl) dL_turn_236 ⟨(Nat.le_of_ble_eq_true rfl), (Nat.le_of_ble_eq_true rfl)⟩ (fun E e => q_exc_l hf E e) (Nat.le_of_ble_eq_true rfl) (Nat.le_of_ble_eq_true rfl) (fun z105 g103 B104 H locs er102 hg hP hD hS => ?_)
  have hf := q_exc_r hf er102
  have ho := q_some hf
  refine vx_ret ?_
  refine W.widen (k := 4) (n := 24) (Nat.le_of_ble_eq_true rfl) (Nat.le_of_ble_eq_true rfl) ?_
  exact W.iret hx hb hr (fun t ht hW => ⟨_, ho.symm, rfl, ⟨_, ⟨g103, B104, hg, rfl⟩, by rw [ht]; exact hP, hD⟩, hS.F ht⟩) hS.2.2 dL_turn_239
