def f_L_work (S : CM) (O : Nat → Int64) (p1 : Int32) : Option (Int32 × CM × (Nat → Int64)) := (f_X2_work S p1).bind fun x => q_outJ x O (fun E => if E = "java/lang/IndexOutOfBoundsException" then some 1 else none) S
abbrev rL_work : Room := { frames := 8, cells := 1, slots := 6, locals := 132 }
set_option maxRecDepth 100000 in
set_option maxHeartbeats 4000000 in
theorem c_L_work (l : Launch) (hlt : l.stackTraces = false) (D : va_G) (cI cJ cS : ClassId) (sa : Nat → Nat) (A : Nat → Nat → Nat) (g : Nat → Option Nat) (B : Nat → Nat → Nat) (hg : ∀ i, i < 4 → g i = some (B i 0)) (k0 : Nat) (S : CM) (O : Nat → Int64) (sz : Nat) (p1 : Int32) (o : Int32 × CM × (Nat → Int64)) (hf : f_L_work S O p1 = some o) : vx_Met l yL_work wsL_work rL_work (va_Pc [.ref (A 3 0), .int p1, .ref k0] (q_BL D cI cJ cS sa (wLW cI cJ cS A g B k0 S O) sz)) (q_LQ o D cI cJ cS A k0 (wLW cI cJ cS A g B k0 S O) sz) q_LX 1 6 (va_A (wLW cI cJ cS A g B k0 S O) sz) := by
  refine vx_ofWH (cc := cL_work) (maxL := 4) (ret := some .int) (hh := [(0, 8, 11, 25)]) (by decide) rfl ?_
  intro p e s m args below meth c s₁ B9 hml hv
  obtain ⟨rfl, ⟨hsz, hP, hE, hD0, hES, hZ⟩, hN⟩ := hv
  have hx := B9.exec
  have hb := B9.bytes
  have hr := B9.returns
  have hts := atoms_spec (ws := wsL_work) B9.pre
  have hown : s.vm.findClass RL = some m.cls := findClass_of_methodNamed B9.named
  have hlocks := B9.notSynchronized
  have htab : c.exceptionTable.toList = [⟨0, 8, 11, 25⟩] := vx_table (x := yL_work) B9 (hts _ List.mem_cons_self)
  subst hsz
  have hD := hD0.self (sz := s.heap.size)
  have hPc : va_P D vwCl (wCM cI cJ cS A g B S) s.heap := hP.sub [1, 2, 3, 4, 5, 6, 7, 8, 9, 10, 11, 12, 13, 14, 15, 16, 17, 18, 19, 20, 21, 22, 23, 24, 25, 26, 27, 28, 29, 30, 31, 32, 33, 34, 35, 36, 37, 38, 39, 40, 41, 42, 43, 44, 45, 46, 47, 48, 49, 50, 51, 52, 53, 54, 55, 56, 57, 58, 59, 60, 61, 62, 63, 64, 65, 66, 67, 68, 69, 70, 71, 72, 73, 74, 75, 76, 77, 78, 79, 80, 81, 82] rfl
  have hDc : va_D (va_A (wLW cI cJ cS A g B k0 S O) s.heap.size) (wCM cI cJ cS A g B S) := hD.sub [1, 2, 3, 4, 5, 6, 7, 8, 9, 10, 11, 12, 13, 14, 15, 16, 17, 18, 19, 20, 21, 22, 23, 24, 25, 26, 27, 28, 29, 30, 31, 32, 33, 34, 35, 36, 37, 38, 39, 40, 41, 42, 43, 44, 45, 46, 47, 48, 49, 50, 51, 52, 53, 54, 55, 56, 57, 58, 59, 60, 61, 62, 63, 64, 65, 66, 67, 68, 69, 70, 71, 72, 73, 74, 75, 76, 77, 78, 79, 80, 81, 82] (by decide +kernel) rfl
  have hAc : ∀ q, va_A (wCM cI cJ cS A g B S) s.heap.size q → (va_A (wLW cI cJ cS A g B k0 S O) s.heap.size) q := fun q h => h.elim (fun ⟨k, e9, he⟩ => Or.inl ⟨k + 1, e9, he⟩) (fun h => Or.inr h)
  have hAr : ∀ q, va_A (wCR cI cJ A S) s.heap.size q → (va_A (wLW cI cJ cS A g B k0 S O) s.heap.size) q := fun q h => h.elim (fun ⟨k, e9, he⟩ => (qd_CR hDc).2 k _ he) (fun h => Or.inr h)
  have hl := lv_entry ([.ref (A 3 0), .int p1, .ref k0]) (n := 4) (Nat.le_of_ble_eq_true rfl)
  rw [lg_entry_eq]
  generalize (lg_sl ([.ref (A 3 0), .int p1, .ref k0]) ++ List.replicate (4 - (lg_sl ([.ref (A 3 0), .int p1, .ref k0])).length) Slot.unset).toArray = ls at hl ⊢
  have hl : lv_has ls 4 [(0, .ref (A 3 0)), (1, .int p1), (2, .ref k0)] := hl
  unfold f_L_work at hf
  refine lv_aload_n hx hb dL_work_0 rfl (lv_at hl 2 rfl) ?_
  refine lv_iconst (v := 0) hx hb dL_work_1 (by decide) ?_
  refine lv_aload_n hx hb dL_work_2 rfl (lv_at hl 0 rfl) ?_
  refine lv_iload_n hx hb dL_work_3 rfl (lv_at hl 1 rfl) ?_
  obtain ⟨x, hx1, hf⟩ := q_bd_go hf
  refine q_lcR (vx_runV (As := [.int p1]) (rest := [.int 0, .ref k0]) ⟨hx, hb, hml, hown, hts⟩ (c_X2_work l hlt D cI cJ cS sa A S p1 _ hx1) (cwV 1 hts gL_work_X2_work rfl rfl rfl (by decide +kernel) ⟨(Nat.le_of_ble_eq_true rfl), (Nat.le_of_ble_eq_true rfl)⟩) ⟨q_blindX, va_recv hE.1 (qp_CR hPc) (ci := 2) (q0 := 0) rfl rfl, fun U hU hW => ⟨rfl, by rw [hU]; exact qp_CR hPc, q_E.warm hW hE, q_ES.warm hW hES, by rw [hU]; exact q_EZ.moved hW.alike (hZ.narrow hAr)⟩⟩ rfl rfl hl.1 rfl (lv_room (Nat.le_of_ble_eq_true rfl)) dL_work_4 ⟨(Nat.le_of_ble_eq_true rfl), (Nat.le_of_ble_eq_true rfl)⟩) (fun E ce q H1 eE hce hcv hcl hz hk => ?_) (fun r er => ?_)
  · rw [eE] at hf
    have hS1 : va_S (va_A (wLW cI cJ cS A g B k0 S O) s.heap.size) s.heap H1 [] := ⟨hz, fun q h1 _ => hk q h1, (fun z h => nomatch h)⟩
    have hP1 : va_P D vwCl (wLW cI cJ cS A g B k0 S O) H1 := hP.kept (fun k q h => hk q.1 (vx_lt hP h))
    by_cases cE : E = "java/lang/IndexOutOfBoundsException"
    · subst cE
      have hf : some ((1 : Int32), S, O) = some o := hf
      refine vx_catch (name := "java/lang/IndexOutOfBoundsException") hown [] ⟨0, 8, 11, 25⟩ [] htab (fun z hz => nomatch hz) (by decide) (by decide) (hts (.classLink RL 25 "java/lang/IndexOutOfBoundsException") (List.mem_of_getElem? (i := 1) rfl)) (va_Nw.use rfl hES.2.1) hce hcv hcl ?_
      refine lv_astore_n (lv' := [(3, .ref q), (0, .ref (A 3 0)), (1, .int p1), (2, .ref k0)]) hx hb dL_work_11 rfl hl (by decide) rfl (fun ls hl => ?_)
      refine lv_iconst (v := 1) hx hb dL_work_12 (by decide) ?_
      have ho := q_some hf
      subst ho
      refine vx_ret ?_
      exact W.iret hx hb hr (fun t ht hW => ⟨rfl, ⟨_, ⟨g, B, hg, rfl⟩, by rw [ht]; exact hP1, hD⟩, hS1.F ht⟩) hS1.2.2 dL_work_13
    have hn : q_outJ (.inl E) O (fun E => if E = "java/lang/IndexOutOfBoundsException" then some 1 else none) S = none := by simp [q_outJ, *]
    rw [hn] at hf
    cases hf
  · rw [er] at hf
    have hS : va_S (va_A (wLW cI cJ cS A g B k0 S O) s.heap.size) s.heap s.heap [] := va_S.rf
    refine va_last hx hb hE.1 hP hD hS 0 1 rfl rfl (by unfold vp_in; decide) dL_work_7 (fun H locs hP hD hS => ?_)
    have hP : va_P D vwCl (wLW cI cJ cS A g B k0 S (vp_updL O (0 : Int32).toNatClampNeg r)) H := hP
    have hD : va_D (va_A (wLW cI cJ cS A g B k0 S O) s.heap.size) (wLW cI cJ cS A g B k0 S (vp_updL O (0 : Int32).toNatClampNeg r)) := hD
    refine lv_goto (tgt := 14) hx hb dL_work_8 (by decide) ?_
    refine lv_iconst (v := 0) hx hb dL_work_14 (by decide) ?_
    have ho := q_some hf
    subst ho
    refine vx_ret ?_
    exact W.iret hx hb hr (fun t ht hW => ⟨rfl, ⟨_, ⟨g, B, hg, rfl⟩, by rw [ht]; exact hP, hD⟩, hS.F ht⟩) hS.2.2 dL_work_15
def f_L_absence (S : CM) (O : Nat → Int64) (p1 : Int32) (p2 : Int32) : Option (Int32 × CM × (Nat → Int64)) := (f_X2_absence S p1 p2).bind fun x => q_outR x O (fun E => if E = "java/lang/IndexOutOfBoundsException" then some 1 else if E = "java/lang/IllegalArgumentException" then some 2 else none) S
abbrev rL_absence : Room := { frames := 8, cells := 2, slots := 12, locals := 134 }
set_option maxRecDepth 100000 in
set_option maxHeartbeats 4000000 in
theorem c_L_absence (l : Launch) (hlt : l.stackTraces = false) (D : va_G) (cI cJ cS : ClassId) (sa : Nat → Nat) (A : Nat → Nat → Nat) (g : Nat → Option Nat) (B : Nat → Nat → Nat) (hg : ∀ i, i < 4 → g i = some (B i 0)) (k0 : Nat) (S : CM) (O : Nat → Int64) (sz : Nat) (p1 : Int32) (p2 : Int32) (o : Int32 × CM × (Nat → Int64)) (hf : f_L_absence S O p1 p2 = some o) : vx_Met l yL_absence wsL_absence rL_absence (va_Pc [.ref (A 3 0), .int p1, .int p2, .ref k0] (q_BL D cI cJ cS sa (wLW cI cJ cS A g B k0 S O) sz)) (q_LQ o D cI cJ cS A k0 (wLW cI cJ cS A g B k0 S O) sz) q_LX 2 12 (va_A (wLW cI cJ cS A g B k0 S O) sz) := by
  refine vx_ofWH (cc := cL_absence) (maxL := 5) (ret := some .int) (hh := [(0, 10, 13, 25), (0, 10, 17, 13)]) (by decide) rfl ?_
  intro p e s m args below meth c s₁ B9 hml hv
  obtain ⟨rfl, ⟨hsz, hP, hE, hD0, hES, hZ⟩, hN⟩ := hv
  have hx := B9.exec
  have hb := B9.bytes
  have hr := B9.returns
  have hts := atoms_spec (ws := wsL_absence) B9.pre
  have hown : s.vm.findClass RL = some m.cls := findClass_of_methodNamed B9.named
  have hlocks := B9.notSynchronized
  have htab : c.exceptionTable.toList = [⟨0, 10, 13, 25⟩, ⟨0, 10, 17, 13⟩] := vx_table (x := yL_absence) B9 (hts _ List.mem_cons_self)
  subst hsz
  have hD := hD0.self (sz := s.heap.size)
  have hPc : va_P D vwCl (wCM cI cJ cS A g B S) s.heap := hP.sub [1, 2, 3, 4, 5, 6, 7, 8, 9, 10, 11, 12, 13, 14, 15, 16, 17, 18, 19, 20, 21, 22, 23, 24, 25, 26, 27, 28, 29, 30, 31, 32, 33, 34, 35, 36, 37, 38, 39, 40, 41, 42, 43, 44, 45, 46, 47, 48, 49, 50, 51, 52, 53, 54, 55, 56, 57, 58, 59, 60, 61, 62, 63, 64, 65, 66, 67, 68, 69, 70, 71, 72, 73, 74, 75, 76, 77, 78, 79, 80, 81, 82] rfl
  have hDc : va_D (va_A (wLW cI cJ cS A g B k0 S O) s.heap.size) (wCM cI cJ cS A g B S) := hD.sub [1, 2, 3, 4, 5, 6, 7, 8, 9, 10, 11, 12, 13, 14, 15, 16, 17, 18, 19, 20, 21, 22, 23, 24, 25, 26, 27, 28, 29, 30, 31, 32, 33, 34, 35, 36, 37, 38, 39, 40, 41, 42, 43, 44, 45, 46, 47, 48, 49, 50, 51, 52, 53, 54, 55, 56, 57, 58, 59, 60, 61, 62, 63, 64, 65, 66, 67, 68, 69, 70, 71, 72, 73, 74, 75, 76, 77, 78, 79, 80, 81, 82] (by decide +kernel) rfl
  have hAc : ∀ q, va_A (wCM cI cJ cS A g B S) s.heap.size q → (va_A (wLW cI cJ cS A g B k0 S O) s.heap.size) q := fun q h => h.elim (fun ⟨k, e9, he⟩ => Or.inl ⟨k + 1, e9, he⟩) (fun h => Or.inr h)
  have hAr : ∀ q, va_A (wCR cI cJ A S) s.heap.size q → (va_A (wLW cI cJ cS A g B k0 S O) s.heap.size) q := fun q h => h.elim (fun ⟨k, e9, he⟩ => (qd_CR hDc).2 k _ he) (fun h => Or.inr h)
  have hl := lv_entry ([.ref (A 3 0), .int p1, .int p2, .ref k0]) (n := 5) (Nat.le_of_ble_eq_true rfl)
  rw [lg_entry_eq]
  generalize (lg_sl ([.ref (A 3 0), .int p1, .int p2, .ref k0]) ++ List.replicate (5 - (lg_sl ([.ref (A 3 0), .int p1, .int p2, .ref k0])).length) Slot.unset).toArray = ls at hl ⊢
  have hl : lv_has ls 5 [(0, .ref (A 3 0)), (1, .int p1), (2, .int p2), (3, .ref k0)] := hl
  unfold f_L_absence at hf
  refine lv_aload_n hx hb dL_absence_0 rfl (lv_at hl 3 rfl) ?_
  refine lv_iconst (v := 0) hx hb dL_absence_1 (by decide) ?_
  refine lv_aload_n hx hb dL_absence_2 rfl (lv_at hl 0 rfl) ?_
  refine lv_iload_n hx hb dL_absence_3 rfl (lv_at hl 1 rfl) ?_
  refine lv_iload_n hx hb dL_absence_4 rfl (lv_at hl 2 rfl) ?_
  obtain ⟨x, hx1, hf⟩ := q_bd_go hf
  refine q_lcR (vx_runV (As := [.int p1, .int p2]) (rest := [.int 0, .ref k0]) ⟨hx, hb, hml, hown, hts⟩ (c_X2_absence l hlt D cI cJ cS sa A S p1 p2 _ hx1) (cwV 2 hts gL_absence_X2_absence rfl rfl rfl (by decide +kernel) ⟨(Nat.le_of_ble_eq_true rfl), (Nat.le_of_ble_eq_true rfl)⟩) ⟨q_blindX, va_recv hE.1 (qp_CR hPc) (ci := 2) (q0 := 0) rfl rfl, fun U hU hW => ⟨rfl, by rw [hU]; exact qp_CR hPc, q_E.warm hW hE, q_ES.warm hW hES, by rw [hU]; exact q_EZ.moved hW.alike (hZ.narrow hAr)⟩⟩ rfl rfl hl.1 rfl (lv_room (Nat.le_of_ble_eq_true rfl)) dL_absence_5 ⟨(Nat.le_of_ble_eq_true rfl), (Nat.le_of_ble_eq_true rfl)⟩) (fun E ce q H1 eE hce hcv hcl hz hk => ?_) (fun r er => ?_)
  · rw [eE] at hf
    have hS1 : va_S (va_A (wLW cI cJ cS A g B k0 S O) s.heap.size) s.heap H1 [] := ⟨hz, fun q h1 _ => hk q h1, (fun z h => nomatch h)⟩
    have hP1 : va_P D vwCl (wLW cI cJ cS A g B k0 S O) H1 := hP.kept (fun k q h => hk q.1 (vx_lt hP h))
    by_cases cE : E = "java/lang/IndexOutOfBoundsException"
    · subst cE
      have hf : some ((1 : Int32), S, O) = some o := hf
      refine vx_catch (name := "java/lang/IndexOutOfBoundsException") hown [] ⟨0, 10, 13, 25⟩ [⟨0, 10, 17, 13⟩] htab (fun z hz => nomatch hz) (by decide) (by decide) (hts (.classLink RL 25 "java/lang/IndexOutOfBoundsException") (List.mem_of_getElem? (i := 1) rfl)) (va_Nw.use rfl hES.2.1) hce hcv hcl ?_
      refine lv_astore (lv' := [(4, .ref q), (0, .ref (A 3 0)), (1, .int p1), (2, .int p2), (3, .ref k0)]) hx hb dL_absence_13 hl (by decide) rfl (fun ls hl => ?_)
      refine lv_iconst (v := 1) hx hb dL_absence_15 (by decide) ?_
      have ho := q_some hf
      subst ho
      refine vx_ret ?_
      exact W.iret hx hb hr (fun t ht hW => ⟨rfl, ⟨_, ⟨g, B, hg, rfl⟩, by rw [ht]; exact hP1, hD⟩, hS1.F ht⟩) hS1.2.2 dL_absence_16
    by_cases cE : E = "java/lang/IllegalArgumentException"
    · subst cE
      have hf : some ((2 : Int32), S, O) = some o := hf
      refine vx_catch (name := "java/lang/IllegalArgumentException") hown [⟨0, 10, 13, 25⟩] ⟨0, 10, 17, 13⟩ [] htab (by intro z hz; simp only [List.mem_cons, List.not_mem_nil, or_false] at hz; rcases hz with rfl; exact Or.inr ⟨by decide, _, (hts (.classLink RL 25 "java/lang/IndexOutOfBoundsException") (List.mem_of_getElem? (i := 1) rfl)), hN.2.2⟩) (by decide) (by decide) (hts (.classLink RL 13 "java/lang/IllegalArgumentException") (List.mem_of_getElem? (i := 2) rfl)) (va_Nw.use rfl hES.2.2.1) hce hcv hcl ?_
      refine lv_astore (lv' := [(4, .ref q), (0, .ref (A 3 0)), (1, .int p1), (2, .int p2), (3, .ref k0)]) hx hb dL_absence_17 hl (by decide) rfl (fun ls hl => ?_)
      refine lv_iconst (v := 2) hx hb dL_absence_19 (by decide) ?_
      have ho := q_some hf
      subst ho
      refine vx_ret ?_
      exact W.iret hx hb hr (fun t ht hW => ⟨rfl, ⟨_, ⟨g, B, hg, rfl⟩, by rw [ht]; exact hP1, hD⟩, hS1.F ht⟩) hS1.2.2 dL_absence_20
    have hn : q_outR (.inl E) O (fun E => if E = "java/lang/IndexOutOfBoundsException" then some 1 else if E = "java/lang/IllegalArgumentException" then some 2 else none) S = none := by simp [q_outR, *]
    rw [hn] at hf
    cases hf
  · rw [er] at hf
    have hS : va_S (va_A (wLW cI cJ cS A g B k0 S O) s.heap.size) s.heap s.heap [] := va_S.rf
    refine lv_i2l (v := ((r : Int32).toInt64)) hx hb dL_absence_8 rfl ?_
    refine va_last hx hb hE.1 hP hD hS 0 1 rfl rfl (by unfold vp_in; decide) dL_absence_9 (fun H locs hP hD hS => ?_)
    have hP : va_P D vwCl (wLW cI cJ cS A g B k0 S (vp_updL O (0 : Int32).toNatClampNeg ((r : Int32).toInt64))) H := hP
    have hD : va_D (va_A (wLW cI cJ cS A g B k0 S O) s.heap.size) (wLW cI cJ cS A g B k0 S (vp_updL O (0 : Int32).toNatClampNeg ((r : Int32).toInt64))) := hD
    refine lv_goto (tgt := 21) hx hb dL_absence_10 (by decide) ?_
    refine lv_iconst (v := 0) hx hb dL_absence_21 (by decide) ?_
    have ho := q_some hf
    subst ho
    refine vx_ret ?_
    exact W.iret hx hb hr (fun t ht hW => ⟨rfl, ⟨_, ⟨g, B, hg, rfl⟩, by rw [ht]; exact hP, hD⟩, hS.F ht⟩) hS.2.2 dL_absence_22
def f_L_bidOf (S : CM) (O : Nat → Int64) (p1 : Int32) (p2 : Int32) : Option (Int32 × CM × (Nat → Int64)) := (f_X2_bidOf S p1 p2).bind fun x => q_outR x O (fun E => if E = "java/lang/IndexOutOfBoundsException" then some 1 else none) S
abbrev rL_bidOf : Room := { frames := 8, cells := 2, slots := 12, locals := 133 }
set_option maxRecDepth 100000 in
set_option maxHeartbeats 4000000 in
theorem c_L_bidOf (l : Launch) (hlt : l.stackTraces = false) (D : va_G) (cI cJ cS : ClassId) (sa : Nat → Nat) (A : Nat → Nat → Nat) (g : Nat → Option Nat) (B : Nat → Nat → Nat) (hg : ∀ i, i < 4 → g i = some (B i 0)) (k0 : Nat) (S : CM) (O : Nat → Int64) (sz : Nat) (p1 : Int32) (p2 : Int32) (o : Int32 × CM × (Nat → Int64)) (hf : f_L_bidOf S O p1 p2 = some o) : vx_Met l yL_bidOf wsL_bidOf rL_bidOf (va_Pc [.ref (A 3 0), .int p1, .int p2, .ref k0] (q_BL D cI cJ cS sa (wLW cI cJ cS A g B k0 S O) sz)) (q_LQ o D cI cJ cS A k0 (wLW cI cJ cS A g B k0 S O) sz) q_LX 2 12 (va_A (wLW cI cJ cS A g B k0 S O) sz) := by
  refine vx_ofWH (cc := cL_bidOf) (maxL := 5) (ret := some .int) (hh := [(0, 10, 13, 25)]) (by decide) rfl ?_
  intro p e s m args below meth c s₁ B9 hml hv
  obtain ⟨rfl, ⟨hsz, hP, hE, hD0, hES, hZ⟩, hN⟩ := hv
  have hx := B9.exec
  have hb := B9.bytes
  have hr := B9.returns
  have hts := atoms_spec (ws := wsL_bidOf) B9.pre
  have hown : s.vm.findClass RL = some m.cls := findClass_of_methodNamed B9.named
  have hlocks := B9.notSynchronized
  have htab : c.exceptionTable.toList = [⟨0, 10, 13, 25⟩] := vx_table (x := yL_bidOf) B9 (hts _ List.mem_cons_self)
  subst hsz
  have hD := hD0.self (sz := s.heap.size)
  have hPc : va_P D vwCl (wCM cI cJ cS A g B S) s.heap := hP.sub [1, 2, 3, 4, 5, 6, 7, 8, 9, 10, 11, 12, 13, 14, 15, 16, 17, 18, 19, 20, 21, 22, 23, 24, 25, 26, 27, 28, 29, 30, 31, 32, 33, 34, 35, 36, 37, 38, 39, 40, 41, 42, 43, 44, 45, 46, 47, 48, 49, 50, 51, 52, 53, 54, 55, 56, 57, 58, 59, 60, 61, 62, 63, 64, 65, 66, 67, 68, 69, 70, 71, 72, 73, 74, 75, 76, 77, 78, 79, 80, 81, 82] rfl
  have hDc : va_D (va_A (wLW cI cJ cS A g B k0 S O) s.heap.size) (wCM cI cJ cS A g B S) := hD.sub [1, 2, 3, 4, 5, 6, 7, 8, 9, 10, 11, 12, 13, 14, 15, 16, 17, 18, 19, 20, 21, 22, 23, 24, 25, 26, 27, 28, 29, 30, 31, 32, 33, 34, 35, 36, 37, 38, 39, 40, 41, 42, 43, 44, 45, 46, 47, 48, 49, 50, 51, 52, 53, 54, 55, 56, 57, 58, 59, 60, 61, 62, 63, 64, 65, 66, 67, 68, 69, 70, 71, 72, 73, 74, 75, 76, 77, 78, 79, 80, 81, 82] (by decide +kernel) rfl
  have hAc : ∀ q, va_A (wCM cI cJ cS A g B S) s.heap.size q → (va_A (wLW cI cJ cS A g B k0 S O) s.heap.size) q := fun q h => h.elim (fun ⟨k, e9, he⟩ => Or.inl ⟨k + 1, e9, he⟩) (fun h => Or.inr h)
  have hAr : ∀ q, va_A (wCR cI cJ A S) s.heap.size q → (va_A (wLW cI cJ cS A g B k0 S O) s.heap.size) q := fun q h => h.elim (fun ⟨k, e9, he⟩ => (qd_CR hDc).2 k _ he) (fun h => Or.inr h)
  have hl := lv_entry ([.ref (A 3 0), .int p1, .int p2, .ref k0]) (n := 5) (Nat.le_of_ble_eq_true rfl)
  rw [lg_entry_eq]
  generalize (lg_sl ([.ref (A 3 0), .int p1, .int p2, .ref k0]) ++ List.replicate (5 - (lg_sl ([.ref (A 3 0), .int p1, .int p2, .ref k0])).length) Slot.unset).toArray = ls at hl ⊢
  have hl : lv_has ls 5 [(0, .ref (A 3 0)), (1, .int p1), (2, .int p2), (3, .ref k0)] := hl
  unfold f_L_bidOf at hf
  refine lv_aload_n hx hb dL_bidOf_0 rfl (lv_at hl 3 rfl) ?_
  refine lv_iconst (v := 0) hx hb dL_bidOf_1 (by decide) ?_
  refine lv_aload_n hx hb dL_bidOf_2 rfl (lv_at hl 0 rfl) ?_
  refine lv_iload_n hx hb dL_bidOf_3 rfl (lv_at hl 1 rfl) ?_
  refine lv_iload_n hx hb dL_bidOf_4 rfl (lv_at hl 2 rfl) ?_
  obtain ⟨x, hx1, hf⟩ := q_bd_go hf
  refine q_lcR (vx_runV (As := [.int p1, .int p2]) (rest := [.int 0, .ref k0]) ⟨hx, hb, hml, hown, hts⟩ (c_X2_bidOf l hlt D cI cJ cS sa A S p1 p2 _ hx1) (cwV 2 hts gL_bidOf_X2_bidOf rfl rfl rfl (by decide +kernel) ⟨(Nat.le_of_ble_eq_true rfl), (Nat.le_of_ble_eq_true rfl)⟩) ⟨q_blindX, va_recv hE.1 (qp_CR hPc) (ci := 2) (q0 := 0) rfl rfl, fun U hU hW => ⟨rfl, by rw [hU]; exact qp_CR hPc, q_E.warm hW hE, q_ES.warm hW hES, by rw [hU]; exact q_EZ.moved hW.alike (hZ.narrow hAr)⟩⟩ rfl rfl hl.1 rfl (lv_room (Nat.le_of_ble_eq_true rfl)) dL_bidOf_5 ⟨(Nat.le_of_ble_eq_true rfl), (Nat.le_of_ble_eq_true rfl)⟩) (fun E ce q H1 eE hce hcv hcl hz hk => ?_) (fun r er => ?_)
  · rw [eE] at hf
    have hS1 : va_S (va_A (wLW cI cJ cS A g B k0 S O) s.heap.size) s.heap H1 [] := ⟨hz, fun q h1 _ => hk q h1, (fun z h => nomatch h)⟩
    have hP1 : va_P D vwCl (wLW cI cJ cS A g B k0 S O) H1 := hP.kept (fun k q h => hk q.1 (vx_lt hP h))
    by_cases cE : E = "java/lang/IndexOutOfBoundsException"
    · subst cE
      have hf : some ((1 : Int32), S, O) = some o := hf
      refine vx_catch (name := "java/lang/IndexOutOfBoundsException") hown [] ⟨0, 10, 13, 25⟩ [] htab (fun z hz => nomatch hz) (by decide) (by decide) (hts (.classLink RL 25 "java/lang/IndexOutOfBoundsException") (List.mem_of_getElem? (i := 1) rfl)) (va_Nw.use rfl hES.2.1) hce hcv hcl ?_
      refine lv_astore (lv' := [(4, .ref q), (0, .ref (A 3 0)), (1, .int p1), (2, .int p2), (3, .ref k0)]) hx hb dL_bidOf_13 hl (by decide) rfl (fun ls hl => ?_)
      refine lv_iconst (v := 1) hx hb dL_bidOf_15 (by decide) ?_
      have ho := q_some hf
      subst ho
      refine vx_ret ?_
      exact W.iret hx hb hr (fun t ht hW => ⟨rfl, ⟨_, ⟨g, B, hg, rfl⟩, by rw [ht]; exact hP1, hD⟩, hS1.F ht⟩) hS1.2.2 dL_bidOf_16
    have hn : q_outR (.inl E) O (fun E => if E = "java/lang/IndexOutOfBoundsException" then some 1 else none) S = none := by simp [q_outR, *]
    rw [hn] at hf
    cases hf
  · rw [er] at hf
    have hS : va_S (va_A (wLW cI cJ cS A g B k0 S O) s.heap.size) s.heap s.heap [] := va_S.rf
    refine lv_i2l (v := ((r : Int32).toInt64)) hx hb dL_bidOf_8 rfl ?_
    refine va_last hx hb hE.1 hP hD hS 0 1 rfl rfl (by unfold vp_in; decide) dL_bidOf_9 (fun H locs hP hD hS => ?_)
    have hP : va_P D vwCl (wLW cI cJ cS A g B k0 S (vp_updL O (0 : Int32).toNatClampNeg ((r : Int32).toInt64))) H := hP
    have hD : va_D (va_A (wLW cI cJ cS A g B k0 S O) s.heap.size) (wLW cI cJ cS A g B k0 S (vp_updL O (0 : Int32).toNatClampNeg ((r : Int32).toInt64))) := hD
    refine lv_goto (tgt := 17) hx hb dL_bidOf_10 (by decide) ?_
    refine lv_iconst (v := 0) hx hb dL_bidOf_17 (by decide) ?_
    have ho := q_some hf
    subst ho
    refine vx_ret ?_
    exact W.iret hx hb hr (fun t ht hW => ⟨rfl, ⟨_, ⟨g, B, hg, rfl⟩, by rw [ht]; exact hP, hD⟩, hS.F ht⟩) hS.2.2 dL_bidOf_18
def f_L_why (S : CM) (O : Nat → Int64) (p1 : Int32) (p2 : Int32) : Option (Int32 × CM × (Nat → Int64)) := (f_X2_why S p1 p2).bind fun x => q_outR x O (fun E => if E = "java/lang/IndexOutOfBoundsException" then some 1 else none) S
abbrev rL_why : Room := { frames := 8, cells := 2, slots := 12, locals := 133 }
set_option maxRecDepth 100000 in
set_option maxHeartbeats 4000000 in
theorem c_L_why (l : Launch) (hlt : l.stackTraces = false) (D : va_G) (cI cJ cS : ClassId) (sa : Nat → Nat) (A : Nat → Nat → Nat) (g : Nat → Option Nat) (B : Nat → Nat → Nat) (hg : ∀ i, i < 4 → g i = some (B i 0)) (k0 : Nat) (S : CM) (O : Nat → Int64) (sz : Nat) (p1 : Int32) (p2 : Int32) (o : Int32 × CM × (Nat → Int64)) (hf : f_L_why S O p1 p2 = some o) : vx_Met l yL_why wsL_why rL_why (va_Pc [.ref (A 3 0), .int p1, .int p2, .ref k0] (q_BL D cI cJ cS sa (wLW cI cJ cS A g B k0 S O) sz)) (q_LQ o D cI cJ cS A k0 (wLW cI cJ cS A g B k0 S O) sz) q_LX 2 12 (va_A (wLW cI cJ cS A g B k0 S O) sz) := by
  refine vx_ofWH (cc := cL_why) (maxL := 5) (ret := some .int) (hh := [(0, 10, 13, 25)]) (by decide) rfl ?_
  intro p e s m args below meth c s₁ B9 hml hv
  obtain ⟨rfl, ⟨hsz, hP, hE, hD0, hES, hZ⟩, hN⟩ := hv
  have hx := B9.exec
  have hb := B9.bytes
  have hr := B9.returns
  have hts := atoms_spec (ws := wsL_why) B9.pre
  have hown : s.vm.findClass RL = some m.cls := findClass_of_methodNamed B9.named
  have hlocks := B9.notSynchronized
  have htab : c.exceptionTable.toList = [⟨0, 10, 13, 25⟩] := vx_table (x := yL_why) B9 (hts _ List.mem_cons_self)
  subst hsz
  have hD := hD0.self (sz := s.heap.size)
  have hPc : va_P D vwCl (wCM cI cJ cS A g B S) s.heap := hP.sub [1, 2, 3, 4, 5, 6, 7, 8, 9, 10, 11, 12, 13, 14, 15, 16, 17, 18, 19, 20, 21, 22, 23, 24, 25, 26, 27, 28, 29, 30, 31, 32, 33, 34, 35, 36, 37, 38, 39, 40, 41, 42, 43, 44, 45, 46, 47, 48, 49, 50, 51, 52, 53, 54, 55, 56, 57, 58, 59, 60, 61, 62, 63, 64, 65, 66, 67, 68, 69, 70, 71, 72, 73, 74, 75, 76, 77, 78, 79, 80, 81, 82] rfl
  have hDc : va_D (va_A (wLW cI cJ cS A g B k0 S O) s.heap.size) (wCM cI cJ cS A g B S) := hD.sub [1, 2, 3, 4, 5, 6, 7, 8, 9, 10, 11, 12, 13, 14, 15, 16, 17, 18, 19, 20, 21, 22, 23, 24, 25, 26, 27, 28, 29, 30, 31, 32, 33, 34, 35, 36, 37, 38, 39, 40, 41, 42, 43, 44, 45, 46, 47, 48, 49, 50, 51, 52, 53, 54, 55, 56, 57, 58, 59, 60, 61, 62, 63, 64, 65, 66, 67, 68, 69, 70, 71, 72, 73, 74, 75, 76, 77, 78, 79, 80, 81, 82] (by decide +kernel) rfl
  have hAc : ∀ q, va_A (wCM cI cJ cS A g B S) s.heap.size q → (va_A (wLW cI cJ cS A g B k0 S O) s.heap.size) q := fun q h => h.elim (fun ⟨k, e9, he⟩ => Or.inl ⟨k + 1, e9, he⟩) (fun h => Or.inr h)
  have hAr : ∀ q, va_A (wCR cI cJ A S) s.heap.size q → (va_A (wLW cI cJ cS A g B k0 S O) s.heap.size) q := fun q h => h.elim (fun ⟨k, e9, he⟩ => (qd_CR hDc).2 k _ he) (fun h => Or.inr h)
  have hl := lv_entry ([.ref (A 3 0), .int p1, .int p2, .ref k0]) (n := 5) (Nat.le_of_ble_eq_true rfl)
  rw [lg_entry_eq]
  generalize (lg_sl ([.ref (A 3 0), .int p1, .int p2, .ref k0]) ++ List.replicate (5 - (lg_sl ([.ref (A 3 0), .int p1, .int p2, .ref k0])).length) Slot.unset).toArray = ls at hl ⊢
  have hl : lv_has ls 5 [(0, .ref (A 3 0)), (1, .int p1), (2, .int p2), (3, .ref k0)] := hl
  unfold f_L_why at hf
  refine lv_aload_n hx hb dL_why_0 rfl (lv_at hl 3 rfl) ?_
  refine lv_iconst (v := 0) hx hb dL_why_1 (by decide) ?_
  refine lv_aload_n hx hb dL_why_2 rfl (lv_at hl 0 rfl) ?_
  refine lv_iload_n hx hb dL_why_3 rfl (lv_at hl 1 rfl) ?_
  refine lv_iload_n hx hb dL_why_4 rfl (lv_at hl 2 rfl) ?_
  obtain ⟨x, hx1, hf⟩ := q_bd_go hf
  refine q_lcR (vx_runV (As := [.int p1, .int p2]) (rest := [.int 0, .ref k0]) ⟨hx, hb, hml, hown, hts⟩ (c_X2_why l hlt D cI cJ cS sa A S p1 p2 _ hx1) (cwV 2 hts gL_why_X2_why rfl rfl rfl (by decide +kernel) ⟨(Nat.le_of_ble_eq_true rfl), (Nat.le_of_ble_eq_true rfl)⟩) ⟨q_blindX, va_recv hE.1 (qp_CR hPc) (ci := 2) (q0 := 0) rfl rfl, fun U hU hW => ⟨rfl, by rw [hU]; exact qp_CR hPc, q_E.warm hW hE, q_ES.warm hW hES, by rw [hU]; exact q_EZ.moved hW.alike (hZ.narrow hAr)⟩⟩ rfl rfl hl.1 rfl (lv_room (Nat.le_of_ble_eq_true rfl)) dL_why_5 ⟨(Nat.le_of_ble_eq_true rfl), (Nat.le_of_ble_eq_true rfl)⟩) (fun E ce q H1 eE hce hcv hcl hz hk => ?_) (fun r er => ?_)
  · rw [eE] at hf
    have hS1 : va_S (va_A (wLW cI cJ cS A g B k0 S O) s.heap.size) s.heap H1 [] := ⟨hz, fun q h1 _ => hk q h1, (fun z h => nomatch h)⟩
    have hP1 : va_P D vwCl (wLW cI cJ cS A g B k0 S O) H1 := hP.kept (fun k q h => hk q.1 (vx_lt hP h))
    by_cases cE : E = "java/lang/IndexOutOfBoundsException"
    · subst cE
      have hf : some ((1 : Int32), S, O) = some o := hf
      refine vx_catch (name := "java/lang/IndexOutOfBoundsException") hown [] ⟨0, 10, 13, 25⟩ [] htab (fun z hz => nomatch hz) (by decide) (by decide) (hts (.classLink RL 25 "java/lang/IndexOutOfBoundsException") (List.mem_of_getElem? (i := 1) rfl)) (va_Nw.use rfl hES.2.1) hce hcv hcl ?_
      refine lv_astore (lv' := [(4, .ref q), (0, .ref (A 3 0)), (1, .int p1), (2, .int p2), (3, .ref k0)]) hx hb dL_why_13 hl (by decide) rfl (fun ls hl => ?_)
      refine lv_iconst (v := 1) hx hb dL_why_15 (by decide) ?_
      have ho := q_some hf
      subst ho
      refine vx_ret ?_
      exact W.iret hx hb hr (fun t ht hW => ⟨rfl, ⟨_, ⟨g, B, hg, rfl⟩, by rw [ht]; exact hP1, hD⟩, hS1.F ht⟩) hS1.2.2 dL_why_16
    have hn : q_outR (.inl E) O (fun E => if E = "java/lang/IndexOutOfBoundsException" then some 1 else none) S = none := by simp [q_outR, *]
    rw [hn] at hf
    cases hf
  · rw [er] at hf
    have hS : va_S (va_A (wLW cI cJ cS A g B k0 S O) s.heap.size) s.heap s.heap [] := va_S.rf
    refine lv_i2l (v := ((r : Int32).toInt64)) hx hb dL_why_8 rfl ?_
    refine va_last hx hb hE.1 hP hD hS 0 1 rfl rfl (by unfold vp_in; decide) dL_why_9 (fun H locs hP hD hS => ?_)
    have hP : va_P D vwCl (wLW cI cJ cS A g B k0 S (vp_updL O (0 : Int32).toNatClampNeg ((r : Int32).toInt64))) H := hP
    have hD : va_D (va_A (wLW cI cJ cS A g B k0 S O) s.heap.size) (wLW cI cJ cS A g B k0 S (vp_updL O (0 : Int32).toNatClampNeg ((r : Int32).toInt64))) := hD
    refine lv_goto (tgt := 17) hx hb dL_why_10 (by decide) ?_
    refine lv_iconst (v := 0) hx hb dL_why_17 (by decide) ?_
    have ho := q_some hf
    subst ho
    refine vx_ret ?_
    exact W.iret hx hb hr (fun t ht hW => ⟨rfl, ⟨_, ⟨g, B, hg, rfl⟩, by rw [ht]; exact hP, hD⟩, hS.F ht⟩) hS.2.2 dL_why_18
def f_L_value (S : CM) (O : Nat → Int64) (p1 : Int32) : Option (Int32 × CM × (Nat → Int64)) := (f_X2_value S p1).bind fun x => q_outR x O (fun E => if E = "java/lang/IllegalArgumentException" then some 1 else none) S
abbrev rL_value : Room := { frames := 8, cells := 1, slots := 6, locals := 133 }
set_option maxRecDepth 100000 in
set_option maxHeartbeats 4000000 in
theorem c_L_value (l : Launch) (hlt : l.stackTraces = false) (D : va_G) (cI cJ cS : ClassId) (sa : Nat → Nat) (A : Nat → Nat → Nat) (g : Nat → Option Nat) (B : Nat → Nat → Nat) (hg : ∀ i, i < 4 → g i = some (B i 0)) (k0 : Nat) (S : CM) (O : Nat → Int64) (sz : Nat) (p1 : Int32) (o : Int32 × CM × (Nat → Int64)) (hf : f_L_value S O p1 = some o) : vx_Met l yL_value wsL_value rL_value (va_Pc [.ref (A 3 0), .int p1, .ref k0] (q_BL D cI cJ cS sa (wLW cI cJ cS A g B k0 S O) sz)) (q_LQ o D cI cJ cS A k0 (wLW cI cJ cS A g B k0 S O) sz) q_LX 1 6 (va_A (wLW cI cJ cS A g B k0 S O) sz) := by
  refine vx_ofWH (cc := cL_value) (maxL := 4) (ret := some .int) (hh := [(0, 9, 12, 13)]) (by decide) rfl ?_
  intro p e s m args below meth c s₁ B9 hml hv
  obtain ⟨rfl, ⟨hsz, hP, hE, hD0, hES, hZ⟩, hN⟩ := hv
  have hx := B9.exec
  have hb := B9.bytes
  have hr := B9.returns
  have hts := atoms_spec (ws := wsL_value) B9.pre
  have hown : s.vm.findClass RL = some m.cls := findClass_of_methodNamed B9.named
  have hlocks := B9.notSynchronized
  have htab : c.exceptionTable.toList = [⟨0, 9, 12, 13⟩] := vx_table (x := yL_value) B9 (hts _ List.mem_cons_self)
  subst hsz
  have hD := hD0.self (sz := s.heap.size)
  have hPc : va_P D vwCl (wCM cI cJ cS A g B S) s.heap := hP.sub [1, 2, 3, 4, 5, 6, 7, 8, 9, 10, 11, 12, 13, 14, 15, 16, 17, 18, 19, 20, 21, 22, 23, 24, 25, 26, 27, 28, 29, 30, 31, 32, 33, 34, 35, 36, 37, 38, 39, 40, 41, 42, 43, 44, 45, 46, 47, 48, 49, 50, 51, 52, 53, 54, 55, 56, 57, 58, 59, 60, 61, 62, 63, 64, 65, 66, 67, 68, 69, 70, 71, 72, 73, 74, 75, 76, 77, 78, 79, 80, 81, 82] rfl
  have hDc : va_D (va_A (wLW cI cJ cS A g B k0 S O) s.heap.size) (wCM cI cJ cS A g B S) := hD.sub [1, 2, 3, 4, 5, 6, 7, 8, 9, 10, 11, 12, 13, 14, 15, 16, 17, 18, 19, 20, 21, 22, 23, 24, 25, 26, 27, 28, 29, 30, 31, 32, 33, 34, 35, 36, 37, 38, 39, 40, 41, 42, 43, 44, 45, 46, 47, 48, 49, 50, 51, 52, 53, 54, 55, 56, 57, 58, 59, 60, 61, 62, 63, 64, 65, 66, 67, 68, 69, 70, 71, 72, 73, 74, 75, 76, 77, 78, 79, 80, 81, 82] (by decide +kernel) rfl
  have hAc : ∀ q, va_A (wCM cI cJ cS A g B S) s.heap.size q → (va_A (wLW cI cJ cS A g B k0 S O) s.heap.size) q := fun q h => h.elim (fun ⟨k, e9, he⟩ => Or.inl ⟨k + 1, e9, he⟩) (fun h => Or.inr h)
  have hAr : ∀ q, va_A (wCR cI cJ A S) s.heap.size q → (va_A (wLW cI cJ cS A g B k0 S O) s.heap.size) q := fun q h => h.elim (fun ⟨k, e9, he⟩ => (qd_CR hDc).2 k _ he) (fun h => Or.inr h)
  have hl := lv_entry ([.ref (A 3 0), .int p1, .ref k0]) (n := 4) (Nat.le_of_ble_eq_true rfl)
  rw [lg_entry_eq]
  generalize (lg_sl ([.ref (A 3 0), .int p1, .ref k0]) ++ List.replicate (4 - (lg_sl ([.ref (A 3 0), .int p1, .ref k0])).length) Slot.unset).toArray = ls at hl ⊢
  have hl : lv_has ls 4 [(0, .ref (A 3 0)), (1, .int p1), (2, .ref k0)] := hl
  unfold f_L_value at hf
  refine lv_aload_n hx hb dL_value_0 rfl (lv_at hl 2 rfl) ?_
  refine lv_iconst (v := 0) hx hb dL_value_1 (by decide) ?_
  refine lv_aload_n hx hb dL_value_2 rfl (lv_at hl 0 rfl) ?_
  refine lv_iload_n hx hb dL_value_3 rfl (lv_at hl 1 rfl) ?_
  obtain ⟨x, hx1, hf⟩ := q_bd_go hf
  refine q_lcR (vx_runV (As := [.int p1]) (rest := [.int 0, .ref k0]) ⟨hx, hb, hml, hown, hts⟩ (c_X2_value l hlt D cI cJ cS sa A S p1 _ hx1) (cwV 1 hts gL_value_X2_value rfl rfl rfl (by decide +kernel) ⟨(Nat.le_of_ble_eq_true rfl), (Nat.le_of_ble_eq_true rfl)⟩) ⟨q_blindX, va_recv hE.1 (qp_CR hPc) (ci := 2) (q0 := 0) rfl rfl, fun U hU hW => ⟨rfl, by rw [hU]; exact qp_CR hPc, q_E.warm hW hE, q_ES.warm hW hES, by rw [hU]; exact q_EZ.moved hW.alike (hZ.narrow hAr)⟩⟩ rfl rfl hl.1 rfl (lv_room (Nat.le_of_ble_eq_true rfl)) dL_value_4 ⟨(Nat.le_of_ble_eq_true rfl), (Nat.le_of_ble_eq_true rfl)⟩) (fun E ce q H1 eE hce hcv hcl hz hk => ?_) (fun r er => ?_)
  · rw [eE] at hf
    have hS1 : va_S (va_A (wLW cI cJ cS A g B k0 S O) s.heap.size) s.heap H1 [] := ⟨hz, fun q h1 _ => hk q h1, (fun z h => nomatch h)⟩
    have hP1 : va_P D vwCl (wLW cI cJ cS A g B k0 S O) H1 := hP.kept (fun k q h => hk q.1 (vx_lt hP h))
    by_cases cE : E = "java/lang/IllegalArgumentException"
    · subst cE
      have hf : some ((1 : Int32), S, O) = some o := hf
      refine vx_catch (name := "java/lang/IllegalArgumentException") hown [] ⟨0, 9, 12, 13⟩ [] htab (fun z hz => nomatch hz) (by decide) (by decide) (hts (.classLink RL 13 "java/lang/IllegalArgumentException") (List.mem_of_getElem? (i := 1) rfl)) (va_Nw.use rfl hES.2.2.1) hce hcv hcl ?_
      refine lv_astore_n (lv' := [(3, .ref q), (0, .ref (A 3 0)), (1, .int p1), (2, .ref k0)]) hx hb dL_value_12 rfl hl (by decide) rfl (fun ls hl => ?_)
      refine lv_iconst (v := 1) hx hb dL_value_13 (by decide) ?_
      have ho := q_some hf
      subst ho
      refine vx_ret ?_
      exact W.iret hx hb hr (fun t ht hW => ⟨rfl, ⟨_, ⟨g, B, hg, rfl⟩, by rw [ht]; exact hP1, hD⟩, hS1.F ht⟩) hS1.2.2 dL_value_14
    have hn : q_outR (.inl E) O (fun E => if E = "java/lang/IllegalArgumentException" then some 1 else none) S = none := by simp [q_outR, *]
    rw [hn] at hf
    cases hf
  · rw [er] at hf
    have hS : va_S (va_A (wLW cI cJ cS A g B k0 S O) s.heap.size) s.heap s.heap [] := va_S.rf
    refine lv_i2l (v := ((r : Int32).toInt64)) hx hb dL_value_7 rfl ?_
    refine va_last hx hb hE.1 hP hD hS 0 1 rfl rfl (by unfold vp_in; decide) dL_value_8 (fun H locs hP hD hS => ?_)
    have hP : va_P D vwCl (wLW cI cJ cS A g B k0 S (vp_updL O (0 : Int32).toNatClampNeg ((r : Int32).toInt64))) H := hP
    have hD : va_D (va_A (wLW cI cJ cS A g B k0 S O) s.heap.size) (wLW cI cJ cS A g B k0 S (vp_updL O (0 : Int32).toNatClampNeg ((r : Int32).toInt64))) := hD
    refine lv_goto (tgt := 15) hx hb dL_value_9 (by decide) ?_
    refine lv_iconst (v := 0) hx hb dL_value_15 (by decide) ?_
    have ho := q_some hf
    subst ho
    refine vx_ret ?_
    exact W.iret hx hb hr (fun t ht hW => ⟨rfl, ⟨_, ⟨g, B, hg, rfl⟩, by rw [ht]; exact hP, hD⟩, hS.F ht⟩) hS.2.2 dL_value_16
def f_L_setting (S : CM) (O : Nat → Int64) (p1 : Int32) : Option (Int32 × CM × (Nat → Int64)) := (f_X2_setting S p1).bind fun x => q_outR x O (fun E => if E = "java/lang/IllegalArgumentException" then some 1 else none) S
abbrev rL_setting : Room := { frames := 8, cells := 1, slots := 6, locals := 133 }
set_option maxRecDepth 100000 in
set_option maxHeartbeats 4000000 in
theorem c_L_setting (l : Launch) (hlt : l.stackTraces = false) (D : va_G) (cI cJ cS : ClassId) (sa : Nat → Nat) (A : Nat → Nat → Nat) (g : Nat → Option Nat) (B : Nat → Nat → Nat) (hg : ∀ i, i < 4 → g i = some (B i 0)) (k0 : Nat) (S : CM) (O : Nat → Int64) (sz : Nat) (p1 : Int32) (o : Int32 × CM × (Nat → Int64)) (hf : f_L_setting S O p1 = some o) : vx_Met l yL_setting wsL_setting rL_setting (va_Pc [.ref (A 3 0), .int p1, .ref k0] (q_BL D cI cJ cS sa (wLW cI cJ cS A g B k0 S O) sz)) (q_LQ o D cI cJ cS A k0 (wLW cI cJ cS A g B k0 S O) sz) q_LX 1 6 (va_A (wLW cI cJ cS A g B k0 S O) sz) := by
  refine vx_ofWH (cc := cL_setting) (maxL := 4) (ret := some .int) (hh := [(0, 9, 12, 13)]) (by decide) rfl ?_
  intro p e s m args below meth c s₁ B9 hml hv
  obtain ⟨rfl, ⟨hsz, hP, hE, hD0, hES, hZ⟩, hN⟩ := hv
  have hx := B9.exec
  have hb := B9.bytes
  have hr := B9.returns
  have hts := atoms_spec (ws := wsL_setting) B9.pre
  have hown : s.vm.findClass RL = some m.cls := findClass_of_methodNamed B9.named
  have hlocks := B9.notSynchronized
  have htab : c.exceptionTable.toList = [⟨0, 9, 12, 13⟩] := vx_table (x := yL_setting) B9 (hts _ List.mem_cons_self)
  subst hsz
  have hD := hD0.self (sz := s.heap.size)
  have hPc : va_P D vwCl (wCM cI cJ cS A g B S) s.heap := hP.sub [1, 2, 3, 4, 5, 6, 7, 8, 9, 10, 11, 12, 13, 14, 15, 16, 17, 18, 19, 20, 21, 22, 23, 24, 25, 26, 27, 28, 29, 30, 31, 32, 33, 34, 35, 36, 37, 38, 39, 40, 41, 42, 43, 44, 45, 46, 47, 48, 49, 50, 51, 52, 53, 54, 55, 56, 57, 58, 59, 60, 61, 62, 63, 64, 65, 66, 67, 68, 69, 70, 71, 72, 73, 74, 75, 76, 77, 78, 79, 80, 81, 82] rfl
  have hDc : va_D (va_A (wLW cI cJ cS A g B k0 S O) s.heap.size) (wCM cI cJ cS A g B S) := hD.sub [1, 2, 3, 4, 5, 6, 7, 8, 9, 10, 11, 12, 13, 14, 15, 16, 17, 18, 19, 20, 21, 22, 23, 24, 25, 26, 27, 28, 29, 30, 31, 32, 33, 34, 35, 36, 37, 38, 39, 40, 41, 42, 43, 44, 45, 46, 47, 48, 49, 50, 51, 52, 53, 54, 55, 56, 57, 58, 59, 60, 61, 62, 63, 64, 65, 66, 67, 68, 69, 70, 71, 72, 73, 74, 75, 76, 77, 78, 79, 80, 81, 82] (by decide +kernel) rfl
  have hAc : ∀ q, va_A (wCM cI cJ cS A g B S) s.heap.size q → (va_A (wLW cI cJ cS A g B k0 S O) s.heap.size) q := fun q h => h.elim (fun ⟨k, e9, he⟩ => Or.inl ⟨k + 1, e9, he⟩) (fun h => Or.inr h)
  have hAr : ∀ q, va_A (wCR cI cJ A S) s.heap.size q → (va_A (wLW cI cJ cS A g B k0 S O) s.heap.size) q := fun q h => h.elim (fun ⟨k, e9, he⟩ => (qd_CR hDc).2 k _ he) (fun h => Or.inr h)
  have hl := lv_entry ([.ref (A 3 0), .int p1, .ref k0]) (n := 4) (Nat.le_of_ble_eq_true rfl)
  rw [lg_entry_eq]
  generalize (lg_sl ([.ref (A 3 0), .int p1, .ref k0]) ++ List.replicate (4 - (lg_sl ([.ref (A 3 0), .int p1, .ref k0])).length) Slot.unset).toArray = ls at hl ⊢
  have hl : lv_has ls 4 [(0, .ref (A 3 0)), (1, .int p1), (2, .ref k0)] := hl
  unfold f_L_setting at hf
  refine lv_aload_n hx hb dL_setting_0 rfl (lv_at hl 2 rfl) ?_
  refine lv_iconst (v := 0) hx hb dL_setting_1 (by decide) ?_
  refine lv_aload_n hx hb dL_setting_2 rfl (lv_at hl 0 rfl) ?_
  refine lv_iload_n hx hb dL_setting_3 rfl (lv_at hl 1 rfl) ?_
  obtain ⟨x, hx1, hf⟩ := q_bd_go hf
  refine q_lcR (vx_runV (As := [.int p1]) (rest := [.int 0, .ref k0]) ⟨hx, hb, hml, hown, hts⟩ (c_X2_setting l hlt D cI cJ cS sa A S p1 _ hx1) (cwV 1 hts gL_setting_X2_setting rfl rfl rfl (by decide +kernel) ⟨(Nat.le_of_ble_eq_true rfl), (Nat.le_of_ble_eq_true rfl)⟩) ⟨q_blindX, va_recv hE.1 (qp_CR hPc) (ci := 2) (q0 := 0) rfl rfl, fun U hU hW => ⟨rfl, by rw [hU]; exact qp_CR hPc, q_E.warm hW hE, q_ES.warm hW hES, by rw [hU]; exact q_EZ.moved hW.alike (hZ.narrow hAr)⟩⟩ rfl rfl hl.1 rfl (lv_room (Nat.le_of_ble_eq_true rfl)) dL_setting_4 ⟨(Nat.le_of_ble_eq_true rfl), (Nat.le_of_ble_eq_true rfl)⟩) (fun E ce q H1 eE hce hcv hcl hz hk => ?_) (fun r er => ?_)
  · rw [eE] at hf
    have hS1 : va_S (va_A (wLW cI cJ cS A g B k0 S O) s.heap.size) s.heap H1 [] := ⟨hz, fun q h1 _ => hk q h1, (fun z h => nomatch h)⟩
    have hP1 : va_P D vwCl (wLW cI cJ cS A g B k0 S O) H1 := hP.kept (fun k q h => hk q.1 (vx_lt hP h))
    by_cases cE : E = "java/lang/IllegalArgumentException"
    · subst cE
      have hf : some ((1 : Int32), S, O) = some o := hf
      refine vx_catch (name := "java/lang/IllegalArgumentException") hown [] ⟨0, 9, 12, 13⟩ [] htab (fun z hz => nomatch hz) (by decide) (by decide) (hts (.classLink RL 13 "java/lang/IllegalArgumentException") (List.mem_of_getElem? (i := 1) rfl)) (va_Nw.use rfl hES.2.2.1) hce hcv hcl ?_
      refine lv_astore_n (lv' := [(3, .ref q), (0, .ref (A 3 0)), (1, .int p1), (2, .ref k0)]) hx hb dL_setting_12 rfl hl (by decide) rfl (fun ls hl => ?_)
      refine lv_iconst (v := 1) hx hb dL_setting_13 (by decide) ?_
      have ho := q_some hf
      subst ho
      refine vx_ret ?_
      exact W.iret hx hb hr (fun t ht hW => ⟨rfl, ⟨_, ⟨g, B, hg, rfl⟩, by rw [ht]; exact hP1, hD⟩, hS1.F ht⟩) hS1.2.2 dL_setting_14
    have hn : q_outR (.inl E) O (fun E => if E = "java/lang/IllegalArgumentException" then some 1 else none) S = none := by simp [q_outR, *]
    rw [hn] at hf
    cases hf
  · rw [er] at hf
    have hS : va_S (va_A (wLW cI cJ cS A g B k0 S O) s.heap.size) s.heap s.heap [] := va_S.rf
    refine lv_i2l (v := ((r : Int32).toInt64)) hx hb dL_setting_7 rfl ?_
    refine va_last hx hb hE.1 hP hD hS 0 1 rfl rfl (by unfold vp_in; decide) dL_setting_8 (fun H locs hP hD hS => ?_)
    have hP : va_P D vwCl (wLW cI cJ cS A g B k0 S (vp_updL O (0 : Int32).toNatClampNeg ((r : Int32).toInt64))) H := hP
    have hD : va_D (va_A (wLW cI cJ cS A g B k0 S O) s.heap.size) (wLW cI cJ cS A g B k0 S (vp_updL O (0 : Int32).toNatClampNeg ((r : Int32).toInt64))) := hD
    refine lv_goto (tgt := 15) hx hb dL_setting_9 (by decide) ?_
    refine lv_iconst (v := 0) hx hb dL_setting_15 (by decide) ?_
    have ho := q_some hf
    subst ho
    refine vx_ret ?_
    exact W.iret hx hb hr (fun t ht hW => ⟨rfl, ⟨_, ⟨g, B, hg, rfl⟩, by rw [ht]; exact hP, hD⟩, hS.F ht⟩) hS.2.2 dL_setting_16
def f_L_coverer (S : CM) (O : Nat → Int64) (p1 : Int32) : Option (Int32 × CM × (Nat → Int64)) := (f_X2_coverer S p1).bind fun x => q_outR x O (fun E => if E = "java/lang/IndexOutOfBoundsException" then some 1 else none) S
abbrev rL_coverer : Room := { frames := 8, cells := 1, slots := 6, locals := 132 }
set_option maxRecDepth 100000 in
set_option maxHeartbeats 4000000 in
theorem c_L_coverer (l : Launch) (hlt : l.stackTraces = false) (D : va_G) (cI cJ cS : ClassId) (sa : Nat → Nat) (A : Nat → Nat → Nat) (g : Nat → Option Nat) (B : Nat → Nat → Nat) (hg : ∀ i, i < 4 → g i = some (B i 0)) (k0 : Nat) (S : CM) (O : Nat → Int64) (sz : Nat) (p1 : Int32) (o : Int32 × CM × (Nat → Int64)) (hf : f_L_coverer S O p1 = some o) : vx_Met l yL_coverer wsL_coverer rL_coverer (va_Pc [.ref (A 3 0), .int p1, .ref k0] (q_BL D cI cJ cS sa (wLW cI cJ cS A g B k0 S O) sz)) (q_LQ o D cI cJ cS A k0 (wLW cI cJ cS A g B k0 S O) sz) q_LX 1 6 (va_A (wLW cI cJ cS A g B k0 S O) sz) := by
  refine vx_ofWH (cc := cL_coverer) (maxL := 4) (ret := some .int) (hh := [(0, 9, 12, 25)]) (by decide) rfl ?_
  intro p e s m args below meth c s₁ B9 hml hv
  obtain ⟨rfl, ⟨hsz, hP, hE, hD0, hES, hZ⟩, hN⟩ := hv
  have hx := B9.exec
  have hb := B9.bytes
  have hr := B9.returns
  have hts := atoms_spec (ws := wsL_coverer) B9.pre
  have hown : s.vm.findClass RL = some m.cls := findClass_of_methodNamed B9.named
  have hlocks := B9.notSynchronized
  have htab : c.exceptionTable.toList = [⟨0, 9, 12, 25⟩] := vx_table (x := yL_coverer) B9 (hts _ List.mem_cons_self)
  subst hsz
  have hD := hD0.self (sz := s.heap.size)
  have hPc : va_P D vwCl (wCM cI cJ cS A g B S) s.heap := hP.sub [1, 2, 3, 4, 5, 6, 7, 8, 9, 10, 11, 12, 13, 14, 15, 16, 17, 18, 19, 20, 21, 22, 23, 24, 25, 26, 27, 28, 29, 30, 31, 32, 33, 34, 35, 36, 37, 38, 39, 40, 41, 42, 43, 44, 45, 46, 47, 48, 49, 50, 51, 52, 53, 54, 55, 56, 57, 58, 59, 60, 61, 62, 63, 64, 65, 66, 67, 68, 69, 70, 71, 72, 73, 74, 75, 76, 77, 78, 79, 80, 81, 82] rfl
  have hDc : va_D (va_A (wLW cI cJ cS A g B k0 S O) s.heap.size) (wCM cI cJ cS A g B S) := hD.sub [1, 2, 3, 4, 5, 6, 7, 8, 9, 10, 11, 12, 13, 14, 15, 16, 17, 18, 19, 20, 21, 22, 23, 24, 25, 26, 27, 28, 29, 30, 31, 32, 33, 34, 35, 36, 37, 38, 39, 40, 41, 42, 43, 44, 45, 46, 47, 48, 49, 50, 51, 52, 53, 54, 55, 56, 57, 58, 59, 60, 61, 62, 63, 64, 65, 66, 67, 68, 69, 70, 71, 72, 73, 74, 75, 76, 77, 78, 79, 80, 81, 82] (by decide +kernel) rfl
  have hAc : ∀ q, va_A (wCM cI cJ cS A g B S) s.heap.size q → (va_A (wLW cI cJ cS A g B k0 S O) s.heap.size) q := fun q h => h.elim (fun ⟨k, e9, he⟩ => Or.inl ⟨k + 1, e9, he⟩) (fun h => Or.inr h)
  have hAr : ∀ q, va_A (wCR cI cJ A S) s.heap.size q → (va_A (wLW cI cJ cS A g B k0 S O) s.heap.size) q := fun q h => h.elim (fun ⟨k, e9, he⟩ => (qd_CR hDc).2 k _ he) (fun h => Or.inr h)
  have hl := lv_entry ([.ref (A 3 0), .int p1, .ref k0]) (n := 4) (Nat.le_of_ble_eq_true rfl)
  rw [lg_entry_eq]
  generalize (lg_sl ([.ref (A 3 0), .int p1, .ref k0]) ++ List.replicate (4 - (lg_sl ([.ref (A 3 0), .int p1, .ref k0])).length) Slot.unset).toArray = ls at hl ⊢
  have hl : lv_has ls 4 [(0, .ref (A 3 0)), (1, .int p1), (2, .ref k0)] := hl
  unfold f_L_coverer at hf
  refine lv_aload_n hx hb dL_coverer_0 rfl (lv_at hl 2 rfl) ?_
  refine lv_iconst (v := 0) hx hb dL_coverer_1 (by decide) ?_
  refine lv_aload_n hx hb dL_coverer_2 rfl (lv_at hl 0 rfl) ?_
  refine lv_iload_n hx hb dL_coverer_3 rfl (lv_at hl 1 rfl) ?_
  obtain ⟨x, hx1, hf⟩ := q_bd_go hf
  refine q_lcR (vx_runV (As := [.int p1]) (rest := [.int 0, .ref k0]) ⟨hx, hb, hml, hown, hts⟩ (c_X2_coverer l hlt D cI cJ cS sa A S p1 _ hx1) (cwV 1 hts gL_coverer_X2_coverer rfl rfl rfl (by decide +kernel) ⟨(Nat.le_of_ble_eq_true rfl), (Nat.le_of_ble_eq_true rfl)⟩) ⟨q_blindX, va_recv hE.1 (qp_CR hPc) (ci := 2) (q0 := 0) rfl rfl, fun U hU hW => ⟨rfl, by rw [hU]; exact qp_CR hPc, q_E.warm hW hE, q_ES.warm hW hES, by rw [hU]; exact q_EZ.moved hW.alike (hZ.narrow hAr)⟩⟩ rfl rfl hl.1 rfl (lv_room (Nat.le_of_ble_eq_true rfl)) dL_coverer_4 ⟨(Nat.le_of_ble_eq_true rfl), (Nat.le_of_ble_eq_true rfl)⟩) (fun E ce q H1 eE hce hcv hcl hz hk => ?_) (fun r er => ?_)
  · rw [eE] at hf
    have hS1 : va_S (va_A (wLW cI cJ cS A g B k0 S O) s.heap.size) s.heap H1 [] := ⟨hz, fun q h1 _ => hk q h1, (fun z h => nomatch h)⟩
    have hP1 : va_P D vwCl (wLW cI cJ cS A g B k0 S O) H1 := hP.kept (fun k q h => hk q.1 (vx_lt hP h))
    by_cases cE : E = "java/lang/IndexOutOfBoundsException"
    · subst cE
      have hf : some ((1 : Int32), S, O) = some o := hf
      refine vx_catch (name := "java/lang/IndexOutOfBoundsException") hown [] ⟨0, 9, 12, 25⟩ [] htab (fun z hz => nomatch hz) (by decide) (by decide) (hts (.classLink RL 25 "java/lang/IndexOutOfBoundsException") (List.mem_of_getElem? (i := 1) rfl)) (va_Nw.use rfl hES.2.1) hce hcv hcl ?_
      refine lv_astore_n (lv' := [(3, .ref q), (0, .ref (A 3 0)), (1, .int p1), (2, .ref k0)]) hx hb dL_coverer_12 rfl hl (by decide) rfl (fun ls hl => ?_)
      refine lv_iconst (v := 1) hx hb dL_coverer_13 (by decide) ?_
      have ho := q_some hf
      subst ho
      refine vx_ret ?_
      exact W.iret hx hb hr (fun t ht hW => ⟨rfl, ⟨_, ⟨g, B, hg, rfl⟩, by rw [ht]; exact hP1, hD⟩, hS1.F ht⟩) hS1.2.2 dL_coverer_14
    have hn : q_outR (.inl E) O (fun E => if E = "java/lang/IndexOutOfBoundsException" then some 1 else none) S = none := by simp [q_outR, *]
    rw [hn] at hf
    cases hf
  · rw [er] at hf
    have hS : va_S (va_A (wLW cI cJ cS A g B k0 S O) s.heap.size) s.heap s.heap [] := va_S.rf
    refine lv_i2l (v := ((r : Int32).toInt64)) hx hb dL_coverer_7 rfl ?_
    refine va_last hx hb hE.1 hP hD hS 0 1 rfl rfl (by unfold vp_in; decide) dL_coverer_8 (fun H locs hP hD hS => ?_)
    have hP : va_P D vwCl (wLW cI cJ cS A g B k0 S (vp_updL O (0 : Int32).toNatClampNeg ((r : Int32).toInt64))) H := hP
    have hD : va_D (va_A (wLW cI cJ cS A g B k0 S O) s.heap.size) (wLW cI cJ cS A g B k0 S (vp_updL O (0 : Int32).toNatClampNeg ((r : Int32).toInt64))) := hD
    refine lv_goto (tgt := 15) hx hb dL_coverer_9 (by decide) ?_
    refine lv_iconst (v := 0) hx hb dL_coverer_15 (by decide) ?_
    have ho := q_some hf
    subst ho
    refine vx_ret ?_
    exact W.iret hx hb hr (fun t ht hW => ⟨rfl, ⟨_, ⟨g, B, hg, rfl⟩, by rw [ht]; exact hP, hD⟩, hS.F ht⟩) hS.2.2 dL_coverer_16
def f_L_coveredWith (S : CM) (O : Nat → Int64) (p1 : Int32) : Option (Int32 × CM × (Nat → Int64)) := (f_X2_coveredWith S p1).bind fun x => q_out x O (fun E => if E = "java/lang/IllegalArgumentException" then some 1 else none) S
abbrev rL_coveredWith : Room := { frames := 8, cells := 1, slots := 6, locals := 140 }
set_option maxRecDepth 100000 in
set_option maxHeartbeats 4000000 in
theorem c_L_coveredWith (l : Launch) (hlt : l.stackTraces = false) (D : va_G) (cI cJ cS : ClassId) (sa : Nat → Nat) (A : Nat → Nat → Nat) (g : Nat → Option Nat) (B : Nat → Nat → Nat) (hg : ∀ i, i < 4 → g i = some (B i 0)) (k0 : Nat) (S : CM) (O : Nat → Int64) (sz : Nat) (p1 : Int32) (o : Int32 × CM × (Nat → Int64)) (hf : f_L_coveredWith S O p1 = some o) : vx_Met l yL_coveredWith wsL_coveredWith rL_coveredWith (va_Pc [.ref (A 3 0), .int p1, .ref k0] (q_BL D cI cJ cS sa (wLW cI cJ cS A g B k0 S O) sz)) (q_LQ o D cI cJ cS A k0 (wLW cI cJ cS A g B k0 S O) sz) q_LX 1 6 (va_A (wLW cI cJ cS A g B k0 S O) sz) := by
  refine vx_ofWH (cc := cL_coveredWith) (maxL := 4) (ret := some .int) (hh := [(0, 9, 12, 13)]) (by decide) rfl ?_
  intro p e s m args below meth c s₁ B9 hml hv
  obtain ⟨rfl, ⟨hsz, hP, hE, hD0, hES, hZ⟩, hN⟩ := hv
  have hx := B9.exec
  have hb := B9.bytes
  have hr := B9.returns
  have hts := atoms_spec (ws := wsL_coveredWith) B9.pre
  have hown : s.vm.findClass RL = some m.cls := findClass_of_methodNamed B9.named
  have hlocks := B9.notSynchronized
  have htab : c.exceptionTable.toList = [⟨0, 9, 12, 13⟩] := vx_table (x := yL_coveredWith) B9 (hts _ List.mem_cons_self)
  subst hsz
  have hD := hD0.self (sz := s.heap.size)
  have hPc : va_P D vwCl (wCM cI cJ cS A g B S) s.heap := hP.sub [1, 2, 3, 4, 5, 6, 7, 8, 9, 10, 11, 12, 13, 14, 15, 16, 17, 18, 19, 20, 21, 22, 23, 24, 25, 26, 27, 28, 29, 30, 31, 32, 33, 34, 35, 36, 37, 38, 39, 40, 41, 42, 43, 44, 45, 46, 47, 48, 49, 50, 51, 52, 53, 54, 55, 56, 57, 58, 59, 60, 61, 62, 63, 64, 65, 66, 67, 68, 69, 70, 71, 72, 73, 74, 75, 76, 77, 78, 79, 80, 81, 82] rfl
  have hDc : va_D (va_A (wLW cI cJ cS A g B k0 S O) s.heap.size) (wCM cI cJ cS A g B S) := hD.sub [1, 2, 3, 4, 5, 6, 7, 8, 9, 10, 11, 12, 13, 14, 15, 16, 17, 18, 19, 20, 21, 22, 23, 24, 25, 26, 27, 28, 29, 30, 31, 32, 33, 34, 35, 36, 37, 38, 39, 40, 41, 42, 43, 44, 45, 46, 47, 48, 49, 50, 51, 52, 53, 54, 55, 56, 57, 58, 59, 60, 61, 62, 63, 64, 65, 66, 67, 68, 69, 70, 71, 72, 73, 74, 75, 76, 77, 78, 79, 80, 81, 82] (by decide +kernel) rfl
  have hAc : ∀ q, va_A (wCM cI cJ cS A g B S) s.heap.size q → (va_A (wLW cI cJ cS A g B k0 S O) s.heap.size) q := fun q h => h.elim (fun ⟨k, e9, he⟩ => Or.inl ⟨k + 1, e9, he⟩) (fun h => Or.inr h)
  have hAr : ∀ q, va_A (wCR cI cJ A S) s.heap.size q → (va_A (wLW cI cJ cS A g B k0 S O) s.heap.size) q := fun q h => h.elim (fun ⟨k, e9, he⟩ => (qd_CR hDc).2 k _ he) (fun h => Or.inr h)
  have hl := lv_entry ([.ref (A 3 0), .int p1, .ref k0]) (n := 4) (Nat.le_of_ble_eq_true rfl)
  rw [lg_entry_eq]
  generalize (lg_sl ([.ref (A 3 0), .int p1, .ref k0]) ++ List.replicate (4 - (lg_sl ([.ref (A 3 0), .int p1, .ref k0])).length) Slot.unset).toArray = ls at hl ⊢
  have hl : lv_has ls 4 [(0, .ref (A 3 0)), (1, .int p1), (2, .ref k0)] := hl
  unfold f_L_coveredWith at hf
  refine lv_aload_n hx hb dL_coveredWith_0 rfl (lv_at hl 2 rfl) ?_
  refine lv_iconst (v := 0) hx hb dL_coveredWith_1 (by decide) ?_
  refine lv_aload_n hx hb dL_coveredWith_2 rfl (lv_at hl 0 rfl) ?_
  refine lv_iload_n hx hb dL_coveredWith_3 rfl (lv_at hl 1 rfl) ?_
  obtain ⟨x, hx1, hf⟩ := q_bd_go hf
  refine q_lcW hP hD (vx_runV (As := [.int p1]) (rest := [.int 0, .ref k0]) ⟨hx, hb, hml, hown, hts⟩ (c_X2_coveredWith l hlt D cI cJ cS sa A g B hg S _ p1 _ hx1) (cwV 1 hts gL_coveredWith_X2_coveredWith rfl rfl rfl (by decide +kernel) ⟨(Nat.le_of_ble_eq_true rfl), (Nat.le_of_ble_eq_true rfl)⟩) ⟨q_blindWX, va_recv hE.1 hPc (ci := 2) (q0 := 0) rfl rfl, fun U hU hW => ⟨rfl, by rw [hU], by rw [hU]; exact hPc, q_E.warm hW hE, hDc.weaken (fun _ _ _ _ => trivial), q_ES.warm hW hES, by rw [hU]; exact q_EZ.moved hW.alike (hZ.narrow hAc)⟩⟩ rfl rfl hl.1 rfl (lv_room (Nat.le_of_ble_eq_true rfl)) dL_coveredWith_4 ⟨(Nat.le_of_ble_eq_true rfl), (Nat.le_of_ble_eq_true rfl)⟩) (fun E ce q H1 locs1 eE hce hcv hcl hz hk hlo => ?_) (fun r g2 B2 H locs er hg2 hP hD hS => ?_)
  · rw [eE] at hf
    have hS1 : va_S (va_A (wLW cI cJ cS A g B k0 S O) s.heap.size) s.heap H1 locs1 := ⟨hz, fun q h1 _ => hk q h1, hlo⟩
    have hP1 : va_P D vwCl (wLW cI cJ cS A g B k0 S O) H1 := hP.kept (fun k q h => hk q.1 (vx_lt hP h))
    by_cases cE : E = "java/lang/IllegalArgumentException"
    · subst cE
      have hf : some ((1 : Int32), S, O) = some o := hf
      refine vx_catch (name := "java/lang/IllegalArgumentException") hown [] ⟨0, 9, 12, 13⟩ [] htab (fun z hz => nomatch hz) (by decide) (by decide) (hts (.classLink RL 13 "java/lang/IllegalArgumentException") (List.mem_of_getElem? (i := 1) rfl)) (va_Nw.use rfl hES.2.2.1) hce hcv hcl ?_
      refine lv_astore_n (lv' := [(3, .ref q), (0, .ref (A 3 0)), (1, .int p1), (2, .ref k0)]) hx hb dL_coveredWith_12 rfl hl (by decide) rfl (fun ls hl => ?_)
      refine lv_iconst (v := 1) hx hb dL_coveredWith_13 (by decide) ?_
      have ho := q_some hf
      subst ho
      refine vx_ret ?_
      exact W.iret hx hb hr (fun t ht hW => ⟨rfl, ⟨_, ⟨g, B, hg, rfl⟩, by rw [ht]; exact hP1, hD⟩, hS1.F ht⟩) hS1.2.2 dL_coveredWith_14
    have hn : q_out (.inl E) O (fun E => if E = "java/lang/IllegalArgumentException" then some 1 else none) S = none := by simp [q_out, *]
    rw [hn] at hf
    cases hf
  · rw [er] at hf
    refine lv_i2l (v := ((r.1 : Int32).toInt64)) hx hb dL_coveredWith_7 rfl ?_
    refine va_last hx hb hE.1 hP hD hS 0 1 rfl rfl (by unfold vp_in; decide) dL_coveredWith_8 (fun H locs hP hD hS => ?_)
    have hP : va_P D vwCl (wLW cI cJ cS A g2 B2 k0 r.2 (vp_updL O (0 : Int32).toNatClampNeg ((r.1 : Int32).toInt64))) H := hP
    have hD : va_D (va_A (wLW cI cJ cS A g B k0 S O) s.heap.size) (wLW cI cJ cS A g2 B2 k0 r.2 (vp_updL O (0 : Int32).toNatClampNeg ((r.1 : Int32).toInt64))) := hD
    refine lv_goto (tgt := 15) hx hb dL_coveredWith_9 (by decide) ?_
    refine lv_iconst (v := 0) hx hb dL_coveredWith_15 (by decide) ?_
    have ho := q_some hf
    subst ho
    refine vx_ret ?_
    exact W.iret hx hb hr (fun t ht hW => ⟨rfl, ⟨_, ⟨g2, B2, hg2, rfl⟩, by rw [ht]; exact hP, hD⟩, hS.F ht⟩) hS.2.2 dL_coveredWith_16
def f_L_freeShifts (S : CM) (O : Nat → Int64) (p1 : Int32) : Option (Int32 × CM × (Nat → Int64)) := (f_X2_freeShifts S p1).bind fun x => q_outR x O (fun E => if E = "java/lang/IndexOutOfBoundsException" then some 1 else none) S
abbrev rL_freeShifts : Room := { frames := 8, cells := 1, slots := 6, locals := 132 }
set_option maxRecDepth 100000 in
set_option maxHeartbeats 4000000 in
theorem c_L_freeShifts (l : Launch) (hlt : l.stackTraces = false) (D : va_G) (cI cJ cS : ClassId) (sa : Nat → Nat) (A : Nat → Nat → Nat) (g : Nat → Option Nat) (B : Nat → Nat → Nat) (hg : ∀ i, i < 4 → g i = some (B i 0)) (k0 : Nat) (S : CM) (O : Nat → Int64) (sz : Nat) (p1 : Int32) (o : Int32 × CM × (Nat → Int64)) (hf : f_L_freeShifts S O p1 = some o) : vx_Met l yL_freeShifts wsL_freeShifts rL_freeShifts (va_Pc [.ref (A 3 0), .int p1, .ref k0] (q_BL D cI cJ cS sa (wLW cI cJ cS A g B k0 S O) sz)) (q_LQ o D cI cJ cS A k0 (wLW cI cJ cS A g B k0 S O) sz) q_LX 1 6 (va_A (wLW cI cJ cS A g B k0 S O) sz) := by
  refine vx_ofWH (cc := cL_freeShifts) (maxL := 4) (ret := some .int) (hh := [(0, 9, 12, 25)]) (by decide) rfl ?_
  intro p e s m args below meth c s₁ B9 hml hv
  obtain ⟨rfl, ⟨hsz, hP, hE, hD0, hES, hZ⟩, hN⟩ := hv
  have hx := B9.exec
  have hb := B9.bytes
  have hr := B9.returns
  have hts := atoms_spec (ws := wsL_freeShifts) B9.pre
  have hown : s.vm.findClass RL = some m.cls := findClass_of_methodNamed B9.named
  have hlocks := B9.notSynchronized
  have htab : c.exceptionTable.toList = [⟨0, 9, 12, 25⟩] := vx_table (x := yL_freeShifts) B9 (hts _ List.mem_cons_self)
  subst hsz
  have hD := hD0.self (sz := s.heap.size)
  have hPc : va_P D vwCl (wCM cI cJ cS A g B S) s.heap := hP.sub [1, 2, 3, 4, 5, 6, 7, 8, 9, 10, 11, 12, 13, 14, 15, 16, 17, 18, 19, 20, 21, 22, 23, 24, 25, 26, 27, 28, 29, 30, 31, 32, 33, 34, 35, 36, 37, 38, 39, 40, 41, 42, 43, 44, 45, 46, 47, 48, 49, 50, 51, 52, 53, 54, 55, 56, 57, 58, 59, 60, 61, 62, 63, 64, 65, 66, 67, 68, 69, 70, 71, 72, 73, 74, 75, 76, 77, 78, 79, 80, 81, 82] rfl
  have hDc : va_D (va_A (wLW cI cJ cS A g B k0 S O) s.heap.size) (wCM cI cJ cS A g B S) := hD.sub [1, 2, 3, 4, 5, 6, 7, 8, 9, 10, 11, 12, 13, 14, 15, 16, 17, 18, 19, 20, 21, 22, 23, 24, 25, 26, 27, 28, 29, 30, 31, 32, 33, 34, 35, 36, 37, 38, 39, 40, 41, 42, 43, 44, 45, 46, 47, 48, 49, 50, 51, 52, 53, 54, 55, 56, 57, 58, 59, 60, 61, 62, 63, 64, 65, 66, 67, 68, 69, 70, 71, 72, 73, 74, 75, 76, 77, 78, 79, 80, 81, 82] (by decide +kernel) rfl
  have hAc : ∀ q, va_A (wCM cI cJ cS A g B S) s.heap.size q → (va_A (wLW cI cJ cS A g B k0 S O) s.heap.size) q := fun q h => h.elim (fun ⟨k, e9, he⟩ => Or.inl ⟨k + 1, e9, he⟩) (fun h => Or.inr h)
  have hAr : ∀ q, va_A (wCR cI cJ A S) s.heap.size q → (va_A (wLW cI cJ cS A g B k0 S O) s.heap.size) q := fun q h => h.elim (fun ⟨k, e9, he⟩ => (qd_CR hDc).2 k _ he) (fun h => Or.inr h)
  have hl := lv_entry ([.ref (A 3 0), .int p1, .ref k0]) (n := 4) (Nat.le_of_ble_eq_true rfl)
  rw [lg_entry_eq]
  generalize (lg_sl ([.ref (A 3 0), .int p1, .ref k0]) ++ List.replicate (4 - (lg_sl ([.ref (A 3 0), .int p1, .ref k0])).length) Slot.unset).toArray = ls at hl ⊢
  have hl : lv_has ls 4 [(0, .ref (A 3 0)), (1, .int p1), (2, .ref k0)] := hl
  unfold f_L_freeShifts at hf
  refine lv_aload_n hx hb dL_freeShifts_0 rfl (lv_at hl 2 rfl) ?_
  refine lv_iconst (v := 0) hx hb dL_freeShifts_1 (by decide) ?_
  refine lv_aload_n hx hb dL_freeShifts_2 rfl (lv_at hl 0 rfl) ?_
  refine lv_iload_n hx hb dL_freeShifts_3 rfl (lv_at hl 1 rfl) ?_
  obtain ⟨x, hx1, hf⟩ := q_bd_go hf
  refine q_lcR (vx_runV (As := [.int p1]) (rest := [.int 0, .ref k0]) ⟨hx, hb, hml, hown, hts⟩ (c_X2_freeShifts l hlt D cI cJ cS sa A S p1 _ hx1) (cwV 1 hts gL_freeShifts_X2_freeShifts rfl rfl rfl (by decide +kernel) ⟨(Nat.le_of_ble_eq_true rfl), (Nat.le_of_ble_eq_true rfl)⟩) ⟨q_blindX, va_recv hE.1 (qp_CR hPc) (ci := 2) (q0 := 0) rfl rfl, fun U hU hW => ⟨rfl, by rw [hU]; exact qp_CR hPc, q_E.warm hW hE, q_ES.warm hW hES, by rw [hU]; exact q_EZ.moved hW.alike (hZ.narrow hAr)⟩⟩ rfl rfl hl.1 rfl (lv_room (Nat.le_of_ble_eq_true rfl)) dL_freeShifts_4 ⟨(Nat.le_of_ble_eq_true rfl), (Nat.le_of_ble_eq_true rfl)⟩) (fun E ce q H1 eE hce hcv hcl hz hk => ?_) (fun r er => ?_)
  · rw [eE] at hf
    have hS1 : va_S (va_A (wLW cI cJ cS A g B k0 S O) s.heap.size) s.heap H1 [] := ⟨hz, fun q h1 _ => hk q h1, (fun z h => nomatch h)⟩
    have hP1 : va_P D vwCl (wLW cI cJ cS A g B k0 S O) H1 := hP.kept (fun k q h => hk q.1 (vx_lt hP h))
    by_cases cE : E = "java/lang/IndexOutOfBoundsException"
    · subst cE
      have hf : some ((1 : Int32), S, O) = some o := hf
      refine vx_catch (name := "java/lang/IndexOutOfBoundsException") hown [] ⟨0, 9, 12, 25⟩ [] htab (fun z hz => nomatch hz) (by decide) (by decide) (hts (.classLink RL 25 "java/lang/IndexOutOfBoundsException") (List.mem_of_getElem? (i := 1) rfl)) (va_Nw.use rfl hES.2.1) hce hcv hcl ?_
      refine lv_astore_n (lv' := [(3, .ref q), (0, .ref (A 3 0)), (1, .int p1), (2, .ref k0)]) hx hb dL_freeShifts_12 rfl hl (by decide) rfl (fun ls hl => ?_)
      refine lv_iconst (v := 1) hx hb dL_freeShifts_13 (by decide) ?_
      have ho := q_some hf
      subst ho
      refine vx_ret ?_
      exact W.iret hx hb hr (fun t ht hW => ⟨rfl, ⟨_, ⟨g, B, hg, rfl⟩, by rw [ht]; exact hP1, hD⟩, hS1.F ht⟩) hS1.2.2 dL_freeShifts_14
    have hn : q_outR (.inl E) O (fun E => if E = "java/lang/IndexOutOfBoundsException" then some 1 else none) S = none := by simp [q_outR, *]
    rw [hn] at hf
    cases hf
  · rw [er] at hf
    have hS : va_S (va_A (wLW cI cJ cS A g B k0 S O) s.heap.size) s.heap s.heap [] := va_S.rf
    refine lv_i2l (v := ((r : Int32).toInt64)) hx hb dL_freeShifts_7 rfl ?_
    refine va_last hx hb hE.1 hP hD hS 0 1 rfl rfl (by unfold vp_in; decide) dL_freeShifts_8 (fun H locs hP hD hS => ?_)
    have hP : va_P D vwCl (wLW cI cJ cS A g B k0 S (vp_updL O (0 : Int32).toNatClampNeg ((r : Int32).toInt64))) H := hP
    have hD : va_D (va_A (wLW cI cJ cS A g B k0 S O) s.heap.size) (wLW cI cJ cS A g B k0 S (vp_updL O (0 : Int32).toNatClampNeg ((r : Int32).toInt64))) := hD
    refine lv_goto (tgt := 15) hx hb dL_freeShifts_9 (by decide) ?_
    refine lv_iconst (v := 0) hx hb dL_freeShifts_15 (by decide) ?_
    have ho := q_some hf
    subst ho
    refine vx_ret ?_
    exact W.iret hx hb hr (fun t ht hW => ⟨rfl, ⟨_, ⟨g, B, hg, rfl⟩, by rw [ht]; exact hP, hD⟩, hS.F ht⟩) hS.2.2 dL_freeShifts_16
def f_L_append (S : CM) (O : Nat → Int64) (p1 : Int32) : Option (Int32 × CM × (Nat → Int64)) := (f_X2_append S p1).bind fun x => q_out x O (fun E => if E = "java/lang/IllegalArgumentException" then some 1 else if E = "java/lang/IllegalStateException" then some 2 else none) S
abbrev rL_append : Room := { frames := 8, cells := 2, slots := 12, locals := 133 }
set_option maxRecDepth 100000 in
set_option maxHeartbeats 4000000 in
theorem c_L_append (l : Launch) (hlt : l.stackTraces = false) (D : va_G) (cI cJ cS : ClassId) (sa : Nat → Nat) (A : Nat → Nat → Nat) (g : Nat → Option Nat) (B : Nat → Nat → Nat) (hg : ∀ i, i < 4 → g i = some (B i 0)) (k0 : Nat) (S : CM) (O : Nat → Int64) (sz : Nat) (p1 : Int32) (o : Int32 × CM × (Nat → Int64)) (hf : f_L_append S O p1 = some o) : vx_Met l yL_append wsL_append rL_append (va_Pc [.ref (A 3 0), .int p1, .ref k0] (q_BL D cI cJ cS sa (wLW cI cJ cS A g B k0 S O) sz)) (q_LQ o D cI cJ cS A k0 (wLW cI cJ cS A g B k0 S O) sz) q_LX 2 12 (va_A (wLW cI cJ cS A g B k0 S O) sz) := by
  refine vx_ofWH (cc := cL_append) (maxL := 4) (ret := some .int) (hh := [(0, 9, 12, 13), (0, 9, 15, 19)]) (by decide) rfl ?_
  intro p e s m args below meth c s₁ B9 hml hv
  obtain ⟨rfl, ⟨hsz, hP, hE, hD0, hES, hZ⟩, hN⟩ := hv
  have hx := B9.exec
  have hb := B9.bytes
  have hr := B9.returns
  have hts := atoms_spec (ws := wsL_append) B9.pre
  have hown : s.vm.findClass RL = some m.cls := findClass_of_methodNamed B9.named
  have hlocks := B9.notSynchronized
  have htab : c.exceptionTable.toList = [⟨0, 9, 12, 13⟩, ⟨0, 9, 15, 19⟩] := vx_table (x := yL_append) B9 (hts _ List.mem_cons_self)
  subst hsz
  have hD := hD0.self (sz := s.heap.size)
  have hPc : va_P D vwCl (wCM cI cJ cS A g B S) s.heap := hP.sub [1, 2, 3, 4, 5, 6, 7, 8, 9, 10, 11, 12, 13, 14, 15, 16, 17, 18, 19, 20, 21, 22, 23, 24, 25, 26, 27, 28, 29, 30, 31, 32, 33, 34, 35, 36, 37, 38, 39, 40, 41, 42, 43, 44, 45, 46, 47, 48, 49, 50, 51, 52, 53, 54, 55, 56, 57, 58, 59, 60, 61, 62, 63, 64, 65, 66, 67, 68, 69, 70, 71, 72, 73, 74, 75, 76, 77, 78, 79, 80, 81, 82] rfl
  have hDc : va_D (va_A (wLW cI cJ cS A g B k0 S O) s.heap.size) (wCM cI cJ cS A g B S) := hD.sub [1, 2, 3, 4, 5, 6, 7, 8, 9, 10, 11, 12, 13, 14, 15, 16, 17, 18, 19, 20, 21, 22, 23, 24, 25, 26, 27, 28, 29, 30, 31, 32, 33, 34, 35, 36, 37, 38, 39, 40, 41, 42, 43, 44, 45, 46, 47, 48, 49, 50, 51, 52, 53, 54, 55, 56, 57, 58, 59, 60, 61, 62, 63, 64, 65, 66, 67, 68, 69, 70, 71, 72, 73, 74, 75, 76, 77, 78, 79, 80, 81, 82] (by decide +kernel) rfl
  have hAc : ∀ q, va_A (wCM cI cJ cS A g B S) s.heap.size q → (va_A (wLW cI cJ cS A g B k0 S O) s.heap.size) q := fun q h => h.elim (fun ⟨k, e9, he⟩ => Or.inl ⟨k + 1, e9, he⟩) (fun h => Or.inr h)
  have hAr : ∀ q, va_A (wCR cI cJ A S) s.heap.size q → (va_A (wLW cI cJ cS A g B k0 S O) s.heap.size) q := fun q h => h.elim (fun ⟨k, e9, he⟩ => (qd_CR hDc).2 k _ he) (fun h => Or.inr h)
  have hl := lv_entry ([.ref (A 3 0), .int p1, .ref k0]) (n := 4) (Nat.le_of_ble_eq_true rfl)
  rw [lg_entry_eq]
  generalize (lg_sl ([.ref (A 3 0), .int p1, .ref k0]) ++ List.replicate (4 - (lg_sl ([.ref (A 3 0), .int p1, .ref k0])).length) Slot.unset).toArray = ls at hl ⊢
  have hl : lv_has ls 4 [(0, .ref (A 3 0)), (1, .int p1), (2, .ref k0)] := hl
  unfold f_L_append at hf
  refine lv_aload_n hx hb dL_append_0 rfl (lv_at hl 2 rfl) ?_
  refine lv_iconst (v := 0) hx hb dL_append_1 (by decide) ?_
  refine lv_aload_n hx hb dL_append_2 rfl (lv_at hl 0 rfl) ?_
  refine lv_iload_n hx hb dL_append_3 rfl (lv_at hl 1 rfl) ?_
  obtain ⟨x, hx1, hf⟩ := q_bd_go hf
  refine q_lcW hP hD (vx_runV (As := [.int p1]) (rest := [.int 0, .ref k0]) ⟨hx, hb, hml, hown, hts⟩ (c_X2_append l hlt D cI cJ cS sa A g B hg S _ p1 _ hx1) (cwV 1 hts gL_append_X2_append rfl rfl rfl (by decide +kernel) ⟨(Nat.le_of_ble_eq_true rfl), (Nat.le_of_ble_eq_true rfl)⟩) ⟨q_blindWX, va_recv hE.1 hPc (ci := 2) (q0 := 0) rfl rfl, fun U hU hW => ⟨rfl, by rw [hU], by rw [hU]; exact hPc, q_E.warm hW hE, hDc.weaken (fun _ _ _ _ => trivial), q_ES.warm hW hES, by rw [hU]; exact q_EZ.moved hW.alike (hZ.narrow hAc)⟩⟩ rfl rfl hl.1 rfl (lv_room (Nat.le_of_ble_eq_true rfl)) dL_append_4 ⟨(Nat.le_of_ble_eq_true rfl), (Nat.le_of_ble_eq_true rfl)⟩) (fun E ce q H1 locs1 eE hce hcv hcl hz hk hlo => ?_) (fun r g2 B2 H locs er hg2 hP hD hS => ?_)
  · rw [eE] at hf
    have hS1 : va_S (va_A (wLW cI cJ cS A g B k0 S O) s.heap.size) s.heap H1 locs1 := ⟨hz, fun q h1 _ => hk q h1, hlo⟩
    have hP1 : va_P D vwCl (wLW cI cJ cS A g B k0 S O) H1 := hP.kept (fun k q h => hk q.1 (vx_lt hP h))
    by_cases cE : E = "java/lang/IllegalArgumentException"
    · subst cE
      have hf : some ((1 : Int32), S, O) = some o := hf
      refine vx_catch (name := "java/lang/IllegalArgumentException") hown [] ⟨0, 9, 12, 13⟩ [⟨0, 9, 15, 19⟩] htab (fun z hz => nomatch hz) (by decide) (by decide) (hts (.classLink RL 13 "java/lang/IllegalArgumentException") (List.mem_of_getElem? (i := 1) rfl)) (va_Nw.use rfl hES.2.2.1) hce hcv hcl ?_
      refine lv_astore_n (lv' := [(3, .ref q), (0, .ref (A 3 0)), (1, .int p1), (2, .ref k0)]) hx hb dL_append_12 rfl hl (by decide) rfl (fun ls hl => ?_)
      refine lv_iconst (v := 1) hx hb dL_append_13 (by decide) ?_
      have ho := q_some hf
      subst ho
      refine vx_ret ?_
      exact W.iret hx hb hr (fun t ht hW => ⟨rfl, ⟨_, ⟨g, B, hg, rfl⟩, by rw [ht]; exact hP1, hD⟩, hS1.F ht⟩) hS1.2.2 dL_append_14
    by_cases cE : E = "java/lang/IllegalStateException"
    · subst cE
      have hf : some ((2 : Int32), S, O) = some o := hf
      refine vx_catch (name := "java/lang/IllegalStateException") hown [⟨0, 9, 12, 13⟩] ⟨0, 9, 15, 19⟩ [] htab (by intro z hz; simp only [List.mem_cons, List.not_mem_nil, or_false] at hz; rcases hz with rfl; exact Or.inr ⟨by decide, _, (hts (.classLink RL 13 "java/lang/IllegalArgumentException") (List.mem_of_getElem? (i := 1) rfl)), hN.2.1⟩) (by decide) (by decide) (hts (.classLink RL 19 "java/lang/IllegalStateException") (List.mem_of_getElem? (i := 2) rfl)) (va_Nw.use rfl hES.2.2.2.1) hce hcv hcl ?_
      refine lv_astore_n (lv' := [(3, .ref q), (0, .ref (A 3 0)), (1, .int p1), (2, .ref k0)]) hx hb dL_append_15 rfl hl (by decide) rfl (fun ls hl => ?_)
      refine lv_iconst (v := 2) hx hb dL_append_16 (by decide) ?_
      have ho := q_some hf
      subst ho
      refine vx_ret ?_
      exact W.iret hx hb hr (fun t ht hW => ⟨rfl, ⟨_, ⟨g, B, hg, rfl⟩, by rw [ht]; exact hP1, hD⟩, hS1.F ht⟩) hS1.2.2 dL_append_17
    have hn : q_out (.inl E) O (fun E => if E = "java/lang/IllegalArgumentException" then some 1 else if E = "java/lang/IllegalStateException" then some 2 else none) S = none := by simp [q_out, *]
    rw [hn] at hf
    cases hf
  · rw [er] at hf
    refine lv_i2l (v := ((r.1 : Int32).toInt64)) hx hb dL_append_7 rfl ?_
    refine va_last hx hb hE.1 hP hD hS 0 1 rfl rfl (by unfold vp_in; decide) dL_append_8 (fun H locs hP hD hS => ?_)
    have hP : va_P D vwCl (wLW cI cJ cS A g2 B2 k0 r.2 (vp_updL O (0 : Int32).toNatClampNeg ((r.1 : Int32).toInt64))) H := hP
    have hD : va_D (va_A (wLW cI cJ cS A g B k0 S O) s.heap.size) (wLW cI cJ cS A g2 B2 k0 r.2 (vp_updL O (0 : Int32).toNatClampNeg ((r.1 : Int32).toInt64))) := hD
    refine lv_goto (tgt := 18) hx hb dL_append_9 (by decide) ?_
    refine lv_iconst (v := 0) hx hb dL_append_18 (by decide) ?_
    have ho := q_some hf
    subst ho
    refine vx_ret ?_
    exact W.iret hx hb hr (fun t ht hW => ⟨rfl, ⟨_, ⟨g2, B2, hg2, rfl⟩, by rw [ht]; exact hP, hD⟩, hS.F ht⟩) hS.2.2 dL_append_19
def f_L_undo (S : CM) (O : Nat → Int64) : Option (Int32 × CM × (Nat → Int64)) := (f_X2_undo S).bind fun x => q_out x O (fun E => if E = "java/lang/IllegalStateException" then some 1 else none) S
abbrev rL_undo : Room := { frames := 8, cells := 1, slots := 6, locals := 130 }
set_option maxRecDepth 100000 in
set_option maxHeartbeats 4000000 in
theorem c_L_undo (l : Launch) (hlt : l.stackTraces = false) (D : va_G) (cI cJ cS : ClassId) (sa : Nat → Nat) (A : Nat → Nat → Nat) (g : Nat → Option Nat) (B : Nat → Nat → Nat) (hg : ∀ i, i < 4 → g i = some (B i 0)) (k0 : Nat) (S : CM) (O : Nat → Int64) (sz : Nat) (o : Int32 × CM × (Nat → Int64)) (hf : f_L_undo S O = some o) : vx_Met l yL_undo wsL_undo rL_undo (va_Pc [.ref (A 3 0), .ref k0] (q_BL D cI cJ cS sa (wLW cI cJ cS A g B k0 S O) sz)) (q_LQ o D cI cJ cS A k0 (wLW cI cJ cS A g B k0 S O) sz) q_LX 1 6 (va_A (wLW cI cJ cS A g B k0 S O) sz) := by
  refine vx_ofWH (cc := cL_undo) (maxL := 3) (ret := some .int) (hh := [(0, 8, 11, 19)]) (by decide) rfl ?_
  intro p e s m args below meth c s₁ B9 hml hv
  obtain ⟨rfl, ⟨hsz, hP, hE, hD0, hES, hZ⟩, hN⟩ := hv
  have hx := B9.exec
  have hb := B9.bytes
  have hr := B9.returns
  have hts := atoms_spec (ws := wsL_undo) B9.pre
  have hown : s.vm.findClass RL = some m.cls := findClass_of_methodNamed B9.named
  have hlocks := B9.notSynchronized
  have htab : c.exceptionTable.toList = [⟨0, 8, 11, 19⟩] := vx_table (x := yL_undo) B9 (hts _ List.mem_cons_self)
  subst hsz
  have hD := hD0.self (sz := s.heap.size)
  have hPc : va_P D vwCl (wCM cI cJ cS A g B S) s.heap := hP.sub [1, 2, 3, 4, 5, 6, 7, 8, 9, 10, 11, 12, 13, 14, 15, 16, 17, 18, 19, 20, 21, 22, 23, 24, 25, 26, 27, 28, 29, 30, 31, 32, 33, 34, 35, 36, 37, 38, 39, 40, 41, 42, 43, 44, 45, 46, 47, 48, 49, 50, 51, 52, 53, 54, 55, 56, 57, 58, 59, 60, 61, 62, 63, 64, 65, 66, 67, 68, 69, 70, 71, 72, 73, 74, 75, 76, 77, 78, 79, 80, 81, 82] rfl
  have hDc : va_D (va_A (wLW cI cJ cS A g B k0 S O) s.heap.size) (wCM cI cJ cS A g B S) := hD.sub [1, 2, 3, 4, 5, 6, 7, 8, 9, 10, 11, 12, 13, 14, 15, 16, 17, 18, 19, 20, 21, 22, 23, 24, 25, 26, 27, 28, 29, 30, 31, 32, 33, 34, 35, 36, 37, 38, 39, 40, 41, 42, 43, 44, 45, 46, 47, 48, 49, 50, 51, 52, 53, 54, 55, 56, 57, 58, 59, 60, 61, 62, 63, 64, 65, 66, 67, 68, 69, 70, 71, 72, 73, 74, 75, 76, 77, 78, 79, 80, 81, 82] (by decide +kernel) rfl
  have hAc : ∀ q, va_A (wCM cI cJ cS A g B S) s.heap.size q → (va_A (wLW cI cJ cS A g B k0 S O) s.heap.size) q := fun q h => h.elim (fun ⟨k, e9, he⟩ => Or.inl ⟨k + 1, e9, he⟩) (fun h => Or.inr h)
  have hAr : ∀ q, va_A (wCR cI cJ A S) s.heap.size q → (va_A (wLW cI cJ cS A g B k0 S O) s.heap.size) q := fun q h => h.elim (fun ⟨k, e9, he⟩ => (qd_CR hDc).2 k _ he) (fun h => Or.inr h)
  have hl := lv_entry ([.ref (A 3 0), .ref k0]) (n := 3) (Nat.le_of_ble_eq_true rfl)
  rw [lg_entry_eq]
  generalize (lg_sl ([.ref (A 3 0), .ref k0]) ++ List.replicate (3 - (lg_sl ([.ref (A 3 0), .ref k0])).length) Slot.unset).toArray = ls at hl ⊢
  have hl : lv_has ls 3 [(0, .ref (A 3 0)), (1, .ref k0)] := hl
  unfold f_L_undo at hf
  refine lv_aload_n hx hb dL_undo_0 rfl (lv_at hl 1 rfl) ?_
  refine lv_iconst (v := 0) hx hb dL_undo_1 (by decide) ?_
  refine lv_aload_n hx hb dL_undo_2 rfl (lv_at hl 0 rfl) ?_
  obtain ⟨x, hx1, hf⟩ := q_bd_go hf
  refine q_lcW hP hD (vx_runV (As := []) (rest := [.int 0, .ref k0]) ⟨hx, hb, hml, hown, hts⟩ (c_X2_undo l hlt D cI cJ cS sa A g B hg S _ _ hx1) (cwV 0 hts gL_undo_X2_undo rfl rfl rfl (by decide +kernel) ⟨(Nat.le_of_ble_eq_true rfl), (Nat.le_of_ble_eq_true rfl)⟩) ⟨q_blindWX, va_recv hE.1 hPc (ci := 2) (q0 := 0) rfl rfl, fun U hU hW => ⟨rfl, by rw [hU], by rw [hU]; exact hPc, q_E.warm hW hE, hDc.weaken (fun _ _ _ _ => trivial), q_ES.warm hW hES, by rw [hU]; exact q_EZ.moved hW.alike (hZ.narrow hAc)⟩⟩ rfl rfl hl.1 rfl (lv_room (Nat.le_of_ble_eq_true rfl)) dL_undo_3 ⟨(Nat.le_of_ble_eq_true rfl), (Nat.le_of_ble_eq_true rfl)⟩) (fun E ce q H1 locs1 eE hce hcv hcl hz hk hlo => ?_) (fun r g2 B2 H locs er hg2 hP hD hS => ?_)
  · rw [eE] at hf
    have hS1 : va_S (va_A (wLW cI cJ cS A g B k0 S O) s.heap.size) s.heap H1 locs1 := ⟨hz, fun q h1 _ => hk q h1, hlo⟩
    have hP1 : va_P D vwCl (wLW cI cJ cS A g B k0 S O) H1 := hP.kept (fun k q h => hk q.1 (vx_lt hP h))
    by_cases cE : E = "java/lang/IllegalStateException"
    · subst cE
      have hf : some ((1 : Int32), S, O) = some o := hf
      refine vx_catch (name := "java/lang/IllegalStateException") hown [] ⟨0, 8, 11, 19⟩ [] htab (fun z hz => nomatch hz) (by decide) (by decide) (hts (.classLink RL 19 "java/lang/IllegalStateException") (List.mem_of_getElem? (i := 1) rfl)) (va_Nw.use rfl hES.2.2.2.1) hce hcv hcl ?_
      refine lv_astore_n (lv' := [(2, .ref q), (0, .ref (A 3 0)), (1, .ref k0)]) hx hb dL_undo_11 rfl hl (by decide) rfl (fun ls hl => ?_)
      refine lv_iconst (v := 1) hx hb dL_undo_12 (by decide) ?_
      have ho := q_some hf
      subst ho
      refine vx_ret ?_
      exact W.iret hx hb hr (fun t ht hW => ⟨rfl, ⟨_, ⟨g, B, hg, rfl⟩, by rw [ht]; exact hP1, hD⟩, hS1.F ht⟩) hS1.2.2 dL_undo_13
    have hn : q_out (.inl E) O (fun E => if E = "java/lang/IllegalStateException" then some 1 else none) S = none := by simp [q_out, *]
    rw [hn] at hf
    cases hf
  · rw [er] at hf
    refine lv_i2l (v := ((r.1 : Int32).toInt64)) hx hb dL_undo_6 rfl ?_
    refine va_last hx hb hE.1 hP hD hS 0 1 rfl rfl (by unfold vp_in; decide) dL_undo_7 (fun H locs hP hD hS => ?_)
    have hP : va_P D vwCl (wLW cI cJ cS A g2 B2 k0 r.2 (vp_updL O (0 : Int32).toNatClampNeg ((r.1 : Int32).toInt64))) H := hP
    have hD : va_D (va_A (wLW cI cJ cS A g B k0 S O) s.heap.size) (wLW cI cJ cS A g2 B2 k0 r.2 (vp_updL O (0 : Int32).toNatClampNeg ((r.1 : Int32).toInt64))) := hD
    refine lv_goto (tgt := 14) hx hb dL_undo_8 (by decide) ?_
    refine lv_iconst (v := 0) hx hb dL_undo_14 (by decide) ?_
    have ho := q_some hf
    subst ho
    refine vx_ret ?_
    exact W.iret hx hb hr (fun t ht hW => ⟨rfl, ⟨_, ⟨g2, B2, hg2, rfl⟩, by rw [ht]; exact hP, hD⟩, hS.F ht⟩) hS.2.2 dL_undo_15
