def f_X2_absence (S : CM) (p1 : Int32) (p2 : Int32) : Option (String ⊕ Int32) := (f_X2_needAbsence S p1).bind fun r1 =>
 q_exc r1 fun _ =>
 (f_X2_needInRange p2 0 6).bind fun r2 =>
 q_exc r2 fun _ =>
 (f_X1_aboutAbsence (CM_now S) p1 p2).bind fun r3 =>
 some (.inr (r3))
abbrev rX2_absence : Room := { frames := 7, cells := 2, slots := 12, locals := 112 }
set_option maxRecDepth 100000 in
set_option maxHeartbeats 4000000 in
theorem c_X2_absence (l : Launch) (hlt : l.stackTraces = false) (D : va_G) (cI cJ cS : ClassId) (sa : Nat → Nat) (A : Nat → Nat → Nat) (S : CM) (p1 : Int32) (p2 : Int32) (o : (String ⊕ Int32)) (hf : f_X2_absence S p1 p2 = some o) : vx_Met l yX2_absence wsX2_absence rX2_absence (va_Pc [.ref (A 3 0), .int p1, .int p2] (q_BX D cI cJ cS sa (wCR cI cJ A S))) (q_XR (fun r => some (.int r)) o) (q_XC o) 2 12 (fun _ => False) := by
  refine vx_ofW (cc := cX2_absence) (maxL := 3) (ret := some .int) (by decide) rfl ?_
  intro p e s m args below meth c s₁ B9 hml htab hv
  obtain ⟨rfl, hP, hE, hES, hZ⟩ := hv
  have hx := B9.exec
  have hb := B9.bytes
  have hr := B9.returns
  have hts := atoms_spec (ws := wsX2_absence) B9.pre
  have hown : s.vm.findClass RX2 = some m.cls := findClass_of_methodNamed B9.named
  have hlocks := B9.notSynchronized
  have hu1 : ∀ z ∈ wsX10, z.before _ s = true := fun z h => hts z (List.mem_cons_of_mem _ (List.mem_append_left _ (List.mem_append_left _ (List.mem_append_right _ h))))
  have hu2 : ∀ z ∈ wsX20, z.before _ s = true := fun z h => hts z (List.mem_cons_of_mem _ (List.mem_append_left _ (List.mem_append_left _ (List.mem_append_left _ (List.mem_append_right _ h)))))
  have hS : va_S (va_A (wCR cI cJ A S) s.heap.size) s.heap s.heap [] := va_S.rf
  have hl := lv_entry ([.ref (A 3 0), .int p1, .int p2]) (n := 3) (Nat.le_of_ble_eq_true rfl)
  rw [lg_entry_eq]
  generalize (lg_sl ([.ref (A 3 0), .int p1, .int p2]) ++ List.replicate (3 - (lg_sl ([.ref (A 3 0), .int p1, .int p2])).length) Slot.unset).toArray = ls at hl ⊢
  have hl : lv_has ls 3 [(0, .ref (A 3 0)), (1, .int p1), (2, .int p2)] := hl
  unfold f_X2_absence at hf
  refine lv_aload_n hx hb dX2_absence_0 rfl (lv_at hl 0 rfl) ?_
  refine lv_iload_n hx hb dX2_absence_1 rfl (lv_at hl 1 rfl) ?_
  obtain ⟨r1, hr1, hf⟩ := q_bd_go hf
  refine q_needV (w := wCR cI cJ A S) (ci := 2) (As := [.int p1]) (rest := []) hx hb hml hown hts hlocks htab (c_X2_needAbsence l hlt D cI cJ cS sa A S p1 _ hr1) (cwV 1 hts gX2_absence_X2_needAbsence rfl rfl rfl (by decide +kernel) ⟨(Nat.le_of_ble_eq_true rfl), (Nat.le_of_ble_eq_true rfl)⟩) hE hES hZ (fun _ h => h) hP rfl rfl rfl hl.1 rfl (Nat.le_of_ble_eq_true rfl) dX2_absence_2 ⟨(Nat.le_of_ble_eq_true rfl), (Nat.le_of_ble_eq_true rfl)⟩ (fun E e => q_exc_l hf E e) (Nat.le_of_ble_eq_true rfl) (Nat.le_of_ble_eq_true rfl) (fun er1 => ?_)
  have hf := q_exc_r hf er1
  refine lv_iload_n hx hb dX2_absence_5 rfl (lv_at hl 2 rfl) ?_
  refine lv_iconst (v := 0) hx hb dX2_absence_6 (by decide) ?_
  refine lv_bipush (v := 6) hx hb dX2_absence_7 (by decide) ?_
  obtain ⟨r2, hr2, hf⟩ := q_bd_go hf
  refine q_needS (As := [.int p2, .int 0, .int 6]) (rest := []) hx hb hml hown hts hlocks htab (c_X2_needInRange l hlt D cI cJ cS sa p2 0 6 _ hr2) (va_cwS 3 hts gX2_absence_X2_needInRange rfl rfl rfl (by decide +kernel) ⟨(Nat.le_of_ble_eq_true rfl), (Nat.le_of_ble_eq_true rfl)⟩) hE hES hZ (fun q h => Or.inr h) rfl hl.1 rfl (Nat.le_of_ble_eq_true rfl) dX2_absence_9 ⟨(Nat.le_of_ble_eq_true rfl), (Nat.le_of_ble_eq_true rfl)⟩ (fun E e => q_exc_l hf E e) (Nat.le_of_ble_eq_true rfl) (Nat.le_of_ble_eq_true rfl) (fun er2 => ?_)
  have hf := q_exc_r hf er2
  refine lv_aload_n hx hb dX2_absence_12 rfl (lv_at hl 0 rfl) ?_
  refine va_get (D := D) (ci := 2) (v := .ref (A 0 0)) (C := RX2) (T := TX2) (N := 5) hx hb hu2 (fun _ h => h) hown hE.1 hP 0 rfl rfl 0 (Nat.le_of_ble_eq_true rfl) (hts (.fieldLink RX2 12 "CoverMeter" "now" "LCoverMeter$State;") (List.mem_of_getElem? (i := 1) rfl)) (fun _ h9 => h9) rfl dX2_absence_13 ?_
  refine lv_iload_n hx hb dX2_absence_16 rfl (lv_at hl 1 rfl) ?_
  refine lv_iload_n hx hb dX2_absence_17 rfl (lv_at hl 2 rfl) ?_
  obtain ⟨r3, hr3, hf⟩ := q_bd_go hf
  refine q_rdVi (w := (wST cI cJ (A 0) (CM_now S))) (ci := 1) (As := [.int p1, .int p2]) (rest := []) hx hb hml hown hts (c_X1_aboutAbsence l D cI cJ cS (A 0) (CM_now S) p1 p2 _ hr3) (cwV 2 hts gX2_absence_X1_aboutAbsence rfl rfl rfl (by decide +kernel) ⟨(Nat.le_of_ble_eq_true rfl), (Nat.le_of_ble_eq_true rfl)⟩) hE (qr_now hP) rfl rfl rfl hl.1 rfl (Nat.le_of_ble_eq_true rfl) dX2_absence_18 ⟨(Nat.le_of_ble_eq_true rfl), (Nat.le_of_ble_eq_true rfl)⟩ ?_
  have ho := q_some hf
  refine vx_ret ?_
  refine W.widen (k := 2) (n := 12) (Nat.le_of_ble_eq_true rfl) (Nat.le_of_ble_eq_true rfl) ?_
  exact W.iret hx hb hr (fun t ht hW => ⟨_, ho.symm, rfl, ht⟩) t_nil dX2_absence_21
def f_X2_bidOf (S : CM) (p1 : Int32) (p2 : Int32) : Option (String ⊕ Int32) := (f_X2_needPerson S p1).bind fun r1 =>
 q_exc r1 fun _ =>
 (f_X2_needAbsence S p2).bind fun r2 =>
 q_exc r2 fun _ =>
 (f_X2_bidIndex p1 p2).bind fun r3 =>
 if q_in r3 240 = true then
 (some (.inr (ST_bids (CM_now S) (r3 : Int32).toNatClampNeg))) else none
abbrev rX2_bidOf : Room := { frames := 7, cells := 2, slots := 12, locals := 111 }
set_option maxRecDepth 100000 in
set_option maxHeartbeats 4000000 in
theorem c_X2_bidOf (l : Launch) (hlt : l.stackTraces = false) (D : va_G) (cI cJ cS : ClassId) (sa : Nat → Nat) (A : Nat → Nat → Nat) (S : CM) (p1 : Int32) (p2 : Int32) (o : (String ⊕ Int32)) (hf : f_X2_bidOf S p1 p2 = some o) : vx_Met l yX2_bidOf wsX2_bidOf rX2_bidOf (va_Pc [.ref (A 3 0), .int p1, .int p2] (q_BX D cI cJ cS sa (wCR cI cJ A S))) (q_XR (fun r => some (.int r)) o) (q_XC o) 2 12 (fun _ => False) := by
  refine vx_ofW (cc := cX2_bidOf) (maxL := 3) (ret := some .int) (by decide) rfl ?_
  intro p e s m args below meth c s₁ B9 hml htab hv
  obtain ⟨rfl, hP, hE, hES, hZ⟩ := hv
  have hx := B9.exec
  have hb := B9.bytes
  have hr := B9.returns
  have hts := atoms_spec (ws := wsX2_bidOf) B9.pre
  have hown : s.vm.findClass RX2 = some m.cls := findClass_of_methodNamed B9.named
  have hlocks := B9.notSynchronized
  have hu1 : ∀ z ∈ wsX10, z.before _ s = true := fun z h => hts z (List.mem_cons_of_mem _ (List.mem_append_left _ (List.mem_append_right _ h)))
  have hu2 : ∀ z ∈ wsX20, z.before _ s = true := fun z h => hts z (List.mem_cons_of_mem _ (List.mem_append_left _ (List.mem_append_left _ (List.mem_append_right _ h))))
  have hS : va_S (va_A (wCR cI cJ A S) s.heap.size) s.heap s.heap [] := va_S.rf
  have hl := lv_entry ([.ref (A 3 0), .int p1, .int p2]) (n := 3) (Nat.le_of_ble_eq_true rfl)
  rw [lg_entry_eq]
  generalize (lg_sl ([.ref (A 3 0), .int p1, .int p2]) ++ List.replicate (3 - (lg_sl ([.ref (A 3 0), .int p1, .int p2])).length) Slot.unset).toArray = ls at hl ⊢
  have hl : lv_has ls 3 [(0, .ref (A 3 0)), (1, .int p1), (2, .int p2)] := hl
  unfold f_X2_bidOf at hf
  refine lv_aload_n hx hb dX2_bidOf_0 rfl (lv_at hl 0 rfl) ?_
  refine lv_iload_n hx hb dX2_bidOf_1 rfl (lv_at hl 1 rfl) ?_
  obtain ⟨r1, hr1, hf⟩ := q_bd_go hf
  refine q_needV (w := wCR cI cJ A S) (ci := 2) (As := [.int p1]) (rest := []) hx hb hml hown hts hlocks htab (c_X2_needPerson l hlt D cI cJ cS sa A S p1 _ hr1) (cwV 1 hts gX2_bidOf_X2_needPerson rfl rfl rfl (by decide +kernel) ⟨(Nat.le_of_ble_eq_true rfl), (Nat.le_of_ble_eq_true rfl)⟩) hE hES hZ (fun _ h => h) hP rfl rfl rfl hl.1 rfl (Nat.le_of_ble_eq_true rfl) dX2_bidOf_2 ⟨(Nat.le_of_ble_eq_true rfl), (Nat.le_of_ble_eq_true rfl)⟩ (fun E e => q_exc_l hf E e) (Nat.le_of_ble_eq_true rfl) (Nat.le_of_ble_eq_true rfl) (fun er1 => ?_)
  have hf := q_exc_r hf er1
  refine lv_aload_n hx hb dX2_bidOf_5 rfl (lv_at hl 0 rfl) ?_
  refine lv_iload_n hx hb dX2_bidOf_6 rfl (lv_at hl 2 rfl) ?_
  obtain ⟨r2, hr2, hf⟩ := q_bd_go hf
  refine q_needV (w := wCR cI cJ A S) (ci := 2) (As := [.int p2]) (rest := []) hx hb hml hown hts hlocks htab (c_X2_needAbsence l hlt D cI cJ cS sa A S p2 _ hr2) (cwV 1 hts gX2_bidOf_X2_needAbsence rfl rfl rfl (by decide +kernel) ⟨(Nat.le_of_ble_eq_true rfl), (Nat.le_of_ble_eq_true rfl)⟩) hE hES hZ (fun _ h => h) hP rfl rfl rfl hl.1 rfl (Nat.le_of_ble_eq_true rfl) dX2_bidOf_7 ⟨(Nat.le_of_ble_eq_true rfl), (Nat.le_of_ble_eq_true rfl)⟩ (fun E e => q_exc_l hf E e) (Nat.le_of_ble_eq_true rfl) (Nat.le_of_ble_eq_true rfl) (fun er2 => ?_)
  have hf := q_exc_r hf er2
  refine lv_aload_n hx hb dX2_bidOf_10 rfl (lv_at hl 0 rfl) ?_
  refine va_get (D := D) (ci := 2) (v := .ref (A 0 0)) (C := RX2) (T := TX2) (N := 5) hx hb hu2 (fun _ h => h) hown hE.1 hP 0 rfl rfl 0 (Nat.le_of_ble_eq_true rfl) (hts (.fieldLink RX2 12 "CoverMeter" "now" "LCoverMeter$State;") (List.mem_of_getElem? (i := 1) rfl)) (fun _ h9 => h9) rfl dX2_bidOf_11 ?_
  refine va_get (D := D) (ci := 1) (v := .ref (A 0 12)) (C := RX1) (T := TX1) (N := 15) hx hb hu1 (fun _ h => h) hown hE.1 hP 1 rfl rfl 14 (Nat.le_of_ble_eq_true rfl) (hts (.fieldLink RX2 99 "CoverMeter$State" "bids" "[I") (List.mem_of_getElem? (i := 2) rfl)) (fun _ h9 => h9) rfl dX2_bidOf_14 ?_
  refine lv_iload_n hx hb dX2_bidOf_17 rfl (lv_at hl 1 rfl) ?_
  refine lv_iload_n hx hb dX2_bidOf_18 rfl (lv_at hl 2 rfl) ?_
  obtain ⟨r3, hr3, hf⟩ := q_bd_go hf
  refine q_rdSi (As := [.int p1, .int p2]) (rest := [.ref (A 0 12)]) hx hb hml hown hts (c_X2_bidIndex l D cI cJ cS p1 p2 _ hr3) (va_cwS 2 hts gX2_bidOf_X2_bidIndex rfl rfl rfl (by decide +kernel) ⟨(Nat.le_of_ble_eq_true rfl), (Nat.le_of_ble_eq_true rfl)⟩) hE rfl hl.1 rfl (Nat.le_of_ble_eq_true rfl) dX2_bidOf_19 ⟨(Nat.le_of_ble_eq_true rfl), (Nat.le_of_ble_eq_true rfl)⟩ ?_
  have hi4 := q_gd_in hf
  have hf := q_gd_go hf
  refine va_iald hx hb hE.1 hP 13 0 rfl rfl hi4 dX2_bidOf_22 ?_
  have ho := q_some hf
  refine vx_ret ?_
  refine W.widen (k := 2) (n := 12) (Nat.le_of_ble_eq_true rfl) (Nat.le_of_ble_eq_true rfl) ?_
  exact W.iret hx hb hr (fun t ht hW => ⟨_, ho.symm, rfl, ht⟩) t_nil dX2_bidOf_23
def f_X2_why (S : CM) (p1 : Int32) (p2 : Int32) : Option (String ⊕ Int32) := (f_X2_needPerson S p1).bind fun r1 =>
 q_exc r1 fun _ =>
 (f_X2_needAbsence S p2).bind fun r2 =>
 q_exc r2 fun _ =>
 (f_X1_hindrance (CM_now S) p1 p2).bind fun r3 =>
 some (.inr (r3))
abbrev rX2_why : Room := { frames := 7, cells := 2, slots := 12, locals := 111 }
set_option maxRecDepth 100000 in
set_option maxHeartbeats 4000000 in
theorem c_X2_why (l : Launch) (hlt : l.stackTraces = false) (D : va_G) (cI cJ cS : ClassId) (sa : Nat → Nat) (A : Nat → Nat → Nat) (S : CM) (p1 : Int32) (p2 : Int32) (o : (String ⊕ Int32)) (hf : f_X2_why S p1 p2 = some o) : vx_Met l yX2_why wsX2_why rX2_why (va_Pc [.ref (A 3 0), .int p1, .int p2] (q_BX D cI cJ cS sa (wCR cI cJ A S))) (q_XR (fun r => some (.int r)) o) (q_XC o) 2 12 (fun _ => False) := by
  refine vx_ofW (cc := cX2_why) (maxL := 3) (ret := some .int) (by decide) rfl ?_
  intro p e s m args below meth c s₁ B9 hml htab hv
  obtain ⟨rfl, hP, hE, hES, hZ⟩ := hv
  have hx := B9.exec
  have hb := B9.bytes
  have hr := B9.returns
  have hts := atoms_spec (ws := wsX2_why) B9.pre
  have hown : s.vm.findClass RX2 = some m.cls := findClass_of_methodNamed B9.named
  have hlocks := B9.notSynchronized
  have hu1 : ∀ z ∈ wsX10, z.before _ s = true := fun z h => hts z (List.mem_cons_of_mem _ (List.mem_append_left _ (List.mem_append_right _ h)))
  have hu2 : ∀ z ∈ wsX20, z.before _ s = true := fun z h => hts z (List.mem_cons_of_mem _ (List.mem_append_left _ (List.mem_append_left _ (List.mem_append_right _ h))))
  have hS : va_S (va_A (wCR cI cJ A S) s.heap.size) s.heap s.heap [] := va_S.rf
  have hl := lv_entry ([.ref (A 3 0), .int p1, .int p2]) (n := 3) (Nat.le_of_ble_eq_true rfl)
  rw [lg_entry_eq]
  generalize (lg_sl ([.ref (A 3 0), .int p1, .int p2]) ++ List.replicate (3 - (lg_sl ([.ref (A 3 0), .int p1, .int p2])).length) Slot.unset).toArray = ls at hl ⊢
  have hl : lv_has ls 3 [(0, .ref (A 3 0)), (1, .int p1), (2, .int p2)] := hl
  unfold f_X2_why at hf
  refine lv_aload_n hx hb dX2_why_0 rfl (lv_at hl 0 rfl) ?_
  refine lv_iload_n hx hb dX2_why_1 rfl (lv_at hl 1 rfl) ?_
  obtain ⟨r1, hr1, hf⟩ := q_bd_go hf
  refine q_needV (w := wCR cI cJ A S) (ci := 2) (As := [.int p1]) (rest := []) hx hb hml hown hts hlocks htab (c_X2_needPerson l hlt D cI cJ cS sa A S p1 _ hr1) (cwV 1 hts gX2_why_X2_needPerson rfl rfl rfl (by decide +kernel) ⟨(Nat.le_of_ble_eq_true rfl), (Nat.le_of_ble_eq_true rfl)⟩) hE hES hZ (fun _ h => h) hP rfl rfl rfl hl.1 rfl (Nat.le_of_ble_eq_true rfl) dX2_why_2 ⟨(Nat.le_of_ble_eq_true rfl), (Nat.le_of_ble_eq_true rfl)⟩ (fun E e => q_exc_l hf E e) (Nat.le_of_ble_eq_true rfl) (Nat.le_of_ble_eq_true rfl) (fun er1 => ?_)
  have hf := q_exc_r hf er1
  refine lv_aload_n hx hb dX2_why_5 rfl (lv_at hl 0 rfl) ?_
  refine lv_iload_n hx hb dX2_why_6 rfl (lv_at hl 2 rfl) ?_
  obtain ⟨r2, hr2, hf⟩ := q_bd_go hf
  refine q_needV (w := wCR cI cJ A S) (ci := 2) (As := [.int p2]) (rest := []) hx hb hml hown hts hlocks htab (c_X2_needAbsence l hlt D cI cJ cS sa A S p2 _ hr2) (cwV 1 hts gX2_why_X2_needAbsence rfl rfl rfl (by decide +kernel) ⟨(Nat.le_of_ble_eq_true rfl), (Nat.le_of_ble_eq_true rfl)⟩) hE hES hZ (fun _ h => h) hP rfl rfl rfl hl.1 rfl (Nat.le_of_ble_eq_true rfl) dX2_why_7 ⟨(Nat.le_of_ble_eq_true rfl), (Nat.le_of_ble_eq_true rfl)⟩ (fun E e => q_exc_l hf E e) (Nat.le_of_ble_eq_true rfl) (Nat.le_of_ble_eq_true rfl) (fun er2 => ?_)
  have hf := q_exc_r hf er2
  refine lv_aload_n hx hb dX2_why_10 rfl (lv_at hl 0 rfl) ?_
  refine va_get (D := D) (ci := 2) (v := .ref (A 0 0)) (C := RX2) (T := TX2) (N := 5) hx hb hu2 (fun _ h => h) hown hE.1 hP 0 rfl rfl 0 (Nat.le_of_ble_eq_true rfl) (hts (.fieldLink RX2 12 "CoverMeter" "now" "LCoverMeter$State;") (List.mem_of_getElem? (i := 1) rfl)) (fun _ h9 => h9) rfl dX2_why_11 ?_
  refine lv_iload_n hx hb dX2_why_14 rfl (lv_at hl 1 rfl) ?_
  refine lv_iload_n hx hb dX2_why_15 rfl (lv_at hl 2 rfl) ?_
  obtain ⟨r3, hr3, hf⟩ := q_bd_go hf
  refine q_rdVi (w := (wST cI cJ (A 0) (CM_now S))) (ci := 1) (As := [.int p1, .int p2]) (rest := []) hx hb hml hown hts (c_X1_hindrance l D cI cJ cS (A 0) (CM_now S) p1 p2 _ hr3) (cwV 2 hts gX2_why_X1_hindrance rfl rfl rfl (by decide +kernel) ⟨(Nat.le_of_ble_eq_true rfl), (Nat.le_of_ble_eq_true rfl)⟩) hE (qr_now hP) rfl rfl rfl hl.1 rfl (Nat.le_of_ble_eq_true rfl) dX2_why_16 ⟨(Nat.le_of_ble_eq_true rfl), (Nat.le_of_ble_eq_true rfl)⟩ ?_
  have ho := q_some hf
  refine vx_ret ?_
  refine W.widen (k := 2) (n := 12) (Nat.le_of_ble_eq_true rfl) (Nat.le_of_ble_eq_true rfl) ?_
  exact W.iret hx hb hr (fun t ht hW => ⟨_, ho.symm, rfl, ht⟩) t_nil dX2_why_19
def f_X2_value (S : CM) (p1 : Int32) : Option (String ⊕ Int32) := (f_X2_needInRange p1 0 10).bind fun r1 =>
 q_exc r1 fun _ =>
 (f_X1_aboutAll (CM_now S) p1).bind fun r2 =>
 some (.inr (r2))
abbrev rX2_value : Room := { frames := 7, cells := 1, slots := 6, locals := 112 }
set_option maxRecDepth 100000 in
set_option maxHeartbeats 4000000 in
theorem c_X2_value (l : Launch) (hlt : l.stackTraces = false) (D : va_G) (cI cJ cS : ClassId) (sa : Nat → Nat) (A : Nat → Nat → Nat) (S : CM) (p1 : Int32) (o : (String ⊕ Int32)) (hf : f_X2_value S p1 = some o) : vx_Met l yX2_value wsX2_value rX2_value (va_Pc [.ref (A 3 0), .int p1] (q_BX D cI cJ cS sa (wCR cI cJ A S))) (q_XR (fun r => some (.int r)) o) (q_XC o) 1 6 (fun _ => False) := by
  refine vx_ofW (cc := cX2_value) (maxL := 2) (ret := some .int) (by decide) rfl ?_
  intro p e s m args below meth c s₁ B9 hml htab hv
  obtain ⟨rfl, hP, hE, hES, hZ⟩ := hv
  have hx := B9.exec
  have hb := B9.bytes
  have hr := B9.returns
  have hts := atoms_spec (ws := wsX2_value) B9.pre
  have hown : s.vm.findClass RX2 = some m.cls := findClass_of_methodNamed B9.named
  have hlocks := B9.notSynchronized
  have hu1 : ∀ z ∈ wsX10, z.before _ s = true := fun z h => hts z (List.mem_cons_of_mem _ (List.mem_append_left _ (List.mem_append_right _ h)))
  have hu2 : ∀ z ∈ wsX20, z.before _ s = true := fun z h => hts z (List.mem_cons_of_mem _ (List.mem_append_left _ (List.mem_append_left _ (List.mem_append_right _ h))))
  have hS : va_S (va_A (wCR cI cJ A S) s.heap.size) s.heap s.heap [] := va_S.rf
  have hl := lv_entry ([.ref (A 3 0), .int p1]) (n := 2) (Nat.le_of_ble_eq_true rfl)
  rw [lg_entry_eq]
  generalize (lg_sl ([.ref (A 3 0), .int p1]) ++ List.replicate (2 - (lg_sl ([.ref (A 3 0), .int p1])).length) Slot.unset).toArray = ls at hl ⊢
  have hl : lv_has ls 2 [(0, .ref (A 3 0)), (1, .int p1)] := hl
  unfold f_X2_value at hf
  refine lv_iload_n hx hb dX2_value_0 rfl (lv_at hl 1 rfl) ?_
  refine lv_iconst (v := 0) hx hb dX2_value_1 (by decide) ?_
  refine lv_bipush (v := 10) hx hb dX2_value_2 (by decide) ?_
  obtain ⟨r1, hr1, hf⟩ := q_bd_go hf
  refine q_needS (As := [.int p1, .int 0, .int 10]) (rest := []) hx hb hml hown hts hlocks htab (c_X2_needInRange l hlt D cI cJ cS sa p1 0 10 _ hr1) (va_cwS 3 hts gX2_value_X2_needInRange rfl rfl rfl (by decide +kernel) ⟨(Nat.le_of_ble_eq_true rfl), (Nat.le_of_ble_eq_true rfl)⟩) hE hES hZ (fun q h => Or.inr h) rfl hl.1 rfl (Nat.le_of_ble_eq_true rfl) dX2_value_4 ⟨(Nat.le_of_ble_eq_true rfl), (Nat.le_of_ble_eq_true rfl)⟩ (fun E e => q_exc_l hf E e) (Nat.le_of_ble_eq_true rfl) (Nat.le_of_ble_eq_true rfl) (fun er1 => ?_)
  have hf := q_exc_r hf er1
  refine lv_aload_n hx hb dX2_value_7 rfl (lv_at hl 0 rfl) ?_
  refine va_get (D := D) (ci := 2) (v := .ref (A 0 0)) (C := RX2) (T := TX2) (N := 5) hx hb hu2 (fun _ h => h) hown hE.1 hP 0 rfl rfl 0 (Nat.le_of_ble_eq_true rfl) (hts (.fieldLink RX2 12 "CoverMeter" "now" "LCoverMeter$State;") (List.mem_of_getElem? (i := 1) rfl)) (fun _ h9 => h9) rfl dX2_value_8 ?_
  refine lv_iload_n hx hb dX2_value_11 rfl (lv_at hl 1 rfl) ?_
  obtain ⟨r2, hr2, hf⟩ := q_bd_go hf
  refine q_rdVi (w := (wST cI cJ (A 0) (CM_now S))) (ci := 1) (As := [.int p1]) (rest := []) hx hb hml hown hts (c_X1_aboutAll l D cI cJ cS (A 0) (CM_now S) p1 _ hr2) (cwV 1 hts gX2_value_X1_aboutAll rfl rfl rfl (by decide +kernel) ⟨(Nat.le_of_ble_eq_true rfl), (Nat.le_of_ble_eq_true rfl)⟩) hE (qr_now hP) rfl rfl rfl hl.1 rfl (Nat.le_of_ble_eq_true rfl) dX2_value_12 ⟨(Nat.le_of_ble_eq_true rfl), (Nat.le_of_ble_eq_true rfl)⟩ ?_
  have ho := q_some hf
  refine vx_ret ?_
  refine W.widen (k := 1) (n := 6) (Nat.le_of_ble_eq_true rfl) (Nat.le_of_ble_eq_true rfl) ?_
  exact W.iret hx hb hr (fun t ht hW => ⟨_, ho.symm, rfl, ht⟩) t_nil dX2_value_15
def f_X2_setting (S : CM) (p1 : Int32) : Option (String ⊕ Int32) := (f_X2_needInRange p1 0 2).bind fun r1 =>
 q_exc r1 fun _ =>
 if q_in p1 3 = true then
 (some (.inr (ST_settings (CM_now S) (p1 : Int32).toNatClampNeg))) else none
abbrev rX2_setting : Room := { frames := 7, cells := 1, slots := 6, locals := 112 }
set_option maxRecDepth 100000 in
set_option maxHeartbeats 4000000 in
theorem c_X2_setting (l : Launch) (hlt : l.stackTraces = false) (D : va_G) (cI cJ cS : ClassId) (sa : Nat → Nat) (A : Nat → Nat → Nat) (S : CM) (p1 : Int32) (o : (String ⊕ Int32)) (hf : f_X2_setting S p1 = some o) : vx_Met l yX2_setting wsX2_setting rX2_setting (va_Pc [.ref (A 3 0), .int p1] (q_BX D cI cJ cS sa (wCR cI cJ A S))) (q_XR (fun r => some (.int r)) o) (q_XC o) 1 6 (fun _ => False) := by
  refine vx_ofW (cc := cX2_setting) (maxL := 2) (ret := some .int) (by decide) rfl ?_
  intro p e s m args below meth c s₁ B9 hml htab hv
  obtain ⟨rfl, hP, hE, hES, hZ⟩ := hv
  have hx := B9.exec
  have hb := B9.bytes
  have hr := B9.returns
  have hts := atoms_spec (ws := wsX2_setting) B9.pre
  have hown : s.vm.findClass RX2 = some m.cls := findClass_of_methodNamed B9.named
  have hlocks := B9.notSynchronized
  have hu1 : ∀ z ∈ wsX10, z.before _ s = true := fun z h => hts z (List.mem_cons_of_mem _ (List.mem_append_left _ (List.mem_append_right _ h)))
  have hu2 : ∀ z ∈ wsX20, z.before _ s = true := fun z h => hts z (List.mem_cons_of_mem _ (List.mem_append_left _ (List.mem_append_left _ (List.mem_append_right _ h))))
  have hS : va_S (va_A (wCR cI cJ A S) s.heap.size) s.heap s.heap [] := va_S.rf
  have hl := lv_entry ([.ref (A 3 0), .int p1]) (n := 2) (Nat.le_of_ble_eq_true rfl)
  rw [lg_entry_eq]
  generalize (lg_sl ([.ref (A 3 0), .int p1]) ++ List.replicate (2 - (lg_sl ([.ref (A 3 0), .int p1])).length) Slot.unset).toArray = ls at hl ⊢
  have hl : lv_has ls 2 [(0, .ref (A 3 0)), (1, .int p1)] := hl
  unfold f_X2_setting at hf
  refine lv_iload_n hx hb dX2_setting_0 rfl (lv_at hl 1 rfl) ?_
  refine lv_iconst (v := 0) hx hb dX2_setting_1 (by decide) ?_
  refine lv_iconst (v := 2) hx hb dX2_setting_2 (by decide) ?_
  obtain ⟨r1, hr1, hf⟩ := q_bd_go hf
  refine q_needS (As := [.int p1, .int 0, .int 2]) (rest := []) hx hb hml hown hts hlocks htab (c_X2_needInRange l hlt D cI cJ cS sa p1 0 2 _ hr1) (va_cwS 3 hts gX2_setting_X2_needInRange rfl rfl rfl (by decide +kernel) ⟨(Nat.le_of_ble_eq_true rfl), (Nat.le_of_ble_eq_true rfl)⟩) hE hES hZ (fun q h => Or.inr h) rfl hl.1 rfl (Nat.le_of_ble_eq_true rfl) dX2_setting_3 ⟨(Nat.le_of_ble_eq_true rfl), (Nat.le_of_ble_eq_true rfl)⟩ (fun E e => q_exc_l hf E e) (Nat.le_of_ble_eq_true rfl) (Nat.le_of_ble_eq_true rfl) (fun er1 => ?_)
  have hf := q_exc_r hf er1
  refine lv_aload_n hx hb dX2_setting_6 rfl (lv_at hl 0 rfl) ?_
  refine va_get (D := D) (ci := 2) (v := .ref (A 0 0)) (C := RX2) (T := TX2) (N := 5) hx hb hu2 (fun _ h => h) hown hE.1 hP 0 rfl rfl 0 (Nat.le_of_ble_eq_true rfl) (hts (.fieldLink RX2 12 "CoverMeter" "now" "LCoverMeter$State;") (List.mem_of_getElem? (i := 1) rfl)) (fun _ h9 => h9) rfl dX2_setting_7 ?_
  refine va_get (D := D) (ci := 1) (v := .ref (A 0 1)) (C := RX1) (T := TX1) (N := 15) hx hb hu1 (fun _ h => h) hown hE.1 hP 1 rfl rfl 0 (Nat.le_of_ble_eq_true rfl) (hts (.fieldLink RX2 44 "CoverMeter$State" "settings" "[I") (List.mem_of_getElem? (i := 2) rfl)) (fun _ h9 => h9) rfl dX2_setting_10 ?_
  refine lv_iload_n hx hb dX2_setting_13 rfl (lv_at hl 1 rfl) ?_
  have hi2 := q_gd_in hf
  have hf := q_gd_go hf
  refine va_iald hx hb hE.1 hP 2 0 rfl rfl hi2 dX2_setting_14 ?_
  have ho := q_some hf
  refine vx_ret ?_
  refine W.widen (k := 1) (n := 6) (Nat.le_of_ble_eq_true rfl) (Nat.le_of_ble_eq_true rfl) ?_
  exact W.iret hx hb hr (fun t ht hW => ⟨_, ho.symm, rfl, ht⟩) t_nil dX2_setting_15
def f_X2_coverer (S : CM) (p1 : Int32) : Option (String ⊕ Int32) := (f_X2_needAbsence S p1).bind fun r1 =>
 q_exc r1 fun _ =>
 (f_X1_nextCoverer (CM_now S) p1).bind fun r2 =>
 some (.inr (r2))
abbrev rX2_coverer : Room := { frames := 7, cells := 1, slots := 6, locals := 111 }
set_option maxRecDepth 100000 in
set_option maxHeartbeats 4000000 in
theorem c_X2_coverer (l : Launch) (hlt : l.stackTraces = false) (D : va_G) (cI cJ cS : ClassId) (sa : Nat → Nat) (A : Nat → Nat → Nat) (S : CM) (p1 : Int32) (o : (String ⊕ Int32)) (hf : f_X2_coverer S p1 = some o) : vx_Met l yX2_coverer wsX2_coverer rX2_coverer (va_Pc [.ref (A 3 0), .int p1] (q_BX D cI cJ cS sa (wCR cI cJ A S))) (q_XR (fun r => some (.int r)) o) (q_XC o) 1 6 (fun _ => False) := by
  refine vx_ofW (cc := cX2_coverer) (maxL := 2) (ret := some .int) (by decide) rfl ?_
  intro p e s m args below meth c s₁ B9 hml htab hv
  obtain ⟨rfl, hP, hE, hES, hZ⟩ := hv
  have hx := B9.exec
  have hb := B9.bytes
  have hr := B9.returns
  have hts := atoms_spec (ws := wsX2_coverer) B9.pre
  have hown : s.vm.findClass RX2 = some m.cls := findClass_of_methodNamed B9.named
  have hlocks := B9.notSynchronized
  have hu1 : ∀ z ∈ wsX10, z.before _ s = true := fun z h => hts z (List.mem_cons_of_mem _ (List.mem_append_left _ (List.mem_append_right _ h)))
  have hu2 : ∀ z ∈ wsX20, z.before _ s = true := fun z h => hts z (List.mem_cons_of_mem _ (List.mem_append_left _ (List.mem_append_left _ (List.mem_append_right _ h))))
  have hS : va_S (va_A (wCR cI cJ A S) s.heap.size) s.heap s.heap [] := va_S.rf
  have hl := lv_entry ([.ref (A 3 0), .int p1]) (n := 2) (Nat.le_of_ble_eq_true rfl)
  rw [lg_entry_eq]
  generalize (lg_sl ([.ref (A 3 0), .int p1]) ++ List.replicate (2 - (lg_sl ([.ref (A 3 0), .int p1])).length) Slot.unset).toArray = ls at hl ⊢
  have hl : lv_has ls 2 [(0, .ref (A 3 0)), (1, .int p1)] := hl
  unfold f_X2_coverer at hf
  refine lv_aload_n hx hb dX2_coverer_0 rfl (lv_at hl 0 rfl) ?_
  refine lv_iload_n hx hb dX2_coverer_1 rfl (lv_at hl 1 rfl) ?_
  obtain ⟨r1, hr1, hf⟩ := q_bd_go hf
  refine q_needV (w := wCR cI cJ A S) (ci := 2) (As := [.int p1]) (rest := []) hx hb hml hown hts hlocks htab (c_X2_needAbsence l hlt D cI cJ cS sa A S p1 _ hr1) (cwV 1 hts gX2_coverer_X2_needAbsence rfl rfl rfl (by decide +kernel) ⟨(Nat.le_of_ble_eq_true rfl), (Nat.le_of_ble_eq_true rfl)⟩) hE hES hZ (fun _ h => h) hP rfl rfl rfl hl.1 rfl (Nat.le_of_ble_eq_true rfl) dX2_coverer_2 ⟨(Nat.le_of_ble_eq_true rfl), (Nat.le_of_ble_eq_true rfl)⟩ (fun E e => q_exc_l hf E e) (Nat.le_of_ble_eq_true rfl) (Nat.le_of_ble_eq_true rfl) (fun er1 => ?_)
  have hf := q_exc_r hf er1
  refine lv_aload_n hx hb dX2_coverer_5 rfl (lv_at hl 0 rfl) ?_
  refine va_get (D := D) (ci := 2) (v := .ref (A 0 0)) (C := RX2) (T := TX2) (N := 5) hx hb hu2 (fun _ h => h) hown hE.1 hP 0 rfl rfl 0 (Nat.le_of_ble_eq_true rfl) (hts (.fieldLink RX2 12 "CoverMeter" "now" "LCoverMeter$State;") (List.mem_of_getElem? (i := 1) rfl)) (fun _ h9 => h9) rfl dX2_coverer_6 ?_
  refine lv_iload_n hx hb dX2_coverer_9 rfl (lv_at hl 1 rfl) ?_
  obtain ⟨r2, hr2, hf⟩ := q_bd_go hf
  refine q_rdVi (w := (wST cI cJ (A 0) (CM_now S))) (ci := 1) (As := [.int p1]) (rest := []) hx hb hml hown hts (c_X1_nextCoverer l D cI cJ cS (A 0) (CM_now S) p1 _ hr2) (cwV 1 hts gX2_coverer_X1_nextCoverer rfl rfl rfl (by decide +kernel) ⟨(Nat.le_of_ble_eq_true rfl), (Nat.le_of_ble_eq_true rfl)⟩) hE (qr_now hP) rfl rfl rfl hl.1 rfl (Nat.le_of_ble_eq_true rfl) dX2_coverer_10 ⟨(Nat.le_of_ble_eq_true rfl), (Nat.le_of_ble_eq_true rfl)⟩ ?_
  have ho := q_some hf
  refine vx_ret ?_
  refine W.widen (k := 1) (n := 6) (Nat.le_of_ble_eq_true rfl) (Nat.le_of_ble_eq_true rfl) ?_
  exact W.iret hx hb hr (fun t ht hW => ⟨_, ho.symm, rfl, ht⟩) t_nil dX2_coverer_13
def f_X2_coveredWith (S : CM) (p1 : Int32) : Option (String ⊕ (Int32 × CM)) := if q_in 0 3 = true then
 (if q_in 0 3 = true then
 ((f_X2_needInRange p1 (q_lows (0 : Int32).toNatClampNeg) (q_tops (0 : Int32).toNatClampNeg)).bind fun r3 =>
 q_exc r3 fun _ =>
 q_let (sCM_trial S (cp_ST (CM_trial S) (CM_now S))) fun S5 =>
 if q_in 0 3 = true then
 (q_let (sCM_trial S5 (sST_settings (CM_trial S5) (upd (ST_settings (CM_trial S5)) (0 : Int32).toNatClampNeg p1))) fun S7 =>
 (f_X1_coverAllOpen (CM_trial S7) ).bind fun r8 =>
 q_let (sCM_trial S7 r8.2) fun S9 =>
 some (.inr (r8.1, S9))) else none) else none) else none
abbrev rX2_coveredWith : Room := { frames := 7, cells := 1, slots := 6, locals := 119 }
set_option maxRecDepth 100000 in
set_option maxHeartbeats 4000000 in
theorem c_X2_coveredWith (l : Launch) (hlt : l.stackTraces = false) (D : va_G) (cI cJ cS : ClassId) (sa : Nat → Nat) (A : Nat → Nat → Nat) (g : Nat → Option Nat) (B : Nat → Nat → Nat) (hg : ∀ i, i < 4 → g i = some (B i 0)) (S : CM) (sz : Nat) (p1 : Int32) (o : (String ⊕ (Int32 × CM))) (hf : f_X2_coveredWith S p1 = some o) : vx_Met l yX2_coveredWith wsX2_coveredWith rX2_coveredWith (va_Pc [.ref (A 3 0), .int p1] (q_BWX D cI cJ cS sa (wCM cI cJ cS A g B S) sz)) (q_XW (fun r => some (.int r)) o D cI cJ cS A (wCM cI cJ cS A g B S) sz) (q_XC o) 1 6 (va_A (wCM cI cJ cS A g B S) sz) := by
  refine vx_ofW (cc := cX2_coveredWith) (maxL := 2) (ret := some .int) (by decide) rfl ?_
  intro p e s m args below meth c s₁ B9 hml htab hv
  obtain ⟨rfl, hsz, hP, hE, hD0, hES, hZ⟩ := hv
  have hx := B9.exec
  have hb := B9.bytes
  have hr := B9.returns
  have hts := atoms_spec (ws := wsX2_coveredWith) B9.pre
  have hown : s.vm.findClass RX2 = some m.cls := findClass_of_methodNamed B9.named
  have hlocks := B9.notSynchronized
  have hu1 : ∀ z ∈ wsX10, z.before _ s = true := fun z h => hts z (List.mem_cons_of_mem _ (List.mem_append_left _ (List.mem_append_right _ h)))
  have hu2 : ∀ z ∈ wsX20, z.before _ s = true := fun z h => hts z (List.mem_cons_of_mem _ (List.mem_append_left _ (List.mem_append_left _ (List.mem_append_right _ h))))
  subst hsz
  have hD := hD0.self (sz := s.heap.size)
  have hS : va_S (va_A (wCM cI cJ cS A g B S) s.heap.size) s.heap s.heap [] := va_S.rf
  have hl := lv_entry ([.ref (A 3 0), .int p1]) (n := 2) (Nat.le_of_ble_eq_true rfl)
  rw [lg_entry_eq]
  generalize (lg_sl ([.ref (A 3 0), .int p1]) ++ List.replicate (2 - (lg_sl ([.ref (A 3 0), .int p1])).length) Slot.unset).toArray = ls at hl ⊢
  have hl : lv_has ls 2 [(0, .ref (A 3 0)), (1, .int p1)] := hl
  unfold f_X2_coveredWith at hf
  refine lv_iload_n hx hb dX2_coveredWith_0 rfl (lv_at hl 1 rfl) ?_
  refine va_gets hx hb hZ.2.2.1 hS hown (hts (.fieldLink RX2 34 "CoverMeter" "LOWEST_SETTING" "[I") (List.mem_of_getElem? (i := 1) rfl)) (fun _ h9 => h9) dX2_coveredWith_1 ?_
  refine lv_iconst (v := 0) hx hb dX2_coveredWith_4 (by decide) ?_
  have hi1 := q_gd_in hf
  have hf := q_gd_go hf
  refine va_ti hx hb hZ.2.2.2.1 hS hi1 rfl dX2_coveredWith_5 ?_
  refine va_gets hx hb hZ.2.2.2.2.1 hS hown (hts (.fieldLink RX2 38 "CoverMeter" "GREATEST_SETTING" "[I") (List.mem_of_getElem? (i := 2) rfl)) (fun _ h9 => h9) dX2_coveredWith_6 ?_
  refine lv_iconst (v := 0) hx hb dX2_coveredWith_9 (by decide) ?_
  have hi2 := q_gd_in hf
  have hf := q_gd_go hf
  refine va_ti hx hb hZ.2.2.2.2.2 hS hi2 rfl dX2_coveredWith_10 ?_
  obtain ⟨r3, hr3, hf⟩ := q_bd_go hf
  refine q_needS (As := [.int p1, .int (q_lows (0 : Int32).toNatClampNeg), .int (q_tops (0 : Int32).toNatClampNeg)]) (rest := []) hx hb hml hown hts hlocks htab (c_X2_needInRange l hlt D cI cJ cS sa p1 (q_lows (0 : Int32).toNatClampNeg) (q_tops (0 : Int32).toNatClampNeg) _ hr3) (va_cwS 3 hts gX2_coveredWith_X2_needInRange rfl rfl rfl (by decide +kernel) ⟨(Nat.le_of_ble_eq_true rfl), (Nat.le_of_ble_eq_true rfl)⟩) hE hES hZ (fun q h => Or.inr h) rfl hl.1 rfl (Nat.le_of_ble_eq_true rfl) dX2_coveredWith_11 ⟨(Nat.le_of_ble_eq_true rfl), (Nat.le_of_ble_eq_true rfl)⟩ (fun E e => q_exc_l hf E e) (Nat.le_of_ble_eq_true rfl) (Nat.le_of_ble_eq_true rfl) (fun er3 => ?_)
  have hf := q_exc_r hf er3
  refine lv_aload_n hx hb dX2_coveredWith_14 rfl (lv_at hl 0 rfl) ?_
  refine va_get (D := D) (ci := 2) (v := .ref (A 1 0)) (C := RX2) (T := TX2) (N := 5) hx hb hu2 (fun _ h => h) hown hE.1 hP 0 rfl rfl 1 (Nat.le_of_ble_eq_true rfl) (hts (.fieldLink RX2 16 "CoverMeter" "trial" "LCoverMeter$State;") (List.mem_of_getElem? (i := 3) rfl)) (fun _ h9 => h9) rfl dX2_coveredWith_15 ?_
  refine lv_aload_n hx hb dX2_coveredWith_18 rfl (lv_at hl 0 rfl) ?_
  refine va_get (D := D) (ci := 2) (v := .ref (A 0 0)) (C := RX2) (T := TX2) (N := 5) hx hb hu2 (fun _ h => h) hown hE.1 hP 0 rfl rfl 0 (Nat.le_of_ble_eq_true rfl) (hts (.fieldLink RX2 12 "CoverMeter" "now" "LCoverMeter$State;") (List.mem_of_getElem? (i := 4) rfl)) (fun _ h9 => h9) rfl dX2_coveredWith_19 ?_
  obtain ⟨S5, eS5, hf⟩ := q_let_go hf
  refine q_wrC (v := none) (w := wST cI cJ (A 1) (CM_trial S) ++ wST cI cJ (A 0) (CM_now S)) (ci := 1) (As := [.ref (A 0 0)]) (rest := []) hx hb hml hown hts (c_X1_copyFrom l D cI cJ cS (A 1) (A 0) (CM_trial S) (CM_now S) _) (cwV 1 hts gX2_coveredWith_X1_copyFrom rfl rfl rfl (by decide +kernel) ⟨(Nat.le_of_ble_eq_true rfl), (Nat.le_of_ble_eq_true rfl)⟩) hE (qp_trial_now hP) (qd_trial_now hD) hS (fun q h => Or.inr h) (fun H1 hF hk h1 h2 => qs_trial_now (z := cp_ST (CM_trial S) (CM_now S)) hP hD hF hk h1 h2) rfl rfl rfl hl.1 rfl (Nat.le_of_ble_eq_true rfl) dX2_coveredWith_22 ⟨(Nat.le_of_ble_eq_true rfl), (Nat.le_of_ble_eq_true rfl)⟩ (fun H locs hP hD hS => ?_)
  rw [eS5] at hP hD
  refine lv_aload_n hx hb dX2_coveredWith_25 rfl (lv_at hl 0 rfl) ?_
  refine va_get (D := D) (ci := 2) (v := .ref (A 1 0)) (C := RX2) (T := TX2) (N := 5) hx hb hu2 (fun _ h => h) hown hE.1 hP 0 rfl rfl 1 (Nat.le_of_ble_eq_true rfl) (hts (.fieldLink RX2 16 "CoverMeter" "trial" "LCoverMeter$State;") (List.mem_of_getElem? (i := 3) rfl)) (fun _ h9 => h9) rfl dX2_coveredWith_26 ?_
  refine va_get (D := D) (ci := 1) (v := .ref (A 1 1)) (C := RX1) (T := TX1) (N := 15) hx hb hu1 (fun _ h => h) hown hE.1 hP 15 rfl rfl 0 (Nat.le_of_ble_eq_true rfl) (hts (.fieldLink RX2 44 "CoverMeter$State" "settings" "[I") (List.mem_of_getElem? (i := 5) rfl)) (fun _ h9 => h9) rfl dX2_coveredWith_29 ?_
  refine lv_iconst (v := 0) hx hb dX2_coveredWith_32 (by decide) ?_
  refine lv_iload_n hx hb dX2_coveredWith_33 rfl (lv_at hl 1 rfl) ?_
  have hi6 := q_gd_in hf
  have hf := q_gd_go hf
  obtain ⟨S7, eS7, hf⟩ := q_let_go hf
  refine va_iast hx hb hE.1 hP hD hS 16 0 rfl rfl hi6 dX2_coveredWith_34 (fun H locs hP hD hS => ?_)
  have hP : va_P D vwCl (wCM cI cJ cS A g B (sCM_trial S5 (sST_settings (CM_trial S5) (upd (ST_settings (CM_trial S5)) (0 : Int32).toNatClampNeg p1)))) H := hP
  have hD : va_D (va_A (wCM cI cJ cS A g B S) s.heap.size) (wCM cI cJ cS A g B (sCM_trial S5 (sST_settings (CM_trial S5) (upd (ST_settings (CM_trial S5)) (0 : Int32).toNatClampNeg p1)))) := hD
  rw [eS7] at hP hD
  refine lv_aload_n hx hb dX2_coveredWith_35 rfl (lv_at hl 0 rfl) ?_
  refine va_get (D := D) (ci := 2) (v := .ref (A 1 0)) (C := RX2) (T := TX2) (N := 5) hx hb hu2 (fun _ h => h) hown hE.1 hP 0 rfl rfl 1 (Nat.le_of_ble_eq_true rfl) (hts (.fieldLink RX2 16 "CoverMeter" "trial" "LCoverMeter$State;") (List.mem_of_getElem? (i := 3) rfl)) (fun _ h9 => h9) rfl dX2_coveredWith_36 ?_
  obtain ⟨r8, hr8, hf⟩ := q_bd_go hf
  obtain ⟨S9, eS9, hf⟩ := q_let_go hf
  refine q_wrC (v := (some (.int r8.1))) (w := wST cI cJ (A 1) (CM_trial S7)) (ci := 1) (As := []) (rest := []) hx hb hml hown hts (c_X1_coverAllOpen l D cI cJ cS (A 1) (CM_trial S7) _  _ hr8) (cwV 0 hts gX2_coveredWith_X1_coverAllOpen rfl rfl rfl (by decide +kernel) ⟨(Nat.le_of_ble_eq_true rfl), (Nat.le_of_ble_eq_true rfl)⟩) hE (qp_trial hP) (qd_trial hD) hS (fun q h => Or.inr h) (fun H1 hF hk h1 h2 => qs_trial (z := r8.2) hP hD hF hk h1 h2) rfl rfl rfl hl.1 rfl (Nat.le_of_ble_eq_true rfl) dX2_coveredWith_39 ⟨(Nat.le_of_ble_eq_true rfl), (Nat.le_of_ble_eq_true rfl)⟩ (fun H locs hP hD hS => ?_)
  rw [eS9] at hP hD
  have ho := q_some hf
  refine vx_ret ?_
  refine W.widen (k := 1) (n := 6) (Nat.le_of_ble_eq_true rfl) (Nat.le_of_ble_eq_true rfl) ?_
  exact W.iret hx hb hr (fun t ht hW => ⟨_, ho.symm, rfl, ⟨_, ⟨g, B, hg, rfl⟩, by rw [ht]; exact hP, hD⟩, hS.F ht⟩) hS.2.2 dX2_coveredWith_42
def f_X2_mostCovered (S : CM) : Option (Int32 × CM) := (f_X1_countOf (CM_now S) 0).bind fun r1 =>
 if r1 ≤ 5 then
 (q_let (sCM_trial S (cp_ST (CM_trial S) (CM_now S))) fun S4 =>
 (f_X2_mostFrom 8 (CM_trial S4) 0 r1).bind fun r5 =>
 q_let (sCM_trial S4 r5.2) fun S6 =>
 some (r5.1, S6))
 else (some ((-1), S))
abbrev rX2_mostCovered : Room := { frames := 15, cells := 0, slots := 0, locals := 393 }
set_option maxRecDepth 100000 in
set_option maxHeartbeats 4000000 in
theorem c_X2_mostCovered (l : Launch) (hlt : l.stackTraces = false) (D : va_G) (cI cJ cS : ClassId) (sa : Nat → Nat) (A : Nat → Nat → Nat) (g : Nat → Option Nat) (B : Nat → Nat → Nat) (hg : ∀ i, i < 4 → g i = some (B i 0)) (S : CM) (sz : Nat) (o : (Int32 × CM)) (hf : f_X2_mostCovered S = some o) : Met l yX2_mostCovered wsX2_mostCovered rX2_mostCovered (va_Pc [.ref (A 3 0)] (q_BWX D cI cJ cS sa (wCM cI cJ cS A g B S) sz)) (q_WE (some (.int o.1)) D cI cJ cS A o.2 (wCM cI cJ cS A g B S) sz) 0 0 (va_A (wCM cI cJ cS A g B S) sz) := by
  refine Met.ofW (cc := cX2_mostCovered) (maxL := 2) (ret := some .int) (by decide) rfl ?_
  intro p e s m args below meth c s₁ B9 hml hv
  obtain ⟨rfl, hsz, hP, hE, hD0, hES, hZ⟩ := hv
  have hx := B9.exec
  have hb := B9.bytes
  have hr := B9.returns
  have hts := atoms_spec (ws := wsX2_mostCovered) B9.pre
  have hown : s.vm.findClass RX2 = some m.cls := findClass_of_methodNamed B9.named
  have hlocks := B9.notSynchronized
  have hu1 : ∀ z ∈ wsX10, z.before _ s = true := fun z h => hts z (List.mem_cons_of_mem _ (List.mem_append_right _ h))
  have hu2 : ∀ z ∈ wsX20, z.before _ s = true := fun z h => hts z (List.mem_cons_of_mem _ (List.mem_append_left _ (List.mem_append_right _ h)))
  subst hsz
  have hD := hD0.self (sz := s.heap.size)
  have hS : va_S (va_A (wCM cI cJ cS A g B S) s.heap.size) s.heap s.heap [] := va_S.rf
  have hl := lv_entry ([.ref (A 3 0)]) (n := 2) (Nat.le_of_ble_eq_true rfl)
  rw [lg_entry_eq]
  generalize (lg_sl ([.ref (A 3 0)]) ++ List.replicate (2 - (lg_sl ([.ref (A 3 0)])).length) Slot.unset).toArray = ls at hl ⊢
  have hl : lv_has ls 2 [(0, .ref (A 3 0))] := hl
  unfold f_X2_mostCovered at hf
  refine lv_aload_n hx hb dX2_mostCovered_0 rfl (lv_at hl 0 rfl) ?_
  refine va_get (D := D) (ci := 2) (v := .ref (A 0 0)) (C := RX2) (T := TX2) (N := 5) hx hb hu2 (fun _ h => h) hown hE.1 hP 0 rfl rfl 0 (Nat.le_of_ble_eq_true rfl) (hts (.fieldLink RX2 12 "CoverMeter" "now" "LCoverMeter$State;") (List.mem_of_getElem? (i := 1) rfl)) (fun _ h9 => h9) rfl dX2_mostCovered_1 ?_
  refine lv_iconst (v := 0) hx hb dX2_mostCovered_4 (by decide) ?_
  obtain ⟨r1, hr1, hf⟩ := q_bd_go hf
  refine q_rdVi (w := (wST cI cJ (A 0) (CM_now S))) (ci := 1) (As := [.int 0]) (rest := []) hx hb hml hown hts (c_X1_countOf l D cI cJ cS (A 0) (CM_now S) 0 _ hr1) (cwV 1 hts gX2_mostCovered_X1_countOf rfl rfl rfl (by decide +kernel) ⟨(Nat.le_of_ble_eq_true rfl), (Nat.le_of_ble_eq_true rfl)⟩) hE (qp_now hP) rfl rfl rfl hl.1 rfl (Nat.le_of_ble_eq_true rfl) dX2_mostCovered_5 ⟨(Nat.le_of_ble_eq_true rfl), (Nat.le_of_ble_eq_true rfl)⟩ ?_
  refine lv_istore_n (lv' := [(1, .int r1), (0, .ref (A 3 0))]) hx hb dX2_mostCovered_8 rfl hl (by decide) rfl (fun ls hl => ?_)
  refine lv_iload_n hx hb dX2_mostCovered_9 rfl (lv_at hl 0 rfl) ?_
  refine lv_iconst (v := 5) hx hb dX2_mostCovered_10 (by decide) ?_
  refine lv_icmp_le (tgt := 16) hx hb dX2_mostCovered_11 (by decide) (fun c2 => ?_) (fun c2 => ?_)
  · have hf := q_ite_t c2 hf
    refine lv_aload_n hx hb dX2_mostCovered_16 rfl (lv_at hl 1 rfl) ?_
    refine va_get (D := D) (ci := 2) (v := .ref (A 1 0)) (C := RX2) (T := TX2) (N := 5) hx hb hu2 (fun _ h => h) hown hE.1 hP 0 rfl rfl 1 (Nat.le_of_ble_eq_true rfl) (hts (.fieldLink RX2 16 "CoverMeter" "trial" "LCoverMeter$State;") (List.mem_of_getElem? (i := 2) rfl)) (fun _ h9 => h9) rfl dX2_mostCovered_17 ?_
    refine lv_aload_n hx hb dX2_mostCovered_20 rfl (lv_at hl 1 rfl) ?_
    refine va_get (D := D) (ci := 2) (v := .ref (A 0 0)) (C := RX2) (T := TX2) (N := 5) hx hb hu2 (fun _ h => h) hown hE.1 hP 0 rfl rfl 0 (Nat.le_of_ble_eq_true rfl) (hts (.fieldLink RX2 12 "CoverMeter" "now" "LCoverMeter$State;") (List.mem_of_getElem? (i := 1) rfl)) (fun _ h9 => h9) rfl dX2_mostCovered_21 ?_
    obtain ⟨S4, eS4, hf⟩ := q_let_go hf
    refine q_wrC (v := none) (w := wST cI cJ (A 1) (CM_trial S) ++ wST cI cJ (A 0) (CM_now S)) (ci := 1) (As := [.ref (A 0 0)]) (rest := []) hx hb hml hown hts (c_X1_copyFrom l D cI cJ cS (A 1) (A 0) (CM_trial S) (CM_now S) _) (cwV 1 hts gX2_mostCovered_X1_copyFrom rfl rfl rfl (by decide +kernel) ⟨(Nat.le_of_ble_eq_true rfl), (Nat.le_of_ble_eq_true rfl)⟩) hE (qp_trial_now hP) (qd_trial_now hD) hS (fun q h => Or.inr h) (fun H1 hF hk h1 h2 => qs_trial_now (z := cp_ST (CM_trial S) (CM_now S)) hP hD hF hk h1 h2) rfl rfl rfl hl.1 rfl (Nat.le_of_ble_eq_true rfl) dX2_mostCovered_24 ⟨(Nat.le_of_ble_eq_true rfl), (Nat.le_of_ble_eq_true rfl)⟩ (fun H locs hP hD hS => ?_)
    rw [eS4] at hP hD
    refine lv_aload_n hx hb dX2_mostCovered_27 rfl (lv_at hl 1 rfl) ?_
    refine va_get (D := D) (ci := 2) (v := .ref (A 1 0)) (C := RX2) (T := TX2) (N := 5) hx hb hu2 (fun _ h => h) hown hE.1 hP 0 rfl rfl 1 (Nat.le_of_ble_eq_true rfl) (hts (.fieldLink RX2 16 "CoverMeter" "trial" "LCoverMeter$State;") (List.mem_of_getElem? (i := 2) rfl)) (fun _ h9 => h9) rfl dX2_mostCovered_28 ?_
    refine lv_iconst (v := 0) hx hb dX2_mostCovered_31 (by decide) ?_
    refine lv_iload_n hx hb dX2_mostCovered_32 rfl (lv_at hl 0 rfl) ?_
    obtain ⟨r5, hr5, hf⟩ := q_bd_go hf
    obtain ⟨S6, eS6, hf⟩ := q_let_go hf
    refine q_wrCS (v := some (.int r5.1)) (w := wST cI cJ (A 1) (CM_trial S4)) (As := [.ref (A 1 0), .int 0, .int r1]) (rest := []) hx hb hml hown hts (c_X2_mostFrom l D cI cJ cS (A 1) 8 (CM_trial S4) _ 0 r1 _ hr5) (va_cwS 3 hts gX2_mostCovered_X2_mostFrom rfl rfl rfl (by decide +kernel) ⟨(Nat.le_of_ble_eq_true rfl), (Nat.le_of_ble_eq_true rfl)⟩) hE (qp_trial hP) (qd_trial hD) hS (fun q h => Or.inr h) (fun H1 hF hk h1 h2 => qs_trial (z := r5.2) hP hD hF hk h1 h2) rfl hl.1 rfl (Nat.le_of_ble_eq_true rfl) dX2_mostCovered_33 ⟨(Nat.le_of_ble_eq_true rfl), (Nat.le_of_ble_eq_true rfl)⟩ (fun H locs hP hD hS => ?_)
    rw [eS6] at hP hD
    have ho := q_some hf
    subst ho
    refine W.widen (k := 0) (n := 0) (Nat.le_of_ble_eq_true rfl) (Nat.le_of_ble_eq_true rfl) ?_
    exact W.iret hx hb hr (fun t ht hW => ⟨rfl, ⟨_, ⟨g, B, hg, rfl⟩, by rw [ht]; exact hP, hD⟩, hS.F ht⟩) hS.2.2 dX2_mostCovered_36
  · have hf := q_ite_f c2 hf
    refine lv_iconst (v := (-1)) hx hb dX2_mostCovered_14 (by decide) ?_
    have ho := q_some hf
    subst ho
    refine W.widen (k := 0) (n := 0) (Nat.le_of_ble_eq_true rfl) (Nat.le_of_ble_eq_true rfl) ?_
    exact W.iret hx hb hr (fun t ht hW => ⟨rfl, ⟨_, ⟨g, B, hg, rfl⟩, by rw [ht]; exact hP, hD⟩, hS.F ht⟩) t_nil dX2_mostCovered_15
def f_X2_freeShifts (S : CM) (p1 : Int32) : Option (String ⊕ Int32) := (f_X2_needPerson S p1).bind fun r1 =>
 q_exc r1 fun _ =>
 (f_X1_free (CM_now S) p1).bind fun r2 =>
 (f_J13_bitCount_95d88 r2).bind fun r3 =>
 some (.inr (r3))
abbrev rX2_freeShifts : Room := { frames := 7, cells := 1, slots := 6, locals := 111 }
set_option maxRecDepth 100000 in
set_option maxHeartbeats 4000000 in
theorem c_X2_freeShifts (l : Launch) (hlt : l.stackTraces = false) (D : va_G) (cI cJ cS : ClassId) (sa : Nat → Nat) (A : Nat → Nat → Nat) (S : CM) (p1 : Int32) (o : (String ⊕ Int32)) (hf : f_X2_freeShifts S p1 = some o) : vx_Met l yX2_freeShifts wsX2_freeShifts rX2_freeShifts (va_Pc [.ref (A 3 0), .int p1] (q_BX D cI cJ cS sa (wCR cI cJ A S))) (q_XR (fun r => some (.int r)) o) (q_XC o) 1 6 (fun _ => False) := by
  refine vx_ofW (cc := cX2_freeShifts) (maxL := 2) (ret := some .int) (by decide) rfl ?_
  intro p e s m args below meth c s₁ B9 hml htab hv
  obtain ⟨rfl, hP, hE, hES, hZ⟩ := hv
  have hx := B9.exec
  have hb := B9.bytes
  have hr := B9.returns
  have hts := atoms_spec (ws := wsX2_freeShifts) B9.pre
  have hown : s.vm.findClass RX2 = some m.cls := findClass_of_methodNamed B9.named
  have hlocks := B9.notSynchronized
  have hu1 : ∀ z ∈ wsX10, z.before _ s = true := fun z h => hts z (List.mem_cons_of_mem _ (List.mem_append_left _ (List.mem_append_right _ h)))
  have hu2 : ∀ z ∈ wsX20, z.before _ s = true := fun z h => hts z (List.mem_cons_of_mem _ (List.mem_append_left _ (List.mem_append_left _ (List.mem_append_right _ h))))
  have hS : va_S (va_A (wCR cI cJ A S) s.heap.size) s.heap s.heap [] := va_S.rf
  have hl := lv_entry ([.ref (A 3 0), .int p1]) (n := 2) (Nat.le_of_ble_eq_true rfl)
  rw [lg_entry_eq]
  generalize (lg_sl ([.ref (A 3 0), .int p1]) ++ List.replicate (2 - (lg_sl ([.ref (A 3 0), .int p1])).length) Slot.unset).toArray = ls at hl ⊢
  have hl : lv_has ls 2 [(0, .ref (A 3 0)), (1, .int p1)] := hl
  unfold f_X2_freeShifts at hf
  refine lv_aload_n hx hb dX2_freeShifts_0 rfl (lv_at hl 0 rfl) ?_
  refine lv_iload_n hx hb dX2_freeShifts_1 rfl (lv_at hl 1 rfl) ?_
  obtain ⟨r1, hr1, hf⟩ := q_bd_go hf
  refine q_needV (w := wCR cI cJ A S) (ci := 2) (As := [.int p1]) (rest := []) hx hb hml hown hts hlocks htab (c_X2_needPerson l hlt D cI cJ cS sa A S p1 _ hr1) (cwV 1 hts gX2_freeShifts_X2_needPerson rfl rfl rfl (by decide +kernel) ⟨(Nat.le_of_ble_eq_true rfl), (Nat.le_of_ble_eq_true rfl)⟩) hE hES hZ (fun _ h => h) hP rfl rfl rfl hl.1 rfl (Nat.le_of_ble_eq_true rfl) dX2_freeShifts_2 ⟨(Nat.le_of_ble_eq_true rfl), (Nat.le_of_ble_eq_true rfl)⟩ (fun E e => q_exc_l hf E e) (Nat.le_of_ble_eq_true rfl) (Nat.le_of_ble_eq_true rfl) (fun er1 => ?_)
  have hf := q_exc_r hf er1
  refine lv_aload_n hx hb dX2_freeShifts_5 rfl (lv_at hl 0 rfl) ?_
  refine va_get (D := D) (ci := 2) (v := .ref (A 0 0)) (C := RX2) (T := TX2) (N := 5) hx hb hu2 (fun _ h => h) hown hE.1 hP 0 rfl rfl 0 (Nat.le_of_ble_eq_true rfl) (hts (.fieldLink RX2 12 "CoverMeter" "now" "LCoverMeter$State;") (List.mem_of_getElem? (i := 1) rfl)) (fun _ h9 => h9) rfl dX2_freeShifts_6 ?_
  refine lv_iload_n hx hb dX2_freeShifts_9 rfl (lv_at hl 1 rfl) ?_
  obtain ⟨r2, hr2, hf⟩ := q_bd_go hf
  refine q_rdVl (w := (wST cI cJ (A 0) (CM_now S))) (ci := 1) (As := [.int p1]) (rest := []) hx hb hml hown hts (c_X1_free l D cI cJ cS (A 0) (CM_now S) p1 _ hr2) (cwV 1 hts gX2_freeShifts_X1_free rfl rfl rfl (by decide +kernel) ⟨(Nat.le_of_ble_eq_true rfl), (Nat.le_of_ble_eq_true rfl)⟩) hE (qr_now hP) rfl rfl rfl hl.1 rfl (Nat.le_of_ble_eq_true rfl) dX2_freeShifts_10 ⟨(Nat.le_of_ble_eq_true rfl), (Nat.le_of_ble_eq_true rfl)⟩ ?_
  obtain ⟨r3, hr3, hf⟩ := q_bd_go hf
  refine q_rdSi (As := [.long r2]) (rest := []) hx hb hml hown hts (c_J13_bitCount_95d88 l D cI cJ cS r2 _ hr3) (va_cwS 1 hts gX2_freeShifts_J13_bitCount_95d88 rfl rfl rfl (by decide +kernel) ⟨(Nat.le_of_ble_eq_true rfl), (Nat.le_of_ble_eq_true rfl)⟩) hE rfl hl.1 rfl (Nat.le_of_ble_eq_true rfl) dX2_freeShifts_13 ⟨(Nat.le_of_ble_eq_true rfl), (Nat.le_of_ble_eq_true rfl)⟩ ?_
  have ho := q_some hf
  refine vx_ret ?_
  refine W.widen (k := 1) (n := 6) (Nat.le_of_ble_eq_true rfl) (Nat.le_of_ble_eq_true rfl) ?_
  exact W.iret hx hb hr (fun t ht hW => ⟨_, ho.symm, rfl, ht⟩) t_nil dX2_freeShifts_16
def f_X2_spread_16 (S : CM) : Nat → Int32 → Int32 → Option UInt64
  | 0, _, _ => none
  | n+1, l1, l2 => if (ST_persons (CM_now S)) ≤ l2 then
 (if q_num (FP.ddiv (FP.i2d l1) (FP.i2d (ST_persons (CM_now S)))) = true then
 (some (FP.ddiv (FP.i2d l1) (FP.i2d (ST_persons (CM_now S))))) else none)
 else (if q_in l2 8 = true then
 (q_let ((l1 + (if 0 ≤ (ST_meters (CM_now S) (l2 : Int32).toNatClampNeg) then (ST_meters (CM_now S) (l2 : Int32).toNatClampNeg) else 0 - (ST_meters (CM_now S) (l2 : Int32).toNatClampNeg)))) fun v4 =>
 q_let (l2 + 1) fun v5 =>
 f_X2_spread_16 S n v4 v5) else none)
def f_X2_spread (S : CM) : Option UInt64 := if ¬ (ST_persons (CM_now S)) = 0 then
 (f_X2_spread_16 S 2000 0 0)
 else (some FP.dconst0)
abbrev rX2_spread : Room := { frames := 1, cells := 0, slots := 0, locals := 21 }
set_option maxRecDepth 100000 in
set_option maxHeartbeats 4000000 in
theorem c_X2_spread (l : Launch) (D : va_G) (cI cJ cS : ClassId) (A : Nat → Nat → Nat) (S : CM) (o : UInt64) (hf : f_X2_spread S = some o) : Met l yX2_spread wsX2_spread rX2_spread (va_Pc [.ref (A 3 0)] (q_B D cI cJ cS (wCR cI cJ A S))) (q_Rd o) 0 0 (fun _ => False) := by
  refine Met.ofW (cc := cX2_spread) (maxL := 3) (ret := some .double) (by decide) rfl ?_
  intro p e s m args below meth c s₁ B9 hml hv
  obtain ⟨rfl, hP, hE⟩ := hv
  have hx := B9.exec
  have hb := B9.bytes
  have hr := B9.returns
  have hts := atoms_spec (ws := wsX2_spread) B9.pre
  have hown : s.vm.findClass RX2 = some m.cls := findClass_of_methodNamed B9.named
  have hlocks := B9.notSynchronized
  have hu1 : ∀ z ∈ wsX10, z.before _ s = true := fun z h => hts z (List.mem_cons_of_mem _ (List.mem_append_right _ h))
  have hu2 : ∀ z ∈ wsX20, z.before _ s = true := fun z h => hts z (List.mem_cons_of_mem _ (List.mem_append_left _ (List.mem_append_right _ h)))
  have L_16 : ∀ (n : Nat) (l1 : Int32) (l2 : Int32) (ls : Array Slot), lv_has ls 3 [(0, .ref (A 3 0)), (1, .int l1), (2, .int l2)] → f_X2_spread_16 S n l1 l2 = some o → W p l e (headSpec wsX2_spread rX2_spread).room s m (([.ref (A 3 0)] : List Value).toArray) below meth c s.heap [] 0 0 (MQ below (q_Rd o) (([.ref (A 3 0)] : List Value).toArray) s 0 0 (fun _ => False)) (F0 m 16 ls []) := by
    intro n
    induction n with
    | zero => intro l1 l2 ls hl hf; cases hf
    | succ n ih =>
      intro l1 l2 ls hl hf
      rw [f_X2_spread_16] at hf
      refine lv_iload_n hx hb dX2_spread_16 rfl (lv_at hl 2 rfl) ?_
      refine lv_aload_n hx hb dX2_spread_17 rfl (lv_at hl 0 rfl) ?_
      refine va_get (D := D) (ci := 2) (v := .ref (A 0 0)) (C := RX2) (T := TX2) (N := 5) hx hb hu2 (fun _ h => h) hown hE.1 hP 0 rfl rfl 0 (Nat.le_of_ble_eq_true rfl) (hts (.fieldLink RX2 12 "CoverMeter" "now" "LCoverMeter$State;") (List.mem_of_getElem? (i := 1) rfl)) (fun _ h9 => h9) rfl dX2_spread_18 ?_
      refine va_get (D := D) (ci := 1) (v := .int (ST_persons (CM_now S))) (C := RX1) (T := TX1) (N := 15) hx hb hu1 (fun _ h => h) hown hE.1 hP 1 rfl rfl 2 (Nat.le_of_ble_eq_true rfl) (hts (.fieldLink RX2 56 "CoverMeter$State" "persons" "I") (List.mem_of_getElem? (i := 2) rfl)) (fun _ h9 => h9) rfl dX2_spread_21 ?_
      refine lv_icmp_ge (tgt := 48) hx hb dX2_spread_24 (by decide) (fun c2 => ?_) (fun c2 => ?_)
      · have hf := q_ite_t c2 hf
        refine lv_iload_n hx hb dX2_spread_48 rfl (lv_at hl 1 rfl) ?_
        refine lv_i2d hx hb dX2_spread_49 ?_
        refine lv_aload_n hx hb dX2_spread_50 rfl (lv_at hl 0 rfl) ?_
        refine va_get (D := D) (ci := 2) (v := .ref (A 0 0)) (C := RX2) (T := TX2) (N := 5) hx hb hu2 (fun _ h => h) hown hE.1 hP 0 rfl rfl 0 (Nat.le_of_ble_eq_true rfl) (hts (.fieldLink RX2 12 "CoverMeter" "now" "LCoverMeter$State;") (List.mem_of_getElem? (i := 1) rfl)) (fun _ h9 => h9) rfl dX2_spread_51 ?_
        refine va_get (D := D) (ci := 1) (v := .int (ST_persons (CM_now S))) (C := RX1) (T := TX1) (N := 15) hx hb hu1 (fun _ h => h) hown hE.1 hP 1 rfl rfl 2 (Nat.le_of_ble_eq_true rfl) (hts (.fieldLink RX2 56 "CoverMeter$State" "persons" "I") (List.mem_of_getElem? (i := 2) rfl)) (fun _ h9 => h9) rfl dX2_spread_54 ?_
        refine lv_i2d hx hb dX2_spread_57 ?_
        have hnn := q_gc_in hf
        have hf := q_ite_t hnn hf
        refine lv_ddiv hx hb dX2_spread_58 (q_num_n hnn) ?_
        have ho := q_some hf
        subst ho
        refine W.widen (k := 0) (n := 0) (Nat.le_of_ble_eq_true rfl) (Nat.le_of_ble_eq_true rfl) ?_
        exact W.dret hx hb hr (fun t ht hW => ⟨rfl, ht⟩) t_nil dX2_spread_59
      · have hf := q_ite_f c2 hf
        refine lv_iload_n hx hb dX2_spread_27 rfl (lv_at hl 1 rfl) ?_
        refine lv_aload_n hx hb dX2_spread_28 rfl (lv_at hl 0 rfl) ?_
        refine va_get (D := D) (ci := 2) (v := .ref (A 0 0)) (C := RX2) (T := TX2) (N := 5) hx hb hu2 (fun _ h => h) hown hE.1 hP 0 rfl rfl 0 (Nat.le_of_ble_eq_true rfl) (hts (.fieldLink RX2 12 "CoverMeter" "now" "LCoverMeter$State;") (List.mem_of_getElem? (i := 1) rfl)) (fun _ h9 => h9) rfl dX2_spread_29 ?_
        refine va_get (D := D) (ci := 1) (v := .ref (A 0 5)) (C := RX1) (T := TX1) (N := 15) hx hb hu1 (fun _ h => h) hown hE.1 hP 1 rfl rfl 6 (Nat.le_of_ble_eq_true rfl) (hts (.fieldLink RX2 166 "CoverMeter$State" "meters" "[I") (List.mem_of_getElem? (i := 3) rfl)) (fun _ h9 => h9) rfl dX2_spread_32 ?_
        refine lv_iload_n hx hb dX2_spread_35 rfl (lv_at hl 2 rfl) ?_
        have hi3 := q_gd_in hf
        have hf := q_gd_go hf
        refine va_iald hx hb hE.1 hP 6 0 rfl rfl hi3 dX2_spread_36 ?_
        refine va_mabs hx hb (hml.trans hl.1.symm) hown (hts (.methodLink RX2 169 Lib.Math.abs.name) (List.mem_of_getElem? (i := 4) rfl)) (hts (.static Lib.Math.abs.name) (List.mem_of_getElem? (i := 5) rfl)) (hts (.initialized "java/lang/Math") (List.mem_of_getElem? (i := 6) rfl)) (hts (.code Lib.Math.abs.name Lib.Math.abs.code 1 (some .int)) (List.mem_of_getElem? (i := 7) rfl)) (Nat.le_of_ble_eq_true rfl) (Nat.le_of_ble_eq_true rfl) (Nat.zero_le _) (Nat.zero_le _) dX2_spread_37 ?_
        refine lv_iadd hx hb dX2_spread_40 ?_
        obtain ⟨v4, ev4, hf⟩ := q_let_go hf
        refine q_nmi ev4 ?_
        refine lv_istore_n (lv' := [(1, .int v4), (0, .ref (A 3 0)), (2, .int l2)]) hx hb dX2_spread_41 rfl hl (by decide) rfl (fun ls hl => ?_)
        obtain ⟨v5, ev5, hf⟩ := q_let_go hf
        refine lv_iinc (v := v5) (lv' := [(2, .int v5), (1, .int v4), (0, .ref (A 3 0))]) hx hb dX2_spread_42 hl (k := 2) rfl (by rw [← ev5]; rfl) (by decide) rfl (fun ls hl => ?_)
        refine lv_goto (tgt := 16) hx hb dX2_spread_45 (by decide) ?_
        exact ih v4 v5 _ (lv_sub hl [2, 1, 0] rfl) hf
  have hl := lv_entry ([.ref (A 3 0)]) (n := 3) (Nat.le_of_ble_eq_true rfl)
  rw [lg_entry_eq]
  generalize (lg_sl ([.ref (A 3 0)]) ++ List.replicate (3 - (lg_sl ([.ref (A 3 0)])).length) Slot.unset).toArray = ls at hl ⊢
  have hl : lv_has ls 3 [(0, .ref (A 3 0))] := hl
  unfold f_X2_spread at hf
  refine lv_aload_n hx hb dX2_spread_0 rfl (lv_at hl 0 rfl) ?_
  refine va_get (D := D) (ci := 2) (v := .ref (A 0 0)) (C := RX2) (T := TX2) (N := 5) hx hb hu2 (fun _ h => h) hown hE.1 hP 0 rfl rfl 0 (Nat.le_of_ble_eq_true rfl) (hts (.fieldLink RX2 12 "CoverMeter" "now" "LCoverMeter$State;") (List.mem_of_getElem? (i := 1) rfl)) (fun _ h9 => h9) rfl dX2_spread_1 ?_
  refine va_get (D := D) (ci := 1) (v := .int (ST_persons (CM_now S))) (C := RX1) (T := TX1) (N := 15) hx hb hu1 (fun _ h => h) hown hE.1 hP 1 rfl rfl 2 (Nat.le_of_ble_eq_true rfl) (hts (.fieldLink RX2 56 "CoverMeter$State" "persons" "I") (List.mem_of_getElem? (i := 2) rfl)) (fun _ h9 => h9) rfl dX2_spread_4 ?_
  refine lv_if_ne (tgt := 12) hx hb dX2_spread_7 (by decide) (fun c1 => ?_) (fun c1 => ?_)
  · have hf := q_ite_t c1 hf
    refine lv_iconst (v := 0) hx hb dX2_spread_12 (by decide) ?_
    refine lv_istore_n (lv' := [(1, .int 0), (0, .ref (A 3 0))]) hx hb dX2_spread_13 rfl hl (by decide) rfl (fun ls hl => ?_)
    refine lv_iconst (v := 0) hx hb dX2_spread_14 (by decide) ?_
    refine lv_istore_n (lv' := [(2, .int 0), (1, .int 0), (0, .ref (A 3 0))]) hx hb dX2_spread_15 rfl hl (by decide) rfl (fun ls hl => ?_)
    exact L_16 2000 0 0 _ (lv_sub hl [2, 1, 0] rfl) hf
  · have hf := q_ite_n c1 hf
    refine lv_dconst0 hx hb dX2_spread_10 ?_
    have ho := q_some hf
    subst ho
    refine W.widen (k := 0) (n := 0) (Nat.le_of_ble_eq_true rfl) (Nat.le_of_ble_eq_true rfl) ?_
    exact W.dret hx hb hr (fun t ht hW => ⟨rfl, ht⟩) t_nil dX2_spread_11
def f_X2_append_24 (S : CM) (l1 : Int32) (t0 : Int32) : Option (String ⊕ (Int32 × CM)) := (f_X2_needAllowed t0).bind fun r3 =>
 q_exc r3 fun _ =>
 if q_in (OR_length (CM_or S)) 100 = true then
 (q_let (sCM_or S (sOR_text (CM_or S) (upd (OR_text (CM_or S)) ((OR_length (CM_or S)) : Int32).toNatClampNeg l1))) fun S5 =>
 q_let (sCM_or S5 (sOR_length (CM_or S5) ((OR_length (CM_or S5)) + 1))) fun S6 =>
 some (.inr ((OR_length (CM_or S6)), S6))) else none
def f_X2_append (S : CM) (p1 : Int32) : Option (String ⊕ (Int32 × CM)) := (f_X2_needInRange p1 0 127).bind fun r1 =>
 q_exc r1 fun _ =>
 if 100 ≤ (OR_length (CM_or S)) then
 (f_X2_append_24 S p1 0)
 else (f_X2_append_24 S p1 1)
abbrev rX2_append : Room := { frames := 7, cells := 2, slots := 12, locals := 112 }
set_option maxRecDepth 100000 in
set_option maxHeartbeats 4000000 in
theorem c_X2_append (l : Launch) (hlt : l.stackTraces = false) (D : va_G) (cI cJ cS : ClassId) (sa : Nat → Nat) (A : Nat → Nat → Nat) (g : Nat → Option Nat) (B : Nat → Nat → Nat) (hg : ∀ i, i < 4 → g i = some (B i 0)) (S : CM) (sz : Nat) (p1 : Int32) (o : (String ⊕ (Int32 × CM))) (hf : f_X2_append S p1 = some o) : vx_Met l yX2_append wsX2_append rX2_append (va_Pc [.ref (A 3 0), .int p1] (q_BWX D cI cJ cS sa (wCM cI cJ cS A g B S) sz)) (q_XW (fun r => some (.int r)) o D cI cJ cS A (wCM cI cJ cS A g B S) sz) (q_XC o) 2 12 (va_A (wCM cI cJ cS A g B S) sz) := by
  refine vx_ofW (cc := cX2_append) (maxL := 2) (ret := some .int) (by decide) rfl ?_
  intro p e s m args below meth c s₁ B9 hml htab hv
  obtain ⟨rfl, hsz, hP, hE, hD0, hES, hZ⟩ := hv
  have hx := B9.exec
  have hb := B9.bytes
  have hr := B9.returns
  have hts := atoms_spec (ws := wsX2_append) B9.pre
  have hown : s.vm.findClass RX2 = some m.cls := findClass_of_methodNamed B9.named
  have hlocks := B9.notSynchronized
  have hu0 : ∀ z ∈ wsX00, z.before _ s = true := fun z h => hts z (List.mem_cons_of_mem _ (List.mem_append_left _ (List.mem_append_left _ (List.mem_append_right _ h))))
  have hu2 : ∀ z ∈ wsX20, z.before _ s = true := fun z h => hts z (List.mem_cons_of_mem _ (List.mem_append_left _ (List.mem_append_left _ (List.mem_append_left _ (List.mem_append_right _ h)))))
  subst hsz
  have hD := hD0.self (sz := s.heap.size)
  have hS : va_S (va_A (wCM cI cJ cS A g B S) s.heap.size) s.heap s.heap [] := va_S.rf
  have B_24 : ∀ (l1 : Int32) (t0 : Int32) (ls : Array Slot), lv_has ls 2 [(0, .ref (A 3 0)), (1, .int l1)] → f_X2_append_24 S l1 t0 = some o → W p l e (headSpec wsX2_append rX2_append).room s m (([.ref (A 3 0), .int p1] : List Value).toArray) below meth c s.heap [] 1 6 (vx_MQ below (q_XW (fun r => some (.int r)) o D cI cJ cS A (wCM cI cJ cS A g B S) s.heap.size) (q_XC o) (([.ref (A 3 0), .int p1] : List Value).toArray) s 2 12 (va_A (wCM cI cJ cS A g B S) s.heap.size)) (F0 m 24 ls [.int t0]) := by
    intro l1 t0 ls hl hf
    unfold f_X2_append_24 at hf
    obtain ⟨r3, hr3, hf⟩ := q_bd_go hf
    refine q_needS (As := [.int t0]) (rest := []) hx hb hml hown hts hlocks htab (c_X2_needAllowed l hlt D cI cJ cS sa t0 _ hr3) (va_cwS 1 hts gX2_append_X2_needAllowed rfl rfl rfl (by decide +kernel) ⟨(Nat.le_of_ble_eq_true rfl), (Nat.le_of_ble_eq_true rfl)⟩) hE hES hZ (fun q h => Or.inr h) rfl hl.1 rfl (Nat.le_of_ble_eq_true rfl) dX2_append_24 ⟨(Nat.le_of_ble_eq_true rfl), (Nat.le_of_ble_eq_true rfl)⟩ (fun E e => q_exc_l hf E e) (Nat.le_of_ble_eq_true rfl) (Nat.le_of_ble_eq_true rfl) (fun er3 => ?_)
    have hf := q_exc_r hf er3
    refine lv_aload_n hx hb dX2_append_27 rfl (lv_at hl 0 rfl) ?_
    refine va_get (D := D) (ci := 2) (v := .ref (A 2 0)) (C := RX2) (T := TX2) (N := 5) hx hb hu2 (fun _ h => h) hown hE.1 hP 0 rfl rfl 4 (Nat.le_of_ble_eq_true rfl) (hts (.fieldLink RX2 26 "CoverMeter" "orders" "LCoverMeter$Orders;") (List.mem_of_getElem? (i := 1) rfl)) (fun _ h9 => h9) rfl dX2_append_28 ?_
    refine va_get (D := D) (ci := 0) (v := .ref (A 2 1)) (C := RX0) (T := TX0) (N := 8) hx hb hu0 (fun _ h => h) hown hE.1 hP 80 rfl rfl 0 (Nat.le_of_ble_eq_true rfl) (hts (.fieldLink RX2 177 "CoverMeter$Orders" "text" "[I") (List.mem_of_getElem? (i := 3) rfl)) (fun _ h9 => h9) rfl dX2_append_31 ?_
    refine lv_aload_n hx hb dX2_append_34 rfl (lv_at hl 0 rfl) ?_
    refine va_get (D := D) (ci := 2) (v := .ref (A 2 0)) (C := RX2) (T := TX2) (N := 5) hx hb hu2 (fun _ h => h) hown hE.1 hP 0 rfl rfl 4 (Nat.le_of_ble_eq_true rfl) (hts (.fieldLink RX2 26 "CoverMeter" "orders" "LCoverMeter$Orders;") (List.mem_of_getElem? (i := 1) rfl)) (fun _ h9 => h9) rfl dX2_append_35 ?_
    refine va_get (D := D) (ci := 0) (v := .int (OR_length (CM_or S))) (C := RX0) (T := TX0) (N := 8) hx hb hu0 (fun _ h => h) hown hE.1 hP 80 rfl rfl 1 (Nat.le_of_ble_eq_true rfl) (hts (.fieldLink RX2 174 "CoverMeter$Orders" "length" "I") (List.mem_of_getElem? (i := 2) rfl)) (fun _ h9 => h9) rfl dX2_append_38 ?_
    refine lv_iload_n hx hb dX2_append_41 rfl (lv_at hl 1 rfl) ?_
    have hi4 := q_gd_in hf
    have hf := q_gd_go hf
    obtain ⟨S5, eS5, hf⟩ := q_let_go hf
    refine va_iast hx hb hE.1 hP hD hS 81 0 rfl rfl hi4 dX2_append_42 (fun H locs hP hD hS => ?_)
    have hP : va_P D vwCl (wCM cI cJ cS A g B (sCM_or S (sOR_text (CM_or S) (upd (OR_text (CM_or S)) ((OR_length (CM_or S)) : Int32).toNatClampNeg l1)))) H := hP
    have hD : va_D (va_A (wCM cI cJ cS A g B S) s.heap.size) (wCM cI cJ cS A g B (sCM_or S (sOR_text (CM_or S) (upd (OR_text (CM_or S)) ((OR_length (CM_or S)) : Int32).toNatClampNeg l1)))) := hD
    rw [eS5] at hP hD
    refine lv_aload_n hx hb dX2_append_43 rfl (lv_at hl 0 rfl) ?_
    refine va_get (D := D) (ci := 2) (v := .ref (A 2 0)) (C := RX2) (T := TX2) (N := 5) hx hb hu2 (fun _ h => h) hown hE.1 hP 0 rfl rfl 4 (Nat.le_of_ble_eq_true rfl) (hts (.fieldLink RX2 26 "CoverMeter" "orders" "LCoverMeter$Orders;") (List.mem_of_getElem? (i := 1) rfl)) (fun _ h9 => h9) rfl dX2_append_44 ?_
    refine lv_dup hx hb dX2_append_47 rfl ?_
    refine va_get (D := D) (ci := 0) (v := .int (OR_length (CM_or S5))) (C := RX0) (T := TX0) (N := 8) hx hb hu0 (fun _ h => h) hown hE.1 hP 80 rfl rfl 1 (Nat.le_of_ble_eq_true rfl) (hts (.fieldLink RX2 174 "CoverMeter$Orders" "length" "I") (List.mem_of_getElem? (i := 2) rfl)) (fun _ h9 => h9) rfl dX2_append_48 ?_
    refine lv_iconst (v := 1) hx hb dX2_append_51 (by decide) ?_
    refine lv_iadd hx hb dX2_append_52 ?_
    obtain ⟨S6, eS6, hf⟩ := q_let_go hf
    refine va_put (D := D) (ci := 0) (v := .int ((OR_length (CM_or S5)) + 1)) (ty := .int) (C := RX0) (T := TX0) (N := 8) hx hb hu0 (fun _ h => h) tyX0 tyX0_ok nmX0 hown hE.1 hP hD hS 80 rfl rfl 1 (Nat.le_of_ble_eq_true rfl) (hts (.fieldLink RX2 174 "CoverMeter$Orders" "length" "I") (List.mem_of_getElem? (i := 2) rfl)) (fun _ h9 => h9) rfl (by decide +kernel) rfl rfl (Nat.le_of_ble_eq_true rfl) dX2_append_53 (fun H locs hP hD hS => ?_)
    have hP : va_P D vwCl (wCM cI cJ cS A g B (sCM_or S5 (sOR_length (CM_or S5) ((OR_length (CM_or S5)) + 1)))) H := hP
    have hD : va_D (va_A (wCM cI cJ cS A g B S) s.heap.size) (wCM cI cJ cS A g B (sCM_or S5 (sOR_length (CM_or S5) ((OR_length (CM_or S5)) + 1)))) := hD
    rw [eS6] at hP hD
    refine lv_aload_n hx hb dX2_append_56 rfl (lv_at hl 0 rfl) ?_
    refine va_get (D := D) (ci := 2) (v := .ref (A 2 0)) (C := RX2) (T := TX2) (N := 5) hx hb hu2 (fun _ h => h) hown hE.1 hP 0 rfl rfl 4 (Nat.le_of_ble_eq_true rfl) (hts (.fieldLink RX2 26 "CoverMeter" "orders" "LCoverMeter$Orders;") (List.mem_of_getElem? (i := 1) rfl)) (fun _ h9 => h9) rfl dX2_append_57 ?_
    refine va_get (D := D) (ci := 0) (v := .int (OR_length (CM_or S6))) (C := RX0) (T := TX0) (N := 8) hx hb hu0 (fun _ h => h) hown hE.1 hP 80 rfl rfl 1 (Nat.le_of_ble_eq_true rfl) (hts (.fieldLink RX2 174 "CoverMeter$Orders" "length" "I") (List.mem_of_getElem? (i := 2) rfl)) (fun _ h9 => h9) rfl dX2_append_60 ?_
    have ho := q_some hf
    refine vx_ret ?_
    refine W.widen (k := 2) (n := 12) (Nat.le_of_ble_eq_true rfl) (Nat.le_of_ble_eq_true rfl) ?_
    exact W.iret hx hb hr (fun t ht hW => ⟨_, ho.symm, rfl, ⟨_, ⟨g, B, hg, rfl⟩, by rw [ht]; exact hP, hD⟩, hS.F ht⟩) hS.2.2 dX2_append_63
  have hl := lv_entry ([.ref (A 3 0), .int p1]) (n := 2) (Nat.le_of_ble_eq_true rfl)
  rw [lg_entry_eq]
  generalize (lg_sl ([.ref (A 3 0), .int p1]) ++ List.replicate (2 - (lg_sl ([.ref (A 3 0), .int p1])).length) Slot.unset).toArray = ls at hl ⊢
  have hl : lv_has ls 2 [(0, .ref (A 3 0)), (1, .int p1)] := hl
  unfold f_X2_append at hf
  refine lv_iload_n hx hb dX2_append_0 rfl (lv_at hl 1 rfl) ?_
  refine lv_iconst (v := 0) hx hb dX2_append_1 (by decide) ?_
  refine lv_bipush (v := 127) hx hb dX2_append_2 (by decide) ?_
  obtain ⟨r1, hr1, hf⟩ := q_bd_go hf
  refine q_needS (As := [.int p1, .int 0, .int 127]) (rest := []) hx hb hml hown hts hlocks htab (c_X2_needInRange l hlt D cI cJ cS sa p1 0 127 _ hr1) (va_cwS 3 hts gX2_append_X2_needInRange rfl rfl rfl (by decide +kernel) ⟨(Nat.le_of_ble_eq_true rfl), (Nat.le_of_ble_eq_true rfl)⟩) hE hES hZ (fun q h => Or.inr h) rfl hl.1 rfl (Nat.le_of_ble_eq_true rfl) dX2_append_4 ⟨(Nat.le_of_ble_eq_true rfl), (Nat.le_of_ble_eq_true rfl)⟩ (fun E e => q_exc_l hf E e) (Nat.le_of_ble_eq_true rfl) (Nat.le_of_ble_eq_true rfl) (fun er1 => ?_)
  have hf := q_exc_r hf er1
  refine lv_aload_n hx hb dX2_append_7 rfl (lv_at hl 0 rfl) ?_
  refine va_get (D := D) (ci := 2) (v := .ref (A 2 0)) (C := RX2) (T := TX2) (N := 5) hx hb hu2 (fun _ h => h) hown hE.1 hP 0 rfl rfl 4 (Nat.le_of_ble_eq_true rfl) (hts (.fieldLink RX2 26 "CoverMeter" "orders" "LCoverMeter$Orders;") (List.mem_of_getElem? (i := 1) rfl)) (fun _ h9 => h9) rfl dX2_append_8 ?_
  refine va_get (D := D) (ci := 0) (v := .int (OR_length (CM_or S))) (C := RX0) (T := TX0) (N := 8) hx hb hu0 (fun _ h => h) hown hE.1 hP 80 rfl rfl 1 (Nat.le_of_ble_eq_true rfl) (hts (.fieldLink RX2 174 "CoverMeter$Orders" "length" "I") (List.mem_of_getElem? (i := 2) rfl)) (fun _ h9 => h9) rfl dX2_append_11 ?_
  refine lv_bipush (v := 100) hx hb dX2_append_14 (by decide) ?_
  refine lv_icmp_ge (tgt := 23) hx hb dX2_append_16 (by decide) (fun c2 => ?_) (fun c2 => ?_)
  · have hf := q_ite_t c2 hf
    refine lv_iconst (v := 0) hx hb dX2_append_23 (by decide) ?_
    exact B_24 p1 0 _ (lv_sub hl [0, 1] rfl) hf
  · have hf := q_ite_f c2 hf
    refine lv_iconst (v := 1) hx hb dX2_append_19 (by decide) ?_
    refine lv_goto (tgt := 24) hx hb dX2_append_20 (by decide) ?_
    exact B_24 p1 1 _ (lv_sub hl [0, 1] rfl) hf
def f_X2_clearText (S : CM) : Option (Int32 × CM) := q_let ((OR_length (CM_or S))) fun v1 =>
 q_let (sCM_or S (sOR_length (CM_or S) 0)) fun S2 =>
 some (v1, S2)
abbrev rX2_clearText : Room := { frames := 0, cells := 0, slots := 0, locals := 0 }
set_option maxRecDepth 100000 in
set_option maxHeartbeats 4000000 in
theorem c_X2_clearText (l : Launch) (hlt : l.stackTraces = false) (D : va_G) (cI cJ cS : ClassId) (sa : Nat → Nat) (A : Nat → Nat → Nat) (g : Nat → Option Nat) (B : Nat → Nat → Nat) (hg : ∀ i, i < 4 → g i = some (B i 0)) (S : CM) (sz : Nat) (o : (Int32 × CM)) (hf : f_X2_clearText S = some o) : Met l yX2_clearText wsX2_clearText rX2_clearText (va_Pc [.ref (A 3 0)] (q_BWX D cI cJ cS sa (wCM cI cJ cS A g B S) sz)) (q_WE (some (.int o.1)) D cI cJ cS A o.2 (wCM cI cJ cS A g B S) sz) 0 0 (va_A (wCM cI cJ cS A g B S) sz) := by
  refine Met.ofW (cc := cX2_clearText) (maxL := 2) (ret := some .int) (by decide) rfl ?_
  intro p e s m args below meth c s₁ B9 hml hv
  obtain ⟨rfl, hsz, hP, hE, hD0, hES, hZ⟩ := hv
  have hx := B9.exec
  have hb := B9.bytes
  have hr := B9.returns
  have hts := atoms_spec (ws := wsX2_clearText) B9.pre
  have hown : s.vm.findClass RX2 = some m.cls := findClass_of_methodNamed B9.named
  have hlocks := B9.notSynchronized
  have hu0 : ∀ z ∈ wsX00, z.before _ s = true := fun z h => hts z (List.mem_cons_of_mem _ (List.mem_append_right _ h))
  have hu2 : ∀ z ∈ wsX20, z.before _ s = true := fun z h => hts z (List.mem_cons_of_mem _ (List.mem_append_left _ (List.mem_append_right _ h)))
  subst hsz
  have hD := hD0.self (sz := s.heap.size)
  have hS : va_S (va_A (wCM cI cJ cS A g B S) s.heap.size) s.heap s.heap [] := va_S.rf
  have hl := lv_entry ([.ref (A 3 0)]) (n := 2) (Nat.le_of_ble_eq_true rfl)
  rw [lg_entry_eq]
  generalize (lg_sl ([.ref (A 3 0)]) ++ List.replicate (2 - (lg_sl ([.ref (A 3 0)])).length) Slot.unset).toArray = ls at hl ⊢
  have hl : lv_has ls 2 [(0, .ref (A 3 0))] := hl
  unfold f_X2_clearText at hf
  refine lv_aload_n hx hb dX2_clearText_0 rfl (lv_at hl 0 rfl) ?_
  refine va_get (D := D) (ci := 2) (v := .ref (A 2 0)) (C := RX2) (T := TX2) (N := 5) hx hb hu2 (fun _ h => h) hown hE.1 hP 0 rfl rfl 4 (Nat.le_of_ble_eq_true rfl) (hts (.fieldLink RX2 26 "CoverMeter" "orders" "LCoverMeter$Orders;") (List.mem_of_getElem? (i := 1) rfl)) (fun _ h9 => h9) rfl dX2_clearText_1 ?_
  refine va_get (D := D) (ci := 0) (v := .int (OR_length (CM_or S))) (C := RX0) (T := TX0) (N := 8) hx hb hu0 (fun _ h => h) hown hE.1 hP 80 rfl rfl 1 (Nat.le_of_ble_eq_true rfl) (hts (.fieldLink RX2 174 "CoverMeter$Orders" "length" "I") (List.mem_of_getElem? (i := 2) rfl)) (fun _ h9 => h9) rfl dX2_clearText_4 ?_
  obtain ⟨v1, ev1, hf⟩ := q_let_go hf
  refine q_nmi ev1 ?_
  refine lv_istore_n (lv' := [(1, .int v1), (0, .ref (A 3 0))]) hx hb dX2_clearText_7 rfl hl (by decide) rfl (fun ls hl => ?_)
  refine lv_aload_n hx hb dX2_clearText_8 rfl (lv_at hl 1 rfl) ?_
  refine va_get (D := D) (ci := 2) (v := .ref (A 2 0)) (C := RX2) (T := TX2) (N := 5) hx hb hu2 (fun _ h => h) hown hE.1 hP 0 rfl rfl 4 (Nat.le_of_ble_eq_true rfl) (hts (.fieldLink RX2 26 "CoverMeter" "orders" "LCoverMeter$Orders;") (List.mem_of_getElem? (i := 1) rfl)) (fun _ h9 => h9) rfl dX2_clearText_9 ?_
  refine lv_iconst (v := 0) hx hb dX2_clearText_12 (by decide) ?_
  obtain ⟨S2, eS2, hf⟩ := q_let_go hf
  refine va_put (D := D) (ci := 0) (v := .int 0) (ty := .int) (C := RX0) (T := TX0) (N := 8) hx hb hu0 (fun _ h => h) tyX0 tyX0_ok nmX0 hown hE.1 hP hD hS 80 rfl rfl 1 (Nat.le_of_ble_eq_true rfl) (hts (.fieldLink RX2 174 "CoverMeter$Orders" "length" "I") (List.mem_of_getElem? (i := 2) rfl)) (fun _ h9 => h9) rfl (by decide +kernel) rfl rfl (Nat.le_of_ble_eq_true rfl) dX2_clearText_13 (fun H locs hP hD hS => ?_)
  have hP : va_P D vwCl (wCM cI cJ cS A g B (sCM_or S (sOR_length (CM_or S) 0))) H := hP
  have hD : va_D (va_A (wCM cI cJ cS A g B S) s.heap.size) (wCM cI cJ cS A g B (sCM_or S (sOR_length (CM_or S) 0))) := hD
  rw [eS2] at hP hD
  refine lv_iload_n hx hb dX2_clearText_16 rfl (lv_at hl 0 rfl) ?_
  have ho := q_some hf
  subst ho
  refine W.widen (k := 0) (n := 0) (Nat.le_of_ble_eq_true rfl) (Nat.le_of_ble_eq_true rfl) ?_
  exact W.iret hx hb hr (fun t ht hW => ⟨rfl, ⟨_, ⟨g, B, hg, rfl⟩, by rw [ht]; exact hP, hD⟩, hS.F ht⟩) hS.2.2 dX2_clearText_17
def f_X2_obeyAbsent (S : CM) (p1 : Int32) (p2 : Int32) : Option (Int32 × CM) := (f_X1_hasPerson (CM_now S) p1).bind fun r1 =>
 if r1 = 0 then
 (some (0, S))
 else ((f_X1_canBeAbsent (CM_now S) p1 p2).bind fun r3 =>
 if ¬ r3 = 0 then
 ((f_X1_enterAbsence (CM_now S) p1 p2).bind fun r5 =>
 q_let (sCM_now S r5.2) fun S6 =>
 some (1, S6))
 else (some (0, S)))
abbrev rX2_obeyAbsent : Room := { frames := 3, cells := 0, slots := 0, locals := 66 }
set_option maxRecDepth 100000 in
set_option maxHeartbeats 4000000 in
theorem c_X2_obeyAbsent (l : Launch) (hlt : l.stackTraces = false) (D : va_G) (cI cJ cS : ClassId) (sa : Nat → Nat) (A : Nat → Nat → Nat) (g : Nat → Option Nat) (B : Nat → Nat → Nat) (hg : ∀ i, i < 4 → g i = some (B i 0)) (S : CM) (sz : Nat) (p1 : Int32) (p2 : Int32) (o : (Int32 × CM)) (hf : f_X2_obeyAbsent S p1 p2 = some o) : Met l yX2_obeyAbsent wsX2_obeyAbsent rX2_obeyAbsent (va_Pc [.ref (A 3 0), .int p1, .int p2] (q_BWX D cI cJ cS sa (wCM cI cJ cS A g B S) sz)) (q_WE (some (.int o.1)) D cI cJ cS A o.2 (wCM cI cJ cS A g B S) sz) 0 0 (va_A (wCM cI cJ cS A g B S) sz) := by
  refine Met.ofW (cc := cX2_obeyAbsent) (maxL := 3) (ret := some .boolean) (by decide) rfl ?_
  intro p e s m args below meth c s₁ B9 hml hv
  obtain ⟨rfl, hsz, hP, hE, hD0, hES, hZ⟩ := hv
  have hx := B9.exec
  have hb := B9.bytes
  have hr := B9.returns
  have hts := atoms_spec (ws := wsX2_obeyAbsent) B9.pre
  have hown : s.vm.findClass RX2 = some m.cls := findClass_of_methodNamed B9.named
  have hlocks := B9.notSynchronized
  have hu1 : ∀ z ∈ wsX10, z.before _ s = true := fun z h => hts z (List.mem_cons_of_mem _ (List.mem_append_right _ h))
  have hu2 : ∀ z ∈ wsX20, z.before _ s = true := fun z h => hts z (List.mem_cons_of_mem _ (List.mem_append_left _ (List.mem_append_right _ h)))
  subst hsz
  have hD := hD0.self (sz := s.heap.size)
  have hS : va_S (va_A (wCM cI cJ cS A g B S) s.heap.size) s.heap s.heap [] := va_S.rf
  have hl := lv_entry ([.ref (A 3 0), .int p1, .int p2]) (n := 3) (Nat.le_of_ble_eq_true rfl)
  rw [lg_entry_eq]
  generalize (lg_sl ([.ref (A 3 0), .int p1, .int p2]) ++ List.replicate (3 - (lg_sl ([.ref (A 3 0), .int p1, .int p2])).length) Slot.unset).toArray = ls at hl ⊢
  have hl : lv_has ls 3 [(0, .ref (A 3 0)), (1, .int p1), (2, .int p2)] := hl
  unfold f_X2_obeyAbsent at hf
  refine lv_aload_n hx hb dX2_obeyAbsent_0 rfl (lv_at hl 0 rfl) ?_
  refine va_get (D := D) (ci := 2) (v := .ref (A 0 0)) (C := RX2) (T := TX2) (N := 5) hx hb hu2 (fun _ h => h) hown hE.1 hP 0 rfl rfl 0 (Nat.le_of_ble_eq_true rfl) (hts (.fieldLink RX2 12 "CoverMeter" "now" "LCoverMeter$State;") (List.mem_of_getElem? (i := 1) rfl)) (fun _ h9 => h9) rfl dX2_obeyAbsent_1 ?_
  refine lv_iload_n hx hb dX2_obeyAbsent_4 rfl (lv_at hl 1 rfl) ?_
  obtain ⟨r1, hr1, hf⟩ := q_bd_go hf
  refine q_rdVi (w := (wST cI cJ (A 0) (CM_now S))) (ci := 1) (As := [.int p1]) (rest := []) hx hb hml hown hts (c_X1_hasPerson l D cI cJ cS (A 0) (CM_now S) p1 _ hr1) (cwV 1 hts gX2_obeyAbsent_X1_hasPerson rfl rfl rfl (by decide +kernel) ⟨(Nat.le_of_ble_eq_true rfl), (Nat.le_of_ble_eq_true rfl)⟩) hE (qp_now hP) rfl rfl rfl hl.1 rfl (Nat.le_of_ble_eq_true rfl) dX2_obeyAbsent_5 ⟨(Nat.le_of_ble_eq_true rfl), (Nat.le_of_ble_eq_true rfl)⟩ ?_
  refine lv_if_eq (tgt := 23) hx hb dX2_obeyAbsent_8 (by decide) (fun c2 => ?_) (fun c2 => ?_)
  · have hf := q_ite_t c2 hf
    refine lv_iconst (v := 0) hx hb dX2_obeyAbsent_23 (by decide) ?_
    have ho := q_some hf
    subst ho
    refine W.widen (k := 0) (n := 0) (Nat.le_of_ble_eq_true rfl) (Nat.le_of_ble_eq_true rfl) ?_
    exact W.zret hx hb hr rfl (fun t ht hW => ⟨rfl, ⟨_, ⟨g, B, hg, rfl⟩, by rw [ht]; exact hP, hD⟩, hS.F ht⟩) t_nil dX2_obeyAbsent_24
  · have hf := q_ite_f c2 hf
    refine lv_aload_n hx hb dX2_obeyAbsent_11 rfl (lv_at hl 0 rfl) ?_
    refine va_get (D := D) (ci := 2) (v := .ref (A 0 0)) (C := RX2) (T := TX2) (N := 5) hx hb hu2 (fun _ h => h) hown hE.1 hP 0 rfl rfl 0 (Nat.le_of_ble_eq_true rfl) (hts (.fieldLink RX2 12 "CoverMeter" "now" "LCoverMeter$State;") (List.mem_of_getElem? (i := 1) rfl)) (fun _ h9 => h9) rfl dX2_obeyAbsent_12 ?_
    refine lv_iload_n hx hb dX2_obeyAbsent_15 rfl (lv_at hl 1 rfl) ?_
    refine lv_iload_n hx hb dX2_obeyAbsent_16 rfl (lv_at hl 2 rfl) ?_
    obtain ⟨r3, hr3, hf⟩ := q_bd_go hf
    refine q_rdVi (w := (wST cI cJ (A 0) (CM_now S))) (ci := 1) (As := [.int p1, .int p2]) (rest := []) hx hb hml hown hts (c_X1_canBeAbsent l D cI cJ cS (A 0) (CM_now S) p1 p2 _ hr3) (cwV 2 hts gX2_obeyAbsent_X1_canBeAbsent rfl rfl rfl (by decide +kernel) ⟨(Nat.le_of_ble_eq_true rfl), (Nat.le_of_ble_eq_true rfl)⟩) hE (qp_now hP) rfl rfl rfl hl.1 rfl (Nat.le_of_ble_eq_true rfl) dX2_obeyAbsent_17 ⟨(Nat.le_of_ble_eq_true rfl), (Nat.le_of_ble_eq_true rfl)⟩ ?_
    refine lv_if_ne (tgt := 25) hx hb dX2_obeyAbsent_20 (by decide) (fun c4 => ?_) (fun c4 => ?_)
    · have hf := q_ite_t c4 hf
      refine lv_aload_n hx hb dX2_obeyAbsent_25 rfl (lv_at hl 0 rfl) ?_
      refine va_get (D := D) (ci := 2) (v := .ref (A 0 0)) (C := RX2) (T := TX2) (N := 5) hx hb hu2 (fun _ h => h) hown hE.1 hP 0 rfl rfl 0 (Nat.le_of_ble_eq_true rfl) (hts (.fieldLink RX2 12 "CoverMeter" "now" "LCoverMeter$State;") (List.mem_of_getElem? (i := 1) rfl)) (fun _ h9 => h9) rfl dX2_obeyAbsent_26 ?_
      refine lv_iload_n hx hb dX2_obeyAbsent_29 rfl (lv_at hl 1 rfl) ?_
      refine lv_iload_n hx hb dX2_obeyAbsent_30 rfl (lv_at hl 2 rfl) ?_
      obtain ⟨r5, hr5, hf⟩ := q_bd_go hf
      obtain ⟨S6, eS6, hf⟩ := q_let_go hf
      refine q_wrC (v := (some (.int r5.1))) (w := wST cI cJ (A 0) (CM_now S)) (ci := 1) (As := [.int p1, .int p2]) (rest := []) hx hb hml hown hts (c_X1_enterAbsence l D cI cJ cS (A 0) (CM_now S) _ p1 p2 _ hr5) (cwV 2 hts gX2_obeyAbsent_X1_enterAbsence rfl rfl rfl (by decide +kernel) ⟨(Nat.le_of_ble_eq_true rfl), (Nat.le_of_ble_eq_true rfl)⟩) hE (qp_now hP) (qd_now hD) hS (fun q h => Or.inr h) (fun H1 hF hk h1 h2 => qs_now (z := r5.2) hP hD hF hk h1 h2) rfl rfl rfl hl.1 rfl (Nat.le_of_ble_eq_true rfl) dX2_obeyAbsent_31 ⟨(Nat.le_of_ble_eq_true rfl), (Nat.le_of_ble_eq_true rfl)⟩ (fun H locs hP hD hS => ?_)
      rw [eS6] at hP hD
      refine lv_pop hx hb dX2_obeyAbsent_34 rfl ?_
      refine lv_iconst (v := 1) hx hb dX2_obeyAbsent_35 (by decide) ?_
      have ho := q_some hf
      subst ho
      refine W.widen (k := 0) (n := 0) (Nat.le_of_ble_eq_true rfl) (Nat.le_of_ble_eq_true rfl) ?_
      exact W.zret hx hb hr rfl (fun t ht hW => ⟨rfl, ⟨_, ⟨g, B, hg, rfl⟩, by rw [ht]; exact hP, hD⟩, hS.F ht⟩) hS.2.2 dX2_obeyAbsent_36
    · have hf := q_ite_n c4 hf
      refine lv_iconst (v := 0) hx hb dX2_obeyAbsent_23 (by decide) ?_
      have ho := q_some hf
      subst ho
      refine W.widen (k := 0) (n := 0) (Nat.le_of_ble_eq_true rfl) (Nat.le_of_ble_eq_true rfl) ?_
      exact W.zret hx hb hr rfl (fun t ht hW => ⟨rfl, ⟨_, ⟨g, B, hg, rfl⟩, by rw [ht]; exact hP, hD⟩, hS.F ht⟩) t_nil dX2_obeyAbsent_24
def f_X2_obeyBid (S : CM) (p1 : Int32) (p2 : Int32) (p3 : Int32) : Option (Int32 × CM) := (f_X1_hasPerson (CM_now S) p1).bind fun r1 =>
 if r1 = 0 then
 (some (0, S))
 else ((f_X1_hasAbsence (CM_now S) p2).bind fun r3 =>
 if ¬ r3 = 0 then
 (if q_in 2 3 = true then
 (if (ST_settings (CM_now S) (2 : Int32).toNatClampNeg) < p3 then
 (some (0, S))
 else ((f_X1_canBid (CM_now S) p1 p2).bind fun r7 =>
 if ¬ r7 = 0 then
 ((f_X2_bidIndex p1 p2).bind fun r9 =>
 if q_in r9 240 = true then
 (q_let (sCM_now S (sST_bids (CM_now S) (upd (ST_bids (CM_now S)) (r9 : Int32).toNatClampNeg p3))) fun S11 =>
 some (1, S11)) else none)
 else (some (0, S)))) else none)
 else (some (0, S)))
abbrev rX2_obeyBid : Room := { frames := 1, cells := 0, slots := 0, locals := 22 }
set_option maxRecDepth 100000 in
set_option maxHeartbeats 4000000 in
theorem c_X2_obeyBid (l : Launch) (hlt : l.stackTraces = false) (D : va_G) (cI cJ cS : ClassId) (sa : Nat → Nat) (A : Nat → Nat → Nat) (g : Nat → Option Nat) (B : Nat → Nat → Nat) (hg : ∀ i, i < 4 → g i = some (B i 0)) (S : CM) (sz : Nat) (p1 : Int32) (p2 : Int32) (p3 : Int32) (o : (Int32 × CM)) (hf : f_X2_obeyBid S p1 p2 p3 = some o) : Met l yX2_obeyBid wsX2_obeyBid rX2_obeyBid (va_Pc [.ref (A 3 0), .int p1, .int p2, .int p3] (q_BWX D cI cJ cS sa (wCM cI cJ cS A g B S) sz)) (q_WE (some (.int o.1)) D cI cJ cS A o.2 (wCM cI cJ cS A g B S) sz) 0 0 (va_A (wCM cI cJ cS A g B S) sz) := by
  refine Met.ofW (cc := cX2_obeyBid) (maxL := 4) (ret := some .boolean) (by decide) rfl ?_
  intro p e s m args below meth c s₁ B9 hml hv
  obtain ⟨rfl, hsz, hP, hE, hD0, hES, hZ⟩ := hv
  have hx := B9.exec
  have hb := B9.bytes
  have hr := B9.returns
  have hts := atoms_spec (ws := wsX2_obeyBid) B9.pre
  have hown : s.vm.findClass RX2 = some m.cls := findClass_of_methodNamed B9.named
  have hlocks := B9.notSynchronized
  have hu1 : ∀ z ∈ wsX10, z.before _ s = true := fun z h => hts z (List.mem_cons_of_mem _ (List.mem_append_right _ h))
  have hu2 : ∀ z ∈ wsX20, z.before _ s = true := fun z h => hts z (List.mem_cons_of_mem _ (List.mem_append_left _ (List.mem_append_right _ h)))
  subst hsz
  have hD := hD0.self (sz := s.heap.size)
  have hS : va_S (va_A (wCM cI cJ cS A g B S) s.heap.size) s.heap s.heap [] := va_S.rf
  have hl := lv_entry ([.ref (A 3 0), .int p1, .int p2, .int p3]) (n := 4) (Nat.le_of_ble_eq_true rfl)
  rw [lg_entry_eq]
  generalize (lg_sl ([.ref (A 3 0), .int p1, .int p2, .int p3]) ++ List.replicate (4 - (lg_sl ([.ref (A 3 0), .int p1, .int p2, .int p3])).length) Slot.unset).toArray = ls at hl ⊢
  have hl : lv_has ls 4 [(0, .ref (A 3 0)), (1, .int p1), (2, .int p2), (3, .int p3)] := hl
  unfold f_X2_obeyBid at hf
  refine lv_aload_n hx hb dX2_obeyBid_0 rfl (lv_at hl 0 rfl) ?_
  refine va_get (D := D) (ci := 2) (v := .ref (A 0 0)) (C := RX2) (T := TX2) (N := 5) hx hb hu2 (fun _ h => h) hown hE.1 hP 0 rfl rfl 0 (Nat.le_of_ble_eq_true rfl) (hts (.fieldLink RX2 12 "CoverMeter" "now" "LCoverMeter$State;") (List.mem_of_getElem? (i := 1) rfl)) (fun _ h9 => h9) rfl dX2_obeyBid_1 ?_
  refine lv_iload_n hx hb dX2_obeyBid_4 rfl (lv_at hl 1 rfl) ?_
  obtain ⟨r1, hr1, hf⟩ := q_bd_go hf
  refine q_rdVi (w := (wST cI cJ (A 0) (CM_now S))) (ci := 1) (As := [.int p1]) (rest := []) hx hb hml hown hts (c_X1_hasPerson l D cI cJ cS (A 0) (CM_now S) p1 _ hr1) (cwV 1 hts gX2_obeyBid_X1_hasPerson rfl rfl rfl (by decide +kernel) ⟨(Nat.le_of_ble_eq_true rfl), (Nat.le_of_ble_eq_true rfl)⟩) hE (qp_now hP) rfl rfl rfl hl.1 rfl (Nat.le_of_ble_eq_true rfl) dX2_obeyBid_5 ⟨(Nat.le_of_ble_eq_true rfl), (Nat.le_of_ble_eq_true rfl)⟩ ?_
  refine lv_if_eq (tgt := 22) hx hb dX2_obeyBid_8 (by decide) (fun c2 => ?_) (fun c2 => ?_)
  · have hf := q_ite_t c2 hf
    refine lv_iconst (v := 0) hx hb dX2_obeyBid_22 (by decide) ?_
    have ho := q_some hf
    subst ho
    refine W.widen (k := 0) (n := 0) (Nat.le_of_ble_eq_true rfl) (Nat.le_of_ble_eq_true rfl) ?_
    exact W.zret hx hb hr rfl (fun t ht hW => ⟨rfl, ⟨_, ⟨g, B, hg, rfl⟩, by rw [ht]; exact hP, hD⟩, hS.F ht⟩) t_nil dX2_obeyBid_23
  · have hf := q_ite_f c2 hf
    refine lv_aload_n hx hb dX2_obeyBid_11 rfl (lv_at hl 0 rfl) ?_
    refine va_get (D := D) (ci := 2) (v := .ref (A 0 0)) (C := RX2) (T := TX2) (N := 5) hx hb hu2 (fun _ h => h) hown hE.1 hP 0 rfl rfl 0 (Nat.le_of_ble_eq_true rfl) (hts (.fieldLink RX2 12 "CoverMeter" "now" "LCoverMeter$State;") (List.mem_of_getElem? (i := 1) rfl)) (fun _ h9 => h9) rfl dX2_obeyBid_12 ?_
    refine lv_iload_n hx hb dX2_obeyBid_15 rfl (lv_at hl 2 rfl) ?_
    obtain ⟨r3, hr3, hf⟩ := q_bd_go hf
    refine q_rdVi (w := (wST cI cJ (A 0) (CM_now S))) (ci := 1) (As := [.int p2]) (rest := []) hx hb hml hown hts (c_X1_hasAbsence l D cI cJ cS (A 0) (CM_now S) p2 _ hr3) (cwV 1 hts gX2_obeyBid_X1_hasAbsence rfl rfl rfl (by decide +kernel) ⟨(Nat.le_of_ble_eq_true rfl), (Nat.le_of_ble_eq_true rfl)⟩) hE (qp_now hP) rfl rfl rfl hl.1 rfl (Nat.le_of_ble_eq_true rfl) dX2_obeyBid_16 ⟨(Nat.le_of_ble_eq_true rfl), (Nat.le_of_ble_eq_true rfl)⟩ ?_
    refine lv_if_ne (tgt := 24) hx hb dX2_obeyBid_19 (by decide) (fun c4 => ?_) (fun c4 => ?_)
    · have hf := q_ite_t c4 hf
      refine lv_iload_n hx hb dX2_obeyBid_24 rfl (lv_at hl 3 rfl) ?_
      refine lv_aload_n hx hb dX2_obeyBid_25 rfl (lv_at hl 0 rfl) ?_
      refine va_get (D := D) (ci := 2) (v := .ref (A 0 0)) (C := RX2) (T := TX2) (N := 5) hx hb hu2 (fun _ h => h) hown hE.1 hP 0 rfl rfl 0 (Nat.le_of_ble_eq_true rfl) (hts (.fieldLink RX2 12 "CoverMeter" "now" "LCoverMeter$State;") (List.mem_of_getElem? (i := 1) rfl)) (fun _ h9 => h9) rfl dX2_obeyBid_26 ?_
      refine va_get (D := D) (ci := 1) (v := .ref (A 0 1)) (C := RX1) (T := TX1) (N := 15) hx hb hu1 (fun _ h => h) hown hE.1 hP 2 rfl rfl 0 (Nat.le_of_ble_eq_true rfl) (hts (.fieldLink RX2 44 "CoverMeter$State" "settings" "[I") (List.mem_of_getElem? (i := 2) rfl)) (fun _ h9 => h9) rfl dX2_obeyBid_29 ?_
      refine lv_iconst (v := 2) hx hb dX2_obeyBid_32 (by decide) ?_
      have hi5 := q_gd_in hf
      have hf := q_gd_go hf
      refine va_iald hx hb hE.1 hP 3 0 rfl rfl hi5 dX2_obeyBid_33 ?_
      refine lv_icmp_gt (tgt := 49) hx hb dX2_obeyBid_34 (by decide) (fun c6 => ?_) (fun c6 => ?_)
      · have hf := q_ite_t c6 hf
        refine lv_iconst (v := 0) hx hb dX2_obeyBid_49 (by decide) ?_
        have ho := q_some hf
        subst ho
        refine W.widen (k := 0) (n := 0) (Nat.le_of_ble_eq_true rfl) (Nat.le_of_ble_eq_true rfl) ?_
        exact W.zret hx hb hr rfl (fun t ht hW => ⟨rfl, ⟨_, ⟨g, B, hg, rfl⟩, by rw [ht]; exact hP, hD⟩, hS.F ht⟩) t_nil dX2_obeyBid_50
      · have hf := q_ite_f c6 hf
        refine lv_aload_n hx hb dX2_obeyBid_37 rfl (lv_at hl 0 rfl) ?_
        refine va_get (D := D) (ci := 2) (v := .ref (A 0 0)) (C := RX2) (T := TX2) (N := 5) hx hb hu2 (fun _ h => h) hown hE.1 hP 0 rfl rfl 0 (Nat.le_of_ble_eq_true rfl) (hts (.fieldLink RX2 12 "CoverMeter" "now" "LCoverMeter$State;") (List.mem_of_getElem? (i := 1) rfl)) (fun _ h9 => h9) rfl dX2_obeyBid_38 ?_
        refine lv_iload_n hx hb dX2_obeyBid_41 rfl (lv_at hl 1 rfl) ?_
        refine lv_iload_n hx hb dX2_obeyBid_42 rfl (lv_at hl 2 rfl) ?_
        obtain ⟨r7, hr7, hf⟩ := q_bd_go hf
        refine q_rdVi (w := (wST cI cJ (A 0) (CM_now S))) (ci := 1) (As := [.int p1, .int p2]) (rest := []) hx hb hml hown hts (c_X1_canBid l D cI cJ cS (A 0) (CM_now S) p1 p2 _ hr7) (cwV 2 hts gX2_obeyBid_X1_canBid rfl rfl rfl (by decide +kernel) ⟨(Nat.le_of_ble_eq_true rfl), (Nat.le_of_ble_eq_true rfl)⟩) hE (qp_now hP) rfl rfl rfl hl.1 rfl (Nat.le_of_ble_eq_true rfl) dX2_obeyBid_43 ⟨(Nat.le_of_ble_eq_true rfl), (Nat.le_of_ble_eq_true rfl)⟩ ?_
        refine lv_if_ne (tgt := 51) hx hb dX2_obeyBid_46 (by decide) (fun c8 => ?_) (fun c8 => ?_)
        · have hf := q_ite_t c8 hf
          refine lv_aload_n hx hb dX2_obeyBid_51 rfl (lv_at hl 0 rfl) ?_
          refine va_get (D := D) (ci := 2) (v := .ref (A 0 0)) (C := RX2) (T := TX2) (N := 5) hx hb hu2 (fun _ h => h) hown hE.1 hP 0 rfl rfl 0 (Nat.le_of_ble_eq_true rfl) (hts (.fieldLink RX2 12 "CoverMeter" "now" "LCoverMeter$State;") (List.mem_of_getElem? (i := 1) rfl)) (fun _ h9 => h9) rfl dX2_obeyBid_52 ?_
          refine va_get (D := D) (ci := 1) (v := .ref (A 0 12)) (C := RX1) (T := TX1) (N := 15) hx hb hu1 (fun _ h => h) hown hE.1 hP 2 rfl rfl 14 (Nat.le_of_ble_eq_true rfl) (hts (.fieldLink RX2 99 "CoverMeter$State" "bids" "[I") (List.mem_of_getElem? (i := 3) rfl)) (fun _ h9 => h9) rfl dX2_obeyBid_55 ?_
          refine lv_iload_n hx hb dX2_obeyBid_58 rfl (lv_at hl 1 rfl) ?_
          refine lv_iload_n hx hb dX2_obeyBid_59 rfl (lv_at hl 2 rfl) ?_
          obtain ⟨r9, hr9, hf⟩ := q_bd_go hf
          refine q_rdSi (As := [.int p1, .int p2]) (rest := [.ref (A 0 12)]) hx hb hml hown hts (c_X2_bidIndex l D cI cJ cS p1 p2 _ hr9) (va_cwS 2 hts gX2_obeyBid_X2_bidIndex rfl rfl rfl (by decide +kernel) ⟨(Nat.le_of_ble_eq_true rfl), (Nat.le_of_ble_eq_true rfl)⟩) hE rfl hl.1 rfl (Nat.le_of_ble_eq_true rfl) dX2_obeyBid_60 ⟨(Nat.le_of_ble_eq_true rfl), (Nat.le_of_ble_eq_true rfl)⟩ ?_
          refine lv_iload_n hx hb dX2_obeyBid_63 rfl (lv_at hl 3 rfl) ?_
          have hi10 := q_gd_in hf
          have hf := q_gd_go hf
          obtain ⟨S11, eS11, hf⟩ := q_let_go hf
          refine va_iast hx hb hE.1 hP hD hS 14 0 rfl rfl hi10 dX2_obeyBid_64 (fun H locs hP hD hS => ?_)
          have hP : va_P D vwCl (wCM cI cJ cS A g B (sCM_now S (sST_bids (CM_now S) (upd (ST_bids (CM_now S)) (r9 : Int32).toNatClampNeg p3)))) H := hP
          have hD : va_D (va_A (wCM cI cJ cS A g B S) s.heap.size) (wCM cI cJ cS A g B (sCM_now S (sST_bids (CM_now S) (upd (ST_bids (CM_now S)) (r9 : Int32).toNatClampNeg p3)))) := hD
          rw [eS11] at hP hD
          refine lv_iconst (v := 1) hx hb dX2_obeyBid_65 (by decide) ?_
          have ho := q_some hf
          subst ho
          refine W.widen (k := 0) (n := 0) (Nat.le_of_ble_eq_true rfl) (Nat.le_of_ble_eq_true rfl) ?_
          exact W.zret hx hb hr rfl (fun t ht hW => ⟨rfl, ⟨_, ⟨g, B, hg, rfl⟩, by rw [ht]; exact hP, hD⟩, hS.F ht⟩) hS.2.2 dX2_obeyBid_66
        · have hf := q_ite_n c8 hf
          refine lv_iconst (v := 0) hx hb dX2_obeyBid_49 (by decide) ?_
          have ho := q_some hf
          subst ho
          refine W.widen (k := 0) (n := 0) (Nat.le_of_ble_eq_true rfl) (Nat.le_of_ble_eq_true rfl) ?_
          exact W.zret hx hb hr rfl (fun t ht hW => ⟨rfl, ⟨_, ⟨g, B, hg, rfl⟩, by rw [ht]; exact hP, hD⟩, hS.F ht⟩) t_nil dX2_obeyBid_50
    · have hf := q_ite_n c4 hf
      refine lv_iconst (v := 0) hx hb dX2_obeyBid_22 (by decide) ?_
      have ho := q_some hf
      subst ho
      refine W.widen (k := 0) (n := 0) (Nat.le_of_ble_eq_true rfl) (Nat.le_of_ble_eq_true rfl) ?_
      exact W.zret hx hb hr rfl (fun t ht hW => ⟨rfl, ⟨_, ⟨g, B, hg, rfl⟩, by rw [ht]; exact hP, hD⟩, hS.F ht⟩) t_nil dX2_obeyBid_23
def f_X2_obey (S : CM) : Option (Int32 × CM) := if (OR_kind (CM_or S)) = 97 then
 ((f_X2_obeyAbsent S (OR_person (CM_or S)) (OR_number (CM_or S))).bind fun r2 =>
 if r2.1 = 0 ∨ r2.1 = 1 then some (r2.1, r2.2) else none)
 else (if (OR_kind (CM_or S)) = 98 then
 ((f_X2_obeyBid S (OR_person (CM_or S)) (OR_number (CM_or S)) (OR_points (CM_or S))).bind fun r5 =>
 if r5.1 = 0 ∨ r5.1 = 1 then some (r5.1, r5.2) else none)
 else (if (OR_kind (CM_or S)) = 99 then
 ((f_X1_hasAbsence (CM_now S) (OR_number (CM_or S))).bind fun r8 =>
 if r8 = 0 then
 (some (0, S))
 else ((f_X1_coverOpen (CM_now S) (OR_number (CM_or S))).bind fun r10 =>
 q_let (sCM_now S r10.2) fun S11 =>
 if r10.1 = 0 then
 (some (0, S11))
 else (some (1, S11))))
 else ((f_X1_coverAllOpen (CM_now S) ).bind fun r13 =>
 q_let (sCM_now S r13.2) fun S14 =>
 some (1, S14))))
abbrev rX2_obey : Room := { frames := 5, cells := 0, slots := 0, locals := 119 }
set_option maxRecDepth 100000 in
set_option maxHeartbeats 4000000 in
theorem c_X2_obey (l : Launch) (hlt : l.stackTraces = false) (D : va_G) (cI cJ cS : ClassId) (sa : Nat → Nat) (A : Nat → Nat → Nat) (g : Nat → Option Nat) (B : Nat → Nat → Nat) (hg : ∀ i, i < 4 → g i = some (B i 0)) (S : CM) (sz : Nat) (o : (Int32 × CM)) (hf : f_X2_obey S = some o) : Met l yX2_obey wsX2_obey rX2_obey (va_Pc [.ref (A 3 0)] (q_BWX D cI cJ cS sa (wCM cI cJ cS A g B S) sz)) (q_WE (some (.int o.1)) D cI cJ cS A o.2 (wCM cI cJ cS A g B S) sz) 0 0 (va_A (wCM cI cJ cS A g B S) sz) := by
  refine Met.ofW (cc := cX2_obey) (maxL := 1) (ret := some .boolean) (by decide) rfl ?_
  intro p e s m args below meth c s₁ B9 hml hv
  obtain ⟨rfl, hsz, hP, hE, hD0, hES, hZ⟩ := hv
  have hx := B9.exec
  have hb := B9.bytes
  have hr := B9.returns
  have hts := atoms_spec (ws := wsX2_obey) B9.pre
  have hown : s.vm.findClass RX2 = some m.cls := findClass_of_methodNamed B9.named
  have hlocks := B9.notSynchronized
  have hu0 : ∀ z ∈ wsX00, z.before _ s = true := fun z h => hts z (List.mem_cons_of_mem _ (List.mem_append_left _ (List.mem_append_right _ h)))
  have hu1 : ∀ z ∈ wsX10, z.before _ s = true := fun z h => hts z (List.mem_cons_of_mem _ (List.mem_append_right _ h))
  have hu2 : ∀ z ∈ wsX20, z.before _ s = true := fun z h => hts z (List.mem_cons_of_mem _ (List.mem_append_left _ (List.mem_append_left _ (List.mem_append_right _ h))))
  subst hsz
  have hD := hD0.self (sz := s.heap.size)
  have hS : va_S (va_A (wCM cI cJ cS A g B S) s.heap.size) s.heap s.heap [] := va_S.rf
  have hl := lv_entry ([.ref (A 3 0)]) (n := 1) (Nat.le_of_ble_eq_true rfl)
  rw [lg_entry_eq]
  generalize (lg_sl ([.ref (A 3 0)]) ++ List.replicate (1 - (lg_sl ([.ref (A 3 0)])).length) Slot.unset).toArray = ls at hl ⊢
  have hl : lv_has ls 1 [(0, .ref (A 3 0))] := hl
  unfold f_X2_obey at hf
  refine lv_aload_n hx hb dX2_obey_0 rfl (lv_at hl 0 rfl) ?_
  refine va_get (D := D) (ci := 2) (v := .ref (A 2 0)) (C := RX2) (T := TX2) (N := 5) hx hb hu2 (fun _ h => h) hown hE.1 hP 0 rfl rfl 4 (Nat.le_of_ble_eq_true rfl) (hts (.fieldLink RX2 26 "CoverMeter" "orders" "LCoverMeter$Orders;") (List.mem_of_getElem? (i := 1) rfl)) (fun _ h9 => h9) rfl dX2_obey_1 ?_
  refine va_get (D := D) (ci := 0) (v := .int (OR_kind (CM_or S))) (C := RX0) (T := TX0) (N := 8) hx hb hu0 (fun _ h => h) hown hE.1 hP 80 rfl rfl 4 (Nat.le_of_ble_eq_true rfl) (hts (.fieldLink RX2 236 "CoverMeter$Orders" "kind" "I") (List.mem_of_getElem? (i := 2) rfl)) (fun _ h9 => h9) rfl dX2_obey_4 ?_
  by_cases c1_0 : (OR_kind (CM_or S)) = 97
  · have hf := q_ite_t c1_0 hf
    refine lv_tableIn (tgt := 32) hx hb dX2_obey_7 (by rw [c1_0]; decide) (by rw [c1_0]; decide) (by rw [c1_0]; rfl) (by decide) ?_
    refine lv_aload_n hx hb dX2_obey_32 rfl (lv_at hl 0 rfl) ?_
    refine lv_aload_n hx hb dX2_obey_33 rfl (lv_at hl 0 rfl) ?_
    refine va_get (D := D) (ci := 2) (v := .ref (A 2 0)) (C := RX2) (T := TX2) (N := 5) hx hb hu2 (fun _ h => h) hown hE.1 hP 0 rfl rfl 4 (Nat.le_of_ble_eq_true rfl) (hts (.fieldLink RX2 26 "CoverMeter" "orders" "LCoverMeter$Orders;") (List.mem_of_getElem? (i := 1) rfl)) (fun _ h9 => h9) rfl dX2_obey_34 ?_
    refine va_get (D := D) (ci := 0) (v := .int (OR_person (CM_or S))) (C := RX0) (T := TX0) (N := 8) hx hb hu0 (fun _ h => h) hown hE.1 hP 80 rfl rfl 5 (Nat.le_of_ble_eq_true rfl) (hts (.fieldLink RX2 239 "CoverMeter$Orders" "person" "I") (List.mem_of_getElem? (i := 3) rfl)) (fun _ h9 => h9) rfl dX2_obey_37 ?_
    refine lv_aload_n hx hb dX2_obey_40 rfl (lv_at hl 0 rfl) ?_
    refine va_get (D := D) (ci := 2) (v := .ref (A 2 0)) (C := RX2) (T := TX2) (N := 5) hx hb hu2 (fun _ h => h) hown hE.1 hP 0 rfl rfl 4 (Nat.le_of_ble_eq_true rfl) (hts (.fieldLink RX2 26 "CoverMeter" "orders" "LCoverMeter$Orders;") (List.mem_of_getElem? (i := 1) rfl)) (fun _ h9 => h9) rfl dX2_obey_41 ?_
    refine va_get (D := D) (ci := 0) (v := .int (OR_number (CM_or S))) (C := RX0) (T := TX0) (N := 8) hx hb hu0 (fun _ h => h) hown hE.1 hP 80 rfl rfl 6 (Nat.le_of_ble_eq_true rfl) (hts (.fieldLink RX2 242 "CoverMeter$Orders" "number" "I") (List.mem_of_getElem? (i := 4) rfl)) (fun _ h9 => h9) rfl dX2_obey_44 ?_
    obtain ⟨r2, hr2, hf⟩ := q_bd_go hf
    refine q_wrE (ci := 2) (As := [.int (OR_person (CM_or S)), .int (OR_number (CM_or S))]) (rest := []) hx hb hml hown hts (c_X2_obeyAbsent l hlt D cI cJ cS sa A g B hg S _ (OR_person (CM_or S)) (OR_number (CM_or S)) _ hr2) (cwV 2 hts gX2_obey_X2_obeyAbsent rfl rfl rfl (by decide +kernel) ⟨(Nat.le_of_ble_eq_true rfl), (Nat.le_of_ble_eq_true rfl)⟩) hE hES hZ hP hD hS (fun q h => Or.inr h) rfl rfl rfl hl.1 rfl (Nat.le_of_ble_eq_true rfl) dX2_obey_47 ⟨(Nat.le_of_ble_eq_true rfl), (Nat.le_of_ble_eq_true rfl)⟩ (fun g3 B4 H locs hg hP hD hS => ?_)
    have hbo := q_gc_in hf
    have hf := q_ite_t hbo hf
    have ho := q_some hf
    subst ho
    refine W.widen (k := 0) (n := 0) (Nat.le_of_ble_eq_true rfl) (Nat.le_of_ble_eq_true rfl) ?_
    exact W.zret hx hb hr (q_nz hbo) (fun t ht hW => ⟨rfl, ⟨_, ⟨g3, B4, hg, rfl⟩, by rw [ht]; exact hP, hD⟩, hS.F ht⟩) hS.2.2 dX2_obey_50
  have hf := q_ite_f c1_0 hf
  by_cases c1_1 : (OR_kind (CM_or S)) = 98
  · have hf := q_ite_t c1_1 hf
    refine lv_tableIn (tgt := 51) hx hb dX2_obey_7 (by rw [c1_1]; decide) (by rw [c1_1]; decide) (by rw [c1_1]; rfl) (by decide) ?_
    refine lv_aload_n hx hb dX2_obey_51 rfl (lv_at hl 0 rfl) ?_
    refine lv_aload_n hx hb dX2_obey_52 rfl (lv_at hl 0 rfl) ?_
    refine va_get (D := D) (ci := 2) (v := .ref (A 2 0)) (C := RX2) (T := TX2) (N := 5) hx hb hu2 (fun _ h => h) hown hE.1 hP 0 rfl rfl 4 (Nat.le_of_ble_eq_true rfl) (hts (.fieldLink RX2 26 "CoverMeter" "orders" "LCoverMeter$Orders;") (List.mem_of_getElem? (i := 1) rfl)) (fun _ h9 => h9) rfl dX2_obey_53 ?_
    refine va_get (D := D) (ci := 0) (v := .int (OR_person (CM_or S))) (C := RX0) (T := TX0) (N := 8) hx hb hu0 (fun _ h => h) hown hE.1 hP 80 rfl rfl 5 (Nat.le_of_ble_eq_true rfl) (hts (.fieldLink RX2 239 "CoverMeter$Orders" "person" "I") (List.mem_of_getElem? (i := 3) rfl)) (fun _ h9 => h9) rfl dX2_obey_56 ?_
    refine lv_aload_n hx hb dX2_obey_59 rfl (lv_at hl 0 rfl) ?_
    refine va_get (D := D) (ci := 2) (v := .ref (A 2 0)) (C := RX2) (T := TX2) (N := 5) hx hb hu2 (fun _ h => h) hown hE.1 hP 0 rfl rfl 4 (Nat.le_of_ble_eq_true rfl) (hts (.fieldLink RX2 26 "CoverMeter" "orders" "LCoverMeter$Orders;") (List.mem_of_getElem? (i := 1) rfl)) (fun _ h9 => h9) rfl dX2_obey_60 ?_
    refine va_get (D := D) (ci := 0) (v := .int (OR_number (CM_or S))) (C := RX0) (T := TX0) (N := 8) hx hb hu0 (fun _ h => h) hown hE.1 hP 80 rfl rfl 6 (Nat.le_of_ble_eq_true rfl) (hts (.fieldLink RX2 242 "CoverMeter$Orders" "number" "I") (List.mem_of_getElem? (i := 4) rfl)) (fun _ h9 => h9) rfl dX2_obey_63 ?_
    refine lv_aload_n hx hb dX2_obey_66 rfl (lv_at hl 0 rfl) ?_
    refine va_get (D := D) (ci := 2) (v := .ref (A 2 0)) (C := RX2) (T := TX2) (N := 5) hx hb hu2 (fun _ h => h) hown hE.1 hP 0 rfl rfl 4 (Nat.le_of_ble_eq_true rfl) (hts (.fieldLink RX2 26 "CoverMeter" "orders" "LCoverMeter$Orders;") (List.mem_of_getElem? (i := 1) rfl)) (fun _ h9 => h9) rfl dX2_obey_67 ?_
    refine va_get (D := D) (ci := 0) (v := .int (OR_points (CM_or S))) (C := RX0) (T := TX0) (N := 8) hx hb hu0 (fun _ h => h) hown hE.1 hP 80 rfl rfl 7 (Nat.le_of_ble_eq_true rfl) (hts (.fieldLink RX2 248 "CoverMeter$Orders" "points" "I") (List.mem_of_getElem? (i := 5) rfl)) (fun _ h9 => h9) rfl dX2_obey_70 ?_
    obtain ⟨r5, hr5, hf⟩ := q_bd_go hf
    refine q_wrE (ci := 2) (As := [.int (OR_person (CM_or S)), .int (OR_number (CM_or S)), .int (OR_points (CM_or S))]) (rest := []) hx hb hml hown hts (c_X2_obeyBid l hlt D cI cJ cS sa A g B hg S _ (OR_person (CM_or S)) (OR_number (CM_or S)) (OR_points (CM_or S)) _ hr5) (cwV 3 hts gX2_obey_X2_obeyBid rfl rfl rfl (by decide +kernel) ⟨(Nat.le_of_ble_eq_true rfl), (Nat.le_of_ble_eq_true rfl)⟩) hE hES hZ hP hD hS (fun q h => Or.inr h) rfl rfl rfl hl.1 rfl (Nat.le_of_ble_eq_true rfl) dX2_obey_73 ⟨(Nat.le_of_ble_eq_true rfl), (Nat.le_of_ble_eq_true rfl)⟩ (fun g6 B7 H locs hg hP hD hS => ?_)
    have hbo := q_gc_in hf
    have hf := q_ite_t hbo hf
    have ho := q_some hf
    subst ho
    refine W.widen (k := 0) (n := 0) (Nat.le_of_ble_eq_true rfl) (Nat.le_of_ble_eq_true rfl) ?_
    exact W.zret hx hb hr (q_nz hbo) (fun t ht hW => ⟨rfl, ⟨_, ⟨g6, B7, hg, rfl⟩, by rw [ht]; exact hP, hD⟩, hS.F ht⟩) hS.2.2 dX2_obey_76
  have hf := q_ite_f c1_1 hf
  by_cases c1_2 : (OR_kind (CM_or S)) = 99
  · have hf := q_ite_t c1_2 hf
    refine lv_tableIn (tgt := 77) hx hb dX2_obey_7 (by rw [c1_2]; decide) (by rw [c1_2]; decide) (by rw [c1_2]; rfl) (by decide) ?_
    refine lv_aload_n hx hb dX2_obey_77 rfl (lv_at hl 0 rfl) ?_
    refine va_get (D := D) (ci := 2) (v := .ref (A 0 0)) (C := RX2) (T := TX2) (N := 5) hx hb hu2 (fun _ h => h) hown hE.1 hP 0 rfl rfl 0 (Nat.le_of_ble_eq_true rfl) (hts (.fieldLink RX2 12 "CoverMeter" "now" "LCoverMeter$State;") (List.mem_of_getElem? (i := 6) rfl)) (fun _ h9 => h9) rfl dX2_obey_78 ?_
    refine lv_aload_n hx hb dX2_obey_81 rfl (lv_at hl 0 rfl) ?_
    refine va_get (D := D) (ci := 2) (v := .ref (A 2 0)) (C := RX2) (T := TX2) (N := 5) hx hb hu2 (fun _ h => h) hown hE.1 hP 0 rfl rfl 4 (Nat.le_of_ble_eq_true rfl) (hts (.fieldLink RX2 26 "CoverMeter" "orders" "LCoverMeter$Orders;") (List.mem_of_getElem? (i := 1) rfl)) (fun _ h9 => h9) rfl dX2_obey_82 ?_
    refine va_get (D := D) (ci := 0) (v := .int (OR_number (CM_or S))) (C := RX0) (T := TX0) (N := 8) hx hb hu0 (fun _ h => h) hown hE.1 hP 80 rfl rfl 6 (Nat.le_of_ble_eq_true rfl) (hts (.fieldLink RX2 242 "CoverMeter$Orders" "number" "I") (List.mem_of_getElem? (i := 4) rfl)) (fun _ h9 => h9) rfl dX2_obey_85 ?_
    obtain ⟨r8, hr8, hf⟩ := q_bd_go hf
    refine q_rdVi (w := (wST cI cJ (A 0) (CM_now S))) (ci := 1) (As := [.int (OR_number (CM_or S))]) (rest := []) hx hb hml hown hts (c_X1_hasAbsence l D cI cJ cS (A 0) (CM_now S) (OR_number (CM_or S)) _ hr8) (cwV 1 hts gX2_obey_X1_hasAbsence rfl rfl rfl (by decide +kernel) ⟨(Nat.le_of_ble_eq_true rfl), (Nat.le_of_ble_eq_true rfl)⟩) hE (qp_now hP) rfl rfl rfl hl.1 rfl (Nat.le_of_ble_eq_true rfl) dX2_obey_88 ⟨(Nat.le_of_ble_eq_true rfl), (Nat.le_of_ble_eq_true rfl)⟩ ?_
    refine lv_if_eq (tgt := 115) hx hb dX2_obey_91 (by decide) (fun c9 => ?_) (fun c9 => ?_)
    · have hf := q_ite_t c9 hf
      refine lv_iconst (v := 0) hx hb dX2_obey_115 (by decide) ?_
      have ho := q_some hf
      subst ho
      refine W.widen (k := 0) (n := 0) (Nat.le_of_ble_eq_true rfl) (Nat.le_of_ble_eq_true rfl) ?_
      exact W.zret hx hb hr rfl (fun t ht hW => ⟨rfl, ⟨_, ⟨g, B, hg, rfl⟩, by rw [ht]; exact hP, hD⟩, hS.F ht⟩) t_nil dX2_obey_116
    · have hf := q_ite_f c9 hf
      refine lv_aload_n hx hb dX2_obey_94 rfl (lv_at hl 0 rfl) ?_
      refine va_get (D := D) (ci := 2) (v := .ref (A 0 0)) (C := RX2) (T := TX2) (N := 5) hx hb hu2 (fun _ h => h) hown hE.1 hP 0 rfl rfl 0 (Nat.le_of_ble_eq_true rfl) (hts (.fieldLink RX2 12 "CoverMeter" "now" "LCoverMeter$State;") (List.mem_of_getElem? (i := 6) rfl)) (fun _ h9 => h9) rfl dX2_obey_95 ?_
      refine lv_aload_n hx hb dX2_obey_98 rfl (lv_at hl 0 rfl) ?_
      refine va_get (D := D) (ci := 2) (v := .ref (A 2 0)) (C := RX2) (T := TX2) (N := 5) hx hb hu2 (fun _ h => h) hown hE.1 hP 0 rfl rfl 4 (Nat.le_of_ble_eq_true rfl) (hts (.fieldLink RX2 26 "CoverMeter" "orders" "LCoverMeter$Orders;") (List.mem_of_getElem? (i := 1) rfl)) (fun _ h9 => h9) rfl dX2_obey_99 ?_
      refine va_get (D := D) (ci := 0) (v := .int (OR_number (CM_or S))) (C := RX0) (T := TX0) (N := 8) hx hb hu0 (fun _ h => h) hown hE.1 hP 80 rfl rfl 6 (Nat.le_of_ble_eq_true rfl) (hts (.fieldLink RX2 242 "CoverMeter$Orders" "number" "I") (List.mem_of_getElem? (i := 4) rfl)) (fun _ h9 => h9) rfl dX2_obey_102 ?_
      obtain ⟨r10, hr10, hf⟩ := q_bd_go hf
      obtain ⟨S11, eS11, hf⟩ := q_let_go hf
      refine q_wrC (v := (some (.int r10.1))) (w := wST cI cJ (A 0) (CM_now S)) (ci := 1) (As := [.int (OR_number (CM_or S))]) (rest := []) hx hb hml hown hts (c_X1_coverOpen l D cI cJ cS (A 0) (CM_now S) _ (OR_number (CM_or S)) _ hr10) (cwV 1 hts gX2_obey_X1_coverOpen rfl rfl rfl (by decide +kernel) ⟨(Nat.le_of_ble_eq_true rfl), (Nat.le_of_ble_eq_true rfl)⟩) hE (qp_now hP) (qd_now hD) hS (fun q h => Or.inr h) (fun H1 hF hk h1 h2 => qs_now (z := r10.2) hP hD hF hk h1 h2) rfl rfl rfl hl.1 rfl (Nat.le_of_ble_eq_true rfl) dX2_obey_105 ⟨(Nat.le_of_ble_eq_true rfl), (Nat.le_of_ble_eq_true rfl)⟩ (fun H locs hP hD hS => ?_)
      rw [eS11] at hP hD
      refine lv_if_eq (tgt := 115) hx hb dX2_obey_108 (by decide) (fun c12 => ?_) (fun c12 => ?_)
      · have hf := q_ite_t c12 hf
        refine lv_iconst (v := 0) hx hb dX2_obey_115 (by decide) ?_
        have ho := q_some hf
        subst ho
        refine W.widen (k := 0) (n := 0) (Nat.le_of_ble_eq_true rfl) (Nat.le_of_ble_eq_true rfl) ?_
        exact W.zret hx hb hr rfl (fun t ht hW => ⟨rfl, ⟨_, ⟨g, B, hg, rfl⟩, by rw [ht]; exact hP, hD⟩, hS.F ht⟩) hS.2.2 dX2_obey_116
      · have hf := q_ite_f c12 hf
        refine lv_iconst (v := 1) hx hb dX2_obey_111 (by decide) ?_
        refine lv_goto (tgt := 116) hx hb dX2_obey_112 (by decide) ?_
        have ho := q_some hf
        subst ho
        refine W.widen (k := 0) (n := 0) (Nat.le_of_ble_eq_true rfl) (Nat.le_of_ble_eq_true rfl) ?_
        exact W.zret hx hb hr rfl (fun t ht hW => ⟨rfl, ⟨_, ⟨g, B, hg, rfl⟩, by rw [ht]; exact hP, hD⟩, hS.F ht⟩) hS.2.2 dX2_obey_116
  have hf := q_ite_f c1_2 hf
  have zc1_0 := lv_neT (a := 97) c1_0 (by decide)
  have zc1_1 := lv_neT (a := 98) c1_1 (by decide)
  have zc1_2 := lv_neT (a := 99) c1_2 (by decide)
  refine lv_tableOut (tgt := 117) hx hb dX2_obey_7 (by omega) (by decide) ?_
  refine lv_aload_n hx hb dX2_obey_117 rfl (lv_at hl 0 rfl) ?_
  refine va_get (D := D) (ci := 2) (v := .ref (A 0 0)) (C := RX2) (T := TX2) (N := 5) hx hb hu2 (fun _ h => h) hown hE.1 hP 0 rfl rfl 0 (Nat.le_of_ble_eq_true rfl) (hts (.fieldLink RX2 12 "CoverMeter" "now" "LCoverMeter$State;") (List.mem_of_getElem? (i := 6) rfl)) (fun _ h9 => h9) rfl dX2_obey_118 ?_
  obtain ⟨r13, hr13, hf⟩ := q_bd_go hf
  obtain ⟨S14, eS14, hf⟩ := q_let_go hf
  refine q_wrC (v := (some (.int r13.1))) (w := wST cI cJ (A 0) (CM_now S)) (ci := 1) (As := []) (rest := []) hx hb hml hown hts (c_X1_coverAllOpen l D cI cJ cS (A 0) (CM_now S) _  _ hr13) (cwV 0 hts gX2_obey_X1_coverAllOpen rfl rfl rfl (by decide +kernel) ⟨(Nat.le_of_ble_eq_true rfl), (Nat.le_of_ble_eq_true rfl)⟩) hE (qp_now hP) (qd_now hD) hS (fun q h => Or.inr h) (fun H1 hF hk h1 h2 => qs_now (z := r13.2) hP hD hF hk h1 h2) rfl rfl rfl hl.1 rfl (Nat.le_of_ble_eq_true rfl) dX2_obey_121 ⟨(Nat.le_of_ble_eq_true rfl), (Nat.le_of_ble_eq_true rfl)⟩ (fun H locs hP hD hS => ?_)
  rw [eS14] at hP hD
  refine lv_pop hx hb dX2_obey_124 rfl ?_
  refine lv_iconst (v := 1) hx hb dX2_obey_125 (by decide) ?_
  have ho := q_some hf
  subst ho
  refine W.widen (k := 0) (n := 0) (Nat.le_of_ble_eq_true rfl) (Nat.le_of_ble_eq_true rfl) ?_
  exact W.zret hx hb hr rfl (fun t ht hW => ⟨rfl, ⟨_, ⟨g, B, hg, rfl⟩, by rw [ht]; exact hP, hD⟩, hS.F ht⟩) hS.2.2 dX2_obey_126
