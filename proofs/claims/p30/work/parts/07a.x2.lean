def f_X2_needInRange (p1 : Int32) (p2 : Int32) (p3 : Int32) : Option (String ⊕ Unit) := if p1 < p2 then
 (some (.inl "java/lang/IllegalArgumentException"))
 else (if p1 ≤ p3 then
 (some (.inr ()))
 else (some (.inl "java/lang/IllegalArgumentException")))
abbrev rX2_needInRange : Room := { frames := 6, cells := 1, slots := 6, locals := 90 }
set_option maxRecDepth 100000 in
set_option maxHeartbeats 4000000 in
theorem c_X2_needInRange (l : Launch) (hlt : l.stackTraces = false) (D : va_G) (cI cJ cS : ClassId) (sa : Nat → Nat) (p1 : Int32) (p2 : Int32) (p3 : Int32) (o : (String ⊕ Unit)) (hf : f_X2_needInRange p1 p2 p3 = some o) : vx_Met l yX2_needInRange wsX2_needInRange rX2_needInRange (va_Pc [.int p1, .int p2, .int p3] (q_BX D cI cJ cS sa [])) (q_XR (fun _ => none) o) (q_XC o) 1 6 (fun _ => False) := by
  refine vx_ofW (cc := cX2_needInRange) (maxL := 3) (ret := none) (by decide) rfl ?_
  intro p e s m args below meth c s₁ B9 hml htab hv
  obtain ⟨rfl, hP, hE, hES, hZ⟩ := hv
  have hx := B9.exec
  have hb := B9.bytes
  have hr := B9.returns
  have hts := atoms_spec (ws := wsX2_needInRange) B9.pre
  have hown : s.vm.findClass RX2 = some m.cls := findClass_of_methodNamed B9.named
  have hlocks := B9.notSynchronized
  have hS : va_S (va_A [] s.heap.size) s.heap s.heap [] := va_S.rf
  have hl := lv_entry ([.int p1, .int p2, .int p3]) (n := 3) (Nat.le_of_ble_eq_true rfl)
  rw [lg_entry_eq]
  generalize (lg_sl ([.int p1, .int p2, .int p3]) ++ List.replicate (3 - (lg_sl ([.int p1, .int p2, .int p3])).length) Slot.unset).toArray = ls at hl ⊢
  have hl : lv_has ls 3 [(0, .int p1), (1, .int p2), (2, .int p3)] := hl
  unfold f_X2_needInRange at hf
  refine lv_iload_n hx hb dX2_needInRange_0 rfl (lv_at hl 0 rfl) ?_
  refine lv_iload_n hx hb dX2_needInRange_1 rfl (lv_at hl 1 rfl) ?_
  refine lv_icmp_lt (tgt := 10) hx hb dX2_needInRange_2 (by decide) (fun c1 => ?_) (fun c1 => ?_)
  · have hf := q_ite_t c1 hf
    have ho := q_some hf
    exact vx_throwS (sa := sa 3) (text := "a value is out of range") (names := ["java/lang/RuntimeException", "java/lang/Exception"]) hx hb hlt hown (by decide +kernel) (by decide +kernel) (hts (.classLink RX2 49 "java/lang/IllegalArgumentException") (List.mem_of_getElem? (i := 1) rfl)) (hts (.initialized "java/lang/IllegalArgumentException") (List.mem_of_getElem? (i := 2) rfl)) (hES.1 3 _ rfl) (vx_hat (fun w h => hts w (List.mem_cons_of_mem _ (List.mem_append_right _ h))) (B := [.castable "java/lang/IllegalArgumentException" "java/lang/IllegalArgumentException", .declares (Bundle.initS "java/lang/RuntimeException"), .declares (Bundle.initS "java/lang/Exception"), .declares (Bundle.initS Bundle.tN)]) (by decide +kernel) (vx_c (va_Nw.use rfl hES.2.2.1) (vx_c (va_Nw.use rfl hES.2.2.2.2.1) (vx_c (va_Nw.use rfl hES.2.2.2.2.2.1) (vx_c (va_Nw.use rfl hES.2.2.2.2.2.2) vx_n))))) (by decide +kernel) hZ.1 hZ.2.1 hS (hl.1.trans hml.symm) dX2_needInRange_10 dX2_needInRange_13 dX2_needInRange_14 dX2_needInRange_16 dX2_needInRange_19 (fun z hz => (htab z hz).elim) (Nat.le_of_ble_eq_true rfl) (Nat.le_of_ble_eq_true rfl) (Nat.le_of_ble_eq_true rfl) (Nat.le_of_ble_eq_true rfl) hlocks (fun t hal hsz hk => ⟨ho.symm, hsz, fun q h1 _ => hk q h1⟩) (fun _ h => nomatch h) (Nat.le_of_ble_eq_true rfl) (Nat.le_of_ble_eq_true rfl)
  · have hf := q_ite_f c1 hf
    refine lv_iload_n hx hb dX2_needInRange_5 rfl (lv_at hl 0 rfl) ?_
    refine lv_iload_n hx hb dX2_needInRange_6 rfl (lv_at hl 2 rfl) ?_
    refine lv_icmp_le (tgt := 20) hx hb dX2_needInRange_7 (by decide) (fun c2 => ?_) (fun c2 => ?_)
    · have hf := q_ite_t c2 hf
      have ho := q_some hf
      refine vx_ret ?_
      refine W.widen (k := 1) (n := 6) (Nat.le_of_ble_eq_true rfl) (Nat.le_of_ble_eq_true rfl) ?_
      exact W.vret hx hb hr (fun t ht hW => ⟨_, ho.symm, rfl, ht⟩) t_nil dX2_needInRange_20
    · have hf := q_ite_f c2 hf
      have ho := q_some hf
      exact vx_throwS (sa := sa 3) (text := "a value is out of range") (names := ["java/lang/RuntimeException", "java/lang/Exception"]) hx hb hlt hown (by decide +kernel) (by decide +kernel) (hts (.classLink RX2 49 "java/lang/IllegalArgumentException") (List.mem_of_getElem? (i := 1) rfl)) (hts (.initialized "java/lang/IllegalArgumentException") (List.mem_of_getElem? (i := 2) rfl)) (hES.1 3 _ rfl) (vx_hat (fun w h => hts w (List.mem_cons_of_mem _ (List.mem_append_right _ h))) (B := [.castable "java/lang/IllegalArgumentException" "java/lang/IllegalArgumentException", .declares (Bundle.initS "java/lang/RuntimeException"), .declares (Bundle.initS "java/lang/Exception"), .declares (Bundle.initS Bundle.tN)]) (by decide +kernel) (vx_c (va_Nw.use rfl hES.2.2.1) (vx_c (va_Nw.use rfl hES.2.2.2.2.1) (vx_c (va_Nw.use rfl hES.2.2.2.2.2.1) (vx_c (va_Nw.use rfl hES.2.2.2.2.2.2) vx_n))))) (by decide +kernel) hZ.1 hZ.2.1 hS (hl.1.trans hml.symm) dX2_needInRange_10 dX2_needInRange_13 dX2_needInRange_14 dX2_needInRange_16 dX2_needInRange_19 (fun z hz => (htab z hz).elim) (Nat.le_of_ble_eq_true rfl) (Nat.le_of_ble_eq_true rfl) (Nat.le_of_ble_eq_true rfl) (Nat.le_of_ble_eq_true rfl) hlocks (fun t hal hsz hk => ⟨ho.symm, hsz, fun q h1 _ => hk q h1⟩) (fun _ h => nomatch h) (Nat.le_of_ble_eq_true rfl) (Nat.le_of_ble_eq_true rfl)
def f_X2_needAllowed (p1 : Int32) : Option (String ⊕ Unit) := if ¬ p1 = 0 then
 (some (.inr ()))
 else (some (.inl "java/lang/IllegalStateException"))
abbrev rX2_needAllowed : Room := { frames := 6, cells := 1, slots := 6, locals := 90 }
set_option maxRecDepth 100000 in
set_option maxHeartbeats 4000000 in
theorem c_X2_needAllowed (l : Launch) (hlt : l.stackTraces = false) (D : va_G) (cI cJ cS : ClassId) (sa : Nat → Nat) (p1 : Int32) (o : (String ⊕ Unit)) (hf : f_X2_needAllowed p1 = some o) : vx_Met l yX2_needAllowed wsX2_needAllowed rX2_needAllowed (va_Pc [.int p1] (q_BX D cI cJ cS sa [])) (q_XR (fun _ => none) o) (q_XC o) 1 6 (fun _ => False) := by
  refine vx_ofW (cc := cX2_needAllowed) (maxL := 1) (ret := none) (by decide) rfl ?_
  intro p e s m args below meth c s₁ B9 hml htab hv
  obtain ⟨rfl, hP, hE, hES, hZ⟩ := hv
  have hx := B9.exec
  have hb := B9.bytes
  have hr := B9.returns
  have hts := atoms_spec (ws := wsX2_needAllowed) B9.pre
  have hown : s.vm.findClass RX2 = some m.cls := findClass_of_methodNamed B9.named
  have hlocks := B9.notSynchronized
  have hS : va_S (va_A [] s.heap.size) s.heap s.heap [] := va_S.rf
  have hl := lv_entry ([.int p1]) (n := 1) (Nat.le_of_ble_eq_true rfl)
  rw [lg_entry_eq]
  generalize (lg_sl ([.int p1]) ++ List.replicate (1 - (lg_sl ([.int p1])).length) Slot.unset).toArray = ls at hl ⊢
  have hl : lv_has ls 1 [(0, .int p1)] := hl
  unfold f_X2_needAllowed at hf
  refine lv_iload_n hx hb dX2_needAllowed_0 rfl (lv_at hl 0 rfl) ?_
  refine lv_if_ne (tgt := 14) hx hb dX2_needAllowed_1 (by decide) (fun c1 => ?_) (fun c1 => ?_)
  · have hf := q_ite_t c1 hf
    have ho := q_some hf
    refine vx_ret ?_
    refine W.widen (k := 1) (n := 6) (Nat.le_of_ble_eq_true rfl) (Nat.le_of_ble_eq_true rfl) ?_
    exact W.vret hx hb hr (fun t ht hW => ⟨_, ho.symm, rfl, ht⟩) t_nil dX2_needAllowed_14
  · have hf := q_ite_n c1 hf
    have ho := q_some hf
    exact vx_throwS (sa := sa 4) (text := "this cannot be done now") (names := ["java/lang/RuntimeException", "java/lang/Exception"]) hx hb hlt hown (by decide +kernel) (by decide +kernel) (hts (.classLink RX2 228 "java/lang/IllegalStateException") (List.mem_of_getElem? (i := 1) rfl)) (hts (.initialized "java/lang/IllegalStateException") (List.mem_of_getElem? (i := 2) rfl)) (hES.1 4 _ rfl) (vx_hat (fun w h => hts w (List.mem_cons_of_mem _ (List.mem_append_right _ h))) (B := [.castable "java/lang/IllegalStateException" "java/lang/IllegalStateException", .declares (Bundle.initS "java/lang/RuntimeException"), .declares (Bundle.initS "java/lang/Exception"), .declares (Bundle.initS Bundle.tN)]) (by decide +kernel) (vx_c (va_Nw.use rfl hES.2.2.2.1) (vx_c (va_Nw.use rfl hES.2.2.2.2.1) (vx_c (va_Nw.use rfl hES.2.2.2.2.2.1) (vx_c (va_Nw.use rfl hES.2.2.2.2.2.2) vx_n))))) (by decide +kernel) hZ.1 hZ.2.1 hS (hl.1.trans hml.symm) dX2_needAllowed_4 dX2_needAllowed_7 dX2_needAllowed_8 dX2_needAllowed_10 dX2_needAllowed_13 (fun z hz => (htab z hz).elim) (Nat.le_of_ble_eq_true rfl) (Nat.le_of_ble_eq_true rfl) (Nat.le_of_ble_eq_true rfl) (Nat.le_of_ble_eq_true rfl) hlocks (fun t hal hsz hk => ⟨ho.symm, hsz, fun q h1 _ => hk q h1⟩) (fun _ h => nomatch h) (Nat.le_of_ble_eq_true rfl) (Nat.le_of_ble_eq_true rfl)
def f_X2_needPerson (S : CM) (p1 : Int32) : Option (String ⊕ Unit) := (f_X1_hasPerson (CM_now S) p1).bind fun r1 =>
 if ¬ r1 = 0 then
 (some (.inr ()))
 else (some (.inl "java/lang/IndexOutOfBoundsException"))
abbrev rX2_needPerson : Room := { frames := 6, cells := 1, slots := 6, locals := 90 }
set_option maxRecDepth 100000 in
set_option maxHeartbeats 4000000 in
theorem c_X2_needPerson (l : Launch) (hlt : l.stackTraces = false) (D : va_G) (cI cJ cS : ClassId) (sa : Nat → Nat) (A : Nat → Nat → Nat) (S : CM) (p1 : Int32) (o : (String ⊕ Unit)) (hf : f_X2_needPerson S p1 = some o) : vx_Met l yX2_needPerson wsX2_needPerson rX2_needPerson (va_Pc [.ref (A 3 0), .int p1] (q_BX D cI cJ cS sa (wCR cI cJ A S))) (q_XR (fun _ => none) o) (q_XC o) 1 6 (fun _ => False) := by
  refine vx_ofW (cc := cX2_needPerson) (maxL := 2) (ret := none) (by decide) rfl ?_
  intro p e s m args below meth c s₁ B9 hml htab hv
  obtain ⟨rfl, hP, hE, hES, hZ⟩ := hv
  have hx := B9.exec
  have hb := B9.bytes
  have hr := B9.returns
  have hts := atoms_spec (ws := wsX2_needPerson) B9.pre
  have hown : s.vm.findClass RX2 = some m.cls := findClass_of_methodNamed B9.named
  have hlocks := B9.notSynchronized
  have hu1 : ∀ z ∈ wsX10, z.before _ s = true := fun z h => hts z (List.mem_cons_of_mem _ (List.mem_append_left _ (List.mem_append_right _ h)))
  have hu2 : ∀ z ∈ wsX20, z.before _ s = true := fun z h => hts z (List.mem_cons_of_mem _ (List.mem_append_left _ (List.mem_append_left _ (List.mem_append_right _ h))))
  have hS : va_S (va_A (wCR cI cJ A S) s.heap.size) s.heap s.heap [] := va_S.rf
  have hl := lv_entry ([.ref (A 3 0), .int p1]) (n := 2) (Nat.le_of_ble_eq_true rfl)
  rw [lg_entry_eq]
  generalize (lg_sl ([.ref (A 3 0), .int p1]) ++ List.replicate (2 - (lg_sl ([.ref (A 3 0), .int p1])).length) Slot.unset).toArray = ls at hl ⊢
  have hl : lv_has ls 2 [(0, .ref (A 3 0)), (1, .int p1)] := hl
  unfold f_X2_needPerson at hf
  refine lv_aload_n hx hb dX2_needPerson_0 rfl (lv_at hl 0 rfl) ?_
  refine va_get (D := D) (ci := 2) (v := .ref (A 0 0)) (C := RX2) (T := TX2) (N := 5) hx hb hu2 (fun _ h => h) hown hE.1 hP 0 rfl rfl 0 (Nat.le_of_ble_eq_true rfl) (hts (.fieldLink RX2 12 "CoverMeter" "now" "LCoverMeter$State;") (List.mem_of_getElem? (i := 3) rfl)) (fun _ h9 => h9) rfl dX2_needPerson_1 ?_
  refine lv_iload_n hx hb dX2_needPerson_4 rfl (lv_at hl 1 rfl) ?_
  obtain ⟨r1, hr1, hf⟩ := q_bd_go hf
  refine q_rdVi (w := (wST cI cJ (A 0) (CM_now S))) (ci := 1) (As := [.int p1]) (rest := []) hx hb hml hown hts (c_X1_hasPerson l D cI cJ cS (A 0) (CM_now S) p1 _ hr1) (cwV 1 hts gX2_needPerson_X1_hasPerson rfl rfl rfl (by decide +kernel) ⟨(Nat.le_of_ble_eq_true rfl), (Nat.le_of_ble_eq_true rfl)⟩) hE (qr_now hP) rfl rfl rfl hl.1 rfl (Nat.le_of_ble_eq_true rfl) dX2_needPerson_5 ⟨(Nat.le_of_ble_eq_true rfl), (Nat.le_of_ble_eq_true rfl)⟩ ?_
  refine lv_if_ne (tgt := 21) hx hb dX2_needPerson_8 (by decide) (fun c2 => ?_) (fun c2 => ?_)
  · have hf := q_ite_t c2 hf
    have ho := q_some hf
    refine vx_ret ?_
    refine W.widen (k := 1) (n := 6) (Nat.le_of_ble_eq_true rfl) (Nat.le_of_ble_eq_true rfl) ?_
    exact W.vret hx hb hr (fun t ht hW => ⟨_, ho.symm, rfl, ht⟩) t_nil dX2_needPerson_21
  · have hf := q_ite_n c2 hf
    have ho := q_some hf
    exact vx_throwS (sa := sa 1) (text := "there is no such person") (names := ["java/lang/RuntimeException", "java/lang/Exception"]) hx hb hlt hown (by decide +kernel) (by decide +kernel) (hts (.classLink RX2 216 "java/lang/IndexOutOfBoundsException") (List.mem_of_getElem? (i := 1) rfl)) (hts (.initialized "java/lang/IndexOutOfBoundsException") (List.mem_of_getElem? (i := 2) rfl)) (hES.1 1 _ rfl) (vx_hat (fun w h => hts w (List.mem_cons_of_mem _ (List.mem_append_right _ h))) (B := [.castable "java/lang/IndexOutOfBoundsException" "java/lang/IndexOutOfBoundsException", .declares (Bundle.initS "java/lang/RuntimeException"), .declares (Bundle.initS "java/lang/Exception"), .declares (Bundle.initS Bundle.tN)]) (by decide +kernel) (vx_c (va_Nw.use rfl hES.2.1) (vx_c (va_Nw.use rfl hES.2.2.2.2.1) (vx_c (va_Nw.use rfl hES.2.2.2.2.2.1) (vx_c (va_Nw.use rfl hES.2.2.2.2.2.2) vx_n))))) (by decide +kernel) hZ.1 hZ.2.1 hS (hl.1.trans hml.symm) dX2_needPerson_11 dX2_needPerson_14 dX2_needPerson_15 dX2_needPerson_17 dX2_needPerson_20 (fun z hz => (htab z hz).elim) (Nat.le_of_ble_eq_true rfl) (Nat.le_of_ble_eq_true rfl) (Nat.le_of_ble_eq_true rfl) (Nat.le_of_ble_eq_true rfl) hlocks (fun t hal hsz hk => ⟨ho.symm, hsz, fun q h1 _ => hk q h1⟩) (fun _ h => nomatch h) (Nat.le_of_ble_eq_true rfl) (Nat.le_of_ble_eq_true rfl)
def f_X2_needAbsence (S : CM) (p1 : Int32) : Option (String ⊕ Unit) := (f_X1_hasAbsence (CM_now S) p1).bind fun r1 =>
 if ¬ r1 = 0 then
 (some (.inr ()))
 else (some (.inl "java/lang/IndexOutOfBoundsException"))
abbrev rX2_needAbsence : Room := { frames := 6, cells := 1, slots := 6, locals := 90 }
set_option maxRecDepth 100000 in
set_option maxHeartbeats 4000000 in
theorem c_X2_needAbsence (l : Launch) (hlt : l.stackTraces = false) (D : va_G) (cI cJ cS : ClassId) (sa : Nat → Nat) (A : Nat → Nat → Nat) (S : CM) (p1 : Int32) (o : (String ⊕ Unit)) (hf : f_X2_needAbsence S p1 = some o) : vx_Met l yX2_needAbsence wsX2_needAbsence rX2_needAbsence (va_Pc [.ref (A 3 0), .int p1] (q_BX D cI cJ cS sa (wCR cI cJ A S))) (q_XR (fun _ => none) o) (q_XC o) 1 6 (fun _ => False) := by
  refine vx_ofW (cc := cX2_needAbsence) (maxL := 2) (ret := none) (by decide) rfl ?_
  intro p e s m args below meth c s₁ B9 hml htab hv
  obtain ⟨rfl, hP, hE, hES, hZ⟩ := hv
  have hx := B9.exec
  have hb := B9.bytes
  have hr := B9.returns
  have hts := atoms_spec (ws := wsX2_needAbsence) B9.pre
  have hown : s.vm.findClass RX2 = some m.cls := findClass_of_methodNamed B9.named
  have hlocks := B9.notSynchronized
  have hu1 : ∀ z ∈ wsX10, z.before _ s = true := fun z h => hts z (List.mem_cons_of_mem _ (List.mem_append_left _ (List.mem_append_right _ h)))
  have hu2 : ∀ z ∈ wsX20, z.before _ s = true := fun z h => hts z (List.mem_cons_of_mem _ (List.mem_append_left _ (List.mem_append_left _ (List.mem_append_right _ h))))
  have hS : va_S (va_A (wCR cI cJ A S) s.heap.size) s.heap s.heap [] := va_S.rf
  have hl := lv_entry ([.ref (A 3 0), .int p1]) (n := 2) (Nat.le_of_ble_eq_true rfl)
  rw [lg_entry_eq]
  generalize (lg_sl ([.ref (A 3 0), .int p1]) ++ List.replicate (2 - (lg_sl ([.ref (A 3 0), .int p1])).length) Slot.unset).toArray = ls at hl ⊢
  have hl : lv_has ls 2 [(0, .ref (A 3 0)), (1, .int p1)] := hl
  unfold f_X2_needAbsence at hf
  refine lv_aload_n hx hb dX2_needAbsence_0 rfl (lv_at hl 0 rfl) ?_
  refine va_get (D := D) (ci := 2) (v := .ref (A 0 0)) (C := RX2) (T := TX2) (N := 5) hx hb hu2 (fun _ h => h) hown hE.1 hP 0 rfl rfl 0 (Nat.le_of_ble_eq_true rfl) (hts (.fieldLink RX2 12 "CoverMeter" "now" "LCoverMeter$State;") (List.mem_of_getElem? (i := 3) rfl)) (fun _ h9 => h9) rfl dX2_needAbsence_1 ?_
  refine lv_iload_n hx hb dX2_needAbsence_4 rfl (lv_at hl 1 rfl) ?_
  obtain ⟨r1, hr1, hf⟩ := q_bd_go hf
  refine q_rdVi (w := (wST cI cJ (A 0) (CM_now S))) (ci := 1) (As := [.int p1]) (rest := []) hx hb hml hown hts (c_X1_hasAbsence l D cI cJ cS (A 0) (CM_now S) p1 _ hr1) (cwV 1 hts gX2_needAbsence_X1_hasAbsence rfl rfl rfl (by decide +kernel) ⟨(Nat.le_of_ble_eq_true rfl), (Nat.le_of_ble_eq_true rfl)⟩) hE (qr_now hP) rfl rfl rfl hl.1 rfl (Nat.le_of_ble_eq_true rfl) dX2_needAbsence_5 ⟨(Nat.le_of_ble_eq_true rfl), (Nat.le_of_ble_eq_true rfl)⟩ ?_
  refine lv_if_ne (tgt := 21) hx hb dX2_needAbsence_8 (by decide) (fun c2 => ?_) (fun c2 => ?_)
  · have hf := q_ite_t c2 hf
    have ho := q_some hf
    refine vx_ret ?_
    refine W.widen (k := 1) (n := 6) (Nat.le_of_ble_eq_true rfl) (Nat.le_of_ble_eq_true rfl) ?_
    exact W.vret hx hb hr (fun t ht hW => ⟨_, ho.symm, rfl, ht⟩) t_nil dX2_needAbsence_21
  · have hf := q_ite_n c2 hf
    have ho := q_some hf
    exact vx_throwS (sa := sa 2) (text := "there is no such absence") (names := ["java/lang/RuntimeException", "java/lang/Exception"]) hx hb hlt hown (by decide +kernel) (by decide +kernel) (hts (.classLink RX2 216 "java/lang/IndexOutOfBoundsException") (List.mem_of_getElem? (i := 1) rfl)) (hts (.initialized "java/lang/IndexOutOfBoundsException") (List.mem_of_getElem? (i := 2) rfl)) (hES.1 2 _ rfl) (vx_hat (fun w h => hts w (List.mem_cons_of_mem _ (List.mem_append_right _ h))) (B := [.castable "java/lang/IndexOutOfBoundsException" "java/lang/IndexOutOfBoundsException", .declares (Bundle.initS "java/lang/RuntimeException"), .declares (Bundle.initS "java/lang/Exception"), .declares (Bundle.initS Bundle.tN)]) (by decide +kernel) (vx_c (va_Nw.use rfl hES.2.1) (vx_c (va_Nw.use rfl hES.2.2.2.2.1) (vx_c (va_Nw.use rfl hES.2.2.2.2.2.1) (vx_c (va_Nw.use rfl hES.2.2.2.2.2.2) vx_n))))) (by decide +kernel) hZ.1 hZ.2.1 hS (hl.1.trans hml.symm) dX2_needAbsence_11 dX2_needAbsence_14 dX2_needAbsence_15 dX2_needAbsence_17 dX2_needAbsence_20 (fun z hz => (htab z hz).elim) (Nat.le_of_ble_eq_true rfl) (Nat.le_of_ble_eq_true rfl) (Nat.le_of_ble_eq_true rfl) (Nat.le_of_ble_eq_true rfl) hlocks (fun t hal hsz hk => ⟨ho.symm, hsz, fun q h1 _ => hk q h1⟩) (fun _ h => nomatch h) (Nat.le_of_ble_eq_true rfl) (Nat.le_of_ble_eq_true rfl)
section
variable {p : Program} {l : Launch} {e : Env} {R : Room} {s : State} {m : MethodId} {args : Array Value} {below : List Frame} {meth : Method} {c : Code} {H : Heap} {locs : List Loc} {cells slots : Nat} {Q : State → Prop} {pc : Nat} {ls : Array Slot} {rest : List Value}
theorem q_nmv {x y : Value} (h : x = y) (k : W p l e R s m args below meth c H locs cells slots Q (F0 m pc ls (y :: rest))) : W p l e R s m args below meth c H locs cells slots Q (F0 m pc ls (x :: rest)) := by rw [h]; exact k
end
def q_rot (S : CM) : CM := (CM_now S, CM_trial S, CM_s1 S, CM_s2 S, CM_s3 S, CM_s0 S, CM_ss S - 1, CM_or S)
abbrev rX2_dropOldest : Room := { frames := 0, cells := 0, slots := 0, locals := 0 }
set_option maxRecDepth 100000 in
set_option maxHeartbeats 8000000 in
theorem c_X2_dropOldest (l : Launch) (hlt : l.stackTraces = false) (D : va_G) (cI cJ cS : ClassId) (sa : Nat → Nat) (A : Nat → Nat → Nat) (g : Nat → Option Nat) (B : Nat → Nat → Nat) (hg : ∀ i, i < 4 → g i = some (B i 0)) (S : CM) (sz : Nat) : Met l yX2_dropOldest wsX2_dropOldest rX2_dropOldest (va_Pc [.ref (A 3 0)] (q_BWX D cI cJ cS sa (wCM cI cJ cS A g B S) sz)) (q_WE none D cI cJ cS A (q_rot S) (wCM cI cJ cS A g B S) sz) 0 0 (va_A (wCM cI cJ cS A g B S) sz) := by
  refine Met.ofW (cc := cX2_dropOldest) (maxL := 3) (ret := none) (by decide) rfl ?_
  intro p e s m args below meth c s₁ B9 hml hv
  obtain ⟨rfl, hsz, hP, hE, hD0, hES, hZ⟩ := hv
  have hx := B9.exec
  have hb := B9.bytes
  have hr := B9.returns
  have hts := atoms_spec (ws := wsX2_dropOldest) B9.pre
  have hown : s.vm.findClass RX2 = some m.cls := findClass_of_methodNamed B9.named
  have hlocks := B9.notSynchronized
  have hu2 : ∀ z ∈ wsX20, z.before _ s = true := fun z h => hts z (List.mem_cons_of_mem _ (List.mem_append_right _ h))
  subst hsz
  have hD := hD0.self (sz := s.heap.size)
  have hS : va_S (va_A (wCM cI cJ cS A g B S) s.heap.size) s.heap s.heap [] := va_S.rf
  have hl := lv_entry ([.ref (A 3 0)]) (n := 3) (Nat.le_of_ble_eq_true rfl)
  rw [lg_entry_eq]
  generalize (lg_sl ([.ref (A 3 0)]) ++ List.replicate (3 - (lg_sl ([.ref (A 3 0)])).length) Slot.unset).toArray = ls at hl ⊢
  have hl : lv_has ls 3 [(0, .ref (A 3 0))] := hl
  refine lv_aload_n hx hb dX2_dropOldest_0 rfl (lv_at hl 0 rfl) ?_
  refine va_get (D := D) (ci := 2) (v := .ref (A 3 1)) (C := RX2) (T := TX2) (N := 5) hx hb hu2 (fun _ h => h) hown hE.1 hP 0 rfl rfl 2 (Nat.le_of_ble_eq_true rfl) (hts (.fieldLink RX2 19 "CoverMeter" "saved" "[LCoverMeter$State;") (List.mem_of_getElem? (i := 1) rfl)) (fun _ h9 => h9) rfl dX2_dropOldest_1 ?_
  refine lv_iconst (v := 0) hx hb dX2_dropOldest_4 (by decide) ?_
  refine va_aldq hx hb hE.1 hP 1 2 rfl rfl (by unfold vp_in; decide) dX2_dropOldest_5 ?_
  refine q_nmv (y := .ref (B 0 0)) (by simp [va_up, va_rf, hg 0 (by decide), hg 1 (by decide), hg 2 (by decide), hg 3 (by decide)]) ?_
  refine lv_astore_n (lv' := [(1, .ref (B 0 0)), (0, .ref (A 3 0))]) hx hb dX2_dropOldest_6 rfl hl (by decide) rfl (fun ls hl => ?_)
  refine lv_iconst (v := 1) hx hb dX2_dropOldest_7 (by decide) ?_
  refine lv_istore_n (lv' := [(2, .int 1), (1, .ref (B 0 0)), (0, .ref (A 3 0))]) hx hb dX2_dropOldest_8 rfl hl (by decide) rfl (fun ls hl => ?_)
  refine lv_iload_n hx hb dX2_dropOldest_9 rfl (lv_at hl 0 rfl) ?_
  refine lv_iconst (v := 4) hx hb dX2_dropOldest_10 (by decide) ?_
  refine lv_icmp_ge (tgt := 34) hx hb dX2_dropOldest_11 (by decide) (fun c9 => absurd c9 (by decide)) (fun _ => ?_)
  refine lv_aload_n hx hb dX2_dropOldest_14 rfl (lv_at hl 2 rfl) ?_
  refine va_get (D := D) (ci := 2) (v := .ref (A 3 1)) (C := RX2) (T := TX2) (N := 5) hx hb hu2 (fun _ h => h) hown hE.1 hP 0 rfl rfl 2 (Nat.le_of_ble_eq_true rfl) (hts (.fieldLink RX2 19 "CoverMeter" "saved" "[LCoverMeter$State;") (List.mem_of_getElem? (i := 1) rfl)) (fun _ h9 => h9) rfl dX2_dropOldest_15 ?_
  refine lv_iload_n hx hb dX2_dropOldest_18 rfl (lv_at hl 0 rfl) ?_
  refine lv_iconst (v := 1) hx hb dX2_dropOldest_19 (by decide) ?_
  refine lv_isub hx hb dX2_dropOldest_20 ?_
  refine q_nmi (y := 0) (by decide) ?_
  refine lv_aload_n hx hb dX2_dropOldest_21 rfl (lv_at hl 2 rfl) ?_
  refine va_get (D := D) (ci := 2) (v := .ref (A 3 1)) (C := RX2) (T := TX2) (N := 5) hx hb hu2 (fun _ h => h) hown hE.1 hP 0 rfl rfl 2 (Nat.le_of_ble_eq_true rfl) (hts (.fieldLink RX2 19 "CoverMeter" "saved" "[LCoverMeter$State;") (List.mem_of_getElem? (i := 1) rfl)) (fun _ h9 => h9) rfl dX2_dropOldest_22 ?_
  refine lv_iload_n hx hb dX2_dropOldest_25 rfl (lv_at hl 0 rfl) ?_
  refine va_aldq hx hb hE.1 hP 1 2 rfl rfl (by unfold vp_in; decide) dX2_dropOldest_26 ?_
  refine q_nmv (y := .ref (B 1 0)) (by simp [va_up, va_rf, hg 0 (by decide), hg 1 (by decide), hg 2 (by decide), hg 3 (by decide)]) ?_
  refine va_astq hx hb hE.1 hP hD hS 1 2 41 1 rfl rfl rfl rfl (by unfold vp_in; decide) dX2_dropOldest_27 (fun H locs hP hD hS => ?_)
  have hP : va_P D vwCl (wCM cI cJ cS A (va_up g (0 : Int32).toNatClampNeg (some (B 1 0))) B S) H := hP
  have hD : va_D (va_A (wCM cI cJ cS A g B S) s.heap.size) (wCM cI cJ cS A (va_up g (0 : Int32).toNatClampNeg (some (B 1 0))) B S) := hD
  refine lv_iinc (v := 2) (lv' := [(2, .int 2), (1, .ref (B 0 0)), (0, .ref (A 3 0))]) hx hb dX2_dropOldest_28 hl (k := 0) rfl (by decide) (by decide) rfl (fun ls hl => ?_)
  refine lv_goto (tgt := 9) hx hb dX2_dropOldest_31 (by decide) ?_
  refine lv_iload_n hx hb dX2_dropOldest_9 rfl (lv_at hl 0 rfl) ?_
  refine lv_iconst (v := 4) hx hb dX2_dropOldest_10 (by decide) ?_
  refine lv_icmp_ge (tgt := 34) hx hb dX2_dropOldest_11 (by decide) (fun c9 => absurd c9 (by decide)) (fun _ => ?_)
  refine lv_aload_n hx hb dX2_dropOldest_14 rfl (lv_at hl 2 rfl) ?_
  refine va_get (D := D) (ci := 2) (v := .ref (A 3 1)) (C := RX2) (T := TX2) (N := 5) hx hb hu2 (fun _ h => h) hown hE.1 hP 0 rfl rfl 2 (Nat.le_of_ble_eq_true rfl) (hts (.fieldLink RX2 19 "CoverMeter" "saved" "[LCoverMeter$State;") (List.mem_of_getElem? (i := 1) rfl)) (fun _ h9 => h9) rfl dX2_dropOldest_15 ?_
  refine lv_iload_n hx hb dX2_dropOldest_18 rfl (lv_at hl 0 rfl) ?_
  refine lv_iconst (v := 1) hx hb dX2_dropOldest_19 (by decide) ?_
  refine lv_isub hx hb dX2_dropOldest_20 ?_
  refine q_nmi (y := 1) (by decide) ?_
  refine lv_aload_n hx hb dX2_dropOldest_21 rfl (lv_at hl 2 rfl) ?_
  refine va_get (D := D) (ci := 2) (v := .ref (A 3 1)) (C := RX2) (T := TX2) (N := 5) hx hb hu2 (fun _ h => h) hown hE.1 hP 0 rfl rfl 2 (Nat.le_of_ble_eq_true rfl) (hts (.fieldLink RX2 19 "CoverMeter" "saved" "[LCoverMeter$State;") (List.mem_of_getElem? (i := 1) rfl)) (fun _ h9 => h9) rfl dX2_dropOldest_22 ?_
  refine lv_iload_n hx hb dX2_dropOldest_25 rfl (lv_at hl 0 rfl) ?_
  refine va_aldq hx hb hE.1 hP 1 2 rfl rfl (by unfold vp_in; decide) dX2_dropOldest_26 ?_
  refine q_nmv (y := .ref (B 2 0)) (by simp [va_up, va_rf, hg 0 (by decide), hg 1 (by decide), hg 2 (by decide), hg 3 (by decide)]) ?_
  refine va_astq hx hb hE.1 hP hD hS 1 2 54 1 rfl rfl rfl rfl (by unfold vp_in; decide) dX2_dropOldest_27 (fun H locs hP hD hS => ?_)
  have hP : va_P D vwCl (wCM cI cJ cS A (va_up (va_up g (0 : Int32).toNatClampNeg (some (B 1 0))) (1 : Int32).toNatClampNeg (some (B 2 0))) B S) H := hP
  have hD : va_D (va_A (wCM cI cJ cS A g B S) s.heap.size) (wCM cI cJ cS A (va_up (va_up g (0 : Int32).toNatClampNeg (some (B 1 0))) (1 : Int32).toNatClampNeg (some (B 2 0))) B S) := hD
  refine lv_iinc (v := 3) (lv' := [(2, .int 3), (1, .ref (B 0 0)), (0, .ref (A 3 0))]) hx hb dX2_dropOldest_28 hl (k := 0) rfl (by decide) (by decide) rfl (fun ls hl => ?_)
  refine lv_goto (tgt := 9) hx hb dX2_dropOldest_31 (by decide) ?_
  refine lv_iload_n hx hb dX2_dropOldest_9 rfl (lv_at hl 0 rfl) ?_
  refine lv_iconst (v := 4) hx hb dX2_dropOldest_10 (by decide) ?_
  refine lv_icmp_ge (tgt := 34) hx hb dX2_dropOldest_11 (by decide) (fun c9 => absurd c9 (by decide)) (fun _ => ?_)
  refine lv_aload_n hx hb dX2_dropOldest_14 rfl (lv_at hl 2 rfl) ?_
  refine va_get (D := D) (ci := 2) (v := .ref (A 3 1)) (C := RX2) (T := TX2) (N := 5) hx hb hu2 (fun _ h => h) hown hE.1 hP 0 rfl rfl 2 (Nat.le_of_ble_eq_true rfl) (hts (.fieldLink RX2 19 "CoverMeter" "saved" "[LCoverMeter$State;") (List.mem_of_getElem? (i := 1) rfl)) (fun _ h9 => h9) rfl dX2_dropOldest_15 ?_
  refine lv_iload_n hx hb dX2_dropOldest_18 rfl (lv_at hl 0 rfl) ?_
  refine lv_iconst (v := 1) hx hb dX2_dropOldest_19 (by decide) ?_
  refine lv_isub hx hb dX2_dropOldest_20 ?_
  refine q_nmi (y := 2) (by decide) ?_
  refine lv_aload_n hx hb dX2_dropOldest_21 rfl (lv_at hl 2 rfl) ?_
  refine va_get (D := D) (ci := 2) (v := .ref (A 3 1)) (C := RX2) (T := TX2) (N := 5) hx hb hu2 (fun _ h => h) hown hE.1 hP 0 rfl rfl 2 (Nat.le_of_ble_eq_true rfl) (hts (.fieldLink RX2 19 "CoverMeter" "saved" "[LCoverMeter$State;") (List.mem_of_getElem? (i := 1) rfl)) (fun _ h9 => h9) rfl dX2_dropOldest_22 ?_
  refine lv_iload_n hx hb dX2_dropOldest_25 rfl (lv_at hl 0 rfl) ?_
  refine va_aldq hx hb hE.1 hP 1 2 rfl rfl (by unfold vp_in; decide) dX2_dropOldest_26 ?_
  refine q_nmv (y := .ref (B 3 0)) (by simp [va_up, va_rf, hg 0 (by decide), hg 1 (by decide), hg 2 (by decide), hg 3 (by decide)]) ?_
  refine va_astq hx hb hE.1 hP hD hS 1 2 67 1 rfl rfl rfl rfl (by unfold vp_in; decide) dX2_dropOldest_27 (fun H locs hP hD hS => ?_)
  have hP : va_P D vwCl (wCM cI cJ cS A (va_up (va_up (va_up g (0 : Int32).toNatClampNeg (some (B 1 0))) (1 : Int32).toNatClampNeg (some (B 2 0))) (2 : Int32).toNatClampNeg (some (B 3 0))) B S) H := hP
  have hD : va_D (va_A (wCM cI cJ cS A g B S) s.heap.size) (wCM cI cJ cS A (va_up (va_up (va_up g (0 : Int32).toNatClampNeg (some (B 1 0))) (1 : Int32).toNatClampNeg (some (B 2 0))) (2 : Int32).toNatClampNeg (some (B 3 0))) B S) := hD
  refine lv_iinc (v := 4) (lv' := [(2, .int 4), (1, .ref (B 0 0)), (0, .ref (A 3 0))]) hx hb dX2_dropOldest_28 hl (k := 0) rfl (by decide) (by decide) rfl (fun ls hl => ?_)
  refine lv_goto (tgt := 9) hx hb dX2_dropOldest_31 (by decide) ?_
  refine lv_iload_n hx hb dX2_dropOldest_9 rfl (lv_at hl 0 rfl) ?_
  refine lv_iconst (v := 4) hx hb dX2_dropOldest_10 (by decide) ?_
  refine lv_icmp_ge (tgt := 34) hx hb dX2_dropOldest_11 (by decide) (fun _ => ?_) (fun c9 => absurd (by decide) c9)
  refine lv_aload_n hx hb dX2_dropOldest_34 rfl (lv_at hl 2 rfl) ?_
  refine va_get (D := D) (ci := 2) (v := .ref (A 3 1)) (C := RX2) (T := TX2) (N := 5) hx hb hu2 (fun _ h => h) hown hE.1 hP 0 rfl rfl 2 (Nat.le_of_ble_eq_true rfl) (hts (.fieldLink RX2 19 "CoverMeter" "saved" "[LCoverMeter$State;") (List.mem_of_getElem? (i := 1) rfl)) (fun _ h9 => h9) rfl dX2_dropOldest_35 ?_
  refine lv_iconst (v := 3) hx hb dX2_dropOldest_38 (by decide) ?_
  refine lv_aload_n hx hb dX2_dropOldest_39 rfl (lv_at hl 1 rfl) ?_
  refine va_astq hx hb hE.1 hP hD hS 1 2 28 1 rfl rfl rfl rfl (by unfold vp_in; decide) dX2_dropOldest_40 (fun H locs hP hD hS => ?_)
  have hP : va_P D vwCl (wCM cI cJ cS A (va_up (va_up (va_up (va_up g (0 : Int32).toNatClampNeg (some (B 1 0))) (1 : Int32).toNatClampNeg (some (B 2 0))) (2 : Int32).toNatClampNeg (some (B 3 0))) (3 : Int32).toNatClampNeg (some (B 0 0))) B S) H := hP
  have hD : va_D (va_A (wCM cI cJ cS A g B S) s.heap.size) (wCM cI cJ cS A (va_up (va_up (va_up (va_up g (0 : Int32).toNatClampNeg (some (B 1 0))) (1 : Int32).toNatClampNeg (some (B 2 0))) (2 : Int32).toNatClampNeg (some (B 3 0))) (3 : Int32).toNatClampNeg (some (B 0 0))) B S) := hD
  refine lv_aload_n hx hb dX2_dropOldest_41 rfl (lv_at hl 2 rfl) ?_
  refine lv_dup hx hb dX2_dropOldest_42 rfl ?_
  refine va_get (D := D) (ci := 2) (v := .int (CM_ss S)) (C := RX2) (T := TX2) (N := 5) hx hb hu2 (fun _ h => h) hown hE.1 hP 0 rfl rfl 3 (Nat.le_of_ble_eq_true rfl) (hts (.fieldLink RX2 196 "CoverMeter" "savedStates" "I") (List.mem_of_getElem? (i := 2) rfl)) (fun _ h9 => h9) rfl dX2_dropOldest_43 ?_
  refine lv_iconst (v := 1) hx hb dX2_dropOldest_46 (by decide) ?_
  refine lv_isub hx hb dX2_dropOldest_47 ?_
  obtain ⟨S1, eS1⟩ : ∃ z, sCM_ss S ((CM_ss S) - 1) = z := ⟨_, rfl⟩
  refine va_put (D := D) (ci := 2) (v := .int ((CM_ss S) - 1)) (ty := .int) (C := RX2) (T := TX2) (N := 5) hx hb hu2 (fun _ h => h) tyX2 tyX2_ok nmX2 hown hE.1 hP hD hS 0 rfl rfl 3 (Nat.le_of_ble_eq_true rfl) (hts (.fieldLink RX2 196 "CoverMeter" "savedStates" "I") (List.mem_of_getElem? (i := 2) rfl)) (fun _ h9 => h9) rfl (by decide +kernel) rfl rfl (Nat.le_of_ble_eq_true rfl) dX2_dropOldest_48 (fun H locs hP hD hS => ?_)
  have hP : va_P D vwCl (wCM cI cJ cS A (va_up (va_up (va_up (va_up g (0 : Int32).toNatClampNeg (some (B 1 0))) (1 : Int32).toNatClampNeg (some (B 2 0))) (2 : Int32).toNatClampNeg (some (B 3 0))) (3 : Int32).toNatClampNeg (some (B 0 0))) B (sCM_ss S ((CM_ss S) - 1))) H := hP
  have hD : va_D (va_A (wCM cI cJ cS A g B S) s.heap.size) (wCM cI cJ cS A (va_up (va_up (va_up (va_up g (0 : Int32).toNatClampNeg (some (B 1 0))) (1 : Int32).toNatClampNeg (some (B 2 0))) (2 : Int32).toNatClampNeg (some (B 3 0))) (3 : Int32).toNatClampNeg (some (B 0 0))) B (sCM_ss S ((CM_ss S) - 1))) := hD
  rw [eS1] at hP hD
  have hP9 : va_P D vwCl (wCM cI cJ cS A (va_up (va_up (va_up (va_up g (0 : Int32).toNatClampNeg (some (B 1 0))) (1 : Int32).toNatClampNeg (some (B 2 0))) (2 : Int32).toNatClampNeg (some (B 3 0))) (3 : Int32).toNatClampNeg (some (B 0 0))) (fun i => if i = 0 then B 1 else if i = 1 then B 2 else if i = 2 then B 3 else if i = 3 then B 0 else B i) (q_rot S)) H := by rw [← eS1] at hP; exact hP.sub [0, 1, 2, 3, 4, 5, 6, 7, 8, 9, 10, 11, 12, 13, 14, 15, 16, 17, 18, 19, 20, 21, 22, 23, 24, 25, 26, 27, 41, 42, 43, 44, 45, 46, 47, 48, 49, 50, 51, 52, 53, 54, 55, 56, 57, 58, 59, 60, 61, 62, 63, 64, 65, 66, 67, 68, 69, 70, 71, 72, 73, 74, 75, 76, 77, 78, 79, 28, 29, 30, 31, 32, 33, 34, 35, 36, 37, 38, 39, 40, 80, 81] rfl
  have hD9 : va_D (va_A (wCM cI cJ cS A g B S) s.heap.size) (wCM cI cJ cS A (va_up (va_up (va_up (va_up g (0 : Int32).toNatClampNeg (some (B 1 0))) (1 : Int32).toNatClampNeg (some (B 2 0))) (2 : Int32).toNatClampNeg (some (B 3 0))) (3 : Int32).toNatClampNeg (some (B 0 0))) (fun i => if i = 0 then B 1 else if i = 1 then B 2 else if i = 2 then B 3 else if i = 3 then B 0 else B i) (q_rot S)) := by rw [← eS1] at hD; exact hD.sub [0, 1, 2, 3, 4, 5, 6, 7, 8, 9, 10, 11, 12, 13, 14, 15, 16, 17, 18, 19, 20, 21, 22, 23, 24, 25, 26, 27, 41, 42, 43, 44, 45, 46, 47, 48, 49, 50, 51, 52, 53, 54, 55, 56, 57, 58, 59, 60, 61, 62, 63, 64, 65, 66, 67, 68, 69, 70, 71, 72, 73, 74, 75, 76, 77, 78, 79, 28, 29, 30, 31, 32, 33, 34, 35, 36, 37, 38, 39, 40, 80, 81] (by decide +kernel) rfl
  exact W.vret hx hb hr (fun t ht hW => ⟨rfl, ⟨_, ⟨_, _, (fun i hi => by rcases (show i = 0 ∨ i = 1 ∨ i = 2 ∨ i = 3 by omega) with rfl | rfl | rfl | rfl <;> simp [va_up]), rfl⟩, by rw [ht]; exact hP9, hD9⟩, hS.F ht⟩) hS.2.2 dX2_dropOldest_51
def q_sv0 (S : CM) : CM := sCM_ss (sCM_s0 S (cp_ST (CM_s0 S) (CM_now S))) 1
def q_sv1 (S : CM) : CM := sCM_ss (sCM_s1 S (cp_ST (CM_s1 S) (CM_now S))) 2
def q_sv2 (S : CM) : CM := sCM_ss (sCM_s2 S (cp_ST (CM_s2 S) (CM_now S))) 3
def q_sv3 (S : CM) : CM := sCM_ss (sCM_s3 S (cp_ST (CM_s3 S) (CM_now S))) 4
abbrev rX2_save : Room := { frames := 2, cells := 0, slots := 0, locals := 81 }
set_option maxRecDepth 100000 in
set_option maxHeartbeats 8000000 in
theorem c_X2_save_0 (l : Launch) (hlt : l.stackTraces = false) (D : va_G) (cI cJ cS : ClassId) (sa : Nat → Nat) (A : Nat → Nat → Nat) (g : Nat → Option Nat) (B : Nat → Nat → Nat) (hg : ∀ i, i < 4 → g i = some (B i 0)) (S : CM) (sz : Nat) (hss : CM_ss S = 0) : Met l yX2_save wsX2_save rX2_save (va_Pc [.ref (A 3 0)] (q_BWX D cI cJ cS sa (wCM cI cJ cS A g B S) sz)) (q_WE none D cI cJ cS A (q_sv0 S) (wCM cI cJ cS A g B S) sz) 0 0 (va_A (wCM cI cJ cS A g B S) sz) := by
  refine Met.ofW (cc := cX2_save) (maxL := 1) (ret := none) (by decide) rfl ?_
  intro p e s m args below meth c s₁ B9 hml hv
  obtain ⟨rfl, hsz, hP, hE, hD0, hES, hZ⟩ := hv
  have hx := B9.exec
  have hb := B9.bytes
  have hr := B9.returns
  have hts := atoms_spec (ws := wsX2_save) B9.pre
  have hown : s.vm.findClass RX2 = some m.cls := findClass_of_methodNamed B9.named
  have hlocks := B9.notSynchronized
  have hu1 : ∀ z ∈ wsX10, z.before _ s = true := fun z h => hts z (List.mem_cons_of_mem _ (List.mem_append_right _ h))
  have hu2 : ∀ z ∈ wsX20, z.before _ s = true := fun z h => hts z (List.mem_cons_of_mem _ (List.mem_append_left _ (List.mem_append_right _ h)))
  subst hsz
  have hD := hD0.self (sz := s.heap.size)
  have hS : va_S (va_A (wCM cI cJ cS A g B S) s.heap.size) s.heap s.heap [] := va_S.rf
  have hl := lv_entry ([.ref (A 3 0)]) (n := 1) (Nat.le_of_ble_eq_true rfl)
  rw [lg_entry_eq]
  generalize (lg_sl ([.ref (A 3 0)]) ++ List.replicate (1 - (lg_sl ([.ref (A 3 0)])).length) Slot.unset).toArray = ls at hl ⊢
  have hl : lv_has ls 1 [(0, .ref (A 3 0))] := hl
  refine lv_aload_n hx hb dX2_save_0 rfl (lv_at hl 0 rfl) ?_
  refine va_get (D := D) (ci := 2) (v := .int (CM_ss S)) (C := RX2) (T := TX2) (N := 5) hx hb hu2 (fun _ h => h) hown hE.1 hP 0 rfl rfl 3 (Nat.le_of_ble_eq_true rfl) (hts (.fieldLink RX2 196 "CoverMeter" "savedStates" "I") (List.mem_of_getElem? (i := 1) rfl)) (fun _ h9 => h9) rfl dX2_save_1 ?_
  refine q_nmi (y := 0) hss ?_
  refine lv_iconst (v := 4) hx hb dX2_save_4 (by decide) ?_
  refine lv_icmp_ne (tgt := 12) hx hb dX2_save_5 (by decide) (fun _ => ?_) (fun c9 => absurd c9 (by decide))
  refine lv_aload_n hx hb dX2_save_12 rfl (lv_at hl 0 rfl) ?_
  refine va_get (D := D) (ci := 2) (v := .ref (A 3 1)) (C := RX2) (T := TX2) (N := 5) hx hb hu2 (fun _ h => h) hown hE.1 hP 0 rfl rfl 2 (Nat.le_of_ble_eq_true rfl) (hts (.fieldLink RX2 19 "CoverMeter" "saved" "[LCoverMeter$State;") (List.mem_of_getElem? (i := 2) rfl)) (fun _ h9 => h9) rfl dX2_save_13 ?_
  refine lv_aload_n hx hb dX2_save_16 rfl (lv_at hl 0 rfl) ?_
  refine va_get (D := D) (ci := 2) (v := .int (CM_ss S)) (C := RX2) (T := TX2) (N := 5) hx hb hu2 (fun _ h => h) hown hE.1 hP 0 rfl rfl 3 (Nat.le_of_ble_eq_true rfl) (hts (.fieldLink RX2 196 "CoverMeter" "savedStates" "I") (List.mem_of_getElem? (i := 1) rfl)) (fun _ h9 => h9) rfl dX2_save_17 ?_
  refine q_nmi (y := 0) hss ?_
  refine va_aldq hx hb hE.1 hP 1 2 rfl rfl (by unfold vp_in; decide) dX2_save_20 ?_
  refine q_nmv (y := .ref (B 0 0)) (by simp [va_up, va_rf, hg 0 (by decide), hg 1 (by decide), hg 2 (by decide), hg 3 (by decide)]) ?_
  refine lv_aload_n hx hb dX2_save_21 rfl (lv_at hl 0 rfl) ?_
  refine va_get (D := D) (ci := 2) (v := .ref (A 0 0)) (C := RX2) (T := TX2) (N := 5) hx hb hu2 (fun _ h => h) hown hE.1 hP 0 rfl rfl 0 (Nat.le_of_ble_eq_true rfl) (hts (.fieldLink RX2 12 "CoverMeter" "now" "LCoverMeter$State;") (List.mem_of_getElem? (i := 3) rfl)) (fun _ h9 => h9) rfl dX2_save_22 ?_
  obtain ⟨S1, eS1⟩ : ∃ z, sCM_s0 S (cp_ST (CM_s0 S) (CM_now S)) = z := ⟨_, rfl⟩
  refine q_wrC (v := none) (w := wST cI cJ (B 0) (CM_s0 S) ++ wST cI cJ (A 0) (CM_now S)) (ci := 1) (As := [.ref (A 0 0)]) (rest := []) hx hb hml hown hts (c_X1_copyFrom l D cI cJ cS (B 0) (A 0) (CM_s0 S) (CM_now S) _) (cwV 1 hts gX2_save_X1_copyFrom rfl rfl rfl (by decide +kernel) ⟨(Nat.le_of_ble_eq_true rfl), (Nat.le_of_ble_eq_true rfl)⟩) hE (qp_s0_now hP) (qd_s0_now hD) hS (fun q h => Or.inr h) (fun H1 hF hk h1 h2 => qs_s0_now (z := cp_ST (CM_s0 S) (CM_now S)) hP hD hF hk h1 h2) rfl rfl rfl hl.1 rfl (Nat.le_of_ble_eq_true rfl) dX2_save_25 ⟨(Nat.le_of_ble_eq_true rfl), (Nat.le_of_ble_eq_true rfl)⟩ (fun H locs hP hD hS => ?_)
  rw [eS1] at hP hD
  refine lv_aload_n hx hb dX2_save_28 rfl (lv_at hl 0 rfl) ?_
  refine lv_dup hx hb dX2_save_29 rfl ?_
  refine va_get (D := D) (ci := 2) (v := .int (CM_ss S1)) (C := RX2) (T := TX2) (N := 5) hx hb hu2 (fun _ h => h) hown hE.1 hP 0 rfl rfl 3 (Nat.le_of_ble_eq_true rfl) (hts (.fieldLink RX2 196 "CoverMeter" "savedStates" "I") (List.mem_of_getElem? (i := 1) rfl)) (fun _ h9 => h9) rfl dX2_save_30 ?_
  refine q_nmi (y := 0) (by rw [← eS1]; exact hss) ?_
  refine lv_iconst (v := 1) hx hb dX2_save_33 (by decide) ?_
  refine lv_iadd hx hb dX2_save_34 ?_
  refine q_nmi (y := 1) (by decide) ?_
  obtain ⟨S2, eS2⟩ : ∃ z, sCM_ss S1 1 = z := ⟨_, rfl⟩
  refine va_put (D := D) (ci := 2) (v := .int 1) (ty := .int) (C := RX2) (T := TX2) (N := 5) hx hb hu2 (fun _ h => h) tyX2 tyX2_ok nmX2 hown hE.1 hP hD hS 0 rfl rfl 3 (Nat.le_of_ble_eq_true rfl) (hts (.fieldLink RX2 196 "CoverMeter" "savedStates" "I") (List.mem_of_getElem? (i := 1) rfl)) (fun _ h9 => h9) rfl (by decide +kernel) rfl rfl (Nat.le_of_ble_eq_true rfl) dX2_save_35 (fun H locs hP hD hS => ?_)
  have hP : va_P D vwCl (wCM cI cJ cS A g B (sCM_ss S1 1)) H := hP
  have hD : va_D (va_A (wCM cI cJ cS A g B S) s.heap.size) (wCM cI cJ cS A g B (sCM_ss S1 1)) := hD
  rw [eS2] at hP hD
  have eF : S2 = q_sv0 S := by rw [← eS2, ← eS1]; rfl
  rw [eF] at hP hD
  exact W.vret hx hb hr (fun t ht hW => ⟨rfl, ⟨_, ⟨_, _, hg, rfl⟩, by rw [ht]; exact hP, hD⟩, hS.F ht⟩) hS.2.2 dX2_save_38
set_option maxRecDepth 100000 in
set_option maxHeartbeats 8000000 in
theorem c_X2_save_1 (l : Launch) (hlt : l.stackTraces = false) (D : va_G) (cI cJ cS : ClassId) (sa : Nat → Nat) (A : Nat → Nat → Nat) (g : Nat → Option Nat) (B : Nat → Nat → Nat) (hg : ∀ i, i < 4 → g i = some (B i 0)) (S : CM) (sz : Nat) (hss : CM_ss S = 1) : Met l yX2_save wsX2_save rX2_save (va_Pc [.ref (A 3 0)] (q_BWX D cI cJ cS sa (wCM cI cJ cS A g B S) sz)) (q_WE none D cI cJ cS A (q_sv1 S) (wCM cI cJ cS A g B S) sz) 0 0 (va_A (wCM cI cJ cS A g B S) sz) := by
  refine Met.ofW (cc := cX2_save) (maxL := 1) (ret := none) (by decide) rfl ?_
  intro p e s m args below meth c s₁ B9 hml hv
  obtain ⟨rfl, hsz, hP, hE, hD0, hES, hZ⟩ := hv
  have hx := B9.exec
  have hb := B9.bytes
  have hr := B9.returns
  have hts := atoms_spec (ws := wsX2_save) B9.pre
  have hown : s.vm.findClass RX2 = some m.cls := findClass_of_methodNamed B9.named
  have hlocks := B9.notSynchronized
  have hu1 : ∀ z ∈ wsX10, z.before _ s = true := fun z h => hts z (List.mem_cons_of_mem _ (List.mem_append_right _ h))
  have hu2 : ∀ z ∈ wsX20, z.before _ s = true := fun z h => hts z (List.mem_cons_of_mem _ (List.mem_append_left _ (List.mem_append_right _ h)))
  subst hsz
  have hD := hD0.self (sz := s.heap.size)
  have hS : va_S (va_A (wCM cI cJ cS A g B S) s.heap.size) s.heap s.heap [] := va_S.rf
  have hl := lv_entry ([.ref (A 3 0)]) (n := 1) (Nat.le_of_ble_eq_true rfl)
  rw [lg_entry_eq]
  generalize (lg_sl ([.ref (A 3 0)]) ++ List.replicate (1 - (lg_sl ([.ref (A 3 0)])).length) Slot.unset).toArray = ls at hl ⊢
  have hl : lv_has ls 1 [(0, .ref (A 3 0))] := hl
  refine lv_aload_n hx hb dX2_save_0 rfl (lv_at hl 0 rfl) ?_
  refine va_get (D := D) (ci := 2) (v := .int (CM_ss S)) (C := RX2) (T := TX2) (N := 5) hx hb hu2 (fun _ h => h) hown hE.1 hP 0 rfl rfl 3 (Nat.le_of_ble_eq_true rfl) (hts (.fieldLink RX2 196 "CoverMeter" "savedStates" "I") (List.mem_of_getElem? (i := 1) rfl)) (fun _ h9 => h9) rfl dX2_save_1 ?_
  refine q_nmi (y := 1) hss ?_
  refine lv_iconst (v := 4) hx hb dX2_save_4 (by decide) ?_
  refine lv_icmp_ne (tgt := 12) hx hb dX2_save_5 (by decide) (fun _ => ?_) (fun c9 => absurd c9 (by decide))
  refine lv_aload_n hx hb dX2_save_12 rfl (lv_at hl 0 rfl) ?_
  refine va_get (D := D) (ci := 2) (v := .ref (A 3 1)) (C := RX2) (T := TX2) (N := 5) hx hb hu2 (fun _ h => h) hown hE.1 hP 0 rfl rfl 2 (Nat.le_of_ble_eq_true rfl) (hts (.fieldLink RX2 19 "CoverMeter" "saved" "[LCoverMeter$State;") (List.mem_of_getElem? (i := 2) rfl)) (fun _ h9 => h9) rfl dX2_save_13 ?_
  refine lv_aload_n hx hb dX2_save_16 rfl (lv_at hl 0 rfl) ?_
  refine va_get (D := D) (ci := 2) (v := .int (CM_ss S)) (C := RX2) (T := TX2) (N := 5) hx hb hu2 (fun _ h => h) hown hE.1 hP 0 rfl rfl 3 (Nat.le_of_ble_eq_true rfl) (hts (.fieldLink RX2 196 "CoverMeter" "savedStates" "I") (List.mem_of_getElem? (i := 1) rfl)) (fun _ h9 => h9) rfl dX2_save_17 ?_
  refine q_nmi (y := 1) hss ?_
  refine va_aldq hx hb hE.1 hP 1 2 rfl rfl (by unfold vp_in; decide) dX2_save_20 ?_
  refine q_nmv (y := .ref (B 1 0)) (by simp [va_up, va_rf, hg 0 (by decide), hg 1 (by decide), hg 2 (by decide), hg 3 (by decide)]) ?_
  refine lv_aload_n hx hb dX2_save_21 rfl (lv_at hl 0 rfl) ?_
  refine va_get (D := D) (ci := 2) (v := .ref (A 0 0)) (C := RX2) (T := TX2) (N := 5) hx hb hu2 (fun _ h => h) hown hE.1 hP 0 rfl rfl 0 (Nat.le_of_ble_eq_true rfl) (hts (.fieldLink RX2 12 "CoverMeter" "now" "LCoverMeter$State;") (List.mem_of_getElem? (i := 3) rfl)) (fun _ h9 => h9) rfl dX2_save_22 ?_
  obtain ⟨S1, eS1⟩ : ∃ z, sCM_s1 S (cp_ST (CM_s1 S) (CM_now S)) = z := ⟨_, rfl⟩
  refine q_wrC (v := none) (w := wST cI cJ (B 1) (CM_s1 S) ++ wST cI cJ (A 0) (CM_now S)) (ci := 1) (As := [.ref (A 0 0)]) (rest := []) hx hb hml hown hts (c_X1_copyFrom l D cI cJ cS (B 1) (A 0) (CM_s1 S) (CM_now S) _) (cwV 1 hts gX2_save_X1_copyFrom rfl rfl rfl (by decide +kernel) ⟨(Nat.le_of_ble_eq_true rfl), (Nat.le_of_ble_eq_true rfl)⟩) hE (qp_s1_now hP) (qd_s1_now hD) hS (fun q h => Or.inr h) (fun H1 hF hk h1 h2 => qs_s1_now (z := cp_ST (CM_s1 S) (CM_now S)) hP hD hF hk h1 h2) rfl rfl rfl hl.1 rfl (Nat.le_of_ble_eq_true rfl) dX2_save_25 ⟨(Nat.le_of_ble_eq_true rfl), (Nat.le_of_ble_eq_true rfl)⟩ (fun H locs hP hD hS => ?_)
  rw [eS1] at hP hD
  refine lv_aload_n hx hb dX2_save_28 rfl (lv_at hl 0 rfl) ?_
  refine lv_dup hx hb dX2_save_29 rfl ?_
  refine va_get (D := D) (ci := 2) (v := .int (CM_ss S1)) (C := RX2) (T := TX2) (N := 5) hx hb hu2 (fun _ h => h) hown hE.1 hP 0 rfl rfl 3 (Nat.le_of_ble_eq_true rfl) (hts (.fieldLink RX2 196 "CoverMeter" "savedStates" "I") (List.mem_of_getElem? (i := 1) rfl)) (fun _ h9 => h9) rfl dX2_save_30 ?_
  refine q_nmi (y := 1) (by rw [← eS1]; exact hss) ?_
  refine lv_iconst (v := 1) hx hb dX2_save_33 (by decide) ?_
  refine lv_iadd hx hb dX2_save_34 ?_
  refine q_nmi (y := 2) (by decide) ?_
  obtain ⟨S2, eS2⟩ : ∃ z, sCM_ss S1 2 = z := ⟨_, rfl⟩
  refine va_put (D := D) (ci := 2) (v := .int 2) (ty := .int) (C := RX2) (T := TX2) (N := 5) hx hb hu2 (fun _ h => h) tyX2 tyX2_ok nmX2 hown hE.1 hP hD hS 0 rfl rfl 3 (Nat.le_of_ble_eq_true rfl) (hts (.fieldLink RX2 196 "CoverMeter" "savedStates" "I") (List.mem_of_getElem? (i := 1) rfl)) (fun _ h9 => h9) rfl (by decide +kernel) rfl rfl (Nat.le_of_ble_eq_true rfl) dX2_save_35 (fun H locs hP hD hS => ?_)
  have hP : va_P D vwCl (wCM cI cJ cS A g B (sCM_ss S1 2)) H := hP
  have hD : va_D (va_A (wCM cI cJ cS A g B S) s.heap.size) (wCM cI cJ cS A g B (sCM_ss S1 2)) := hD
  rw [eS2] at hP hD
  have eF : S2 = q_sv1 S := by rw [← eS2, ← eS1]; rfl
  rw [eF] at hP hD
  exact W.vret hx hb hr (fun t ht hW => ⟨rfl, ⟨_, ⟨_, _, hg, rfl⟩, by rw [ht]; exact hP, hD⟩, hS.F ht⟩) hS.2.2 dX2_save_38
set_option maxRecDepth 100000 in
set_option maxHeartbeats 8000000 in
theorem c_X2_save_2 (l : Launch) (hlt : l.stackTraces = false) (D : va_G) (cI cJ cS : ClassId) (sa : Nat → Nat) (A : Nat → Nat → Nat) (g : Nat → Option Nat) (B : Nat → Nat → Nat) (hg : ∀ i, i < 4 → g i = some (B i 0)) (S : CM) (sz : Nat) (hss : CM_ss S = 2) : Met l yX2_save wsX2_save rX2_save (va_Pc [.ref (A 3 0)] (q_BWX D cI cJ cS sa (wCM cI cJ cS A g B S) sz)) (q_WE none D cI cJ cS A (q_sv2 S) (wCM cI cJ cS A g B S) sz) 0 0 (va_A (wCM cI cJ cS A g B S) sz) := by
  refine Met.ofW (cc := cX2_save) (maxL := 1) (ret := none) (by decide) rfl ?_
  intro p e s m args below meth c s₁ B9 hml hv
  obtain ⟨rfl, hsz, hP, hE, hD0, hES, hZ⟩ := hv
  have hx := B9.exec
  have hb := B9.bytes
  have hr := B9.returns
  have hts := atoms_spec (ws := wsX2_save) B9.pre
  have hown : s.vm.findClass RX2 = some m.cls := findClass_of_methodNamed B9.named
  have hlocks := B9.notSynchronized
  have hu1 : ∀ z ∈ wsX10, z.before _ s = true := fun z h => hts z (List.mem_cons_of_mem _ (List.mem_append_right _ h))
  have hu2 : ∀ z ∈ wsX20, z.before _ s = true := fun z h => hts z (List.mem_cons_of_mem _ (List.mem_append_left _ (List.mem_append_right _ h)))
  subst hsz
  have hD := hD0.self (sz := s.heap.size)
  have hS : va_S (va_A (wCM cI cJ cS A g B S) s.heap.size) s.heap s.heap [] := va_S.rf
  have hl := lv_entry ([.ref (A 3 0)]) (n := 1) (Nat.le_of_ble_eq_true rfl)
  rw [lg_entry_eq]
  generalize (lg_sl ([.ref (A 3 0)]) ++ List.replicate (1 - (lg_sl ([.ref (A 3 0)])).length) Slot.unset).toArray = ls at hl ⊢
  have hl : lv_has ls 1 [(0, .ref (A 3 0))] := hl
  refine lv_aload_n hx hb dX2_save_0 rfl (lv_at hl 0 rfl) ?_
  refine va_get (D := D) (ci := 2) (v := .int (CM_ss S)) (C := RX2) (T := TX2) (N := 5) hx hb hu2 (fun _ h => h) hown hE.1 hP 0 rfl rfl 3 (Nat.le_of_ble_eq_true rfl) (hts (.fieldLink RX2 196 "CoverMeter" "savedStates" "I") (List.mem_of_getElem? (i := 1) rfl)) (fun _ h9 => h9) rfl dX2_save_1 ?_
  refine q_nmi (y := 2) hss ?_
  refine lv_iconst (v := 4) hx hb dX2_save_4 (by decide) ?_
  refine lv_icmp_ne (tgt := 12) hx hb dX2_save_5 (by decide) (fun _ => ?_) (fun c9 => absurd c9 (by decide))
  refine lv_aload_n hx hb dX2_save_12 rfl (lv_at hl 0 rfl) ?_
  refine va_get (D := D) (ci := 2) (v := .ref (A 3 1)) (C := RX2) (T := TX2) (N := 5) hx hb hu2 (fun _ h => h) hown hE.1 hP 0 rfl rfl 2 (Nat.le_of_ble_eq_true rfl) (hts (.fieldLink RX2 19 "CoverMeter" "saved" "[LCoverMeter$State;") (List.mem_of_getElem? (i := 2) rfl)) (fun _ h9 => h9) rfl dX2_save_13 ?_
  refine lv_aload_n hx hb dX2_save_16 rfl (lv_at hl 0 rfl) ?_
  refine va_get (D := D) (ci := 2) (v := .int (CM_ss S)) (C := RX2) (T := TX2) (N := 5) hx hb hu2 (fun _ h => h) hown hE.1 hP 0 rfl rfl 3 (Nat.le_of_ble_eq_true rfl) (hts (.fieldLink RX2 196 "CoverMeter" "savedStates" "I") (List.mem_of_getElem? (i := 1) rfl)) (fun _ h9 => h9) rfl dX2_save_17 ?_
  refine q_nmi (y := 2) hss ?_
  refine va_aldq hx hb hE.1 hP 1 2 rfl rfl (by unfold vp_in; decide) dX2_save_20 ?_
  refine q_nmv (y := .ref (B 2 0)) (by simp [va_up, va_rf, hg 0 (by decide), hg 1 (by decide), hg 2 (by decide), hg 3 (by decide)]) ?_
  refine lv_aload_n hx hb dX2_save_21 rfl (lv_at hl 0 rfl) ?_
  refine va_get (D := D) (ci := 2) (v := .ref (A 0 0)) (C := RX2) (T := TX2) (N := 5) hx hb hu2 (fun _ h => h) hown hE.1 hP 0 rfl rfl 0 (Nat.le_of_ble_eq_true rfl) (hts (.fieldLink RX2 12 "CoverMeter" "now" "LCoverMeter$State;") (List.mem_of_getElem? (i := 3) rfl)) (fun _ h9 => h9) rfl dX2_save_22 ?_
  obtain ⟨S1, eS1⟩ : ∃ z, sCM_s2 S (cp_ST (CM_s2 S) (CM_now S)) = z := ⟨_, rfl⟩
  refine q_wrC (v := none) (w := wST cI cJ (B 2) (CM_s2 S) ++ wST cI cJ (A 0) (CM_now S)) (ci := 1) (As := [.ref (A 0 0)]) (rest := []) hx hb hml hown hts (c_X1_copyFrom l D cI cJ cS (B 2) (A 0) (CM_s2 S) (CM_now S) _) (cwV 1 hts gX2_save_X1_copyFrom rfl rfl rfl (by decide +kernel) ⟨(Nat.le_of_ble_eq_true rfl), (Nat.le_of_ble_eq_true rfl)⟩) hE (qp_s2_now hP) (qd_s2_now hD) hS (fun q h => Or.inr h) (fun H1 hF hk h1 h2 => qs_s2_now (z := cp_ST (CM_s2 S) (CM_now S)) hP hD hF hk h1 h2) rfl rfl rfl hl.1 rfl (Nat.le_of_ble_eq_true rfl) dX2_save_25 ⟨(Nat.le_of_ble_eq_true rfl), (Nat.le_of_ble_eq_true rfl)⟩ (fun H locs hP hD hS => ?_)
  rw [eS1] at hP hD
  refine lv_aload_n hx hb dX2_save_28 rfl (lv_at hl 0 rfl) ?_
  refine lv_dup hx hb dX2_save_29 rfl ?_
  refine va_get (D := D) (ci := 2) (v := .int (CM_ss S1)) (C := RX2) (T := TX2) (N := 5) hx hb hu2 (fun _ h => h) hown hE.1 hP 0 rfl rfl 3 (Nat.le_of_ble_eq_true rfl) (hts (.fieldLink RX2 196 "CoverMeter" "savedStates" "I") (List.mem_of_getElem? (i := 1) rfl)) (fun _ h9 => h9) rfl dX2_save_30 ?_
  refine q_nmi (y := 2) (by rw [← eS1]; exact hss) ?_
  refine lv_iconst (v := 1) hx hb dX2_save_33 (by decide) ?_
  refine lv_iadd hx hb dX2_save_34 ?_
  refine q_nmi (y := 3) (by decide) ?_
  obtain ⟨S2, eS2⟩ : ∃ z, sCM_ss S1 3 = z := ⟨_, rfl⟩
  refine va_put (D := D) (ci := 2) (v := .int 3) (ty := .int) (C := RX2) (T := TX2) (N := 5) hx hb hu2 (fun _ h => h) tyX2 tyX2_ok nmX2 hown hE.1 hP hD hS 0 rfl rfl 3 (Nat.le_of_ble_eq_true rfl) (hts (.fieldLink RX2 196 "CoverMeter" "savedStates" "I") (List.mem_of_getElem? (i := 1) rfl)) (fun _ h9 => h9) rfl (by decide +kernel) rfl rfl (Nat.le_of_ble_eq_true rfl) dX2_save_35 (fun H locs hP hD hS => ?_)
  have hP : va_P D vwCl (wCM cI cJ cS A g B (sCM_ss S1 3)) H := hP
  have hD : va_D (va_A (wCM cI cJ cS A g B S) s.heap.size) (wCM cI cJ cS A g B (sCM_ss S1 3)) := hD
  rw [eS2] at hP hD
  have eF : S2 = q_sv2 S := by rw [← eS2, ← eS1]; rfl
  rw [eF] at hP hD
  exact W.vret hx hb hr (fun t ht hW => ⟨rfl, ⟨_, ⟨_, _, hg, rfl⟩, by rw [ht]; exact hP, hD⟩, hS.F ht⟩) hS.2.2 dX2_save_38
set_option maxRecDepth 100000 in
set_option maxHeartbeats 8000000 in
theorem c_X2_save_3 (l : Launch) (hlt : l.stackTraces = false) (D : va_G) (cI cJ cS : ClassId) (sa : Nat → Nat) (A : Nat → Nat → Nat) (g : Nat → Option Nat) (B : Nat → Nat → Nat) (hg : ∀ i, i < 4 → g i = some (B i 0)) (S : CM) (sz : Nat) (hss : CM_ss S = 3) : Met l yX2_save wsX2_save rX2_save (va_Pc [.ref (A 3 0)] (q_BWX D cI cJ cS sa (wCM cI cJ cS A g B S) sz)) (q_WE none D cI cJ cS A (q_sv3 S) (wCM cI cJ cS A g B S) sz) 0 0 (va_A (wCM cI cJ cS A g B S) sz) := by
  refine Met.ofW (cc := cX2_save) (maxL := 1) (ret := none) (by decide) rfl ?_
  intro p e s m args below meth c s₁ B9 hml hv
  obtain ⟨rfl, hsz, hP, hE, hD0, hES, hZ⟩ := hv
  have hx := B9.exec
  have hb := B9.bytes
  have hr := B9.returns
  have hts := atoms_spec (ws := wsX2_save) B9.pre
  have hown : s.vm.findClass RX2 = some m.cls := findClass_of_methodNamed B9.named
  have hlocks := B9.notSynchronized
  have hu1 : ∀ z ∈ wsX10, z.before _ s = true := fun z h => hts z (List.mem_cons_of_mem _ (List.mem_append_right _ h))
  have hu2 : ∀ z ∈ wsX20, z.before _ s = true := fun z h => hts z (List.mem_cons_of_mem _ (List.mem_append_left _ (List.mem_append_right _ h)))
  subst hsz
  have hD := hD0.self (sz := s.heap.size)
  have hS : va_S (va_A (wCM cI cJ cS A g B S) s.heap.size) s.heap s.heap [] := va_S.rf
  have hl := lv_entry ([.ref (A 3 0)]) (n := 1) (Nat.le_of_ble_eq_true rfl)
  rw [lg_entry_eq]
  generalize (lg_sl ([.ref (A 3 0)]) ++ List.replicate (1 - (lg_sl ([.ref (A 3 0)])).length) Slot.unset).toArray = ls at hl ⊢
  have hl : lv_has ls 1 [(0, .ref (A 3 0))] := hl
  refine lv_aload_n hx hb dX2_save_0 rfl (lv_at hl 0 rfl) ?_
  refine va_get (D := D) (ci := 2) (v := .int (CM_ss S)) (C := RX2) (T := TX2) (N := 5) hx hb hu2 (fun _ h => h) hown hE.1 hP 0 rfl rfl 3 (Nat.le_of_ble_eq_true rfl) (hts (.fieldLink RX2 196 "CoverMeter" "savedStates" "I") (List.mem_of_getElem? (i := 1) rfl)) (fun _ h9 => h9) rfl dX2_save_1 ?_
  refine q_nmi (y := 3) hss ?_
  refine lv_iconst (v := 4) hx hb dX2_save_4 (by decide) ?_
  refine lv_icmp_ne (tgt := 12) hx hb dX2_save_5 (by decide) (fun _ => ?_) (fun c9 => absurd c9 (by decide))
  refine lv_aload_n hx hb dX2_save_12 rfl (lv_at hl 0 rfl) ?_
  refine va_get (D := D) (ci := 2) (v := .ref (A 3 1)) (C := RX2) (T := TX2) (N := 5) hx hb hu2 (fun _ h => h) hown hE.1 hP 0 rfl rfl 2 (Nat.le_of_ble_eq_true rfl) (hts (.fieldLink RX2 19 "CoverMeter" "saved" "[LCoverMeter$State;") (List.mem_of_getElem? (i := 2) rfl)) (fun _ h9 => h9) rfl dX2_save_13 ?_
  refine lv_aload_n hx hb dX2_save_16 rfl (lv_at hl 0 rfl) ?_
  refine va_get (D := D) (ci := 2) (v := .int (CM_ss S)) (C := RX2) (T := TX2) (N := 5) hx hb hu2 (fun _ h => h) hown hE.1 hP 0 rfl rfl 3 (Nat.le_of_ble_eq_true rfl) (hts (.fieldLink RX2 196 "CoverMeter" "savedStates" "I") (List.mem_of_getElem? (i := 1) rfl)) (fun _ h9 => h9) rfl dX2_save_17 ?_
  refine q_nmi (y := 3) hss ?_
  refine va_aldq hx hb hE.1 hP 1 2 rfl rfl (by unfold vp_in; decide) dX2_save_20 ?_
  refine q_nmv (y := .ref (B 3 0)) (by simp [va_up, va_rf, hg 0 (by decide), hg 1 (by decide), hg 2 (by decide), hg 3 (by decide)]) ?_
  refine lv_aload_n hx hb dX2_save_21 rfl (lv_at hl 0 rfl) ?_
  refine va_get (D := D) (ci := 2) (v := .ref (A 0 0)) (C := RX2) (T := TX2) (N := 5) hx hb hu2 (fun _ h => h) hown hE.1 hP 0 rfl rfl 0 (Nat.le_of_ble_eq_true rfl) (hts (.fieldLink RX2 12 "CoverMeter" "now" "LCoverMeter$State;") (List.mem_of_getElem? (i := 3) rfl)) (fun _ h9 => h9) rfl dX2_save_22 ?_
  obtain ⟨S1, eS1⟩ : ∃ z, sCM_s3 S (cp_ST (CM_s3 S) (CM_now S)) = z := ⟨_, rfl⟩
  refine q_wrC (v := none) (w := wST cI cJ (B 3) (CM_s3 S) ++ wST cI cJ (A 0) (CM_now S)) (ci := 1) (As := [.ref (A 0 0)]) (rest := []) hx hb hml hown hts (c_X1_copyFrom l D cI cJ cS (B 3) (A 0) (CM_s3 S) (CM_now S) _) (cwV 1 hts gX2_save_X1_copyFrom rfl rfl rfl (by decide +kernel) ⟨(Nat.le_of_ble_eq_true rfl), (Nat.le_of_ble_eq_true rfl)⟩) hE (qp_s3_now hP) (qd_s3_now hD) hS (fun q h => Or.inr h) (fun H1 hF hk h1 h2 => qs_s3_now (z := cp_ST (CM_s3 S) (CM_now S)) hP hD hF hk h1 h2) rfl rfl rfl hl.1 rfl (Nat.le_of_ble_eq_true rfl) dX2_save_25 ⟨(Nat.le_of_ble_eq_true rfl), (Nat.le_of_ble_eq_true rfl)⟩ (fun H locs hP hD hS => ?_)
  rw [eS1] at hP hD
  refine lv_aload_n hx hb dX2_save_28 rfl (lv_at hl 0 rfl) ?_
  refine lv_dup hx hb dX2_save_29 rfl ?_
  refine va_get (D := D) (ci := 2) (v := .int (CM_ss S1)) (C := RX2) (T := TX2) (N := 5) hx hb hu2 (fun _ h => h) hown hE.1 hP 0 rfl rfl 3 (Nat.le_of_ble_eq_true rfl) (hts (.fieldLink RX2 196 "CoverMeter" "savedStates" "I") (List.mem_of_getElem? (i := 1) rfl)) (fun _ h9 => h9) rfl dX2_save_30 ?_
  refine q_nmi (y := 3) (by rw [← eS1]; exact hss) ?_
  refine lv_iconst (v := 1) hx hb dX2_save_33 (by decide) ?_
  refine lv_iadd hx hb dX2_save_34 ?_
  refine q_nmi (y := 4) (by decide) ?_
  obtain ⟨S2, eS2⟩ : ∃ z, sCM_ss S1 4 = z := ⟨_, rfl⟩
  refine va_put (D := D) (ci := 2) (v := .int 4) (ty := .int) (C := RX2) (T := TX2) (N := 5) hx hb hu2 (fun _ h => h) tyX2 tyX2_ok nmX2 hown hE.1 hP hD hS 0 rfl rfl 3 (Nat.le_of_ble_eq_true rfl) (hts (.fieldLink RX2 196 "CoverMeter" "savedStates" "I") (List.mem_of_getElem? (i := 1) rfl)) (fun _ h9 => h9) rfl (by decide +kernel) rfl rfl (Nat.le_of_ble_eq_true rfl) dX2_save_35 (fun H locs hP hD hS => ?_)
  have hP : va_P D vwCl (wCM cI cJ cS A g B (sCM_ss S1 4)) H := hP
  have hD : va_D (va_A (wCM cI cJ cS A g B S) s.heap.size) (wCM cI cJ cS A g B (sCM_ss S1 4)) := hD
  rw [eS2] at hP hD
  have eF : S2 = q_sv3 S := by rw [← eS2, ← eS1]; rfl
  rw [eF] at hP hD
  exact W.vret hx hb hr (fun t ht hW => ⟨rfl, ⟨_, ⟨_, _, hg, rfl⟩, by rw [ht]; exact hP, hD⟩, hS.F ht⟩) hS.2.2 dX2_save_38
set_option maxRecDepth 100000 in
set_option maxHeartbeats 8000000 in
theorem c_X2_save_4 (l : Launch) (hlt : l.stackTraces = false) (D : va_G) (cI cJ cS : ClassId) (sa : Nat → Nat) (A : Nat → Nat → Nat) (g : Nat → Option Nat) (B : Nat → Nat → Nat) (hg : ∀ i, i < 4 → g i = some (B i 0)) (S : CM) (sz : Nat) (hss : CM_ss S = 4) : Met l yX2_save wsX2_save rX2_save (va_Pc [.ref (A 3 0)] (q_BWX D cI cJ cS sa (wCM cI cJ cS A g B S) sz)) (q_WE none D cI cJ cS A (q_sv3 (q_rot S)) (wCM cI cJ cS A g B S) sz) 0 0 (va_A (wCM cI cJ cS A g B S) sz) := by
  refine Met.ofW (cc := cX2_save) (maxL := 1) (ret := none) (by decide) rfl ?_
  intro p e s m args below meth c s₁ B9 hml hv
  obtain ⟨rfl, hsz, hP, hE, hD0, hES, hZ⟩ := hv
  have hx := B9.exec
  have hb := B9.bytes
  have hr := B9.returns
  have hts := atoms_spec (ws := wsX2_save) B9.pre
  have hown : s.vm.findClass RX2 = some m.cls := findClass_of_methodNamed B9.named
  have hlocks := B9.notSynchronized
  have hu1 : ∀ z ∈ wsX10, z.before _ s = true := fun z h => hts z (List.mem_cons_of_mem _ (List.mem_append_right _ h))
  have hu2 : ∀ z ∈ wsX20, z.before _ s = true := fun z h => hts z (List.mem_cons_of_mem _ (List.mem_append_left _ (List.mem_append_right _ h)))
  subst hsz
  have hD := hD0.self (sz := s.heap.size)
  have hS : va_S (va_A (wCM cI cJ cS A g B S) s.heap.size) s.heap s.heap [] := va_S.rf
  have hl := lv_entry ([.ref (A 3 0)]) (n := 1) (Nat.le_of_ble_eq_true rfl)
  rw [lg_entry_eq]
  generalize (lg_sl ([.ref (A 3 0)]) ++ List.replicate (1 - (lg_sl ([.ref (A 3 0)])).length) Slot.unset).toArray = ls at hl ⊢
  have hl : lv_has ls 1 [(0, .ref (A 3 0))] := hl
  refine lv_aload_n hx hb dX2_save_0 rfl (lv_at hl 0 rfl) ?_
  refine va_get (D := D) (ci := 2) (v := .int (CM_ss S)) (C := RX2) (T := TX2) (N := 5) hx hb hu2 (fun _ h => h) hown hE.1 hP 0 rfl rfl 3 (Nat.le_of_ble_eq_true rfl) (hts (.fieldLink RX2 196 "CoverMeter" "savedStates" "I") (List.mem_of_getElem? (i := 1) rfl)) (fun _ h9 => h9) rfl dX2_save_1 ?_
  refine q_nmi (y := 4) hss ?_
  refine lv_iconst (v := 4) hx hb dX2_save_4 (by decide) ?_
  refine lv_icmp_ne (tgt := 12) hx hb dX2_save_5 (by decide) (fun c9 => absurd (by decide) c9) (fun _ => ?_)
  refine lv_aload_n hx hb dX2_save_8 rfl (lv_at hl 0 rfl) ?_
  obtain ⟨S1, eS1⟩ : ∃ z, q_rot S = z := ⟨_, rfl⟩
  refine q_wrE (ci := 2) (As := []) (rest := []) hx hb hml hown hts (c_X2_dropOldest l hlt D cI cJ cS sa A g B hg S _) (cwV 0 hts gX2_save_X2_dropOldest rfl rfl rfl (by decide +kernel) ⟨(Nat.le_of_ble_eq_true rfl), (Nat.le_of_ble_eq_true rfl)⟩) hE hES hZ hP hD hS (fun q h => Or.inr h) rfl rfl rfl hl.1 rfl (Nat.le_of_ble_eq_true rfl) dX2_save_9 ⟨(Nat.le_of_ble_eq_true rfl), (Nat.le_of_ble_eq_true rfl)⟩ (fun g2 B2 H locs hg2 hP hD hS => ?_)
  rw [eS1] at hP hD
  refine lv_aload_n hx hb dX2_save_12 rfl (lv_at hl 0 rfl) ?_
  refine va_get (D := D) (ci := 2) (v := .ref (A 3 1)) (C := RX2) (T := TX2) (N := 5) hx hb hu2 (fun _ h => h) hown hE.1 hP 0 rfl rfl 2 (Nat.le_of_ble_eq_true rfl) (hts (.fieldLink RX2 19 "CoverMeter" "saved" "[LCoverMeter$State;") (List.mem_of_getElem? (i := 2) rfl)) (fun _ h9 => h9) rfl dX2_save_13 ?_
  refine lv_aload_n hx hb dX2_save_16 rfl (lv_at hl 0 rfl) ?_
  refine va_get (D := D) (ci := 2) (v := .int (CM_ss S1)) (C := RX2) (T := TX2) (N := 5) hx hb hu2 (fun _ h => h) hown hE.1 hP 0 rfl rfl 3 (Nat.le_of_ble_eq_true rfl) (hts (.fieldLink RX2 196 "CoverMeter" "savedStates" "I") (List.mem_of_getElem? (i := 1) rfl)) (fun _ h9 => h9) rfl dX2_save_17 ?_
  refine q_nmi (y := 3) (by rw [← eS1]; show CM_ss S - 1 = 3; rw [hss]; rfl) ?_
  refine va_aldq hx hb hE.1 hP 1 2 rfl rfl (by unfold vp_in; decide) dX2_save_20 ?_
  refine q_nmv (y := .ref (B2 3 0)) (by simp [va_up, va_rf, hg2 0 (by decide), hg2 1 (by decide), hg2 2 (by decide), hg2 3 (by decide)]) ?_
  refine lv_aload_n hx hb dX2_save_21 rfl (lv_at hl 0 rfl) ?_
  refine va_get (D := D) (ci := 2) (v := .ref (A 0 0)) (C := RX2) (T := TX2) (N := 5) hx hb hu2 (fun _ h => h) hown hE.1 hP 0 rfl rfl 0 (Nat.le_of_ble_eq_true rfl) (hts (.fieldLink RX2 12 "CoverMeter" "now" "LCoverMeter$State;") (List.mem_of_getElem? (i := 3) rfl)) (fun _ h9 => h9) rfl dX2_save_22 ?_
  obtain ⟨S2, eS2⟩ : ∃ z, sCM_s3 S1 (cp_ST (CM_s3 S1) (CM_now S1)) = z := ⟨_, rfl⟩
  refine q_wrC (v := none) (w := wST cI cJ (B2 3) (CM_s3 S1) ++ wST cI cJ (A 0) (CM_now S1)) (ci := 1) (As := [.ref (A 0 0)]) (rest := []) hx hb hml hown hts (c_X1_copyFrom l D cI cJ cS (B2 3) (A 0) (CM_s3 S1) (CM_now S1) _) (cwV 1 hts gX2_save_X1_copyFrom rfl rfl rfl (by decide +kernel) ⟨(Nat.le_of_ble_eq_true rfl), (Nat.le_of_ble_eq_true rfl)⟩) hE (qp_s3_now hP) (qd_s3_now hD) hS (fun q h => Or.inr h) (fun H1 hF hk h1 h2 => qs_s3_now (z := cp_ST (CM_s3 S1) (CM_now S1)) hP hD hF hk h1 h2) rfl rfl rfl hl.1 rfl (Nat.le_of_ble_eq_true rfl) dX2_save_25 ⟨(Nat.le_of_ble_eq_true rfl), (Nat.le_of_ble_eq_true rfl)⟩ (fun H locs hP hD hS => ?_)
  rw [eS2] at hP hD
  refine lv_aload_n hx hb dX2_save_28 rfl (lv_at hl 0 rfl) ?_
  refine lv_dup hx hb dX2_save_29 rfl ?_
  refine va_get (D := D) (ci := 2) (v := .int (CM_ss S2)) (C := RX2) (T := TX2) (N := 5) hx hb hu2 (fun _ h => h) hown hE.1 hP 0 rfl rfl 3 (Nat.le_of_ble_eq_true rfl) (hts (.fieldLink RX2 196 "CoverMeter" "savedStates" "I") (List.mem_of_getElem? (i := 1) rfl)) (fun _ h9 => h9) rfl dX2_save_30 ?_
  refine q_nmi (y := 3) (by rw [← eS2]; exact (by rw [← eS1]; show CM_ss S - 1 = 3; rw [hss]; rfl)) ?_
  refine lv_iconst (v := 1) hx hb dX2_save_33 (by decide) ?_
  refine lv_iadd hx hb dX2_save_34 ?_
  refine q_nmi (y := 4) (by decide) ?_
  obtain ⟨S3, eS3⟩ : ∃ z, sCM_ss S2 4 = z := ⟨_, rfl⟩
  refine va_put (D := D) (ci := 2) (v := .int 4) (ty := .int) (C := RX2) (T := TX2) (N := 5) hx hb hu2 (fun _ h => h) tyX2 tyX2_ok nmX2 hown hE.1 hP hD hS 0 rfl rfl 3 (Nat.le_of_ble_eq_true rfl) (hts (.fieldLink RX2 196 "CoverMeter" "savedStates" "I") (List.mem_of_getElem? (i := 1) rfl)) (fun _ h9 => h9) rfl (by decide +kernel) rfl rfl (Nat.le_of_ble_eq_true rfl) dX2_save_35 (fun H locs hP hD hS => ?_)
  have hP : va_P D vwCl (wCM cI cJ cS A g2 B2 (sCM_ss S2 4)) H := hP
  have hD : va_D (va_A (wCM cI cJ cS A g B S) s.heap.size) (wCM cI cJ cS A g2 B2 (sCM_ss S2 4)) := hD
  rw [eS3] at hP hD
  have eF : S3 = q_sv3 (q_rot S) := by rw [← eS3, ← eS2, ← eS1]; rfl
  rw [eF] at hP hD
  exact W.vret hx hb hr (fun t ht hW => ⟨rfl, ⟨_, ⟨_, _, hg2, rfl⟩, by rw [ht]; exact hP, hD⟩, hS.F ht⟩) hS.2.2 dX2_save_38
def f_X2_save (S : CM) : Option CM := if CM_ss S = 0 then some (q_sv0 S) else if CM_ss S = 1 then some (q_sv1 S) else if CM_ss S = 2 then some (q_sv2 S) else if CM_ss S = 3 then some (q_sv3 S) else if CM_ss S = 4 then some (q_sv3 (q_rot S)) else none
theorem c_X2_save (l : Launch) (hlt : l.stackTraces = false) (D : va_G) (cI cJ cS : ClassId) (sa : Nat → Nat) (A : Nat → Nat → Nat) (g : Nat → Option Nat) (B : Nat → Nat → Nat) (hg : ∀ i, i < 4 → g i = some (B i 0)) (S : CM) (sz : Nat) (o : CM) (hf : f_X2_save S = some o) : Met l yX2_save wsX2_save rX2_save (va_Pc [.ref (A 3 0)] (q_BWX D cI cJ cS sa (wCM cI cJ cS A g B S) sz)) (q_WE none D cI cJ cS A o (wCM cI cJ cS A g B S) sz) 0 0 (va_A (wCM cI cJ cS A g B S) sz) := by
  unfold f_X2_save at hf
  by_cases c0 : CM_ss S = 0
  · have hf := q_some (q_ite_t c0 hf)
    subst hf
    exact c_X2_save_0 l hlt D cI cJ cS sa A g B hg S sz c0
  have hf := q_ite_f c0 hf
  by_cases c1 : CM_ss S = 1
  · have hf := q_some (q_ite_t c1 hf)
    subst hf
    exact c_X2_save_1 l hlt D cI cJ cS sa A g B hg S sz c1
  have hf := q_ite_f c1 hf
  by_cases c2 : CM_ss S = 2
  · have hf := q_some (q_ite_t c2 hf)
    subst hf
    exact c_X2_save_2 l hlt D cI cJ cS sa A g B hg S sz c2
  have hf := q_ite_f c2 hf
  by_cases c3 : CM_ss S = 3
  · have hf := q_some (q_ite_t c3 hf)
    subst hf
    exact c_X2_save_3 l hlt D cI cJ cS sa A g B hg S sz c3
  have hf := q_ite_f c3 hf
  by_cases c4 : CM_ss S = 4
  · have hf := q_some (q_ite_t c4 hf)
    subst hf
    exact c_X2_save_4 l hlt D cI cJ cS sa A g B hg S sz c4
  have hf := q_ite_f c4 hf
  cases hf
abbrev rX2_undo : Room := { frames := 7, cells := 1, slots := 6, locals := 110 }
set_option maxRecDepth 100000 in
set_option maxHeartbeats 8000000 in
theorem c_X2_undo_0 (l : Launch) (hlt : l.stackTraces = false) (D : va_G) (cI cJ cS : ClassId) (sa : Nat → Nat) (A : Nat → Nat → Nat) (g : Nat → Option Nat) (B : Nat → Nat → Nat) (hg : ∀ i, i < 4 → g i = some (B i 0)) (S : CM) (sz : Nat) (hss : CM_ss S = 0) (o : String ⊕ (Int32 × CM)) (ho : o = (.inl "java/lang/IllegalStateException")) : vx_Met l yX2_undo wsX2_undo rX2_undo (va_Pc [.ref (A 3 0)] (q_BWX D cI cJ cS sa (wCM cI cJ cS A g B S) sz)) (q_XW (fun r => some (.int r)) o D cI cJ cS A (wCM cI cJ cS A g B S) sz) (q_XC o) 1 6 (va_A (wCM cI cJ cS A g B S) sz) := by
  refine vx_ofW (cc := cX2_undo) (maxL := 1) (ret := some .int) (by decide) rfl ?_
  intro p e s m args below meth c s₁ B9 hml htab hv
  obtain ⟨rfl, hsz, hP, hE, hD0, hES, hZ⟩ := hv
  have hx := B9.exec
  have hb := B9.bytes
  have hr := B9.returns
  have hts := atoms_spec (ws := wsX2_undo) B9.pre
  have hown : s.vm.findClass RX2 = some m.cls := findClass_of_methodNamed B9.named
  have hlocks := B9.notSynchronized
  have hu1 : ∀ z ∈ wsX10, z.before _ s = true := fun z h => hts z (List.mem_cons_of_mem _ (List.mem_append_left _ (List.mem_append_right _ h)))
  have hu2 : ∀ z ∈ wsX20, z.before _ s = true := fun z h => hts z (List.mem_cons_of_mem _ (List.mem_append_left _ (List.mem_append_left _ (List.mem_append_right _ h))))
  subst hsz
  have hD := hD0.self (sz := s.heap.size)
  have hS : va_S (va_A (wCM cI cJ cS A g B S) s.heap.size) s.heap s.heap [] := va_S.rf
  have hl := lv_entry ([.ref (A 3 0)]) (n := 1) (Nat.le_of_ble_eq_true rfl)
  rw [lg_entry_eq]
  generalize (lg_sl ([.ref (A 3 0)]) ++ List.replicate (1 - (lg_sl ([.ref (A 3 0)])).length) Slot.unset).toArray = ls at hl ⊢
  have hl : lv_has ls 1 [(0, .ref (A 3 0))] := hl
  refine lv_aload_n hx hb dX2_undo_0 rfl (lv_at hl 0 rfl) ?_
  refine va_get (D := D) (ci := 2) (v := .int (CM_ss S)) (C := RX2) (T := TX2) (N := 5) hx hb hu2 (fun _ h => h) hown hE.1 hP 0 rfl rfl 3 (Nat.le_of_ble_eq_true rfl) (hts (.fieldLink RX2 196 "CoverMeter" "savedStates" "I") (List.mem_of_getElem? (i := 1) rfl)) (fun _ h9 => h9) rfl dX2_undo_1 ?_
  refine q_nmi (y := 0) hss ?_
  refine lv_if_le (tgt := 11) hx hb dX2_undo_4 (by decide) (fun _ => ?_) (fun c9 => absurd (by decide) c9)
  refine lv_iconst (v := 0) hx hb dX2_undo_11 (by decide) ?_
  refine q_needS (x := (.inl "java/lang/IllegalStateException")) (As := [.int 0]) (rest := []) hx hb hml hown hts hlocks htab (c_X2_needAllowed l hlt D cI cJ cS sa 0 _ rfl) (va_cwS 1 hts gX2_undo_X2_needAllowed rfl rfl rfl (by decide +kernel) ⟨(Nat.le_of_ble_eq_true rfl), (Nat.le_of_ble_eq_true rfl)⟩) hE hES hZ (fun q h => Or.inr h) rfl hl.1 rfl (Nat.le_of_ble_eq_true rfl) dX2_undo_12 ⟨(Nat.le_of_ble_eq_true rfl), (Nat.le_of_ble_eq_true rfl)⟩ (fun E e => by injection e with e; subst e; exact ho) (Nat.le_of_ble_eq_true rfl) (Nat.le_of_ble_eq_true rfl) (fun er => nomatch er)
set_option maxRecDepth 100000 in
set_option maxHeartbeats 8000000 in
theorem c_X2_undo_1 (l : Launch) (hlt : l.stackTraces = false) (D : va_G) (cI cJ cS : ClassId) (sa : Nat → Nat) (A : Nat → Nat → Nat) (g : Nat → Option Nat) (B : Nat → Nat → Nat) (hg : ∀ i, i < 4 → g i = some (B i 0)) (S : CM) (sz : Nat) (hss : CM_ss S = 1) (o : String ⊕ (Int32 × CM)) (ho : o = (.inr (0, (sCM_now (sCM_ss S 0) (cp_ST (CM_now S) (CM_s0 S)))))) : vx_Met l yX2_undo wsX2_undo rX2_undo (va_Pc [.ref (A 3 0)] (q_BWX D cI cJ cS sa (wCM cI cJ cS A g B S) sz)) (q_XW (fun r => some (.int r)) o D cI cJ cS A (wCM cI cJ cS A g B S) sz) (q_XC o) 1 6 (va_A (wCM cI cJ cS A g B S) sz) := by
  refine vx_ofW (cc := cX2_undo) (maxL := 1) (ret := some .int) (by decide) rfl ?_
  intro p e s m args below meth c s₁ B9 hml htab hv
  obtain ⟨rfl, hsz, hP, hE, hD0, hES, hZ⟩ := hv
  have hx := B9.exec
  have hb := B9.bytes
  have hr := B9.returns
  have hts := atoms_spec (ws := wsX2_undo) B9.pre
  have hown : s.vm.findClass RX2 = some m.cls := findClass_of_methodNamed B9.named
  have hlocks := B9.notSynchronized
  have hu1 : ∀ z ∈ wsX10, z.before _ s = true := fun z h => hts z (List.mem_cons_of_mem _ (List.mem_append_left _ (List.mem_append_right _ h)))
  have hu2 : ∀ z ∈ wsX20, z.before _ s = true := fun z h => hts z (List.mem_cons_of_mem _ (List.mem_append_left _ (List.mem_append_left _ (List.mem_append_right _ h))))
  subst hsz
  have hD := hD0.self (sz := s.heap.size)
  have hS : va_S (va_A (wCM cI cJ cS A g B S) s.heap.size) s.heap s.heap [] := va_S.rf
  have hl := lv_entry ([.ref (A 3 0)]) (n := 1) (Nat.le_of_ble_eq_true rfl)
  rw [lg_entry_eq]
  generalize (lg_sl ([.ref (A 3 0)]) ++ List.replicate (1 - (lg_sl ([.ref (A 3 0)])).length) Slot.unset).toArray = ls at hl ⊢
  have hl : lv_has ls 1 [(0, .ref (A 3 0))] := hl
  refine lv_aload_n hx hb dX2_undo_0 rfl (lv_at hl 0 rfl) ?_
  refine va_get (D := D) (ci := 2) (v := .int (CM_ss S)) (C := RX2) (T := TX2) (N := 5) hx hb hu2 (fun _ h => h) hown hE.1 hP 0 rfl rfl 3 (Nat.le_of_ble_eq_true rfl) (hts (.fieldLink RX2 196 "CoverMeter" "savedStates" "I") (List.mem_of_getElem? (i := 1) rfl)) (fun _ h9 => h9) rfl dX2_undo_1 ?_
  refine q_nmi (y := 1) hss ?_
  refine lv_if_le (tgt := 11) hx hb dX2_undo_4 (by decide) (fun c9 => absurd c9 (by decide)) (fun _ => ?_)
  refine lv_iconst (v := 1) hx hb dX2_undo_7 (by decide) ?_
  refine lv_goto (tgt := 12) hx hb dX2_undo_8 (by decide) ?_
  refine q_needS (x := .inr ()) (As := [.int 1]) (rest := []) hx hb hml hown hts hlocks htab (c_X2_needAllowed l hlt D cI cJ cS sa 1 _ rfl) (va_cwS 1 hts gX2_undo_X2_needAllowed rfl rfl rfl (by decide +kernel) ⟨(Nat.le_of_ble_eq_true rfl), (Nat.le_of_ble_eq_true rfl)⟩) hE hES hZ (fun q h => Or.inr h) rfl hl.1 rfl (Nat.le_of_ble_eq_true rfl) dX2_undo_12 ⟨(Nat.le_of_ble_eq_true rfl), (Nat.le_of_ble_eq_true rfl)⟩ (fun E e => nomatch e) (Nat.le_of_ble_eq_true rfl) (Nat.le_of_ble_eq_true rfl) (fun er => ?_)
  refine lv_aload_n hx hb dX2_undo_15 rfl (lv_at hl 0 rfl) ?_
  refine lv_dup hx hb dX2_undo_16 rfl ?_
  refine va_get (D := D) (ci := 2) (v := .int (CM_ss S)) (C := RX2) (T := TX2) (N := 5) hx hb hu2 (fun _ h => h) hown hE.1 hP 0 rfl rfl 3 (Nat.le_of_ble_eq_true rfl) (hts (.fieldLink RX2 196 "CoverMeter" "savedStates" "I") (List.mem_of_getElem? (i := 1) rfl)) (fun _ h9 => h9) rfl dX2_undo_17 ?_
  refine q_nmi (y := 1) hss ?_
  refine lv_iconst (v := 1) hx hb dX2_undo_20 (by decide) ?_
  refine lv_isub hx hb dX2_undo_21 ?_
  refine q_nmi (y := 0) (by decide) ?_
  obtain ⟨S1, eS1⟩ : ∃ z, sCM_ss S 0 = z := ⟨_, rfl⟩
  refine va_put (D := D) (ci := 2) (v := .int 0) (ty := .int) (C := RX2) (T := TX2) (N := 5) hx hb hu2 (fun _ h => h) tyX2 tyX2_ok nmX2 hown hE.1 hP hD hS 0 rfl rfl 3 (Nat.le_of_ble_eq_true rfl) (hts (.fieldLink RX2 196 "CoverMeter" "savedStates" "I") (List.mem_of_getElem? (i := 1) rfl)) (fun _ h9 => h9) rfl (by decide +kernel) rfl rfl (Nat.le_of_ble_eq_true rfl) dX2_undo_22 (fun H locs hP hD hS => ?_)
  have hP : va_P D vwCl (wCM cI cJ cS A g B (sCM_ss S 0)) H := hP
  have hD : va_D (va_A (wCM cI cJ cS A g B S) s.heap.size) (wCM cI cJ cS A g B (sCM_ss S 0)) := hD
  rw [eS1] at hP hD
  refine lv_aload_n hx hb dX2_undo_25 rfl (lv_at hl 0 rfl) ?_
  refine va_get (D := D) (ci := 2) (v := .ref (A 0 0)) (C := RX2) (T := TX2) (N := 5) hx hb hu2 (fun _ h => h) hown hE.1 hP 0 rfl rfl 0 (Nat.le_of_ble_eq_true rfl) (hts (.fieldLink RX2 12 "CoverMeter" "now" "LCoverMeter$State;") (List.mem_of_getElem? (i := 2) rfl)) (fun _ h9 => h9) rfl dX2_undo_26 ?_
  refine lv_aload_n hx hb dX2_undo_29 rfl (lv_at hl 0 rfl) ?_
  refine va_get (D := D) (ci := 2) (v := .ref (A 3 1)) (C := RX2) (T := TX2) (N := 5) hx hb hu2 (fun _ h => h) hown hE.1 hP 0 rfl rfl 2 (Nat.le_of_ble_eq_true rfl) (hts (.fieldLink RX2 19 "CoverMeter" "saved" "[LCoverMeter$State;") (List.mem_of_getElem? (i := 3) rfl)) (fun _ h9 => h9) rfl dX2_undo_30 ?_
  refine lv_aload_n hx hb dX2_undo_33 rfl (lv_at hl 0 rfl) ?_
  refine va_get (D := D) (ci := 2) (v := .int (CM_ss S1)) (C := RX2) (T := TX2) (N := 5) hx hb hu2 (fun _ h => h) hown hE.1 hP 0 rfl rfl 3 (Nat.le_of_ble_eq_true rfl) (hts (.fieldLink RX2 196 "CoverMeter" "savedStates" "I") (List.mem_of_getElem? (i := 1) rfl)) (fun _ h9 => h9) rfl dX2_undo_34 ?_
  refine q_nmi (y := 0) (by rw [← eS1]; rfl) ?_
  refine va_aldq hx hb hE.1 hP 1 2 rfl rfl (by unfold vp_in; decide) dX2_undo_37 ?_
  refine q_nmv (y := .ref (B 0 0)) (by simp [va_up, va_rf, hg 0 (by decide), hg 1 (by decide), hg 2 (by decide), hg 3 (by decide)]) ?_
  obtain ⟨S2, eS2⟩ : ∃ z, sCM_now S1 (cp_ST (CM_now S1) (CM_s0 S1)) = z := ⟨_, rfl⟩
  refine q_wrC (v := none) (w := wST cI cJ (A 0) (CM_now S1) ++ wST cI cJ (B 0) (CM_s0 S1)) (ci := 1) (As := [.ref (B 0 0)]) (rest := []) hx hb hml hown hts (c_X1_copyFrom l D cI cJ cS (A 0) (B 0) (CM_now S1) (CM_s0 S1) _) (cwV 1 hts gX2_undo_X1_copyFrom rfl rfl rfl (by decide +kernel) ⟨(Nat.le_of_ble_eq_true rfl), (Nat.le_of_ble_eq_true rfl)⟩) hE (qp_now_s0 hP) (qd_now_s0 hD) hS (fun q h => Or.inr h) (fun H1 hF hk h1 h2 => qs_now_s0 (z := cp_ST (CM_now S1) (CM_s0 S1)) hP hD hF hk h1 h2) rfl rfl rfl hl.1 rfl (Nat.le_of_ble_eq_true rfl) dX2_undo_38 ⟨(Nat.le_of_ble_eq_true rfl), (Nat.le_of_ble_eq_true rfl)⟩ (fun H locs hP hD hS => ?_)
  rw [eS2] at hP hD
  refine lv_aload_n hx hb dX2_undo_41 rfl (lv_at hl 0 rfl) ?_
  refine va_get (D := D) (ci := 2) (v := .int (CM_ss S2)) (C := RX2) (T := TX2) (N := 5) hx hb hu2 (fun _ h => h) hown hE.1 hP 0 rfl rfl 3 (Nat.le_of_ble_eq_true rfl) (hts (.fieldLink RX2 196 "CoverMeter" "savedStates" "I") (List.mem_of_getElem? (i := 1) rfl)) (fun _ h9 => h9) rfl dX2_undo_42 ?_
  refine q_nmi (y := 0) (by rw [← eS2]; exact (by rw [← eS1]; rfl)) ?_
  have eF : S2 = (sCM_now (sCM_ss S 0) (cp_ST (CM_now S) (CM_s0 S))) := by rw [← eS2, ← eS1]; rfl
  rw [eF] at hP hD
  refine vx_ret ?_
  exact W.iret hx hb hr (fun t ht hW => ⟨_, ho, rfl, ⟨_, ⟨_, _, hg, rfl⟩, by rw [ht]; exact hP, hD⟩, hS.F ht⟩) hS.2.2 dX2_undo_45
set_option maxRecDepth 100000 in
set_option maxHeartbeats 8000000 in
theorem c_X2_undo_2 (l : Launch) (hlt : l.stackTraces = false) (D : va_G) (cI cJ cS : ClassId) (sa : Nat → Nat) (A : Nat → Nat → Nat) (g : Nat → Option Nat) (B : Nat → Nat → Nat) (hg : ∀ i, i < 4 → g i = some (B i 0)) (S : CM) (sz : Nat) (hss : CM_ss S = 2) (o : String ⊕ (Int32 × CM)) (ho : o = (.inr (1, (sCM_now (sCM_ss S 1) (cp_ST (CM_now S) (CM_s1 S)))))) : vx_Met l yX2_undo wsX2_undo rX2_undo (va_Pc [.ref (A 3 0)] (q_BWX D cI cJ cS sa (wCM cI cJ cS A g B S) sz)) (q_XW (fun r => some (.int r)) o D cI cJ cS A (wCM cI cJ cS A g B S) sz) (q_XC o) 1 6 (va_A (wCM cI cJ cS A g B S) sz) := by
  refine vx_ofW (cc := cX2_undo) (maxL := 1) (ret := some .int) (by decide) rfl ?_
  intro p e s m args below meth c s₁ B9 hml htab hv
  obtain ⟨rfl, hsz, hP, hE, hD0, hES, hZ⟩ := hv
  have hx := B9.exec
  have hb := B9.bytes
  have hr := B9.returns
  have hts := atoms_spec (ws := wsX2_undo) B9.pre
  have hown : s.vm.findClass RX2 = some m.cls := findClass_of_methodNamed B9.named
  have hlocks := B9.notSynchronized
  have hu1 : ∀ z ∈ wsX10, z.before _ s = true := fun z h => hts z (List.mem_cons_of_mem _ (List.mem_append_left _ (List.mem_append_right _ h)))
  have hu2 : ∀ z ∈ wsX20, z.before _ s = true := fun z h => hts z (List.mem_cons_of_mem _ (List.mem_append_left _ (List.mem_append_left _ (List.mem_append_right _ h))))
  subst hsz
  have hD := hD0.self (sz := s.heap.size)
  have hS : va_S (va_A (wCM cI cJ cS A g B S) s.heap.size) s.heap s.heap [] := va_S.rf
  have hl := lv_entry ([.ref (A 3 0)]) (n := 1) (Nat.le_of_ble_eq_true rfl)
  rw [lg_entry_eq]
  generalize (lg_sl ([.ref (A 3 0)]) ++ List.replicate (1 - (lg_sl ([.ref (A 3 0)])).length) Slot.unset).toArray = ls at hl ⊢
  have hl : lv_has ls 1 [(0, .ref (A 3 0))] := hl
  refine lv_aload_n hx hb dX2_undo_0 rfl (lv_at hl 0 rfl) ?_
  refine va_get (D := D) (ci := 2) (v := .int (CM_ss S)) (C := RX2) (T := TX2) (N := 5) hx hb hu2 (fun _ h => h) hown hE.1 hP 0 rfl rfl 3 (Nat.le_of_ble_eq_true rfl) (hts (.fieldLink RX2 196 "CoverMeter" "savedStates" "I") (List.mem_of_getElem? (i := 1) rfl)) (fun _ h9 => h9) rfl dX2_undo_1 ?_
  refine q_nmi (y := 2) hss ?_
  refine lv_if_le (tgt := 11) hx hb dX2_undo_4 (by decide) (fun c9 => absurd c9 (by decide)) (fun _ => ?_)
  refine lv_iconst (v := 1) hx hb dX2_undo_7 (by decide) ?_
  refine lv_goto (tgt := 12) hx hb dX2_undo_8 (by decide) ?_
  refine q_needS (x := .inr ()) (As := [.int 1]) (rest := []) hx hb hml hown hts hlocks htab (c_X2_needAllowed l hlt D cI cJ cS sa 1 _ rfl) (va_cwS 1 hts gX2_undo_X2_needAllowed rfl rfl rfl (by decide +kernel) ⟨(Nat.le_of_ble_eq_true rfl), (Nat.le_of_ble_eq_true rfl)⟩) hE hES hZ (fun q h => Or.inr h) rfl hl.1 rfl (Nat.le_of_ble_eq_true rfl) dX2_undo_12 ⟨(Nat.le_of_ble_eq_true rfl), (Nat.le_of_ble_eq_true rfl)⟩ (fun E e => nomatch e) (Nat.le_of_ble_eq_true rfl) (Nat.le_of_ble_eq_true rfl) (fun er => ?_)
  refine lv_aload_n hx hb dX2_undo_15 rfl (lv_at hl 0 rfl) ?_
  refine lv_dup hx hb dX2_undo_16 rfl ?_
  refine va_get (D := D) (ci := 2) (v := .int (CM_ss S)) (C := RX2) (T := TX2) (N := 5) hx hb hu2 (fun _ h => h) hown hE.1 hP 0 rfl rfl 3 (Nat.le_of_ble_eq_true rfl) (hts (.fieldLink RX2 196 "CoverMeter" "savedStates" "I") (List.mem_of_getElem? (i := 1) rfl)) (fun _ h9 => h9) rfl dX2_undo_17 ?_
  refine q_nmi (y := 2) hss ?_
  refine lv_iconst (v := 1) hx hb dX2_undo_20 (by decide) ?_
  refine lv_isub hx hb dX2_undo_21 ?_
  refine q_nmi (y := 1) (by decide) ?_
  obtain ⟨S1, eS1⟩ : ∃ z, sCM_ss S 1 = z := ⟨_, rfl⟩
  refine va_put (D := D) (ci := 2) (v := .int 1) (ty := .int) (C := RX2) (T := TX2) (N := 5) hx hb hu2 (fun _ h => h) tyX2 tyX2_ok nmX2 hown hE.1 hP hD hS 0 rfl rfl 3 (Nat.le_of_ble_eq_true rfl) (hts (.fieldLink RX2 196 "CoverMeter" "savedStates" "I") (List.mem_of_getElem? (i := 1) rfl)) (fun _ h9 => h9) rfl (by decide +kernel) rfl rfl (Nat.le_of_ble_eq_true rfl) dX2_undo_22 (fun H locs hP hD hS => ?_)
  have hP : va_P D vwCl (wCM cI cJ cS A g B (sCM_ss S 1)) H := hP
  have hD : va_D (va_A (wCM cI cJ cS A g B S) s.heap.size) (wCM cI cJ cS A g B (sCM_ss S 1)) := hD
  rw [eS1] at hP hD
  refine lv_aload_n hx hb dX2_undo_25 rfl (lv_at hl 0 rfl) ?_
  refine va_get (D := D) (ci := 2) (v := .ref (A 0 0)) (C := RX2) (T := TX2) (N := 5) hx hb hu2 (fun _ h => h) hown hE.1 hP 0 rfl rfl 0 (Nat.le_of_ble_eq_true rfl) (hts (.fieldLink RX2 12 "CoverMeter" "now" "LCoverMeter$State;") (List.mem_of_getElem? (i := 2) rfl)) (fun _ h9 => h9) rfl dX2_undo_26 ?_
  refine lv_aload_n hx hb dX2_undo_29 rfl (lv_at hl 0 rfl) ?_
  refine va_get (D := D) (ci := 2) (v := .ref (A 3 1)) (C := RX2) (T := TX2) (N := 5) hx hb hu2 (fun _ h => h) hown hE.1 hP 0 rfl rfl 2 (Nat.le_of_ble_eq_true rfl) (hts (.fieldLink RX2 19 "CoverMeter" "saved" "[LCoverMeter$State;") (List.mem_of_getElem? (i := 3) rfl)) (fun _ h9 => h9) rfl dX2_undo_30 ?_
  refine lv_aload_n hx hb dX2_undo_33 rfl (lv_at hl 0 rfl) ?_
  refine va_get (D := D) (ci := 2) (v := .int (CM_ss S1)) (C := RX2) (T := TX2) (N := 5) hx hb hu2 (fun _ h => h) hown hE.1 hP 0 rfl rfl 3 (Nat.le_of_ble_eq_true rfl) (hts (.fieldLink RX2 196 "CoverMeter" "savedStates" "I") (List.mem_of_getElem? (i := 1) rfl)) (fun _ h9 => h9) rfl dX2_undo_34 ?_
  refine q_nmi (y := 1) (by rw [← eS1]; rfl) ?_
  refine va_aldq hx hb hE.1 hP 1 2 rfl rfl (by unfold vp_in; decide) dX2_undo_37 ?_
  refine q_nmv (y := .ref (B 1 0)) (by simp [va_up, va_rf, hg 0 (by decide), hg 1 (by decide), hg 2 (by decide), hg 3 (by decide)]) ?_
  obtain ⟨S2, eS2⟩ : ∃ z, sCM_now S1 (cp_ST (CM_now S1) (CM_s1 S1)) = z := ⟨_, rfl⟩
  refine q_wrC (v := none) (w := wST cI cJ (A 0) (CM_now S1) ++ wST cI cJ (B 1) (CM_s1 S1)) (ci := 1) (As := [.ref (B 1 0)]) (rest := []) hx hb hml hown hts (c_X1_copyFrom l D cI cJ cS (A 0) (B 1) (CM_now S1) (CM_s1 S1) _) (cwV 1 hts gX2_undo_X1_copyFrom rfl rfl rfl (by decide +kernel) ⟨(Nat.le_of_ble_eq_true rfl), (Nat.le_of_ble_eq_true rfl)⟩) hE (qp_now_s1 hP) (qd_now_s1 hD) hS (fun q h => Or.inr h) (fun H1 hF hk h1 h2 => qs_now_s1 (z := cp_ST (CM_now S1) (CM_s1 S1)) hP hD hF hk h1 h2) rfl rfl rfl hl.1 rfl (Nat.le_of_ble_eq_true rfl) dX2_undo_38 ⟨(Nat.le_of_ble_eq_true rfl), (Nat.le_of_ble_eq_true rfl)⟩ (fun H locs hP hD hS => ?_)
  rw [eS2] at hP hD
  refine lv_aload_n hx hb dX2_undo_41 rfl (lv_at hl 0 rfl) ?_
  refine va_get (D := D) (ci := 2) (v := .int (CM_ss S2)) (C := RX2) (T := TX2) (N := 5) hx hb hu2 (fun _ h => h) hown hE.1 hP 0 rfl rfl 3 (Nat.le_of_ble_eq_true rfl) (hts (.fieldLink RX2 196 "CoverMeter" "savedStates" "I") (List.mem_of_getElem? (i := 1) rfl)) (fun _ h9 => h9) rfl dX2_undo_42 ?_
  refine q_nmi (y := 1) (by rw [← eS2]; exact (by rw [← eS1]; rfl)) ?_
  have eF : S2 = (sCM_now (sCM_ss S 1) (cp_ST (CM_now S) (CM_s1 S))) := by rw [← eS2, ← eS1]; rfl
  rw [eF] at hP hD
  refine vx_ret ?_
  exact W.iret hx hb hr (fun t ht hW => ⟨_, ho, rfl, ⟨_, ⟨_, _, hg, rfl⟩, by rw [ht]; exact hP, hD⟩, hS.F ht⟩) hS.2.2 dX2_undo_45
set_option maxRecDepth 100000 in
set_option maxHeartbeats 8000000 in
theorem c_X2_undo_3 (l : Launch) (hlt : l.stackTraces = false) (D : va_G) (cI cJ cS : ClassId) (sa : Nat → Nat) (A : Nat → Nat → Nat) (g : Nat → Option Nat) (B : Nat → Nat → Nat) (hg : ∀ i, i < 4 → g i = some (B i 0)) (S : CM) (sz : Nat) (hss : CM_ss S = 3) (o : String ⊕ (Int32 × CM)) (ho : o = (.inr (2, (sCM_now (sCM_ss S 2) (cp_ST (CM_now S) (CM_s2 S)))))) : vx_Met l yX2_undo wsX2_undo rX2_undo (va_Pc [.ref (A 3 0)] (q_BWX D cI cJ cS sa (wCM cI cJ cS A g B S) sz)) (q_XW (fun r => some (.int r)) o D cI cJ cS A (wCM cI cJ cS A g B S) sz) (q_XC o) 1 6 (va_A (wCM cI cJ cS A g B S) sz) := by
  refine vx_ofW (cc := cX2_undo) (maxL := 1) (ret := some .int) (by decide) rfl ?_
  intro p e s m args below meth c s₁ B9 hml htab hv
  obtain ⟨rfl, hsz, hP, hE, hD0, hES, hZ⟩ := hv
  have hx := B9.exec
  have hb := B9.bytes
  have hr := B9.returns
  have hts := atoms_spec (ws := wsX2_undo) B9.pre
  have hown : s.vm.findClass RX2 = some m.cls := findClass_of_methodNamed B9.named
  have hlocks := B9.notSynchronized
  have hu1 : ∀ z ∈ wsX10, z.before _ s = true := fun z h => hts z (List.mem_cons_of_mem _ (List.mem_append_left _ (List.mem_append_right _ h)))
  have hu2 : ∀ z ∈ wsX20, z.before _ s = true := fun z h => hts z (List.mem_cons_of_mem _ (List.mem_append_left _ (List.mem_append_left _ (List.mem_append_right _ h))))
  subst hsz
  have hD := hD0.self (sz := s.heap.size)
  have hS : va_S (va_A (wCM cI cJ cS A g B S) s.heap.size) s.heap s.heap [] := va_S.rf
  have hl := lv_entry ([.ref (A 3 0)]) (n := 1) (Nat.le_of_ble_eq_true rfl)
  rw [lg_entry_eq]
  generalize (lg_sl ([.ref (A 3 0)]) ++ List.replicate (1 - (lg_sl ([.ref (A 3 0)])).length) Slot.unset).toArray = ls at hl ⊢
  have hl : lv_has ls 1 [(0, .ref (A 3 0))] := hl
  refine lv_aload_n hx hb dX2_undo_0 rfl (lv_at hl 0 rfl) ?_
  refine va_get (D := D) (ci := 2) (v := .int (CM_ss S)) (C := RX2) (T := TX2) (N := 5) hx hb hu2 (fun _ h => h) hown hE.1 hP 0 rfl rfl 3 (Nat.le_of_ble_eq_true rfl) (hts (.fieldLink RX2 196 "CoverMeter" "savedStates" "I") (List.mem_of_getElem? (i := 1) rfl)) (fun _ h9 => h9) rfl dX2_undo_1 ?_
  refine q_nmi (y := 3) hss ?_
  refine lv_if_le (tgt := 11) hx hb dX2_undo_4 (by decide) (fun c9 => absurd c9 (by decide)) (fun _ => ?_)
  refine lv_iconst (v := 1) hx hb dX2_undo_7 (by decide) ?_
  refine lv_goto (tgt := 12) hx hb dX2_undo_8 (by decide) ?_
  refine q_needS (x := .inr ()) (As := [.int 1]) (rest := []) hx hb hml hown hts hlocks htab (c_X2_needAllowed l hlt D cI cJ cS sa 1 _ rfl) (va_cwS 1 hts gX2_undo_X2_needAllowed rfl rfl rfl (by decide +kernel) ⟨(Nat.le_of_ble_eq_true rfl), (Nat.le_of_ble_eq_true rfl)⟩) hE hES hZ (fun q h => Or.inr h) rfl hl.1 rfl (Nat.le_of_ble_eq_true rfl) dX2_undo_12 ⟨(Nat.le_of_ble_eq_true rfl), (Nat.le_of_ble_eq_true rfl)⟩ (fun E e => nomatch e) (Nat.le_of_ble_eq_true rfl) (Nat.le_of_ble_eq_true rfl) (fun er => ?_)
  refine lv_aload_n hx hb dX2_undo_15 rfl (lv_at hl 0 rfl) ?_
  refine lv_dup hx hb dX2_undo_16 rfl ?_
  refine va_get (D := D) (ci := 2) (v := .int (CM_ss S)) (C := RX2) (T := TX2) (N := 5) hx hb hu2 (fun _ h => h) hown hE.1 hP 0 rfl rfl 3 (Nat.le_of_ble_eq_true rfl) (hts (.fieldLink RX2 196 "CoverMeter" "savedStates" "I") (List.mem_of_getElem? (i := 1) rfl)) (fun _ h9 => h9) rfl dX2_undo_17 ?_
  refine q_nmi (y := 3) hss ?_
  refine lv_iconst (v := 1) hx hb dX2_undo_20 (by decide) ?_
  refine lv_isub hx hb dX2_undo_21 ?_
  refine q_nmi (y := 2) (by decide) ?_
  obtain ⟨S1, eS1⟩ : ∃ z, sCM_ss S 2 = z := ⟨_, rfl⟩
  refine va_put (D := D) (ci := 2) (v := .int 2) (ty := .int) (C := RX2) (T := TX2) (N := 5) hx hb hu2 (fun _ h => h) tyX2 tyX2_ok nmX2 hown hE.1 hP hD hS 0 rfl rfl 3 (Nat.le_of_ble_eq_true rfl) (hts (.fieldLink RX2 196 "CoverMeter" "savedStates" "I") (List.mem_of_getElem? (i := 1) rfl)) (fun _ h9 => h9) rfl (by decide +kernel) rfl rfl (Nat.le_of_ble_eq_true rfl) dX2_undo_22 (fun H locs hP hD hS => ?_)
  have hP : va_P D vwCl (wCM cI cJ cS A g B (sCM_ss S 2)) H := hP
  have hD : va_D (va_A (wCM cI cJ cS A g B S) s.heap.size) (wCM cI cJ cS A g B (sCM_ss S 2)) := hD
  rw [eS1] at hP hD
  refine lv_aload_n hx hb dX2_undo_25 rfl (lv_at hl 0 rfl) ?_
  refine va_get (D := D) (ci := 2) (v := .ref (A 0 0)) (C := RX2) (T := TX2) (N := 5) hx hb hu2 (fun _ h => h) hown hE.1 hP 0 rfl rfl 0 (Nat.le_of_ble_eq_true rfl) (hts (.fieldLink RX2 12 "CoverMeter" "now" "LCoverMeter$State;") (List.mem_of_getElem? (i := 2) rfl)) (fun _ h9 => h9) rfl dX2_undo_26 ?_
  refine lv_aload_n hx hb dX2_undo_29 rfl (lv_at hl 0 rfl) ?_
  refine va_get (D := D) (ci := 2) (v := .ref (A 3 1)) (C := RX2) (T := TX2) (N := 5) hx hb hu2 (fun _ h => h) hown hE.1 hP 0 rfl rfl 2 (Nat.le_of_ble_eq_true rfl) (hts (.fieldLink RX2 19 "CoverMeter" "saved" "[LCoverMeter$State;") (List.mem_of_getElem? (i := 3) rfl)) (fun _ h9 => h9) rfl dX2_undo_30 ?_
  refine lv_aload_n hx hb dX2_undo_33 rfl (lv_at hl 0 rfl) ?_
  refine va_get (D := D) (ci := 2) (v := .int (CM_ss S1)) (C := RX2) (T := TX2) (N := 5) hx hb hu2 (fun _ h => h) hown hE.1 hP 0 rfl rfl 3 (Nat.le_of_ble_eq_true rfl) (hts (.fieldLink RX2 196 "CoverMeter" "savedStates" "I") (List.mem_of_getElem? (i := 1) rfl)) (fun _ h9 => h9) rfl dX2_undo_34 ?_
  refine q_nmi (y := 2) (by rw [← eS1]; rfl) ?_
  refine va_aldq hx hb hE.1 hP 1 2 rfl rfl (by unfold vp_in; decide) dX2_undo_37 ?_
  refine q_nmv (y := .ref (B 2 0)) (by simp [va_up, va_rf, hg 0 (by decide), hg 1 (by decide), hg 2 (by decide), hg 3 (by decide)]) ?_
  obtain ⟨S2, eS2⟩ : ∃ z, sCM_now S1 (cp_ST (CM_now S1) (CM_s2 S1)) = z := ⟨_, rfl⟩
  refine q_wrC (v := none) (w := wST cI cJ (A 0) (CM_now S1) ++ wST cI cJ (B 2) (CM_s2 S1)) (ci := 1) (As := [.ref (B 2 0)]) (rest := []) hx hb hml hown hts (c_X1_copyFrom l D cI cJ cS (A 0) (B 2) (CM_now S1) (CM_s2 S1) _) (cwV 1 hts gX2_undo_X1_copyFrom rfl rfl rfl (by decide +kernel) ⟨(Nat.le_of_ble_eq_true rfl), (Nat.le_of_ble_eq_true rfl)⟩) hE (qp_now_s2 hP) (qd_now_s2 hD) hS (fun q h => Or.inr h) (fun H1 hF hk h1 h2 => qs_now_s2 (z := cp_ST (CM_now S1) (CM_s2 S1)) hP hD hF hk h1 h2) rfl rfl rfl hl.1 rfl (Nat.le_of_ble_eq_true rfl) dX2_undo_38 ⟨(Nat.le_of_ble_eq_true rfl), (Nat.le_of_ble_eq_true rfl)⟩ (fun H locs hP hD hS => ?_)
  rw [eS2] at hP hD
  refine lv_aload_n hx hb dX2_undo_41 rfl (lv_at hl 0 rfl) ?_
  refine va_get (D := D) (ci := 2) (v := .int (CM_ss S2)) (C := RX2) (T := TX2) (N := 5) hx hb hu2 (fun _ h => h) hown hE.1 hP 0 rfl rfl 3 (Nat.le_of_ble_eq_true rfl) (hts (.fieldLink RX2 196 "CoverMeter" "savedStates" "I") (List.mem_of_getElem? (i := 1) rfl)) (fun _ h9 => h9) rfl dX2_undo_42 ?_
  refine q_nmi (y := 2) (by rw [← eS2]; exact (by rw [← eS1]; rfl)) ?_
  have eF : S2 = (sCM_now (sCM_ss S 2) (cp_ST (CM_now S) (CM_s2 S))) := by rw [← eS2, ← eS1]; rfl
  rw [eF] at hP hD
  refine vx_ret ?_
  exact W.iret hx hb hr (fun t ht hW => ⟨_, ho, rfl, ⟨_, ⟨_, _, hg, rfl⟩, by rw [ht]; exact hP, hD⟩, hS.F ht⟩) hS.2.2 dX2_undo_45
set_option maxRecDepth 100000 in
set_option maxHeartbeats 8000000 in
theorem c_X2_undo_4 (l : Launch) (hlt : l.stackTraces = false) (D : va_G) (cI cJ cS : ClassId) (sa : Nat → Nat) (A : Nat → Nat → Nat) (g : Nat → Option Nat) (B : Nat → Nat → Nat) (hg : ∀ i, i < 4 → g i = some (B i 0)) (S : CM) (sz : Nat) (hss : CM_ss S = 4) (o : String ⊕ (Int32 × CM)) (ho : o = (.inr (3, (sCM_now (sCM_ss S 3) (cp_ST (CM_now S) (CM_s3 S)))))) : vx_Met l yX2_undo wsX2_undo rX2_undo (va_Pc [.ref (A 3 0)] (q_BWX D cI cJ cS sa (wCM cI cJ cS A g B S) sz)) (q_XW (fun r => some (.int r)) o D cI cJ cS A (wCM cI cJ cS A g B S) sz) (q_XC o) 1 6 (va_A (wCM cI cJ cS A g B S) sz) := by
  refine vx_ofW (cc := cX2_undo) (maxL := 1) (ret := some .int) (by decide) rfl ?_
  intro p e s m args below meth c s₁ B9 hml htab hv
  obtain ⟨rfl, hsz, hP, hE, hD0, hES, hZ⟩ := hv
  have hx := B9.exec
  have hb := B9.bytes
  have hr := B9.returns
  have hts := atoms_spec (ws := wsX2_undo) B9.pre
  have hown : s.vm.findClass RX2 = some m.cls := findClass_of_methodNamed B9.named
  have hlocks := B9.notSynchronized
  have hu1 : ∀ z ∈ wsX10, z.before _ s = true := fun z h => hts z (List.mem_cons_of_mem _ (List.mem_append_left _ (List.mem_append_right _ h)))
  have hu2 : ∀ z ∈ wsX20, z.before _ s = true := fun z h => hts z (List.mem_cons_of_mem _ (List.mem_append_left _ (List.mem_append_left _ (List.mem_append_right _ h))))
  subst hsz
  have hD := hD0.self (sz := s.heap.size)
  have hS : va_S (va_A (wCM cI cJ cS A g B S) s.heap.size) s.heap s.heap [] := va_S.rf
  have hl := lv_entry ([.ref (A 3 0)]) (n := 1) (Nat.le_of_ble_eq_true rfl)
  rw [lg_entry_eq]
  generalize (lg_sl ([.ref (A 3 0)]) ++ List.replicate (1 - (lg_sl ([.ref (A 3 0)])).length) Slot.unset).toArray = ls at hl ⊢
  have hl : lv_has ls 1 [(0, .ref (A 3 0))] := hl
  refine lv_aload_n hx hb dX2_undo_0 rfl (lv_at hl 0 rfl) ?_
  refine va_get (D := D) (ci := 2) (v := .int (CM_ss S)) (C := RX2) (T := TX2) (N := 5) hx hb hu2 (fun _ h => h) hown hE.1 hP 0 rfl rfl 3 (Nat.le_of_ble_eq_true rfl) (hts (.fieldLink RX2 196 "CoverMeter" "savedStates" "I") (List.mem_of_getElem? (i := 1) rfl)) (fun _ h9 => h9) rfl dX2_undo_1 ?_
  refine q_nmi (y := 4) hss ?_
  refine lv_if_le (tgt := 11) hx hb dX2_undo_4 (by decide) (fun c9 => absurd c9 (by decide)) (fun _ => ?_)
  refine lv_iconst (v := 1) hx hb dX2_undo_7 (by decide) ?_
  refine lv_goto (tgt := 12) hx hb dX2_undo_8 (by decide) ?_
  refine q_needS (x := .inr ()) (As := [.int 1]) (rest := []) hx hb hml hown hts hlocks htab (c_X2_needAllowed l hlt D cI cJ cS sa 1 _ rfl) (va_cwS 1 hts gX2_undo_X2_needAllowed rfl rfl rfl (by decide +kernel) ⟨(Nat.le_of_ble_eq_true rfl), (Nat.le_of_ble_eq_true rfl)⟩) hE hES hZ (fun q h => Or.inr h) rfl hl.1 rfl (Nat.le_of_ble_eq_true rfl) dX2_undo_12 ⟨(Nat.le_of_ble_eq_true rfl), (Nat.le_of_ble_eq_true rfl)⟩ (fun E e => nomatch e) (Nat.le_of_ble_eq_true rfl) (Nat.le_of_ble_eq_true rfl) (fun er => ?_)
  refine lv_aload_n hx hb dX2_undo_15 rfl (lv_at hl 0 rfl) ?_
  refine lv_dup hx hb dX2_undo_16 rfl ?_
  refine va_get (D := D) (ci := 2) (v := .int (CM_ss S)) (C := RX2) (T := TX2) (N := 5) hx hb hu2 (fun _ h => h) hown hE.1 hP 0 rfl rfl 3 (Nat.le_of_ble_eq_true rfl) (hts (.fieldLink RX2 196 "CoverMeter" "savedStates" "I") (List.mem_of_getElem? (i := 1) rfl)) (fun _ h9 => h9) rfl dX2_undo_17 ?_
  refine q_nmi (y := 4) hss ?_
  refine lv_iconst (v := 1) hx hb dX2_undo_20 (by decide) ?_
  refine lv_isub hx hb dX2_undo_21 ?_
  refine q_nmi (y := 3) (by decide) ?_
  obtain ⟨S1, eS1⟩ : ∃ z, sCM_ss S 3 = z := ⟨_, rfl⟩
  refine va_put (D := D) (ci := 2) (v := .int 3) (ty := .int) (C := RX2) (T := TX2) (N := 5) hx hb hu2 (fun _ h => h) tyX2 tyX2_ok nmX2 hown hE.1 hP hD hS 0 rfl rfl 3 (Nat.le_of_ble_eq_true rfl) (hts (.fieldLink RX2 196 "CoverMeter" "savedStates" "I") (List.mem_of_getElem? (i := 1) rfl)) (fun _ h9 => h9) rfl (by decide +kernel) rfl rfl (Nat.le_of_ble_eq_true rfl) dX2_undo_22 (fun H locs hP hD hS => ?_)
  have hP : va_P D vwCl (wCM cI cJ cS A g B (sCM_ss S 3)) H := hP
  have hD : va_D (va_A (wCM cI cJ cS A g B S) s.heap.size) (wCM cI cJ cS A g B (sCM_ss S 3)) := hD
  rw [eS1] at hP hD
  refine lv_aload_n hx hb dX2_undo_25 rfl (lv_at hl 0 rfl) ?_
  refine va_get (D := D) (ci := 2) (v := .ref (A 0 0)) (C := RX2) (T := TX2) (N := 5) hx hb hu2 (fun _ h => h) hown hE.1 hP 0 rfl rfl 0 (Nat.le_of_ble_eq_true rfl) (hts (.fieldLink RX2 12 "CoverMeter" "now" "LCoverMeter$State;") (List.mem_of_getElem? (i := 2) rfl)) (fun _ h9 => h9) rfl dX2_undo_26 ?_
  refine lv_aload_n hx hb dX2_undo_29 rfl (lv_at hl 0 rfl) ?_
  refine va_get (D := D) (ci := 2) (v := .ref (A 3 1)) (C := RX2) (T := TX2) (N := 5) hx hb hu2 (fun _ h => h) hown hE.1 hP 0 rfl rfl 2 (Nat.le_of_ble_eq_true rfl) (hts (.fieldLink RX2 19 "CoverMeter" "saved" "[LCoverMeter$State;") (List.mem_of_getElem? (i := 3) rfl)) (fun _ h9 => h9) rfl dX2_undo_30 ?_
  refine lv_aload_n hx hb dX2_undo_33 rfl (lv_at hl 0 rfl) ?_
  refine va_get (D := D) (ci := 2) (v := .int (CM_ss S1)) (C := RX2) (T := TX2) (N := 5) hx hb hu2 (fun _ h => h) hown hE.1 hP 0 rfl rfl 3 (Nat.le_of_ble_eq_true rfl) (hts (.fieldLink RX2 196 "CoverMeter" "savedStates" "I") (List.mem_of_getElem? (i := 1) rfl)) (fun _ h9 => h9) rfl dX2_undo_34 ?_
  refine q_nmi (y := 3) (by rw [← eS1]; rfl) ?_
  refine va_aldq hx hb hE.1 hP 1 2 rfl rfl (by unfold vp_in; decide) dX2_undo_37 ?_
  refine q_nmv (y := .ref (B 3 0)) (by simp [va_up, va_rf, hg 0 (by decide), hg 1 (by decide), hg 2 (by decide), hg 3 (by decide)]) ?_
  obtain ⟨S2, eS2⟩ : ∃ z, sCM_now S1 (cp_ST (CM_now S1) (CM_s3 S1)) = z := ⟨_, rfl⟩
  refine q_wrC (v := none) (w := wST cI cJ (A 0) (CM_now S1) ++ wST cI cJ (B 3) (CM_s3 S1)) (ci := 1) (As := [.ref (B 3 0)]) (rest := []) hx hb hml hown hts (c_X1_copyFrom l D cI cJ cS (A 0) (B 3) (CM_now S1) (CM_s3 S1) _) (cwV 1 hts gX2_undo_X1_copyFrom rfl rfl rfl (by decide +kernel) ⟨(Nat.le_of_ble_eq_true rfl), (Nat.le_of_ble_eq_true rfl)⟩) hE (qp_now_s3 hP) (qd_now_s3 hD) hS (fun q h => Or.inr h) (fun H1 hF hk h1 h2 => qs_now_s3 (z := cp_ST (CM_now S1) (CM_s3 S1)) hP hD hF hk h1 h2) rfl rfl rfl hl.1 rfl (Nat.le_of_ble_eq_true rfl) dX2_undo_38 ⟨(Nat.le_of_ble_eq_true rfl), (Nat.le_of_ble_eq_true rfl)⟩ (fun H locs hP hD hS => ?_)
  rw [eS2] at hP hD
  refine lv_aload_n hx hb dX2_undo_41 rfl (lv_at hl 0 rfl) ?_
  refine va_get (D := D) (ci := 2) (v := .int (CM_ss S2)) (C := RX2) (T := TX2) (N := 5) hx hb hu2 (fun _ h => h) hown hE.1 hP 0 rfl rfl 3 (Nat.le_of_ble_eq_true rfl) (hts (.fieldLink RX2 196 "CoverMeter" "savedStates" "I") (List.mem_of_getElem? (i := 1) rfl)) (fun _ h9 => h9) rfl dX2_undo_42 ?_
  refine q_nmi (y := 3) (by rw [← eS2]; exact (by rw [← eS1]; rfl)) ?_
  have eF : S2 = (sCM_now (sCM_ss S 3) (cp_ST (CM_now S) (CM_s3 S))) := by rw [← eS2, ← eS1]; rfl
  rw [eF] at hP hD
  refine vx_ret ?_
  exact W.iret hx hb hr (fun t ht hW => ⟨_, ho, rfl, ⟨_, ⟨_, _, hg, rfl⟩, by rw [ht]; exact hP, hD⟩, hS.F ht⟩) hS.2.2 dX2_undo_45
def f_X2_undo (S : CM) : Option (String ⊕ (Int32 × CM)) := if CM_ss S = 0 then some (.inl "java/lang/IllegalStateException") else if CM_ss S = 1 then some (.inr (0, sCM_now (sCM_ss S 0) (cp_ST (CM_now S) (CM_s0 S)))) else if CM_ss S = 2 then some (.inr (1, sCM_now (sCM_ss S 1) (cp_ST (CM_now S) (CM_s1 S)))) else if CM_ss S = 3 then some (.inr (2, sCM_now (sCM_ss S 2) (cp_ST (CM_now S) (CM_s2 S)))) else if CM_ss S = 4 then some (.inr (3, sCM_now (sCM_ss S 3) (cp_ST (CM_now S) (CM_s3 S)))) else none
theorem c_X2_undo (l : Launch) (hlt : l.stackTraces = false) (D : va_G) (cI cJ cS : ClassId) (sa : Nat → Nat) (A : Nat → Nat → Nat) (g : Nat → Option Nat) (B : Nat → Nat → Nat) (hg : ∀ i, i < 4 → g i = some (B i 0)) (S : CM) (sz : Nat) (o : String ⊕ (Int32 × CM)) (hf : f_X2_undo S = some o) : vx_Met l yX2_undo wsX2_undo rX2_undo (va_Pc [.ref (A 3 0)] (q_BWX D cI cJ cS sa (wCM cI cJ cS A g B S) sz)) (q_XW (fun r => some (.int r)) o D cI cJ cS A (wCM cI cJ cS A g B S) sz) (q_XC o) 1 6 (va_A (wCM cI cJ cS A g B S) sz) := by
  unfold f_X2_undo at hf
  by_cases c0 : CM_ss S = 0
  · exact c_X2_undo_0 l hlt D cI cJ cS sa A g B hg S sz c0 o (q_some (q_ite_t c0 hf)).symm
  have hf := q_ite_f c0 hf
  by_cases c1 : CM_ss S = 1
  · exact c_X2_undo_1 l hlt D cI cJ cS sa A g B hg S sz c1 o (q_some (q_ite_t c1 hf)).symm
  have hf := q_ite_f c1 hf
  by_cases c2 : CM_ss S = 2
  · exact c_X2_undo_2 l hlt D cI cJ cS sa A g B hg S sz c2 o (q_some (q_ite_t c2 hf)).symm
  have hf := q_ite_f c2 hf
  by_cases c3 : CM_ss S = 3
  · exact c_X2_undo_3 l hlt D cI cJ cS sa A g B hg S sz c3 o (q_some (q_ite_t c3 hf)).symm
  have hf := q_ite_f c3 hf
  by_cases c4 : CM_ss S = 4
  · exact c_X2_undo_4 l hlt D cI cJ cS sa A g B hg S sz c4 o (q_some (q_ite_t c4 hf)).symm
  have hf := q_ite_f c4 hf
  cases hf
def f_X2_set (S : CM) (p1 : Int32) (p2 : Int32) : Option (String ⊕ (Int32 × CM)) := (f_X2_needInRange p1 0 2).bind fun r1 =>
 q_exc r1 fun _ =>
 if q_in p1 3 = true then
 (if q_in p1 3 = true then
 ((f_X2_needInRange p2 (q_lows (p1 : Int32).toNatClampNeg) (q_tops (p1 : Int32).toNatClampNeg)).bind fun r4 =>
 q_exc r4 fun _ =>
 (f_X2_save S ).bind fun r5 =>
 if q_in p1 3 = true then
 (q_let ((ST_settings (CM_now r5) (p1 : Int32).toNatClampNeg)) fun v9 =>
 if q_in p1 3 = true then
 (q_let (sCM_now r5 (sST_settings (CM_now r5) (upd (ST_settings (CM_now r5)) (p1 : Int32).toNatClampNeg p2))) fun S11 =>
 some (.inr (v9, S11))) else none) else none) else none) else none
abbrev rX2_set : Room := { frames := 7, cells := 2, slots := 12, locals := 112 }
set_option maxRecDepth 100000 in
set_option maxHeartbeats 4000000 in
theorem c_X2_set (l : Launch) (hlt : l.stackTraces = false) (D : va_G) (cI cJ cS : ClassId) (sa : Nat → Nat) (A : Nat → Nat → Nat) (g : Nat → Option Nat) (B : Nat → Nat → Nat) (hg : ∀ i, i < 4 → g i = some (B i 0)) (S : CM) (sz : Nat) (p1 : Int32) (p2 : Int32) (o : (String ⊕ (Int32 × CM))) (hf : f_X2_set S p1 p2 = some o) : vx_Met l yX2_set wsX2_set rX2_set (va_Pc [.ref (A 3 0), .int p1, .int p2] (q_BWX D cI cJ cS sa (wCM cI cJ cS A g B S) sz)) (q_XW (fun r => some (.int r)) o D cI cJ cS A (wCM cI cJ cS A g B S) sz) (q_XC o) 2 12 (va_A (wCM cI cJ cS A g B S) sz) := by
  refine vx_ofW (cc := cX2_set) (maxL := 4) (ret := some .int) (by decide) rfl ?_
  intro p e s m args below meth c s₁ B9 hml htab hv
  obtain ⟨rfl, hsz, hP, hE, hD0, hES, hZ⟩ := hv
  have hx := B9.exec
  have hb := B9.bytes
  have hr := B9.returns
  have hts := atoms_spec (ws := wsX2_set) B9.pre
  have hown : s.vm.findClass RX2 = some m.cls := findClass_of_methodNamed B9.named
  have hlocks := B9.notSynchronized
  have hu1 : ∀ z ∈ wsX10, z.before _ s = true := fun z h => hts z (List.mem_cons_of_mem _ (List.mem_append_left _ (List.mem_append_right _ h)))
  have hu2 : ∀ z ∈ wsX20, z.before _ s = true := fun z h => hts z (List.mem_cons_of_mem _ (List.mem_append_left _ (List.mem_append_left _ (List.mem_append_right _ h))))
  subst hsz
  have hD := hD0.self (sz := s.heap.size)
  have hS : va_S (va_A (wCM cI cJ cS A g B S) s.heap.size) s.heap s.heap [] := va_S.rf
  have hl := lv_entry ([.ref (A 3 0), .int p1, .int p2]) (n := 4) (Nat.le_of_ble_eq_true rfl)
  rw [lg_entry_eq]
  generalize (lg_sl ([.ref (A 3 0), .int p1, .int p2]) ++ List.replicate (4 - (lg_sl ([.ref (A 3 0), .int p1, .int p2])).length) Slot.unset).toArray = ls at hl ⊢
  have hl : lv_has ls 4 [(0, .ref (A 3 0)), (1, .int p1), (2, .int p2)] := hl
  unfold f_X2_set at hf
  refine lv_iload_n hx hb dX2_set_0 rfl (lv_at hl 1 rfl) ?_
  refine lv_iconst (v := 0) hx hb dX2_set_1 (by decide) ?_
  refine lv_iconst (v := 2) hx hb dX2_set_2 (by decide) ?_
  obtain ⟨r1, hr1, hf⟩ := q_bd_go hf
  refine q_needS (As := [.int p1, .int 0, .int 2]) (rest := []) hx hb hml hown hts hlocks htab (c_X2_needInRange l hlt D cI cJ cS sa p1 0 2 _ hr1) (va_cwS 3 hts gX2_set_X2_needInRange rfl rfl rfl (by decide +kernel) ⟨(Nat.le_of_ble_eq_true rfl), (Nat.le_of_ble_eq_true rfl)⟩) hE hES hZ (fun q h => Or.inr h) rfl hl.1 rfl (Nat.le_of_ble_eq_true rfl) dX2_set_3 ⟨(Nat.le_of_ble_eq_true rfl), (Nat.le_of_ble_eq_true rfl)⟩ (fun E e => q_exc_l hf E e) (Nat.le_of_ble_eq_true rfl) (Nat.le_of_ble_eq_true rfl) (fun er1 => ?_)
  have hf := q_exc_r hf er1
  refine lv_iload_n hx hb dX2_set_6 rfl (lv_at hl 2 rfl) ?_
  refine va_gets hx hb hZ.2.2.1 hS hown (hts (.fieldLink RX2 34 "CoverMeter" "LOWEST_SETTING" "[I") (List.mem_of_getElem? (i := 1) rfl)) (fun _ h9 => h9) dX2_set_7 ?_
  refine lv_iload_n hx hb dX2_set_10 rfl (lv_at hl 1 rfl) ?_
  have hi2 := q_gd_in hf
  have hf := q_gd_go hf
  refine va_ti hx hb hZ.2.2.2.1 hS hi2 rfl dX2_set_11 ?_
  refine va_gets hx hb hZ.2.2.2.2.1 hS hown (hts (.fieldLink RX2 38 "CoverMeter" "GREATEST_SETTING" "[I") (List.mem_of_getElem? (i := 2) rfl)) (fun _ h9 => h9) dX2_set_12 ?_
  refine lv_iload_n hx hb dX2_set_15 rfl (lv_at hl 1 rfl) ?_
  have hi3 := q_gd_in hf
  have hf := q_gd_go hf
  refine va_ti hx hb hZ.2.2.2.2.2 hS hi3 rfl dX2_set_16 ?_
  obtain ⟨r4, hr4, hf⟩ := q_bd_go hf
  refine q_needS (As := [.int p2, .int (q_lows (p1 : Int32).toNatClampNeg), .int (q_tops (p1 : Int32).toNatClampNeg)]) (rest := []) hx hb hml hown hts hlocks htab (c_X2_needInRange l hlt D cI cJ cS sa p2 (q_lows (p1 : Int32).toNatClampNeg) (q_tops (p1 : Int32).toNatClampNeg) _ hr4) (va_cwS 3 hts gX2_set_X2_needInRange rfl rfl rfl (by decide +kernel) ⟨(Nat.le_of_ble_eq_true rfl), (Nat.le_of_ble_eq_true rfl)⟩) hE hES hZ (fun q h => Or.inr h) rfl hl.1 rfl (Nat.le_of_ble_eq_true rfl) dX2_set_17 ⟨(Nat.le_of_ble_eq_true rfl), (Nat.le_of_ble_eq_true rfl)⟩ (fun E e => q_exc_l hf E e) (Nat.le_of_ble_eq_true rfl) (Nat.le_of_ble_eq_true rfl) (fun er4 => ?_)
  have hf := q_exc_r hf er4
  refine lv_aload_n hx hb dX2_set_20 rfl (lv_at hl 0 rfl) ?_
  obtain ⟨r5, hr5, hf⟩ := q_bd_go hf
  refine q_wrE (ci := 2) (As := []) (rest := []) hx hb hml hown hts (c_X2_save l hlt D cI cJ cS sa A g B hg S _  _ hr5) (cwV 0 hts gX2_set_X2_save rfl rfl rfl (by decide +kernel) ⟨(Nat.le_of_ble_eq_true rfl), (Nat.le_of_ble_eq_true rfl)⟩) hE hES hZ hP hD hS (fun q h => Or.inr h) rfl rfl rfl hl.1 rfl (Nat.le_of_ble_eq_true rfl) dX2_set_21 ⟨(Nat.le_of_ble_eq_true rfl), (Nat.le_of_ble_eq_true rfl)⟩ (fun g6 B7 H locs hg hP hD hS => ?_)
  refine lv_aload_n hx hb dX2_set_24 rfl (lv_at hl 0 rfl) ?_
  refine va_get (D := D) (ci := 2) (v := .ref (A 0 0)) (C := RX2) (T := TX2) (N := 5) hx hb hu2 (fun _ h => h) hown hE.1 hP 0 rfl rfl 0 (Nat.le_of_ble_eq_true rfl) (hts (.fieldLink RX2 12 "CoverMeter" "now" "LCoverMeter$State;") (List.mem_of_getElem? (i := 3) rfl)) (fun _ h9 => h9) rfl dX2_set_25 ?_
  refine va_get (D := D) (ci := 1) (v := .ref (A 0 1)) (C := RX1) (T := TX1) (N := 15) hx hb hu1 (fun _ h => h) hown hE.1 hP 2 rfl rfl 0 (Nat.le_of_ble_eq_true rfl) (hts (.fieldLink RX2 44 "CoverMeter$State" "settings" "[I") (List.mem_of_getElem? (i := 4) rfl)) (fun _ h9 => h9) rfl dX2_set_28 ?_
  refine lv_iload_n hx hb dX2_set_31 rfl (lv_at hl 1 rfl) ?_
  have hi8 := q_gd_in hf
  have hf := q_gd_go hf
  refine va_iald hx hb hE.1 hP 3 0 rfl rfl hi8 dX2_set_32 ?_
  obtain ⟨v9, ev9, hf⟩ := q_let_go hf
  refine q_nmi ev9 ?_
  refine lv_istore_n (lv' := [(3, .int v9), (0, .ref (A 3 0)), (1, .int p1), (2, .int p2)]) hx hb dX2_set_33 rfl hl (by decide) rfl (fun ls hl => ?_)
  refine lv_aload_n hx hb dX2_set_34 rfl (lv_at hl 1 rfl) ?_
  refine va_get (D := D) (ci := 2) (v := .ref (A 0 0)) (C := RX2) (T := TX2) (N := 5) hx hb hu2 (fun _ h => h) hown hE.1 hP 0 rfl rfl 0 (Nat.le_of_ble_eq_true rfl) (hts (.fieldLink RX2 12 "CoverMeter" "now" "LCoverMeter$State;") (List.mem_of_getElem? (i := 3) rfl)) (fun _ h9 => h9) rfl dX2_set_35 ?_
  refine va_get (D := D) (ci := 1) (v := .ref (A 0 1)) (C := RX1) (T := TX1) (N := 15) hx hb hu1 (fun _ h => h) hown hE.1 hP 2 rfl rfl 0 (Nat.le_of_ble_eq_true rfl) (hts (.fieldLink RX2 44 "CoverMeter$State" "settings" "[I") (List.mem_of_getElem? (i := 4) rfl)) (fun _ h9 => h9) rfl dX2_set_38 ?_
  refine lv_iload_n hx hb dX2_set_41 rfl (lv_at hl 2 rfl) ?_
  refine lv_iload_n hx hb dX2_set_42 rfl (lv_at hl 3 rfl) ?_
  have hi10 := q_gd_in hf
  have hf := q_gd_go hf
  obtain ⟨S11, eS11, hf⟩ := q_let_go hf
  refine va_iast hx hb hE.1 hP hD hS 3 0 rfl rfl hi10 dX2_set_43 (fun H locs hP hD hS => ?_)
  have hP : va_P D vwCl (wCM cI cJ cS A g6 B7 (sCM_now r5 (sST_settings (CM_now r5) (upd (ST_settings (CM_now r5)) (p1 : Int32).toNatClampNeg p2)))) H := hP
  have hD : va_D (va_A (wCM cI cJ cS A g B S) s.heap.size) (wCM cI cJ cS A g6 B7 (sCM_now r5 (sST_settings (CM_now r5) (upd (ST_settings (CM_now r5)) (p1 : Int32).toNatClampNeg p2)))) := hD
  rw [eS11] at hP hD
  refine lv_iload_n hx hb dX2_set_44 rfl (lv_at hl 0 rfl) ?_
  have ho := q_some hf
  refine vx_ret ?_
  refine W.widen (k := 2) (n := 12) (Nat.le_of_ble_eq_true rfl) (Nat.le_of_ble_eq_true rfl) ?_
  exact W.iret hx hb hr (fun t ht hW => ⟨_, ho.symm, rfl, ⟨_, ⟨g6, B7, hg, rfl⟩, by rw [ht]; exact hP, hD⟩, hS.F ht⟩) hS.2.2 dX2_set_45
