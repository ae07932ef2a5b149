def f_X2_addPerson_41 (S : CM) (l1 : Int64) (t0 : Int32) : Option (String ⊕ (Int32 × CM)) := (f_X2_needAllowed t0).bind fun r4 =>
 q_exc r4 fun _ =>
 (f_X2_save S ).bind fun r5 =>
 (f_X1_enterPerson (CM_now r5) l1).bind fun r8 =>
 q_let (sCM_now r5 r8.2) fun S9 =>
 some (.inr (r8.1, S9))
def f_X2_addPerson (S : CM) (p1 : Int64) : Option (String ⊕ (Int32 × CM)) := if (lg_cmp p1 0) < 0 then
 (some (.inl "java/lang/IllegalArgumentException"))
 else (if (lg_cmp p1 4398046511103) ≤ 0 then
 (if 8 ≤ (ST_persons (CM_now S)) then
 (f_X2_addPerson_41 S p1 0)
 else (f_X2_addPerson_41 S p1 1))
 else (some (.inl "java/lang/IllegalArgumentException")))
abbrev rX2_addPerson : Room := { frames := 7, cells := 1, slots := 6, locals := 110 }
set_option maxRecDepth 100000 in
set_option maxHeartbeats 4000000 in
theorem c_X2_addPerson (l : Launch) (hlt : l.stackTraces = false) (D : va_G) (cI cJ cS : ClassId) (sa : Nat → Nat) (A : Nat → Nat → Nat) (g : Nat → Option Nat) (B : Nat → Nat → Nat) (hg : ∀ i, i < 4 → g i = some (B i 0)) (S : CM) (sz : Nat) (p1 : Int64) (o : (String ⊕ (Int32 × CM))) (hf : f_X2_addPerson S p1 = some o) : vx_Met l yX2_addPerson wsX2_addPerson rX2_addPerson (va_Pc [.ref (A 3 0), .long p1] (q_BWX D cI cJ cS sa (wCM cI cJ cS A g B S) sz)) (q_XW (fun r => some (.int r)) o D cI cJ cS A (wCM cI cJ cS A g B S) sz) (q_XC o) 1 6 (va_A (wCM cI cJ cS A g B S) sz) := by
  refine vx_ofW (cc := cX2_addPerson) (maxL := 3) (ret := some .int) (by decide) rfl ?_
  intro p e s m args below meth c s₁ B9 hml htab hv
  obtain ⟨rfl, hsz, hP, hE, hD0, hES, hZ⟩ := hv
  have hx := B9.exec
  have hb := B9.bytes
  have hr := B9.returns
  have hts := atoms_spec (ws := wsX2_addPerson) B9.pre
  have hown : s.vm.findClass RX2 = some m.cls := findClass_of_methodNamed B9.named
  have hlocks := B9.notSynchronized
  have hu1 : ∀ z ∈ wsX10, z.before _ s = true := fun z h => hts z (List.mem_cons_of_mem _ (List.mem_append_left _ (List.mem_append_left _ (List.mem_append_right _ h))))
  have hu2 : ∀ z ∈ wsX20, z.before _ s = true := fun z h => hts z (List.mem_cons_of_mem _ (List.mem_append_left _ (List.mem_append_left _ (List.mem_append_left _ (List.mem_append_right _ h)))))
  subst hsz
  have hD := hD0.self (sz := s.heap.size)
  have hS : va_S (va_A (wCM cI cJ cS A g B S) s.heap.size) s.heap s.heap [] := va_S.rf
  have B_41 : ∀ (l1 : Int64) (t0 : Int32) (ls : Array Slot), lv_has ls 3 [(0, .ref (A 3 0)), (1, .long l1)] → f_X2_addPerson_41 S l1 t0 = some o → W p l e (headSpec wsX2_addPerson rX2_addPerson).room s m (([.ref (A 3 0), .long p1] : List Value).toArray) below meth c s.heap [] 0 0 (vx_MQ below (q_XW (fun r => some (.int r)) o D cI cJ cS A (wCM cI cJ cS A g B S) s.heap.size) (q_XC o) (([.ref (A 3 0), .long p1] : List Value).toArray) s 1 6 (va_A (wCM cI cJ cS A g B S) s.heap.size)) (F0 m 41 ls [.int t0]) := by
    intro l1 t0 ls hl hf
    unfold f_X2_addPerson_41 at hf
    obtain ⟨r4, hr4, hf⟩ := q_bd_go hf
    refine q_needS (As := [.int t0]) (rest := []) hx hb hml hown hts hlocks htab (c_X2_needAllowed l hlt D cI cJ cS sa t0 _ hr4) (va_cwS 1 hts gX2_addPerson_X2_needAllowed rfl rfl rfl (by decide +kernel) ⟨(Nat.le_of_ble_eq_true rfl), (Nat.le_of_ble_eq_true rfl)⟩) hE hES hZ (fun q h => Or.inr h) rfl hl.1 rfl (Nat.le_of_ble_eq_true rfl) dX2_addPerson_41 ⟨(Nat.le_of_ble_eq_true rfl), (Nat.le_of_ble_eq_true rfl)⟩ (fun E e => q_exc_l hf E e) (Nat.le_of_ble_eq_true rfl) (Nat.le_of_ble_eq_true rfl) (fun er4 => ?_)
    have hf := q_exc_r hf er4
    refine lv_aload_n hx hb dX2_addPerson_44 rfl (lv_at hl 0 rfl) ?_
    obtain ⟨r5, hr5, hf⟩ := q_bd_go hf
    refine q_wrE (ci := 2) (As := []) (rest := []) hx hb hml hown hts (c_X2_save l hlt D cI cJ cS sa A g B hg S _  _ hr5) (cwV 0 hts gX2_addPerson_X2_save rfl rfl rfl (by decide +kernel) ⟨(Nat.le_of_ble_eq_true rfl), (Nat.le_of_ble_eq_true rfl)⟩) hE hES hZ hP hD hS (fun q h => Or.inr h) rfl rfl rfl hl.1 rfl (Nat.le_of_ble_eq_true rfl) dX2_addPerson_45 ⟨(Nat.le_of_ble_eq_true rfl), (Nat.le_of_ble_eq_true rfl)⟩ (fun g6 B7 H locs hg hP hD hS => ?_)
    refine lv_aload_n hx hb dX2_addPerson_48 rfl (lv_at hl 0 rfl) ?_
    refine va_get (D := D) (ci := 2) (v := .ref (A 0 0)) (C := RX2) (T := TX2) (N := 5) hx hb hu2 (fun _ h => h) hown hE.1 hP 0 rfl rfl 0 (Nat.le_of_ble_eq_true rfl) (hts (.fieldLink RX2 12 "CoverMeter" "now" "LCoverMeter$State;") (List.mem_of_getElem? (i := 4) rfl)) (fun _ h9 => h9) rfl dX2_addPerson_49 ?_
    refine lv_lload_n hx hb dX2_addPerson_52 rfl (lv_at hl 1 rfl) ?_
    obtain ⟨r8, hr8, hf⟩ := q_bd_go hf
    obtain ⟨S9, eS9, hf⟩ := q_let_go hf
    refine q_wrC (v := (some (.int r8.1))) (w := wST cI cJ (A 0) (CM_now r5)) (ci := 1) (As := [.long l1]) (rest := []) hx hb hml hown hts (c_X1_enterPerson l D cI cJ cS (A 0) (CM_now r5) _ l1 _ hr8) (cwV 1 hts gX2_addPerson_X1_enterPerson rfl rfl rfl (by decide +kernel) ⟨(Nat.le_of_ble_eq_true rfl), (Nat.le_of_ble_eq_true rfl)⟩) hE (qp_now hP) (qd_now hD) hS (fun q h => Or.inr h) (fun H1 hF hk h1 h2 => qs_now (z := r8.2) hP hD hF hk h1 h2) rfl rfl rfl hl.1 rfl (Nat.le_of_ble_eq_true rfl) dX2_addPerson_53 ⟨(Nat.le_of_ble_eq_true rfl), (Nat.le_of_ble_eq_true rfl)⟩ (fun H locs hP hD hS => ?_)
    rw [eS9] at hP hD
    have ho := q_some hf
    refine vx_ret ?_
    refine W.widen (k := 1) (n := 6) (Nat.le_of_ble_eq_true rfl) (Nat.le_of_ble_eq_true rfl) ?_
    exact W.iret hx hb hr (fun t ht hW => ⟨_, ho.symm, rfl, ⟨_, ⟨g6, B7, hg, rfl⟩, by rw [ht]; exact hP, hD⟩, hS.F ht⟩) hS.2.2 dX2_addPerson_56
  have hl := lv_entry ([.ref (A 3 0), .long p1]) (n := 3) (Nat.le_of_ble_eq_true rfl)
  rw [lg_entry_eq]
  generalize (lg_sl ([.ref (A 3 0), .long p1]) ++ List.replicate (3 - (lg_sl ([.ref (A 3 0), .long p1])).length) Slot.unset).toArray = ls at hl ⊢
  have hl : lv_has ls 3 [(0, .ref (A 3 0)), (1, .long p1)] := hl
  unfold f_X2_addPerson at hf
  refine lv_lload_n hx hb dX2_addPerson_0 rfl (lv_at hl 1 rfl) ?_
  refine lv_lconst (v := 0) hx hb dX2_addPerson_1 (by decide) ?_
  refine W.lcmp hx hb dX2_addPerson_2 ?_
  refine lv_if_lt (tgt := 14) hx hb dX2_addPerson_3 (by decide) (fun c1 => ?_) (fun c1 => ?_)
  · have hf := q_ite_t c1 hf
    have ho := q_some hf
    exact vx_throwS (sa := sa 0) (text := "the roster is out of range") (names := ["java/lang/RuntimeException", "java/lang/Exception"]) hx hb hlt hown (by decide +kernel) (by decide +kernel) (hts (.classLink RX2 49 "java/lang/IllegalArgumentException") (List.mem_of_getElem? (i := 1) rfl)) (hts (.initialized "java/lang/IllegalArgumentException") (List.mem_of_getElem? (i := 2) rfl)) (hES.1 0 _ rfl) (vx_hat (fun w h => hts w (List.mem_cons_of_mem _ (List.mem_append_left _ (List.mem_append_right _ h)))) (B := [.castable "java/lang/IllegalArgumentException" "java/lang/IllegalArgumentException", .declares (Bundle.initS "java/lang/RuntimeException"), .declares (Bundle.initS "java/lang/Exception"), .declares (Bundle.initS Bundle.tN)]) (by decide +kernel) (vx_c (va_Nw.use rfl hES.2.2.1) (vx_c (va_Nw.use rfl hES.2.2.2.2.1) (vx_c (va_Nw.use rfl hES.2.2.2.2.2.1) (vx_c (va_Nw.use rfl hES.2.2.2.2.2.2) vx_n))))) (by decide +kernel) hZ.1 hZ.2.1 hS (hl.1.trans hml.symm) dX2_addPerson_14 dX2_addPerson_17 dX2_addPerson_18 dX2_addPerson_20 dX2_addPerson_23 (fun z hz => (htab z hz).elim) (Nat.le_of_ble_eq_true rfl) (Nat.le_of_ble_eq_true rfl) (Nat.le_of_ble_eq_true rfl) (Nat.le_of_ble_eq_true rfl) hlocks (fun t hal hsz hk => ⟨ho.symm, hsz, fun q h1 _ => hk q h1⟩) (fun _ h => nomatch h) (Nat.le_of_ble_eq_true rfl) (Nat.le_of_ble_eq_true rfl)
  · have hf := q_ite_f c1 hf
    refine lv_lload_n hx hb dX2_addPerson_6 rfl (lv_at hl 1 rfl) ?_
    refine lv_ldc2 (v := 4398046511103) hx hb hown (hts (.constantLong RX2 47 (4398046511103)) (List.mem_of_getElem? (i := 3) rfl)) dX2_addPerson_7 ?_
    refine W.lcmp hx hb dX2_addPerson_10 ?_
    refine lv_if_le (tgt := 24) hx hb dX2_addPerson_11 (by decide) (fun c2 => ?_) (fun c2 => ?_)
    · have hf := q_ite_t c2 hf
      refine lv_aload_n hx hb dX2_addPerson_24 rfl (lv_at hl 0 rfl) ?_
      refine va_get (D := D) (ci := 2) (v := .ref (A 0 0)) (C := RX2) (T := TX2) (N := 5) hx hb hu2 (fun _ h => h) hown hE.1 hP 0 rfl rfl 0 (Nat.le_of_ble_eq_true rfl) (hts (.fieldLink RX2 12 "CoverMeter" "now" "LCoverMeter$State;") (List.mem_of_getElem? (i := 4) rfl)) (fun _ h9 => h9) rfl dX2_addPerson_25 ?_
      refine va_get (D := D) (ci := 1) (v := .int (ST_persons (CM_now S))) (C := RX1) (T := TX1) (N := 15) hx hb hu1 (fun _ h => h) hown hE.1 hP 2 rfl rfl 2 (Nat.le_of_ble_eq_true rfl) (hts (.fieldLink RX2 56 "CoverMeter$State" "persons" "I") (List.mem_of_getElem? (i := 5) rfl)) (fun _ h9 => h9) rfl dX2_addPerson_28 ?_
      refine lv_bipush (v := 8) hx hb dX2_addPerson_31 (by decide) ?_
      refine lv_icmp_ge (tgt := 40) hx hb dX2_addPerson_33 (by decide) (fun c3 => ?_) (fun c3 => ?_)
      · have hf := q_ite_t c3 hf
        refine lv_iconst (v := 0) hx hb dX2_addPerson_40 (by decide) ?_
        exact B_41 p1 0 _ (lv_sub hl [0, 1] rfl) hf
      · have hf := q_ite_f c3 hf
        refine lv_iconst (v := 1) hx hb dX2_addPerson_36 (by decide) ?_
        refine lv_goto (tgt := 41) hx hb dX2_addPerson_37 (by decide) ?_
        exact B_41 p1 1 _ (lv_sub hl [0, 1] rfl) hf
    · have hf := q_ite_f c2 hf
      have ho := q_some hf
      exact vx_throwS (sa := sa 0) (text := "the roster is out of range") (names := ["java/lang/RuntimeException", "java/lang/Exception"]) hx hb hlt hown (by decide +kernel) (by decide +kernel) (hts (.classLink RX2 49 "java/lang/IllegalArgumentException") (List.mem_of_getElem? (i := 1) rfl)) (hts (.initialized "java/lang/IllegalArgumentException") (List.mem_of_getElem? (i := 2) rfl)) (hES.1 0 _ rfl) (vx_hat (fun w h => hts w (List.mem_cons_of_mem _ (List.mem_append_left _ (List.mem_append_right _ h)))) (B := [.castable "java/lang/IllegalArgumentException" "java/lang/IllegalArgumentException", .declares (Bundle.initS "java/lang/RuntimeException"), .declares (Bundle.initS "java/lang/Exception"), .declares (Bundle.initS Bundle.tN)]) (by decide +kernel) (vx_c (va_Nw.use rfl hES.2.2.1) (vx_c (va_Nw.use rfl hES.2.2.2.2.1) (vx_c (va_Nw.use rfl hES.2.2.2.2.2.1) (vx_c (va_Nw.use rfl hES.2.2.2.2.2.2) vx_n))))) (by decide +kernel) hZ.1 hZ.2.1 hS (hl.1.trans hml.symm) dX2_addPerson_14 dX2_addPerson_17 dX2_addPerson_18 dX2_addPerson_20 dX2_addPerson_23 (fun z hz => (htab z hz).elim) (Nat.le_of_ble_eq_true rfl) (Nat.le_of_ble_eq_true rfl) (Nat.le_of_ble_eq_true rfl) (Nat.le_of_ble_eq_true rfl) hlocks (fun t hal hsz hk => ⟨ho.symm, hsz, fun q h1 _ => hk q h1⟩) (fun _ h => nomatch h) (Nat.le_of_ble_eq_true rfl) (Nat.le_of_ble_eq_true rfl)
def f_X2_roster (S : CM) (p1 : Int32) (p2 : Int32) (p3 : Int32) : Option (String ⊕ (Int32 × CM)) := (f_X2_needPerson S p1).bind fun r1 =>
 q_exc r1 fun _ =>
 (f_X2_needInRange p2 0 41).bind fun r2 =>
 q_exc r2 fun _ =>
 (f_X1_canChangeRoster (CM_now S) p1 p2 p3).bind fun r3 =>
 (f_X2_needAllowed r3).bind fun r4 =>
 q_exc r4 fun _ =>
 (f_X2_save S ).bind fun r5 =>
 if q_in p1 8 = true then
 (if q_in p1 8 = true then
 (q_let (sCM_now r5 (sST_rosters (CM_now r5) (vp_updL (ST_rosters (CM_now r5)) (p1 : Int32).toNatClampNeg ((ST_rosters (CM_now r5) (p1 : Int32).toNatClampNeg) ^^^ ((1 : Int64) <<< ((p2 : Int32).toInt64 &&& 63)))))) fun S10 =>
 if q_in p1 8 = true then
 ((f_J13_bitCount_95d88 (ST_rosters (CM_now S10) (p1 : Int32).toNatClampNeg)).bind fun r12 =>
 some (.inr (r12, S10))) else none) else none) else none
abbrev rX2_roster : Room := { frames := 7, cells := 3, slots := 18, locals := 112 }
set_option maxRecDepth 100000 in
set_option maxHeartbeats 4000000 in
theorem c_X2_roster (l : Launch) (hlt : l.stackTraces = false) (D : va_G) (cI cJ cS : ClassId) (sa : Nat → Nat) (A : Nat → Nat → Nat) (g : Nat → Option Nat) (B : Nat → Nat → Nat) (hg : ∀ i, i < 4 → g i = some (B i 0)) (S : CM) (sz : Nat) (p1 : Int32) (p2 : Int32) (p3 : Int32) (o : (String ⊕ (Int32 × CM))) (hf : f_X2_roster S p1 p2 p3 = some o) : vx_Met l yX2_roster wsX2_roster rX2_roster (va_Pc [.ref (A 3 0), .int p1, .int p2, .int p3] (q_BWX D cI cJ cS sa (wCM cI cJ cS A g B S) sz)) (q_XW (fun r => some (.int r)) o D cI cJ cS A (wCM cI cJ cS A g B S) sz) (q_XC o) 3 18 (va_A (wCM cI cJ cS A g B S) sz) := by
  refine vx_ofW (cc := cX2_roster) (maxL := 4) (ret := some .int) (by decide) rfl ?_
  intro p e s m args below meth c s₁ B9 hml htab hv
  obtain ⟨rfl, hsz, hP, hE, hD0, hES, hZ⟩ := hv
  have hx := B9.exec
  have hb := B9.bytes
  have hr := B9.returns
  have hts := atoms_spec (ws := wsX2_roster) B9.pre
  have hown : s.vm.findClass RX2 = some m.cls := findClass_of_methodNamed B9.named
  have hlocks := B9.notSynchronized
  have hu1 : ∀ z ∈ wsX10, z.before _ s = true := fun z h => hts z (List.mem_cons_of_mem _ (List.mem_append_left _ (List.mem_append_left _ (List.mem_append_left _ (List.mem_append_right _ h)))))
  have hu2 : ∀ z ∈ wsX20, z.before _ s = true := fun z h => hts z (List.mem_cons_of_mem _ (List.mem_append_left _ (List.mem_append_left _ (List.mem_append_left _ (List.mem_append_left _ (List.mem_append_right _ h))))))
  subst hsz
  have hD := hD0.self (sz := s.heap.size)
  have hS : va_S (va_A (wCM cI cJ cS A g B S) s.heap.size) s.heap s.heap [] := va_S.rf
  have hl := lv_entry ([.ref (A 3 0), .int p1, .int p2, .int p3]) (n := 4) (Nat.le_of_ble_eq_true rfl)
  rw [lg_entry_eq]
  generalize (lg_sl ([.ref (A 3 0), .int p1, .int p2, .int p3]) ++ List.replicate (4 - (lg_sl ([.ref (A 3 0), .int p1, .int p2, .int p3])).length) Slot.unset).toArray = ls at hl ⊢
  have hl : lv_has ls 4 [(0, .ref (A 3 0)), (1, .int p1), (2, .int p2), (3, .int p3)] := hl
  unfold f_X2_roster at hf
  refine lv_aload_n hx hb dX2_roster_0 rfl (lv_at hl 0 rfl) ?_
  refine lv_iload_n hx hb dX2_roster_1 rfl (lv_at hl 1 rfl) ?_
  obtain ⟨r1, hr1, hf⟩ := q_bd_go hf
  refine q_needV (w := wCR cI cJ A S) (ci := 2) (As := [.int p1]) (rest := []) hx hb hml hown hts hlocks htab (c_X2_needPerson l hlt D cI cJ cS sa A S p1 _ hr1) (cwV 1 hts gX2_roster_X2_needPerson rfl rfl rfl (by decide +kernel) ⟨(Nat.le_of_ble_eq_true rfl), (Nat.le_of_ble_eq_true rfl)⟩) hE hES hZ (fun q h => h.elim (fun ⟨k, e9, h9⟩ => (qd_CR hD).2 k _ h9) (fun h => Or.inr h)) (qp_CR hP) rfl rfl rfl hl.1 rfl (Nat.le_of_ble_eq_true rfl) dX2_roster_2 ⟨(Nat.le_of_ble_eq_true rfl), (Nat.le_of_ble_eq_true rfl)⟩ (fun E e => q_exc_l hf E e) (Nat.le_of_ble_eq_true rfl) (Nat.le_of_ble_eq_true rfl) (fun er1 => ?_)
  have hf := q_exc_r hf er1
  refine lv_iload_n hx hb dX2_roster_5 rfl (lv_at hl 2 rfl) ?_
  refine lv_iconst (v := 0) hx hb dX2_roster_6 (by decide) ?_
  refine lv_bipush (v := 41) hx hb dX2_roster_7 (by decide) ?_
  obtain ⟨r2, hr2, hf⟩ := q_bd_go hf
  refine q_needS (As := [.int p2, .int 0, .int 41]) (rest := []) hx hb hml hown hts hlocks htab (c_X2_needInRange l hlt D cI cJ cS sa p2 0 41 _ hr2) (va_cwS 3 hts gX2_roster_X2_needInRange rfl rfl rfl (by decide +kernel) ⟨(Nat.le_of_ble_eq_true rfl), (Nat.le_of_ble_eq_true rfl)⟩) hE hES hZ (fun q h => Or.inr h) rfl hl.1 rfl (Nat.le_of_ble_eq_true rfl) dX2_roster_9 ⟨(Nat.le_of_ble_eq_true rfl), (Nat.le_of_ble_eq_true rfl)⟩ (fun E e => q_exc_l hf E e) (Nat.le_of_ble_eq_true rfl) (Nat.le_of_ble_eq_true rfl) (fun er2 => ?_)
  have hf := q_exc_r hf er2
  refine lv_aload_n hx hb dX2_roster_12 rfl (lv_at hl 0 rfl) ?_
  refine va_get (D := D) (ci := 2) (v := .ref (A 0 0)) (C := RX2) (T := TX2) (N := 5) hx hb hu2 (fun _ h => h) hown hE.1 hP 0 rfl rfl 0 (Nat.le_of_ble_eq_true rfl) (hts (.fieldLink RX2 12 "CoverMeter" "now" "LCoverMeter$State;") (List.mem_of_getElem? (i := 1) rfl)) (fun _ h9 => h9) rfl dX2_roster_13 ?_
  refine lv_iload_n hx hb dX2_roster_16 rfl (lv_at hl 1 rfl) ?_
  refine lv_iload_n hx hb dX2_roster_17 rfl (lv_at hl 2 rfl) ?_
  refine lv_iload_n hx hb dX2_roster_18 rfl (lv_at hl 3 rfl) ?_
  obtain ⟨r3, hr3, hf⟩ := q_bd_go hf
  refine q_rdVi (w := (wST cI cJ (A 0) (CM_now S))) (ci := 1) (As := [.int p1, .int p2, .int p3]) (rest := []) hx hb hml hown hts (c_X1_canChangeRoster l D cI cJ cS (A 0) (CM_now S) p1 p2 p3 _ hr3) (cwV 3 hts gX2_roster_X1_canChangeRoster rfl rfl rfl (by decide +kernel) ⟨(Nat.le_of_ble_eq_true rfl), (Nat.le_of_ble_eq_true rfl)⟩) hE (qp_now hP) rfl rfl rfl hl.1 rfl (Nat.le_of_ble_eq_true rfl) dX2_roster_19 ⟨(Nat.le_of_ble_eq_true rfl), (Nat.le_of_ble_eq_true rfl)⟩ ?_
  obtain ⟨r4, hr4, hf⟩ := q_bd_go hf
  refine q_needS (As := [.int r3]) (rest := []) hx hb hml hown hts hlocks htab (c_X2_needAllowed l hlt D cI cJ cS sa r3 _ hr4) (va_cwS 1 hts gX2_roster_X2_needAllowed rfl rfl rfl (by decide +kernel) ⟨(Nat.le_of_ble_eq_true rfl), (Nat.le_of_ble_eq_true rfl)⟩) hE hES hZ (fun q h => Or.inr h) rfl hl.1 rfl (Nat.le_of_ble_eq_true rfl) dX2_roster_22 ⟨(Nat.le_of_ble_eq_true rfl), (Nat.le_of_ble_eq_true rfl)⟩ (fun E e => q_exc_l hf E e) (Nat.le_of_ble_eq_true rfl) (Nat.le_of_ble_eq_true rfl) (fun er4 => ?_)
  have hf := q_exc_r hf er4
  refine lv_aload_n hx hb dX2_roster_25 rfl (lv_at hl 0 rfl) ?_
  obtain ⟨r5, hr5, hf⟩ := q_bd_go hf
  refine q_wrE (ci := 2) (As := []) (rest := []) hx hb hml hown hts (c_X2_save l hlt D cI cJ cS sa A g B hg S _  _ hr5) (cwV 0 hts gX2_roster_X2_save rfl rfl rfl (by decide +kernel) ⟨(Nat.le_of_ble_eq_true rfl), (Nat.le_of_ble_eq_true rfl)⟩) hE hES hZ hP hD hS (fun q h => Or.inr h) rfl rfl rfl hl.1 rfl (Nat.le_of_ble_eq_true rfl) dX2_roster_26 ⟨(Nat.le_of_ble_eq_true rfl), (Nat.le_of_ble_eq_true rfl)⟩ (fun g6 B7 H locs hg hP hD hS => ?_)
  refine lv_aload_n hx hb dX2_roster_29 rfl (lv_at hl 0 rfl) ?_
  refine va_get (D := D) (ci := 2) (v := .ref (A 0 0)) (C := RX2) (T := TX2) (N := 5) hx hb hu2 (fun _ h => h) hown hE.1 hP 0 rfl rfl 0 (Nat.le_of_ble_eq_true rfl) (hts (.fieldLink RX2 12 "CoverMeter" "now" "LCoverMeter$State;") (List.mem_of_getElem? (i := 1) rfl)) (fun _ h9 => h9) rfl dX2_roster_30 ?_
  refine va_get (D := D) (ci := 1) (v := .ref (A 0 2)) (C := RX1) (T := TX1) (N := 15) hx hb hu1 (fun _ h => h) hown hE.1 hP 2 rfl rfl 3 (Nat.le_of_ble_eq_true rfl) (hts (.fieldLink RX2 76 "CoverMeter$State" "rosters" "[J") (List.mem_of_getElem? (i := 2) rfl)) (fun _ h9 => h9) rfl dX2_roster_33 ?_
  refine lv_iload_n hx hb dX2_roster_36 rfl (lv_at hl 1 rfl) ?_
  refine lv_dup2_11 hx hb dX2_roster_37 rfl rfl ?_
  have hi8 := q_gd_in hf
  have hf := q_gd_go hf
  refine va_lald hx hb hE.1 hP 4 1 rfl rfl hi8 dX2_roster_38 ?_
  refine lv_lconst (v := 1) hx hb dX2_roster_39 (by decide) ?_
  refine lv_iload_n hx hb dX2_roster_40 rfl (lv_at hl 2 rfl) ?_
  refine lv_lshl (v := ((1 : Int64) <<< ((p2 : Int32).toInt64 &&& 63))) hx hb dX2_roster_41 rfl ?_
  refine lv_lxor hx hb dX2_roster_42 ?_
  have hi9 := q_gd_in hf
  have hf := q_gd_go hf
  obtain ⟨S10, eS10, hf⟩ := q_let_go hf
  refine va_last hx hb hE.1 hP hD hS 4 1 rfl rfl hi9 dX2_roster_43 (fun H locs hP hD hS => ?_)
  have hP : va_P D vwCl (wCM cI cJ cS A g6 B7 (sCM_now r5 (sST_rosters (CM_now r5) (vp_updL (ST_rosters (CM_now r5)) (p1 : Int32).toNatClampNeg ((ST_rosters (CM_now r5) (p1 : Int32).toNatClampNeg) ^^^ ((1 : Int64) <<< ((p2 : Int32).toInt64 &&& 63))))))) H := hP
  have hD : va_D (va_A (wCM cI cJ cS A g B S) s.heap.size) (wCM cI cJ cS A g6 B7 (sCM_now r5 (sST_rosters (CM_now r5) (vp_updL (ST_rosters (CM_now r5)) (p1 : Int32).toNatClampNeg ((ST_rosters (CM_now r5) (p1 : Int32).toNatClampNeg) ^^^ ((1 : Int64) <<< ((p2 : Int32).toInt64 &&& 63))))))) := hD
  rw [eS10] at hP hD
  refine lv_aload_n hx hb dX2_roster_44 rfl (lv_at hl 0 rfl) ?_
  refine va_get (D := D) (ci := 2) (v := .ref (A 0 0)) (C := RX2) (T := TX2) (N := 5) hx hb hu2 (fun _ h => h) hown hE.1 hP 0 rfl rfl 0 (Nat.le_of_ble_eq_true rfl) (hts (.fieldLink RX2 12 "CoverMeter" "now" "LCoverMeter$State;") (List.mem_of_getElem? (i := 1) rfl)) (fun _ h9 => h9) rfl dX2_roster_45 ?_
  refine va_get (D := D) (ci := 1) (v := .ref (A 0 2)) (C := RX1) (T := TX1) (N := 15) hx hb hu1 (fun _ h => h) hown hE.1 hP 2 rfl rfl 3 (Nat.le_of_ble_eq_true rfl) (hts (.fieldLink RX2 76 "CoverMeter$State" "rosters" "[J") (List.mem_of_getElem? (i := 2) rfl)) (fun _ h9 => h9) rfl dX2_roster_48 ?_
  refine lv_iload_n hx hb dX2_roster_51 rfl (lv_at hl 1 rfl) ?_
  have hi11 := q_gd_in hf
  have hf := q_gd_go hf
  refine va_lald hx hb hE.1 hP 4 1 rfl rfl hi11 dX2_roster_52 ?_
  obtain ⟨r12, hr12, hf⟩ := q_bd_go hf
  refine q_rdSi (As := [.long (ST_rosters (CM_now S10) (p1 : Int32).toNatClampNeg)]) (rest := []) hx hb hml hown hts (c_J13_bitCount_95d88 l D cI cJ cS (ST_rosters (CM_now S10) (p1 : Int32).toNatClampNeg) _ hr12) (va_cwS 1 hts gX2_roster_J13_bitCount_95d88 rfl rfl rfl (by decide +kernel) ⟨(Nat.le_of_ble_eq_true rfl), (Nat.le_of_ble_eq_true rfl)⟩) hE rfl hl.1 rfl (Nat.le_of_ble_eq_true rfl) dX2_roster_53 ⟨(Nat.le_of_ble_eq_true rfl), (Nat.le_of_ble_eq_true rfl)⟩ ?_
  have ho := q_some hf
  refine vx_ret ?_
  refine W.widen (k := 3) (n := 18) (Nat.le_of_ble_eq_true rfl) (Nat.le_of_ble_eq_true rfl) ?_
  exact W.iret hx hb hr (fun t ht hW => ⟨_, ho.symm, rfl, ⟨_, ⟨g6, B7, hg, rfl⟩, by rw [ht]; exact hP, hD⟩, hS.F ht⟩) hS.2.2 dX2_roster_56
def f_X2_absent (S : CM) (p1 : Int32) (p2 : Int32) : Option (String ⊕ (Int32 × CM)) := (f_X2_needPerson S p1).bind fun r1 =>
 q_exc r1 fun _ =>
 (f_X2_needInRange p2 0 41).bind fun r2 =>
 q_exc r2 fun _ =>
 (f_X1_canBeAbsent (CM_now S) p1 p2).bind fun r3 =>
 (f_X2_needAllowed r3).bind fun r4 =>
 q_exc r4 fun _ =>
 (f_X2_save S ).bind fun r5 =>
 (f_X1_enterAbsence (CM_now r5) p1 p2).bind fun r8 =>
 q_let (sCM_now r5 r8.2) fun S9 =>
 some (.inr (r8.1, S9))
abbrev rX2_absent : Room := { frames := 7, cells := 3, slots := 18, locals := 112 }
set_option maxRecDepth 100000 in
set_option maxHeartbeats 4000000 in
theorem c_X2_absent (l : Launch) (hlt : l.stackTraces = false) (D : va_G) (cI cJ cS : ClassId) (sa : Nat → Nat) (A : Nat → Nat → Nat) (g : Nat → Option Nat) (B : Nat → Nat → Nat) (hg : ∀ i, i < 4 → g i = some (B i 0)) (S : CM) (sz : Nat) (p1 : Int32) (p2 : Int32) (o : (String ⊕ (Int32 × CM))) (hf : f_X2_absent S p1 p2 = some o) : vx_Met l yX2_absent wsX2_absent rX2_absent (va_Pc [.ref (A 3 0), .int p1, .int p2] (q_BWX D cI cJ cS sa (wCM cI cJ cS A g B S) sz)) (q_XW (fun r => some (.int r)) o D cI cJ cS A (wCM cI cJ cS A g B S) sz) (q_XC o) 3 18 (va_A (wCM cI cJ cS A g B S) sz) := by
  refine vx_ofW (cc := cX2_absent) (maxL := 3) (ret := some .int) (by decide) rfl ?_
  intro p e s m args below meth c s₁ B9 hml htab hv
  obtain ⟨rfl, hsz, hP, hE, hD0, hES, hZ⟩ := hv
  have hx := B9.exec
  have hb := B9.bytes
  have hr := B9.returns
  have hts := atoms_spec (ws := wsX2_absent) B9.pre
  have hown : s.vm.findClass RX2 = some m.cls := findClass_of_methodNamed B9.named
  have hlocks := B9.notSynchronized
  have hu1 : ∀ z ∈ wsX10, z.before _ s = true := fun z h => hts z (List.mem_cons_of_mem _ (List.mem_append_left _ (List.mem_append_left _ (List.mem_append_left _ (List.mem_append_right _ h)))))
  have hu2 : ∀ z ∈ wsX20, z.before _ s = true := fun z h => hts z (List.mem_cons_of_mem _ (List.mem_append_left _ (List.mem_append_left _ (List.mem_append_left _ (List.mem_append_left _ (List.mem_append_right _ h))))))
  subst hsz
  have hD := hD0.self (sz := s.heap.size)
  have hS : va_S (va_A (wCM cI cJ cS A g B S) s.heap.size) s.heap s.heap [] := va_S.rf
  have hl := lv_entry ([.ref (A 3 0), .int p1, .int p2]) (n := 3) (Nat.le_of_ble_eq_true rfl)
  rw [lg_entry_eq]
  generalize (lg_sl ([.ref (A 3 0), .int p1, .int p2]) ++ List.replicate (3 - (lg_sl ([.ref (A 3 0), .int p1, .int p2])).length) Slot.unset).toArray = ls at hl ⊢
  have hl : lv_has ls 3 [(0, .ref (A 3 0)), (1, .int p1), (2, .int p2)] := hl
  unfold f_X2_absent at hf
  refine lv_aload_n hx hb dX2_absent_0 rfl (lv_at hl 0 rfl) ?_
  refine lv_iload_n hx hb dX2_absent_1 rfl (lv_at hl 1 rfl) ?_
  obtain ⟨r1, hr1, hf⟩ := q_bd_go hf
  refine q_needV (w := wCR cI cJ A S) (ci := 2) (As := [.int p1]) (rest := []) hx hb hml hown hts hlocks htab (c_X2_needPerson l hlt D cI cJ cS sa A S p1 _ hr1) (cwV 1 hts gX2_absent_X2_needPerson rfl rfl rfl (by decide +kernel) ⟨(Nat.le_of_ble_eq_true rfl), (Nat.le_of_ble_eq_true rfl)⟩) hE hES hZ (fun q h => h.elim (fun ⟨k, e9, h9⟩ => (qd_CR hD).2 k _ h9) (fun h => Or.inr h)) (qp_CR hP) rfl rfl rfl hl.1 rfl (Nat.le_of_ble_eq_true rfl) dX2_absent_2 ⟨(Nat.le_of_ble_eq_true rfl), (Nat.le_of_ble_eq_true rfl)⟩ (fun E e => q_exc_l hf E e) (Nat.le_of_ble_eq_true rfl) (Nat.le_of_ble_eq_true rfl) (fun er1 => ?_)
  have hf := q_exc_r hf er1
  refine lv_iload_n hx hb dX2_absent_5 rfl (lv_at hl 2 rfl) ?_
  refine lv_iconst (v := 0) hx hb dX2_absent_6 (by decide) ?_
  refine lv_bipush (v := 41) hx hb dX2_absent_7 (by decide) ?_
  obtain ⟨r2, hr2, hf⟩ := q_bd_go hf
  refine q_needS (As := [.int p2, .int 0, .int 41]) (rest := []) hx hb hml hown hts hlocks htab (c_X2_needInRange l hlt D cI cJ cS sa p2 0 41 _ hr2) (va_cwS 3 hts gX2_absent_X2_needInRange rfl rfl rfl (by decide +kernel) ⟨(Nat.le_of_ble_eq_true rfl), (Nat.le_of_ble_eq_true rfl)⟩) hE hES hZ (fun q h => Or.inr h) rfl hl.1 rfl (Nat.le_of_ble_eq_true rfl) dX2_absent_9 ⟨(Nat.le_of_ble_eq_true rfl), (Nat.le_of_ble_eq_true rfl)⟩ (fun E e => q_exc_l hf E e) (Nat.le_of_ble_eq_true rfl) (Nat.le_of_ble_eq_true rfl) (fun er2 => ?_)
  have hf := q_exc_r hf er2
  refine lv_aload_n hx hb dX2_absent_12 rfl (lv_at hl 0 rfl) ?_
  refine va_get (D := D) (ci := 2) (v := .ref (A 0 0)) (C := RX2) (T := TX2) (N := 5) hx hb hu2 (fun _ h => h) hown hE.1 hP 0 rfl rfl 0 (Nat.le_of_ble_eq_true rfl) (hts (.fieldLink RX2 12 "CoverMeter" "now" "LCoverMeter$State;") (List.mem_of_getElem? (i := 1) rfl)) (fun _ h9 => h9) rfl dX2_absent_13 ?_
  refine lv_iload_n hx hb dX2_absent_16 rfl (lv_at hl 1 rfl) ?_
  refine lv_iload_n hx hb dX2_absent_17 rfl (lv_at hl 2 rfl) ?_
  obtain ⟨r3, hr3, hf⟩ := q_bd_go hf
  refine q_rdVi (w := (wST cI cJ (A 0) (CM_now S))) (ci := 1) (As := [.int p1, .int p2]) (rest := []) hx hb hml hown hts (c_X1_canBeAbsent l D cI cJ cS (A 0) (CM_now S) p1 p2 _ hr3) (cwV 2 hts gX2_absent_X1_canBeAbsent rfl rfl rfl (by decide +kernel) ⟨(Nat.le_of_ble_eq_true rfl), (Nat.le_of_ble_eq_true rfl)⟩) hE (qp_now hP) rfl rfl rfl hl.1 rfl (Nat.le_of_ble_eq_true rfl) dX2_absent_18 ⟨(Nat.le_of_ble_eq_true rfl), (Nat.le_of_ble_eq_true rfl)⟩ ?_
  obtain ⟨r4, hr4, hf⟩ := q_bd_go hf
  refine q_needS (As := [.int r3]) (rest := []) hx hb hml hown hts hlocks htab (c_X2_needAllowed l hlt D cI cJ cS sa r3 _ hr4) (va_cwS 1 hts gX2_absent_X2_needAllowed rfl rfl rfl (by decide +kernel) ⟨(Nat.le_of_ble_eq_true rfl), (Nat.le_of_ble_eq_true rfl)⟩) hE hES hZ (fun q h => Or.inr h) rfl hl.1 rfl (Nat.le_of_ble_eq_true rfl) dX2_absent_21 ⟨(Nat.le_of_ble_eq_true rfl), (Nat.le_of_ble_eq_true rfl)⟩ (fun E e => q_exc_l hf E e) (Nat.le_of_ble_eq_true rfl) (Nat.le_of_ble_eq_true rfl) (fun er4 => ?_)
  have hf := q_exc_r hf er4
  refine lv_aload_n hx hb dX2_absent_24 rfl (lv_at hl 0 rfl) ?_
  obtain ⟨r5, hr5, hf⟩ := q_bd_go hf
  refine q_wrE (ci := 2) (As := []) (rest := []) hx hb hml hown hts (c_X2_save l hlt D cI cJ cS sa A g B hg S _  _ hr5) (cwV 0 hts gX2_absent_X2_save rfl rfl rfl (by decide +kernel) ⟨(Nat.le_of_ble_eq_true rfl), (Nat.le_of_ble_eq_true rfl)⟩) hE hES hZ hP hD hS (fun q h => Or.inr h) rfl rfl rfl hl.1 rfl (Nat.le_of_ble_eq_true rfl) dX2_absent_25 ⟨(Nat.le_of_ble_eq_true rfl), (Nat.le_of_ble_eq_true rfl)⟩ (fun g6 B7 H locs hg hP hD hS => ?_)
  refine lv_aload_n hx hb dX2_absent_28 rfl (lv_at hl 0 rfl) ?_
  refine va_get (D := D) (ci := 2) (v := .ref (A 0 0)) (C := RX2) (T := TX2) (N := 5) hx hb hu2 (fun _ h => h) hown hE.1 hP 0 rfl rfl 0 (Nat.le_of_ble_eq_true rfl) (hts (.fieldLink RX2 12 "CoverMeter" "now" "LCoverMeter$State;") (List.mem_of_getElem? (i := 1) rfl)) (fun _ h9 => h9) rfl dX2_absent_29 ?_
  refine lv_iload_n hx hb dX2_absent_32 rfl (lv_at hl 1 rfl) ?_
  refine lv_iload_n hx hb dX2_absent_33 rfl (lv_at hl 2 rfl) ?_
  obtain ⟨r8, hr8, hf⟩ := q_bd_go hf
  obtain ⟨S9, eS9, hf⟩ := q_let_go hf
  refine q_wrC (v := (some (.int r8.1))) (w := wST cI cJ (A 0) (CM_now r5)) (ci := 1) (As := [.int p1, .int p2]) (rest := []) hx hb hml hown hts (c_X1_enterAbsence l D cI cJ cS (A 0) (CM_now r5) _ p1 p2 _ hr8) (cwV 2 hts gX2_absent_X1_enterAbsence rfl rfl rfl (by decide +kernel) ⟨(Nat.le_of_ble_eq_true rfl), (Nat.le_of_ble_eq_true rfl)⟩) hE (qp_now hP) (qd_now hD) hS (fun q h => Or.inr h) (fun H1 hF hk h1 h2 => qs_now (z := r8.2) hP hD hF hk h1 h2) rfl rfl rfl hl.1 rfl (Nat.le_of_ble_eq_true rfl) dX2_absent_34 ⟨(Nat.le_of_ble_eq_true rfl), (Nat.le_of_ble_eq_true rfl)⟩ (fun H locs hP hD hS => ?_)
  rw [eS9] at hP hD
  have ho := q_some hf
  refine vx_ret ?_
  refine W.widen (k := 3) (n := 18) (Nat.le_of_ble_eq_true rfl) (Nat.le_of_ble_eq_true rfl) ?_
  exact W.iret hx hb hr (fun t ht hW => ⟨_, ho.symm, rfl, ⟨_, ⟨g6, B7, hg, rfl⟩, by rw [ht]; exact hP, hD⟩, hS.F ht⟩) hS.2.2 dX2_absent_37
def f_X2_bid (S : CM) (p1 : Int32) (p2 : Int32) (p3 : Int32) : Option (String ⊕ (Int32 × CM)) := (f_X2_needPerson S p1).bind fun r1 =>
 q_exc r1 fun _ =>
 (f_X2_needAbsence S p2).bind fun r2 =>
 q_exc r2 fun _ =>
 if q_in 2 3 = true then
 ((f_X2_needInRange p3 0 (ST_settings (CM_now S) (2 : Int32).toNatClampNeg)).bind fun r4 =>
 q_exc r4 fun _ =>
 (f_X1_canBid (CM_now S) p1 p2).bind fun r5 =>
 (f_X2_needAllowed r5).bind fun r6 =>
 q_exc r6 fun _ =>
 (f_X2_save S ).bind fun r7 =>
 (f_X2_bidIndex p1 p2).bind fun r10 =>
 if q_in r10 240 = true then
 (q_let (sCM_now r7 (sST_bids (CM_now r7) (upd (ST_bids (CM_now r7)) (r10 : Int32).toNatClampNeg p3))) fun S12 =>
 (f_X1_bidsFor (CM_now S12) p2).bind fun r13 =>
 some (.inr (r13, S12))) else none) else none
abbrev rX2_bid : Room := { frames := 7, cells := 4, slots := 24, locals := 112 }
set_option maxRecDepth 100000 in
set_option maxHeartbeats 4000000 in
theorem c_X2_bid (l : Launch) (hlt : l.stackTraces = false) (D : va_G) (cI cJ cS : ClassId) (sa : Nat → Nat) (A : Nat → Nat → Nat) (g : Nat → Option Nat) (B : Nat → Nat → Nat) (hg : ∀ i, i < 4 → g i = some (B i 0)) (S : CM) (sz : Nat) (p1 : Int32) (p2 : Int32) (p3 : Int32) (o : (String ⊕ (Int32 × CM))) (hf : f_X2_bid S p1 p2 p3 = some o) : vx_Met l yX2_bid wsX2_bid rX2_bid (va_Pc [.ref (A 3 0), .int p1, .int p2, .int p3] (q_BWX D cI cJ cS sa (wCM cI cJ cS A g B S) sz)) (q_XW (fun r => some (.int r)) o D cI cJ cS A (wCM cI cJ cS A g B S) sz) (q_XC o) 4 24 (va_A (wCM cI cJ cS A g B S) sz) := by
  refine vx_ofW (cc := cX2_bid) (maxL := 4) (ret := some .int) (by decide) rfl ?_
  intro p e s m args below meth c s₁ B9 hml htab hv
  obtain ⟨rfl, hsz, hP, hE, hD0, hES, hZ⟩ := hv
  have hx := B9.exec
  have hb := B9.bytes
  have hr := B9.returns
  have hts := atoms_spec (ws := wsX2_bid) B9.pre
  have hown : s.vm.findClass RX2 = some m.cls := findClass_of_methodNamed B9.named
  have hlocks := B9.notSynchronized
  have hu1 : ∀ z ∈ wsX10, z.before _ s = true := fun z h => hts z (List.mem_cons_of_mem _ (List.mem_append_left _ (List.mem_append_left _ (List.mem_append_left _ (List.mem_append_right _ h)))))
  have hu2 : ∀ z ∈ wsX20, z.before _ s = true := fun z h => hts z (List.mem_cons_of_mem _ (List.mem_append_left _ (List.mem_append_left _ (List.mem_append_left _ (List.mem_append_left _ (List.mem_append_right _ h))))))
  subst hsz
  have hD := hD0.self (sz := s.heap.size)
  have hS : va_S (va_A (wCM cI cJ cS A g B S) s.heap.size) s.heap s.heap [] := va_S.rf
  have hl := lv_entry ([.ref (A 3 0), .int p1, .int p2, .int p3]) (n := 4) (Nat.le_of_ble_eq_true rfl)
  rw [lg_entry_eq]
  generalize (lg_sl ([.ref (A 3 0), .int p1, .int p2, .int p3]) ++ List.replicate (4 - (lg_sl ([.ref (A 3 0), .int p1, .int p2, .int p3])).length) Slot.unset).toArray = ls at hl ⊢
  have hl : lv_has ls 4 [(0, .ref (A 3 0)), (1, .int p1), (2, .int p2), (3, .int p3)] := hl
  unfold f_X2_bid at hf
  refine lv_aload_n hx hb dX2_bid_0 rfl (lv_at hl 0 rfl) ?_
  refine lv_iload_n hx hb dX2_bid_1 rfl (lv_at hl 1 rfl) ?_
  obtain ⟨r1, hr1, hf⟩ := q_bd_go hf
  refine q_needV (w := wCR cI cJ A S) (ci := 2) (As := [.int p1]) (rest := []) hx hb hml hown hts hlocks htab (c_X2_needPerson l hlt D cI cJ cS sa A S p1 _ hr1) (cwV 1 hts gX2_bid_X2_needPerson rfl rfl rfl (by decide +kernel) ⟨(Nat.le_of_ble_eq_true rfl), (Nat.le_of_ble_eq_true rfl)⟩) hE hES hZ (fun q h => h.elim (fun ⟨k, e9, h9⟩ => (qd_CR hD).2 k _ h9) (fun h => Or.inr h)) (qp_CR hP) rfl rfl rfl hl.1 rfl (Nat.le_of_ble_eq_true rfl) dX2_bid_2 ⟨(Nat.le_of_ble_eq_true rfl), (Nat.le_of_ble_eq_true rfl)⟩ (fun E e => q_exc_l hf E e) (Nat.le_of_ble_eq_true rfl) (Nat.le_of_ble_eq_true rfl) (fun er1 => ?_)
  have hf := q_exc_r hf er1
  refine lv_aload_n hx hb dX2_bid_5 rfl (lv_at hl 0 rfl) ?_
  refine lv_iload_n hx hb dX2_bid_6 rfl (lv_at hl 2 rfl) ?_
  obtain ⟨r2, hr2, hf⟩ := q_bd_go hf
  refine q_needV (w := wCR cI cJ A S) (ci := 2) (As := [.int p2]) (rest := []) hx hb hml hown hts hlocks htab (c_X2_needAbsence l hlt D cI cJ cS sa A S p2 _ hr2) (cwV 1 hts gX2_bid_X2_needAbsence rfl rfl rfl (by decide +kernel) ⟨(Nat.le_of_ble_eq_true rfl), (Nat.le_of_ble_eq_true rfl)⟩) hE hES hZ (fun q h => h.elim (fun ⟨k, e9, h9⟩ => (qd_CR hD).2 k _ h9) (fun h => Or.inr h)) (qp_CR hP) rfl rfl rfl hl.1 rfl (Nat.le_of_ble_eq_true rfl) dX2_bid_7 ⟨(Nat.le_of_ble_eq_true rfl), (Nat.le_of_ble_eq_true rfl)⟩ (fun E e => q_exc_l hf E e) (Nat.le_of_ble_eq_true rfl) (Nat.le_of_ble_eq_true rfl) (fun er2 => ?_)
  have hf := q_exc_r hf er2
  refine lv_iload_n hx hb dX2_bid_10 rfl (lv_at hl 3 rfl) ?_
  refine lv_iconst (v := 0) hx hb dX2_bid_11 (by decide) ?_
  refine lv_aload_n hx hb dX2_bid_12 rfl (lv_at hl 0 rfl) ?_
  refine va_get (D := D) (ci := 2) (v := .ref (A 0 0)) (C := RX2) (T := TX2) (N := 5) hx hb hu2 (fun _ h => h) hown hE.1 hP 0 rfl rfl 0 (Nat.le_of_ble_eq_true rfl) (hts (.fieldLink RX2 12 "CoverMeter" "now" "LCoverMeter$State;") (List.mem_of_getElem? (i := 1) rfl)) (fun _ h9 => h9) rfl dX2_bid_13 ?_
  refine va_get (D := D) (ci := 1) (v := .ref (A 0 1)) (C := RX1) (T := TX1) (N := 15) hx hb hu1 (fun _ h => h) hown hE.1 hP 2 rfl rfl 0 (Nat.le_of_ble_eq_true rfl) (hts (.fieldLink RX2 44 "CoverMeter$State" "settings" "[I") (List.mem_of_getElem? (i := 2) rfl)) (fun _ h9 => h9) rfl dX2_bid_16 ?_
  refine lv_iconst (v := 2) hx hb dX2_bid_19 (by decide) ?_
  have hi3 := q_gd_in hf
  have hf := q_gd_go hf
  refine va_iald hx hb hE.1 hP 3 0 rfl rfl hi3 dX2_bid_20 ?_
  obtain ⟨r4, hr4, hf⟩ := q_bd_go hf
  refine q_needS (As := [.int p3, .int 0, .int (ST_settings (CM_now S) (2 : Int32).toNatClampNeg)]) (rest := []) hx hb hml hown hts hlocks htab (c_X2_needInRange l hlt D cI cJ cS sa p3 0 (ST_settings (CM_now S) (2 : Int32).toNatClampNeg) _ hr4) (va_cwS 3 hts gX2_bid_X2_needInRange rfl rfl rfl (by decide +kernel) ⟨(Nat.le_of_ble_eq_true rfl), (Nat.le_of_ble_eq_true rfl)⟩) hE hES hZ (fun q h => Or.inr h) rfl hl.1 rfl (Nat.le_of_ble_eq_true rfl) dX2_bid_21 ⟨(Nat.le_of_ble_eq_true rfl), (Nat.le_of_ble_eq_true rfl)⟩ (fun E e => q_exc_l hf E e) (Nat.le_of_ble_eq_true rfl) (Nat.le_of_ble_eq_true rfl) (fun er4 => ?_)
  have hf := q_exc_r hf er4
  refine lv_aload_n hx hb dX2_bid_24 rfl (lv_at hl 0 rfl) ?_
  refine va_get (D := D) (ci := 2) (v := .ref (A 0 0)) (C := RX2) (T := TX2) (N := 5) hx hb hu2 (fun _ h => h) hown hE.1 hP 0 rfl rfl 0 (Nat.le_of_ble_eq_true rfl) (hts (.fieldLink RX2 12 "CoverMeter" "now" "LCoverMeter$State;") (List.mem_of_getElem? (i := 1) rfl)) (fun _ h9 => h9) rfl dX2_bid_25 ?_
  refine lv_iload_n hx hb dX2_bid_28 rfl (lv_at hl 1 rfl) ?_
  refine lv_iload_n hx hb dX2_bid_29 rfl (lv_at hl 2 rfl) ?_
  obtain ⟨r5, hr5, hf⟩ := q_bd_go hf
  refine q_rdVi (w := (wST cI cJ (A 0) (CM_now S))) (ci := 1) (As := [.int p1, .int p2]) (rest := []) hx hb hml hown hts (c_X1_canBid l D cI cJ cS (A 0) (CM_now S) p1 p2 _ hr5) (cwV 2 hts gX2_bid_X1_canBid rfl rfl rfl (by decide +kernel) ⟨(Nat.le_of_ble_eq_true rfl), (Nat.le_of_ble_eq_true rfl)⟩) hE (qp_now hP) rfl rfl rfl hl.1 rfl (Nat.le_of_ble_eq_true rfl) dX2_bid_30 ⟨(Nat.le_of_ble_eq_true rfl), (Nat.le_of_ble_eq_true rfl)⟩ ?_
  obtain ⟨r6, hr6, hf⟩ := q_bd_go hf
  refine q_needS (As := [.int r5]) (rest := []) hx hb hml hown hts hlocks htab (c_X2_needAllowed l hlt D cI cJ cS sa r5 _ hr6) (va_cwS 1 hts gX2_bid_X2_needAllowed rfl rfl rfl (by decide +kernel) ⟨(Nat.le_of_ble_eq_true rfl), (Nat.le_of_ble_eq_true rfl)⟩) hE hES hZ (fun q h => Or.inr h) rfl hl.1 rfl (Nat.le_of_ble_eq_true rfl) dX2_bid_33 ⟨(Nat.le_of_ble_eq_true rfl), (Nat.le_of_ble_eq_true rfl)⟩ (fun E e => q_exc_l hf E e) (Nat.le_of_ble_eq_true rfl) (Nat.le_of_ble_eq_true rfl) (fun er6 => ?_)
  have hf := q_exc_r hf er6
  refine lv_aload_n hx hb dX2_bid_36 rfl (lv_at hl 0 rfl) ?_
  obtain ⟨r7, hr7, hf⟩ := q_bd_go hf
  refine q_wrE (ci := 2) (As := []) (rest := []) hx hb hml hown hts (c_X2_save l hlt D cI cJ cS sa A g B hg S _  _ hr7) (cwV 0 hts gX2_bid_X2_save rfl rfl rfl (by decide +kernel) ⟨(Nat.le_of_ble_eq_true rfl), (Nat.le_of_ble_eq_true rfl)⟩) hE hES hZ hP hD hS (fun q h => Or.inr h) rfl rfl rfl hl.1 rfl (Nat.le_of_ble_eq_true rfl) dX2_bid_37 ⟨(Nat.le_of_ble_eq_true rfl), (Nat.le_of_ble_eq_true rfl)⟩ (fun g8 B9 H locs hg hP hD hS => ?_)
  refine lv_aload_n hx hb dX2_bid_40 rfl (lv_at hl 0 rfl) ?_
  refine va_get (D := D) (ci := 2) (v := .ref (A 0 0)) (C := RX2) (T := TX2) (N := 5) hx hb hu2 (fun _ h => h) hown hE.1 hP 0 rfl rfl 0 (Nat.le_of_ble_eq_true rfl) (hts (.fieldLink RX2 12 "CoverMeter" "now" "LCoverMeter$State;") (List.mem_of_getElem? (i := 1) rfl)) (fun _ h9 => h9) rfl dX2_bid_41 ?_
  refine va_get (D := D) (ci := 1) (v := .ref (A 0 12)) (C := RX1) (T := TX1) (N := 15) hx hb hu1 (fun _ h => h) hown hE.1 hP 2 rfl rfl 14 (Nat.le_of_ble_eq_true rfl) (hts (.fieldLink RX2 99 "CoverMeter$State" "bids" "[I") (List.mem_of_getElem? (i := 3) rfl)) (fun _ h9 => h9) rfl dX2_bid_44 ?_
  refine lv_iload_n hx hb dX2_bid_47 rfl (lv_at hl 1 rfl) ?_
  refine lv_iload_n hx hb dX2_bid_48 rfl (lv_at hl 2 rfl) ?_
  obtain ⟨r10, hr10, hf⟩ := q_bd_go hf
  refine q_rdSi (As := [.int p1, .int p2]) (rest := [.ref (A 0 12)]) hx hb hml hown hts (c_X2_bidIndex l D cI cJ cS p1 p2 _ hr10) (va_cwS 2 hts gX2_bid_X2_bidIndex rfl rfl rfl (by decide +kernel) ⟨(Nat.le_of_ble_eq_true rfl), (Nat.le_of_ble_eq_true rfl)⟩) hE rfl hl.1 rfl (Nat.le_of_ble_eq_true rfl) dX2_bid_49 ⟨(Nat.le_of_ble_eq_true rfl), (Nat.le_of_ble_eq_true rfl)⟩ ?_
  refine lv_iload_n hx hb dX2_bid_52 rfl (lv_at hl 3 rfl) ?_
  have hi11 := q_gd_in hf
  have hf := q_gd_go hf
  obtain ⟨S12, eS12, hf⟩ := q_let_go hf
  refine va_iast hx hb hE.1 hP hD hS 14 0 rfl rfl hi11 dX2_bid_53 (fun H locs hP hD hS => ?_)
  have hP : va_P D vwCl (wCM cI cJ cS A g8 B9 (sCM_now r7 (sST_bids (CM_now r7) (upd (ST_bids (CM_now r7)) (r10 : Int32).toNatClampNeg p3)))) H := hP
  have hD : va_D (va_A (wCM cI cJ cS A g B S) s.heap.size) (wCM cI cJ cS A g8 B9 (sCM_now r7 (sST_bids (CM_now r7) (upd (ST_bids (CM_now r7)) (r10 : Int32).toNatClampNeg p3)))) := hD
  rw [eS12] at hP hD
  refine lv_aload_n hx hb dX2_bid_54 rfl (lv_at hl 0 rfl) ?_
  refine va_get (D := D) (ci := 2) (v := .ref (A 0 0)) (C := RX2) (T := TX2) (N := 5) hx hb hu2 (fun _ h => h) hown hE.1 hP 0 rfl rfl 0 (Nat.le_of_ble_eq_true rfl) (hts (.fieldLink RX2 12 "CoverMeter" "now" "LCoverMeter$State;") (List.mem_of_getElem? (i := 1) rfl)) (fun _ h9 => h9) rfl dX2_bid_55 ?_
  refine lv_iload_n hx hb dX2_bid_58 rfl (lv_at hl 2 rfl) ?_
  obtain ⟨r13, hr13, hf⟩ := q_bd_go hf
  refine q_rdVi (w := (wST cI cJ (A 0) (CM_now S12))) (ci := 1) (As := [.int p2]) (rest := []) hx hb hml hown hts (c_X1_bidsFor l D cI cJ cS (A 0) (CM_now S12) p2 _ hr13) (cwV 1 hts gX2_bid_X1_bidsFor rfl rfl rfl (by decide +kernel) ⟨(Nat.le_of_ble_eq_true rfl), (Nat.le_of_ble_eq_true rfl)⟩) hE (qp_now hP) rfl rfl rfl hl.1 rfl (Nat.le_of_ble_eq_true rfl) dX2_bid_59 ⟨(Nat.le_of_ble_eq_true rfl), (Nat.le_of_ble_eq_true rfl)⟩ ?_
  have ho := q_some hf
  refine vx_ret ?_
  refine W.widen (k := 4) (n := 24) (Nat.le_of_ble_eq_true rfl) (Nat.le_of_ble_eq_true rfl) ?_
  exact W.iret hx hb hr (fun t ht hW => ⟨_, ho.symm, rfl, ⟨_, ⟨g8, B9, hg, rfl⟩, by rw [ht]; exact hP, hD⟩, hS.F ht⟩) hS.2.2 dX2_bid_62
def f_X2_takeBack_34 (S : CM) (l3 : Int32) (t0 : Int32) : Option (String ⊕ (Int32 × CM)) := (f_X2_needAllowed t0).bind fun r6 =>
 q_exc r6 fun _ =>
 (f_X2_save S ).bind fun r7 =>
 if q_in l3 240 = true then
 (q_let ((ST_bids (CM_now r7) (l3 : Int32).toNatClampNeg)) fun v11 =>
 if q_in l3 240 = true then
 (q_let (sCM_now r7 (sST_bids (CM_now r7) (upd (ST_bids (CM_now r7)) (l3 : Int32).toNatClampNeg (-1)))) fun S13 =>
 some (.inr (v11, S13))) else none) else none
def f_X2_takeBack (S : CM) (p1 : Int32) (p2 : Int32) : Option (String ⊕ (Int32 × CM)) := (f_X2_needPerson S p1).bind fun r1 =>
 q_exc r1 fun _ =>
 (f_X2_needAbsence S p2).bind fun r2 =>
 q_exc r2 fun _ =>
 (f_X2_bidIndex p1 p2).bind fun r3 =>
 if q_in r3 240 = true then
 (if (ST_bids (CM_now S) (r3 : Int32).toNatClampNeg) = (-1) then
 (f_X2_takeBack_34 S r3 0)
 else (f_X2_takeBack_34 S r3 1)) else none
abbrev rX2_takeBack : Room := { frames := 7, cells := 3, slots := 18, locals := 111 }
set_option maxRecDepth 100000 in
set_option maxHeartbeats 4000000 in
theorem c_X2_takeBack (l : Launch) (hlt : l.stackTraces = false) (D : va_G) (cI cJ cS : ClassId) (sa : Nat → Nat) (A : Nat → Nat → Nat) (g : Nat → Option Nat) (B : Nat → Nat → Nat) (hg : ∀ i, i < 4 → g i = some (B i 0)) (S : CM) (sz : Nat) (p1 : Int32) (p2 : Int32) (o : (String ⊕ (Int32 × CM))) (hf : f_X2_takeBack S p1 p2 = some o) : vx_Met l yX2_takeBack wsX2_takeBack rX2_takeBack (va_Pc [.ref (A 3 0), .int p1, .int p2] (q_BWX D cI cJ cS sa (wCM cI cJ cS A g B S) sz)) (q_XW (fun r => some (.int r)) o D cI cJ cS A (wCM cI cJ cS A g B S) sz) (q_XC o) 3 18 (va_A (wCM cI cJ cS A g B S) sz) := by
  refine vx_ofW (cc := cX2_takeBack) (maxL := 5) (ret := some .int) (by decide) rfl ?_
  intro p e s m args below meth c s₁ B9 hml htab hv
  obtain ⟨rfl, hsz, hP, hE, hD0, hES, hZ⟩ := hv
  have hx := B9.exec
  have hb := B9.bytes
  have hr := B9.returns
  have hts := atoms_spec (ws := wsX2_takeBack) B9.pre
  have hown : s.vm.findClass RX2 = some m.cls := findClass_of_methodNamed B9.named
  have hlocks := B9.notSynchronized
  have hu1 : ∀ z ∈ wsX10, z.before _ s = true := fun z h => hts z (List.mem_cons_of_mem _ (List.mem_append_left _ (List.mem_append_left _ (List.mem_append_right _ h))))
  have hu2 : ∀ z ∈ wsX20, z.before _ s = true := fun z h => hts z (List.mem_cons_of_mem _ (List.mem_append_left _ (List.mem_append_left _ (List.mem_append_left _ (List.mem_append_right _ h)))))
  subst hsz
  have hD := hD0.self (sz := s.heap.size)
  have hS : va_S (va_A (wCM cI cJ cS A g B S) s.heap.size) s.heap s.heap [] := va_S.rf
  have B_34 : ∀ (l3 : Int32) (t0 : Int32) (ls : Array Slot), lv_has ls 5 [(0, .ref (A 3 0)), (3, .int l3)] → f_X2_takeBack_34 S l3 t0 = some o → W p l e (headSpec wsX2_takeBack rX2_takeBack).room s m (([.ref (A 3 0), .int p1, .int p2] : List Value).toArray) below meth c s.heap [] 2 12 (vx_MQ below (q_XW (fun r => some (.int r)) o D cI cJ cS A (wCM cI cJ cS A g B S) s.heap.size) (q_XC o) (([.ref (A 3 0), .int p1, .int p2] : List Value).toArray) s 3 18 (va_A (wCM cI cJ cS A g B S) s.heap.size)) (F0 m 34 ls [.int t0]) := by
    intro l3 t0 ls hl hf
    unfold f_X2_takeBack_34 at hf
    obtain ⟨r6, hr6, hf⟩ := q_bd_go hf
    refine q_needS (As := [.int t0]) (rest := []) hx hb hml hown hts hlocks htab (c_X2_needAllowed l hlt D cI cJ cS sa t0 _ hr6) (va_cwS 1 hts gX2_takeBack_X2_needAllowed rfl rfl rfl (by decide +kernel) ⟨(Nat.le_of_ble_eq_true rfl), (Nat.le_of_ble_eq_true rfl)⟩) hE hES hZ (fun q h => Or.inr h) rfl hl.1 rfl (Nat.le_of_ble_eq_true rfl) dX2_takeBack_34 ⟨(Nat.le_of_ble_eq_true rfl), (Nat.le_of_ble_eq_true rfl)⟩ (fun E e => q_exc_l hf E e) (Nat.le_of_ble_eq_true rfl) (Nat.le_of_ble_eq_true rfl) (fun er6 => ?_)
    have hf := q_exc_r hf er6
    refine lv_aload_n hx hb dX2_takeBack_37 rfl (lv_at hl 0 rfl) ?_
    obtain ⟨r7, hr7, hf⟩ := q_bd_go hf
    refine q_wrE (ci := 2) (As := []) (rest := []) hx hb hml hown hts (c_X2_save l hlt D cI cJ cS sa A g B hg S _  _ hr7) (cwV 0 hts gX2_takeBack_X2_save rfl rfl rfl (by decide +kernel) ⟨(Nat.le_of_ble_eq_true rfl), (Nat.le_of_ble_eq_true rfl)⟩) hE hES hZ hP hD hS (fun q h => Or.inr h) rfl rfl rfl hl.1 rfl (Nat.le_of_ble_eq_true rfl) dX2_takeBack_38 ⟨(Nat.le_of_ble_eq_true rfl), (Nat.le_of_ble_eq_true rfl)⟩ (fun g8 B9 H locs hg hP hD hS => ?_)
    refine lv_aload_n hx hb dX2_takeBack_41 rfl (lv_at hl 0 rfl) ?_
    refine va_get (D := D) (ci := 2) (v := .ref (A 0 0)) (C := RX2) (T := TX2) (N := 5) hx hb hu2 (fun _ h => h) hown hE.1 hP 0 rfl rfl 0 (Nat.le_of_ble_eq_true rfl) (hts (.fieldLink RX2 12 "CoverMeter" "now" "LCoverMeter$State;") (List.mem_of_getElem? (i := 1) rfl)) (fun _ h9 => h9) rfl dX2_takeBack_42 ?_
    refine va_get (D := D) (ci := 1) (v := .ref (A 0 12)) (C := RX1) (T := TX1) (N := 15) hx hb hu1 (fun _ h => h) hown hE.1 hP 2 rfl rfl 14 (Nat.le_of_ble_eq_true rfl) (hts (.fieldLink RX2 99 "CoverMeter$State" "bids" "[I") (List.mem_of_getElem? (i := 2) rfl)) (fun _ h9 => h9) rfl dX2_takeBack_45 ?_
    refine lv_iload_n hx hb dX2_takeBack_48 rfl (lv_at hl 1 rfl) ?_
    have hi10 := q_gd_in hf
    have hf := q_gd_go hf
    refine va_iald hx hb hE.1 hP 14 0 rfl rfl hi10 dX2_takeBack_49 ?_
    obtain ⟨v11, ev11, hf⟩ := q_let_go hf
    refine q_nmi ev11 ?_
    refine lv_istore (lv' := [(4, .int v11), (0, .ref (A 3 0)), (3, .int l3)]) hx hb dX2_takeBack_50 hl (by decide) rfl (fun ls hl => ?_)
    refine lv_aload_n hx hb dX2_takeBack_52 rfl (lv_at hl 1 rfl) ?_
    refine va_get (D := D) (ci := 2) (v := .ref (A 0 0)) (C := RX2) (T := TX2) (N := 5) hx hb hu2 (fun _ h => h) hown hE.1 hP 0 rfl rfl 0 (Nat.le_of_ble_eq_true rfl) (hts (.fieldLink RX2 12 "CoverMeter" "now" "LCoverMeter$State;") (List.mem_of_getElem? (i := 1) rfl)) (fun _ h9 => h9) rfl dX2_takeBack_53 ?_
    refine va_get (D := D) (ci := 1) (v := .ref (A 0 12)) (C := RX1) (T := TX1) (N := 15) hx hb hu1 (fun _ h => h) hown hE.1 hP 2 rfl rfl 14 (Nat.le_of_ble_eq_true rfl) (hts (.fieldLink RX2 99 "CoverMeter$State" "bids" "[I") (List.mem_of_getElem? (i := 2) rfl)) (fun _ h9 => h9) rfl dX2_takeBack_56 ?_
    refine lv_iload_n hx hb dX2_takeBack_59 rfl (lv_at hl 2 rfl) ?_
    refine lv_iconst (v := (-1)) hx hb dX2_takeBack_60 (by decide) ?_
    have hi12 := q_gd_in hf
    have hf := q_gd_go hf
    obtain ⟨S13, eS13, hf⟩ := q_let_go hf
    refine va_iast hx hb hE.1 hP hD hS 14 0 rfl rfl hi12 dX2_takeBack_61 (fun H locs hP hD hS => ?_)
    have hP : va_P D vwCl (wCM cI cJ cS A g8 B9 (sCM_now r7 (sST_bids (CM_now r7) (upd (ST_bids (CM_now r7)) (l3 : Int32).toNatClampNeg (-1))))) H := hP
    have hD : va_D (va_A (wCM cI cJ cS A g B S) s.heap.size) (wCM cI cJ cS A g8 B9 (sCM_now r7 (sST_bids (CM_now r7) (upd (ST_bids (CM_now r7)) (l3 : Int32).toNatClampNeg (-1))))) := hD
    rw [eS13] at hP hD
    refine lv_iload hx hb dX2_takeBack_62 (lv_at hl 0 rfl) ?_
    have ho := q_some hf
    refine vx_ret ?_
    refine W.widen (k := 3) (n := 18) (Nat.le_of_ble_eq_true rfl) (Nat.le_of_ble_eq_true rfl) ?_
    exact W.iret hx hb hr (fun t ht hW => ⟨_, ho.symm, rfl, ⟨_, ⟨g8, B9, hg, rfl⟩, by rw [ht]; exact hP, hD⟩, hS.F ht⟩) hS.2.2 dX2_takeBack_64
  have hl := lv_entry ([.ref (A 3 0), .int p1, .int p2]) (n := 5) (Nat.le_of_ble_eq_true rfl)
  rw [lg_entry_eq]
  generalize (lg_sl ([.ref (A 3 0), .int p1, .int p2]) ++ List.replicate (5 - (lg_sl ([.ref (A 3 0), .int p1, .int p2])).length) Slot.unset).toArray = ls at hl ⊢
  have hl : lv_has ls 5 [(0, .ref (A 3 0)), (1, .int p1), (2, .int p2)] := hl
  unfold f_X2_takeBack at hf
  refine lv_aload_n hx hb dX2_takeBack_0 rfl (lv_at hl 0 rfl) ?_
  refine lv_iload_n hx hb dX2_takeBack_1 rfl (lv_at hl 1 rfl) ?_
  obtain ⟨r1, hr1, hf⟩ := q_bd_go hf
  refine q_needV (w := wCR cI cJ A S) (ci := 2) (As := [.int p1]) (rest := []) hx hb hml hown hts hlocks htab (c_X2_needPerson l hlt D cI cJ cS sa A S p1 _ hr1) (cwV 1 hts gX2_takeBack_X2_needPerson rfl rfl rfl (by decide +kernel) ⟨(Nat.le_of_ble_eq_true rfl), (Nat.le_of_ble_eq_true rfl)⟩) hE hES hZ (fun q h => h.elim (fun ⟨k, e9, h9⟩ => (qd_CR hD).2 k _ h9) (fun h => Or.inr h)) (qp_CR hP) rfl rfl rfl hl.1 rfl (Nat.le_of_ble_eq_true rfl) dX2_takeBack_2 ⟨(Nat.le_of_ble_eq_true rfl), (Nat.le_of_ble_eq_true rfl)⟩ (fun E e => q_exc_l hf E e) (Nat.le_of_ble_eq_true rfl) (Nat.le_of_ble_eq_true rfl) (fun er1 => ?_)
  have hf := q_exc_r hf er1
  refine lv_aload_n hx hb dX2_takeBack_5 rfl (lv_at hl 0 rfl) ?_
  refine lv_iload_n hx hb dX2_takeBack_6 rfl (lv_at hl 2 rfl) ?_
  obtain ⟨r2, hr2, hf⟩ := q_bd_go hf
  refine q_needV (w := wCR cI cJ A S) (ci := 2) (As := [.int p2]) (rest := []) hx hb hml hown hts hlocks htab (c_X2_needAbsence l hlt D cI cJ cS sa A S p2 _ hr2) (cwV 1 hts gX2_takeBack_X2_needAbsence rfl rfl rfl (by decide +kernel) ⟨(Nat.le_of_ble_eq_true rfl), (Nat.le_of_ble_eq_true rfl)⟩) hE hES hZ (fun q h => h.elim (fun ⟨k, e9, h9⟩ => (qd_CR hD).2 k _ h9) (fun h => Or.inr h)) (qp_CR hP) rfl rfl rfl hl.1 rfl (Nat.le_of_ble_eq_true rfl) dX2_takeBack_7 ⟨(Nat.le_of_ble_eq_true rfl), (Nat.le_of_ble_eq_true rfl)⟩ (fun E e => q_exc_l hf E e) (Nat.le_of_ble_eq_true rfl) (Nat.le_of_ble_eq_true rfl) (fun er2 => ?_)
  have hf := q_exc_r hf er2
  refine lv_iload_n hx hb dX2_takeBack_10 rfl (lv_at hl 1 rfl) ?_
  refine lv_iload_n hx hb dX2_takeBack_11 rfl (lv_at hl 2 rfl) ?_
  obtain ⟨r3, hr3, hf⟩ := q_bd_go hf
  refine q_rdSi (As := [.int p1, .int p2]) (rest := []) hx hb hml hown hts (c_X2_bidIndex l D cI cJ cS p1 p2 _ hr3) (va_cwS 2 hts gX2_takeBack_X2_bidIndex rfl rfl rfl (by decide +kernel) ⟨(Nat.le_of_ble_eq_true rfl), (Nat.le_of_ble_eq_true rfl)⟩) hE rfl hl.1 rfl (Nat.le_of_ble_eq_true rfl) dX2_takeBack_12 ⟨(Nat.le_of_ble_eq_true rfl), (Nat.le_of_ble_eq_true rfl)⟩ ?_
  refine lv_istore_n (lv' := [(3, .int r3), (0, .ref (A 3 0)), (1, .int p1), (2, .int p2)]) hx hb dX2_takeBack_15 rfl hl (by decide) rfl (fun ls hl => ?_)
  refine lv_aload_n hx hb dX2_takeBack_16 rfl (lv_at hl 1 rfl) ?_
  refine va_get (D := D) (ci := 2) (v := .ref (A 0 0)) (C := RX2) (T := TX2) (N := 5) hx hb hu2 (fun _ h => h) hown hE.1 hP 0 rfl rfl 0 (Nat.le_of_ble_eq_true rfl) (hts (.fieldLink RX2 12 "CoverMeter" "now" "LCoverMeter$State;") (List.mem_of_getElem? (i := 1) rfl)) (fun _ h9 => h9) rfl dX2_takeBack_17 ?_
  refine va_get (D := D) (ci := 1) (v := .ref (A 0 12)) (C := RX1) (T := TX1) (N := 15) hx hb hu1 (fun _ h => h) hown hE.1 hP 2 rfl rfl 14 (Nat.le_of_ble_eq_true rfl) (hts (.fieldLink RX2 99 "CoverMeter$State" "bids" "[I") (List.mem_of_getElem? (i := 2) rfl)) (fun _ h9 => h9) rfl dX2_takeBack_20 ?_
  refine lv_iload_n hx hb dX2_takeBack_23 rfl (lv_at hl 0 rfl) ?_
  have hi4 := q_gd_in hf
  have hf := q_gd_go hf
  refine va_iald hx hb hE.1 hP 14 0 rfl rfl hi4 dX2_takeBack_24 ?_
  refine lv_iconst (v := (-1)) hx hb dX2_takeBack_25 (by decide) ?_
  refine lv_icmp_eq (tgt := 33) hx hb dX2_takeBack_26 (by decide) (fun c5 => ?_) (fun c5 => ?_)
  · have hf := q_ite_t c5 hf
    refine lv_iconst (v := 0) hx hb dX2_takeBack_33 (by decide) ?_
    exact B_34 r3 0 _ (lv_sub hl [1, 0] rfl) hf
  · have hf := q_ite_f c5 hf
    refine lv_iconst (v := 1) hx hb dX2_takeBack_29 (by decide) ?_
    refine lv_goto (tgt := 34) hx hb dX2_takeBack_30 (by decide) ?_
    exact B_34 r3 1 _ (lv_sub hl [1, 0] rfl) hf
def f_X2_cover_22 (S : CM) (l1 : Int32) (t0 : Int32) : Option (String ⊕ (Int32 × CM)) := (f_X2_needAllowed t0).bind fun r4 =>
 q_exc r4 fun _ =>
 (f_X2_save S ).bind fun r5 =>
 (f_X1_coverOpen (CM_now r5) l1).bind fun r8 =>
 q_let (sCM_now r5 r8.2) fun S9 =>
 if q_in l1 30 = true then
 (some (.inr ((ST_coverers (CM_now S9) (l1 : Int32).toNatClampNeg), S9))) else none
def f_X2_cover (S : CM) (p1 : Int32) : Option (String ⊕ (Int32 × CM)) := (f_X2_needAbsence S p1).bind fun r1 =>
 q_exc r1 fun _ =>
 (f_X1_nextCoverer (CM_now S) p1).bind fun r2 =>
 if r2 = (-1) then
 (f_X2_cover_22 S p1 0)
 else (f_X2_cover_22 S p1 1)
abbrev rX2_cover : Room := { frames := 7, cells := 2, slots := 12, locals := 111 }
set_option maxRecDepth 100000 in
set_option maxHeartbeats 4000000 in
theorem c_X2_cover (l : Launch) (hlt : l.stackTraces = false) (D : va_G) (cI cJ cS : ClassId) (sa : Nat → Nat) (A : Nat → Nat → Nat) (g : Nat → Option Nat) (B : Nat → Nat → Nat) (hg : ∀ i, i < 4 → g i = some (B i 0)) (S : CM) (sz : Nat) (p1 : Int32) (o : (String ⊕ (Int32 × CM))) (hf : f_X2_cover S p1 = some o) : vx_Met l yX2_cover wsX2_cover rX2_cover (va_Pc [.ref (A 3 0), .int p1] (q_BWX D cI cJ cS sa (wCM cI cJ cS A g B S) sz)) (q_XW (fun r => some (.int r)) o D cI cJ cS A (wCM cI cJ cS A g B S) sz) (q_XC o) 2 12 (va_A (wCM cI cJ cS A g B S) sz) := by
  refine vx_ofW (cc := cX2_cover) (maxL := 2) (ret := some .int) (by decide) rfl ?_
  intro p e s m args below meth c s₁ B9 hml htab hv
  obtain ⟨rfl, hsz, hP, hE, hD0, hES, hZ⟩ := hv
  have hx := B9.exec
  have hb := B9.bytes
  have hr := B9.returns
  have hts := atoms_spec (ws := wsX2_cover) B9.pre
  have hown : s.vm.findClass RX2 = some m.cls := findClass_of_methodNamed B9.named
  have hlocks := B9.notSynchronized
  have hu1 : ∀ z ∈ wsX10, z.before _ s = true := fun z h => hts z (List.mem_cons_of_mem _ (List.mem_append_left _ (List.mem_append_left _ (List.mem_append_right _ h))))
  have hu2 : ∀ z ∈ wsX20, z.before _ s = true := fun z h => hts z (List.mem_cons_of_mem _ (List.mem_append_left _ (List.mem_append_left _ (List.mem_append_left _ (List.mem_append_right _ h)))))
  subst hsz
  have hD := hD0.self (sz := s.heap.size)
  have hS : va_S (va_A (wCM cI cJ cS A g B S) s.heap.size) s.heap s.heap [] := va_S.rf
  have B_22 : ∀ (l1 : Int32) (t0 : Int32) (ls : Array Slot), lv_has ls 2 [(0, .ref (A 3 0)), (1, .int l1)] → f_X2_cover_22 S l1 t0 = some o → W p l e (headSpec wsX2_cover rX2_cover).room s m (([.ref (A 3 0), .int p1] : List Value).toArray) below meth c s.heap [] 1 6 (vx_MQ below (q_XW (fun r => some (.int r)) o D cI cJ cS A (wCM cI cJ cS A g B S) s.heap.size) (q_XC o) (([.ref (A 3 0), .int p1] : List Value).toArray) s 2 12 (va_A (wCM cI cJ cS A g B S) s.heap.size)) (F0 m 22 ls [.int t0]) := by
    intro l1 t0 ls hl hf
    unfold f_X2_cover_22 at hf
    obtain ⟨r4, hr4, hf⟩ := q_bd_go hf
    refine q_needS (As := [.int t0]) (rest := []) hx hb hml hown hts hlocks htab (c_X2_needAllowed l hlt D cI cJ cS sa t0 _ hr4) (va_cwS 1 hts gX2_cover_X2_needAllowed rfl rfl rfl (by decide +kernel) ⟨(Nat.le_of_ble_eq_true rfl), (Nat.le_of_ble_eq_true rfl)⟩) hE hES hZ (fun q h => Or.inr h) rfl hl.1 rfl (Nat.le_of_ble_eq_true rfl) dX2_cover_22 ⟨(Nat.le_of_ble_eq_true rfl), (Nat.le_of_ble_eq_true rfl)⟩ (fun E e => q_exc_l hf E e) (Nat.le_of_ble_eq_true rfl) (Nat.le_of_ble_eq_true rfl) (fun er4 => ?_)
    have hf := q_exc_r hf er4
    refine lv_aload_n hx hb dX2_cover_25 rfl (lv_at hl 0 rfl) ?_
    obtain ⟨r5, hr5, hf⟩ := q_bd_go hf
    refine q_wrE (ci := 2) (As := []) (rest := []) hx hb hml hown hts (c_X2_save l hlt D cI cJ cS sa A g B hg S _  _ hr5) (cwV 0 hts gX2_cover_X2_save rfl rfl rfl (by decide +kernel) ⟨(Nat.le_of_ble_eq_true rfl), (Nat.le_of_ble_eq_true rfl)⟩) hE hES hZ hP hD hS (fun q h => Or.inr h) rfl rfl rfl hl.1 rfl (Nat.le_of_ble_eq_true rfl) dX2_cover_26 ⟨(Nat.le_of_ble_eq_true rfl), (Nat.le_of_ble_eq_true rfl)⟩ (fun g6 B7 H locs hg hP hD hS => ?_)
    refine lv_aload_n hx hb dX2_cover_29 rfl (lv_at hl 0 rfl) ?_
    refine va_get (D := D) (ci := 2) (v := .ref (A 0 0)) (C := RX2) (T := TX2) (N := 5) hx hb hu2 (fun _ h => h) hown hE.1 hP 0 rfl rfl 0 (Nat.le_of_ble_eq_true rfl) (hts (.fieldLink RX2 12 "CoverMeter" "now" "LCoverMeter$State;") (List.mem_of_getElem? (i := 1) rfl)) (fun _ h9 => h9) rfl dX2_cover_30 ?_
    refine lv_iload_n hx hb dX2_cover_33 rfl (lv_at hl 1 rfl) ?_
    obtain ⟨r8, hr8, hf⟩ := q_bd_go hf
    obtain ⟨S9, eS9, hf⟩ := q_let_go hf
    refine q_wrC (v := (some (.int r8.1))) (w := wST cI cJ (A 0) (CM_now r5)) (ci := 1) (As := [.int l1]) (rest := []) hx hb hml hown hts (c_X1_coverOpen l D cI cJ cS (A 0) (CM_now r5) _ l1 _ hr8) (cwV 1 hts gX2_cover_X1_coverOpen rfl rfl rfl (by decide +kernel) ⟨(Nat.le_of_ble_eq_true rfl), (Nat.le_of_ble_eq_true rfl)⟩) hE (qp_now hP) (qd_now hD) hS (fun q h => Or.inr h) (fun H1 hF hk h1 h2 => qs_now (z := r8.2) hP hD hF hk h1 h2) rfl rfl rfl hl.1 rfl (Nat.le_of_ble_eq_true rfl) dX2_cover_34 ⟨(Nat.le_of_ble_eq_true rfl), (Nat.le_of_ble_eq_true rfl)⟩ (fun H locs hP hD hS => ?_)
    rw [eS9] at hP hD
    refine lv_pop hx hb dX2_cover_37 rfl ?_
    refine lv_aload_n hx hb dX2_cover_38 rfl (lv_at hl 0 rfl) ?_
    refine va_get (D := D) (ci := 2) (v := .ref (A 0 0)) (C := RX2) (T := TX2) (N := 5) hx hb hu2 (fun _ h => h) hown hE.1 hP 0 rfl rfl 0 (Nat.le_of_ble_eq_true rfl) (hts (.fieldLink RX2 12 "CoverMeter" "now" "LCoverMeter$State;") (List.mem_of_getElem? (i := 1) rfl)) (fun _ h9 => h9) rfl dX2_cover_39 ?_
    refine va_get (D := D) (ci := 1) (v := .ref (A 0 10)) (C := RX1) (T := TX1) (N := 15) hx hb hu1 (fun _ h => h) hown hE.1 hP 2 rfl rfl 12 (Nat.le_of_ble_eq_true rfl) (hts (.fieldLink RX2 116 "CoverMeter$State" "coverers" "[I") (List.mem_of_getElem? (i := 2) rfl)) (fun _ h9 => h9) rfl dX2_cover_42 ?_
    refine lv_iload_n hx hb dX2_cover_45 rfl (lv_at hl 1 rfl) ?_
    have hi10 := q_gd_in hf
    have hf := q_gd_go hf
    refine va_iald hx hb hE.1 hP 12 0 rfl rfl hi10 dX2_cover_46 ?_
    have ho := q_some hf
    refine vx_ret ?_
    refine W.widen (k := 2) (n := 12) (Nat.le_of_ble_eq_true rfl) (Nat.le_of_ble_eq_true rfl) ?_
    exact W.iret hx hb hr (fun t ht hW => ⟨_, ho.symm, rfl, ⟨_, ⟨g6, B7, hg, rfl⟩, by rw [ht]; exact hP, hD⟩, hS.F ht⟩) hS.2.2 dX2_cover_47
  have hl := lv_entry ([.ref (A 3 0), .int p1]) (n := 2) (Nat.le_of_ble_eq_true rfl)
  rw [lg_entry_eq]
  generalize (lg_sl ([.ref (A 3 0), .int p1]) ++ List.replicate (2 - (lg_sl ([.ref (A 3 0), .int p1])).length) Slot.unset).toArray = ls at hl ⊢
  have hl : lv_has ls 2 [(0, .ref (A 3 0)), (1, .int p1)] := hl
  unfold f_X2_cover at hf
  refine lv_aload_n hx hb dX2_cover_0 rfl (lv_at hl 0 rfl) ?_
  refine lv_iload_n hx hb dX2_cover_1 rfl (lv_at hl 1 rfl) ?_
  obtain ⟨r1, hr1, hf⟩ := q_bd_go hf
  refine q_needV (w := wCR cI cJ A S) (ci := 2) (As := [.int p1]) (rest := []) hx hb hml hown hts hlocks htab (c_X2_needAbsence l hlt D cI cJ cS sa A S p1 _ hr1) (cwV 1 hts gX2_cover_X2_needAbsence rfl rfl rfl (by decide +kernel) ⟨(Nat.le_of_ble_eq_true rfl), (Nat.le_of_ble_eq_true rfl)⟩) hE hES hZ (fun q h => h.elim (fun ⟨k, e9, h9⟩ => (qd_CR hD).2 k _ h9) (fun h => Or.inr h)) (qp_CR hP) rfl rfl rfl hl.1 rfl (Nat.le_of_ble_eq_true rfl) dX2_cover_2 ⟨(Nat.le_of_ble_eq_true rfl), (Nat.le_of_ble_eq_true rfl)⟩ (fun E e => q_exc_l hf E e) (Nat.le_of_ble_eq_true rfl) (Nat.le_of_ble_eq_true rfl) (fun er1 => ?_)
  have hf := q_exc_r hf er1
  refine lv_aload_n hx hb dX2_cover_5 rfl (lv_at hl 0 rfl) ?_
  refine va_get (D := D) (ci := 2) (v := .ref (A 0 0)) (C := RX2) (T := TX2) (N := 5) hx hb hu2 (fun _ h => h) hown hE.1 hP 0 rfl rfl 0 (Nat.le_of_ble_eq_true rfl) (hts (.fieldLink RX2 12 "CoverMeter" "now" "LCoverMeter$State;") (List.mem_of_getElem? (i := 1) rfl)) (fun _ h9 => h9) rfl dX2_cover_6 ?_
  refine lv_iload_n hx hb dX2_cover_9 rfl (lv_at hl 1 rfl) ?_
  obtain ⟨r2, hr2, hf⟩ := q_bd_go hf
  refine q_rdVi (w := (wST cI cJ (A 0) (CM_now S))) (ci := 1) (As := [.int p1]) (rest := []) hx hb hml hown hts (c_X1_nextCoverer l D cI cJ cS (A 0) (CM_now S) p1 _ hr2) (cwV 1 hts gX2_cover_X1_nextCoverer rfl rfl rfl (by decide +kernel) ⟨(Nat.le_of_ble_eq_true rfl), (Nat.le_of_ble_eq_true rfl)⟩) hE (qp_now hP) rfl rfl rfl hl.1 rfl (Nat.le_of_ble_eq_true rfl) dX2_cover_10 ⟨(Nat.le_of_ble_eq_true rfl), (Nat.le_of_ble_eq_true rfl)⟩ ?_
  refine lv_iconst (v := (-1)) hx hb dX2_cover_13 (by decide) ?_
  refine lv_icmp_eq (tgt := 21) hx hb dX2_cover_14 (by decide) (fun c3 => ?_) (fun c3 => ?_)
  · have hf := q_ite_t c3 hf
    refine lv_iconst (v := 0) hx hb dX2_cover_21 (by decide) ?_
    exact B_22 p1 0 _ (lv_sub hl [0, 1] rfl) hf
  · have hf := q_ite_f c3 hf
    refine lv_iconst (v := 1) hx hb dX2_cover_17 (by decide) ?_
    refine lv_goto (tgt := 22) hx hb dX2_cover_18 (by decide) ?_
    exact B_22 p1 1 _ (lv_sub hl [0, 1] rfl) hf
def f_X2_coverAll (S : CM) : Option (Int32 × CM) := (f_X2_save S ).bind fun r1 =>
 (f_X1_coverAllOpen (CM_now r1) ).bind fun r4 =>
 q_let (sCM_now r1 r4.2) fun S5 =>
 some (r4.1, S5)
abbrev rX2_coverAll : Room := { frames := 5, cells := 0, slots := 0, locals := 119 }
set_option maxRecDepth 100000 in
set_option maxHeartbeats 4000000 in
theorem c_X2_coverAll (l : Launch) (hlt : l.stackTraces = false) (D : va_G) (cI cJ cS : ClassId) (sa : Nat → Nat) (A : Nat → Nat → Nat) (g : Nat → Option Nat) (B : Nat → Nat → Nat) (hg : ∀ i, i < 4 → g i = some (B i 0)) (S : CM) (sz : Nat) (o : (Int32 × CM)) (hf : f_X2_coverAll S = some o) : Met l yX2_coverAll wsX2_coverAll rX2_coverAll (va_Pc [.ref (A 3 0)] (q_BWX D cI cJ cS sa (wCM cI cJ cS A g B S) sz)) (q_WE (some (.int o.1)) D cI cJ cS A o.2 (wCM cI cJ cS A g B S) sz) 0 0 (va_A (wCM cI cJ cS A g B S) sz) := by
  refine Met.ofW (cc := cX2_coverAll) (maxL := 1) (ret := some .int) (by decide) rfl ?_
  intro p e s m args below meth c s₁ B9 hml hv
  obtain ⟨rfl, hsz, hP, hE, hD0, hES, hZ⟩ := hv
  have hx := B9.exec
  have hb := B9.bytes
  have hr := B9.returns
  have hts := atoms_spec (ws := wsX2_coverAll) B9.pre
  have hown : s.vm.findClass RX2 = some m.cls := findClass_of_methodNamed B9.named
  have hlocks := B9.notSynchronized
  have hu1 : ∀ z ∈ wsX10, z.before _ s = true := fun z h => hts z (List.mem_cons_of_mem _ (List.mem_append_right _ h))
  have hu2 : ∀ z ∈ wsX20, z.before _ s = true := fun z h => hts z (List.mem_cons_of_mem _ (List.mem_append_left _ (List.mem_append_right _ h)))
  subst hsz
  have hD := hD0.self (sz := s.heap.size)
  have hS : va_S (va_A (wCM cI cJ cS A g B S) s.heap.size) s.heap s.heap [] := va_S.rf
  have hl := lv_entry ([.ref (A 3 0)]) (n := 1) (Nat.le_of_ble_eq_true rfl)
  rw [lg_entry_eq]
  generalize (lg_sl ([.ref (A 3 0)]) ++ List.replicate (1 - (lg_sl ([.ref (A 3 0)])).length) Slot.unset).toArray = ls at hl ⊢
  have hl : lv_has ls 1 [(0, .ref (A 3 0))] := hl
  unfold f_X2_coverAll at hf
  refine lv_aload_n hx hb dX2_coverAll_0 rfl (lv_at hl 0 rfl) ?_
  obtain ⟨r1, hr1, hf⟩ := q_bd_go hf
  refine q_wrE (ci := 2) (As := []) (rest := []) hx hb hml hown hts (c_X2_save l hlt D cI cJ cS sa A g B hg S _  _ hr1) (cwV 0 hts gX2_coverAll_X2_save rfl rfl rfl (by decide +kernel) ⟨(Nat.le_of_ble_eq_true rfl), (Nat.le_of_ble_eq_true rfl)⟩) hE hES hZ hP hD hS (fun q h => Or.inr h) rfl rfl rfl hl.1 rfl (Nat.le_of_ble_eq_true rfl) dX2_coverAll_1 ⟨(Nat.le_of_ble_eq_true rfl), (Nat.le_of_ble_eq_true rfl)⟩ (fun g2 B3 H locs hg hP hD hS => ?_)
  refine lv_aload_n hx hb dX2_coverAll_4 rfl (lv_at hl 0 rfl) ?_
  refine va_get (D := D) (ci := 2) (v := .ref (A 0 0)) (C := RX2) (T := TX2) (N := 5) hx hb hu2 (fun _ h => h) hown hE.1 hP 0 rfl rfl 0 (Nat.le_of_ble_eq_true rfl) (hts (.fieldLink RX2 12 "CoverMeter" "now" "LCoverMeter$State;") (List.mem_of_getElem? (i := 1) rfl)) (fun _ h9 => h9) rfl dX2_coverAll_5 ?_
  obtain ⟨r4, hr4, hf⟩ := q_bd_go hf
  obtain ⟨S5, eS5, hf⟩ := q_let_go hf
  refine q_wrC (v := (some (.int r4.1))) (w := wST cI cJ (A 0) (CM_now r1)) (ci := 1) (As := []) (rest := []) hx hb hml hown hts (c_X1_coverAllOpen l D cI cJ cS (A 0) (CM_now r1) _  _ hr4) (cwV 0 hts gX2_coverAll_X1_coverAllOpen rfl rfl rfl (by decide +kernel) ⟨(Nat.le_of_ble_eq_true rfl), (Nat.le_of_ble_eq_true rfl)⟩) hE (qp_now hP) (qd_now hD) hS (fun q h => Or.inr h) (fun H1 hF hk h1 h2 => qs_now (z := r4.2) hP hD hF hk h1 h2) rfl rfl rfl hl.1 rfl (Nat.le_of_ble_eq_true rfl) dX2_coverAll_8 ⟨(Nat.le_of_ble_eq_true rfl), (Nat.le_of_ble_eq_true rfl)⟩ (fun H locs hP hD hS => ?_)
  rw [eS5] at hP hD
  have ho := q_some hf
  subst ho
  refine W.widen (k := 0) (n := 0) (Nat.le_of_ble_eq_true rfl) (Nat.le_of_ble_eq_true rfl) ?_
  exact W.iret hx hb hr (fun t ht hW => ⟨rfl, ⟨_, ⟨g2, B3, hg, rfl⟩, by rw [ht]; exact hP, hD⟩, hS.F ht⟩) hS.2.2 dX2_coverAll_11
def f_X2_handOver_38 (S : CM) (l1 : Int32) (l2 : Int32) (t0 : Int32) : Option (String ⊕ (Int32 × CM)) := (f_X2_needAllowed t0).bind fun r5 =>
 q_exc r5 fun _ =>
 (f_X2_save S ).bind fun r6 =>
 if q_in l1 30 = true then
 (q_let ((ST_coverers (CM_now r6) (l1 : Int32).toNatClampNeg)) fun v10 =>
 (f_X1_moveCover (CM_now r6) l1 l2).bind fun r11 =>
 q_let (sCM_now r6 r11) fun S12 =>
 some (.inr (v10, S12))) else none
def f_X2_handOver (S : CM) (p1 : Int32) (p2 : Int32) : Option (String ⊕ (Int32 × CM)) := (f_X2_needAbsence S p1).bind fun r1 =>
 q_exc r1 fun _ =>
 (f_X2_needPerson S p2).bind fun r2 =>
 q_exc r2 fun _ =>
 (f_X1_isCovered (CM_now S) p1).bind fun r3 =>
 if r3 = 0 then
 (f_X2_handOver_38 S p1 p2 0)
 else ((f_X1_hindrance (CM_now S) p2 p1).bind fun r13 =>
 if ¬ r13 = 0 then
 (f_X2_handOver_38 S p1 p2 0)
 else (f_X2_handOver_38 S p1 p2 1))
abbrev rX2_handOver : Room := { frames := 7, cells := 3, slots := 18, locals := 111 }
set_option maxRecDepth 100000 in
set_option maxHeartbeats 4000000 in
theorem c_X2_handOver (l : Launch) (hlt : l.stackTraces = false) (D : va_G) (cI cJ cS : ClassId) (sa : Nat → Nat) (A : Nat → Nat → Nat) (g : Nat → Option Nat) (B : Nat → Nat → Nat) (hg : ∀ i, i < 4 → g i = some (B i 0)) (S : CM) (sz : Nat) (p1 : Int32) (p2 : Int32) (o : (String ⊕ (Int32 × CM))) (hf : f_X2_handOver S p1 p2 = some o) : vx_Met l yX2_handOver wsX2_handOver rX2_handOver (va_Pc [.ref (A 3 0), .int p1, .int p2] (q_BWX D cI cJ cS sa (wCM cI cJ cS A g B S) sz)) (q_XW (fun r => some (.int r)) o D cI cJ cS A (wCM cI cJ cS A g B S) sz) (q_XC o) 3 18 (va_A (wCM cI cJ cS A g B S) sz) := by
  refine vx_ofW (cc := cX2_handOver) (maxL := 4) (ret := some .int) (by decide) rfl ?_
  intro p e s m args below meth c s₁ B9 hml htab hv
  obtain ⟨rfl, hsz, hP, hE, hD0, hES, hZ⟩ := hv
  have hx := B9.exec
  have hb := B9.bytes
  have hr := B9.returns
  have hts := atoms_spec (ws := wsX2_handOver) B9.pre
  have hown : s.vm.findClass RX2 = some m.cls := findClass_of_methodNamed B9.named
  have hlocks := B9.notSynchronized
  have hu1 : ∀ z ∈ wsX10, z.before _ s = true := fun z h => hts z (List.mem_cons_of_mem _ (List.mem_append_left _ (List.mem_append_left _ (List.mem_append_right _ h))))
  have hu2 : ∀ z ∈ wsX20, z.before _ s = true := fun z h => hts z (List.mem_cons_of_mem _ (List.mem_append_left _ (List.mem_append_left _ (List.mem_append_left _ (List.mem_append_right _ h)))))
  subst hsz
  have hD := hD0.self (sz := s.heap.size)
  have hS : va_S (va_A (wCM cI cJ cS A g B S) s.heap.size) s.heap s.heap [] := va_S.rf
  have B_38 : ∀ (l1 : Int32) (l2 : Int32) (t0 : Int32) (ls : Array Slot), lv_has ls 4 [(0, .ref (A 3 0)), (1, .int l1), (2, .int l2)] → f_X2_handOver_38 S l1 l2 t0 = some o → W p l e (headSpec wsX2_handOver rX2_handOver).room s m (([.ref (A 3 0), .int p1, .int p2] : List Value).toArray) below meth c s.heap [] 2 12 (vx_MQ below (q_XW (fun r => some (.int r)) o D cI cJ cS A (wCM cI cJ cS A g B S) s.heap.size) (q_XC o) (([.ref (A 3 0), .int p1, .int p2] : List Value).toArray) s 3 18 (va_A (wCM cI cJ cS A g B S) s.heap.size)) (F0 m 38 ls [.int t0]) := by
    intro l1 l2 t0 ls hl hf
    unfold f_X2_handOver_38 at hf
    obtain ⟨r5, hr5, hf⟩ := q_bd_go hf
    refine q_needS (As := [.int t0]) (rest := []) hx hb hml hown hts hlocks htab (c_X2_needAllowed l hlt D cI cJ cS sa t0 _ hr5) (va_cwS 1 hts gX2_handOver_X2_needAllowed rfl rfl rfl (by decide +kernel) ⟨(Nat.le_of_ble_eq_true rfl), (Nat.le_of_ble_eq_true rfl)⟩) hE hES hZ (fun q h => Or.inr h) rfl hl.1 rfl (Nat.le_of_ble_eq_true rfl) dX2_handOver_38 ⟨(Nat.le_of_ble_eq_true rfl), (Nat.le_of_ble_eq_true rfl)⟩ (fun E e => q_exc_l hf E e) (Nat.le_of_ble_eq_true rfl) (Nat.le_of_ble_eq_true rfl) (fun er5 => ?_)
    have hf := q_exc_r hf er5
    refine lv_aload_n hx hb dX2_handOver_41 rfl (lv_at hl 0 rfl) ?_
    obtain ⟨r6, hr6, hf⟩ := q_bd_go hf
    refine q_wrE (ci := 2) (As := []) (rest := []) hx hb hml hown hts (c_X2_save l hlt D cI cJ cS sa A g B hg S _  _ hr6) (cwV 0 hts gX2_handOver_X2_save rfl rfl rfl (by decide +kernel) ⟨(Nat.le_of_ble_eq_true rfl), (Nat.le_of_ble_eq_true rfl)⟩) hE hES hZ hP hD hS (fun q h => Or.inr h) rfl rfl rfl hl.1 rfl (Nat.le_of_ble_eq_true rfl) dX2_handOver_42 ⟨(Nat.le_of_ble_eq_true rfl), (Nat.le_of_ble_eq_true rfl)⟩ (fun g7 B8 H locs hg hP hD hS => ?_)
    refine lv_aload_n hx hb dX2_handOver_45 rfl (lv_at hl 0 rfl) ?_
    refine va_get (D := D) (ci := 2) (v := .ref (A 0 0)) (C := RX2) (T := TX2) (N := 5) hx hb hu2 (fun _ h => h) hown hE.1 hP 0 rfl rfl 0 (Nat.le_of_ble_eq_true rfl) (hts (.fieldLink RX2 12 "CoverMeter" "now" "LCoverMeter$State;") (List.mem_of_getElem? (i := 1) rfl)) (fun _ h9 => h9) rfl dX2_handOver_46 ?_
    refine va_get (D := D) (ci := 1) (v := .ref (A 0 10)) (C := RX1) (T := TX1) (N := 15) hx hb hu1 (fun _ h => h) hown hE.1 hP 2 rfl rfl 12 (Nat.le_of_ble_eq_true rfl) (hts (.fieldLink RX2 116 "CoverMeter$State" "coverers" "[I") (List.mem_of_getElem? (i := 2) rfl)) (fun _ h9 => h9) rfl dX2_handOver_49 ?_
    refine lv_iload_n hx hb dX2_handOver_52 rfl (lv_at hl 1 rfl) ?_
    have hi9 := q_gd_in hf
    have hf := q_gd_go hf
    refine va_iald hx hb hE.1 hP 12 0 rfl rfl hi9 dX2_handOver_53 ?_
    obtain ⟨v10, ev10, hf⟩ := q_let_go hf
    refine q_nmi ev10 ?_
    refine lv_istore_n (lv' := [(3, .int v10), (0, .ref (A 3 0)), (1, .int l1), (2, .int l2)]) hx hb dX2_handOver_54 rfl hl (by decide) rfl (fun ls hl => ?_)
    refine lv_aload_n hx hb dX2_handOver_55 rfl (lv_at hl 1 rfl) ?_
    refine va_get (D := D) (ci := 2) (v := .ref (A 0 0)) (C := RX2) (T := TX2) (N := 5) hx hb hu2 (fun _ h => h) hown hE.1 hP 0 rfl rfl 0 (Nat.le_of_ble_eq_true rfl) (hts (.fieldLink RX2 12 "CoverMeter" "now" "LCoverMeter$State;") (List.mem_of_getElem? (i := 1) rfl)) (fun _ h9 => h9) rfl dX2_handOver_56 ?_
    refine lv_iload_n hx hb dX2_handOver_59 rfl (lv_at hl 2 rfl) ?_
    refine lv_iload_n hx hb dX2_handOver_60 rfl (lv_at hl 3 rfl) ?_
    obtain ⟨r11, hr11, hf⟩ := q_bd_go hf
    obtain ⟨S12, eS12, hf⟩ := q_let_go hf
    refine q_wrC (v := none) (w := wST cI cJ (A 0) (CM_now r6)) (ci := 1) (As := [.int l1, .int l2]) (rest := []) hx hb hml hown hts (c_X1_moveCover l D cI cJ cS (A 0) (CM_now r6) _ l1 l2 _ hr11) (cwV 2 hts gX2_handOver_X1_moveCover rfl rfl rfl (by decide +kernel) ⟨(Nat.le_of_ble_eq_true rfl), (Nat.le_of_ble_eq_true rfl)⟩) hE (qp_now hP) (qd_now hD) hS (fun q h => Or.inr h) (fun H1 hF hk h1 h2 => qs_now (z := r11) hP hD hF hk h1 h2) rfl rfl rfl hl.1 rfl (Nat.le_of_ble_eq_true rfl) dX2_handOver_61 ⟨(Nat.le_of_ble_eq_true rfl), (Nat.le_of_ble_eq_true rfl)⟩ (fun H locs hP hD hS => ?_)
    rw [eS12] at hP hD
    refine lv_iload_n hx hb dX2_handOver_64 rfl (lv_at hl 0 rfl) ?_
    have ho := q_some hf
    refine vx_ret ?_
    refine W.widen (k := 3) (n := 18) (Nat.le_of_ble_eq_true rfl) (Nat.le_of_ble_eq_true rfl) ?_
    exact W.iret hx hb hr (fun t ht hW => ⟨_, ho.symm, rfl, ⟨_, ⟨g7, B8, hg, rfl⟩, by rw [ht]; exact hP, hD⟩, hS.F ht⟩) hS.2.2 dX2_handOver_65
  have hl := lv_entry ([.ref (A 3 0), .int p1, .int p2]) (n := 4) (Nat.le_of_ble_eq_true rfl)
  rw [lg_entry_eq]
  generalize (lg_sl ([.ref (A 3 0), .int p1, .int p2]) ++ List.replicate (4 - (lg_sl ([.ref (A 3 0), .int p1, .int p2])).length) Slot.unset).toArray = ls at hl ⊢
  have hl : lv_has ls 4 [(0, .ref (A 3 0)), (1, .int p1), (2, .int p2)] := hl
  unfold f_X2_handOver at hf
  refine lv_aload_n hx hb dX2_handOver_0 rfl (lv_at hl 0 rfl) ?_
  refine lv_iload_n hx hb dX2_handOver_1 rfl (lv_at hl 1 rfl) ?_
  obtain ⟨r1, hr1, hf⟩ := q_bd_go hf
  refine q_needV (w := wCR cI cJ A S) (ci := 2) (As := [.int p1]) (rest := []) hx hb hml hown hts hlocks htab (c_X2_needAbsence l hlt D cI cJ cS sa A S p1 _ hr1) (cwV 1 hts gX2_handOver_X2_needAbsence rfl rfl rfl (by decide +kernel) ⟨(Nat.le_of_ble_eq_true rfl), (Nat.le_of_ble_eq_true rfl)⟩) hE hES hZ (fun q h => h.elim (fun ⟨k, e9, h9⟩ => (qd_CR hD).2 k _ h9) (fun h => Or.inr h)) (qp_CR hP) rfl rfl rfl hl.1 rfl (Nat.le_of_ble_eq_true rfl) dX2_handOver_2 ⟨(Nat.le_of_ble_eq_true rfl), (Nat.le_of_ble_eq_true rfl)⟩ (fun E e => q_exc_l hf E e) (Nat.le_of_ble_eq_true rfl) (Nat.le_of_ble_eq_true rfl) (fun er1 => ?_)
  have hf := q_exc_r hf er1
  refine lv_aload_n hx hb dX2_handOver_5 rfl (lv_at hl 0 rfl) ?_
  refine lv_iload_n hx hb dX2_handOver_6 rfl (lv_at hl 2 rfl) ?_
  obtain ⟨r2, hr2, hf⟩ := q_bd_go hf
  refine q_needV (w := wCR cI cJ A S) (ci := 2) (As := [.int p2]) (rest := []) hx hb hml hown hts hlocks htab (c_X2_needPerson l hlt D cI cJ cS sa A S p2 _ hr2) (cwV 1 hts gX2_handOver_X2_needPerson rfl rfl rfl (by decide +kernel) ⟨(Nat.le_of_ble_eq_true rfl), (Nat.le_of_ble_eq_true rfl)⟩) hE hES hZ (fun q h => h.elim (fun ⟨k, e9, h9⟩ => (qd_CR hD).2 k _ h9) (fun h => Or.inr h)) (qp_CR hP) rfl rfl rfl hl.1 rfl (Nat.le_of_ble_eq_true rfl) dX2_handOver_7 ⟨(Nat.le_of_ble_eq_true rfl), (Nat.le_of_ble_eq_true rfl)⟩ (fun E e => q_exc_l hf E e) (Nat.le_of_ble_eq_true rfl) (Nat.le_of_ble_eq_true rfl) (fun er2 => ?_)
  have hf := q_exc_r hf er2
  refine lv_aload_n hx hb dX2_handOver_10 rfl (lv_at hl 0 rfl) ?_
  refine va_get (D := D) (ci := 2) (v := .ref (A 0 0)) (C := RX2) (T := TX2) (N := 5) hx hb hu2 (fun _ h => h) hown hE.1 hP 0 rfl rfl 0 (Nat.le_of_ble_eq_true rfl) (hts (.fieldLink RX2 12 "CoverMeter" "now" "LCoverMeter$State;") (List.mem_of_getElem? (i := 1) rfl)) (fun _ h9 => h9) rfl dX2_handOver_11 ?_
  refine lv_iload_n hx hb dX2_handOver_14 rfl (lv_at hl 1 rfl) ?_
  obtain ⟨r3, hr3, hf⟩ := q_bd_go hf
  refine q_rdVi (w := (wST cI cJ (A 0) (CM_now S))) (ci := 1) (As := [.int p1]) (rest := []) hx hb hml hown hts (c_X1_isCovered l D cI cJ cS (A 0) (CM_now S) p1 _ hr3) (cwV 1 hts gX2_handOver_X1_isCovered rfl rfl rfl (by decide +kernel) ⟨(Nat.le_of_ble_eq_true rfl), (Nat.le_of_ble_eq_true rfl)⟩) hE (qp_now hP) rfl rfl rfl hl.1 rfl (Nat.le_of_ble_eq_true rfl) dX2_handOver_15 ⟨(Nat.le_of_ble_eq_true rfl), (Nat.le_of_ble_eq_true rfl)⟩ ?_
  refine lv_if_eq (tgt := 37) hx hb dX2_handOver_18 (by decide) (fun c4 => ?_) (fun c4 => ?_)
  · have hf := q_ite_t c4 hf
    refine lv_iconst (v := 0) hx hb dX2_handOver_37 (by decide) ?_
    exact B_38 p1 p2 0 _ (lv_sub hl [0, 1, 2] rfl) hf
  · have hf := q_ite_f c4 hf
    refine lv_aload_n hx hb dX2_handOver_21 rfl (lv_at hl 0 rfl) ?_
    refine va_get (D := D) (ci := 2) (v := .ref (A 0 0)) (C := RX2) (T := TX2) (N := 5) hx hb hu2 (fun _ h => h) hown hE.1 hP 0 rfl rfl 0 (Nat.le_of_ble_eq_true rfl) (hts (.fieldLink RX2 12 "CoverMeter" "now" "LCoverMeter$State;") (List.mem_of_getElem? (i := 1) rfl)) (fun _ h9 => h9) rfl dX2_handOver_22 ?_
    refine lv_iload_n hx hb dX2_handOver_25 rfl (lv_at hl 2 rfl) ?_
    refine lv_iload_n hx hb dX2_handOver_26 rfl (lv_at hl 1 rfl) ?_
    obtain ⟨r13, hr13, hf⟩ := q_bd_go hf
    refine q_rdVi (w := (wST cI cJ (A 0) (CM_now S))) (ci := 1) (As := [.int p2, .int p1]) (rest := []) hx hb hml hown hts (c_X1_hindrance l D cI cJ cS (A 0) (CM_now S) p2 p1 _ hr13) (cwV 2 hts gX2_handOver_X1_hindrance rfl rfl rfl (by decide +kernel) ⟨(Nat.le_of_ble_eq_true rfl), (Nat.le_of_ble_eq_true rfl)⟩) hE (qp_now hP) rfl rfl rfl hl.1 rfl (Nat.le_of_ble_eq_true rfl) dX2_handOver_27 ⟨(Nat.le_of_ble_eq_true rfl), (Nat.le_of_ble_eq_true rfl)⟩ ?_
    refine lv_if_ne (tgt := 37) hx hb dX2_handOver_30 (by decide) (fun c14 => ?_) (fun c14 => ?_)
    · have hf := q_ite_t c14 hf
      refine lv_iconst (v := 0) hx hb dX2_handOver_37 (by decide) ?_
      exact B_38 p1 p2 0 _ (lv_sub hl [0, 1, 2] rfl) hf
    · have hf := q_ite_n c14 hf
      refine lv_iconst (v := 1) hx hb dX2_handOver_33 (by decide) ?_
      refine lv_goto (tgt := 38) hx hb dX2_handOver_34 (by decide) ?_
      exact B_38 p1 p2 1 _ (lv_sub hl [0, 1, 2] rfl) hf
def f_X2_giveUp_22 (S : CM) (l1 : Int32) (t0 : Int32) : Option (String ⊕ (Int32 × CM)) := (f_X2_needAllowed t0).bind fun r4 =>
 q_exc r4 fun _ =>
 (f_X2_save S ).bind fun r5 =>
 (f_X1_bidsFor (CM_now r5) l1).bind fun r8 =>
 if q_in l1 30 = true then
 (q_let (sCM_now r5 (sST_statuses (CM_now r5) (upd (ST_statuses (CM_now r5)) (l1 : Int32).toNatClampNeg 3))) fun S10 =>
 (f_X1_dropBids (CM_now S10) l1).bind fun r11 =>
 q_let (sCM_now S10 r11) fun S12 =>
 some (.inr (r8, S12))) else none
def f_X2_giveUp (S : CM) (p1 : Int32) : Option (String ⊕ (Int32 × CM)) := (f_X2_needAbsence S p1).bind fun r1 =>
 q_exc r1 fun _ =>
 if q_in p1 30 = true then
 (if ¬ (ST_statuses (CM_now S) (p1 : Int32).toNatClampNeg) = 0 then
 (f_X2_giveUp_22 S p1 0)
 else (f_X2_giveUp_22 S p1 1)) else none
abbrev rX2_giveUp : Room := { frames := 7, cells := 2, slots := 12, locals := 111 }
set_option maxRecDepth 100000 in
set_option maxHeartbeats 4000000 in
theorem c_X2_giveUp (l : Launch) (hlt : l.stackTraces = false) (D : va_G) (cI cJ cS : ClassId) (sa : Nat → Nat) (A : Nat → Nat → Nat) (g : Nat → Option Nat) (B : Nat → Nat → Nat) (hg : ∀ i, i < 4 → g i = some (B i 0)) (S : CM) (sz : Nat) (p1 : Int32) (o : (String ⊕ (Int32 × CM))) (hf : f_X2_giveUp S p1 = some o) : vx_Met l yX2_giveUp wsX2_giveUp rX2_giveUp (va_Pc [.ref (A 3 0), .int p1] (q_BWX D cI cJ cS sa (wCM cI cJ cS A g B S) sz)) (q_XW (fun r => some (.int r)) o D cI cJ cS A (wCM cI cJ cS A g B S) sz) (q_XC o) 2 12 (va_A (wCM cI cJ cS A g B S) sz) := by
  refine vx_ofW (cc := cX2_giveUp) (maxL := 3) (ret := some .int) (by decide) rfl ?_
  intro p e s m args below meth c s₁ B9 hml htab hv
  obtain ⟨rfl, hsz, hP, hE, hD0, hES, hZ⟩ := hv
  have hx := B9.exec
  have hb := B9.bytes
  have hr := B9.returns
  have hts := atoms_spec (ws := wsX2_giveUp) B9.pre
  have hown : s.vm.findClass RX2 = some m.cls := findClass_of_methodNamed B9.named
  have hlocks := B9.notSynchronized
  have hu1 : ∀ z ∈ wsX10, z.before _ s = true := fun z h => hts z (List.mem_cons_of_mem _ (List.mem_append_left _ (List.mem_append_left _ (List.mem_append_right _ h))))
  have hu2 : ∀ z ∈ wsX20, z.before _ s = true := fun z h => hts z (List.mem_cons_of_mem _ (List.mem_append_left _ (List.mem_append_left _ (List.mem_append_left _ (List.mem_append_right _ h)))))
  subst hsz
  have hD := hD0.self (sz := s.heap.size)
  have hS : va_S (va_A (wCM cI cJ cS A g B S) s.heap.size) s.heap s.heap [] := va_S.rf
  have B_22 : ∀ (l1 : Int32) (t0 : Int32) (ls : Array Slot), lv_has ls 3 [(0, .ref (A 3 0)), (1, .int l1)] → f_X2_giveUp_22 S l1 t0 = some o → W p l e (headSpec wsX2_giveUp rX2_giveUp).room s m (([.ref (A 3 0), .int p1] : List Value).toArray) below meth c s.heap [] 1 6 (vx_MQ below (q_XW (fun r => some (.int r)) o D cI cJ cS A (wCM cI cJ cS A g B S) s.heap.size) (q_XC o) (([.ref (A 3 0), .int p1] : List Value).toArray) s 2 12 (va_A (wCM cI cJ cS A g B S) s.heap.size)) (F0 m 22 ls [.int t0]) := by
    intro l1 t0 ls hl hf
    unfold f_X2_giveUp_22 at hf
    obtain ⟨r4, hr4, hf⟩ := q_bd_go hf
    refine q_needS (As := [.int t0]) (rest := []) hx hb hml hown hts hlocks htab (c_X2_needAllowed l hlt D cI cJ cS sa t0 _ hr4) (va_cwS 1 hts gX2_giveUp_X2_needAllowed rfl rfl rfl (by decide +kernel) ⟨(Nat.le_of_ble_eq_true rfl), (Nat.le_of_ble_eq_true rfl)⟩) hE hES hZ (fun q h => Or.inr h) rfl hl.1 rfl (Nat.le_of_ble_eq_true rfl) dX2_giveUp_22 ⟨(Nat.le_of_ble_eq_true rfl), (Nat.le_of_ble_eq_true rfl)⟩ (fun E e => q_exc_l hf E e) (Nat.le_of_ble_eq_true rfl) (Nat.le_of_ble_eq_true rfl) (fun er4 => ?_)
    have hf := q_exc_r hf er4
    refine lv_aload_n hx hb dX2_giveUp_25 rfl (lv_at hl 0 rfl) ?_
    obtain ⟨r5, hr5, hf⟩ := q_bd_go hf
    refine q_wrE (ci := 2) (As := []) (rest := []) hx hb hml hown hts (c_X2_save l hlt D cI cJ cS sa A g B hg S _  _ hr5) (cwV 0 hts gX2_giveUp_X2_save rfl rfl rfl (by decide +kernel) ⟨(Nat.le_of_ble_eq_true rfl), (Nat.le_of_ble_eq_true rfl)⟩) hE hES hZ hP hD hS (fun q h => Or.inr h) rfl rfl rfl hl.1 rfl (Nat.le_of_ble_eq_true rfl) dX2_giveUp_26 ⟨(Nat.le_of_ble_eq_true rfl), (Nat.le_of_ble_eq_true rfl)⟩ (fun g6 B7 H locs hg hP hD hS => ?_)
    refine lv_aload_n hx hb dX2_giveUp_29 rfl (lv_at hl 0 rfl) ?_
    refine va_get (D := D) (ci := 2) (v := .ref (A 0 0)) (C := RX2) (T := TX2) (N := 5) hx hb hu2 (fun _ h => h) hown hE.1 hP 0 rfl rfl 0 (Nat.le_of_ble_eq_true rfl) (hts (.fieldLink RX2 12 "CoverMeter" "now" "LCoverMeter$State;") (List.mem_of_getElem? (i := 1) rfl)) (fun _ h9 => h9) rfl dX2_giveUp_30 ?_
    refine lv_iload_n hx hb dX2_giveUp_33 rfl (lv_at hl 1 rfl) ?_
    obtain ⟨r8, hr8, hf⟩ := q_bd_go hf
    refine q_rdVi (w := (wST cI cJ (A 0) (CM_now r5))) (ci := 1) (As := [.int l1]) (rest := []) hx hb hml hown hts (c_X1_bidsFor l D cI cJ cS (A 0) (CM_now r5) l1 _ hr8) (cwV 1 hts gX2_giveUp_X1_bidsFor rfl rfl rfl (by decide +kernel) ⟨(Nat.le_of_ble_eq_true rfl), (Nat.le_of_ble_eq_true rfl)⟩) hE (qp_now hP) rfl rfl rfl hl.1 rfl (Nat.le_of_ble_eq_true rfl) dX2_giveUp_34 ⟨(Nat.le_of_ble_eq_true rfl), (Nat.le_of_ble_eq_true rfl)⟩ ?_
    refine lv_istore_n (lv' := [(2, .int r8), (0, .ref (A 3 0)), (1, .int l1)]) hx hb dX2_giveUp_37 rfl hl (by decide) rfl (fun ls hl => ?_)
    refine lv_aload_n hx hb dX2_giveUp_38 rfl (lv_at hl 1 rfl) ?_
    refine va_get (D := D) (ci := 2) (v := .ref (A 0 0)) (C := RX2) (T := TX2) (N := 5) hx hb hu2 (fun _ h => h) hown hE.1 hP 0 rfl rfl 0 (Nat.le_of_ble_eq_true rfl) (hts (.fieldLink RX2 12 "CoverMeter" "now" "LCoverMeter$State;") (List.mem_of_getElem? (i := 1) rfl)) (fun _ h9 => h9) rfl dX2_giveUp_39 ?_
    refine va_get (D := D) (ci := 1) (v := .ref (A 0 9)) (C := RX1) (T := TX1) (N := 15) hx hb hu1 (fun _ h => h) hown hE.1 hP 2 rfl rfl 11 (Nat.le_of_ble_eq_true rfl) (hts (.fieldLink RX2 133 "CoverMeter$State" "statuses" "[I") (List.mem_of_getElem? (i := 2) rfl)) (fun _ h9 => h9) rfl dX2_giveUp_42 ?_
    refine lv_iload_n hx hb dX2_giveUp_45 rfl (lv_at hl 2 rfl) ?_
    refine lv_iconst (v := 3) hx hb dX2_giveUp_46 (by decide) ?_
    have hi9 := q_gd_in hf
    have hf := q_gd_go hf
    obtain ⟨S10, eS10, hf⟩ := q_let_go hf
    refine va_iast hx hb hE.1 hP hD hS 11 0 rfl rfl hi9 dX2_giveUp_47 (fun H locs hP hD hS => ?_)
    have hP : va_P D vwCl (wCM cI cJ cS A g6 B7 (sCM_now r5 (sST_statuses (CM_now r5) (upd (ST_statuses (CM_now r5)) (l1 : Int32).toNatClampNeg 3)))) H := hP
    have hD : va_D (va_A (wCM cI cJ cS A g B S) s.heap.size) (wCM cI cJ cS A g6 B7 (sCM_now r5 (sST_statuses (CM_now r5) (upd (ST_statuses (CM_now r5)) (l1 : Int32).toNatClampNeg 3)))) := hD
    rw [eS10] at hP hD
    refine lv_aload_n hx hb dX2_giveUp_48 rfl (lv_at hl 1 rfl) ?_
    refine va_get (D := D) (ci := 2) (v := .ref (A 0 0)) (C := RX2) (T := TX2) (N := 5) hx hb hu2 (fun _ h => h) hown hE.1 hP 0 rfl rfl 0 (Nat.le_of_ble_eq_true rfl) (hts (.fieldLink RX2 12 "CoverMeter" "now" "LCoverMeter$State;") (List.mem_of_getElem? (i := 1) rfl)) (fun _ h9 => h9) rfl dX2_giveUp_49 ?_
    refine lv_iload_n hx hb dX2_giveUp_52 rfl (lv_at hl 2 rfl) ?_
    obtain ⟨r11, hr11, hf⟩ := q_bd_go hf
    obtain ⟨S12, eS12, hf⟩ := q_let_go hf
    refine q_wrC (v := none) (w := wST cI cJ (A 0) (CM_now S10)) (ci := 1) (As := [.int l1]) (rest := []) hx hb hml hown hts (c_X1_dropBids l D cI cJ cS (A 0) (CM_now S10) _ l1 _ hr11) (cwV 1 hts gX2_giveUp_X1_dropBids rfl rfl rfl (by decide +kernel) ⟨(Nat.le_of_ble_eq_true rfl), (Nat.le_of_ble_eq_true rfl)⟩) hE (qp_now hP) (qd_now hD) hS (fun q h => Or.inr h) (fun H1 hF hk h1 h2 => qs_now (z := r11) hP hD hF hk h1 h2) rfl rfl rfl hl.1 rfl (Nat.le_of_ble_eq_true rfl) dX2_giveUp_53 ⟨(Nat.le_of_ble_eq_true rfl), (Nat.le_of_ble_eq_true rfl)⟩ (fun H locs hP hD hS => ?_)
    rw [eS12] at hP hD
    refine lv_iload_n hx hb dX2_giveUp_56 rfl (lv_at hl 0 rfl) ?_
    have ho := q_some hf
    refine vx_ret ?_
    refine W.widen (k := 2) (n := 12) (Nat.le_of_ble_eq_true rfl) (Nat.le_of_ble_eq_true rfl) ?_
    exact W.iret hx hb hr (fun t ht hW => ⟨_, ho.symm, rfl, ⟨_, ⟨g6, B7, hg, rfl⟩, by rw [ht]; exact hP, hD⟩, hS.F ht⟩) hS.2.2 dX2_giveUp_57
  have hl := lv_entry ([.ref (A 3 0), .int p1]) (n := 3) (Nat.le_of_ble_eq_true rfl)
  rw [lg_entry_eq]
  generalize (lg_sl ([.ref (A 3 0), .int p1]) ++ List.replicate (3 - (lg_sl ([.ref (A 3 0), .int p1])).length) Slot.unset).toArray = ls at hl ⊢
  have hl : lv_has ls 3 [(0, .ref (A 3 0)), (1, .int p1)] := hl
  unfold f_X2_giveUp at hf
  refine lv_aload_n hx hb dX2_giveUp_0 rfl (lv_at hl 0 rfl) ?_
  refine lv_iload_n hx hb dX2_giveUp_1 rfl (lv_at hl 1 rfl) ?_
  obtain ⟨r1, hr1, hf⟩ := q_bd_go hf
  refine q_needV (w := wCR cI cJ A S) (ci := 2) (As := [.int p1]) (rest := []) hx hb hml hown hts hlocks htab (c_X2_needAbsence l hlt D cI cJ cS sa A S p1 _ hr1) (cwV 1 hts gX2_giveUp_X2_needAbsence rfl rfl rfl (by decide +kernel) ⟨(Nat.le_of_ble_eq_true rfl), (Nat.le_of_ble_eq_true rfl)⟩) hE hES hZ (fun q h => h.elim (fun ⟨k, e9, h9⟩ => (qd_CR hD).2 k _ h9) (fun h => Or.inr h)) (qp_CR hP) rfl rfl rfl hl.1 rfl (Nat.le_of_ble_eq_true rfl) dX2_giveUp_2 ⟨(Nat.le_of_ble_eq_true rfl), (Nat.le_of_ble_eq_true rfl)⟩ (fun E e => q_exc_l hf E e) (Nat.le_of_ble_eq_true rfl) (Nat.le_of_ble_eq_true rfl) (fun er1 => ?_)
  have hf := q_exc_r hf er1
  refine lv_aload_n hx hb dX2_giveUp_5 rfl (lv_at hl 0 rfl) ?_
  refine va_get (D := D) (ci := 2) (v := .ref (A 0 0)) (C := RX2) (T := TX2) (N := 5) hx hb hu2 (fun _ h => h) hown hE.1 hP 0 rfl rfl 0 (Nat.le_of_ble_eq_true rfl) (hts (.fieldLink RX2 12 "CoverMeter" "now" "LCoverMeter$State;") (List.mem_of_getElem? (i := 1) rfl)) (fun _ h9 => h9) rfl dX2_giveUp_6 ?_
  refine va_get (D := D) (ci := 1) (v := .ref (A 0 9)) (C := RX1) (T := TX1) (N := 15) hx hb hu1 (fun _ h => h) hown hE.1 hP 2 rfl rfl 11 (Nat.le_of_ble_eq_true rfl) (hts (.fieldLink RX2 133 "CoverMeter$State" "statuses" "[I") (List.mem_of_getElem? (i := 2) rfl)) (fun _ h9 => h9) rfl dX2_giveUp_9 ?_
  refine lv_iload_n hx hb dX2_giveUp_12 rfl (lv_at hl 1 rfl) ?_
  have hi2 := q_gd_in hf
  have hf := q_gd_go hf
  refine va_iald hx hb hE.1 hP 11 0 rfl rfl hi2 dX2_giveUp_13 ?_
  refine lv_if_ne (tgt := 21) hx hb dX2_giveUp_14 (by decide) (fun c3 => ?_) (fun c3 => ?_)
  · have hf := q_ite_t c3 hf
    refine lv_iconst (v := 0) hx hb dX2_giveUp_21 (by decide) ?_
    exact B_22 p1 0 _ (lv_sub hl [0, 1] rfl) hf
  · have hf := q_ite_n c3 hf
    refine lv_iconst (v := 1) hx hb dX2_giveUp_17 (by decide) ?_
    refine lv_goto (tgt := 22) hx hb dX2_giveUp_18 (by decide) ?_
    exact B_22 p1 1 _ (lv_sub hl [0, 1] rfl) hf
def f_X2_digestPerson_6 (S : CM) : Nat → Int32 → Int64 → Int32 → Option Int64
  | 0, _, _, _ => none
  | n+1, l3, l4, l6 => if 7 ≤ l6 then
 ((f_X1_worked (CM_now S) l3).bind fun r2 =>
 some ((31 * l4) + r2))
 else ((f_X1_aboutPerson (CM_now S) l3 l6).bind fun r3 =>
 q_let (((31 * l4) + ((r3 : Int32).toInt64))) fun v4 =>
 q_let (l6 + 1) fun v5 =>
 f_X2_digestPerson_6 S n l3 v4 v5)
def f_X2_digestPerson (S : CM) (p1 : Int64) (p2 : Int32) : Option Int64 := f_X2_digestPerson_6 S 2000 p2 p1 0
abbrev rX2_digestPerson : Room := { frames := 3, cells := 0, slots := 0, locals := 66 }
set_option maxRecDepth 100000 in
set_option maxHeartbeats 4000000 in
theorem c_X2_digestPerson (l : Launch) (D : va_G) (cI cJ cS : ClassId) (A : Nat → Nat → Nat) (S : CM) (p1 : Int64) (p2 : Int32) (o : Int64) (hf : f_X2_digestPerson S p1 p2 = some o) : Met l yX2_digestPerson wsX2_digestPerson rX2_digestPerson (va_Pc [.ref (A 3 0), .long p1, .int p2] (q_B D cI cJ cS (wCR cI cJ A S))) (q_Rl o) 0 0 (fun _ => False) := by
  refine Met.ofW (cc := cX2_digestPerson) (maxL := 7) (ret := some .long) (by decide) rfl ?_
  intro p e s m args below meth c s₁ B9 hml hv
  obtain ⟨rfl, hP, hE⟩ := hv
  have hx := B9.exec
  have hb := B9.bytes
  have hr := B9.returns
  have hts := atoms_spec (ws := wsX2_digestPerson) B9.pre
  have hown : s.vm.findClass RX2 = some m.cls := findClass_of_methodNamed B9.named
  have hlocks := B9.notSynchronized
  have hu1 : ∀ z ∈ wsX10, z.before _ s = true := fun z h => hts z (List.mem_cons_of_mem _ (List.mem_append_right _ h))
  have hu2 : ∀ z ∈ wsX20, z.before _ s = true := fun z h => hts z (List.mem_cons_of_mem _ (List.mem_append_left _ (List.mem_append_right _ h)))
  have L_6 : ∀ (n : Nat) (l3 : Int32) (l4 : Int64) (l6 : Int32) (ls : Array Slot), lv_has ls 7 [(0, .ref (A 3 0)), (3, .int l3), (4, .long l4), (6, .int l6)] → f_X2_digestPerson_6 S n l3 l4 l6 = some o → W p l e (headSpec wsX2_digestPerson rX2_digestPerson).room s m (([.ref (A 3 0), .long p1, .int p2] : List Value).toArray) below meth c s.heap [] 0 0 (MQ below (q_Rl o) (([.ref (A 3 0), .long p1, .int p2] : List Value).toArray) s 0 0 (fun _ => False)) (F0 m 6 ls []) := by
    intro n
    induction n with
    | zero => intro l3 l4 l6 ls hl hf; cases hf
    | succ n ih =>
      intro l3 l4 l6 ls hl hf
      rw [f_X2_digestPerson_6] at hf
      refine lv_iload hx hb dX2_digestPerson_6 (lv_at hl 3 rfl) ?_
      refine lv_bipush (v := 7) hx hb dX2_digestPerson_8 (by decide) ?_
      refine lv_icmp_ge (tgt := 39) hx hb dX2_digestPerson_10 (by decide) (fun c1 => ?_) (fun c1 => ?_)
      · have hf := q_ite_t c1 hf
        refine lv_ldc2 (v := 31) hx hb hown (hts (.constantLong RX2 201 (31)) (List.mem_of_getElem? (i := 1) rfl)) dX2_digestPerson_39 ?_
        refine lv_lload hx hb dX2_digestPerson_42 (lv_at hl 2 rfl) ?_
        refine lv_lmul hx hb dX2_digestPerson_44 ?_
        refine lv_aload_n hx hb dX2_digestPerson_45 rfl (lv_at hl 0 rfl) ?_
        refine va_get (D := D) (ci := 2) (v := .ref (A 0 0)) (C := RX2) (T := TX2) (N := 5) hx hb hu2 (fun _ h => h) hown hE.1 hP 0 rfl rfl 0 (Nat.le_of_ble_eq_true rfl) (hts (.fieldLink RX2 12 "CoverMeter" "now" "LCoverMeter$State;") (List.mem_of_getElem? (i := 2) rfl)) (fun _ h9 => h9) rfl dX2_digestPerson_46 ?_
        refine lv_iload_n hx hb dX2_digestPerson_49 rfl (lv_at hl 1 rfl) ?_
        obtain ⟨r2, hr2, hf⟩ := q_bd_go hf
        refine q_rdVl (w := (wST cI cJ (A 0) (CM_now S))) (ci := 1) (As := [.int l3]) (rest := [.long (31 * l4)]) hx hb hml hown hts (c_X1_worked l D cI cJ cS (A 0) (CM_now S) l3 _ hr2) (cwV 1 hts gX2_digestPerson_X1_worked rfl rfl rfl (by decide +kernel) ⟨(Nat.le_of_ble_eq_true rfl), (Nat.le_of_ble_eq_true rfl)⟩) hE (qr_now hP) rfl rfl rfl hl.1 rfl (Nat.le_of_ble_eq_true rfl) dX2_digestPerson_50 ⟨(Nat.le_of_ble_eq_true rfl), (Nat.le_of_ble_eq_true rfl)⟩ ?_
        refine lv_ladd hx hb dX2_digestPerson_53 ?_
        have ho := q_some hf
        subst ho
        refine W.widen (k := 0) (n := 0) (Nat.le_of_ble_eq_true rfl) (Nat.le_of_ble_eq_true rfl) ?_
        exact W.lret hx hb hr (fun t ht hW => ⟨rfl, ht⟩) t_nil dX2_digestPerson_54
      · have hf := q_ite_f c1 hf
        refine lv_ldc2 (v := 31) hx hb hown (hts (.constantLong RX2 201 (31)) (List.mem_of_getElem? (i := 1) rfl)) dX2_digestPerson_13 ?_
        refine lv_lload hx hb dX2_digestPerson_16 (lv_at hl 2 rfl) ?_
        refine lv_lmul hx hb dX2_digestPerson_18 ?_
        refine lv_aload_n hx hb dX2_digestPerson_19 rfl (lv_at hl 0 rfl) ?_
        refine va_get (D := D) (ci := 2) (v := .ref (A 0 0)) (C := RX2) (T := TX2) (N := 5) hx hb hu2 (fun _ h => h) hown hE.1 hP 0 rfl rfl 0 (Nat.le_of_ble_eq_true rfl) (hts (.fieldLink RX2 12 "CoverMeter" "now" "LCoverMeter$State;") (List.mem_of_getElem? (i := 2) rfl)) (fun _ h9 => h9) rfl dX2_digestPerson_20 ?_
        refine lv_iload_n hx hb dX2_digestPerson_23 rfl (lv_at hl 1 rfl) ?_
        refine lv_iload hx hb dX2_digestPerson_24 (lv_at hl 3 rfl) ?_
        obtain ⟨r3, hr3, hf⟩ := q_bd_go hf
        refine q_rdVi (w := (wST cI cJ (A 0) (CM_now S))) (ci := 1) (As := [.int l3, .int l6]) (rest := [.long (31 * l4)]) hx hb hml hown hts (c_X1_aboutPerson l D cI cJ cS (A 0) (CM_now S) l3 l6 _ hr3) (cwV 2 hts gX2_digestPerson_X1_aboutPerson rfl rfl rfl (by decide +kernel) ⟨(Nat.le_of_ble_eq_true rfl), (Nat.le_of_ble_eq_true rfl)⟩) hE (qr_now hP) rfl rfl rfl hl.1 rfl (Nat.le_of_ble_eq_true rfl) dX2_digestPerson_26 ⟨(Nat.le_of_ble_eq_true rfl), (Nat.le_of_ble_eq_true rfl)⟩ ?_
        refine lv_i2l (v := ((r3 : Int32).toInt64)) hx hb dX2_digestPerson_29 rfl ?_
        refine lv_ladd hx hb dX2_digestPerson_30 ?_
        obtain ⟨v4, ev4, hf⟩ := q_let_go hf
        refine q_nml ev4 ?_
        refine lv_lstore (lv' := [(4, .long v4), (0, .ref (A 3 0)), (3, .int l3), (6, .int l6)]) hx hb dX2_digestPerson_31 hl (by decide) rfl (fun ls hl => ?_)
        obtain ⟨v5, ev5, hf⟩ := q_let_go hf
        refine lv_iinc (v := v5) (lv' := [(6, .int v5), (4, .long v4), (0, .ref (A 3 0)), (3, .int l3)]) hx hb dX2_digestPerson_33 hl (k := 3) rfl (by rw [← ev5]; rfl) (by decide) rfl (fun ls hl => ?_)
        refine lv_goto (tgt := 6) hx hb dX2_digestPerson_36 (by decide) ?_
        exact ih l3 v4 v5 _ (lv_sub hl [2, 3, 1, 0] rfl) hf
  have hl := lv_entry ([.ref (A 3 0), .long p1, .int p2]) (n := 7) (Nat.le_of_ble_eq_true rfl)
  rw [lg_entry_eq]
  generalize (lg_sl ([.ref (A 3 0), .long p1, .int p2]) ++ List.replicate (7 - (lg_sl ([.ref (A 3 0), .long p1, .int p2])).length) Slot.unset).toArray = ls at hl ⊢
  have hl : lv_has ls 7 [(0, .ref (A 3 0)), (1, .long p1), (3, .int p2)] := hl
  unfold f_X2_digestPerson at hf
  refine lv_lload_n hx hb dX2_digestPerson_0 rfl (lv_at hl 1 rfl) ?_
  refine lv_lstore (lv' := [(4, .long p1), (0, .ref (A 3 0)), (1, .long p1), (3, .int p2)]) hx hb dX2_digestPerson_1 hl (by decide) rfl (fun ls hl => ?_)
  refine lv_iconst (v := 0) hx hb dX2_digestPerson_3 (by decide) ?_
  refine lv_istore (lv' := [(6, .int 0), (4, .long p1), (0, .ref (A 3 0)), (1, .long p1), (3, .int p2)]) hx hb dX2_digestPerson_4 hl (by decide) rfl (fun ls hl => ?_)
  exact L_6 2000 p2 p1 0 _ (lv_sub hl [2, 4, 1, 0] rfl) hf
def f_X2_digestAbsence_42 (S : CM) : Nat → Int32 → Int64 → Int32 → Option Int64
  | 0, _, _, _ => none
  | n+1, l3, l4, l6 => if (ST_persons (CM_now S)) ≤ l6 then
 (some l4)
 else ((f_X2_bidIndex l6 l3).bind fun r3 =>
 if q_in r3 240 = true then
 (q_let (((31 * l4) + (((ST_bids (CM_now S) (r3 : Int32).toNatClampNeg) : Int32).toInt64))) fun v5 =>
 q_let (l6 + 1) fun v6 =>
 f_X2_digestAbsence_42 S n l3 v5 v6) else none)
def f_X2_digestAbsence_6 (S : CM) : Nat → Int32 → Int64 → Int32 → Option Int64
  | 0, _, _, _ => none
  | n+1, l3, l4, l6 => if 7 ≤ l6 then
 (f_X2_digestAbsence_42 S 2000 l3 l4 0)
 else ((f_X1_aboutAbsence (CM_now S) l3 l6).bind fun r7 =>
 q_let (((31 * l4) + ((r7 : Int32).toInt64))) fun v8 =>
 q_let (l6 + 1) fun v9 =>
 f_X2_digestAbsence_6 S n l3 v8 v9)
def f_X2_digestAbsence (S : CM) (p1 : Int64) (p2 : Int32) : Option Int64 := f_X2_digestAbsence_6 S 2000 p2 p1 0
abbrev rX2_digestAbsence : Room := { frames := 4, cells := 0, slots := 0, locals := 96 }
set_option maxRecDepth 100000 in
set_option maxHeartbeats 4000000 in
theorem c_X2_digestAbsence (l : Launch) (D : va_G) (cI cJ cS : ClassId) (A : Nat → Nat → Nat) (S : CM) (p1 : Int64) (p2 : Int32) (o : Int64) (hf : f_X2_digestAbsence S p1 p2 = some o) : Met l yX2_digestAbsence wsX2_digestAbsence rX2_digestAbsence (va_Pc [.ref (A 3 0), .long p1, .int p2] (q_B D cI cJ cS (wCR cI cJ A S))) (q_Rl o) 0 0 (fun _ => False) := by
  refine Met.ofW (cc := cX2_digestAbsence) (maxL := 7) (ret := some .long) (by decide) rfl ?_
  intro p e s m args below meth c s₁ B9 hml hv
  obtain ⟨rfl, hP, hE⟩ := hv
  have hx := B9.exec
  have hb := B9.bytes
  have hr := B9.returns
  have hts := atoms_spec (ws := wsX2_digestAbsence) B9.pre
  have hown : s.vm.findClass RX2 = some m.cls := findClass_of_methodNamed B9.named
  have hlocks := B9.notSynchronized
  have hu1 : ∀ z ∈ wsX10, z.before _ s = true := fun z h => hts z (List.mem_cons_of_mem _ (List.mem_append_right _ h))
  have hu2 : ∀ z ∈ wsX20, z.before _ s = true := fun z h => hts z (List.mem_cons_of_mem _ (List.mem_append_left _ (List.mem_append_right _ h)))
  have L_42 : ∀ (n : Nat) (l3 : Int32) (l4 : Int64) (l6 : Int32) (ls : Array Slot), lv_has ls 7 [(0, .ref (A 3 0)), (3, .int l3), (4, .long l4), (6, .int l6)] → f_X2_digestAbsence_42 S n l3 l4 l6 = some o → W p l e (headSpec wsX2_digestAbsence rX2_digestAbsence).room s m (([.ref (A 3 0), .long p1, .int p2] : List Value).toArray) below meth c s.heap [] 0 0 (MQ below (q_Rl o) (([.ref (A 3 0), .long p1, .int p2] : List Value).toArray) s 0 0 (fun _ => False)) (F0 m 42 ls []) := by
    intro n
    induction n with
    | zero => intro l3 l4 l6 ls hl hf; cases hf
    | succ n ih =>
      intro l3 l4 l6 ls hl hf
      rw [f_X2_digestAbsence_42] at hf
      refine lv_iload hx hb dX2_digestAbsence_42 (lv_at hl 3 rfl) ?_
      refine lv_aload_n hx hb dX2_digestAbsence_44 rfl (lv_at hl 0 rfl) ?_
      refine va_get (D := D) (ci := 2) (v := .ref (A 0 0)) (C := RX2) (T := TX2) (N := 5) hx hb hu2 (fun _ h => h) hown hE.1 hP 0 rfl rfl 0 (Nat.le_of_ble_eq_true rfl) (hts (.fieldLink RX2 12 "CoverMeter" "now" "LCoverMeter$State;") (List.mem_of_getElem? (i := 2) rfl)) (fun _ h9 => h9) rfl dX2_digestAbsence_45 ?_
      refine va_get (D := D) (ci := 1) (v := .int (ST_persons (CM_now S))) (C := RX1) (T := TX1) (N := 15) hx hb hu1 (fun _ h => h) hown hE.1 hP 1 rfl rfl 2 (Nat.le_of_ble_eq_true rfl) (hts (.fieldLink RX2 56 "CoverMeter$State" "persons" "I") (List.mem_of_getElem? (i := 3) rfl)) (fun _ h9 => h9) rfl dX2_digestAbsence_48 ?_
      refine lv_icmp_ge (tgt := 84) hx hb dX2_digestAbsence_51 (by decide) (fun c2 => ?_) (fun c2 => ?_)
      · have hf := q_ite_t c2 hf
        refine lv_lload hx hb dX2_digestAbsence_84 (lv_at hl 2 rfl) ?_
        have ho := q_some hf
        subst ho
        refine W.widen (k := 0) (n := 0) (Nat.le_of_ble_eq_true rfl) (Nat.le_of_ble_eq_true rfl) ?_
        exact W.lret hx hb hr (fun t ht hW => ⟨rfl, ht⟩) t_nil dX2_digestAbsence_86
      · have hf := q_ite_f c2 hf
        refine lv_ldc2 (v := 31) hx hb hown (hts (.constantLong RX2 201 (31)) (List.mem_of_getElem? (i := 1) rfl)) dX2_digestAbsence_54 ?_
        refine lv_lload hx hb dX2_digestAbsence_57 (lv_at hl 2 rfl) ?_
        refine lv_lmul hx hb dX2_digestAbsence_59 ?_
        refine lv_aload_n hx hb dX2_digestAbsence_60 rfl (lv_at hl 0 rfl) ?_
        refine va_get (D := D) (ci := 2) (v := .ref (A 0 0)) (C := RX2) (T := TX2) (N := 5) hx hb hu2 (fun _ h => h) hown hE.1 hP 0 rfl rfl 0 (Nat.le_of_ble_eq_true rfl) (hts (.fieldLink RX2 12 "CoverMeter" "now" "LCoverMeter$State;") (List.mem_of_getElem? (i := 2) rfl)) (fun _ h9 => h9) rfl dX2_digestAbsence_61 ?_
        refine va_get (D := D) (ci := 1) (v := .ref (A 0 12)) (C := RX1) (T := TX1) (N := 15) hx hb hu1 (fun _ h => h) hown hE.1 hP 1 rfl rfl 14 (Nat.le_of_ble_eq_true rfl) (hts (.fieldLink RX2 99 "CoverMeter$State" "bids" "[I") (List.mem_of_getElem? (i := 4) rfl)) (fun _ h9 => h9) rfl dX2_digestAbsence_64 ?_
        refine lv_iload hx hb dX2_digestAbsence_67 (lv_at hl 3 rfl) ?_
        refine lv_iload_n hx hb dX2_digestAbsence_69 rfl (lv_at hl 1 rfl) ?_
        obtain ⟨r3, hr3, hf⟩ := q_bd_go hf
        refine q_rdSi (As := [.int l6, .int l3]) (rest := [.ref (A 0 12), .long (31 * l4)]) hx hb hml hown hts (c_X2_bidIndex l D cI cJ cS l6 l3 _ hr3) (va_cwS 2 hts gX2_digestAbsence_X2_bidIndex rfl rfl rfl (by decide +kernel) ⟨(Nat.le_of_ble_eq_true rfl), (Nat.le_of_ble_eq_true rfl)⟩) hE rfl hl.1 rfl (Nat.le_of_ble_eq_true rfl) dX2_digestAbsence_70 ⟨(Nat.le_of_ble_eq_true rfl), (Nat.le_of_ble_eq_true rfl)⟩ ?_
        have hi4 := q_gd_in hf
        have hf := q_gd_go hf
        refine va_iald hx hb hE.1 hP 13 0 rfl rfl hi4 dX2_digestAbsence_73 ?_
        refine lv_i2l (v := (((ST_bids (CM_now S) (r3 : Int32).toNatClampNeg) : Int32).toInt64)) hx hb dX2_digestAbsence_74 rfl ?_
        refine lv_ladd hx hb dX2_digestAbsence_75 ?_
        obtain ⟨v5, ev5, hf⟩ := q_let_go hf
        refine q_nml ev5 ?_
        refine lv_lstore (lv' := [(4, .long v5), (0, .ref (A 3 0)), (3, .int l3), (6, .int l6)]) hx hb dX2_digestAbsence_76 hl (by decide) rfl (fun ls hl => ?_)
        obtain ⟨v6, ev6, hf⟩ := q_let_go hf
        refine lv_iinc (v := v6) (lv' := [(6, .int v6), (4, .long v5), (0, .ref (A 3 0)), (3, .int l3)]) hx hb dX2_digestAbsence_78 hl (k := 3) rfl (by rw [← ev6]; rfl) (by decide) rfl (fun ls hl => ?_)
        refine lv_goto (tgt := 42) hx hb dX2_digestAbsence_81 (by decide) ?_
        exact ih l3 v5 v6 _ (lv_sub hl [2, 3, 1, 0] rfl) hf
  have L_6 : ∀ (n : Nat) (l3 : Int32) (l4 : Int64) (l6 : Int32) (ls : Array Slot), lv_has ls 7 [(0, .ref (A 3 0)), (3, .int l3), (4, .long l4), (6, .int l6)] → f_X2_digestAbsence_6 S n l3 l4 l6 = some o → W p l e (headSpec wsX2_digestAbsence rX2_digestAbsence).room s m (([.ref (A 3 0), .long p1, .int p2] : List Value).toArray) below meth c s.heap [] 0 0 (MQ below (q_Rl o) (([.ref (A 3 0), .long p1, .int p2] : List Value).toArray) s 0 0 (fun _ => False)) (F0 m 6 ls []) := by
    intro n
    induction n with
    | zero => intro l3 l4 l6 ls hl hf; cases hf
    | succ n ih =>
      intro l3 l4 l6 ls hl hf
      rw [f_X2_digestAbsence_6] at hf
      refine lv_iload hx hb dX2_digestAbsence_6 (lv_at hl 3 rfl) ?_
      refine lv_bipush (v := 7) hx hb dX2_digestAbsence_8 (by decide) ?_
      refine lv_icmp_ge (tgt := 39) hx hb dX2_digestAbsence_10 (by decide) (fun c1 => ?_) (fun c1 => ?_)
      · have hf := q_ite_t c1 hf
        refine lv_iconst (v := 0) hx hb dX2_digestAbsence_39 (by decide) ?_
        refine lv_istore (lv' := [(6, .int 0), (0, .ref (A 3 0)), (3, .int l3), (4, .long l4)]) hx hb dX2_digestAbsence_40 hl (by decide) rfl (fun ls hl => ?_)
        exact L_42 2000 l3 l4 0 _ (lv_sub hl [1, 2, 3, 0] rfl) hf
      · have hf := q_ite_f c1 hf
        refine lv_ldc2 (v := 31) hx hb hown (hts (.constantLong RX2 201 (31)) (List.mem_of_getElem? (i := 1) rfl)) dX2_digestAbsence_13 ?_
        refine lv_lload hx hb dX2_digestAbsence_16 (lv_at hl 2 rfl) ?_
        refine lv_lmul hx hb dX2_digestAbsence_18 ?_
        refine lv_aload_n hx hb dX2_digestAbsence_19 rfl (lv_at hl 0 rfl) ?_
        refine va_get (D := D) (ci := 2) (v := .ref (A 0 0)) (C := RX2) (T := TX2) (N := 5) hx hb hu2 (fun _ h => h) hown hE.1 hP 0 rfl rfl 0 (Nat.le_of_ble_eq_true rfl) (hts (.fieldLink RX2 12 "CoverMeter" "now" "LCoverMeter$State;") (List.mem_of_getElem? (i := 2) rfl)) (fun _ h9 => h9) rfl dX2_digestAbsence_20 ?_
        refine lv_iload_n hx hb dX2_digestAbsence_23 rfl (lv_at hl 1 rfl) ?_
        refine lv_iload hx hb dX2_digestAbsence_24 (lv_at hl 3 rfl) ?_
        obtain ⟨r7, hr7, hf⟩ := q_bd_go hf
        refine q_rdVi (w := (wST cI cJ (A 0) (CM_now S))) (ci := 1) (As := [.int l3, .int l6]) (rest := [.long (31 * l4)]) hx hb hml hown hts (c_X1_aboutAbsence l D cI cJ cS (A 0) (CM_now S) l3 l6 _ hr7) (cwV 2 hts gX2_digestAbsence_X1_aboutAbsence rfl rfl rfl (by decide +kernel) ⟨(Nat.le_of_ble_eq_true rfl), (Nat.le_of_ble_eq_true rfl)⟩) hE (qr_now hP) rfl rfl rfl hl.1 rfl (Nat.le_of_ble_eq_true rfl) dX2_digestAbsence_26 ⟨(Nat.le_of_ble_eq_true rfl), (Nat.le_of_ble_eq_true rfl)⟩ ?_
        refine lv_i2l (v := ((r7 : Int32).toInt64)) hx hb dX2_digestAbsence_29 rfl ?_
        refine lv_ladd hx hb dX2_digestAbsence_30 ?_
        obtain ⟨v8, ev8, hf⟩ := q_let_go hf
        refine q_nml ev8 ?_
        refine lv_lstore (lv' := [(4, .long v8), (0, .ref (A 3 0)), (3, .int l3), (6, .int l6)]) hx hb dX2_digestAbsence_31 hl (by decide) rfl (fun ls hl => ?_)
        obtain ⟨v9, ev9, hf⟩ := q_let_go hf
        refine lv_iinc (v := v9) (lv' := [(6, .int v9), (4, .long v8), (0, .ref (A 3 0)), (3, .int l3)]) hx hb dX2_digestAbsence_33 hl (k := 3) rfl (by rw [← ev9]; rfl) (by decide) rfl (fun ls hl => ?_)
        refine lv_goto (tgt := 6) hx hb dX2_digestAbsence_36 (by decide) ?_
        exact ih l3 v8 v9 _ (lv_sub hl [2, 3, 1, 0] rfl) hf
  have hl := lv_entry ([.ref (A 3 0), .long p1, .int p2]) (n := 7) (Nat.le_of_ble_eq_true rfl)
  rw [lg_entry_eq]
  generalize (lg_sl ([.ref (A 3 0), .long p1, .int p2]) ++ List.replicate (7 - (lg_sl ([.ref (A 3 0), .long p1, .int p2])).length) Slot.unset).toArray = ls at hl ⊢
  have hl : lv_has ls 7 [(0, .ref (A 3 0)), (1, .long p1), (3, .int p2)] := hl
  unfold f_X2_digestAbsence at hf
  refine lv_lload_n hx hb dX2_digestAbsence_0 rfl (lv_at hl 1 rfl) ?_
  refine lv_lstore (lv' := [(4, .long p1), (0, .ref (A 3 0)), (1, .long p1), (3, .int p2)]) hx hb dX2_digestAbsence_1 hl (by decide) rfl (fun ls hl => ?_)
  refine lv_iconst (v := 0) hx hb dX2_digestAbsence_3 (by decide) ?_
  refine lv_istore (lv' := [(6, .int 0), (4, .long p1), (0, .ref (A 3 0)), (1, .long p1), (3, .int p2)]) hx hb dX2_digestAbsence_4 hl (by decide) rfl (fun ls hl => ?_)
  exact L_6 2000 p2 p1 0 _ (lv_sub hl [2, 4, 1, 0] rfl) hf
