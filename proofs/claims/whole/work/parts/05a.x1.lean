def f_X2_bidIndex (p1 : Int32) (p2 : Int32) : Option Int32 := some ((p2 * 8) + p1)
abbrev rX2_bidIndex : Room := { frames := 0, cells := 0, slots := 0, locals := 0 }
set_option maxRecDepth 100000 in
set_option maxHeartbeats 4000000 in
theorem c_X2_bidIndex (l : Launch) (D : va_G) (cI cJ cS : ClassId) (p1 : Int32) (p2 : Int32) (o : Int32) (hf : f_X2_bidIndex p1 p2 = some o) : Met l yX2_bidIndex wsX2_bidIndex rX2_bidIndex (va_Pc [.int p1, .int p2] (q_B D cI cJ cS [])) (q_Ri o) 0 0 (fun _ => False) := by
  refine Met.ofW (cc := cX2_bidIndex) (maxL := 2) (ret := some .int) (by decide) rfl ?_
  intro p e s m args below meth c s₁ B hml hv
  obtain ⟨rfl, hP, hE⟩ := hv
  have hx := B.exec
  have hb := B.bytes
  have hr := B.returns
  have hts := atoms_spec (ws := wsX2_bidIndex) B.pre
  have hown : s.vm.findClass RX2 = some m.cls := findClass_of_methodNamed B.named
  have hlocks := B.notSynchronized
  have hl := lv_entry ([.int p1, .int p2]) (n := 2) (Nat.le_of_ble_eq_true rfl)
  rw [lg_entry_eq]
  generalize (lg_sl ([.int p1, .int p2]) ++ List.replicate (2 - (lg_sl ([.int p1, .int p2])).length) Slot.unset).toArray = ls at hl ⊢
  have hl : lv_has ls 2 [(0, .int p1), (1, .int p2)] := hl
  unfold f_X2_bidIndex at hf
  refine lv_iload_n hx hb dX2_bidIndex_0 rfl (lv_at hl 1 rfl) ?_
  refine lv_bipush (v := 8) hx hb dX2_bidIndex_1 (by decide) ?_
  refine lv_imul hx hb dX2_bidIndex_3 ?_
  refine lv_iload_n hx hb dX2_bidIndex_4 rfl (lv_at hl 0 rfl) ?_
  refine lv_iadd hx hb dX2_bidIndex_5 ?_
  have ho := q_some hf
  subst ho
  exact W.iret hx hb hr (fun t ht hW => ⟨rfl, ht⟩) t_nil dX2_bidIndex_6
def f_J13_bitCount_95d88 (p1 : Int64) : Option Int32 := q_let ((p1 - ((((p1 : Int64).toUInt64 >>> ((1 : Int32).toInt64.toUInt64 &&& Int64.toUInt64 63)).toInt64) &&& 6148914691236517205))) fun v1 =>
 q_let (((v1 &&& 3689348814741910323) + ((((v1 : Int64).toUInt64 >>> ((2 : Int32).toInt64.toUInt64 &&& Int64.toUInt64 63)).toInt64) &&& 3689348814741910323))) fun v2 =>
 q_let (((v2 + (((v2 : Int64).toUInt64 >>> ((4 : Int32).toInt64.toUInt64 &&& Int64.toUInt64 63)).toInt64)) &&& 1085102592571150095)) fun v3 =>
 q_let ((v3 + (((v3 : Int64).toUInt64 >>> ((8 : Int32).toInt64.toUInt64 &&& Int64.toUInt64 63)).toInt64))) fun v4 =>
 q_let ((v4 + (((v4 : Int64).toUInt64 >>> ((16 : Int32).toInt64.toUInt64 &&& Int64.toUInt64 63)).toInt64))) fun v5 =>
 q_let ((v5 + (((v5 : Int64).toUInt64 >>> ((32 : Int32).toInt64.toUInt64 &&& Int64.toUInt64 63)).toInt64))) fun v6 =>
 some (((v6 : Int64).toInt32) &&& 127)
abbrev rJ13_bitCount_95d88 : Room := { frames := 0, cells := 0, slots := 0, locals := 0 }
set_option maxRecDepth 100000 in
set_option maxHeartbeats 4000000 in
theorem c_J13_bitCount_95d88 (l : Launch) (D : va_G) (cI cJ cS : ClassId) (p1 : Int64) (o : Int32) (hf : f_J13_bitCount_95d88 p1 = some o) : Met l yJ13_bitCount_95d88 wsJ13_bitCount_95d88 rJ13_bitCount_95d88 (va_Pc [.long p1] (q_B D cI cJ cS [])) (q_Ri o) 0 0 (fun _ => False) := by
  refine Met.ofW (cc := cJ13_bitCount_95d88) (maxL := 2) (ret := some .int) (by decide) rfl ?_
  intro p e s m args below meth c s₁ B hml hv
  obtain ⟨rfl, hP, hE⟩ := hv
  have hx := B.exec
  have hb := B.bytes
  have hr := B.returns
  have hts := atoms_spec (ws := wsJ13_bitCount_95d88) B.pre
  have hown : s.vm.findClass RJ13 = some m.cls := findClass_of_methodNamed B.named
  have hlocks := B.notSynchronized
  have hl := lv_entry ([.long p1]) (n := 2) (Nat.le_of_ble_eq_true rfl)
  rw [lg_entry_eq]
  generalize (lg_sl ([.long p1]) ++ List.replicate (2 - (lg_sl ([.long p1])).length) Slot.unset).toArray = ls at hl ⊢
  have hl : lv_has ls 2 [(0, .long p1)] := hl
  unfold f_J13_bitCount_95d88 at hf
  refine lv_lload_n hx hb dJ13_bitCount_95d88_0 rfl (lv_at hl 0 rfl) ?_
  refine lv_lload_n hx hb dJ13_bitCount_95d88_1 rfl (lv_at hl 0 rfl) ?_
  refine lv_iconst (v := 1) hx hb dJ13_bitCount_95d88_2 (by decide) ?_
  refine lv_lushr (v := (((p1 : Int64).toUInt64 >>> ((1 : Int32).toInt64.toUInt64 &&& Int64.toUInt64 63)).toInt64)) hx hb dJ13_bitCount_95d88_3 rfl ?_
  refine lv_ldc2 (v := 6148914691236517205) hx hb hown (hts (.constantLong RJ13 314 (6148914691236517205)) (List.mem_of_getElem? (i := 1) rfl)) dJ13_bitCount_95d88_4 ?_
  refine lv_land hx hb dJ13_bitCount_95d88_7 ?_
  refine lv_lsub hx hb dJ13_bitCount_95d88_8 ?_
  obtain ⟨v1, ev1, hf⟩ := q_let_go hf
  refine q_nml ev1 ?_
  refine lv_lstore_n (lv' := [(0, .long v1)]) hx hb dJ13_bitCount_95d88_9 rfl hl (by decide) rfl (fun ls hl => ?_)
  refine lv_lload_n hx hb dJ13_bitCount_95d88_10 rfl (lv_at hl 0 rfl) ?_
  refine lv_ldc2 (v := 3689348814741910323) hx hb hown (hts (.constantLong RJ13 316 (3689348814741910323)) (List.mem_of_getElem? (i := 2) rfl)) dJ13_bitCount_95d88_11 ?_
  refine lv_land hx hb dJ13_bitCount_95d88_14 ?_
  refine lv_lload_n hx hb dJ13_bitCount_95d88_15 rfl (lv_at hl 0 rfl) ?_
  refine lv_iconst (v := 2) hx hb dJ13_bitCount_95d88_16 (by decide) ?_
  refine lv_lushr (v := (((v1 : Int64).toUInt64 >>> ((2 : Int32).toInt64.toUInt64 &&& Int64.toUInt64 63)).toInt64)) hx hb dJ13_bitCount_95d88_17 rfl ?_
  refine lv_ldc2 (v := 3689348814741910323) hx hb hown (hts (.constantLong RJ13 316 (3689348814741910323)) (List.mem_of_getElem? (i := 2) rfl)) dJ13_bitCount_95d88_18 ?_
  refine lv_land hx hb dJ13_bitCount_95d88_21 ?_
  refine lv_ladd hx hb dJ13_bitCount_95d88_22 ?_
  obtain ⟨v2, ev2, hf⟩ := q_let_go hf
  refine q_nml ev2 ?_
  refine lv_lstore_n (lv' := [(0, .long v2)]) hx hb dJ13_bitCount_95d88_23 rfl hl (by decide) rfl (fun ls hl => ?_)
  refine lv_lload_n hx hb dJ13_bitCount_95d88_24 rfl (lv_at hl 0 rfl) ?_
  refine lv_lload_n hx hb dJ13_bitCount_95d88_25 rfl (lv_at hl 0 rfl) ?_
  refine lv_iconst (v := 4) hx hb dJ13_bitCount_95d88_26 (by decide) ?_
  refine lv_lushr (v := (((v2 : Int64).toUInt64 >>> ((4 : Int32).toInt64.toUInt64 &&& Int64.toUInt64 63)).toInt64)) hx hb dJ13_bitCount_95d88_27 rfl ?_
  refine lv_ladd hx hb dJ13_bitCount_95d88_28 ?_
  refine lv_ldc2 (v := 1085102592571150095) hx hb hown (hts (.constantLong RJ13 318 (1085102592571150095)) (List.mem_of_getElem? (i := 3) rfl)) dJ13_bitCount_95d88_29 ?_
  refine lv_land hx hb dJ13_bitCount_95d88_32 ?_
  obtain ⟨v3, ev3, hf⟩ := q_let_go hf
  refine q_nml ev3 ?_
  refine lv_lstore_n (lv' := [(0, .long v3)]) hx hb dJ13_bitCount_95d88_33 rfl hl (by decide) rfl (fun ls hl => ?_)
  refine lv_lload_n hx hb dJ13_bitCount_95d88_34 rfl (lv_at hl 0 rfl) ?_
  refine lv_lload_n hx hb dJ13_bitCount_95d88_35 rfl (lv_at hl 0 rfl) ?_
  refine lv_bipush (v := 8) hx hb dJ13_bitCount_95d88_36 (by decide) ?_
  refine lv_lushr (v := (((v3 : Int64).toUInt64 >>> ((8 : Int32).toInt64.toUInt64 &&& Int64.toUInt64 63)).toInt64)) hx hb dJ13_bitCount_95d88_38 rfl ?_
  refine lv_ladd hx hb dJ13_bitCount_95d88_39 ?_
  obtain ⟨v4, ev4, hf⟩ := q_let_go hf
  refine q_nml ev4 ?_
  refine lv_lstore_n (lv' := [(0, .long v4)]) hx hb dJ13_bitCount_95d88_40 rfl hl (by decide) rfl (fun ls hl => ?_)
  refine lv_lload_n hx hb dJ13_bitCount_95d88_41 rfl (lv_at hl 0 rfl) ?_
  refine lv_lload_n hx hb dJ13_bitCount_95d88_42 rfl (lv_at hl 0 rfl) ?_
  refine lv_bipush (v := 16) hx hb dJ13_bitCount_95d88_43 (by decide) ?_
  refine lv_lushr (v := (((v4 : Int64).toUInt64 >>> ((16 : Int32).toInt64.toUInt64 &&& Int64.toUInt64 63)).toInt64)) hx hb dJ13_bitCount_95d88_45 rfl ?_
  refine lv_ladd hx hb dJ13_bitCount_95d88_46 ?_
  obtain ⟨v5, ev5, hf⟩ := q_let_go hf
  refine q_nml ev5 ?_
  refine lv_lstore_n (lv' := [(0, .long v5)]) hx hb dJ13_bitCount_95d88_47 rfl hl (by decide) rfl (fun ls hl => ?_)
  refine lv_lload_n hx hb dJ13_bitCount_95d88_48 rfl (lv_at hl 0 rfl) ?_
  refine lv_lload_n hx hb dJ13_bitCount_95d88_49 rfl (lv_at hl 0 rfl) ?_
  refine lv_bipush (v := 32) hx hb dJ13_bitCount_95d88_50 (by decide) ?_
  refine lv_lushr (v := (((v5 : Int64).toUInt64 >>> ((32 : Int32).toInt64.toUInt64 &&& Int64.toUInt64 63)).toInt64)) hx hb dJ13_bitCount_95d88_52 rfl ?_
  refine lv_ladd hx hb dJ13_bitCount_95d88_53 ?_
  obtain ⟨v6, ev6, hf⟩ := q_let_go hf
  refine q_nml ev6 ?_
  refine lv_lstore_n (lv' := [(0, .long v6)]) hx hb dJ13_bitCount_95d88_54 rfl hl (by decide) rfl (fun ls hl => ?_)
  refine lv_lload_n hx hb dJ13_bitCount_95d88_55 rfl (lv_at hl 0 rfl) ?_
  refine lv_l2i (v := ((v6 : Int64).toInt32)) hx hb dJ13_bitCount_95d88_56 rfl ?_
  refine lv_bipush (v := 127) hx hb dJ13_bitCount_95d88_57 (by decide) ?_
  refine lv_iand hx hb dJ13_bitCount_95d88_59 ?_
  have ho := q_some hf
  subst ho
  exact W.iret hx hb hr (fun t ht hW => ⟨rfl, ht⟩) t_nil dJ13_bitCount_95d88_60
def f_X0_start (S : OR) : Option OR := q_let (sOR_at S 0) fun S1 =>
 q_let (sOR_error S1 (-1)) fun S2 =>
 some S2
abbrev rX0_start : Room := { frames := 0, cells := 0, slots := 0, locals := 0 }
set_option maxRecDepth 100000 in
set_option maxHeartbeats 4000000 in
theorem c_X0_start (l : Launch) (D : va_G) (cI cJ cS : ClassId) (a : Nat → Nat) (S : OR) (sz : Nat) (o : OR) (hf : f_X0_start S = some o) : Met l yX0_start wsX0_start rX0_start (va_Pc [.ref (a 0)] (q_BW D cI cJ cS (wOR cI cJ a S) sz)) (q_Wo none D (wOR cI cJ a S) (wOR cI cJ a o) sz) 0 0 (va_A (wOR cI cJ a S) sz) := by
  refine Met.ofW (cc := cX0_start) (maxL := 1) (ret := none) (by decide) rfl ?_
  intro p e s m args below meth c s₁ B hml hv
  obtain ⟨rfl, hsz, hP, hE, hD0⟩ := hv
  have hx := B.exec
  have hb := B.bytes
  have hr := B.returns
  have hts := atoms_spec (ws := wsX0_start) B.pre
  have hown : s.vm.findClass RX0 = some m.cls := findClass_of_methodNamed B.named
  have hlocks := B.notSynchronized
  have hu : ∀ z ∈ wsX00, z.before _ s = true := fun z h => hts z (List.mem_cons_of_mem _ (List.mem_append_right _ h))
  subst hsz
  have hD := hD0.self (sz := s.heap.size)
  have hS : va_S (va_A (wOR cI cJ a S) s.heap.size) s.heap s.heap [] := va_S.rf
  have hl := lv_entry ([.ref (a 0)]) (n := 1) (Nat.le_of_ble_eq_true rfl)
  rw [lg_entry_eq]
  generalize (lg_sl ([.ref (a 0)]) ++ List.replicate (1 - (lg_sl ([.ref (a 0)])).length) Slot.unset).toArray = ls at hl ⊢
  have hl : lv_has ls 1 [(0, .ref (a 0))] := hl
  unfold f_X0_start at hf
  refine lv_aload_n hx hb dX0_start_0 rfl (lv_at hl 0 rfl) ?_
  refine lv_iconst (v := 0) hx hb dX0_start_1 (by decide) ?_
  obtain ⟨S1, eS1, hf⟩ := q_let_go hf
  refine va_put (D := D) (ci := 0) (v := .int 0) (ty := .int) (C := RX0) (T := TX0) (N := 8) hx hb hu (fun _ h => h) tyX0 tyX0_ok nmX0 hown hE.1 hP hD hS 0 rfl rfl 2 (Nat.le_of_ble_eq_true rfl) (hts (.fieldLink RX0 15 "CoverMeter$Orders" "at" "I") (List.mem_of_getElem? (i := 1) rfl)) (fun _ h9 => h9) rfl (by decide +kernel) rfl rfl (Nat.le_of_ble_eq_true rfl) dX0_start_2 (fun H locs hP hD hS => ?_)
  have hP : va_P D vwCl (wOR cI cJ a (sOR_at S 0)) H := hP
  have hD : va_D (va_A (wOR cI cJ a S) s.heap.size) (wOR cI cJ a (sOR_at S 0)) := hD
  rw [eS1] at hP hD
  refine lv_aload_n hx hb dX0_start_5 rfl (lv_at hl 0 rfl) ?_
  refine lv_iconst (v := (-1)) hx hb dX0_start_6 (by decide) ?_
  obtain ⟨S2, eS2, hf⟩ := q_let_go hf
  refine va_put (D := D) (ci := 0) (v := .int (-1)) (ty := .int) (C := RX0) (T := TX0) (N := 8) hx hb hu (fun _ h => h) tyX0 tyX0_ok nmX0 hown hE.1 hP hD hS 0 rfl rfl 3 (Nat.le_of_ble_eq_true rfl) (hts (.fieldLink RX0 19 "CoverMeter$Orders" "error" "I") (List.mem_of_getElem? (i := 2) rfl)) (fun _ h9 => h9) rfl (by decide +kernel) rfl rfl (Nat.le_of_ble_eq_true rfl) dX0_start_7 (fun H locs hP hD hS => ?_)
  have hP : va_P D vwCl (wOR cI cJ a (sOR_error S1 (-1))) H := hP
  have hD : va_D (va_A (wOR cI cJ a S) s.heap.size) (wOR cI cJ a (sOR_error S1 (-1))) := hD
  rw [eS2] at hP hD
  have ho := q_some hf
  subst ho
  exact W.vret hx hb hr (fun t ht hW => ⟨rfl, ⟨by rw [ht]; exact hP, hD⟩, hS.F ht⟩) hS.2.2 dX0_start_10
def f_X0_hasMore (S : OR) : Option Int32 := if (OR_length S) ≤ (OR_at S) then
 (some 0)
 else (some 1)
abbrev rX0_hasMore : Room := { frames := 0, cells := 0, slots := 0, locals := 0 }
set_option maxRecDepth 100000 in
set_option maxHeartbeats 4000000 in
theorem c_X0_hasMore (l : Launch) (D : va_G) (cI cJ cS : ClassId) (a : Nat → Nat) (S : OR) (o : Int32) (hf : f_X0_hasMore S = some o) : Met l yX0_hasMore wsX0_hasMore rX0_hasMore (va_Pc [.ref (a 0)] (q_B D cI cJ cS (wOR cI cJ a S))) (q_Ri o) 0 0 (fun _ => False) := by
  refine Met.ofW (cc := cX0_hasMore) (maxL := 1) (ret := some .boolean) (by decide) rfl ?_
  intro p e s m args below meth c s₁ B hml hv
  obtain ⟨rfl, hP, hE⟩ := hv
  have hx := B.exec
  have hb := B.bytes
  have hr := B.returns
  have hts := atoms_spec (ws := wsX0_hasMore) B.pre
  have hown : s.vm.findClass RX0 = some m.cls := findClass_of_methodNamed B.named
  have hlocks := B.notSynchronized
  have hu : ∀ z ∈ wsX00, z.before _ s = true := fun z h => hts z (List.mem_cons_of_mem _ (List.mem_append_right _ h))
  have hl := lv_entry ([.ref (a 0)]) (n := 1) (Nat.le_of_ble_eq_true rfl)
  rw [lg_entry_eq]
  generalize (lg_sl ([.ref (a 0)]) ++ List.replicate (1 - (lg_sl ([.ref (a 0)])).length) Slot.unset).toArray = ls at hl ⊢
  have hl : lv_has ls 1 [(0, .ref (a 0))] := hl
  unfold f_X0_hasMore at hf
  refine lv_aload_n hx hb dX0_hasMore_0 rfl (lv_at hl 0 rfl) ?_
  refine va_get (D := D) (ci := 0) (v := .int (OR_at S)) (C := RX0) (T := TX0) (N := 8) hx hb hu (fun _ h => h) hown hE.1 hP 0 rfl rfl 2 (Nat.le_of_ble_eq_true rfl) (hts (.fieldLink RX0 15 "CoverMeter$Orders" "at" "I") (List.mem_of_getElem? (i := 1) rfl)) (fun _ h9 => h9) rfl dX0_hasMore_1 ?_
  refine lv_aload_n hx hb dX0_hasMore_4 rfl (lv_at hl 0 rfl) ?_
  refine va_get (D := D) (ci := 0) (v := .int (OR_length S)) (C := RX0) (T := TX0) (N := 8) hx hb hu (fun _ h => h) hown hE.1 hP 0 rfl rfl 1 (Nat.le_of_ble_eq_true rfl) (hts (.fieldLink RX0 22 "CoverMeter$Orders" "length" "I") (List.mem_of_getElem? (i := 2) rfl)) (fun _ h9 => h9) rfl dX0_hasMore_5 ?_
  refine lv_icmp_ge (tgt := 15) hx hb dX0_hasMore_8 (by decide) (fun c1 => ?_) (fun c1 => ?_)
  · have hf := q_ite_t c1 hf
    refine lv_iconst (v := 0) hx hb dX0_hasMore_15 (by decide) ?_
    have ho := q_some hf
    subst ho
    exact W.zret hx hb hr rfl (fun t ht hW => ⟨rfl, ht⟩) t_nil dX0_hasMore_16
  · have hf := q_ite_f c1 hf
    refine lv_iconst (v := 1) hx hb dX0_hasMore_11 (by decide) ?_
    refine lv_goto (tgt := 16) hx hb dX0_hasMore_12 (by decide) ?_
    have ho := q_some hf
    subst ho
    exact W.zret hx hb hr rfl (fun t ht hW => ⟨rfl, ht⟩) t_nil dX0_hasMore_16
def f_X0_signAt (S : OR) (p1 : Int32) : Option Int32 := if p1 < 0 then
 (some (-1))
 else (if (OR_length S) ≤ p1 then
 (some (-1))
 else (if q_in p1 100 = true then
 (some (OR_text S (p1 : Int32).toNatClampNeg)) else none))
abbrev rX0_signAt : Room := { frames := 0, cells := 0, slots := 0, locals := 0 }
set_option maxRecDepth 100000 in
set_option maxHeartbeats 4000000 in
theorem c_X0_signAt (l : Launch) (D : va_G) (cI cJ cS : ClassId) (a : Nat → Nat) (S : OR) (p1 : Int32) (o : Int32) (hf : f_X0_signAt S p1 = some o) : Met l yX0_signAt wsX0_signAt rX0_signAt (va_Pc [.ref (a 0), .int p1] (q_B D cI cJ cS (wOR cI cJ a S))) (q_Ri o) 0 0 (fun _ => False) := by
  refine Met.ofW (cc := cX0_signAt) (maxL := 2) (ret := some .int) (by decide) rfl ?_
  intro p e s m args below meth c s₁ B hml hv
  obtain ⟨rfl, hP, hE⟩ := hv
  have hx := B.exec
  have hb := B.bytes
  have hr := B.returns
  have hts := atoms_spec (ws := wsX0_signAt) B.pre
  have hown : s.vm.findClass RX0 = some m.cls := findClass_of_methodNamed B.named
  have hlocks := B.notSynchronized
  have hu : ∀ z ∈ wsX00, z.before _ s = true := fun z h => hts z (List.mem_cons_of_mem _ (List.mem_append_right _ h))
  have hl := lv_entry ([.ref (a 0), .int p1]) (n := 2) (Nat.le_of_ble_eq_true rfl)
  rw [lg_entry_eq]
  generalize (lg_sl ([.ref (a 0), .int p1]) ++ List.replicate (2 - (lg_sl ([.ref (a 0), .int p1])).length) Slot.unset).toArray = ls at hl ⊢
  have hl : lv_has ls 2 [(0, .ref (a 0)), (1, .int p1)] := hl
  unfold f_X0_signAt at hf
  refine lv_iload_n hx hb dX0_signAt_0 rfl (lv_at hl 1 rfl) ?_
  refine lv_if_lt (tgt := 21) hx hb dX0_signAt_1 (by decide) (fun c1 => ?_) (fun c1 => ?_)
  · have hf := q_ite_t c1 hf
    refine lv_iconst (v := (-1)) hx hb dX0_signAt_21 (by decide) ?_
    have ho := q_some hf
    subst ho
    exact W.iret hx hb hr (fun t ht hW => ⟨rfl, ht⟩) t_nil dX0_signAt_22
  · have hf := q_ite_f c1 hf
    refine lv_iload_n hx hb dX0_signAt_4 rfl (lv_at hl 1 rfl) ?_
    refine lv_aload_n hx hb dX0_signAt_5 rfl (lv_at hl 0 rfl) ?_
    refine va_get (D := D) (ci := 0) (v := .int (OR_length S)) (C := RX0) (T := TX0) (N := 8) hx hb hu (fun _ h => h) hown hE.1 hP 0 rfl rfl 1 (Nat.le_of_ble_eq_true rfl) (hts (.fieldLink RX0 22 "CoverMeter$Orders" "length" "I") (List.mem_of_getElem? (i := 1) rfl)) (fun _ h9 => h9) rfl dX0_signAt_6 ?_
    refine lv_icmp_ge (tgt := 21) hx hb dX0_signAt_9 (by decide) (fun c2 => ?_) (fun c2 => ?_)
    · have hf := q_ite_t c2 hf
      refine lv_iconst (v := (-1)) hx hb dX0_signAt_21 (by decide) ?_
      have ho := q_some hf
      subst ho
      exact W.iret hx hb hr (fun t ht hW => ⟨rfl, ht⟩) t_nil dX0_signAt_22
    · have hf := q_ite_f c2 hf
      refine lv_aload_n hx hb dX0_signAt_12 rfl (lv_at hl 0 rfl) ?_
      refine va_get (D := D) (ci := 0) (v := .ref (a 1)) (C := RX0) (T := TX0) (N := 8) hx hb hu (fun _ h => h) hown hE.1 hP 0 rfl rfl 0 (Nat.le_of_ble_eq_true rfl) (hts (.fieldLink RX0 9 "CoverMeter$Orders" "text" "[I") (List.mem_of_getElem? (i := 2) rfl)) (fun _ h9 => h9) rfl dX0_signAt_13 ?_
      refine lv_iload_n hx hb dX0_signAt_16 rfl (lv_at hl 1 rfl) ?_
      have hi3 := q_gd_in hf
      have hf := q_gd_go hf
      refine va_iald hx hb hE.1 hP 1 0 rfl rfl hi3 dX0_signAt_17 ?_
      refine lv_goto (tgt := 22) hx hb dX0_signAt_18 (by decide) ?_
      have ho := q_some hf
      subst ho
      exact W.iret hx hb hr (fun t ht hW => ⟨rfl, ht⟩) t_nil dX0_signAt_22
def f_X0_fail (S : OR) (p1 : Int32) : Option OR := if ¬ (OR_error S) = (-1) then
 (some S)
 else (q_let (sOR_error S p1) fun S2 =>
 some S2)
abbrev rX0_fail : Room := { frames := 0, cells := 0, slots := 0, locals := 0 }
set_option maxRecDepth 100000 in
set_option maxHeartbeats 4000000 in
theorem c_X0_fail (l : Launch) (D : va_G) (cI cJ cS : ClassId) (a : Nat → Nat) (S : OR) (sz : Nat) (p1 : Int32) (o : OR) (hf : f_X0_fail S p1 = some o) : Met l yX0_fail wsX0_fail rX0_fail (va_Pc [.ref (a 0), .int p1] (q_BW D cI cJ cS (wOR cI cJ a S) sz)) (q_Wo none D (wOR cI cJ a S) (wOR cI cJ a o) sz) 0 0 (va_A (wOR cI cJ a S) sz) := by
  refine Met.ofW (cc := cX0_fail) (maxL := 2) (ret := none) (by decide) rfl ?_
  intro p e s m args below meth c s₁ B hml hv
  obtain ⟨rfl, hsz, hP, hE, hD0⟩ := hv
  have hx := B.exec
  have hb := B.bytes
  have hr := B.returns
  have hts := atoms_spec (ws := wsX0_fail) B.pre
  have hown : s.vm.findClass RX0 = some m.cls := findClass_of_methodNamed B.named
  have hlocks := B.notSynchronized
  have hu : ∀ z ∈ wsX00, z.before _ s = true := fun z h => hts z (List.mem_cons_of_mem _ (List.mem_append_right _ h))
  subst hsz
  have hD := hD0.self (sz := s.heap.size)
  have hS : va_S (va_A (wOR cI cJ a S) s.heap.size) s.heap s.heap [] := va_S.rf
  have hl := lv_entry ([.ref (a 0), .int p1]) (n := 2) (Nat.le_of_ble_eq_true rfl)
  rw [lg_entry_eq]
  generalize (lg_sl ([.ref (a 0), .int p1]) ++ List.replicate (2 - (lg_sl ([.ref (a 0), .int p1])).length) Slot.unset).toArray = ls at hl ⊢
  have hl : lv_has ls 2 [(0, .ref (a 0)), (1, .int p1)] := hl
  unfold f_X0_fail at hf
  refine lv_aload_n hx hb dX0_fail_0 rfl (lv_at hl 0 rfl) ?_
  refine va_get (D := D) (ci := 0) (v := .int (OR_error S)) (C := RX0) (T := TX0) (N := 8) hx hb hu (fun _ h => h) hown hE.1 hP 0 rfl rfl 3 (Nat.le_of_ble_eq_true rfl) (hts (.fieldLink RX0 19 "CoverMeter$Orders" "error" "I") (List.mem_of_getElem? (i := 1) rfl)) (fun _ h9 => h9) rfl dX0_fail_1 ?_
  refine lv_iconst (v := (-1)) hx hb dX0_fail_4 (by decide) ?_
  refine lv_icmp_ne (tgt := 13) hx hb dX0_fail_5 (by decide) (fun c1 => ?_) (fun c1 => ?_)
  · have hf := q_ite_t c1 hf
    have ho := q_some hf
    subst ho
    exact W.vret hx hb hr (fun t ht hW => ⟨rfl, ⟨by rw [ht]; exact hP, hD⟩, hS.F ht⟩) hS.2.2 dX0_fail_13
  · have hf := q_ite_n c1 hf
    refine lv_aload_n hx hb dX0_fail_8 rfl (lv_at hl 0 rfl) ?_
    refine lv_iload_n hx hb dX0_fail_9 rfl (lv_at hl 1 rfl) ?_
    obtain ⟨S2, eS2, hf⟩ := q_let_go hf
    refine va_put (D := D) (ci := 0) (v := .int p1) (ty := .int) (C := RX0) (T := TX0) (N := 8) hx hb hu (fun _ h => h) tyX0 tyX0_ok nmX0 hown hE.1 hP hD hS 0 rfl rfl 3 (Nat.le_of_ble_eq_true rfl) (hts (.fieldLink RX0 19 "CoverMeter$Orders" "error" "I") (List.mem_of_getElem? (i := 1) rfl)) (fun _ h9 => h9) rfl (by decide +kernel) rfl rfl (Nat.le_of_ble_eq_true rfl) dX0_fail_10 (fun H locs hP hD hS => ?_)
    have hP : va_P D vwCl (wOR cI cJ a (sOR_error S p1)) H := hP
    have hD : va_D (va_A (wOR cI cJ a S) s.heap.size) (wOR cI cJ a (sOR_error S p1)) := hD
    rw [eS2] at hP hD
    have ho := q_some hf
    subst ho
    exact W.vret hx hb hr (fun t ht hW => ⟨rfl, ⟨by rw [ht]; exact hP, hD⟩, hS.F ht⟩) hS.2.2 dX0_fail_13
def f_X0_readPerson (S : OR) : Option (Int32 × OR) := (f_X0_signAt S (OR_at S)).bind fun r1 =>
 q_let ((r1 - 48)) fun v2 =>
 if v2 < 0 then
 ((f_X0_fail S (OR_at S)).bind fun r4 =>
 some (0, r4))
 else (if v2 < 8 then
 (q_let (sOR_at S ((OR_at S) + 1)) fun S6 =>
 some (v2, S6))
 else ((f_X0_fail S (OR_at S)).bind fun r7 =>
 some (0, r7)))
abbrev rX0_readPerson : Room := { frames := 1, cells := 0, slots := 0, locals := 21 }
set_option maxRecDepth 100000 in
set_option maxHeartbeats 4000000 in
theorem c_X0_readPerson (l : Launch) (D : va_G) (cI cJ cS : ClassId) (a : Nat → Nat) (S : OR) (sz : Nat) (o : (Int32 × OR)) (hf : f_X0_readPerson S = some o) : Met l yX0_readPerson wsX0_readPerson rX0_readPerson (va_Pc [.ref (a 0)] (q_BW D cI cJ cS (wOR cI cJ a S) sz)) (q_Wo (some (.int o.1)) D (wOR cI cJ a S) (wOR cI cJ a o.2) sz) 0 0 (va_A (wOR cI cJ a S) sz) := by
  refine Met.ofW (cc := cX0_readPerson) (maxL := 2) (ret := some .int) (by decide) rfl ?_
  intro p e s m args below meth c s₁ B hml hv
  obtain ⟨rfl, hsz, hP, hE, hD0⟩ := hv
  have hx := B.exec
  have hb := B.bytes
  have hr := B.returns
  have hts := atoms_spec (ws := wsX0_readPerson) B.pre
  have hown : s.vm.findClass RX0 = some m.cls := findClass_of_methodNamed B.named
  have hlocks := B.notSynchronized
  have hu : ∀ z ∈ wsX00, z.before _ s = true := fun z h => hts z (List.mem_cons_of_mem _ (List.mem_append_right _ h))
  subst hsz
  have hD := hD0.self (sz := s.heap.size)
  have hS : va_S (va_A (wOR cI cJ a S) s.heap.size) s.heap s.heap [] := va_S.rf
  have hl := lv_entry ([.ref (a 0)]) (n := 2) (Nat.le_of_ble_eq_true rfl)
  rw [lg_entry_eq]
  generalize (lg_sl ([.ref (a 0)]) ++ List.replicate (2 - (lg_sl ([.ref (a 0)])).length) Slot.unset).toArray = ls at hl ⊢
  have hl : lv_has ls 2 [(0, .ref (a 0))] := hl
  unfold f_X0_readPerson at hf
  refine lv_aload_n hx hb dX0_readPerson_0 rfl (lv_at hl 0 rfl) ?_
  refine lv_aload_n hx hb dX0_readPerson_1 rfl (lv_at hl 0 rfl) ?_
  refine va_get (D := D) (ci := 0) (v := .int (OR_at S)) (C := RX0) (T := TX0) (N := 8) hx hb hu (fun _ h => h) hown hE.1 hP 0 rfl rfl 2 (Nat.le_of_ble_eq_true rfl) (hts (.fieldLink RX0 15 "CoverMeter$Orders" "at" "I") (List.mem_of_getElem? (i := 1) rfl)) (fun _ h9 => h9) rfl dX0_readPerson_2 ?_
  obtain ⟨r1, hr1, hf⟩ := q_bd_go hf
  refine q_rdVi (ci := 0) (As := [.int (OR_at S)]) (rest := []) hx hb hml hown hts (c_X0_signAt l D cI cJ cS a S (OR_at S) _ hr1) (cwV 1 hts gX0_readPerson_X0_signAt rfl rfl rfl (by decide +kernel) ⟨(Nat.le_of_ble_eq_true rfl), (Nat.le_of_ble_eq_true rfl)⟩) hE hP rfl rfl rfl hl.1 rfl (Nat.le_of_ble_eq_true rfl) dX0_readPerson_5 ⟨Nat.zero_le _, Nat.zero_le _⟩ ?_
  refine lv_bipush (v := 48) hx hb dX0_readPerson_8 (by decide) ?_
  refine lv_isub hx hb dX0_readPerson_10 ?_
  obtain ⟨v2, ev2, hf⟩ := q_let_go hf
  refine q_nmi ev2 ?_
  refine lv_istore_n (lv' := [(1, .int v2), (0, .ref (a 0))]) hx hb dX0_readPerson_11 rfl hl (by decide) rfl (fun ls hl => ?_)
  refine lv_iload_n hx hb dX0_readPerson_12 rfl (lv_at hl 0 rfl) ?_
  refine lv_if_lt (tgt := 22) hx hb dX0_readPerson_13 (by decide) (fun c3 => ?_) (fun c3 => ?_)
  · have hf := q_ite_t c3 hf
    refine lv_aload_n hx hb dX0_readPerson_22 rfl (lv_at hl 1 rfl) ?_
    refine lv_aload_n hx hb dX0_readPerson_23 rfl (lv_at hl 1 rfl) ?_
    refine va_get (D := D) (ci := 0) (v := .int (OR_at S)) (C := RX0) (T := TX0) (N := 8) hx hb hu (fun _ h => h) hown hE.1 hP 0 rfl rfl 2 (Nat.le_of_ble_eq_true rfl) (hts (.fieldLink RX0 15 "CoverMeter$Orders" "at" "I") (List.mem_of_getElem? (i := 1) rfl)) (fun _ h9 => h9) rfl dX0_readPerson_24 ?_
    obtain ⟨r4, hr4, hf⟩ := q_bd_go hf
    refine q_wrVv (ci := 0) (As := [.int (OR_at S)]) (rest := []) hx hb hml hown hts (c_X0_fail l D cI cJ cS a S _ (OR_at S) _ hr4) (cwV 1 hts gX0_readPerson_X0_fail rfl rfl rfl (by decide +kernel) ⟨(Nat.le_of_ble_eq_true rfl), (Nat.le_of_ble_eq_true rfl)⟩) hE hP hD hS (fun q h => Or.inr h) rfl rfl rfl hl.1 rfl (Nat.le_of_ble_eq_true rfl) dX0_readPerson_27 ⟨Nat.zero_le _, Nat.zero_le _⟩ (fun H locs hP hD hS => ?_)
    refine lv_iconst (v := 0) hx hb dX0_readPerson_30 (by decide) ?_
    have ho := q_some hf
    subst ho
    exact W.iret hx hb hr (fun t ht hW => ⟨rfl, ⟨by rw [ht]; exact hP, hD⟩, hS.F ht⟩) hS.2.2 dX0_readPerson_31
  · have hf := q_ite_f c3 hf
    refine lv_iload_n hx hb dX0_readPerson_16 rfl (lv_at hl 0 rfl) ?_
    refine lv_bipush (v := 8) hx hb dX0_readPerson_17 (by decide) ?_
    refine lv_icmp_lt (tgt := 32) hx hb dX0_readPerson_19 (by decide) (fun c5 => ?_) (fun c5 => ?_)
    · have hf := q_ite_t c5 hf
      refine lv_aload_n hx hb dX0_readPerson_32 rfl (lv_at hl 1 rfl) ?_
      refine lv_dup hx hb dX0_readPerson_33 rfl ?_
      refine va_get (D := D) (ci := 0) (v := .int (OR_at S)) (C := RX0) (T := TX0) (N := 8) hx hb hu (fun _ h => h) hown hE.1 hP 0 rfl rfl 2 (Nat.le_of_ble_eq_true rfl) (hts (.fieldLink RX0 15 "CoverMeter$Orders" "at" "I") (List.mem_of_getElem? (i := 1) rfl)) (fun _ h9 => h9) rfl dX0_readPerson_34 ?_
      refine lv_iconst (v := 1) hx hb dX0_readPerson_37 (by decide) ?_
      refine lv_iadd hx hb dX0_readPerson_38 ?_
      obtain ⟨S6, eS6, hf⟩ := q_let_go hf
      refine va_put (D := D) (ci := 0) (v := .int ((OR_at S) + 1)) (ty := .int) (C := RX0) (T := TX0) (N := 8) hx hb hu (fun _ h => h) tyX0 tyX0_ok nmX0 hown hE.1 hP hD hS 0 rfl rfl 2 (Nat.le_of_ble_eq_true rfl) (hts (.fieldLink RX0 15 "CoverMeter$Orders" "at" "I") (List.mem_of_getElem? (i := 1) rfl)) (fun _ h9 => h9) rfl (by decide +kernel) rfl rfl (Nat.le_of_ble_eq_true rfl) dX0_readPerson_39 (fun H locs hP hD hS => ?_)
      have hP : va_P D vwCl (wOR cI cJ a (sOR_at S ((OR_at S) + 1))) H := hP
      have hD : va_D (va_A (wOR cI cJ a S) s.heap.size) (wOR cI cJ a (sOR_at S ((OR_at S) + 1))) := hD
      rw [eS6] at hP hD
      refine lv_iload_n hx hb dX0_readPerson_42 rfl (lv_at hl 0 rfl) ?_
      have ho := q_some hf
      subst ho
      exact W.iret hx hb hr (fun t ht hW => ⟨rfl, ⟨by rw [ht]; exact hP, hD⟩, hS.F ht⟩) hS.2.2 dX0_readPerson_43
    · have hf := q_ite_f c5 hf
      refine lv_aload_n hx hb dX0_readPerson_22 rfl (lv_at hl 1 rfl) ?_
      refine lv_aload_n hx hb dX0_readPerson_23 rfl (lv_at hl 1 rfl) ?_
      refine va_get (D := D) (ci := 0) (v := .int (OR_at S)) (C := RX0) (T := TX0) (N := 8) hx hb hu (fun _ h => h) hown hE.1 hP 0 rfl rfl 2 (Nat.le_of_ble_eq_true rfl) (hts (.fieldLink RX0 15 "CoverMeter$Orders" "at" "I") (List.mem_of_getElem? (i := 1) rfl)) (fun _ h9 => h9) rfl dX0_readPerson_24 ?_
      obtain ⟨r7, hr7, hf⟩ := q_bd_go hf
      refine q_wrVv (ci := 0) (As := [.int (OR_at S)]) (rest := []) hx hb hml hown hts (c_X0_fail l D cI cJ cS a S _ (OR_at S) _ hr7) (cwV 1 hts gX0_readPerson_X0_fail rfl rfl rfl (by decide +kernel) ⟨(Nat.le_of_ble_eq_true rfl), (Nat.le_of_ble_eq_true rfl)⟩) hE hP hD hS (fun q h => Or.inr h) rfl rfl rfl hl.1 rfl (Nat.le_of_ble_eq_true rfl) dX0_readPerson_27 ⟨Nat.zero_le _, Nat.zero_le _⟩ (fun H locs hP hD hS => ?_)
      refine lv_iconst (v := 0) hx hb dX0_readPerson_30 (by decide) ?_
      have ho := q_some hf
      subst ho
      exact W.iret hx hb hr (fun t ht hW => ⟨rfl, ⟨by rw [ht]; exact hP, hD⟩, hS.F ht⟩) hS.2.2 dX0_readPerson_31
def f_X0_expect (S : OR) (p1 : Int32) : Option OR := (f_X0_signAt S (OR_at S)).bind fun r1 =>
 if ¬ r1 = p1 then
 ((f_X0_fail S (OR_at S)).bind fun r3 =>
 some r3)
 else (q_let (sOR_at S ((OR_at S) + 1)) fun S4 =>
 some S4)
abbrev rX0_expect : Room := { frames := 1, cells := 0, slots := 0, locals := 21 }
set_option maxRecDepth 100000 in
set_option maxHeartbeats 4000000 in
theorem c_X0_expect (l : Launch) (D : va_G) (cI cJ cS : ClassId) (a : Nat → Nat) (S : OR) (sz : Nat) (p1 : Int32) (o : OR) (hf : f_X0_expect S p1 = some o) : Met l yX0_expect wsX0_expect rX0_expect (va_Pc [.ref (a 0), .int p1] (q_BW D cI cJ cS (wOR cI cJ a S) sz)) (q_Wo none D (wOR cI cJ a S) (wOR cI cJ a o) sz) 0 0 (va_A (wOR cI cJ a S) sz) := by
  refine Met.ofW (cc := cX0_expect) (maxL := 2) (ret := none) (by decide) rfl ?_
  intro p e s m args below meth c s₁ B hml hv
  obtain ⟨rfl, hsz, hP, hE, hD0⟩ := hv
  have hx := B.exec
  have hb := B.bytes
  have hr := B.returns
  have hts := atoms_spec (ws := wsX0_expect) B.pre
  have hown : s.vm.findClass RX0 = some m.cls := findClass_of_methodNamed B.named
  have hlocks := B.notSynchronized
  have hu : ∀ z ∈ wsX00, z.before _ s = true := fun z h => hts z (List.mem_cons_of_mem _ (List.mem_append_right _ h))
  subst hsz
  have hD := hD0.self (sz := s.heap.size)
  have hS : va_S (va_A (wOR cI cJ a S) s.heap.size) s.heap s.heap [] := va_S.rf
  have hl := lv_entry ([.ref (a 0), .int p1]) (n := 2) (Nat.le_of_ble_eq_true rfl)
  rw [lg_entry_eq]
  generalize (lg_sl ([.ref (a 0), .int p1]) ++ List.replicate (2 - (lg_sl ([.ref (a 0), .int p1])).length) Slot.unset).toArray = ls at hl ⊢
  have hl : lv_has ls 2 [(0, .ref (a 0)), (1, .int p1)] := hl
  unfold f_X0_expect at hf
  refine lv_aload_n hx hb dX0_expect_0 rfl (lv_at hl 0 rfl) ?_
  refine lv_aload_n hx hb dX0_expect_1 rfl (lv_at hl 0 rfl) ?_
  refine va_get (D := D) (ci := 0) (v := .int (OR_at S)) (C := RX0) (T := TX0) (N := 8) hx hb hu (fun _ h => h) hown hE.1 hP 0 rfl rfl 2 (Nat.le_of_ble_eq_true rfl) (hts (.fieldLink RX0 15 "CoverMeter$Orders" "at" "I") (List.mem_of_getElem? (i := 1) rfl)) (fun _ h9 => h9) rfl dX0_expect_2 ?_
  obtain ⟨r1, hr1, hf⟩ := q_bd_go hf
  refine q_rdVi (ci := 0) (As := [.int (OR_at S)]) (rest := []) hx hb hml hown hts (c_X0_signAt l D cI cJ cS a S (OR_at S) _ hr1) (cwV 1 hts gX0_expect_X0_signAt rfl rfl rfl (by decide +kernel) ⟨(Nat.le_of_ble_eq_true rfl), (Nat.le_of_ble_eq_true rfl)⟩) hE hP rfl rfl rfl hl.1 rfl (Nat.le_of_ble_eq_true rfl) dX0_expect_5 ⟨Nat.zero_le _, Nat.zero_le _⟩ ?_
  refine lv_iload_n hx hb dX0_expect_8 rfl (lv_at hl 1 rfl) ?_
  refine lv_icmp_ne (tgt := 25) hx hb dX0_expect_9 (by decide) (fun c2 => ?_) (fun c2 => ?_)
  · have hf := q_ite_t c2 hf
    refine lv_aload_n hx hb dX0_expect_25 rfl (lv_at hl 0 rfl) ?_
    refine lv_aload_n hx hb dX0_expect_26 rfl (lv_at hl 0 rfl) ?_
    refine va_get (D := D) (ci := 0) (v := .int (OR_at S)) (C := RX0) (T := TX0) (N := 8) hx hb hu (fun _ h => h) hown hE.1 hP 0 rfl rfl 2 (Nat.le_of_ble_eq_true rfl) (hts (.fieldLink RX0 15 "CoverMeter$Orders" "at" "I") (List.mem_of_getElem? (i := 1) rfl)) (fun _ h9 => h9) rfl dX0_expect_27 ?_
    obtain ⟨r3, hr3, hf⟩ := q_bd_go hf
    refine q_wrVv (ci := 0) (As := [.int (OR_at S)]) (rest := []) hx hb hml hown hts (c_X0_fail l D cI cJ cS a S _ (OR_at S) _ hr3) (cwV 1 hts gX0_expect_X0_fail rfl rfl rfl (by decide +kernel) ⟨(Nat.le_of_ble_eq_true rfl), (Nat.le_of_ble_eq_true rfl)⟩) hE hP hD hS (fun q h => Or.inr h) rfl rfl rfl hl.1 rfl (Nat.le_of_ble_eq_true rfl) dX0_expect_30 ⟨Nat.zero_le _, Nat.zero_le _⟩ (fun H locs hP hD hS => ?_)
    have ho := q_some hf
    subst ho
    exact W.vret hx hb hr (fun t ht hW => ⟨rfl, ⟨by rw [ht]; exact hP, hD⟩, hS.F ht⟩) hS.2.2 dX0_expect_33
  · have hf := q_ite_n c2 hf
    refine lv_aload_n hx hb dX0_expect_12 rfl (lv_at hl 0 rfl) ?_
    refine lv_dup hx hb dX0_expect_13 rfl ?_
    refine va_get (D := D) (ci := 0) (v := .int (OR_at S)) (C := RX0) (T := TX0) (N := 8) hx hb hu (fun _ h => h) hown hE.1 hP 0 rfl rfl 2 (Nat.le_of_ble_eq_true rfl) (hts (.fieldLink RX0 15 "CoverMeter$Orders" "at" "I") (List.mem_of_getElem? (i := 1) rfl)) (fun _ h9 => h9) rfl dX0_expect_14 ?_
    refine lv_iconst (v := 1) hx hb dX0_expect_17 (by decide) ?_
    refine lv_iadd hx hb dX0_expect_18 ?_
    obtain ⟨S4, eS4, hf⟩ := q_let_go hf
    refine va_put (D := D) (ci := 0) (v := .int ((OR_at S) + 1)) (ty := .int) (C := RX0) (T := TX0) (N := 8) hx hb hu (fun _ h => h) tyX0 tyX0_ok nmX0 hown hE.1 hP hD hS 0 rfl rfl 2 (Nat.le_of_ble_eq_true rfl) (hts (.fieldLink RX0 15 "CoverMeter$Orders" "at" "I") (List.mem_of_getElem? (i := 1) rfl)) (fun _ h9 => h9) rfl (by decide +kernel) rfl rfl (Nat.le_of_ble_eq_true rfl) dX0_expect_19 (fun H locs hP hD hS => ?_)
    have hP : va_P D vwCl (wOR cI cJ a (sOR_at S ((OR_at S) + 1))) H := hP
    have hD : va_D (va_A (wOR cI cJ a S) s.heap.size) (wOR cI cJ a (sOR_at S ((OR_at S) + 1))) := hD
    rw [eS4] at hP hD
    refine lv_goto (tgt := 33) hx hb dX0_expect_22 (by decide) ?_
    have ho := q_some hf
    subst ho
    exact W.vret hx hb hr (fun t ht hW => ⟨rfl, ⟨by rw [ht]; exact hP, hD⟩, hS.F ht⟩) hS.2.2 dX0_expect_33
def f_X0_isDigit (p1 : Int32) : Option Int32 := if p1 < 48 then
 (some 0)
 else (if 57 < p1 then
 (some 0)
 else (some 1))
abbrev rX0_isDigit : Room := { frames := 0, cells := 0, slots := 0, locals := 0 }
set_option maxRecDepth 100000 in
set_option maxHeartbeats 4000000 in
theorem c_X0_isDigit (l : Launch) (D : va_G) (cI cJ cS : ClassId) (p1 : Int32) (o : Int32) (hf : f_X0_isDigit p1 = some o) : Met l yX0_isDigit wsX0_isDigit rX0_isDigit (va_Pc [.int p1] (q_B D cI cJ cS [])) (q_Ri o) 0 0 (fun _ => False) := by
  refine Met.ofW (cc := cX0_isDigit) (maxL := 1) (ret := some .boolean) (by decide) rfl ?_
  intro p e s m args below meth c s₁ B hml hv
  obtain ⟨rfl, hP, hE⟩ := hv
  have hx := B.exec
  have hb := B.bytes
  have hr := B.returns
  have hts := atoms_spec (ws := wsX0_isDigit) B.pre
  have hown : s.vm.findClass RX0 = some m.cls := findClass_of_methodNamed B.named
  have hlocks := B.notSynchronized
  have hl := lv_entry ([.int p1]) (n := 1) (Nat.le_of_ble_eq_true rfl)
  rw [lg_entry_eq]
  generalize (lg_sl ([.int p1]) ++ List.replicate (1 - (lg_sl ([.int p1])).length) Slot.unset).toArray = ls at hl ⊢
  have hl : lv_has ls 1 [(0, .int p1)] := hl
  unfold f_X0_isDigit at hf
  refine lv_iload_n hx hb dX0_isDigit_0 rfl (lv_at hl 0 rfl) ?_
  refine lv_bipush (v := 48) hx hb dX0_isDigit_1 (by decide) ?_
  refine lv_icmp_lt (tgt := 16) hx hb dX0_isDigit_3 (by decide) (fun c1 => ?_) (fun c1 => ?_)
  · have hf := q_ite_t c1 hf
    refine lv_iconst (v := 0) hx hb dX0_isDigit_16 (by decide) ?_
    have ho := q_some hf
    subst ho
    exact W.zret hx hb hr rfl (fun t ht hW => ⟨rfl, ht⟩) t_nil dX0_isDigit_17
  · have hf := q_ite_f c1 hf
    refine lv_iload_n hx hb dX0_isDigit_6 rfl (lv_at hl 0 rfl) ?_
    refine lv_bipush (v := 57) hx hb dX0_isDigit_7 (by decide) ?_
    refine lv_icmp_gt (tgt := 16) hx hb dX0_isDigit_9 (by decide) (fun c2 => ?_) (fun c2 => ?_)
    · have hf := q_ite_t c2 hf
      refine lv_iconst (v := 0) hx hb dX0_isDigit_16 (by decide) ?_
      have ho := q_some hf
      subst ho
      exact W.zret hx hb hr rfl (fun t ht hW => ⟨rfl, ht⟩) t_nil dX0_isDigit_17
    · have hf := q_ite_f c2 hf
      refine lv_iconst (v := 1) hx hb dX0_isDigit_12 (by decide) ?_
      refine lv_goto (tgt := 17) hx hb dX0_isDigit_13 (by decide) ?_
      have ho := q_some hf
      subst ho
      exact W.zret hx hb hr rfl (fun t ht hW => ⟨rfl, ht⟩) t_nil dX0_isDigit_17
def f_X0_readNumber_63 (Sz : OR) (l1 : Int32) (l2 : Int32) (l3 : Int32) : Option (Int32 × OR) := if (OR_at Sz) = l2 then
 ((f_X0_fail Sz (OR_at Sz)).bind fun r4 =>
 some (l3, r4))
 else ((f_X0_signAt Sz (OR_at Sz)).bind fun r5 =>
 (f_X0_isDigit r5).bind fun r6 =>
 if r6 = 0 then
 (if l3 ≤ l1 then
 (some (l3, Sz))
 else ((f_X0_fail Sz l2).bind fun r9 =>
 some (l3, r9)))
 else ((f_X0_fail Sz (OR_at Sz)).bind fun r10 =>
 some (l3, r10)))
def f_X0_readNumber_10 : Nat → OR → Int32 → Int32 → Int32 → Int32 → Option (Int32 × OR)
  | 0, _, _, _, _, _ => none
  | n+1, Sz, l1, l2, l3, l4 => if 2 ≤ l4 then
 (f_X0_readNumber_63 Sz l1 l2 l3)
 else ((f_X0_signAt Sz (OR_at Sz)).bind fun r11 =>
 (f_X0_isDigit r11).bind fun r12 =>
 if r12 = 0 then
 (f_X0_readNumber_63 Sz l1 l2 l3)
 else ((f_X0_signAt Sz (OR_at Sz)).bind fun r14 =>
 q_let ((((10 * l3) + r14) - 48)) fun v15 =>
 q_let (sOR_at Sz ((OR_at Sz) + 1)) fun S16 =>
 q_let (l4 + 1) fun v17 =>
 f_X0_readNumber_10 n S16 l1 l2 v15 v17))
def f_X0_readNumber (S : OR) (p1 : Int32) : Option (Int32 × OR) := q_let ((OR_at S)) fun v1 =>
 f_X0_readNumber_10 2000 S p1 v1 0 0
abbrev rX0_readNumber : Room := { frames := 1, cells := 0, slots := 0, locals := 21 }
set_option maxRecDepth 100000 in
set_option maxHeartbeats 4000000 in
theorem c_X0_readNumber (l : Launch) (D : va_G) (cI cJ cS : ClassId) (a : Nat → Nat) (S : OR) (sz : Nat) (p1 : Int32) (o : (Int32 × OR)) (hf : f_X0_readNumber S p1 = some o) : Met l yX0_readNumber wsX0_readNumber rX0_readNumber (va_Pc [.ref (a 0), .int p1] (q_BW D cI cJ cS (wOR cI cJ a S) sz)) (q_Wo (some (.int o.1)) D (wOR cI cJ a S) (wOR cI cJ a o.2) sz) 0 0 (va_A (wOR cI cJ a S) sz) := by
  refine Met.ofW (cc := cX0_readNumber) (maxL := 5) (ret := some .int) (by decide) rfl ?_
  intro p e s m args below meth c s₁ B hml hv
  obtain ⟨rfl, hsz, hP, hE, hD0⟩ := hv
  have hx := B.exec
  have hb := B.bytes
  have hr := B.returns
  have hts := atoms_spec (ws := wsX0_readNumber) B.pre
  have hown : s.vm.findClass RX0 = some m.cls := findClass_of_methodNamed B.named
  have hlocks := B.notSynchronized
  have hu : ∀ z ∈ wsX00, z.before _ s = true := fun z h => hts z (List.mem_cons_of_mem _ (List.mem_append_right _ h))
  subst hsz
  have hD := hD0.self (sz := s.heap.size)
  have hS : va_S (va_A (wOR cI cJ a S) s.heap.size) s.heap s.heap [] := va_S.rf
  have B_63 : ∀ (Sz : OR) (H : Heap) (locs : List Loc) (hP : va_P D vwCl (wOR cI cJ a Sz) H) (hD : va_D (va_A (wOR cI cJ a S) s.heap.size) (wOR cI cJ a Sz)) (hS : va_S (va_A (wOR cI cJ a S) s.heap.size) s.heap H locs) (l1 : Int32) (l2 : Int32) (l3 : Int32) (ls : Array Slot), lv_has ls 5 [(0, .ref (a 0)), (1, .int l1), (2, .int l2), (3, .int l3)] → f_X0_readNumber_63 Sz l1 l2 l3 = some o → W p l e (headSpec wsX0_readNumber rX0_readNumber).room s m (([.ref (a 0), .int p1] : List Value).toArray) below meth c H locs 0 0 (MQ below (q_Wo (some (.int o.1)) D (wOR cI cJ a S) (wOR cI cJ a o.2) s.heap.size) (([.ref (a 0), .int p1] : List Value).toArray) s 0 0 (va_A (wOR cI cJ a S) s.heap.size)) (F0 m 63 ls []) := by
    intro Sz H locs hP hD hS l1 l2 l3 ls hl hf
    unfold f_X0_readNumber_63 at hf
    refine lv_aload_n hx hb dX0_readNumber_63 rfl (lv_at hl 0 rfl) ?_
    refine va_get (D := D) (ci := 0) (v := .int (OR_at Sz)) (C := RX0) (T := TX0) (N := 8) hx hb hu (fun _ h => h) hown hE.1 hP 0 rfl rfl 2 (Nat.le_of_ble_eq_true rfl) (hts (.fieldLink RX0 15 "CoverMeter$Orders" "at" "I") (List.mem_of_getElem? (i := 1) rfl)) (fun _ h9 => h9) rfl dX0_readNumber_64 ?_
    refine lv_iload_n hx hb dX0_readNumber_67 rfl (lv_at hl 2 rfl) ?_
    refine lv_icmp_eq (tgt := 85) hx hb dX0_readNumber_68 (by decide) (fun c3 => ?_) (fun c3 => ?_)
    · have hf := q_ite_t c3 hf
      refine lv_aload_n hx hb dX0_readNumber_85 rfl (lv_at hl 0 rfl) ?_
      refine lv_aload_n hx hb dX0_readNumber_86 rfl (lv_at hl 0 rfl) ?_
      refine va_get (D := D) (ci := 0) (v := .int (OR_at Sz)) (C := RX0) (T := TX0) (N := 8) hx hb hu (fun _ h => h) hown hE.1 hP 0 rfl rfl 2 (Nat.le_of_ble_eq_true rfl) (hts (.fieldLink RX0 15 "CoverMeter$Orders" "at" "I") (List.mem_of_getElem? (i := 1) rfl)) (fun _ h9 => h9) rfl dX0_readNumber_87 ?_
      obtain ⟨r4, hr4, hf⟩ := q_bd_go hf
      refine q_wrVv (ci := 0) (As := [.int (OR_at Sz)]) (rest := []) hx hb hml hown hts (c_X0_fail l D cI cJ cS a Sz _ (OR_at Sz) _ hr4) (cwV 1 hts gX0_readNumber_X0_fail rfl rfl rfl (by decide +kernel) ⟨(Nat.le_of_ble_eq_true rfl), (Nat.le_of_ble_eq_true rfl)⟩) hE hP hD hS (fun q h => Or.inr h) rfl rfl rfl hl.1 rfl (Nat.le_of_ble_eq_true rfl) dX0_readNumber_90 ⟨Nat.zero_le _, Nat.zero_le _⟩ (fun H locs hP hD hS => ?_)
      refine lv_goto (tgt := 106) hx hb dX0_readNumber_93 (by decide) ?_
      refine lv_iload_n hx hb dX0_readNumber_106 rfl (lv_at hl 3 rfl) ?_
      have ho := q_some hf
      subst ho
      exact W.iret hx hb hr (fun t ht hW => ⟨rfl, ⟨by rw [ht]; exact hP, hD⟩, hS.F ht⟩) hS.2.2 dX0_readNumber_107
    · have hf := q_ite_f c3 hf
      refine lv_aload_n hx hb dX0_readNumber_71 rfl (lv_at hl 0 rfl) ?_
      refine lv_aload_n hx hb dX0_readNumber_72 rfl (lv_at hl 0 rfl) ?_
      refine va_get (D := D) (ci := 0) (v := .int (OR_at Sz)) (C := RX0) (T := TX0) (N := 8) hx hb hu (fun _ h => h) hown hE.1 hP 0 rfl rfl 2 (Nat.le_of_ble_eq_true rfl) (hts (.fieldLink RX0 15 "CoverMeter$Orders" "at" "I") (List.mem_of_getElem? (i := 1) rfl)) (fun _ h9 => h9) rfl dX0_readNumber_73 ?_
      obtain ⟨r5, hr5, hf⟩ := q_bd_go hf
      refine q_rdVi (ci := 0) (As := [.int (OR_at Sz)]) (rest := []) hx hb hml hown hts (c_X0_signAt l D cI cJ cS a Sz (OR_at Sz) _ hr5) (cwV 1 hts gX0_readNumber_X0_signAt rfl rfl rfl (by decide +kernel) ⟨(Nat.le_of_ble_eq_true rfl), (Nat.le_of_ble_eq_true rfl)⟩) hE hP rfl rfl rfl hl.1 rfl (Nat.le_of_ble_eq_true rfl) dX0_readNumber_76 ⟨Nat.zero_le _, Nat.zero_le _⟩ ?_
      obtain ⟨r6, hr6, hf⟩ := q_bd_go hf
      refine q_rdSi (As := [.int r5]) (rest := []) hx hb hml hown hts (c_X0_isDigit l D cI cJ cS r5 _ hr6) (va_cwS 1 hts gX0_readNumber_X0_isDigit rfl rfl rfl (by decide +kernel) ⟨(Nat.le_of_ble_eq_true rfl), (Nat.le_of_ble_eq_true rfl)⟩) hE rfl hl.1 rfl (Nat.le_of_ble_eq_true rfl) dX0_readNumber_79 ⟨Nat.zero_le _, Nat.zero_le _⟩ ?_
      refine lv_if_eq (tgt := 96) hx hb dX0_readNumber_82 (by decide) (fun c7 => ?_) (fun c7 => ?_)
      · have hf := q_ite_t c7 hf
        refine lv_iload_n hx hb dX0_readNumber_96 rfl (lv_at hl 3 rfl) ?_
        refine lv_iload_n hx hb dX0_readNumber_97 rfl (lv_at hl 1 rfl) ?_
        refine lv_icmp_le (tgt := 106) hx hb dX0_readNumber_98 (by decide) (fun c8 => ?_) (fun c8 => ?_)
        · have hf := q_ite_t c8 hf
          refine lv_iload_n hx hb dX0_readNumber_106 rfl (lv_at hl 3 rfl) ?_
          have ho := q_some hf
          subst ho
          exact W.iret hx hb hr (fun t ht hW => ⟨rfl, ⟨by rw [ht]; exact hP, hD⟩, hS.F ht⟩) hS.2.2 dX0_readNumber_107
        · have hf := q_ite_f c8 hf
          refine lv_aload_n hx hb dX0_readNumber_101 rfl (lv_at hl 0 rfl) ?_
          refine lv_iload_n hx hb dX0_readNumber_102 rfl (lv_at hl 2 rfl) ?_
          obtain ⟨r9, hr9, hf⟩ := q_bd_go hf
          refine q_wrVv (ci := 0) (As := [.int l2]) (rest := []) hx hb hml hown hts (c_X0_fail l D cI cJ cS a Sz _ l2 _ hr9) (cwV 1 hts gX0_readNumber_X0_fail rfl rfl rfl (by decide +kernel) ⟨(Nat.le_of_ble_eq_true rfl), (Nat.le_of_ble_eq_true rfl)⟩) hE hP hD hS (fun q h => Or.inr h) rfl rfl rfl hl.1 rfl (Nat.le_of_ble_eq_true rfl) dX0_readNumber_103 ⟨Nat.zero_le _, Nat.zero_le _⟩ (fun H locs hP hD hS => ?_)
          refine lv_iload_n hx hb dX0_readNumber_106 rfl (lv_at hl 3 rfl) ?_
          have ho := q_some hf
          subst ho
          exact W.iret hx hb hr (fun t ht hW => ⟨rfl, ⟨by rw [ht]; exact hP, hD⟩, hS.F ht⟩) hS.2.2 dX0_readNumber_107
      · have hf := q_ite_f c7 hf
        refine lv_aload_n hx hb dX0_readNumber_85 rfl (lv_at hl 0 rfl) ?_
        refine lv_aload_n hx hb dX0_readNumber_86 rfl (lv_at hl 0 rfl) ?_
        refine va_get (D := D) (ci := 0) (v := .int (OR_at Sz)) (C := RX0) (T := TX0) (N := 8) hx hb hu (fun _ h => h) hown hE.1 hP 0 rfl rfl 2 (Nat.le_of_ble_eq_true rfl) (hts (.fieldLink RX0 15 "CoverMeter$Orders" "at" "I") (List.mem_of_getElem? (i := 1) rfl)) (fun _ h9 => h9) rfl dX0_readNumber_87 ?_
        obtain ⟨r10, hr10, hf⟩ := q_bd_go hf
        refine q_wrVv (ci := 0) (As := [.int (OR_at Sz)]) (rest := []) hx hb hml hown hts (c_X0_fail l D cI cJ cS a Sz _ (OR_at Sz) _ hr10) (cwV 1 hts gX0_readNumber_X0_fail rfl rfl rfl (by decide +kernel) ⟨(Nat.le_of_ble_eq_true rfl), (Nat.le_of_ble_eq_true rfl)⟩) hE hP hD hS (fun q h => Or.inr h) rfl rfl rfl hl.1 rfl (Nat.le_of_ble_eq_true rfl) dX0_readNumber_90 ⟨Nat.zero_le _, Nat.zero_le _⟩ (fun H locs hP hD hS => ?_)
        refine lv_goto (tgt := 106) hx hb dX0_readNumber_93 (by decide) ?_
        refine lv_iload_n hx hb dX0_readNumber_106 rfl (lv_at hl 3 rfl) ?_
        have ho := q_some hf
        subst ho
        exact W.iret hx hb hr (fun t ht hW => ⟨rfl, ⟨by rw [ht]; exact hP, hD⟩, hS.F ht⟩) hS.2.2 dX0_readNumber_107
  have L_10 : ∀ (n : Nat) (Sz : OR) (H : Heap) (locs : List Loc) (hP : va_P D vwCl (wOR cI cJ a Sz) H) (hD : va_D (va_A (wOR cI cJ a S) s.heap.size) (wOR cI cJ a Sz)) (hS : va_S (va_A (wOR cI cJ a S) s.heap.size) s.heap H locs) (l1 : Int32) (l2 : Int32) (l3 : Int32) (l4 : Int32) (ls : Array Slot), lv_has ls 5 [(0, .ref (a 0)), (1, .int l1), (2, .int l2), (3, .int l3), (4, .int l4)] → f_X0_readNumber_10 n Sz l1 l2 l3 l4 = some o → W p l e (headSpec wsX0_readNumber rX0_readNumber).room s m (([.ref (a 0), .int p1] : List Value).toArray) below meth c H locs 0 0 (MQ below (q_Wo (some (.int o.1)) D (wOR cI cJ a S) (wOR cI cJ a o.2) s.heap.size) (([.ref (a 0), .int p1] : List Value).toArray) s 0 0 (va_A (wOR cI cJ a S) s.heap.size)) (F0 m 10 ls []) := by
    intro n
    induction n with
    | zero => intro Sz H locs hP hD hS l1 l2 l3 l4 ls hl hf; cases hf
    | succ n ih =>
      intro Sz H locs hP hD hS l1 l2 l3 l4 ls hl hf
      rw [f_X0_readNumber_10] at hf
      refine lv_iload hx hb dX0_readNumber_10 (lv_at hl 4 rfl) ?_
      refine lv_iconst (v := 2) hx hb dX0_readNumber_12 (by decide) ?_
      refine lv_icmp_ge (tgt := 63) hx hb dX0_readNumber_13 (by decide) (fun c2 => ?_) (fun c2 => ?_)
      · have hf := q_ite_t c2 hf
        exact B_63 Sz _ _ hP hD hS l1 l2 l3 _ (lv_sub hl [0, 1, 2, 3] rfl) hf
      · have hf := q_ite_f c2 hf
        refine lv_aload_n hx hb dX0_readNumber_16 rfl (lv_at hl 0 rfl) ?_
        refine lv_aload_n hx hb dX0_readNumber_17 rfl (lv_at hl 0 rfl) ?_
        refine va_get (D := D) (ci := 0) (v := .int (OR_at Sz)) (C := RX0) (T := TX0) (N := 8) hx hb hu (fun _ h => h) hown hE.1 hP 0 rfl rfl 2 (Nat.le_of_ble_eq_true rfl) (hts (.fieldLink RX0 15 "CoverMeter$Orders" "at" "I") (List.mem_of_getElem? (i := 1) rfl)) (fun _ h9 => h9) rfl dX0_readNumber_18 ?_
        obtain ⟨r11, hr11, hf⟩ := q_bd_go hf
        refine q_rdVi (ci := 0) (As := [.int (OR_at Sz)]) (rest := []) hx hb hml hown hts (c_X0_signAt l D cI cJ cS a Sz (OR_at Sz) _ hr11) (cwV 1 hts gX0_readNumber_X0_signAt rfl rfl rfl (by decide +kernel) ⟨(Nat.le_of_ble_eq_true rfl), (Nat.le_of_ble_eq_true rfl)⟩) hE hP rfl rfl rfl hl.1 rfl (Nat.le_of_ble_eq_true rfl) dX0_readNumber_21 ⟨Nat.zero_le _, Nat.zero_le _⟩ ?_
        obtain ⟨r12, hr12, hf⟩ := q_bd_go hf
        refine q_rdSi (As := [.int r11]) (rest := []) hx hb hml hown hts (c_X0_isDigit l D cI cJ cS r11 _ hr12) (va_cwS 1 hts gX0_readNumber_X0_isDigit rfl rfl rfl (by decide +kernel) ⟨(Nat.le_of_ble_eq_true rfl), (Nat.le_of_ble_eq_true rfl)⟩) hE rfl hl.1 rfl (Nat.le_of_ble_eq_true rfl) dX0_readNumber_24 ⟨Nat.zero_le _, Nat.zero_le _⟩ ?_
        refine lv_if_eq (tgt := 63) hx hb dX0_readNumber_27 (by decide) (fun c13 => ?_) (fun c13 => ?_)
        · have hf := q_ite_t c13 hf
          exact B_63 Sz _ _ hP hD hS l1 l2 l3 _ (lv_sub hl [0, 1, 2, 3] rfl) hf
        · have hf := q_ite_f c13 hf
          refine lv_bipush (v := 10) hx hb dX0_readNumber_30 (by decide) ?_
          refine lv_iload_n hx hb dX0_readNumber_32 rfl (lv_at hl 3 rfl) ?_
          refine lv_imul hx hb dX0_readNumber_33 ?_
          refine lv_aload_n hx hb dX0_readNumber_34 rfl (lv_at hl 0 rfl) ?_
          refine lv_aload_n hx hb dX0_readNumber_35 rfl (lv_at hl 0 rfl) ?_
          refine va_get (D := D) (ci := 0) (v := .int (OR_at Sz)) (C := RX0) (T := TX0) (N := 8) hx hb hu (fun _ h => h) hown hE.1 hP 0 rfl rfl 2 (Nat.le_of_ble_eq_true rfl) (hts (.fieldLink RX0 15 "CoverMeter$Orders" "at" "I") (List.mem_of_getElem? (i := 1) rfl)) (fun _ h9 => h9) rfl dX0_readNumber_36 ?_
          obtain ⟨r14, hr14, hf⟩ := q_bd_go hf
          refine q_rdVi (ci := 0) (As := [.int (OR_at Sz)]) (rest := [.int (10 * l3)]) hx hb hml hown hts (c_X0_signAt l D cI cJ cS a Sz (OR_at Sz) _ hr14) (cwV 1 hts gX0_readNumber_X0_signAt rfl rfl rfl (by decide +kernel) ⟨(Nat.le_of_ble_eq_true rfl), (Nat.le_of_ble_eq_true rfl)⟩) hE hP rfl rfl rfl hl.1 rfl (Nat.le_of_ble_eq_true rfl) dX0_readNumber_39 ⟨Nat.zero_le _, Nat.zero_le _⟩ ?_
          refine lv_iadd hx hb dX0_readNumber_42 ?_
          refine lv_bipush (v := 48) hx hb dX0_readNumber_43 (by decide) ?_
          refine lv_isub hx hb dX0_readNumber_45 ?_
          obtain ⟨v15, ev15, hf⟩ := q_let_go hf
          refine q_nmi ev15 ?_
          refine lv_istore_n (lv' := [(3, .int v15), (0, .ref (a 0)), (1, .int l1), (2, .int l2), (4, .int l4)]) hx hb dX0_readNumber_46 rfl hl (by decide) rfl (fun ls hl => ?_)
          refine lv_aload_n hx hb dX0_readNumber_47 rfl (lv_at hl 1 rfl) ?_
          refine lv_dup hx hb dX0_readNumber_48 rfl ?_
          refine va_get (D := D) (ci := 0) (v := .int (OR_at Sz)) (C := RX0) (T := TX0) (N := 8) hx hb hu (fun _ h => h) hown hE.1 hP 0 rfl rfl 2 (Nat.le_of_ble_eq_true rfl) (hts (.fieldLink RX0 15 "CoverMeter$Orders" "at" "I") (List.mem_of_getElem? (i := 1) rfl)) (fun _ h9 => h9) rfl dX0_readNumber_49 ?_
          refine lv_iconst (v := 1) hx hb dX0_readNumber_52 (by decide) ?_
          refine lv_iadd hx hb dX0_readNumber_53 ?_
          obtain ⟨S16, eS16, hf⟩ := q_let_go hf
          refine va_put (D := D) (ci := 0) (v := .int ((OR_at Sz) + 1)) (ty := .int) (C := RX0) (T := TX0) (N := 8) hx hb hu (fun _ h => h) tyX0 tyX0_ok nmX0 hown hE.1 hP hD hS 0 rfl rfl 2 (Nat.le_of_ble_eq_true rfl) (hts (.fieldLink RX0 15 "CoverMeter$Orders" "at" "I") (List.mem_of_getElem? (i := 1) rfl)) (fun _ h9 => h9) rfl (by decide +kernel) rfl rfl (Nat.le_of_ble_eq_true rfl) dX0_readNumber_54 (fun H locs hP hD hS => ?_)
          have hP : va_P D vwCl (wOR cI cJ a (sOR_at Sz ((OR_at Sz) + 1))) H := hP
          have hD : va_D (va_A (wOR cI cJ a S) s.heap.size) (wOR cI cJ a (sOR_at Sz ((OR_at Sz) + 1))) := hD
          rw [eS16] at hP hD
          obtain ⟨v17, ev17, hf⟩ := q_let_go hf
          refine lv_iinc (v := v17) (lv' := [(4, .int v17), (3, .int v15), (0, .ref (a 0)), (1, .int l1), (2, .int l2)]) hx hb dX0_readNumber_57 hl (k := 4) rfl (by rw [← ev17]; rfl) (by decide) rfl (fun ls hl => ?_)
          refine lv_goto (tgt := 10) hx hb dX0_readNumber_60 (by decide) ?_
          exact ih S16 _ _ hP hD hS l1 l2 v15 v17 _ (lv_sub hl [2, 3, 4, 1, 0] rfl) hf
  have hl := lv_entry ([.ref (a 0), .int p1]) (n := 5) (Nat.le_of_ble_eq_true rfl)
  rw [lg_entry_eq]
  generalize (lg_sl ([.ref (a 0), .int p1]) ++ List.replicate (5 - (lg_sl ([.ref (a 0), .int p1])).length) Slot.unset).toArray = ls at hl ⊢
  have hl : lv_has ls 5 [(0, .ref (a 0)), (1, .int p1)] := hl
  unfold f_X0_readNumber at hf
  refine lv_aload_n hx hb dX0_readNumber_0 rfl (lv_at hl 0 rfl) ?_
  refine va_get (D := D) (ci := 0) (v := .int (OR_at S)) (C := RX0) (T := TX0) (N := 8) hx hb hu (fun _ h => h) hown hE.1 hP 0 rfl rfl 2 (Nat.le_of_ble_eq_true rfl) (hts (.fieldLink RX0 15 "CoverMeter$Orders" "at" "I") (List.mem_of_getElem? (i := 1) rfl)) (fun _ h9 => h9) rfl dX0_readNumber_1 ?_
  obtain ⟨v1, ev1, hf⟩ := q_let_go hf
  refine q_nmi ev1 ?_
  refine lv_istore_n (lv' := [(2, .int v1), (0, .ref (a 0)), (1, .int p1)]) hx hb dX0_readNumber_4 rfl hl (by decide) rfl (fun ls hl => ?_)
  refine lv_iconst (v := 0) hx hb dX0_readNumber_5 (by decide) ?_
  refine lv_istore_n (lv' := [(3, .int 0), (2, .int v1), (0, .ref (a 0)), (1, .int p1)]) hx hb dX0_readNumber_6 rfl hl (by decide) rfl (fun ls hl => ?_)
  refine lv_iconst (v := 0) hx hb dX0_readNumber_7 (by decide) ?_
  refine lv_istore (lv' := [(4, .int 0), (3, .int 0), (2, .int v1), (0, .ref (a 0)), (1, .int p1)]) hx hb dX0_readNumber_8 hl (by decide) rfl (fun ls hl => ?_)
  exact L_10 2000 S _ _ hP hD hS p1 v1 0 0 _ (lv_sub hl [3, 4, 2, 1, 0] rfl) hf
def f_X0_read (S : OR) : Option OR := (f_X0_signAt S (OR_at S)).bind fun r1 =>
 q_let (sOR_kind S r1) fun S2 =>
 if (OR_kind S2) = 97 then
 (q_let (sOR_at S2 ((OR_at S2) + 1)) fun S4 =>
 (f_X0_readPerson S4).bind fun r5 =>
 q_let (sOR_person r5.2 r5.1) fun S6 =>
 (f_X0_expect S6 44).bind fun r7 =>
 (f_X0_readNumber r7 41).bind fun r8 =>
 q_let (sOR_number r8.2 r8.1) fun S9 =>
 (f_X0_expect S9 59).bind fun r10 =>
 some r10)
 else (if (OR_kind S2) = 98 then
 (q_let (sOR_at S2 ((OR_at S2) + 1)) fun S11 =>
 (f_X0_readPerson S11).bind fun r12 =>
 q_let (sOR_person r12.2 r12.1) fun S13 =>
 (f_X0_expect S13 44).bind fun r14 =>
 (f_X0_readNumber r14 29).bind fun r15 =>
 q_let (sOR_number r15.2 r15.1) fun S16 =>
 (f_X0_expect S16 44).bind fun r17 =>
 (f_X0_readNumber r17 50).bind fun r18 =>
 q_let (sOR_points r18.2 r18.1) fun S19 =>
 (f_X0_expect S19 59).bind fun r20 =>
 some r20)
 else (if (OR_kind S2) = 99 then
 (q_let (sOR_at S2 ((OR_at S2) + 1)) fun S21 =>
 (f_X0_readNumber S21 29).bind fun r22 =>
 q_let (sOR_number r22.2 r22.1) fun S23 =>
 (f_X0_expect S23 59).bind fun r24 =>
 some r24)
 else (if (OR_kind S2) = 122 then
 (q_let (sOR_at S2 ((OR_at S2) + 1)) fun S25 =>
 (f_X0_expect S25 59).bind fun r26 =>
 some r26)
 else ((f_X0_fail S2 (OR_at S2)).bind fun r27 =>
 (f_X0_expect r27 59).bind fun r28 =>
 some r28))))
abbrev rX0_read : Room := { frames := 2, cells := 0, slots := 0, locals := 45 }
set_option maxRecDepth 100000 in
set_option maxHeartbeats 4000000 in
theorem c_X0_read (l : Launch) (D : va_G) (cI cJ cS : ClassId) (a : Nat → Nat) (S : OR) (sz : Nat) (o : OR) (hf : f_X0_read S = some o) : Met l yX0_read wsX0_read rX0_read (va_Pc [.ref (a 0)] (q_BW D cI cJ cS (wOR cI cJ a S) sz)) (q_Wo none D (wOR cI cJ a S) (wOR cI cJ a o) sz) 0 0 (va_A (wOR cI cJ a S) sz) := by
  refine Met.ofW (cc := cX0_read) (maxL := 1) (ret := none) (by decide) rfl ?_
  intro p e s m args below meth c s₁ B hml hv
  obtain ⟨rfl, hsz, hP, hE, hD0⟩ := hv
  have hx := B.exec
  have hb := B.bytes
  have hr := B.returns
  have hts := atoms_spec (ws := wsX0_read) B.pre
  have hown : s.vm.findClass RX0 = some m.cls := findClass_of_methodNamed B.named
  have hlocks := B.notSynchronized
  have hu : ∀ z ∈ wsX00, z.before _ s = true := fun z h => hts z (List.mem_cons_of_mem _ (List.mem_append_right _ h))
  subst hsz
  have hD := hD0.self (sz := s.heap.size)
  have hS : va_S (va_A (wOR cI cJ a S) s.heap.size) s.heap s.heap [] := va_S.rf
  have hl := lv_entry ([.ref (a 0)]) (n := 1) (Nat.le_of_ble_eq_true rfl)
  rw [lg_entry_eq]
  generalize (lg_sl ([.ref (a 0)]) ++ List.replicate (1 - (lg_sl ([.ref (a 0)])).length) Slot.unset).toArray = ls at hl ⊢
  have hl : lv_has ls 1 [(0, .ref (a 0))] := hl
  unfold f_X0_read at hf
  refine lv_aload_n hx hb dX0_read_0 rfl (lv_at hl 0 rfl) ?_
  refine lv_aload_n hx hb dX0_read_1 rfl (lv_at hl 0 rfl) ?_
  refine lv_aload_n hx hb dX0_read_2 rfl (lv_at hl 0 rfl) ?_
  refine va_get (D := D) (ci := 0) (v := .int (OR_at S)) (C := RX0) (T := TX0) (N := 8) hx hb hu (fun _ h => h) hown hE.1 hP 0 rfl rfl 2 (Nat.le_of_ble_eq_true rfl) (hts (.fieldLink RX0 15 "CoverMeter$Orders" "at" "I") (List.mem_of_getElem? (i := 1) rfl)) (fun _ h9 => h9) rfl dX0_read_3 ?_
  obtain ⟨r1, hr1, hf⟩ := q_bd_go hf
  refine q_rdVi (ci := 0) (As := [.int (OR_at S)]) (rest := [.ref (a 0)]) hx hb hml hown hts (c_X0_signAt l D cI cJ cS a S (OR_at S) _ hr1) (cwV 1 hts gX0_read_X0_signAt rfl rfl rfl (by decide +kernel) ⟨(Nat.le_of_ble_eq_true rfl), (Nat.le_of_ble_eq_true rfl)⟩) hE hP rfl rfl rfl hl.1 rfl (Nat.le_of_ble_eq_true rfl) dX0_read_6 ⟨Nat.zero_le _, Nat.zero_le _⟩ ?_
  obtain ⟨S2, eS2, hf⟩ := q_let_go hf
  refine va_put (D := D) (ci := 0) (v := .int r1) (ty := .int) (C := RX0) (T := TX0) (N := 8) hx hb hu (fun _ h => h) tyX0 tyX0_ok nmX0 hown hE.1 hP hD hS 0 rfl rfl 4 (Nat.le_of_ble_eq_true rfl) (hts (.fieldLink RX0 39 "CoverMeter$Orders" "kind" "I") (List.mem_of_getElem? (i := 2) rfl)) (fun _ h9 => h9) rfl (by decide +kernel) rfl rfl (Nat.le_of_ble_eq_true rfl) dX0_read_9 (fun H locs hP hD hS => ?_)
  have hP : va_P D vwCl (wOR cI cJ a (sOR_kind S r1)) H := hP
  have hD : va_D (va_A (wOR cI cJ a S) s.heap.size) (wOR cI cJ a (sOR_kind S r1)) := hD
  rw [eS2] at hP hD
  refine lv_aload_n hx hb dX0_read_12 rfl (lv_at hl 0 rfl) ?_
  refine va_get (D := D) (ci := 0) (v := .int (OR_kind S2)) (C := RX0) (T := TX0) (N := 8) hx hb hu (fun _ h => h) hown hE.1 hP 0 rfl rfl 4 (Nat.le_of_ble_eq_true rfl) (hts (.fieldLink RX0 39 "CoverMeter$Orders" "kind" "I") (List.mem_of_getElem? (i := 2) rfl)) (fun _ h9 => h9) rfl dX0_read_13 ?_
  by_cases c3_0 : (OR_kind S2) = 97
  · have hf := q_ite_t c3_0 hf
    refine lv_lookup (off := 44) (tgt := 60) hx hb dX0_read_16 (by decide) (by rw [c3_0]; try decide) (by decide) ?_
    refine lv_aload_n hx hb dX0_read_60 rfl (lv_at hl 0 rfl) ?_
    refine lv_dup hx hb dX0_read_61 rfl ?_
    refine va_get (D := D) (ci := 0) (v := .int (OR_at S2)) (C := RX0) (T := TX0) (N := 8) hx hb hu (fun _ h => h) hown hE.1 hP 0 rfl rfl 2 (Nat.le_of_ble_eq_true rfl) (hts (.fieldLink RX0 15 "CoverMeter$Orders" "at" "I") (List.mem_of_getElem? (i := 1) rfl)) (fun _ h9 => h9) rfl dX0_read_62 ?_
    refine lv_iconst (v := 1) hx hb dX0_read_65 (by decide) ?_
    refine lv_iadd hx hb dX0_read_66 ?_
    obtain ⟨S4, eS4, hf⟩ := q_let_go hf
    refine va_put (D := D) (ci := 0) (v := .int ((OR_at S2) + 1)) (ty := .int) (C := RX0) (T := TX0) (N := 8) hx hb hu (fun _ h => h) tyX0 tyX0_ok nmX0 hown hE.1 hP hD hS 0 rfl rfl 2 (Nat.le_of_ble_eq_true rfl) (hts (.fieldLink RX0 15 "CoverMeter$Orders" "at" "I") (List.mem_of_getElem? (i := 1) rfl)) (fun _ h9 => h9) rfl (by decide +kernel) rfl rfl (Nat.le_of_ble_eq_true rfl) dX0_read_67 (fun H locs hP hD hS => ?_)
    have hP : va_P D vwCl (wOR cI cJ a (sOR_at S2 ((OR_at S2) + 1))) H := hP
    have hD : va_D (va_A (wOR cI cJ a S) s.heap.size) (wOR cI cJ a (sOR_at S2 ((OR_at S2) + 1))) := hD
    rw [eS4] at hP hD
    refine lv_aload_n hx hb dX0_read_70 rfl (lv_at hl 0 rfl) ?_
    refine lv_aload_n hx hb dX0_read_71 rfl (lv_at hl 0 rfl) ?_
    obtain ⟨r5, hr5, hf⟩ := q_bd_go hf
    refine q_wrVi (ci := 0) (As := []) (rest := [.ref (a 0)]) hx hb hml hown hts (c_X0_readPerson l D cI cJ cS a S4 _  _ hr5) (cwV 0 hts gX0_read_X0_readPerson rfl rfl rfl (by decide +kernel) ⟨(Nat.le_of_ble_eq_true rfl), (Nat.le_of_ble_eq_true rfl)⟩) hE hP hD hS (fun q h => Or.inr h) rfl rfl rfl hl.1 rfl (Nat.le_of_ble_eq_true rfl) dX0_read_72 ⟨Nat.zero_le _, Nat.zero_le _⟩ (fun H locs hP hD hS => ?_)
    obtain ⟨S6, eS6, hf⟩ := q_let_go hf
    refine va_put (D := D) (ci := 0) (v := .int r5.1) (ty := .int) (C := RX0) (T := TX0) (N := 8) hx hb hu (fun _ h => h) tyX0 tyX0_ok nmX0 hown hE.1 hP hD hS 0 rfl rfl 5 (Nat.le_of_ble_eq_true rfl) (hts (.fieldLink RX0 46 "CoverMeter$Orders" "person" "I") (List.mem_of_getElem? (i := 3) rfl)) (fun _ h9 => h9) rfl (by decide +kernel) rfl rfl (Nat.le_of_ble_eq_true rfl) dX0_read_75 (fun H locs hP hD hS => ?_)
    have hP : va_P D vwCl (wOR cI cJ a (sOR_person r5.2 r5.1)) H := hP
    have hD : va_D (va_A (wOR cI cJ a S) s.heap.size) (wOR cI cJ a (sOR_person r5.2 r5.1)) := hD
    rw [eS6] at hP hD
    refine lv_aload_n hx hb dX0_read_78 rfl (lv_at hl 0 rfl) ?_
    refine lv_bipush (v := 44) hx hb dX0_read_79 (by decide) ?_
    obtain ⟨r7, hr7, hf⟩ := q_bd_go hf
    refine q_wrVv (ci := 0) (As := [.int 44]) (rest := []) hx hb hml hown hts (c_X0_expect l D cI cJ cS a S6 _ 44 _ hr7) (cwV 1 hts gX0_read_X0_expect rfl rfl rfl (by decide +kernel) ⟨(Nat.le_of_ble_eq_true rfl), (Nat.le_of_ble_eq_true rfl)⟩) hE hP hD hS (fun q h => Or.inr h) rfl rfl rfl hl.1 rfl (Nat.le_of_ble_eq_true rfl) dX0_read_81 ⟨Nat.zero_le _, Nat.zero_le _⟩ (fun H locs hP hD hS => ?_)
    refine lv_aload_n hx hb dX0_read_84 rfl (lv_at hl 0 rfl) ?_
    refine lv_aload_n hx hb dX0_read_85 rfl (lv_at hl 0 rfl) ?_
    refine lv_bipush (v := 41) hx hb dX0_read_86 (by decide) ?_
    obtain ⟨r8, hr8, hf⟩ := q_bd_go hf
    refine q_wrVi (ci := 0) (As := [.int 41]) (rest := [.ref (a 0)]) hx hb hml hown hts (c_X0_readNumber l D cI cJ cS a r7 _ 41 _ hr8) (cwV 1 hts gX0_read_X0_readNumber rfl rfl rfl (by decide +kernel) ⟨(Nat.le_of_ble_eq_true rfl), (Nat.le_of_ble_eq_true rfl)⟩) hE hP hD hS (fun q h => Or.inr h) rfl rfl rfl hl.1 rfl (Nat.le_of_ble_eq_true rfl) dX0_read_88 ⟨Nat.zero_le _, Nat.zero_le _⟩ (fun H locs hP hD hS => ?_)
    obtain ⟨S9, eS9, hf⟩ := q_let_go hf
    refine va_put (D := D) (ci := 0) (v := .int r8.1) (ty := .int) (C := RX0) (T := TX0) (N := 8) hx hb hu (fun _ h => h) tyX0 tyX0_ok nmX0 hown hE.1 hP hD hS 0 rfl rfl 6 (Nat.le_of_ble_eq_true rfl) (hts (.fieldLink RX0 56 "CoverMeter$Orders" "number" "I") (List.mem_of_getElem? (i := 4) rfl)) (fun _ h9 => h9) rfl (by decide +kernel) rfl rfl (Nat.le_of_ble_eq_true rfl) dX0_read_91 (fun H locs hP hD hS => ?_)
    have hP : va_P D vwCl (wOR cI cJ a (sOR_number r8.2 r8.1)) H := hP
    have hD : va_D (va_A (wOR cI cJ a S) s.heap.size) (wOR cI cJ a (sOR_number r8.2 r8.1)) := hD
    rw [eS9] at hP hD
    refine lv_goto (tgt := 194) hx hb dX0_read_94 (by decide) ?_
    refine lv_aload_n hx hb dX0_read_194 rfl (lv_at hl 0 rfl) ?_
    refine lv_bipush (v := 59) hx hb dX0_read_195 (by decide) ?_
    obtain ⟨r10, hr10, hf⟩ := q_bd_go hf
    refine q_wrVv (ci := 0) (As := [.int 59]) (rest := []) hx hb hml hown hts (c_X0_expect l D cI cJ cS a S9 _ 59 _ hr10) (cwV 1 hts gX0_read_X0_expect rfl rfl rfl (by decide +kernel) ⟨(Nat.le_of_ble_eq_true rfl), (Nat.le_of_ble_eq_true rfl)⟩) hE hP hD hS (fun q h => Or.inr h) rfl rfl rfl hl.1 rfl (Nat.le_of_ble_eq_true rfl) dX0_read_197 ⟨Nat.zero_le _, Nat.zero_le _⟩ (fun H locs hP hD hS => ?_)
    have ho := q_some hf
    subst ho
    exact W.vret hx hb hr (fun t ht hW => ⟨rfl, ⟨by rw [ht]; exact hP, hD⟩, hS.F ht⟩) hS.2.2 dX0_read_200
  have hf := q_ite_f c3_0 hf
  by_cases c3_1 : (OR_kind S2) = 98
  · have hf := q_ite_t c3_1 hf
    refine lv_lookup (off := 81) (tgt := 97) hx hb dX0_read_16 (by decide) (by rw [c3_1]; try decide) (by decide) ?_
    refine lv_aload_n hx hb dX0_read_97 rfl (lv_at hl 0 rfl) ?_
    refine lv_dup hx hb dX0_read_98 rfl ?_
    refine va_get (D := D) (ci := 0) (v := .int (OR_at S2)) (C := RX0) (T := TX0) (N := 8) hx hb hu (fun _ h => h) hown hE.1 hP 0 rfl rfl 2 (Nat.le_of_ble_eq_true rfl) (hts (.fieldLink RX0 15 "CoverMeter$Orders" "at" "I") (List.mem_of_getElem? (i := 1) rfl)) (fun _ h9 => h9) rfl dX0_read_99 ?_
    refine lv_iconst (v := 1) hx hb dX0_read_102 (by decide) ?_
    refine lv_iadd hx hb dX0_read_103 ?_
    obtain ⟨S11, eS11, hf⟩ := q_let_go hf
    refine va_put (D := D) (ci := 0) (v := .int ((OR_at S2) + 1)) (ty := .int) (C := RX0) (T := TX0) (N := 8) hx hb hu (fun _ h => h) tyX0 tyX0_ok nmX0 hown hE.1 hP hD hS 0 rfl rfl 2 (Nat.le_of_ble_eq_true rfl) (hts (.fieldLink RX0 15 "CoverMeter$Orders" "at" "I") (List.mem_of_getElem? (i := 1) rfl)) (fun _ h9 => h9) rfl (by decide +kernel) rfl rfl (Nat.le_of_ble_eq_true rfl) dX0_read_104 (fun H locs hP hD hS => ?_)
    have hP : va_P D vwCl (wOR cI cJ a (sOR_at S2 ((OR_at S2) + 1))) H := hP
    have hD : va_D (va_A (wOR cI cJ a S) s.heap.size) (wOR cI cJ a (sOR_at S2 ((OR_at S2) + 1))) := hD
    rw [eS11] at hP hD
    refine lv_aload_n hx hb dX0_read_107 rfl (lv_at hl 0 rfl) ?_
    refine lv_aload_n hx hb dX0_read_108 rfl (lv_at hl 0 rfl) ?_
    obtain ⟨r12, hr12, hf⟩ := q_bd_go hf
    refine q_wrVi (ci := 0) (As := []) (rest := [.ref (a 0)]) hx hb hml hown hts (c_X0_readPerson l D cI cJ cS a S11 _  _ hr12) (cwV 0 hts gX0_read_X0_readPerson rfl rfl rfl (by decide +kernel) ⟨(Nat.le_of_ble_eq_true rfl), (Nat.le_of_ble_eq_true rfl)⟩) hE hP hD hS (fun q h => Or.inr h) rfl rfl rfl hl.1 rfl (Nat.le_of_ble_eq_true rfl) dX0_read_109 ⟨Nat.zero_le _, Nat.zero_le _⟩ (fun H locs hP hD hS => ?_)
    obtain ⟨S13, eS13, hf⟩ := q_let_go hf
    refine va_put (D := D) (ci := 0) (v := .int r12.1) (ty := .int) (C := RX0) (T := TX0) (N := 8) hx hb hu (fun _ h => h) tyX0 tyX0_ok nmX0 hown hE.1 hP hD hS 0 rfl rfl 5 (Nat.le_of_ble_eq_true rfl) (hts (.fieldLink RX0 46 "CoverMeter$Orders" "person" "I") (List.mem_of_getElem? (i := 3) rfl)) (fun _ h9 => h9) rfl (by decide +kernel) rfl rfl (Nat.le_of_ble_eq_true rfl) dX0_read_112 (fun H locs hP hD hS => ?_)
    have hP : va_P D vwCl (wOR cI cJ a (sOR_person r12.2 r12.1)) H := hP
    have hD : va_D (va_A (wOR cI cJ a S) s.heap.size) (wOR cI cJ a (sOR_person r12.2 r12.1)) := hD
    rw [eS13] at hP hD
    refine lv_aload_n hx hb dX0_read_115 rfl (lv_at hl 0 rfl) ?_
    refine lv_bipush (v := 44) hx hb dX0_read_116 (by decide) ?_
    obtain ⟨r14, hr14, hf⟩ := q_bd_go hf
    refine q_wrVv (ci := 0) (As := [.int 44]) (rest := []) hx hb hml hown hts (c_X0_expect l D cI cJ cS a S13 _ 44 _ hr14) (cwV 1 hts gX0_read_X0_expect rfl rfl rfl (by decide +kernel) ⟨(Nat.le_of_ble_eq_true rfl), (Nat.le_of_ble_eq_true rfl)⟩) hE hP hD hS (fun q h => Or.inr h) rfl rfl rfl hl.1 rfl (Nat.le_of_ble_eq_true rfl) dX0_read_118 ⟨Nat.zero_le _, Nat.zero_le _⟩ (fun H locs hP hD hS => ?_)
    refine lv_aload_n hx hb dX0_read_121 rfl (lv_at hl 0 rfl) ?_
    refine lv_aload_n hx hb dX0_read_122 rfl (lv_at hl 0 rfl) ?_
    refine lv_bipush (v := 29) hx hb dX0_read_123 (by decide) ?_
    obtain ⟨r15, hr15, hf⟩ := q_bd_go hf
    refine q_wrVi (ci := 0) (As := [.int 29]) (rest := [.ref (a 0)]) hx hb hml hown hts (c_X0_readNumber l D cI cJ cS a r14 _ 29 _ hr15) (cwV 1 hts gX0_read_X0_readNumber rfl rfl rfl (by decide +kernel) ⟨(Nat.le_of_ble_eq_true rfl), (Nat.le_of_ble_eq_true rfl)⟩) hE hP hD hS (fun q h => Or.inr h) rfl rfl rfl hl.1 rfl (Nat.le_of_ble_eq_true rfl) dX0_read_125 ⟨Nat.zero_le _, Nat.zero_le _⟩ (fun H locs hP hD hS => ?_)
    obtain ⟨S16, eS16, hf⟩ := q_let_go hf
    refine va_put (D := D) (ci := 0) (v := .int r15.1) (ty := .int) (C := RX0) (T := TX0) (N := 8) hx hb hu (fun _ h => h) tyX0 tyX0_ok nmX0 hown hE.1 hP hD hS 0 rfl rfl 6 (Nat.le_of_ble_eq_true rfl) (hts (.fieldLink RX0 56 "CoverMeter$Orders" "number" "I") (List.mem_of_getElem? (i := 4) rfl)) (fun _ h9 => h9) rfl (by decide +kernel) rfl rfl (Nat.le_of_ble_eq_true rfl) dX0_read_128 (fun H locs hP hD hS => ?_)
    have hP : va_P D vwCl (wOR cI cJ a (sOR_number r15.2 r15.1)) H := hP
    have hD : va_D (va_A (wOR cI cJ a S) s.heap.size) (wOR cI cJ a (sOR_number r15.2 r15.1)) := hD
    rw [eS16] at hP hD
    refine lv_aload_n hx hb dX0_read_131 rfl (lv_at hl 0 rfl) ?_
    refine lv_bipush (v := 44) hx hb dX0_read_132 (by decide) ?_
    obtain ⟨r17, hr17, hf⟩ := q_bd_go hf
    refine q_wrVv (ci := 0) (As := [.int 44]) (rest := []) hx hb hml hown hts (c_X0_expect l D cI cJ cS a S16 _ 44 _ hr17) (cwV 1 hts gX0_read_X0_expect rfl rfl rfl (by decide +kernel) ⟨(Nat.le_of_ble_eq_true rfl), (Nat.le_of_ble_eq_true rfl)⟩) hE hP hD hS (fun q h => Or.inr h) rfl rfl rfl hl.1 rfl (Nat.le_of_ble_eq_true rfl) dX0_read_134 ⟨Nat.zero_le _, Nat.zero_le _⟩ (fun H locs hP hD hS => ?_)
    refine lv_aload_n hx hb dX0_read_137 rfl (lv_at hl 0 rfl) ?_
    refine lv_aload_n hx hb dX0_read_138 rfl (lv_at hl 0 rfl) ?_
    refine lv_bipush (v := 50) hx hb dX0_read_139 (by decide) ?_
    obtain ⟨r18, hr18, hf⟩ := q_bd_go hf
    refine q_wrVi (ci := 0) (As := [.int 50]) (rest := [.ref (a 0)]) hx hb hml hown hts (c_X0_readNumber l D cI cJ cS a r17 _ 50 _ hr18) (cwV 1 hts gX0_read_X0_readNumber rfl rfl rfl (by decide +kernel) ⟨(Nat.le_of_ble_eq_true rfl), (Nat.le_of_ble_eq_true rfl)⟩) hE hP hD hS (fun q h => Or.inr h) rfl rfl rfl hl.1 rfl (Nat.le_of_ble_eq_true rfl) dX0_read_141 ⟨Nat.zero_le _, Nat.zero_le _⟩ (fun H locs hP hD hS => ?_)
    obtain ⟨S19, eS19, hf⟩ := q_let_go hf
    refine va_put (D := D) (ci := 0) (v := .int r18.1) (ty := .int) (C := RX0) (T := TX0) (N := 8) hx hb hu (fun _ h => h) tyX0 tyX0_ok nmX0 hown hE.1 hP hD hS 0 rfl rfl 7 (Nat.le_of_ble_eq_true rfl) (hts (.fieldLink RX0 59 "CoverMeter$Orders" "points" "I") (List.mem_of_getElem? (i := 5) rfl)) (fun _ h9 => h9) rfl (by decide +kernel) rfl rfl (Nat.le_of_ble_eq_true rfl) dX0_read_144 (fun H locs hP hD hS => ?_)
    have hP : va_P D vwCl (wOR cI cJ a (sOR_points r18.2 r18.1)) H := hP
    have hD : va_D (va_A (wOR cI cJ a S) s.heap.size) (wOR cI cJ a (sOR_points r18.2 r18.1)) := hD
    rw [eS19] at hP hD
    refine lv_goto (tgt := 194) hx hb dX0_read_147 (by decide) ?_
    refine lv_aload_n hx hb dX0_read_194 rfl (lv_at hl 0 rfl) ?_
    refine lv_bipush (v := 59) hx hb dX0_read_195 (by decide) ?_
    obtain ⟨r20, hr20, hf⟩ := q_bd_go hf
    refine q_wrVv (ci := 0) (As := [.int 59]) (rest := []) hx hb hml hown hts (c_X0_expect l D cI cJ cS a S19 _ 59 _ hr20) (cwV 1 hts gX0_read_X0_expect rfl rfl rfl (by decide +kernel) ⟨(Nat.le_of_ble_eq_true rfl), (Nat.le_of_ble_eq_true rfl)⟩) hE hP hD hS (fun q h => Or.inr h) rfl rfl rfl hl.1 rfl (Nat.le_of_ble_eq_true rfl) dX0_read_197 ⟨Nat.zero_le _, Nat.zero_le _⟩ (fun H locs hP hD hS => ?_)
    have ho := q_some hf
    subst ho
    exact W.vret hx hb hr (fun t ht hW => ⟨rfl, ⟨by rw [ht]; exact hP, hD⟩, hS.F ht⟩) hS.2.2 dX0_read_200
  have hf := q_ite_f c3_1 hf
  by_cases c3_2 : (OR_kind S2) = 99
  · have hf := q_ite_t c3_2 hf
    refine lv_lookup (off := 134) (tgt := 150) hx hb dX0_read_16 (by decide) (by rw [c3_2]; try decide) (by decide) ?_
    refine lv_aload_n hx hb dX0_read_150 rfl (lv_at hl 0 rfl) ?_
    refine lv_dup hx hb dX0_read_151 rfl ?_
    refine va_get (D := D) (ci := 0) (v := .int (OR_at S2)) (C := RX0) (T := TX0) (N := 8) hx hb hu (fun _ h => h) hown hE.1 hP 0 rfl rfl 2 (Nat.le_of_ble_eq_true rfl) (hts (.fieldLink RX0 15 "CoverMeter$Orders" "at" "I") (List.mem_of_getElem? (i := 1) rfl)) (fun _ h9 => h9) rfl dX0_read_152 ?_
    refine lv_iconst (v := 1) hx hb dX0_read_155 (by decide) ?_
    refine lv_iadd hx hb dX0_read_156 ?_
    obtain ⟨S21, eS21, hf⟩ := q_let_go hf
    refine va_put (D := D) (ci := 0) (v := .int ((OR_at S2) + 1)) (ty := .int) (C := RX0) (T := TX0) (N := 8) hx hb hu (fun _ h => h) tyX0 tyX0_ok nmX0 hown hE.1 hP hD hS 0 rfl rfl 2 (Nat.le_of_ble_eq_true rfl) (hts (.fieldLink RX0 15 "CoverMeter$Orders" "at" "I") (List.mem_of_getElem? (i := 1) rfl)) (fun _ h9 => h9) rfl (by decide +kernel) rfl rfl (Nat.le_of_ble_eq_true rfl) dX0_read_157 (fun H locs hP hD hS => ?_)
    have hP : va_P D vwCl (wOR cI cJ a (sOR_at S2 ((OR_at S2) + 1))) H := hP
    have hD : va_D (va_A (wOR cI cJ a S) s.heap.size) (wOR cI cJ a (sOR_at S2 ((OR_at S2) + 1))) := hD
    rw [eS21] at hP hD
    refine lv_aload_n hx hb dX0_read_160 rfl (lv_at hl 0 rfl) ?_
    refine lv_aload_n hx hb dX0_read_161 rfl (lv_at hl 0 rfl) ?_
    refine lv_bipush (v := 29) hx hb dX0_read_162 (by decide) ?_
    obtain ⟨r22, hr22, hf⟩ := q_bd_go hf
    refine q_wrVi (ci := 0) (As := [.int 29]) (rest := [.ref (a 0)]) hx hb hml hown hts (c_X0_readNumber l D cI cJ cS a S21 _ 29 _ hr22) (cwV 1 hts gX0_read_X0_readNumber rfl rfl rfl (by decide +kernel) ⟨(Nat.le_of_ble_eq_true rfl), (Nat.le_of_ble_eq_true rfl)⟩) hE hP hD hS (fun q h => Or.inr h) rfl rfl rfl hl.1 rfl (Nat.le_of_ble_eq_true rfl) dX0_read_164 ⟨Nat.zero_le _, Nat.zero_le _⟩ (fun H locs hP hD hS => ?_)
    obtain ⟨S23, eS23, hf⟩ := q_let_go hf
    refine va_put (D := D) (ci := 0) (v := .int r22.1) (ty := .int) (C := RX0) (T := TX0) (N := 8) hx hb hu (fun _ h => h) tyX0 tyX0_ok nmX0 hown hE.1 hP hD hS 0 rfl rfl 6 (Nat.le_of_ble_eq_true rfl) (hts (.fieldLink RX0 56 "CoverMeter$Orders" "number" "I") (List.mem_of_getElem? (i := 4) rfl)) (fun _ h9 => h9) rfl (by decide +kernel) rfl rfl (Nat.le_of_ble_eq_true rfl) dX0_read_167 (fun H locs hP hD hS => ?_)
    have hP : va_P D vwCl (wOR cI cJ a (sOR_number r22.2 r22.1)) H := hP
    have hD : va_D (va_A (wOR cI cJ a S) s.heap.size) (wOR cI cJ a (sOR_number r22.2 r22.1)) := hD
    rw [eS23] at hP hD
    refine lv_goto (tgt := 194) hx hb dX0_read_170 (by decide) ?_
    refine lv_aload_n hx hb dX0_read_194 rfl (lv_at hl 0 rfl) ?_
    refine lv_bipush (v := 59) hx hb dX0_read_195 (by decide) ?_
    obtain ⟨r24, hr24, hf⟩ := q_bd_go hf
    refine q_wrVv (ci := 0) (As := [.int 59]) (rest := []) hx hb hml hown hts (c_X0_expect l D cI cJ cS a S23 _ 59 _ hr24) (cwV 1 hts gX0_read_X0_expect rfl rfl rfl (by decide +kernel) ⟨(Nat.le_of_ble_eq_true rfl), (Nat.le_of_ble_eq_true rfl)⟩) hE hP hD hS (fun q h => Or.inr h) rfl rfl rfl hl.1 rfl (Nat.le_of_ble_eq_true rfl) dX0_read_197 ⟨Nat.zero_le _, Nat.zero_le _⟩ (fun H locs hP hD hS => ?_)
    have ho := q_some hf
    subst ho
    exact W.vret hx hb hr (fun t ht hW => ⟨rfl, ⟨by rw [ht]; exact hP, hD⟩, hS.F ht⟩) hS.2.2 dX0_read_200
  have hf := q_ite_f c3_2 hf
  by_cases c3_3 : (OR_kind S2) = 122
  · have hf := q_ite_t c3_3 hf
    refine lv_lookup (off := 157) (tgt := 173) hx hb dX0_read_16 (by decide) (by rw [c3_3]; try decide) (by decide) ?_
    refine lv_aload_n hx hb dX0_read_173 rfl (lv_at hl 0 rfl) ?_
    refine lv_dup hx hb dX0_read_174 rfl ?_
    refine va_get (D := D) (ci := 0) (v := .int (OR_at S2)) (C := RX0) (T := TX0) (N := 8) hx hb hu (fun _ h => h) hown hE.1 hP 0 rfl rfl 2 (Nat.le_of_ble_eq_true rfl) (hts (.fieldLink RX0 15 "CoverMeter$Orders" "at" "I") (List.mem_of_getElem? (i := 1) rfl)) (fun _ h9 => h9) rfl dX0_read_175 ?_
    refine lv_iconst (v := 1) hx hb dX0_read_178 (by decide) ?_
    refine lv_iadd hx hb dX0_read_179 ?_
    obtain ⟨S25, eS25, hf⟩ := q_let_go hf
    refine va_put (D := D) (ci := 0) (v := .int ((OR_at S2) + 1)) (ty := .int) (C := RX0) (T := TX0) (N := 8) hx hb hu (fun _ h => h) tyX0 tyX0_ok nmX0 hown hE.1 hP hD hS 0 rfl rfl 2 (Nat.le_of_ble_eq_true rfl) (hts (.fieldLink RX0 15 "CoverMeter$Orders" "at" "I") (List.mem_of_getElem? (i := 1) rfl)) (fun _ h9 => h9) rfl (by decide +kernel) rfl rfl (Nat.le_of_ble_eq_true rfl) dX0_read_180 (fun H locs hP hD hS => ?_)
    have hP : va_P D vwCl (wOR cI cJ a (sOR_at S2 ((OR_at S2) + 1))) H := hP
    have hD : va_D (va_A (wOR cI cJ a S) s.heap.size) (wOR cI cJ a (sOR_at S2 ((OR_at S2) + 1))) := hD
    rw [eS25] at hP hD
    refine lv_goto (tgt := 194) hx hb dX0_read_183 (by decide) ?_
    refine lv_aload_n hx hb dX0_read_194 rfl (lv_at hl 0 rfl) ?_
    refine lv_bipush (v := 59) hx hb dX0_read_195 (by decide) ?_
    obtain ⟨r26, hr26, hf⟩ := q_bd_go hf
    refine q_wrVv (ci := 0) (As := [.int 59]) (rest := []) hx hb hml hown hts (c_X0_expect l D cI cJ cS a S25 _ 59 _ hr26) (cwV 1 hts gX0_read_X0_expect rfl rfl rfl (by decide +kernel) ⟨(Nat.le_of_ble_eq_true rfl), (Nat.le_of_ble_eq_true rfl)⟩) hE hP hD hS (fun q h => Or.inr h) rfl rfl rfl hl.1 rfl (Nat.le_of_ble_eq_true rfl) dX0_read_197 ⟨Nat.zero_le _, Nat.zero_le _⟩ (fun H locs hP hD hS => ?_)
    have ho := q_some hf
    subst ho
    exact W.vret hx hb hr (fun t ht hW => ⟨rfl, ⟨by rw [ht]; exact hP, hD⟩, hS.F ht⟩) hS.2.2 dX0_read_200
  have hf := q_ite_f c3_3 hf
  refine lv_lookup (off := 170) (tgt := 186) hx hb dX0_read_16 (by decide) ((lv_osw c3_0 (by decide)).trans ((lv_osw c3_1 (by decide)).trans ((lv_osw c3_2 (by decide)).trans ((lv_osw c3_3 (by decide)).trans rfl)))) (by decide) ?_
  refine lv_aload_n hx hb dX0_read_186 rfl (lv_at hl 0 rfl) ?_
  refine lv_aload_n hx hb dX0_read_187 rfl (lv_at hl 0 rfl) ?_
  refine va_get (D := D) (ci := 0) (v := .int (OR_at S2)) (C := RX0) (T := TX0) (N := 8) hx hb hu (fun _ h => h) hown hE.1 hP 0 rfl rfl 2 (Nat.le_of_ble_eq_true rfl) (hts (.fieldLink RX0 15 "CoverMeter$Orders" "at" "I") (List.mem_of_getElem? (i := 1) rfl)) (fun _ h9 => h9) rfl dX0_read_188 ?_
  obtain ⟨r27, hr27, hf⟩ := q_bd_go hf
  refine q_wrVv (ci := 0) (As := [.int (OR_at S2)]) (rest := []) hx hb hml hown hts (c_X0_fail l D cI cJ cS a S2 _ (OR_at S2) _ hr27) (cwV 1 hts gX0_read_X0_fail rfl rfl rfl (by decide +kernel) ⟨(Nat.le_of_ble_eq_true rfl), (Nat.le_of_ble_eq_true rfl)⟩) hE hP hD hS (fun q h => Or.inr h) rfl rfl rfl hl.1 rfl (Nat.le_of_ble_eq_true rfl) dX0_read_191 ⟨Nat.zero_le _, Nat.zero_le _⟩ (fun H locs hP hD hS => ?_)
  refine lv_aload_n hx hb dX0_read_194 rfl (lv_at hl 0 rfl) ?_
  refine lv_bipush (v := 59) hx hb dX0_read_195 (by decide) ?_
  obtain ⟨r28, hr28, hf⟩ := q_bd_go hf
  refine q_wrVv (ci := 0) (As := [.int 59]) (rest := []) hx hb hml hown hts (c_X0_expect l D cI cJ cS a r27 _ 59 _ hr28) (cwV 1 hts gX0_read_X0_expect rfl rfl rfl (by decide +kernel) ⟨(Nat.le_of_ble_eq_true rfl), (Nat.le_of_ble_eq_true rfl)⟩) hE hP hD hS (fun q h => Or.inr h) rfl rfl rfl hl.1 rfl (Nat.le_of_ble_eq_true rfl) dX0_read_197 ⟨Nat.zero_le _, Nat.zero_le _⟩ (fun H locs hP hD hS => ?_)
  have ho := q_some hf
  subst ho
  exact W.vret hx hb hr (fun t ht hW => ⟨rfl, ⟨by rw [ht]; exact hP, hD⟩, hS.F ht⟩) hS.2.2 dX0_read_200
def f_X0_errorPosition_6 : Nat → OR → Int32 → Option (Int32 × OR)
  | 0, _, _ => none
  | n+1, Sz, l1 => if (OR_length Sz) ≤ l1 then
 (some ((OR_error Sz), Sz))
 else ((f_X0_hasMore Sz).bind fun r3 =>
 if r3 = 0 then
 (some ((OR_error Sz), Sz))
 else (if ¬ (OR_error Sz) = (-1) then
 (some ((OR_error Sz), Sz))
 else ((f_X0_read Sz).bind fun r6 =>
 q_let (l1 + 1) fun v7 =>
 f_X0_errorPosition_6 n r6 v7)))
def f_X0_errorPosition (S : OR) : Option (Int32 × OR) := (f_X0_start S).bind fun r1 =>
 f_X0_errorPosition_6 2000 r1 0
abbrev rX0_errorPosition : Room := { frames := 3, cells := 0, slots := 0, locals := 65 }
set_option maxRecDepth 100000 in
set_option maxHeartbeats 4000000 in
theorem c_X0_errorPosition (l : Launch) (D : va_G) (cI cJ cS : ClassId) (a : Nat → Nat) (S : OR) (sz : Nat) (o : (Int32 × OR)) (hf : f_X0_errorPosition S = some o) : Met l yX0_errorPosition wsX0_errorPosition rX0_errorPosition (va_Pc [.ref (a 0)] (q_BW D cI cJ cS (wOR cI cJ a S) sz)) (q_Wo (some (.int o.1)) D (wOR cI cJ a S) (wOR cI cJ a o.2) sz) 0 0 (va_A (wOR cI cJ a S) sz) := by
  refine Met.ofW (cc := cX0_errorPosition) (maxL := 2) (ret := some .int) (by decide) rfl ?_
  intro p e s m args below meth c s₁ B hml hv
  obtain ⟨rfl, hsz, hP, hE, hD0⟩ := hv
  have hx := B.exec
  have hb := B.bytes
  have hr := B.returns
  have hts := atoms_spec (ws := wsX0_errorPosition) B.pre
  have hown : s.vm.findClass RX0 = some m.cls := findClass_of_methodNamed B.named
  have hlocks := B.notSynchronized
  have hu : ∀ z ∈ wsX00, z.before _ s = true := fun z h => hts z (List.mem_cons_of_mem _ (List.mem_append_right _ h))
  subst hsz
  have hD := hD0.self (sz := s.heap.size)
  have hS : va_S (va_A (wOR cI cJ a S) s.heap.size) s.heap s.heap [] := va_S.rf
  have L_6 : ∀ (n : Nat) (Sz : OR) (H : Heap) (locs : List Loc) (hP : va_P D vwCl (wOR cI cJ a Sz) H) (hD : va_D (va_A (wOR cI cJ a S) s.heap.size) (wOR cI cJ a Sz)) (hS : va_S (va_A (wOR cI cJ a S) s.heap.size) s.heap H locs) (l1 : Int32) (ls : Array Slot), lv_has ls 2 [(0, .ref (a 0)), (1, .int l1)] → f_X0_errorPosition_6 n Sz l1 = some o → W p l e (headSpec wsX0_errorPosition rX0_errorPosition).room s m (([.ref (a 0)] : List Value).toArray) below meth c H locs 0 0 (MQ below (q_Wo (some (.int o.1)) D (wOR cI cJ a S) (wOR cI cJ a o.2) s.heap.size) (([.ref (a 0)] : List Value).toArray) s 0 0 (va_A (wOR cI cJ a S) s.heap.size)) (F0 m 6 ls []) := by
    intro n
    induction n with
    | zero => intro Sz H locs hP hD hS l1 ls hl hf; cases hf
    | succ n ih =>
      intro Sz H locs hP hD hS l1 ls hl hf
      rw [f_X0_errorPosition_6] at hf
      refine lv_iload_n hx hb dX0_errorPosition_6 rfl (lv_at hl 1 rfl) ?_
      refine lv_aload_n hx hb dX0_errorPosition_7 rfl (lv_at hl 0 rfl) ?_
      refine va_get (D := D) (ci := 0) (v := .int (OR_length Sz)) (C := RX0) (T := TX0) (N := 8) hx hb hu (fun _ h => h) hown hE.1 hP 0 rfl rfl 1 (Nat.le_of_ble_eq_true rfl) (hts (.fieldLink RX0 22 "CoverMeter$Orders" "length" "I") (List.mem_of_getElem? (i := 1) rfl)) (fun _ h9 => h9) rfl dX0_errorPosition_8 ?_
      refine lv_icmp_ge (tgt := 39) hx hb dX0_errorPosition_11 (by decide) (fun c2 => ?_) (fun c2 => ?_)
      · have hf := q_ite_t c2 hf
        refine lv_aload_n hx hb dX0_errorPosition_39 rfl (lv_at hl 0 rfl) ?_
        refine va_get (D := D) (ci := 0) (v := .int (OR_error Sz)) (C := RX0) (T := TX0) (N := 8) hx hb hu (fun _ h => h) hown hE.1 hP 0 rfl rfl 3 (Nat.le_of_ble_eq_true rfl) (hts (.fieldLink RX0 19 "CoverMeter$Orders" "error" "I") (List.mem_of_getElem? (i := 2) rfl)) (fun _ h9 => h9) rfl dX0_errorPosition_40 ?_
        have ho := q_some hf
        subst ho
        exact W.iret hx hb hr (fun t ht hW => ⟨rfl, ⟨by rw [ht]; exact hP, hD⟩, hS.F ht⟩) hS.2.2 dX0_errorPosition_43
      · have hf := q_ite_f c2 hf
        refine lv_aload_n hx hb dX0_errorPosition_14 rfl (lv_at hl 0 rfl) ?_
        obtain ⟨r3, hr3, hf⟩ := q_bd_go hf
        refine q_rdVi (ci := 0) (As := []) (rest := []) hx hb hml hown hts (c_X0_hasMore l D cI cJ cS a Sz  _ hr3) (cwV 0 hts gX0_errorPosition_X0_hasMore rfl rfl rfl (by decide +kernel) ⟨(Nat.le_of_ble_eq_true rfl), (Nat.le_of_ble_eq_true rfl)⟩) hE hP rfl rfl rfl hl.1 rfl (Nat.le_of_ble_eq_true rfl) dX0_errorPosition_15 ⟨Nat.zero_le _, Nat.zero_le _⟩ ?_
        refine lv_if_eq (tgt := 39) hx hb dX0_errorPosition_18 (by decide) (fun c4 => ?_) (fun c4 => ?_)
        · have hf := q_ite_t c4 hf
          refine lv_aload_n hx hb dX0_errorPosition_39 rfl (lv_at hl 0 rfl) ?_
          refine va_get (D := D) (ci := 0) (v := .int (OR_error Sz)) (C := RX0) (T := TX0) (N := 8) hx hb hu (fun _ h => h) hown hE.1 hP 0 rfl rfl 3 (Nat.le_of_ble_eq_true rfl) (hts (.fieldLink RX0 19 "CoverMeter$Orders" "error" "I") (List.mem_of_getElem? (i := 2) rfl)) (fun _ h9 => h9) rfl dX0_errorPosition_40 ?_
          have ho := q_some hf
          subst ho
          exact W.iret hx hb hr (fun t ht hW => ⟨rfl, ⟨by rw [ht]; exact hP, hD⟩, hS.F ht⟩) hS.2.2 dX0_errorPosition_43
        · have hf := q_ite_f c4 hf
          refine lv_aload_n hx hb dX0_errorPosition_21 rfl (lv_at hl 0 rfl) ?_
          refine va_get (D := D) (ci := 0) (v := .int (OR_error Sz)) (C := RX0) (T := TX0) (N := 8) hx hb hu (fun _ h => h) hown hE.1 hP 0 rfl rfl 3 (Nat.le_of_ble_eq_true rfl) (hts (.fieldLink RX0 19 "CoverMeter$Orders" "error" "I") (List.mem_of_getElem? (i := 2) rfl)) (fun _ h9 => h9) rfl dX0_errorPosition_22 ?_
          refine lv_iconst (v := (-1)) hx hb dX0_errorPosition_25 (by decide) ?_
          refine lv_icmp_ne (tgt := 39) hx hb dX0_errorPosition_26 (by decide) (fun c5 => ?_) (fun c5 => ?_)
          · have hf := q_ite_t c5 hf
            refine lv_aload_n hx hb dX0_errorPosition_39 rfl (lv_at hl 0 rfl) ?_
            refine va_get (D := D) (ci := 0) (v := .int (OR_error Sz)) (C := RX0) (T := TX0) (N := 8) hx hb hu (fun _ h => h) hown hE.1 hP 0 rfl rfl 3 (Nat.le_of_ble_eq_true rfl) (hts (.fieldLink RX0 19 "CoverMeter$Orders" "error" "I") (List.mem_of_getElem? (i := 2) rfl)) (fun _ h9 => h9) rfl dX0_errorPosition_40 ?_
            have ho := q_some hf
            subst ho
            exact W.iret hx hb hr (fun t ht hW => ⟨rfl, ⟨by rw [ht]; exact hP, hD⟩, hS.F ht⟩) hS.2.2 dX0_errorPosition_43
          · have hf := q_ite_n c5 hf
            refine lv_aload_n hx hb dX0_errorPosition_29 rfl (lv_at hl 0 rfl) ?_
            obtain ⟨r6, hr6, hf⟩ := q_bd_go hf
            refine q_wrVv (ci := 0) (As := []) (rest := []) hx hb hml hown hts (c_X0_read l D cI cJ cS a Sz _  _ hr6) (cwV 0 hts gX0_errorPosition_X0_read rfl rfl rfl (by decide +kernel) ⟨(Nat.le_of_ble_eq_true rfl), (Nat.le_of_ble_eq_true rfl)⟩) hE hP hD hS (fun q h => Or.inr h) rfl rfl rfl hl.1 rfl (Nat.le_of_ble_eq_true rfl) dX0_errorPosition_30 ⟨Nat.zero_le _, Nat.zero_le _⟩ (fun H locs hP hD hS => ?_)
            obtain ⟨v7, ev7, hf⟩ := q_let_go hf
            refine lv_iinc (v := v7) (lv' := [(1, .int v7), (0, .ref (a 0))]) hx hb dX0_errorPosition_33 hl (k := 1) rfl (by rw [← ev7]; rfl) (by decide) rfl (fun ls hl => ?_)
            refine lv_goto (tgt := 6) hx hb dX0_errorPosition_36 (by decide) ?_
            exact ih r6 _ _ hP hD hS v7 _ (lv_sub hl [1, 0] rfl) hf
  have hl := lv_entry ([.ref (a 0)]) (n := 2) (Nat.le_of_ble_eq_true rfl)
  rw [lg_entry_eq]
  generalize (lg_sl ([.ref (a 0)]) ++ List.replicate (2 - (lg_sl ([.ref (a 0)])).length) Slot.unset).toArray = ls at hl ⊢
  have hl : lv_has ls 2 [(0, .ref (a 0))] := hl
  unfold f_X0_errorPosition at hf
  refine lv_aload_n hx hb dX0_errorPosition_0 rfl (lv_at hl 0 rfl) ?_
  obtain ⟨r1, hr1, hf⟩ := q_bd_go hf
  refine q_wrVv (ci := 0) (As := []) (rest := []) hx hb hml hown hts (c_X0_start l D cI cJ cS a S _  _ hr1) (cwV 0 hts gX0_errorPosition_X0_start rfl rfl rfl (by decide +kernel) ⟨(Nat.le_of_ble_eq_true rfl), (Nat.le_of_ble_eq_true rfl)⟩) hE hP hD hS (fun q h => Or.inr h) rfl rfl rfl hl.1 rfl (Nat.le_of_ble_eq_true rfl) dX0_errorPosition_1 ⟨Nat.zero_le _, Nat.zero_le _⟩ (fun H locs hP hD hS => ?_)
  refine lv_iconst (v := 0) hx hb dX0_errorPosition_4 (by decide) ?_
  refine lv_istore_n (lv' := [(1, .int 0), (0, .ref (a 0))]) hx hb dX0_errorPosition_5 rfl hl (by decide) rfl (fun ls hl => ?_)
  exact L_6 2000 r1 _ _ hP hD hS 0 _ (lv_sub hl [1, 0] rfl) hf
