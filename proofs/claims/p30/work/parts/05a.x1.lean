def f_X2_bidIndex (p1 : Int32) (p2 : Int32) : Option Int32 := some ((p2 * 8) + p1)
abbrev rX2_bidIndex : Room := { frames := 0, cells := 0, slots := 0, locals := 0 }
set_option maxRecDepth 100000 in
set_option maxHeartbeats 4000000 in
theorem c_X2_bidIndex (l : Launch) (D : va_G) (cI cJ cS : ClassId) (p1 : Int32) (p2 : Int32) (o : Int32) (hf : f_X2_bidIndex p1 p2 = some o) : Met l yX2_bidIndex wsX2_bidIndex rX2_bidIndex (va_Pc [.int p1, .int p2] (q_B D cI cJ cS [])) (q_Ri o) 0 0 (fun _ => False) := by
  refine Met.ofW (cc := cX2_bidIndex) (maxL := 2) (ret := some .int) (by decide) rfl ?_
  intro p e s m args below meth c s₁ B hml hv
  obtain ⟨rfl, hP, hE⟩ := hv
  have hx := B.exec
  have hb := B.bytes
  have hr := B.returns
  have hts := atoms_spec (ws := wsX2_bidIndex) B.pre
  have hown : s.vm.findClass RX2 = some m.cls := findClass_of_methodNamed B.named
  have hlocks := B.notSynchronized
  have hl := lv_entry ([.int p1, .int p2]) (n := 2) (Nat.le_of_ble_eq_true rfl)
  rw [lg_entry_eq]
  generalize (lg_sl ([.int p1, .int p2]) ++ List.replicate (2 - (lg_sl ([.int p1, .int p2])).length) Slot.unset).toArray = ls at hl ⊢
  have hl : lv_has ls 2 [(0, .int p1), (1, .int p2)] := hl
  unfold f_X2_bidIndex at hf
  refine lv_iload_n hx hb dX2_bidIndex_0 rfl (lv_at hl 1 rfl) ?_
  refine lv_bipush (v := 8) hx hb dX2_bidIndex_1 (by decide) ?_
  refine lv_imul hx hb dX2_bidIndex_3 ?_
  refine lv_iload_n hx hb dX2_bidIndex_4 rfl (lv_at hl 0 rfl) ?_
  refine lv_iadd hx hb dX2_bidIndex_5 ?_
  have ho := q_some hf
  subst ho
  exact W.iret hx hb hr (fun t ht hW => ⟨rfl, ht⟩) t_nil dX2_bidIndex_6
def f_J13_bitCount_95d88 (p1 : Int64) : Option Int32 := q_let ((p1 - ((((p1 : Int64).toUInt64 >>> ((1 : Int32).toInt64.toUInt64 &&& Int64.toUInt64 63)).toInt64) &&& 6148914691236517205))) fun v1 =>
 q_let (((v1 &&& 3689348814741910323) + ((((v1 : Int64).toUInt64 >>> ((2 : Int32).toInt64.toUInt64 &&& Int64.toUInt64 63)).toInt64) &&& 3689348814741910323))) fun v2 =>
 q_let (((v2 + (((v2 : Int64).toUInt64 >>> ((4 : Int32).toInt64.toUInt64 &&& Int64.toUInt64 63)).toInt64)) &&& 1085102592571150095)) fun v3 =>
 q_let ((v3 + (((v3 : Int64).toUInt64 >>> ((8 : Int32).toInt64.toUInt64 &&& Int64.toUInt64 63)).toInt64))) fun v4 =>
 q_let ((v4 + (((v4 : Int64).toUInt64 >>> ((16 : Int32).toInt64.toUInt64 &&& Int64.toUInt64 63)).toInt64))) fun v5 =>
 q_let ((v5 + (((v5 : Int64).toUInt64 >>> ((32 : Int32).toInt64.toUInt64 &&& Int64.toUInt64 63)).toInt64))) fun v6 =>
 some (((v6 : Int64).toInt32) &&& 127)
abbrev rJ13_bitCount_95d88 : Room := { frames := 0, cells := 0, slots := 0, locals := 0 }
set_option maxRecDepth 100000 in
set_option maxHeartbeats 4000000 in
theorem c_J13_bitCount_95d88 (l : Launch) (D : va_G) (cI cJ cS : ClassId) (p1 : Int64) (o : Int32) (hf : f_J13_bitCount_95d88 p1 = some o) : Met l yJ13_bitCount_95d88 wsJ13_bitCount_95d88 rJ13_bitCount_95d88 (va_Pc [.long p1] (q_B D cI cJ cS [])) (q_Ri o) 0 0 (fun _ => False) := by
  refine Met.ofW (cc := cJ13_bitCount_95d88) (maxL := 2) (ret := some .int) (by decide) rfl ?_
  intro p e s m args below meth c s₁ B hml hv
  obtain ⟨rfl, hP, hE⟩ := hv
  have hx := B.exec
  have hb := B.bytes
  have hr := B.returns
  have hts := atoms_spec (ws := wsJ13_bitCount_95d88) B.pre
  have hown : s.vm.findClass RJ13 = some m.cls := findClass_of_methodNamed B.named
  have hlocks := B.notSynchronized
  have hl := lv_entry ([.long p1]) (n := 2) (Nat.le_of_ble_eq_true rfl)
  rw [lg_entry_eq]
  generalize (lg_sl ([.long p1]) ++ List.replicate (2 - (lg_sl ([.long p1])).length) Slot.unset).toArray = ls at hl ⊢
  have hl : lv_has ls 2 [(0, .long p1)] := hl
  unfold f_J13_bitCount_95d88 at hf
  refine lv_lload_n hx hb dJ13_bitCount_95d88_0 rfl (lv_at hl 0 rfl) ?_
  refine lv_lload_n hx hb dJ13_bitCount_95d88_1 rfl (lv_at hl 0 rfl) ?_
  refine lv_iconst (v := 1) hx hb dJ13_bitCount_95d88_2 (by decide) ?_
  refine lv_lushr (v := (((p1 : Int64).toUInt64 >>> ((1 : Int32).toInt64.toUInt64 &&& Int64.toUInt64 63)).toInt64)) hx hb dJ13_bitCount_95d88_3 rfl ?_
  refine lv_ldc2 (v := 6148914691236517205) hx hb hown (hts (.constantLong RJ13 314 (6148914691236517205)) (List.mem_of_getElem? (i := 1) rfl)) dJ13_bitCount_95d88_4 ?_
  refine lv_land hx hb dJ13_bitCount_95d88_7 ?_
  refine lv_lsub hx hb dJ13_bitCount_95d88_8 ?_
  obtain ⟨v1, ev1, hf⟩ := q_let_go hf
  refine q_nml ev1 ?_
  refine lv_lstore_n (lv' := [(0, .long v1)]) hx hb dJ13_bitCount_95d88_9 rfl hl (by decide) rfl (fun ls hl => ?_)
  refine lv_lload_n hx hb dJ13_bitCount_95d88_10 rfl (lv_at hl 0 rfl) ?_
  refine lv_ldc2 (v := 3689348814741910323) hx hb hown (hts (.constantLong RJ13 316 (3689348814741910323)) (List.mem_of_getElem? (i := 2) rfl)) dJ13_bitCount_95d88_11 ?_
  refine lv_land hx hb dJ13_bitCount_95d88_14 ?_
  refine lv_lload_n hx hb dJ13_bitCount_95d88_15 rfl (lv_at hl 0 rfl) ?_
  refine lv_iconst (v := 2) hx hb dJ13_bitCount_95d88_16 (by decide) ?_
  refine lv_lushr (v := (((v1 : Int64).toUInt64 >>> ((2 : Int32).toInt64.toUInt64 &&& Int64.toUInt64 63)).toInt64)) hx hb dJ13_bitCount_95d88_17 rfl ?_
  refine lv_ldc2 (v := 3689348814741910323) hx hb hown (hts (.constantLong RJ13 316 (3689348814741910323)) (List.mem_of_getElem? (i := 2) rfl)) dJ13_bitCount_95d88_18 ?_
  refine lv_land hx hb dJ13_bitCount_95d88_21 ?_
  refine lv_ladd hx hb dJ13_bitCount_95d88_22 ?_
  obtain ⟨v2, ev2, hf⟩ := q_let_go hf
  refine q_nml ev2 ?_
  refine lv_lstore_n (lv' := [(0, .long v2)]) hx hb dJ13_bitCount_95d88_23 rfl hl (by decide) rfl (fun ls hl => ?_)
  refine lv_lload_n hx hb dJ13_bitCount_95d88_24 rfl (lv_at hl 0 rfl) ?_
  refine lv_lload_n hx hb dJ13_bitCount_95d88_25 rfl (lv_at hl 0 rfl) ?_
  refine lv_iconst (v := 4) hx hb dJ13_bitCount_95d88_26 (by decide) ?_
  refine lv_lushr (v := (((v2 : Int64).toUInt64 >>> ((4 : Int32).toInt64.toUInt64 &&& Int64.toUInt64 63)).toInt64)) hx hb dJ13_bitCount_95d88_27 rfl ?_
  refine lv_ladd hx hb dJ13_bitCount_95d88_28 ?_
  refine lv_ldc2 (v := 1085102592571150095) hx hb hown (hts (.constantLong RJ13 318 (1085102592571150095)) (List.mem_of_getElem? (i := 3) rfl)) dJ13_bitCount_95d88_29 ?_
  refine lv_land hx hb dJ13_bitCount_95d88_32 ?_
  obtain ⟨v3, ev3, hf⟩ := q_let_go hf
  refine q_nml ev3 ?_
  refine lv_lstore_n (lv' := [(0, .long v3)]) hx hb dJ13_bitCount_95d88_33 rfl hl (by decide) rfl (fun ls hl => ?_)
  refine lv_lload_n hx hb dJ13_bitCount_95d88_34 rfl (lv_at hl 0 rfl) ?_
  refine lv_lload_n hx hb dJ13_bitCount_95d88_35 rfl (lv_at hl 0 rfl) ?_
  refine lv_bipush (v := 8) hx hb dJ13_bitCount_95d88_36 (by decide) ?_
  refine lv_lushr (v := (((v3 : Int64).toUInt64 >>> ((8 : Int32).toInt64.toUInt64 &&& Int64.toUInt64 63)).toInt64)) hx hb dJ13_bitCount_95d88_38 rfl ?_
  refine lv_ladd hx hb dJ13_bitCount_95d88_39 ?_
  obtain ⟨v4, ev4, hf⟩ := q_let_go hf
  refine q_nml ev4 ?_
  refine lv_lstore_n (lv' := [(0, .long v4)]) hx hb dJ13_bitCount_95d88_40 rfl hl (by decide) rfl (fun ls hl => ?_)
  refine lv_lload_n hx hb dJ13_bitCount_95d88_41 rfl (lv_at hl 0 rfl) ?_
  refine lv_lload_n hx hb dJ13_bitCount_95d88_42 rfl (lv_at hl 0 rfl) ?_
  refine lv_bipush (v := 16) hx hb dJ13_bitCount_95d88_43 (by decide) ?_
  refine lv_lushr (v := (((v4 : Int64).toUInt64 >>> ((16 : Int32).toInt64.toUInt64 &&& Int64.toUInt64 63)).toInt64)) hx hb dJ13_bitCount_95d88_45 rfl ?_
  refine lv_ladd hx hb dJ13_bitCount_95d88_46 ?_
  obtain ⟨v5, ev5, hf⟩ := q_let_go hf
  refine q_nml ev5 ?_
  refine lv_lstore_n (lv' := [(0, .long v5)]) hx hb dJ13_bitCount_95d88_47 rfl hl (by decide) rfl (fun ls hl => ?_)
  refine lv_lload_n hx hb dJ13_bitCount_95d88_48 rfl (lv_at hl 0 rfl) ?_
  refine lv_lload_n hx hb dJ13_bitCount_95d88_49 rfl (lv_at hl 0 rfl) ?_
  refine lv_bipush (v := 32) hx hb dJ13_bitCount_95d88_50 (by decide) ?_
  refine lv_lushr (v := (((v5 : Int64).toUInt64 >>> ((32 : Int32).toInt64.toUInt64 &&& Int64.toUInt64 63)).toInt64)) hx hb dJ13_bitCount_95d88_52 rfl ?_
  refine lv_ladd hx hb dJ13_bitCount_95d88_53 ?_
  obtain ⟨v6, ev6, hf⟩ := q_let_go hf
  refine q_nml ev6 ?_
  refine lv_lstore_n (lv' := [(0, .long v6)]) hx hb dJ13_bitCount_95d88_54 rfl hl (by decide) rfl (fun ls hl => ?_)
  refine lv_lload_n hx hb dJ13_bitCount_95d88_55 rfl (lv_at hl 0 rfl) ?_
  refine lv_l2i (v := ((v6 : Int64).toInt32)) hx hb dJ13_bitCount_95d88_56 rfl ?_
  refine lv_bipush (v := 127) hx hb dJ13_bitCount_95d88_57 (by decide) ?_
  refine lv_iand hx hb dJ13_bitCount_95d88_59 ?_
  have ho := q_some hf
  subst ho
  exact W.iret hx hb hr (fun t ht hW => ⟨rfl, ht⟩) t_nil dJ13_bitCount_95d88_60
def f_X1_hasPerson (S : ST) (p1 : Int32) : Option Int32 := if p1 < 0 then
 (some 0)
 else (if (ST_persons S) ≤ p1 then
 (some 0)
 else (some 1))
abbrev rX1_hasPerson : Room := { frames := 0, cells := 0, slots := 0, locals := 0 }
set_option maxRecDepth 100000 in
set_option maxHeartbeats 4000000 in
theorem c_X1_hasPerson (l : Launch) (D : va_G) (cI cJ cS : ClassId) (a : Nat → Nat) (S : ST) (p1 : Int32) (o : Int32) (hf : f_X1_hasPerson S p1 = some o) : Met l yX1_hasPerson wsX1_hasPerson rX1_hasPerson (va_Pc [.ref (a 0), .int p1] (q_B D cI cJ cS (wST cI cJ a S))) (q_Ri o) 0 0 (fun _ => False) := by
  refine Met.ofW (cc := cX1_hasPerson) (maxL := 2) (ret := some .boolean) (by decide) rfl ?_
  intro p e s m args below meth c s₁ B hml hv
  obtain ⟨rfl, hP, hE⟩ := hv
  have hx := B.exec
  have hb := B.bytes
  have hr := B.returns
  have hts := atoms_spec (ws := wsX1_hasPerson) B.pre
  have hown : s.vm.findClass RX1 = some m.cls := findClass_of_methodNamed B.named
  have hlocks := B.notSynchronized
  have hu : ∀ z ∈ wsX10, z.before _ s = true := fun z h => hts z (List.mem_cons_of_mem _ (List.mem_append_right _ h))
  have hl := lv_entry ([.ref (a 0), .int p1]) (n := 2) (Nat.le_of_ble_eq_true rfl)
  rw [lg_entry_eq]
  generalize (lg_sl ([.ref (a 0), .int p1]) ++ List.replicate (2 - (lg_sl ([.ref (a 0), .int p1])).length) Slot.unset).toArray = ls at hl ⊢
  have hl : lv_has ls 2 [(0, .ref (a 0)), (1, .int p1)] := hl
  unfold f_X1_hasPerson at hf
  refine lv_iload_n hx hb dX1_hasPerson_0 rfl (lv_at hl 1 rfl) ?_
  refine lv_if_lt (tgt := 16) hx hb dX1_hasPerson_1 (by decide) (fun c1 => ?_) (fun c1 => ?_)
  · have hf := q_ite_t c1 hf
    refine lv_iconst (v := 0) hx hb dX1_hasPerson_16 (by decide) ?_
    have ho := q_some hf
    subst ho
    exact W.zret hx hb hr rfl (fun t ht hW => ⟨rfl, ht⟩) t_nil dX1_hasPerson_17
  · have hf := q_ite_f c1 hf
    refine lv_iload_n hx hb dX1_hasPerson_4 rfl (lv_at hl 1 rfl) ?_
    refine lv_aload_n hx hb dX1_hasPerson_5 rfl (lv_at hl 0 rfl) ?_
    refine va_get (D := D) (ci := 1) (v := .int (ST_persons S)) (C := RX1) (T := TX1) (N := 15) hx hb hu (fun _ h => h) hown hE.1 hP 0 rfl rfl 2 (Nat.le_of_ble_eq_true rfl) (hts (.fieldLink RX1 62 "CoverMeter$State" "persons" "I") (List.mem_of_getElem? (i := 1) rfl)) (fun _ h9 => h9) rfl dX1_hasPerson_6 ?_
    refine lv_icmp_ge (tgt := 16) hx hb dX1_hasPerson_9 (by decide) (fun c2 => ?_) (fun c2 => ?_)
    · have hf := q_ite_t c2 hf
      refine lv_iconst (v := 0) hx hb dX1_hasPerson_16 (by decide) ?_
      have ho := q_some hf
      subst ho
      exact W.zret hx hb hr rfl (fun t ht hW => ⟨rfl, ht⟩) t_nil dX1_hasPerson_17
    · have hf := q_ite_f c2 hf
      refine lv_iconst (v := 1) hx hb dX1_hasPerson_12 (by decide) ?_
      refine lv_goto (tgt := 17) hx hb dX1_hasPerson_13 (by decide) ?_
      have ho := q_some hf
      subst ho
      exact W.zret hx hb hr rfl (fun t ht hW => ⟨rfl, ht⟩) t_nil dX1_hasPerson_17
def f_X1_hasAbsence (S : ST) (p1 : Int32) : Option Int32 := if p1 < 0 then
 (some 0)
 else (if (ST_absences S) ≤ p1 then
 (some 0)
 else (some 1))
abbrev rX1_hasAbsence : Room := { frames := 0, cells := 0, slots := 0, locals := 0 }
set_option maxRecDepth 100000 in
set_option maxHeartbeats 4000000 in
theorem c_X1_hasAbsence (l : Launch) (D : va_G) (cI cJ cS : ClassId) (a : Nat → Nat) (S : ST) (p1 : Int32) (o : Int32) (hf : f_X1_hasAbsence S p1 = some o) : Met l yX1_hasAbsence wsX1_hasAbsence rX1_hasAbsence (va_Pc [.ref (a 0), .int p1] (q_B D cI cJ cS (wST cI cJ a S))) (q_Ri o) 0 0 (fun _ => False) := by
  refine Met.ofW (cc := cX1_hasAbsence) (maxL := 2) (ret := some .boolean) (by decide) rfl ?_
  intro p e s m args below meth c s₁ B hml hv
  obtain ⟨rfl, hP, hE⟩ := hv
  have hx := B.exec
  have hb := B.bytes
  have hr := B.returns
  have hts := atoms_spec (ws := wsX1_hasAbsence) B.pre
  have hown : s.vm.findClass RX1 = some m.cls := findClass_of_methodNamed B.named
  have hlocks := B.notSynchronized
  have hu : ∀ z ∈ wsX10, z.before _ s = true := fun z h => hts z (List.mem_cons_of_mem _ (List.mem_append_right _ h))
  have hl := lv_entry ([.ref (a 0), .int p1]) (n := 2) (Nat.le_of_ble_eq_true rfl)
  rw [lg_entry_eq]
  generalize (lg_sl ([.ref (a 0), .int p1]) ++ List.replicate (2 - (lg_sl ([.ref (a 0), .int p1])).length) Slot.unset).toArray = ls at hl ⊢
  have hl : lv_has ls 2 [(0, .ref (a 0)), (1, .int p1)] := hl
  unfold f_X1_hasAbsence at hf
  refine lv_iload_n hx hb dX1_hasAbsence_0 rfl (lv_at hl 1 rfl) ?_
  refine lv_if_lt (tgt := 16) hx hb dX1_hasAbsence_1 (by decide) (fun c1 => ?_) (fun c1 => ?_)
  · have hf := q_ite_t c1 hf
    refine lv_iconst (v := 0) hx hb dX1_hasAbsence_16 (by decide) ?_
    have ho := q_some hf
    subst ho
    exact W.zret hx hb hr rfl (fun t ht hW => ⟨rfl, ht⟩) t_nil dX1_hasAbsence_17
  · have hf := q_ite_f c1 hf
    refine lv_iload_n hx hb dX1_hasAbsence_4 rfl (lv_at hl 1 rfl) ?_
    refine lv_aload_n hx hb dX1_hasAbsence_5 rfl (lv_at hl 0 rfl) ?_
    refine va_get (D := D) (ci := 1) (v := .int (ST_absences S)) (C := RX1) (T := TX1) (N := 15) hx hb hu (fun _ h => h) hown hE.1 hP 0 rfl rfl 8 (Nat.le_of_ble_eq_true rfl) (hts (.fieldLink RX1 65 "CoverMeter$State" "absences" "I") (List.mem_of_getElem? (i := 1) rfl)) (fun _ h9 => h9) rfl dX1_hasAbsence_6 ?_
    refine lv_icmp_ge (tgt := 16) hx hb dX1_hasAbsence_9 (by decide) (fun c2 => ?_) (fun c2 => ?_)
    · have hf := q_ite_t c2 hf
      refine lv_iconst (v := 0) hx hb dX1_hasAbsence_16 (by decide) ?_
      have ho := q_some hf
      subst ho
      exact W.zret hx hb hr rfl (fun t ht hW => ⟨rfl, ht⟩) t_nil dX1_hasAbsence_17
    · have hf := q_ite_f c2 hf
      refine lv_iconst (v := 1) hx hb dX1_hasAbsence_12 (by decide) ?_
      refine lv_goto (tgt := 17) hx hb dX1_hasAbsence_13 (by decide) ?_
      have ho := q_some hf
      subst ho
      exact W.zret hx hb hr rfl (fun t ht hW => ⟨rfl, ht⟩) t_nil dX1_hasAbsence_17
def f_X1_isCovered (S : ST) (p1 : Int32) : Option Int32 := if q_in p1 30 = true then
 (if (ST_statuses S (p1 : Int32).toNatClampNeg) = 1 then
 (some 1)
 else (if q_in p1 30 = true then
 (if ¬ (ST_statuses S (p1 : Int32).toNatClampNeg) = 2 then
 (some 0)
 else (some 1)) else none)) else none
abbrev rX1_isCovered : Room := { frames := 0, cells := 0, slots := 0, locals := 0 }
set_option maxRecDepth 100000 in
set_option maxHeartbeats 4000000 in
theorem c_X1_isCovered (l : Launch) (D : va_G) (cI cJ cS : ClassId) (a : Nat → Nat) (S : ST) (p1 : Int32) (o : Int32) (hf : f_X1_isCovered S p1 = some o) : Met l yX1_isCovered wsX1_isCovered rX1_isCovered (va_Pc [.ref (a 0), .int p1] (q_B D cI cJ cS (wST cI cJ a S))) (q_Ri o) 0 0 (fun _ => False) := by
  refine Met.ofW (cc := cX1_isCovered) (maxL := 2) (ret := some .boolean) (by decide) rfl ?_
  intro p e s m args below meth c s₁ B hml hv
  obtain ⟨rfl, hP, hE⟩ := hv
  have hx := B.exec
  have hb := B.bytes
  have hr := B.returns
  have hts := atoms_spec (ws := wsX1_isCovered) B.pre
  have hown : s.vm.findClass RX1 = some m.cls := findClass_of_methodNamed B.named
  have hlocks := B.notSynchronized
  have hu : ∀ z ∈ wsX10, z.before _ s = true := fun z h => hts z (List.mem_cons_of_mem _ (List.mem_append_right _ h))
  have hl := lv_entry ([.ref (a 0), .int p1]) (n := 2) (Nat.le_of_ble_eq_true rfl)
  rw [lg_entry_eq]
  generalize (lg_sl ([.ref (a 0), .int p1]) ++ List.replicate (2 - (lg_sl ([.ref (a 0), .int p1])).length) Slot.unset).toArray = ls at hl ⊢
  have hl : lv_has ls 2 [(0, .ref (a 0)), (1, .int p1)] := hl
  unfold f_X1_isCovered at hf
  refine lv_aload_n hx hb dX1_isCovered_0 rfl (lv_at hl 0 rfl) ?_
  refine va_get (D := D) (ci := 1) (v := .ref (a 9)) (C := RX1) (T := TX1) (N := 15) hx hb hu (fun _ h => h) hown hE.1 hP 0 rfl rfl 11 (Nat.le_of_ble_eq_true rfl) (hts (.fieldLink RX1 37 "CoverMeter$State" "statuses" "[I") (List.mem_of_getElem? (i := 1) rfl)) (fun _ h9 => h9) rfl dX1_isCovered_1 ?_
  refine lv_iload_n hx hb dX1_isCovered_4 rfl (lv_at hl 1 rfl) ?_
  have hi1 := q_gd_in hf
  have hf := q_gd_go hf
  refine va_iald hx hb hE.1 hP 9 0 rfl rfl hi1 dX1_isCovered_5 ?_
  refine lv_iconst (v := 1) hx hb dX1_isCovered_6 (by decide) ?_
  refine lv_icmp_eq (tgt := 20) hx hb dX1_isCovered_7 (by decide) (fun c2 => ?_) (fun c2 => ?_)
  · have hf := q_ite_t c2 hf
    refine lv_iconst (v := 1) hx hb dX1_isCovered_20 (by decide) ?_
    refine lv_goto (tgt := 25) hx hb dX1_isCovered_21 (by decide) ?_
    have ho := q_some hf
    subst ho
    exact W.zret hx hb hr rfl (fun t ht hW => ⟨rfl, ht⟩) t_nil dX1_isCovered_25
  · have hf := q_ite_f c2 hf
    refine lv_aload_n hx hb dX1_isCovered_10 rfl (lv_at hl 0 rfl) ?_
    refine va_get (D := D) (ci := 1) (v := .ref (a 9)) (C := RX1) (T := TX1) (N := 15) hx hb hu (fun _ h => h) hown hE.1 hP 0 rfl rfl 11 (Nat.le_of_ble_eq_true rfl) (hts (.fieldLink RX1 37 "CoverMeter$State" "statuses" "[I") (List.mem_of_getElem? (i := 1) rfl)) (fun _ h9 => h9) rfl dX1_isCovered_11 ?_
    refine lv_iload_n hx hb dX1_isCovered_14 rfl (lv_at hl 1 rfl) ?_
    have hi3 := q_gd_in hf
    have hf := q_gd_go hf
    refine va_iald hx hb hE.1 hP 9 0 rfl rfl hi3 dX1_isCovered_15 ?_
    refine lv_iconst (v := 2) hx hb dX1_isCovered_16 (by decide) ?_
    refine lv_icmp_ne (tgt := 24) hx hb dX1_isCovered_17 (by decide) (fun c4 => ?_) (fun c4 => ?_)
    · have hf := q_ite_t c4 hf
      refine lv_iconst (v := 0) hx hb dX1_isCovered_24 (by decide) ?_
      have ho := q_some hf
      subst ho
      exact W.zret hx hb hr rfl (fun t ht hW => ⟨rfl, ht⟩) t_nil dX1_isCovered_25
    · have hf := q_ite_n c4 hf
      refine lv_iconst (v := 1) hx hb dX1_isCovered_20 (by decide) ?_
      refine lv_goto (tgt := 25) hx hb dX1_isCovered_21 (by decide) ?_
      have ho := q_some hf
      subst ho
      exact W.zret hx hb hr rfl (fun t ht hW => ⟨rfl, ht⟩) t_nil dX1_isCovered_25
def f_X1_enterPerson (S : ST) (p1 : Int64) : Option (Int32 × ST) := q_let ((ST_persons S)) fun v1 =>
 if q_in v1 8 = true then
 (q_let (sST_rosters S (vp_updL (ST_rosters S) (v1 : Int32).toNatClampNeg p1)) fun S3 =>
 if q_in v1 8 = true then
 (q_let (sST_away S3 (vp_updL (ST_away S3) (v1 : Int32).toNatClampNeg 0)) fun S5 =>
 if q_in v1 8 = true then
 (q_let (sST_covering S5 (vp_updL (ST_covering S5) (v1 : Int32).toNatClampNeg 0)) fun S7 =>
 if q_in v1 8 = true then
 (q_let (sST_meters S7 (upd (ST_meters S7) (v1 : Int32).toNatClampNeg 0)) fun S9 =>
 if q_in v1 8 = true then
 (q_let (sST_turns S9 (upd (ST_turns S9) (v1 : Int32).toNatClampNeg 0)) fun S11 =>
 q_let (sST_persons S11 ((ST_persons S11) + 1)) fun S12 =>
 some (v1, S12)) else none) else none) else none) else none) else none
abbrev rX1_enterPerson : Room := { frames := 0, cells := 0, slots := 0, locals := 0 }
set_option maxRecDepth 100000 in
set_option maxHeartbeats 4000000 in
theorem c_X1_enterPerson (l : Launch) (D : va_G) (cI cJ cS : ClassId) (a : Nat → Nat) (S : ST) (sz : Nat) (p1 : Int64) (o : (Int32 × ST)) (hf : f_X1_enterPerson S p1 = some o) : Met l yX1_enterPerson wsX1_enterPerson rX1_enterPerson (va_Pc [.ref (a 0), .long p1] (q_BW D cI cJ cS (wST cI cJ a S) sz)) (q_Wo (some (.int o.1)) D (wST cI cJ a S) (wST cI cJ a o.2) sz) 0 0 (va_A (wST cI cJ a S) sz) := by
  refine Met.ofW (cc := cX1_enterPerson) (maxL := 4) (ret := some .int) (by decide) rfl ?_
  intro p e s m args below meth c s₁ B hml hv
  obtain ⟨rfl, hsz, hP, hE, hD0⟩ := hv
  have hx := B.exec
  have hb := B.bytes
  have hr := B.returns
  have hts := atoms_spec (ws := wsX1_enterPerson) B.pre
  have hown : s.vm.findClass RX1 = some m.cls := findClass_of_methodNamed B.named
  have hlocks := B.notSynchronized
  have hu : ∀ z ∈ wsX10, z.before _ s = true := fun z h => hts z (List.mem_cons_of_mem _ (List.mem_append_right _ h))
  subst hsz
  have hD := hD0.self (sz := s.heap.size)
  have hS : va_S (va_A (wST cI cJ a S) s.heap.size) s.heap s.heap [] := va_S.rf
  have hl := lv_entry ([.ref (a 0), .long p1]) (n := 4) (Nat.le_of_ble_eq_true rfl)
  rw [lg_entry_eq]
  generalize (lg_sl ([.ref (a 0), .long p1]) ++ List.replicate (4 - (lg_sl ([.ref (a 0), .long p1])).length) Slot.unset).toArray = ls at hl ⊢
  have hl : lv_has ls 4 [(0, .ref (a 0)), (1, .long p1)] := hl
  unfold f_X1_enterPerson at hf
  refine lv_aload_n hx hb dX1_enterPerson_0 rfl (lv_at hl 0 rfl) ?_
  refine va_get (D := D) (ci := 1) (v := .int (ST_persons S)) (C := RX1) (T := TX1) (N := 15) hx hb hu (fun _ h => h) hown hE.1 hP 0 rfl rfl 2 (Nat.le_of_ble_eq_true rfl) (hts (.fieldLink RX1 62 "CoverMeter$State" "persons" "I") (List.mem_of_getElem? (i := 1) rfl)) (fun _ h9 => h9) rfl dX1_enterPerson_1 ?_
  obtain ⟨v1, ev1, hf⟩ := q_let_go hf
  refine q_nmi ev1 ?_
  refine lv_istore_n (lv' := [(3, .int v1), (0, .ref (a 0)), (1, .long p1)]) hx hb dX1_enterPerson_4 rfl hl (by decide) rfl (fun ls hl => ?_)
  refine lv_aload_n hx hb dX1_enterPerson_5 rfl (lv_at hl 1 rfl) ?_
  refine va_get (D := D) (ci := 1) (v := .ref (a 2)) (C := RX1) (T := TX1) (N := 15) hx hb hu (fun _ h => h) hown hE.1 hP 0 rfl rfl 3 (Nat.le_of_ble_eq_true rfl) (hts (.fieldLink RX1 15 "CoverMeter$State" "rosters" "[J") (List.mem_of_getElem? (i := 2) rfl)) (fun _ h9 => h9) rfl dX1_enterPerson_6 ?_
  refine lv_iload_n hx hb dX1_enterPerson_9 rfl (lv_at hl 0 rfl) ?_
  refine lv_lload_n hx hb dX1_enterPerson_10 rfl (lv_at hl 2 rfl) ?_
  have hi2 := q_gd_in hf
  have hf := q_gd_go hf
  obtain ⟨S3, eS3, hf⟩ := q_let_go hf
  refine va_last hx hb hE.1 hP hD hS 2 1 rfl rfl hi2 dX1_enterPerson_11 (fun H locs hP hD hS => ?_)
  have hP : va_P D vwCl (wST cI cJ a (sST_rosters S (vp_updL (ST_rosters S) (v1 : Int32).toNatClampNeg p1))) H := hP
  have hD : va_D (va_A (wST cI cJ a S) s.heap.size) (wST cI cJ a (sST_rosters S (vp_updL (ST_rosters S) (v1 : Int32).toNatClampNeg p1))) := hD
  rw [eS3] at hP hD
  refine lv_aload_n hx hb dX1_enterPerson_12 rfl (lv_at hl 1 rfl) ?_
  refine va_get (D := D) (ci := 1) (v := .ref (a 3)) (C := RX1) (T := TX1) (N := 15) hx hb hu (fun _ h => h) hown hE.1 hP 0 rfl rfl 4 (Nat.le_of_ble_eq_true rfl) (hts (.fieldLink RX1 19 "CoverMeter$State" "away" "[J") (List.mem_of_getElem? (i := 3) rfl)) (fun _ h9 => h9) rfl dX1_enterPerson_13 ?_
  refine lv_iload_n hx hb dX1_enterPerson_16 rfl (lv_at hl 0 rfl) ?_
  refine lv_lconst (v := 0) hx hb dX1_enterPerson_17 (by decide) ?_
  have hi4 := q_gd_in hf
  have hf := q_gd_go hf
  obtain ⟨S5, eS5, hf⟩ := q_let_go hf
  refine va_last hx hb hE.1 hP hD hS 3 1 rfl rfl hi4 dX1_enterPerson_18 (fun H locs hP hD hS => ?_)
  have hP : va_P D vwCl (wST cI cJ a (sST_away S3 (vp_updL (ST_away S3) (v1 : Int32).toNatClampNeg 0))) H := hP
  have hD : va_D (va_A (wST cI cJ a S) s.heap.size) (wST cI cJ a (sST_away S3 (vp_updL (ST_away S3) (v1 : Int32).toNatClampNeg 0))) := hD
  rw [eS5] at hP hD
  refine lv_aload_n hx hb dX1_enterPerson_19 rfl (lv_at hl 1 rfl) ?_
  refine va_get (D := D) (ci := 1) (v := .ref (a 4)) (C := RX1) (T := TX1) (N := 15) hx hb hu (fun _ h => h) hown hE.1 hP 0 rfl rfl 5 (Nat.le_of_ble_eq_true rfl) (hts (.fieldLink RX1 22 "CoverMeter$State" "covering" "[J") (List.mem_of_getElem? (i := 4) rfl)) (fun _ h9 => h9) rfl dX1_enterPerson_20 ?_
  refine lv_iload_n hx hb dX1_enterPerson_23 rfl (lv_at hl 0 rfl) ?_
  refine lv_lconst (v := 0) hx hb dX1_enterPerson_24 (by decide) ?_
  have hi6 := q_gd_in hf
  have hf := q_gd_go hf
  obtain ⟨S7, eS7, hf⟩ := q_let_go hf
  refine va_last hx hb hE.1 hP hD hS 4 1 rfl rfl hi6 dX1_enterPerson_25 (fun H locs hP hD hS => ?_)
  have hP : va_P D vwCl (wST cI cJ a (sST_covering S5 (vp_updL (ST_covering S5) (v1 : Int32).toNatClampNeg 0))) H := hP
  have hD : va_D (va_A (wST cI cJ a S) s.heap.size) (wST cI cJ a (sST_covering S5 (vp_updL (ST_covering S5) (v1 : Int32).toNatClampNeg 0))) := hD
  rw [eS7] at hP hD
  refine lv_aload_n hx hb dX1_enterPerson_26 rfl (lv_at hl 1 rfl) ?_
  refine va_get (D := D) (ci := 1) (v := .ref (a 5)) (C := RX1) (T := TX1) (N := 15) hx hb hu (fun _ h => h) hown hE.1 hP 0 rfl rfl 6 (Nat.le_of_ble_eq_true rfl) (hts (.fieldLink RX1 25 "CoverMeter$State" "meters" "[I") (List.mem_of_getElem? (i := 5) rfl)) (fun _ h9 => h9) rfl dX1_enterPerson_27 ?_
  refine lv_iload_n hx hb dX1_enterPerson_30 rfl (lv_at hl 0 rfl) ?_
  refine lv_iconst (v := 0) hx hb dX1_enterPerson_31 (by decide) ?_
  have hi8 := q_gd_in hf
  have hf := q_gd_go hf
  obtain ⟨S9, eS9, hf⟩ := q_let_go hf
  refine va_iast hx hb hE.1 hP hD hS 5 0 rfl rfl hi8 dX1_enterPerson_32 (fun H locs hP hD hS => ?_)
  have hP : va_P D vwCl (wST cI cJ a (sST_meters S7 (upd (ST_meters S7) (v1 : Int32).toNatClampNeg 0))) H := hP
  have hD : va_D (va_A (wST cI cJ a S) s.heap.size) (wST cI cJ a (sST_meters S7 (upd (ST_meters S7) (v1 : Int32).toNatClampNeg 0))) := hD
  rw [eS9] at hP hD
  refine lv_aload_n hx hb dX1_enterPerson_33 rfl (lv_at hl 1 rfl) ?_
  refine va_get (D := D) (ci := 1) (v := .ref (a 6)) (C := RX1) (T := TX1) (N := 15) hx hb hu (fun _ h => h) hown hE.1 hP 0 rfl rfl 7 (Nat.le_of_ble_eq_true rfl) (hts (.fieldLink RX1 28 "CoverMeter$State" "turns" "[I") (List.mem_of_getElem? (i := 6) rfl)) (fun _ h9 => h9) rfl dX1_enterPerson_34 ?_
  refine lv_iload_n hx hb dX1_enterPerson_37 rfl (lv_at hl 0 rfl) ?_
  refine lv_iconst (v := 0) hx hb dX1_enterPerson_38 (by decide) ?_
  have hi10 := q_gd_in hf
  have hf := q_gd_go hf
  obtain ⟨S11, eS11, hf⟩ := q_let_go hf
  refine va_iast hx hb hE.1 hP hD hS 6 0 rfl rfl hi10 dX1_enterPerson_39 (fun H locs hP hD hS => ?_)
  have hP : va_P D vwCl (wST cI cJ a (sST_turns S9 (upd (ST_turns S9) (v1 : Int32).toNatClampNeg 0))) H := hP
  have hD : va_D (va_A (wST cI cJ a S) s.heap.size) (wST cI cJ a (sST_turns S9 (upd (ST_turns S9) (v1 : Int32).toNatClampNeg 0))) := hD
  rw [eS11] at hP hD
  refine lv_aload_n hx hb dX1_enterPerson_40 rfl (lv_at hl 1 rfl) ?_
  refine lv_dup hx hb dX1_enterPerson_41 rfl ?_
  refine va_get (D := D) (ci := 1) (v := .int (ST_persons S11)) (C := RX1) (T := TX1) (N := 15) hx hb hu (fun _ h => h) hown hE.1 hP 0 rfl rfl 2 (Nat.le_of_ble_eq_true rfl) (hts (.fieldLink RX1 62 "CoverMeter$State" "persons" "I") (List.mem_of_getElem? (i := 1) rfl)) (fun _ h9 => h9) rfl dX1_enterPerson_42 ?_
  refine lv_iconst (v := 1) hx hb dX1_enterPerson_45 (by decide) ?_
  refine lv_iadd hx hb dX1_enterPerson_46 ?_
  obtain ⟨S12, eS12, hf⟩ := q_let_go hf
  refine va_put (D := D) (ci := 1) (v := .int ((ST_persons S11) + 1)) (ty := .int) (C := RX1) (T := TX1) (N := 15) hx hb hu (fun _ h => h) tyX1 tyX1_ok nmX1 hown hE.1 hP hD hS 0 rfl rfl 2 (Nat.le_of_ble_eq_true rfl) (hts (.fieldLink RX1 62 "CoverMeter$State" "persons" "I") (List.mem_of_getElem? (i := 1) rfl)) (fun _ h9 => h9) rfl (by decide +kernel) rfl rfl (Nat.le_of_ble_eq_true rfl) dX1_enterPerson_47 (fun H locs hP hD hS => ?_)
  have hP : va_P D vwCl (wST cI cJ a (sST_persons S11 ((ST_persons S11) + 1))) H := hP
  have hD : va_D (va_A (wST cI cJ a S) s.heap.size) (wST cI cJ a (sST_persons S11 ((ST_persons S11) + 1))) := hD
  rw [eS12] at hP hD
  refine lv_iload_n hx hb dX1_enterPerson_50 rfl (lv_at hl 0 rfl) ?_
  have ho := q_some hf
  subst ho
  exact W.iret hx hb hr (fun t ht hW => ⟨rfl, ⟨by rw [ht]; exact hP, hD⟩, hS.F ht⟩) hS.2.2 dX1_enterPerson_51
def f_X1_canChangeRoster_24 (S : ST) (l1 : Int32) (l3 : Int32) (l4 : Int64) (t0 : Int32) : Option Int32 := if t0 = l3 then
 (some 0)
 else (if q_in l1 8 = true then
 (if q_in l1 8 = true then
 (if ¬ (lg_cmp (((ST_away S (l1 : Int32).toNatClampNeg) ||| (ST_covering S (l1 : Int32).toNatClampNeg)) &&& l4) 0) = 0 then
 (some 0)
 else (some 1)) else none) else none)
def f_X1_canChangeRoster (S : ST) (p1 : Int32) (p2 : Int32) (p3 : Int32) : Option Int32 := q_let (((1 : Int64) <<< ((p2 : Int32).toInt64 &&& 63))) fun v1 =>
 if q_in p1 8 = true then
 (if (lg_cmp ((ST_rosters S (p1 : Int32).toNatClampNeg) &&& v1) 0) = 0 then
 (f_X1_canChangeRoster_24 S p1 p3 v1 0)
 else (f_X1_canChangeRoster_24 S p1 p3 v1 1)) else none
abbrev rX1_canChangeRoster : Room := { frames := 0, cells := 0, slots := 0, locals := 0 }
set_option maxRecDepth 100000 in
set_option maxHeartbeats 4000000 in
theorem c_X1_canChangeRoster (l : Launch) (D : va_G) (cI cJ cS : ClassId) (a : Nat → Nat) (S : ST) (p1 : Int32) (p2 : Int32) (p3 : Int32) (o : Int32) (hf : f_X1_canChangeRoster S p1 p2 p3 = some o) : Met l yX1_canChangeRoster wsX1_canChangeRoster rX1_canChangeRoster (va_Pc [.ref (a 0), .int p1, .int p2, .int p3] (q_B D cI cJ cS (wST cI cJ a S))) (q_Ri o) 0 0 (fun _ => False) := by
  refine Met.ofW (cc := cX1_canChangeRoster) (maxL := 7) (ret := some .boolean) (by decide) rfl ?_
  intro p e s m args below meth c s₁ B hml hv
  obtain ⟨rfl, hP, hE⟩ := hv
  have hx := B.exec
  have hb := B.bytes
  have hr := B.returns
  have hts := atoms_spec (ws := wsX1_canChangeRoster) B.pre
  have hown : s.vm.findClass RX1 = some m.cls := findClass_of_methodNamed B.named
  have hlocks := B.notSynchronized
  have hu : ∀ z ∈ wsX10, z.before _ s = true := fun z h => hts z (List.mem_cons_of_mem _ (List.mem_append_right _ h))
  have B_24 : ∀ (l1 : Int32) (l3 : Int32) (l4 : Int64) (t0 : Int32) (ls : Array Slot), lv_has ls 7 [(0, .ref (a 0)), (1, .int l1), (3, .int l3), (4, .long l4)] → f_X1_canChangeRoster_24 S l1 l3 l4 t0 = some o → W p l e (headSpec wsX1_canChangeRoster rX1_canChangeRoster).room s m (([.ref (a 0), .int p1, .int p2, .int p3] : List Value).toArray) below meth c s.heap [] 0 0 (MQ below (q_Ri o) (([.ref (a 0), .int p1, .int p2, .int p3] : List Value).toArray) s 0 0 (fun _ => False)) (F0 m 24 ls [.int t0]) := by
    intro l1 l3 l4 t0 ls hl hf
    unfold f_X1_canChangeRoster_24 at hf
    refine lv_istore (lv' := [(6, .int t0), (0, .ref (a 0)), (1, .int l1), (3, .int l3), (4, .long l4)]) hx hb dX1_canChangeRoster_24 hl (by decide) rfl (fun ls hl => ?_)
    refine lv_iload hx hb dX1_canChangeRoster_26 (lv_at hl 0 rfl) ?_
    refine lv_iload_n hx hb dX1_canChangeRoster_28 rfl (lv_at hl 3 rfl) ?_
    refine lv_icmp_eq (tgt := 57) hx hb dX1_canChangeRoster_29 (by decide) (fun c4 => ?_) (fun c4 => ?_)
    · have hf := q_ite_t c4 hf
      refine lv_iconst (v := 0) hx hb dX1_canChangeRoster_57 (by decide) ?_
      have ho := q_some hf
      subst ho
      exact W.zret hx hb hr rfl (fun t ht hW => ⟨rfl, ht⟩) t_nil dX1_canChangeRoster_58
    · have hf := q_ite_f c4 hf
      refine lv_aload_n hx hb dX1_canChangeRoster_32 rfl (lv_at hl 1 rfl) ?_
      refine va_get (D := D) (ci := 1) (v := .ref (a 3)) (C := RX1) (T := TX1) (N := 15) hx hb hu (fun _ h => h) hown hE.1 hP 0 rfl rfl 4 (Nat.le_of_ble_eq_true rfl) (hts (.fieldLink RX1 19 "CoverMeter$State" "away" "[J") (List.mem_of_getElem? (i := 2) rfl)) (fun _ h9 => h9) rfl dX1_canChangeRoster_33 ?_
      refine lv_iload_n hx hb dX1_canChangeRoster_36 rfl (lv_at hl 2 rfl) ?_
      have hi5 := q_gd_in hf
      have hf := q_gd_go hf
      refine va_lald hx hb hE.1 hP 3 1 rfl rfl hi5 dX1_canChangeRoster_37 ?_
      refine lv_aload_n hx hb dX1_canChangeRoster_38 rfl (lv_at hl 1 rfl) ?_
      refine va_get (D := D) (ci := 1) (v := .ref (a 4)) (C := RX1) (T := TX1) (N := 15) hx hb hu (fun _ h => h) hown hE.1 hP 0 rfl rfl 5 (Nat.le_of_ble_eq_true rfl) (hts (.fieldLink RX1 22 "CoverMeter$State" "covering" "[J") (List.mem_of_getElem? (i := 3) rfl)) (fun _ h9 => h9) rfl dX1_canChangeRoster_39 ?_
      refine lv_iload_n hx hb dX1_canChangeRoster_42 rfl (lv_at hl 2 rfl) ?_
      have hi6 := q_gd_in hf
      have hf := q_gd_go hf
      refine va_lald hx hb hE.1 hP 4 1 rfl rfl hi6 dX1_canChangeRoster_43 ?_
      refine lv_lor hx hb dX1_canChangeRoster_44 ?_
      refine lv_lload hx hb dX1_canChangeRoster_45 (lv_at hl 4 rfl) ?_
      refine lv_land hx hb dX1_canChangeRoster_47 ?_
      refine lv_lconst (v := 0) hx hb dX1_canChangeRoster_48 (by decide) ?_
      refine W.lcmp hx hb dX1_canChangeRoster_49 ?_
      refine lv_if_ne (tgt := 57) hx hb dX1_canChangeRoster_50 (by decide) (fun c7 => ?_) (fun c7 => ?_)
      · have hf := q_ite_t c7 hf
        refine lv_iconst (v := 0) hx hb dX1_canChangeRoster_57 (by decide) ?_
        have ho := q_some hf
        subst ho
        exact W.zret hx hb hr rfl (fun t ht hW => ⟨rfl, ht⟩) t_nil dX1_canChangeRoster_58
      · have hf := q_ite_n c7 hf
        refine lv_iconst (v := 1) hx hb dX1_canChangeRoster_53 (by decide) ?_
        refine lv_goto (tgt := 58) hx hb dX1_canChangeRoster_54 (by decide) ?_
        have ho := q_some hf
        subst ho
        exact W.zret hx hb hr rfl (fun t ht hW => ⟨rfl, ht⟩) t_nil dX1_canChangeRoster_58
  have hl := lv_entry ([.ref (a 0), .int p1, .int p2, .int p3]) (n := 7) (Nat.le_of_ble_eq_true rfl)
  rw [lg_entry_eq]
  generalize (lg_sl ([.ref (a 0), .int p1, .int p2, .int p3]) ++ List.replicate (7 - (lg_sl ([.ref (a 0), .int p1, .int p2, .int p3])).length) Slot.unset).toArray = ls at hl ⊢
  have hl : lv_has ls 7 [(0, .ref (a 0)), (1, .int p1), (2, .int p2), (3, .int p3)] := hl
  unfold f_X1_canChangeRoster at hf
  refine lv_lconst (v := 1) hx hb dX1_canChangeRoster_0 (by decide) ?_
  refine lv_iload_n hx hb dX1_canChangeRoster_1 rfl (lv_at hl 2 rfl) ?_
  refine lv_lshl (v := ((1 : Int64) <<< ((p2 : Int32).toInt64 &&& 63))) hx hb dX1_canChangeRoster_2 rfl ?_
  obtain ⟨v1, ev1, hf⟩ := q_let_go hf
  refine q_nml ev1 ?_
  refine lv_lstore (lv' := [(4, .long v1), (0, .ref (a 0)), (1, .int p1), (2, .int p2), (3, .int p3)]) hx hb dX1_canChangeRoster_3 hl (by decide) rfl (fun ls hl => ?_)
  refine lv_aload_n hx hb dX1_canChangeRoster_5 rfl (lv_at hl 1 rfl) ?_
  refine va_get (D := D) (ci := 1) (v := .ref (a 2)) (C := RX1) (T := TX1) (N := 15) hx hb hu (fun _ h => h) hown hE.1 hP 0 rfl rfl 3 (Nat.le_of_ble_eq_true rfl) (hts (.fieldLink RX1 15 "CoverMeter$State" "rosters" "[J") (List.mem_of_getElem? (i := 1) rfl)) (fun _ h9 => h9) rfl dX1_canChangeRoster_6 ?_
  refine lv_iload_n hx hb dX1_canChangeRoster_9 rfl (lv_at hl 2 rfl) ?_
  have hi2 := q_gd_in hf
  have hf := q_gd_go hf
  refine va_lald hx hb hE.1 hP 2 1 rfl rfl hi2 dX1_canChangeRoster_10 ?_
  refine lv_lload hx hb dX1_canChangeRoster_11 (lv_at hl 0 rfl) ?_
  refine lv_land hx hb dX1_canChangeRoster_13 ?_
  refine lv_lconst (v := 0) hx hb dX1_canChangeRoster_14 (by decide) ?_
  refine W.lcmp hx hb dX1_canChangeRoster_15 ?_
  refine lv_if_eq (tgt := 23) hx hb dX1_canChangeRoster_16 (by decide) (fun c3 => ?_) (fun c3 => ?_)
  · have hf := q_ite_t c3 hf
    refine lv_iconst (v := 0) hx hb dX1_canChangeRoster_23 (by decide) ?_
    exact B_24 p1 p3 v1 0 _ (lv_sub hl [1, 2, 4, 0] rfl) hf
  · have hf := q_ite_f c3 hf
    refine lv_iconst (v := 1) hx hb dX1_canChangeRoster_19 (by decide) ?_
    refine lv_goto (tgt := 24) hx hb dX1_canChangeRoster_20 (by decide) ?_
    exact B_24 p1 p3 v1 1 _ (lv_sub hl [1, 2, 4, 0] rfl) hf
def f_X1_canBeAbsent (S : ST) (p1 : Int32) (p2 : Int32) : Option Int32 := q_let (((1 : Int64) <<< ((p2 : Int32).toInt64 &&& 63))) fun v1 =>
 if q_in p1 8 = true then
 (if q_in p1 8 = true then
 (if (lg_cmp (((ST_rosters S (p1 : Int32).toNatClampNeg) &&& ((ST_away S (p1 : Int32).toNatClampNeg) ^^^ (-1))) &&& v1) 0) = 0 then
 (some 0)
 else (if 30 ≤ (ST_absences S) then
 (some 0)
 else (some 1))) else none) else none
abbrev rX1_canBeAbsent : Room := { frames := 0, cells := 0, slots := 0, locals := 0 }
set_option maxRecDepth 100000 in
set_option maxHeartbeats 4000000 in
theorem c_X1_canBeAbsent (l : Launch) (D : va_G) (cI cJ cS : ClassId) (a : Nat → Nat) (S : ST) (p1 : Int32) (p2 : Int32) (o : Int32) (hf : f_X1_canBeAbsent S p1 p2 = some o) : Met l yX1_canBeAbsent wsX1_canBeAbsent rX1_canBeAbsent (va_Pc [.ref (a 0), .int p1, .int p2] (q_B D cI cJ cS (wST cI cJ a S))) (q_Ri o) 0 0 (fun _ => False) := by
  refine Met.ofW (cc := cX1_canBeAbsent) (maxL := 5) (ret := some .boolean) (by decide) rfl ?_
  intro p e s m args below meth c s₁ B hml hv
  obtain ⟨rfl, hP, hE⟩ := hv
  have hx := B.exec
  have hb := B.bytes
  have hr := B.returns
  have hts := atoms_spec (ws := wsX1_canBeAbsent) B.pre
  have hown : s.vm.findClass RX1 = some m.cls := findClass_of_methodNamed B.named
  have hlocks := B.notSynchronized
  have hu : ∀ z ∈ wsX10, z.before _ s = true := fun z h => hts z (List.mem_cons_of_mem _ (List.mem_append_right _ h))
  have hl := lv_entry ([.ref (a 0), .int p1, .int p2]) (n := 5) (Nat.le_of_ble_eq_true rfl)
  rw [lg_entry_eq]
  generalize (lg_sl ([.ref (a 0), .int p1, .int p2]) ++ List.replicate (5 - (lg_sl ([.ref (a 0), .int p1, .int p2])).length) Slot.unset).toArray = ls at hl ⊢
  have hl : lv_has ls 5 [(0, .ref (a 0)), (1, .int p1), (2, .int p2)] := hl
  unfold f_X1_canBeAbsent at hf
  refine lv_lconst (v := 1) hx hb dX1_canBeAbsent_0 (by decide) ?_
  refine lv_iload_n hx hb dX1_canBeAbsent_1 rfl (lv_at hl 2 rfl) ?_
  refine lv_lshl (v := ((1 : Int64) <<< ((p2 : Int32).toInt64 &&& 63))) hx hb dX1_canBeAbsent_2 rfl ?_
  obtain ⟨v1, ev1, hf⟩ := q_let_go hf
  refine q_nml ev1 ?_
  refine lv_lstore_n (lv' := [(3, .long v1), (0, .ref (a 0)), (1, .int p1), (2, .int p2)]) hx hb dX1_canBeAbsent_3 rfl hl (by decide) rfl (fun ls hl => ?_)
  refine lv_aload_n hx hb dX1_canBeAbsent_4 rfl (lv_at hl 1 rfl) ?_
  refine va_get (D := D) (ci := 1) (v := .ref (a 2)) (C := RX1) (T := TX1) (N := 15) hx hb hu (fun _ h => h) hown hE.1 hP 0 rfl rfl 3 (Nat.le_of_ble_eq_true rfl) (hts (.fieldLink RX1 15 "CoverMeter$State" "rosters" "[J") (List.mem_of_getElem? (i := 1) rfl)) (fun _ h9 => h9) rfl dX1_canBeAbsent_5 ?_
  refine lv_iload_n hx hb dX1_canBeAbsent_8 rfl (lv_at hl 2 rfl) ?_
  have hi2 := q_gd_in hf
  have hf := q_gd_go hf
  refine va_lald hx hb hE.1 hP 2 1 rfl rfl hi2 dX1_canBeAbsent_9 ?_
  refine lv_aload_n hx hb dX1_canBeAbsent_10 rfl (lv_at hl 1 rfl) ?_
  refine va_get (D := D) (ci := 1) (v := .ref (a 3)) (C := RX1) (T := TX1) (N := 15) hx hb hu (fun _ h => h) hown hE.1 hP 0 rfl rfl 4 (Nat.le_of_ble_eq_true rfl) (hts (.fieldLink RX1 19 "CoverMeter$State" "away" "[J") (List.mem_of_getElem? (i := 2) rfl)) (fun _ h9 => h9) rfl dX1_canBeAbsent_11 ?_
  refine lv_iload_n hx hb dX1_canBeAbsent_14 rfl (lv_at hl 2 rfl) ?_
  have hi3 := q_gd_in hf
  have hf := q_gd_go hf
  refine va_lald hx hb hE.1 hP 3 1 rfl rfl hi3 dX1_canBeAbsent_15 ?_
  refine lv_ldc2 (v := (-1)) hx hb hown (hts (.constantLong RX1 68 (-1)) (List.mem_of_getElem? (i := 3) rfl)) dX1_canBeAbsent_16 ?_
  refine lv_lxor hx hb dX1_canBeAbsent_19 ?_
  refine lv_land hx hb dX1_canBeAbsent_20 ?_
  refine lv_lload_n hx hb dX1_canBeAbsent_21 rfl (lv_at hl 0 rfl) ?_
  refine lv_land hx hb dX1_canBeAbsent_22 ?_
  refine lv_lconst (v := 0) hx hb dX1_canBeAbsent_23 (by decide) ?_
  refine W.lcmp hx hb dX1_canBeAbsent_24 ?_
  refine lv_if_eq (tgt := 41) hx hb dX1_canBeAbsent_25 (by decide) (fun c4 => ?_) (fun c4 => ?_)
  · have hf := q_ite_t c4 hf
    refine lv_iconst (v := 0) hx hb dX1_canBeAbsent_41 (by decide) ?_
    have ho := q_some hf
    subst ho
    exact W.zret hx hb hr rfl (fun t ht hW => ⟨rfl, ht⟩) t_nil dX1_canBeAbsent_42
  · have hf := q_ite_f c4 hf
    refine lv_aload_n hx hb dX1_canBeAbsent_28 rfl (lv_at hl 1 rfl) ?_
    refine va_get (D := D) (ci := 1) (v := .int (ST_absences S)) (C := RX1) (T := TX1) (N := 15) hx hb hu (fun _ h => h) hown hE.1 hP 0 rfl rfl 8 (Nat.le_of_ble_eq_true rfl) (hts (.fieldLink RX1 65 "CoverMeter$State" "absences" "I") (List.mem_of_getElem? (i := 4) rfl)) (fun _ h9 => h9) rfl dX1_canBeAbsent_29 ?_
    refine lv_bipush (v := 30) hx hb dX1_canBeAbsent_32 (by decide) ?_
    refine lv_icmp_ge (tgt := 41) hx hb dX1_canBeAbsent_34 (by decide) (fun c5 => ?_) (fun c5 => ?_)
    · have hf := q_ite_t c5 hf
      refine lv_iconst (v := 0) hx hb dX1_canBeAbsent_41 (by decide) ?_
      have ho := q_some hf
      subst ho
      exact W.zret hx hb hr rfl (fun t ht hW => ⟨rfl, ht⟩) t_nil dX1_canBeAbsent_42
    · have hf := q_ite_f c5 hf
      refine lv_iconst (v := 1) hx hb dX1_canBeAbsent_37 (by decide) ?_
      refine lv_goto (tgt := 42) hx hb dX1_canBeAbsent_38 (by decide) ?_
      have ho := q_some hf
      subst ho
      exact W.zret hx hb hr rfl (fun t ht hW => ⟨rfl, ht⟩) t_nil dX1_canBeAbsent_42
def f_X1_dropBids_2 : Nat → ST → Int32 → Int32 → Option ST
  | 0, _, _, _ => none
  | n+1, Sz, l1, l2 => if 8 ≤ l2 then
 (some Sz)
 else ((f_X2_bidIndex l2 l1).bind fun r2 =>
 if q_in r2 240 = true then
 (q_let (sST_bids Sz (upd (ST_bids Sz) (r2 : Int32).toNatClampNeg (-1))) fun S4 =>
 q_let (l2 + 1) fun v5 =>
 f_X1_dropBids_2 n S4 l1 v5) else none)
def f_X1_dropBids (S : ST) (p1 : Int32) : Option ST := f_X1_dropBids_2 2000 S p1 0
abbrev rX1_dropBids : Room := { frames := 1, cells := 0, slots := 0, locals := 21 }
set_option maxRecDepth 100000 in
set_option maxHeartbeats 4000000 in
theorem c_X1_dropBids (l : Launch) (D : va_G) (cI cJ cS : ClassId) (a : Nat → Nat) (S : ST) (sz : Nat) (p1 : Int32) (o : ST) (hf : f_X1_dropBids S p1 = some o) : Met l yX1_dropBids wsX1_dropBids rX1_dropBids (va_Pc [.ref (a 0), .int p1] (q_BW D cI cJ cS (wST cI cJ a S) sz)) (q_Wo none D (wST cI cJ a S) (wST cI cJ a o) sz) 0 0 (va_A (wST cI cJ a S) sz) := by
  refine Met.ofW (cc := cX1_dropBids) (maxL := 3) (ret := none) (by decide) rfl ?_
  intro p e s m args below meth c s₁ B hml hv
  obtain ⟨rfl, hsz, hP, hE, hD0⟩ := hv
  have hx := B.exec
  have hb := B.bytes
  have hr := B.returns
  have hts := atoms_spec (ws := wsX1_dropBids) B.pre
  have hown : s.vm.findClass RX1 = some m.cls := findClass_of_methodNamed B.named
  have hlocks := B.notSynchronized
  have hu : ∀ z ∈ wsX10, z.before _ s = true := fun z h => hts z (List.mem_cons_of_mem _ (List.mem_append_right _ h))
  subst hsz
  have hD := hD0.self (sz := s.heap.size)
  have hS : va_S (va_A (wST cI cJ a S) s.heap.size) s.heap s.heap [] := va_S.rf
  have L_2 : ∀ (n : Nat) (Sz : ST) (H : Heap) (locs : List Loc) (hP : va_P D vwCl (wST cI cJ a Sz) H) (hD : va_D (va_A (wST cI cJ a S) s.heap.size) (wST cI cJ a Sz)) (hS : va_S (va_A (wST cI cJ a S) s.heap.size) s.heap H locs) (l1 : Int32) (l2 : Int32) (ls : Array Slot), lv_has ls 3 [(0, .ref (a 0)), (1, .int l1), (2, .int l2)] → f_X1_dropBids_2 n Sz l1 l2 = some o → W p l e (headSpec wsX1_dropBids rX1_dropBids).room s m (([.ref (a 0), .int p1] : List Value).toArray) below meth c H locs 0 0 (MQ below (q_Wo none D (wST cI cJ a S) (wST cI cJ a o) s.heap.size) (([.ref (a 0), .int p1] : List Value).toArray) s 0 0 (va_A (wST cI cJ a S) s.heap.size)) (F0 m 2 ls []) := by
    intro n
    induction n with
    | zero => intro Sz H locs hP hD hS l1 l2 ls hl hf; cases hf
    | succ n ih =>
      intro Sz H locs hP hD hS l1 l2 ls hl hf
      rw [f_X1_dropBids_2] at hf
      refine lv_iload_n hx hb dX1_dropBids_2 rfl (lv_at hl 2 rfl) ?_
      refine lv_bipush (v := 8) hx hb dX1_dropBids_3 (by decide) ?_
      refine lv_icmp_ge (tgt := 25) hx hb dX1_dropBids_5 (by decide) (fun c1 => ?_) (fun c1 => ?_)
      · have hf := q_ite_t c1 hf
        have ho := q_some hf
        subst ho
        exact W.vret hx hb hr (fun t ht hW => ⟨rfl, ⟨by rw [ht]; exact hP, hD⟩, hS.F ht⟩) hS.2.2 dX1_dropBids_25
      · have hf := q_ite_f c1 hf
        refine lv_aload_n hx hb dX1_dropBids_8 rfl (lv_at hl 0 rfl) ?_
        refine va_get (D := D) (ci := 1) (v := .ref (a 12)) (C := RX1) (T := TX1) (N := 15) hx hb hu (fun _ h => h) hown hE.1 hP 0 rfl rfl 14 (Nat.le_of_ble_eq_true rfl) (hts (.fieldLink RX1 46 "CoverMeter$State" "bids" "[I") (List.mem_of_getElem? (i := 1) rfl)) (fun _ h9 => h9) rfl dX1_dropBids_9 ?_
        refine lv_iload_n hx hb dX1_dropBids_12 rfl (lv_at hl 2 rfl) ?_
        refine lv_iload_n hx hb dX1_dropBids_13 rfl (lv_at hl 1 rfl) ?_
        obtain ⟨r2, hr2, hf⟩ := q_bd_go hf
        refine q_rdNi (As := [.int l2, .int l1]) (rest := [.ref (a 12)]) hx hb hml hown hts (c_X2_bidIndex l D cI cJ cS l2 l1 _ hr2) ⟨va_cnB 2 hts gX1_dropBids_X2_bidIndex_n74 rfl rfl rfl hE.2 (hts (.initialized RX2) (List.mem_of_getElem? (i := 3) rfl)) (by decide +kernel) ⟨(Nat.le_of_ble_eq_true rfl), (Nat.le_of_ble_eq_true rfl)⟩, hts (.static yX2_bidIndex) (List.mem_of_getElem? (i := 2) rfl), trivial⟩ hE rfl hl.1 rfl (Nat.le_of_ble_eq_true rfl) dX1_dropBids_14 ⟨Nat.zero_le _, Nat.zero_le _⟩ ?_
        refine lv_iconst (v := (-1)) hx hb dX1_dropBids_17 (by decide) ?_
        have hi3 := q_gd_in hf
        have hf := q_gd_go hf
        obtain ⟨S4, eS4, hf⟩ := q_let_go hf
        refine va_iast hx hb hE.1 hP hD hS 12 0 rfl rfl hi3 dX1_dropBids_18 (fun H locs hP hD hS => ?_)
        have hP : va_P D vwCl (wST cI cJ a (sST_bids Sz (upd (ST_bids Sz) (r2 : Int32).toNatClampNeg (-1)))) H := hP
        have hD : va_D (va_A (wST cI cJ a S) s.heap.size) (wST cI cJ a (sST_bids Sz (upd (ST_bids Sz) (r2 : Int32).toNatClampNeg (-1)))) := hD
        rw [eS4] at hP hD
        obtain ⟨v5, ev5, hf⟩ := q_let_go hf
        refine lv_iinc (v := v5) (lv' := [(2, .int v5), (0, .ref (a 0)), (1, .int l1)]) hx hb dX1_dropBids_19 hl (k := 2) rfl (by rw [← ev5]; rfl) (by decide) rfl (fun ls hl => ?_)
        refine lv_goto (tgt := 2) hx hb dX1_dropBids_22 (by decide) ?_
        exact ih S4 _ _ hP hD hS l1 v5 _ (lv_sub hl [1, 2, 0] rfl) hf
  have hl := lv_entry ([.ref (a 0), .int p1]) (n := 3) (Nat.le_of_ble_eq_true rfl)
  rw [lg_entry_eq]
  generalize (lg_sl ([.ref (a 0), .int p1]) ++ List.replicate (3 - (lg_sl ([.ref (a 0), .int p1])).length) Slot.unset).toArray = ls at hl ⊢
  have hl : lv_has ls 3 [(0, .ref (a 0)), (1, .int p1)] := hl
  unfold f_X1_dropBids at hf
  refine lv_iconst (v := 0) hx hb dX1_dropBids_0 (by decide) ?_
  refine lv_istore_n (lv' := [(2, .int 0), (0, .ref (a 0)), (1, .int p1)]) hx hb dX1_dropBids_1 rfl hl (by decide) rfl (fun ls hl => ?_)
  exact L_2 2000 S _ _ hP hD hS p1 0 _ (lv_sub hl [1, 2, 0] rfl) hf
def f_X1_enterAbsence (S : ST) (p1 : Int32) (p2 : Int32) : Option (Int32 × ST) := q_let ((ST_absences S)) fun v1 =>
 if q_in v1 30 = true then
 (q_let (sST_absentees S (upd (ST_absentees S) (v1 : Int32).toNatClampNeg p1)) fun S3 =>
 if q_in v1 30 = true then
 (q_let (sST_shifts S3 (upd (ST_shifts S3) (v1 : Int32).toNatClampNeg p2)) fun S5 =>
 if q_in v1 30 = true then
 (q_let (sST_statuses S5 (upd (ST_statuses S5) (v1 : Int32).toNatClampNeg 0)) fun S7 =>
 if q_in v1 30 = true then
 (q_let (sST_coverers S7 (upd (ST_coverers S7) (v1 : Int32).toNatClampNeg (-1))) fun S9 =>
 if q_in v1 30 = true then
 (q_let (sST_points S9 (upd (ST_points S9) (v1 : Int32).toNatClampNeg 0)) fun S11 =>
 (f_X1_dropBids S11 v1).bind fun r12 =>
 if q_in p1 8 = true then
 (if q_in p1 8 = true then
 (q_let (sST_away r12 (vp_updL (ST_away r12) (p1 : Int32).toNatClampNeg ((ST_away r12 (p1 : Int32).toNatClampNeg) ||| ((1 : Int64) <<< ((p2 : Int32).toInt64 &&& 63))))) fun S15 =>
 q_let (sST_absences S15 ((ST_absences S15) + 1)) fun S16 =>
 some (v1, S16)) else none) else none) else none) else none) else none) else none) else none
abbrev rX1_enterAbsence : Room := { frames := 2, cells := 0, slots := 0, locals := 43 }
set_option maxRecDepth 100000 in
set_option maxHeartbeats 4000000 in
theorem c_X1_enterAbsence (l : Launch) (D : va_G) (cI cJ cS : ClassId) (a : Nat → Nat) (S : ST) (sz : Nat) (p1 : Int32) (p2 : Int32) (o : (Int32 × ST)) (hf : f_X1_enterAbsence S p1 p2 = some o) : Met l yX1_enterAbsence wsX1_enterAbsence rX1_enterAbsence (va_Pc [.ref (a 0), .int p1, .int p2] (q_BW D cI cJ cS (wST cI cJ a S) sz)) (q_Wo (some (.int o.1)) D (wST cI cJ a S) (wST cI cJ a o.2) sz) 0 0 (va_A (wST cI cJ a S) sz) := by
  refine Met.ofW (cc := cX1_enterAbsence) (maxL := 4) (ret := some .int) (by decide) rfl ?_
  intro p e s m args below meth c s₁ B hml hv
  obtain ⟨rfl, hsz, hP, hE, hD0⟩ := hv
  have hx := B.exec
  have hb := B.bytes
  have hr := B.returns
  have hts := atoms_spec (ws := wsX1_enterAbsence) B.pre
  have hown : s.vm.findClass RX1 = some m.cls := findClass_of_methodNamed B.named
  have hlocks := B.notSynchronized
  have hu : ∀ z ∈ wsX10, z.before _ s = true := fun z h => hts z (List.mem_cons_of_mem _ (List.mem_append_right _ h))
  subst hsz
  have hD := hD0.self (sz := s.heap.size)
  have hS : va_S (va_A (wST cI cJ a S) s.heap.size) s.heap s.heap [] := va_S.rf
  have hl := lv_entry ([.ref (a 0), .int p1, .int p2]) (n := 4) (Nat.le_of_ble_eq_true rfl)
  rw [lg_entry_eq]
  generalize (lg_sl ([.ref (a 0), .int p1, .int p2]) ++ List.replicate (4 - (lg_sl ([.ref (a 0), .int p1, .int p2])).length) Slot.unset).toArray = ls at hl ⊢
  have hl : lv_has ls 4 [(0, .ref (a 0)), (1, .int p1), (2, .int p2)] := hl
  unfold f_X1_enterAbsence at hf
  refine lv_aload_n hx hb dX1_enterAbsence_0 rfl (lv_at hl 0 rfl) ?_
  refine va_get (D := D) (ci := 1) (v := .int (ST_absences S)) (C := RX1) (T := TX1) (N := 15) hx hb hu (fun _ h => h) hown hE.1 hP 0 rfl rfl 8 (Nat.le_of_ble_eq_true rfl) (hts (.fieldLink RX1 65 "CoverMeter$State" "absences" "I") (List.mem_of_getElem? (i := 1) rfl)) (fun _ h9 => h9) rfl dX1_enterAbsence_1 ?_
  obtain ⟨v1, ev1, hf⟩ := q_let_go hf
  refine q_nmi ev1 ?_
  refine lv_istore_n (lv' := [(3, .int v1), (0, .ref (a 0)), (1, .int p1), (2, .int p2)]) hx hb dX1_enterAbsence_4 rfl hl (by decide) rfl (fun ls hl => ?_)
  refine lv_aload_n hx hb dX1_enterAbsence_5 rfl (lv_at hl 1 rfl) ?_
  refine va_get (D := D) (ci := 1) (v := .ref (a 7)) (C := RX1) (T := TX1) (N := 15) hx hb hu (fun _ h => h) hown hE.1 hP 0 rfl rfl 9 (Nat.le_of_ble_eq_true rfl) (hts (.fieldLink RX1 31 "CoverMeter$State" "absentees" "[I") (List.mem_of_getElem? (i := 2) rfl)) (fun _ h9 => h9) rfl dX1_enterAbsence_6 ?_
  refine lv_iload_n hx hb dX1_enterAbsence_9 rfl (lv_at hl 0 rfl) ?_
  refine lv_iload_n hx hb dX1_enterAbsence_10 rfl (lv_at hl 2 rfl) ?_
  have hi2 := q_gd_in hf
  have hf := q_gd_go hf
  obtain ⟨S3, eS3, hf⟩ := q_let_go hf
  refine va_iast hx hb hE.1 hP hD hS 7 0 rfl rfl hi2 dX1_enterAbsence_11 (fun H locs hP hD hS => ?_)
  have hP : va_P D vwCl (wST cI cJ a (sST_absentees S (upd (ST_absentees S) (v1 : Int32).toNatClampNeg p1))) H := hP
  have hD : va_D (va_A (wST cI cJ a S) s.heap.size) (wST cI cJ a (sST_absentees S (upd (ST_absentees S) (v1 : Int32).toNatClampNeg p1))) := hD
  rw [eS3] at hP hD
  refine lv_aload_n hx hb dX1_enterAbsence_12 rfl (lv_at hl 1 rfl) ?_
  refine va_get (D := D) (ci := 1) (v := .ref (a 8)) (C := RX1) (T := TX1) (N := 15) hx hb hu (fun _ h => h) hown hE.1 hP 0 rfl rfl 10 (Nat.le_of_ble_eq_true rfl) (hts (.fieldLink RX1 34 "CoverMeter$State" "shifts" "[I") (List.mem_of_getElem? (i := 3) rfl)) (fun _ h9 => h9) rfl dX1_enterAbsence_13 ?_
  refine lv_iload_n hx hb dX1_enterAbsence_16 rfl (lv_at hl 0 rfl) ?_
  refine lv_iload_n hx hb dX1_enterAbsence_17 rfl (lv_at hl 3 rfl) ?_
  have hi4 := q_gd_in hf
  have hf := q_gd_go hf
  obtain ⟨S5, eS5, hf⟩ := q_let_go hf
  refine va_iast hx hb hE.1 hP hD hS 8 0 rfl rfl hi4 dX1_enterAbsence_18 (fun H locs hP hD hS => ?_)
  have hP : va_P D vwCl (wST cI cJ a (sST_shifts S3 (upd (ST_shifts S3) (v1 : Int32).toNatClampNeg p2))) H := hP
  have hD : va_D (va_A (wST cI cJ a S) s.heap.size) (wST cI cJ a (sST_shifts S3 (upd (ST_shifts S3) (v1 : Int32).toNatClampNeg p2))) := hD
  rw [eS5] at hP hD
  refine lv_aload_n hx hb dX1_enterAbsence_19 rfl (lv_at hl 1 rfl) ?_
  refine va_get (D := D) (ci := 1) (v := .ref (a 9)) (C := RX1) (T := TX1) (N := 15) hx hb hu (fun _ h => h) hown hE.1 hP 0 rfl rfl 11 (Nat.le_of_ble_eq_true rfl) (hts (.fieldLink RX1 37 "CoverMeter$State" "statuses" "[I") (List.mem_of_getElem? (i := 4) rfl)) (fun _ h9 => h9) rfl dX1_enterAbsence_20 ?_
  refine lv_iload_n hx hb dX1_enterAbsence_23 rfl (lv_at hl 0 rfl) ?_
  refine lv_iconst (v := 0) hx hb dX1_enterAbsence_24 (by decide) ?_
  have hi6 := q_gd_in hf
  have hf := q_gd_go hf
  obtain ⟨S7, eS7, hf⟩ := q_let_go hf
  refine va_iast hx hb hE.1 hP hD hS 9 0 rfl rfl hi6 dX1_enterAbsence_25 (fun H locs hP hD hS => ?_)
  have hP : va_P D vwCl (wST cI cJ a (sST_statuses S5 (upd (ST_statuses S5) (v1 : Int32).toNatClampNeg 0))) H := hP
  have hD : va_D (va_A (wST cI cJ a S) s.heap.size) (wST cI cJ a (sST_statuses S5 (upd (ST_statuses S5) (v1 : Int32).toNatClampNeg 0))) := hD
  rw [eS7] at hP hD
  refine lv_aload_n hx hb dX1_enterAbsence_26 rfl (lv_at hl 1 rfl) ?_
  refine va_get (D := D) (ci := 1) (v := .ref (a 10)) (C := RX1) (T := TX1) (N := 15) hx hb hu (fun _ h => h) hown hE.1 hP 0 rfl rfl 12 (Nat.le_of_ble_eq_true rfl) (hts (.fieldLink RX1 40 "CoverMeter$State" "coverers" "[I") (List.mem_of_getElem? (i := 5) rfl)) (fun _ h9 => h9) rfl dX1_enterAbsence_27 ?_
  refine lv_iload_n hx hb dX1_enterAbsence_30 rfl (lv_at hl 0 rfl) ?_
  refine lv_iconst (v := (-1)) hx hb dX1_enterAbsence_31 (by decide) ?_
  have hi8 := q_gd_in hf
  have hf := q_gd_go hf
  obtain ⟨S9, eS9, hf⟩ := q_let_go hf
  refine va_iast hx hb hE.1 hP hD hS 10 0 rfl rfl hi8 dX1_enterAbsence_32 (fun H locs hP hD hS => ?_)
  have hP : va_P D vwCl (wST cI cJ a (sST_coverers S7 (upd (ST_coverers S7) (v1 : Int32).toNatClampNeg (-1)))) H := hP
  have hD : va_D (va_A (wST cI cJ a S) s.heap.size) (wST cI cJ a (sST_coverers S7 (upd (ST_coverers S7) (v1 : Int32).toNatClampNeg (-1)))) := hD
  rw [eS9] at hP hD
  refine lv_aload_n hx hb dX1_enterAbsence_33 rfl (lv_at hl 1 rfl) ?_
  refine va_get (D := D) (ci := 1) (v := .ref (a 11)) (C := RX1) (T := TX1) (N := 15) hx hb hu (fun _ h => h) hown hE.1 hP 0 rfl rfl 13 (Nat.le_of_ble_eq_true rfl) (hts (.fieldLink RX1 43 "CoverMeter$State" "points" "[I") (List.mem_of_getElem? (i := 6) rfl)) (fun _ h9 => h9) rfl dX1_enterAbsence_34 ?_
  refine lv_iload_n hx hb dX1_enterAbsence_37 rfl (lv_at hl 0 rfl) ?_
  refine lv_iconst (v := 0) hx hb dX1_enterAbsence_38 (by decide) ?_
  have hi10 := q_gd_in hf
  have hf := q_gd_go hf
  obtain ⟨S11, eS11, hf⟩ := q_let_go hf
  refine va_iast hx hb hE.1 hP hD hS 11 0 rfl rfl hi10 dX1_enterAbsence_39 (fun H locs hP hD hS => ?_)
  have hP : va_P D vwCl (wST cI cJ a (sST_points S9 (upd (ST_points S9) (v1 : Int32).toNatClampNeg 0))) H := hP
  have hD : va_D (va_A (wST cI cJ a S) s.heap.size) (wST cI cJ a (sST_points S9 (upd (ST_points S9) (v1 : Int32).toNatClampNeg 0))) := hD
  rw [eS11] at hP hD
  refine lv_aload_n hx hb dX1_enterAbsence_40 rfl (lv_at hl 1 rfl) ?_
  refine lv_iload_n hx hb dX1_enterAbsence_41 rfl (lv_at hl 0 rfl) ?_
  obtain ⟨r12, hr12, hf⟩ := q_bd_go hf
  refine q_wrVv (ci := 1) (As := [.int v1]) (rest := []) hx hb hml hown hts (c_X1_dropBids l D cI cJ cS a S11 _ v1 _ hr12) (cwV 1 hts gX1_enterAbsence_X1_dropBids rfl rfl rfl (by decide +kernel) ⟨(Nat.le_of_ble_eq_true rfl), (Nat.le_of_ble_eq_true rfl)⟩) hE hP hD hS (fun q h => Or.inr h) rfl rfl rfl hl.1 rfl (Nat.le_of_ble_eq_true rfl) dX1_enterAbsence_42 ⟨Nat.zero_le _, Nat.zero_le _⟩ (fun H locs hP hD hS => ?_)
  refine lv_aload_n hx hb dX1_enterAbsence_45 rfl (lv_at hl 1 rfl) ?_
  refine va_get (D := D) (ci := 1) (v := .ref (a 3)) (C := RX1) (T := TX1) (N := 15) hx hb hu (fun _ h => h) hown hE.1 hP 0 rfl rfl 4 (Nat.le_of_ble_eq_true rfl) (hts (.fieldLink RX1 19 "CoverMeter$State" "away" "[J") (List.mem_of_getElem? (i := 7) rfl)) (fun _ h9 => h9) rfl dX1_enterAbsence_46 ?_
  refine lv_iload_n hx hb dX1_enterAbsence_49 rfl (lv_at hl 2 rfl) ?_
  refine lv_dup2_11 hx hb dX1_enterAbsence_50 rfl rfl ?_
  have hi13 := q_gd_in hf
  have hf := q_gd_go hf
  refine va_lald hx hb hE.1 hP 3 1 rfl rfl hi13 dX1_enterAbsence_51 ?_
  refine lv_lconst (v := 1) hx hb dX1_enterAbsence_52 (by decide) ?_
  refine lv_iload_n hx hb dX1_enterAbsence_53 rfl (lv_at hl 3 rfl) ?_
  refine lv_lshl (v := ((1 : Int64) <<< ((p2 : Int32).toInt64 &&& 63))) hx hb dX1_enterAbsence_54 rfl ?_
  refine lv_lor hx hb dX1_enterAbsence_55 ?_
  have hi14 := q_gd_in hf
  have hf := q_gd_go hf
  obtain ⟨S15, eS15, hf⟩ := q_let_go hf
  refine va_last hx hb hE.1 hP hD hS 3 1 rfl rfl hi14 dX1_enterAbsence_56 (fun H locs hP hD hS => ?_)
  have hP : va_P D vwCl (wST cI cJ a (sST_away r12 (vp_updL (ST_away r12) (p1 : Int32).toNatClampNeg ((ST_away r12 (p1 : Int32).toNatClampNeg) ||| ((1 : Int64) <<< ((p2 : Int32).toInt64 &&& 63)))))) H := hP
  have hD : va_D (va_A (wST cI cJ a S) s.heap.size) (wST cI cJ a (sST_away r12 (vp_updL (ST_away r12) (p1 : Int32).toNatClampNeg ((ST_away r12 (p1 : Int32).toNatClampNeg) ||| ((1 : Int64) <<< ((p2 : Int32).toInt64 &&& 63)))))) := hD
  rw [eS15] at hP hD
  refine lv_aload_n hx hb dX1_enterAbsence_57 rfl (lv_at hl 1 rfl) ?_
  refine lv_dup hx hb dX1_enterAbsence_58 rfl ?_
  refine va_get (D := D) (ci := 1) (v := .int (ST_absences S15)) (C := RX1) (T := TX1) (N := 15) hx hb hu (fun _ h => h) hown hE.1 hP 0 rfl rfl 8 (Nat.le_of_ble_eq_true rfl) (hts (.fieldLink RX1 65 "CoverMeter$State" "absences" "I") (List.mem_of_getElem? (i := 1) rfl)) (fun _ h9 => h9) rfl dX1_enterAbsence_59 ?_
  refine lv_iconst (v := 1) hx hb dX1_enterAbsence_62 (by decide) ?_
  refine lv_iadd hx hb dX1_enterAbsence_63 ?_
  obtain ⟨S16, eS16, hf⟩ := q_let_go hf
  refine va_put (D := D) (ci := 1) (v := .int ((ST_absences S15) + 1)) (ty := .int) (C := RX1) (T := TX1) (N := 15) hx hb hu (fun _ h => h) tyX1 tyX1_ok nmX1 hown hE.1 hP hD hS 0 rfl rfl 8 (Nat.le_of_ble_eq_true rfl) (hts (.fieldLink RX1 65 "CoverMeter$State" "absences" "I") (List.mem_of_getElem? (i := 1) rfl)) (fun _ h9 => h9) rfl (by decide +kernel) rfl rfl (Nat.le_of_ble_eq_true rfl) dX1_enterAbsence_64 (fun H locs hP hD hS => ?_)
  have hP : va_P D vwCl (wST cI cJ a (sST_absences S15 ((ST_absences S15) + 1))) H := hP
  have hD : va_D (va_A (wST cI cJ a S) s.heap.size) (wST cI cJ a (sST_absences S15 ((ST_absences S15) + 1))) := hD
  rw [eS16] at hP hD
  refine lv_iload_n hx hb dX1_enterAbsence_67 rfl (lv_at hl 0 rfl) ?_
  have ho := q_some hf
  subst ho
  exact W.iret hx hb hr (fun t ht hW => ⟨rfl, ⟨by rw [ht]; exact hP, hD⟩, hS.F ht⟩) hS.2.2 dX1_enterAbsence_68
def f_X1_canBid (S : ST) (p1 : Int32) (p2 : Int32) : Option Int32 := if q_in p2 30 = true then
 (if ¬ (ST_statuses S (p2 : Int32).toNatClampNeg) = 0 then
 (some 0)
 else (if q_in p2 30 = true then
 (if (ST_absentees S (p2 : Int32).toNatClampNeg) = p1 then
 (some 0)
 else (some 1)) else none)) else none
abbrev rX1_canBid : Room := { frames := 0, cells := 0, slots := 0, locals := 0 }
set_option maxRecDepth 100000 in
set_option maxHeartbeats 4000000 in
theorem c_X1_canBid (l : Launch) (D : va_G) (cI cJ cS : ClassId) (a : Nat → Nat) (S : ST) (p1 : Int32) (p2 : Int32) (o : Int32) (hf : f_X1_canBid S p1 p2 = some o) : Met l yX1_canBid wsX1_canBid rX1_canBid (va_Pc [.ref (a 0), .int p1, .int p2] (q_B D cI cJ cS (wST cI cJ a S))) (q_Ri o) 0 0 (fun _ => False) := by
  refine Met.ofW (cc := cX1_canBid) (maxL := 3) (ret := some .boolean) (by decide) rfl ?_
  intro p e s m args below meth c s₁ B hml hv
  obtain ⟨rfl, hP, hE⟩ := hv
  have hx := B.exec
  have hb := B.bytes
  have hr := B.returns
  have hts := atoms_spec (ws := wsX1_canBid) B.pre
  have hown : s.vm.findClass RX1 = some m.cls := findClass_of_methodNamed B.named
  have hlocks := B.notSynchronized
  have hu : ∀ z ∈ wsX10, z.before _ s = true := fun z h => hts z (List.mem_cons_of_mem _ (List.mem_append_right _ h))
  have hl := lv_entry ([.ref (a 0), .int p1, .int p2]) (n := 3) (Nat.le_of_ble_eq_true rfl)
  rw [lg_entry_eq]
  generalize (lg_sl ([.ref (a 0), .int p1, .int p2]) ++ List.replicate (3 - (lg_sl ([.ref (a 0), .int p1, .int p2])).length) Slot.unset).toArray = ls at hl ⊢
  have hl : lv_has ls 3 [(0, .ref (a 0)), (1, .int p1), (2, .int p2)] := hl
  unfold f_X1_canBid at hf
  refine lv_aload_n hx hb dX1_canBid_0 rfl (lv_at hl 0 rfl) ?_
  refine va_get (D := D) (ci := 1) (v := .ref (a 9)) (C := RX1) (T := TX1) (N := 15) hx hb hu (fun _ h => h) hown hE.1 hP 0 rfl rfl 11 (Nat.le_of_ble_eq_true rfl) (hts (.fieldLink RX1 37 "CoverMeter$State" "statuses" "[I") (List.mem_of_getElem? (i := 1) rfl)) (fun _ h9 => h9) rfl dX1_canBid_1 ?_
  refine lv_iload_n hx hb dX1_canBid_4 rfl (lv_at hl 2 rfl) ?_
  have hi1 := q_gd_in hf
  have hf := q_gd_go hf
  refine va_iald hx hb hE.1 hP 9 0 rfl rfl hi1 dX1_canBid_5 ?_
  refine lv_if_ne (tgt := 23) hx hb dX1_canBid_6 (by decide) (fun c2 => ?_) (fun c2 => ?_)
  · have hf := q_ite_t c2 hf
    refine lv_iconst (v := 0) hx hb dX1_canBid_23 (by decide) ?_
    have ho := q_some hf
    subst ho
    exact W.zret hx hb hr rfl (fun t ht hW => ⟨rfl, ht⟩) t_nil dX1_canBid_24
  · have hf := q_ite_n c2 hf
    refine lv_aload_n hx hb dX1_canBid_9 rfl (lv_at hl 0 rfl) ?_
    refine va_get (D := D) (ci := 1) (v := .ref (a 7)) (C := RX1) (T := TX1) (N := 15) hx hb hu (fun _ h => h) hown hE.1 hP 0 rfl rfl 9 (Nat.le_of_ble_eq_true rfl) (hts (.fieldLink RX1 31 "CoverMeter$State" "absentees" "[I") (List.mem_of_getElem? (i := 2) rfl)) (fun _ h9 => h9) rfl dX1_canBid_10 ?_
    refine lv_iload_n hx hb dX1_canBid_13 rfl (lv_at hl 2 rfl) ?_
    have hi3 := q_gd_in hf
    have hf := q_gd_go hf
    refine va_iald hx hb hE.1 hP 7 0 rfl rfl hi3 dX1_canBid_14 ?_
    refine lv_iload_n hx hb dX1_canBid_15 rfl (lv_at hl 1 rfl) ?_
    refine lv_icmp_eq (tgt := 23) hx hb dX1_canBid_16 (by decide) (fun c4 => ?_) (fun c4 => ?_)
    · have hf := q_ite_t c4 hf
      refine lv_iconst (v := 0) hx hb dX1_canBid_23 (by decide) ?_
      have ho := q_some hf
      subst ho
      exact W.zret hx hb hr rfl (fun t ht hW => ⟨rfl, ht⟩) t_nil dX1_canBid_24
    · have hf := q_ite_f c4 hf
      refine lv_iconst (v := 1) hx hb dX1_canBid_19 (by decide) ?_
      refine lv_goto (tgt := 24) hx hb dX1_canBid_20 (by decide) ?_
      have ho := q_some hf
      subst ho
      exact W.zret hx hb hr rfl (fun t ht hW => ⟨rfl, ht⟩) t_nil dX1_canBid_24
def f_X1_bidsFor_4 (S : ST) : Nat → Int32 → Int32 → Int32 → Option Int32
  | 0, _, _, _ => none
  | n+1, l1, l2, l3 => if (ST_persons S) ≤ l3 then
 (some l2)
 else ((f_X2_bidIndex l3 l1).bind fun r2 =>
 if q_in r2 240 = true then
 (if (ST_bids S (r2 : Int32).toNatClampNeg) = (-1) then
 (q_let (l3 + 1) fun v5 =>
 f_X1_bidsFor_4 S n l1 l2 v5)
 else (q_let (l2 + 1) fun v6 =>
 q_let (l3 + 1) fun v7 =>
 f_X1_bidsFor_4 S n l1 v6 v7)) else none)
def f_X1_bidsFor (S : ST) (p1 : Int32) : Option Int32 := f_X1_bidsFor_4 S 2000 p1 0 0
abbrev rX1_bidsFor : Room := { frames := 1, cells := 0, slots := 0, locals := 21 }
set_option maxRecDepth 100000 in
set_option maxHeartbeats 4000000 in
theorem c_X1_bidsFor (l : Launch) (D : va_G) (cI cJ cS : ClassId) (a : Nat → Nat) (S : ST) (p1 : Int32) (o : Int32) (hf : f_X1_bidsFor S p1 = some o) : Met l yX1_bidsFor wsX1_bidsFor rX1_bidsFor (va_Pc [.ref (a 0), .int p1] (q_B D cI cJ cS (wST cI cJ a S))) (q_Ri o) 0 0 (fun _ => False) := by
  refine Met.ofW (cc := cX1_bidsFor) (maxL := 4) (ret := some .int) (by decide) rfl ?_
  intro p e s m args below meth c s₁ B hml hv
  obtain ⟨rfl, hP, hE⟩ := hv
  have hx := B.exec
  have hb := B.bytes
  have hr := B.returns
  have hts := atoms_spec (ws := wsX1_bidsFor) B.pre
  have hown : s.vm.findClass RX1 = some m.cls := findClass_of_methodNamed B.named
  have hlocks := B.notSynchronized
  have hu : ∀ z ∈ wsX10, z.before _ s = true := fun z h => hts z (List.mem_cons_of_mem _ (List.mem_append_right _ h))
  have L_4 : ∀ (n : Nat) (l1 : Int32) (l2 : Int32) (l3 : Int32) (ls : Array Slot), lv_has ls 4 [(0, .ref (a 0)), (1, .int l1), (2, .int l2), (3, .int l3)] → f_X1_bidsFor_4 S n l1 l2 l3 = some o → W p l e (headSpec wsX1_bidsFor rX1_bidsFor).room s m (([.ref (a 0), .int p1] : List Value).toArray) below meth c s.heap [] 0 0 (MQ below (q_Ri o) (([.ref (a 0), .int p1] : List Value).toArray) s 0 0 (fun _ => False)) (F0 m 4 ls []) := by
    intro n
    induction n with
    | zero => intro l1 l2 l3 ls hl hf; cases hf
    | succ n ih =>
      intro l1 l2 l3 ls hl hf
      rw [f_X1_bidsFor_4] at hf
      refine lv_iload_n hx hb dX1_bidsFor_4 rfl (lv_at hl 3 rfl) ?_
      refine lv_aload_n hx hb dX1_bidsFor_5 rfl (lv_at hl 0 rfl) ?_
      refine va_get (D := D) (ci := 1) (v := .int (ST_persons S)) (C := RX1) (T := TX1) (N := 15) hx hb hu (fun _ h => h) hown hE.1 hP 0 rfl rfl 2 (Nat.le_of_ble_eq_true rfl) (hts (.fieldLink RX1 62 "CoverMeter$State" "persons" "I") (List.mem_of_getElem? (i := 1) rfl)) (fun _ h9 => h9) rfl dX1_bidsFor_6 ?_
      refine lv_icmp_ge (tgt := 35) hx hb dX1_bidsFor_9 (by decide) (fun c1 => ?_) (fun c1 => ?_)
      · have hf := q_ite_t c1 hf
        refine lv_iload_n hx hb dX1_bidsFor_35 rfl (lv_at hl 2 rfl) ?_
        have ho := q_some hf
        subst ho
        exact W.iret hx hb hr (fun t ht hW => ⟨rfl, ht⟩) t_nil dX1_bidsFor_36
      · have hf := q_ite_f c1 hf
        refine lv_aload_n hx hb dX1_bidsFor_12 rfl (lv_at hl 0 rfl) ?_
        refine va_get (D := D) (ci := 1) (v := .ref (a 12)) (C := RX1) (T := TX1) (N := 15) hx hb hu (fun _ h => h) hown hE.1 hP 0 rfl rfl 14 (Nat.le_of_ble_eq_true rfl) (hts (.fieldLink RX1 46 "CoverMeter$State" "bids" "[I") (List.mem_of_getElem? (i := 2) rfl)) (fun _ h9 => h9) rfl dX1_bidsFor_13 ?_
        refine lv_iload_n hx hb dX1_bidsFor_16 rfl (lv_at hl 3 rfl) ?_
        refine lv_iload_n hx hb dX1_bidsFor_17 rfl (lv_at hl 1 rfl) ?_
        obtain ⟨r2, hr2, hf⟩ := q_bd_go hf
        refine q_rdNi (As := [.int l3, .int l1]) (rest := [.ref (a 12)]) hx hb hml hown hts (c_X2_bidIndex l D cI cJ cS l3 l1 _ hr2) ⟨va_cnB 2 hts gX1_bidsFor_X2_bidIndex_n74 rfl rfl rfl hE.2 (hts (.initialized RX2) (List.mem_of_getElem? (i := 4) rfl)) (by decide +kernel) ⟨(Nat.le_of_ble_eq_true rfl), (Nat.le_of_ble_eq_true rfl)⟩, hts (.static yX2_bidIndex) (List.mem_of_getElem? (i := 3) rfl), trivial⟩ hE rfl hl.1 rfl (Nat.le_of_ble_eq_true rfl) dX1_bidsFor_18 ⟨Nat.zero_le _, Nat.zero_le _⟩ ?_
        have hi3 := q_gd_in hf
        have hf := q_gd_go hf
        refine va_iald hx hb hE.1 hP 12 0 rfl rfl hi3 dX1_bidsFor_21 ?_
        refine lv_iconst (v := (-1)) hx hb dX1_bidsFor_22 (by decide) ?_
        refine lv_icmp_eq (tgt := 29) hx hb dX1_bidsFor_23 (by decide) (fun c4 => ?_) (fun c4 => ?_)
        · have hf := q_ite_t c4 hf
          obtain ⟨v5, ev5, hf⟩ := q_let_go hf
          refine lv_iinc (v := v5) (lv' := [(3, .int v5), (0, .ref (a 0)), (1, .int l1), (2, .int l2)]) hx hb dX1_bidsFor_29 hl (k := 3) rfl (by rw [← ev5]; rfl) (by decide) rfl (fun ls hl => ?_)
          refine lv_goto (tgt := 4) hx hb dX1_bidsFor_32 (by decide) ?_
          exact ih l1 l2 v5 _ (lv_sub hl [1, 2, 3, 0] rfl) hf
        · have hf := q_ite_f c4 hf
          obtain ⟨v6, ev6, hf⟩ := q_let_go hf
          refine lv_iinc (v := v6) (lv' := [(2, .int v6), (0, .ref (a 0)), (1, .int l1), (3, .int l3)]) hx hb dX1_bidsFor_26 hl (k := 2) rfl (by rw [← ev6]; rfl) (by decide) rfl (fun ls hl => ?_)
          obtain ⟨v7, ev7, hf⟩ := q_let_go hf
          refine lv_iinc (v := v7) (lv' := [(3, .int v7), (2, .int v6), (0, .ref (a 0)), (1, .int l1)]) hx hb dX1_bidsFor_29 hl (k := 3) rfl (by rw [← ev7]; rfl) (by decide) rfl (fun ls hl => ?_)
          refine lv_goto (tgt := 4) hx hb dX1_bidsFor_32 (by decide) ?_
          exact ih l1 v6 v7 _ (lv_sub hl [2, 3, 1, 0] rfl) hf
  have hl := lv_entry ([.ref (a 0), .int p1]) (n := 4) (Nat.le_of_ble_eq_true rfl)
  rw [lg_entry_eq]
  generalize (lg_sl ([.ref (a 0), .int p1]) ++ List.replicate (4 - (lg_sl ([.ref (a 0), .int p1])).length) Slot.unset).toArray = ls at hl ⊢
  have hl : lv_has ls 4 [(0, .ref (a 0)), (1, .int p1)] := hl
  unfold f_X1_bidsFor at hf
  refine lv_iconst (v := 0) hx hb dX1_bidsFor_0 (by decide) ?_
  refine lv_istore_n (lv' := [(2, .int 0), (0, .ref (a 0)), (1, .int p1)]) hx hb dX1_bidsFor_1 rfl hl (by decide) rfl (fun ls hl => ?_)
  refine lv_iconst (v := 0) hx hb dX1_bidsFor_2 (by decide) ?_
  refine lv_istore_n (lv' := [(3, .int 0), (2, .int 0), (0, .ref (a 0)), (1, .int p1)]) hx hb dX1_bidsFor_3 rfl hl (by decide) rfl (fun ls hl => ?_)
  exact L_4 2000 p1 0 0 _ (lv_sub hl [2, 3, 1, 0] rfl) hf
def f_X1_bidsBy_4 (S : ST) : Nat → Int32 → Int32 → Int32 → Option Int32
  | 0, _, _, _ => none
  | n+1, l1, l2, l3 => if (ST_absences S) ≤ l3 then
 (some l2)
 else ((f_X2_bidIndex l1 l3).bind fun r2 =>
 if q_in r2 240 = true then
 (if (ST_bids S (r2 : Int32).toNatClampNeg) = (-1) then
 (q_let (l3 + 1) fun v5 =>
 f_X1_bidsBy_4 S n l1 l2 v5)
 else (q_let (l2 + 1) fun v6 =>
 q_let (l3 + 1) fun v7 =>
 f_X1_bidsBy_4 S n l1 v6 v7)) else none)
def f_X1_bidsBy (S : ST) (p1 : Int32) : Option Int32 := f_X1_bidsBy_4 S 2000 p1 0 0
abbrev rX1_bidsBy : Room := { frames := 1, cells := 0, slots := 0, locals := 21 }
set_option maxRecDepth 100000 in
set_option maxHeartbeats 4000000 in
theorem c_X1_bidsBy (l : Launch) (D : va_G) (cI cJ cS : ClassId) (a : Nat → Nat) (S : ST) (p1 : Int32) (o : Int32) (hf : f_X1_bidsBy S p1 = some o) : Met l yX1_bidsBy wsX1_bidsBy rX1_bidsBy (va_Pc [.ref (a 0), .int p1] (q_B D cI cJ cS (wST cI cJ a S))) (q_Ri o) 0 0 (fun _ => False) := by
  refine Met.ofW (cc := cX1_bidsBy) (maxL := 4) (ret := some .int) (by decide) rfl ?_
  intro p e s m args below meth c s₁ B hml hv
  obtain ⟨rfl, hP, hE⟩ := hv
  have hx := B.exec
  have hb := B.bytes
  have hr := B.returns
  have hts := atoms_spec (ws := wsX1_bidsBy) B.pre
  have hown : s.vm.findClass RX1 = some m.cls := findClass_of_methodNamed B.named
  have hlocks := B.notSynchronized
  have hu : ∀ z ∈ wsX10, z.before _ s = true := fun z h => hts z (List.mem_cons_of_mem _ (List.mem_append_right _ h))
  have L_4 : ∀ (n : Nat) (l1 : Int32) (l2 : Int32) (l3 : Int32) (ls : Array Slot), lv_has ls 4 [(0, .ref (a 0)), (1, .int l1), (2, .int l2), (3, .int l3)] → f_X1_bidsBy_4 S n l1 l2 l3 = some o → W p l e (headSpec wsX1_bidsBy rX1_bidsBy).room s m (([.ref (a 0), .int p1] : List Value).toArray) below meth c s.heap [] 0 0 (MQ below (q_Ri o) (([.ref (a 0), .int p1] : List Value).toArray) s 0 0 (fun _ => False)) (F0 m 4 ls []) := by
    intro n
    induction n with
    | zero => intro l1 l2 l3 ls hl hf; cases hf
    | succ n ih =>
      intro l1 l2 l3 ls hl hf
      rw [f_X1_bidsBy_4] at hf
      refine lv_iload_n hx hb dX1_bidsBy_4 rfl (lv_at hl 3 rfl) ?_
      refine lv_aload_n hx hb dX1_bidsBy_5 rfl (lv_at hl 0 rfl) ?_
      refine va_get (D := D) (ci := 1) (v := .int (ST_absences S)) (C := RX1) (T := TX1) (N := 15) hx hb hu (fun _ h => h) hown hE.1 hP 0 rfl rfl 8 (Nat.le_of_ble_eq_true rfl) (hts (.fieldLink RX1 65 "CoverMeter$State" "absences" "I") (List.mem_of_getElem? (i := 1) rfl)) (fun _ h9 => h9) rfl dX1_bidsBy_6 ?_
      refine lv_icmp_ge (tgt := 35) hx hb dX1_bidsBy_9 (by decide) (fun c1 => ?_) (fun c1 => ?_)
      · have hf := q_ite_t c1 hf
        refine lv_iload_n hx hb dX1_bidsBy_35 rfl (lv_at hl 2 rfl) ?_
        have ho := q_some hf
        subst ho
        exact W.iret hx hb hr (fun t ht hW => ⟨rfl, ht⟩) t_nil dX1_bidsBy_36
      · have hf := q_ite_f c1 hf
        refine lv_aload_n hx hb dX1_bidsBy_12 rfl (lv_at hl 0 rfl) ?_
        refine va_get (D := D) (ci := 1) (v := .ref (a 12)) (C := RX1) (T := TX1) (N := 15) hx hb hu (fun _ h => h) hown hE.1 hP 0 rfl rfl 14 (Nat.le_of_ble_eq_true rfl) (hts (.fieldLink RX1 46 "CoverMeter$State" "bids" "[I") (List.mem_of_getElem? (i := 2) rfl)) (fun _ h9 => h9) rfl dX1_bidsBy_13 ?_
        refine lv_iload_n hx hb dX1_bidsBy_16 rfl (lv_at hl 1 rfl) ?_
        refine lv_iload_n hx hb dX1_bidsBy_17 rfl (lv_at hl 3 rfl) ?_
        obtain ⟨r2, hr2, hf⟩ := q_bd_go hf
        refine q_rdNi (As := [.int l1, .int l3]) (rest := [.ref (a 12)]) hx hb hml hown hts (c_X2_bidIndex l D cI cJ cS l1 l3 _ hr2) ⟨va_cnB 2 hts gX1_bidsBy_X2_bidIndex_n74 rfl rfl rfl hE.2 (hts (.initialized RX2) (List.mem_of_getElem? (i := 4) rfl)) (by decide +kernel) ⟨(Nat.le_of_ble_eq_true rfl), (Nat.le_of_ble_eq_true rfl)⟩, hts (.static yX2_bidIndex) (List.mem_of_getElem? (i := 3) rfl), trivial⟩ hE rfl hl.1 rfl (Nat.le_of_ble_eq_true rfl) dX1_bidsBy_18 ⟨Nat.zero_le _, Nat.zero_le _⟩ ?_
        have hi3 := q_gd_in hf
        have hf := q_gd_go hf
        refine va_iald hx hb hE.1 hP 12 0 rfl rfl hi3 dX1_bidsBy_21 ?_
        refine lv_iconst (v := (-1)) hx hb dX1_bidsBy_22 (by decide) ?_
        refine lv_icmp_eq (tgt := 29) hx hb dX1_bidsBy_23 (by decide) (fun c4 => ?_) (fun c4 => ?_)
        · have hf := q_ite_t c4 hf
          obtain ⟨v5, ev5, hf⟩ := q_let_go hf
          refine lv_iinc (v := v5) (lv' := [(3, .int v5), (0, .ref (a 0)), (1, .int l1), (2, .int l2)]) hx hb dX1_bidsBy_29 hl (k := 3) rfl (by rw [← ev5]; rfl) (by decide) rfl (fun ls hl => ?_)
          refine lv_goto (tgt := 4) hx hb dX1_bidsBy_32 (by decide) ?_
          exact ih l1 l2 v5 _ (lv_sub hl [1, 2, 3, 0] rfl) hf
        · have hf := q_ite_f c4 hf
          obtain ⟨v6, ev6, hf⟩ := q_let_go hf
          refine lv_iinc (v := v6) (lv' := [(2, .int v6), (0, .ref (a 0)), (1, .int l1), (3, .int l3)]) hx hb dX1_bidsBy_26 hl (k := 2) rfl (by rw [← ev6]; rfl) (by decide) rfl (fun ls hl => ?_)
          obtain ⟨v7, ev7, hf⟩ := q_let_go hf
          refine lv_iinc (v := v7) (lv' := [(3, .int v7), (2, .int v6), (0, .ref (a 0)), (1, .int l1)]) hx hb dX1_bidsBy_29 hl (k := 3) rfl (by rw [← ev7]; rfl) (by decide) rfl (fun ls hl => ?_)
          refine lv_goto (tgt := 4) hx hb dX1_bidsBy_32 (by decide) ?_
          exact ih l1 v6 v7 _ (lv_sub hl [2, 3, 1, 0] rfl) hf
  have hl := lv_entry ([.ref (a 0), .int p1]) (n := 4) (Nat.le_of_ble_eq_true rfl)
  rw [lg_entry_eq]
  generalize (lg_sl ([.ref (a 0), .int p1]) ++ List.replicate (4 - (lg_sl ([.ref (a 0), .int p1])).length) Slot.unset).toArray = ls at hl ⊢
  have hl : lv_has ls 4 [(0, .ref (a 0)), (1, .int p1)] := hl
  unfold f_X1_bidsBy at hf
  refine lv_iconst (v := 0) hx hb dX1_bidsBy_0 (by decide) ?_
  refine lv_istore_n (lv' := [(2, .int 0), (0, .ref (a 0)), (1, .int p1)]) hx hb dX1_bidsBy_1 rfl hl (by decide) rfl (fun ls hl => ?_)
  refine lv_iconst (v := 0) hx hb dX1_bidsBy_2 (by decide) ?_
  refine lv_istore_n (lv' := [(3, .int 0), (2, .int 0), (0, .ref (a 0)), (1, .int p1)]) hx hb dX1_bidsBy_3 rfl hl (by decide) rfl (fun ls hl => ?_)
  exact L_4 2000 p1 0 0 _ (lv_sub hl [2, 3, 1, 0] rfl) hf
