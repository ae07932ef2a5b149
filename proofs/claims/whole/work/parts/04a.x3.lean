def f_X3_isIn (p1 : Int64) (p2 : Int64) (p3 : Int64) : Option Int32 := if (lg_cmp p1 p2) < 0 then
 (some 0)
 else (if 0 < (lg_cmp p1 p3) then
 (some 0)
 else (some 1))
abbrev rX3_isIn : Room := { frames := 0, cells := 0, slots := 0, locals := 0 }
set_option maxRecDepth 100000 in
set_option maxHeartbeats 4000000 in
theorem c_X3_isIn (l : Launch) (D : va_G) (cI cJ cS : ClassId) (p1 : Int64) (p2 : Int64) (p3 : Int64) (o : Int32) (hf : f_X3_isIn p1 p2 p3 = some o) : Met l yX3_isIn wsX3_isIn rX3_isIn (va_Pc [.long p1, .long p2, .long p3] (q_B D cI cJ cS [])) (q_Ri o) 0 0 (fun _ => False) := by
  refine Met.ofW (cc := cX3_isIn) (maxL := 6) (ret := some .boolean) (by decide) rfl ?_
  intro p e s m args below meth c s₁ B hml hv
  obtain ⟨rfl, hP, hE⟩ := hv
  have hx := B.exec
  have hb := B.bytes
  have hr := B.returns
  have hts := atoms_spec (ws := wsX3_isIn) B.pre
  have hown : s.vm.findClass RX3 = some m.cls := findClass_of_methodNamed B.named
  have hlocks := B.notSynchronized
  have hl := lv_entry ([.long p1, .long p2, .long p3]) (n := 6) (Nat.le_of_ble_eq_true rfl)
  rw [lg_entry_eq]
  generalize (lg_sl ([.long p1, .long p2, .long p3]) ++ List.replicate (6 - (lg_sl ([.long p1, .long p2, .long p3])).length) Slot.unset).toArray = ls at hl ⊢
  have hl : lv_has ls 6 [(0, .long p1), (2, .long p2), (4, .long p3)] := hl
  unfold f_X3_isIn at hf
  refine lv_lload_n hx hb dX3_isIn_0 rfl (lv_at hl 0 rfl) ?_
  refine lv_lload_n hx hb dX3_isIn_1 rfl (lv_at hl 1 rfl) ?_
  refine W.lcmp hx hb dX3_isIn_2 ?_
  refine lv_if_lt (tgt := 17) hx hb dX3_isIn_3 (by decide) (fun c1 => ?_) (fun c1 => ?_)
  · have hf := q_ite_t c1 hf
    refine lv_iconst (v := 0) hx hb dX3_isIn_17 (by decide) ?_
    have ho := q_some hf
    subst ho
    exact W.zret hx hb hr rfl (fun t ht hW => ⟨rfl, ht⟩) t_nil dX3_isIn_18
  · have hf := q_ite_f c1 hf
    refine lv_lload_n hx hb dX3_isIn_6 rfl (lv_at hl 0 rfl) ?_
    refine lv_lload hx hb dX3_isIn_7 (lv_at hl 2 rfl) ?_
    refine W.lcmp hx hb dX3_isIn_9 ?_
    refine lv_if_gt (tgt := 17) hx hb dX3_isIn_10 (by decide) (fun c2 => ?_) (fun c2 => ?_)
    · have hf := q_ite_t c2 hf
      refine lv_iconst (v := 0) hx hb dX3_isIn_17 (by decide) ?_
      have ho := q_some hf
      subst ho
      exact W.zret hx hb hr rfl (fun t ht hW => ⟨rfl, ht⟩) t_nil dX3_isIn_18
    · have hf := q_ite_f c2 hf
      refine lv_iconst (v := 1) hx hb dX3_isIn_13 (by decide) ?_
      refine lv_goto (tgt := 18) hx hb dX3_isIn_14 (by decide) ?_
      have ho := q_some hf
      subst ho
      exact W.zret hx hb hr rfl (fun t ht hW => ⟨rfl, ht⟩) t_nil dX3_isIn_18
def f_X3_thrown (S : MD) : Option Int32 := some (MD_thrown S)
abbrev rX3_thrown : Room := { frames := 0, cells := 0, slots := 0, locals := 0 }
set_option maxRecDepth 100000 in
set_option maxHeartbeats 4000000 in
theorem c_X3_thrown (l : Launch) (D : va_G) (cI cJ cS : ClassId) (a : Nat → Nat) (S : MD) (o : Int32) (hf : f_X3_thrown S = some o) : Met l yX3_thrown wsX3_thrown rX3_thrown (va_Pc [.ref (a 0)] (q_B D cI cJ cS (wMD cI cJ a S))) (q_Ri o) 0 0 (fun _ => False) := by
  refine Met.ofW (cc := cX3_thrown) (maxL := 1) (ret := some .int) (by decide) rfl ?_
  intro p e s m args below meth c s₁ B hml hv
  obtain ⟨rfl, hP, hE⟩ := hv
  have hx := B.exec
  have hb := B.bytes
  have hr := B.returns
  have hts := atoms_spec (ws := wsX3_thrown) B.pre
  have hown : s.vm.findClass RX3 = some m.cls := findClass_of_methodNamed B.named
  have hlocks := B.notSynchronized
  have hu : ∀ z ∈ wsX30, z.before _ s = true := fun z h => hts z (List.mem_cons_of_mem _ (List.mem_append_right _ h))
  have hl := lv_entry ([.ref (a 0)]) (n := 1) (Nat.le_of_ble_eq_true rfl)
  rw [lg_entry_eq]
  generalize (lg_sl ([.ref (a 0)]) ++ List.replicate (1 - (lg_sl ([.ref (a 0)])).length) Slot.unset).toArray = ls at hl ⊢
  have hl : lv_has ls 1 [(0, .ref (a 0))] := hl
  unfold f_X3_thrown at hf
  refine lv_aload_n hx hb dX3_thrown_0 rfl (lv_at hl 0 rfl) ?_
  refine va_get (D := D) (ci := 3) (v := .int (MD_thrown S)) (C := RX3) (T := TX3) (N := 15) hx hb hu (fun _ h => h) hown hE.1 hP 0 rfl rfl 3 (Nat.le_of_ble_eq_true rfl) (hts (.fieldLink RX3 30 "CoverMeterModel" "thrown" "I") (List.mem_of_getElem? (i := 1) rfl)) (fun _ h9 => h9) rfl dX3_thrown_1 ?_
  have ho := q_some hf
  subst ho
  exact W.iret hx hb hr (fun t ht hW => ⟨rfl, ht⟩) t_nil dX3_thrown_4
def f_X3_ofA (S : MD) (p1 : Int32) (p2 : Int32) : Option Int32 := if q_in ((30 + (13 * p1)) + p2) 420 = true then
 (some (((MD_now S (((30 + (13 * p1)) + p2) : Int32).toNatClampNeg) : Int64).toInt32)) else none
abbrev rX3_ofA : Room := { frames := 0, cells := 0, slots := 0, locals := 0 }
set_option maxRecDepth 100000 in
set_option maxHeartbeats 4000000 in
theorem c_X3_ofA (l : Launch) (D : va_G) (cI cJ cS : ClassId) (a : Nat → Nat) (S : MD) (p1 : Int32) (p2 : Int32) (o : Int32) (hf : f_X3_ofA S p1 p2 = some o) : Met l yX3_ofA wsX3_ofA rX3_ofA (va_Pc [.ref (a 0), .int p1, .int p2] (q_B D cI cJ cS (wMD cI cJ a S))) (q_Ri o) 0 0 (fun _ => False) := by
  refine Met.ofW (cc := cX3_ofA) (maxL := 3) (ret := some .int) (by decide) rfl ?_
  intro p e s m args below meth c s₁ B hml hv
  obtain ⟨rfl, hP, hE⟩ := hv
  have hx := B.exec
  have hb := B.bytes
  have hr := B.returns
  have hts := atoms_spec (ws := wsX3_ofA) B.pre
  have hown : s.vm.findClass RX3 = some m.cls := findClass_of_methodNamed B.named
  have hlocks := B.notSynchronized
  have hu : ∀ z ∈ wsX30, z.before _ s = true := fun z h => hts z (List.mem_cons_of_mem _ (List.mem_append_right _ h))
  have hl := lv_entry ([.ref (a 0), .int p1, .int p2]) (n := 3) (Nat.le_of_ble_eq_true rfl)
  rw [lg_entry_eq]
  generalize (lg_sl ([.ref (a 0), .int p1, .int p2]) ++ List.replicate (3 - (lg_sl ([.ref (a 0), .int p1, .int p2])).length) Slot.unset).toArray = ls at hl ⊢
  have hl : lv_has ls 3 [(0, .ref (a 0)), (1, .int p1), (2, .int p2)] := hl
  unfold f_X3_ofA at hf
  refine lv_aload_n hx hb dX3_ofA_0 rfl (lv_at hl 0 rfl) ?_
  refine va_get (D := D) (ci := 3) (v := .ref (a 1)) (C := RX3) (T := TX3) (N := 15) hx hb hu (fun _ h => h) hown hE.1 hP 0 rfl rfl 0 (Nat.le_of_ble_eq_true rfl) (hts (.fieldLink RX3 7 "CoverMeterModel" "now" "[J") (List.mem_of_getElem? (i := 1) rfl)) (fun _ h9 => h9) rfl dX3_ofA_1 ?_
  refine lv_bipush (v := 30) hx hb dX3_ofA_4 (by decide) ?_
  refine lv_bipush (v := 13) hx hb dX3_ofA_6 (by decide) ?_
  refine lv_iload_n hx hb dX3_ofA_8 rfl (lv_at hl 1 rfl) ?_
  refine lv_imul hx hb dX3_ofA_9 ?_
  refine lv_iadd hx hb dX3_ofA_10 ?_
  refine lv_iload_n hx hb dX3_ofA_11 rfl (lv_at hl 2 rfl) ?_
  refine lv_iadd hx hb dX3_ofA_12 ?_
  have hi1 := q_gd_in hf
  have hf := q_gd_go hf
  refine va_lald hx hb hE.1 hP 1 1 rfl rfl hi1 dX3_ofA_13 ?_
  refine lv_l2i (v := (((MD_now S (((30 + (13 * p1)) + p2) : Int32).toNatClampNeg) : Int64).toInt32)) hx hb dX3_ofA_14 rfl ?_
  have ho := q_some hf
  subst ho
  exact W.iret hx hb hr (fun t ht hW => ⟨rfl, ht⟩) t_nil dX3_ofA_15
def f_X3_becomes (S : MD) (p1 : Int32) (p2 : Int32) (p3 : Int32) : Option MD := if q_in ((30 + (13 * p1)) + p2) 420 = true then
 (q_let (sMD_now S (vp_updL (MD_now S) (((30 + (13 * p1)) + p2) : Int32).toNatClampNeg ((p3 : Int32).toInt64))) fun S2 =>
 some S2) else none
abbrev rX3_becomes : Room := { frames := 0, cells := 0, slots := 0, locals := 0 }
set_option maxRecDepth 100000 in
set_option maxHeartbeats 4000000 in
theorem c_X3_becomes (l : Launch) (D : va_G) (cI cJ cS : ClassId) (a : Nat → Nat) (S : MD) (sz : Nat) (p1 : Int32) (p2 : Int32) (p3 : Int32) (o : MD) (hf : f_X3_becomes S p1 p2 p3 = some o) : Met l yX3_becomes wsX3_becomes rX3_becomes (va_Pc [.ref (a 0), .int p1, .int p2, .int p3] (q_BW D cI cJ cS (wMD cI cJ a S) sz)) (q_Wo none D (wMD cI cJ a S) (wMD cI cJ a o) sz) 0 0 (va_A (wMD cI cJ a S) sz) := by
  refine Met.ofW (cc := cX3_becomes) (maxL := 4) (ret := none) (by decide) rfl ?_
  intro p e s m args below meth c s₁ B hml hv
  obtain ⟨rfl, hsz, hP, hE, hD0⟩ := hv
  have hx := B.exec
  have hb := B.bytes
  have hr := B.returns
  have hts := atoms_spec (ws := wsX3_becomes) B.pre
  have hown : s.vm.findClass RX3 = some m.cls := findClass_of_methodNamed B.named
  have hlocks := B.notSynchronized
  have hu : ∀ z ∈ wsX30, z.before _ s = true := fun z h => hts z (List.mem_cons_of_mem _ (List.mem_append_right _ h))
  subst hsz
  have hD := hD0.self (sz := s.heap.size)
  have hS : va_S (va_A (wMD cI cJ a S) s.heap.size) s.heap s.heap [] := va_S.rf
  have hl := lv_entry ([.ref (a 0), .int p1, .int p2, .int p3]) (n := 4) (Nat.le_of_ble_eq_true rfl)
  rw [lg_entry_eq]
  generalize (lg_sl ([.ref (a 0), .int p1, .int p2, .int p3]) ++ List.replicate (4 - (lg_sl ([.ref (a 0), .int p1, .int p2, .int p3])).length) Slot.unset).toArray = ls at hl ⊢
  have hl : lv_has ls 4 [(0, .ref (a 0)), (1, .int p1), (2, .int p2), (3, .int p3)] := hl
  unfold f_X3_becomes at hf
  refine lv_aload_n hx hb dX3_becomes_0 rfl (lv_at hl 0 rfl) ?_
  refine va_get (D := D) (ci := 3) (v := .ref (a 1)) (C := RX3) (T := TX3) (N := 15) hx hb hu (fun _ h => h) hown hE.1 hP 0 rfl rfl 0 (Nat.le_of_ble_eq_true rfl) (hts (.fieldLink RX3 7 "CoverMeterModel" "now" "[J") (List.mem_of_getElem? (i := 1) rfl)) (fun _ h9 => h9) rfl dX3_becomes_1 ?_
  refine lv_bipush (v := 30) hx hb dX3_becomes_4 (by decide) ?_
  refine lv_bipush (v := 13) hx hb dX3_becomes_6 (by decide) ?_
  refine lv_iload_n hx hb dX3_becomes_8 rfl (lv_at hl 1 rfl) ?_
  refine lv_imul hx hb dX3_becomes_9 ?_
  refine lv_iadd hx hb dX3_becomes_10 ?_
  refine lv_iload_n hx hb dX3_becomes_11 rfl (lv_at hl 2 rfl) ?_
  refine lv_iadd hx hb dX3_becomes_12 ?_
  refine lv_iload_n hx hb dX3_becomes_13 rfl (lv_at hl 3 rfl) ?_
  refine lv_i2l (v := ((p3 : Int32).toInt64)) hx hb dX3_becomes_14 rfl ?_
  have hi1 := q_gd_in hf
  have hf := q_gd_go hf
  obtain ⟨S2, eS2, hf⟩ := q_let_go hf
  refine va_last hx hb hE.1 hP hD hS 1 1 rfl rfl hi1 dX3_becomes_15 (fun H locs hP hD hS => ?_)
  have hP : va_P D vwCl (wMD cI cJ a (sMD_now S (vp_updL (MD_now S) (((30 + (13 * p1)) + p2) : Int32).toNatClampNeg ((p3 : Int32).toInt64)))) H := hP
  have hD : va_D (va_A (wMD cI cJ a S) s.heap.size) (wMD cI cJ a (sMD_now S (vp_updL (MD_now S) (((30 + (13 * p1)) + p2) : Int32).toNatClampNeg ((p3 : Int32).toInt64)))) := hD
  rw [eS2] at hP hD
  have ho := q_some hf
  subst ho
  exact W.vret hx hb hr (fun t ht hW => ⟨rfl, ⟨by rw [ht]; exact hP, hD⟩, hS.F ht⟩) hS.2.2 dX3_becomes_16
def f_X3_ofP (S : MD) (p1 : Int32) (p2 : Int32) : Option Int64 := if q_in ((6 + (3 * p1)) + p2) 420 = true then
 (some (MD_now S (((6 + (3 * p1)) + p2) : Int32).toNatClampNeg)) else none
abbrev rX3_ofP : Room := { frames := 0, cells := 0, slots := 0, locals := 0 }
set_option maxRecDepth 100000 in
set_option maxHeartbeats 4000000 in
theorem c_X3_ofP (l : Launch) (D : va_G) (cI cJ cS : ClassId) (a : Nat → Nat) (S : MD) (p1 : Int32) (p2 : Int32) (o : Int64) (hf : f_X3_ofP S p1 p2 = some o) : Met l yX3_ofP wsX3_ofP rX3_ofP (va_Pc [.ref (a 0), .int p1, .int p2] (q_B D cI cJ cS (wMD cI cJ a S))) (q_Rl o) 0 0 (fun _ => False) := by
  refine Met.ofW (cc := cX3_ofP) (maxL := 3) (ret := some .long) (by decide) rfl ?_
  intro p e s m args below meth c s₁ B hml hv
  obtain ⟨rfl, hP, hE⟩ := hv
  have hx := B.exec
  have hb := B.bytes
  have hr := B.returns
  have hts := atoms_spec (ws := wsX3_ofP) B.pre
  have hown : s.vm.findClass RX3 = some m.cls := findClass_of_methodNamed B.named
  have hlocks := B.notSynchronized
  have hu : ∀ z ∈ wsX30, z.before _ s = true := fun z h => hts z (List.mem_cons_of_mem _ (List.mem_append_right _ h))
  have hl := lv_entry ([.ref (a 0), .int p1, .int p2]) (n := 3) (Nat.le_of_ble_eq_true rfl)
  rw [lg_entry_eq]
  generalize (lg_sl ([.ref (a 0), .int p1, .int p2]) ++ List.replicate (3 - (lg_sl ([.ref (a 0), .int p1, .int p2])).length) Slot.unset).toArray = ls at hl ⊢
  have hl : lv_has ls 3 [(0, .ref (a 0)), (1, .int p1), (2, .int p2)] := hl
  unfold f_X3_ofP at hf
  refine lv_aload_n hx hb dX3_ofP_0 rfl (lv_at hl 0 rfl) ?_
  refine va_get (D := D) (ci := 3) (v := .ref (a 1)) (C := RX3) (T := TX3) (N := 15) hx hb hu (fun _ h => h) hown hE.1 hP 0 rfl rfl 0 (Nat.le_of_ble_eq_true rfl) (hts (.fieldLink RX3 7 "CoverMeterModel" "now" "[J") (List.mem_of_getElem? (i := 1) rfl)) (fun _ h9 => h9) rfl dX3_ofP_1 ?_
  refine lv_bipush (v := 6) hx hb dX3_ofP_4 (by decide) ?_
  refine lv_iconst (v := 3) hx hb dX3_ofP_6 (by decide) ?_
  refine lv_iload_n hx hb dX3_ofP_7 rfl (lv_at hl 1 rfl) ?_
  refine lv_imul hx hb dX3_ofP_8 ?_
  refine lv_iadd hx hb dX3_ofP_9 ?_
  refine lv_iload_n hx hb dX3_ofP_10 rfl (lv_at hl 2 rfl) ?_
  refine lv_iadd hx hb dX3_ofP_11 ?_
  have hi1 := q_gd_in hf
  have hf := q_gd_go hf
  refine va_lald hx hb hE.1 hP 1 1 rfl rfl hi1 dX3_ofP_12 ?_
  have ho := q_some hf
  subst ho
  exact W.lret hx hb hr (fun t ht hW => ⟨rfl, ht⟩) t_nil dX3_ofP_13
def f_X3_isPerson (S : MD) (p1 : Int32) : Option Int32 := if q_in 3 420 = true then
 ((f_X3_isIn ((p1 : Int32).toInt64) 0 ((MD_now S (3 : Int32).toNatClampNeg) - 1)).bind fun r2 =>
 if r2 = 0 ∨ r2 = 1 then some r2 else none) else none
abbrev rX3_isPerson : Room := { frames := 1, cells := 0, slots := 0, locals := 25 }
set_option maxRecDepth 100000 in
set_option maxHeartbeats 4000000 in
theorem c_X3_isPerson (l : Launch) (D : va_G) (cI cJ cS : ClassId) (a : Nat → Nat) (S : MD) (p1 : Int32) (o : Int32) (hf : f_X3_isPerson S p1 = some o) : Met l yX3_isPerson wsX3_isPerson rX3_isPerson (va_Pc [.ref (a 0), .int p1] (q_B D cI cJ cS (wMD cI cJ a S))) (q_Ri o) 0 0 (fun _ => False) := by
  refine Met.ofW (cc := cX3_isPerson) (maxL := 2) (ret := some .boolean) (by decide) rfl ?_
  intro p e s m args below meth c s₁ B hml hv
  obtain ⟨rfl, hP, hE⟩ := hv
  have hx := B.exec
  have hb := B.bytes
  have hr := B.returns
  have hts := atoms_spec (ws := wsX3_isPerson) B.pre
  have hown : s.vm.findClass RX3 = some m.cls := findClass_of_methodNamed B.named
  have hlocks := B.notSynchronized
  have hu : ∀ z ∈ wsX30, z.before _ s = true := fun z h => hts z (List.mem_cons_of_mem _ (List.mem_append_right _ h))
  have hl := lv_entry ([.ref (a 0), .int p1]) (n := 2) (Nat.le_of_ble_eq_true rfl)
  rw [lg_entry_eq]
  generalize (lg_sl ([.ref (a 0), .int p1]) ++ List.replicate (2 - (lg_sl ([.ref (a 0), .int p1])).length) Slot.unset).toArray = ls at hl ⊢
  have hl : lv_has ls 2 [(0, .ref (a 0)), (1, .int p1)] := hl
  unfold f_X3_isPerson at hf
  refine lv_iload_n hx hb dX3_isPerson_0 rfl (lv_at hl 1 rfl) ?_
  refine lv_i2l (v := ((p1 : Int32).toInt64)) hx hb dX3_isPerson_1 rfl ?_
  refine lv_lconst (v := 0) hx hb dX3_isPerson_2 (by decide) ?_
  refine lv_aload_n hx hb dX3_isPerson_3 rfl (lv_at hl 0 rfl) ?_
  refine va_get (D := D) (ci := 3) (v := .ref (a 1)) (C := RX3) (T := TX3) (N := 15) hx hb hu (fun _ h => h) hown hE.1 hP 0 rfl rfl 0 (Nat.le_of_ble_eq_true rfl) (hts (.fieldLink RX3 7 "CoverMeterModel" "now" "[J") (List.mem_of_getElem? (i := 1) rfl)) (fun _ h9 => h9) rfl dX3_isPerson_4 ?_
  refine lv_iconst (v := 3) hx hb dX3_isPerson_7 (by decide) ?_
  have hi1 := q_gd_in hf
  have hf := q_gd_go hf
  refine va_lald hx hb hE.1 hP 1 1 rfl rfl hi1 dX3_isPerson_8 ?_
  refine lv_lconst (v := 1) hx hb dX3_isPerson_9 (by decide) ?_
  refine lv_lsub hx hb dX3_isPerson_10 ?_
  obtain ⟨r2, hr2, hf⟩ := q_bd_go hf
  refine q_rdSi (As := [.long ((p1 : Int32).toInt64), .long 0, .long ((MD_now S (3 : Int32).toNatClampNeg) - 1)]) (rest := []) hx hb hml hown hts (c_X3_isIn l D cI cJ cS ((p1 : Int32).toInt64) 0 ((MD_now S (3 : Int32).toNatClampNeg) - 1) _ hr2) (va_cwS 3 hts gX3_isPerson_X3_isIn rfl rfl rfl (by decide +kernel) ⟨(Nat.le_of_ble_eq_true rfl), (Nat.le_of_ble_eq_true rfl)⟩) hE rfl hl.1 rfl (Nat.le_of_ble_eq_true rfl) dX3_isPerson_11 ⟨Nat.zero_le _, Nat.zero_le _⟩ ?_
  have hbo := q_gc_in hf
  have hf := q_ite_t hbo hf
  have ho := q_some hf
  subst ho
  exact W.zret hx hb hr (q_nz hbo) (fun t ht hW => ⟨rfl, ht⟩) t_nil dX3_isPerson_14
def f_X3_isAbsence (S : MD) (p1 : Int32) : Option Int32 := if q_in 4 420 = true then
 ((f_X3_isIn ((p1 : Int32).toInt64) 0 ((MD_now S (4 : Int32).toNatClampNeg) - 1)).bind fun r2 =>
 if r2 = 0 ∨ r2 = 1 then some r2 else none) else none
abbrev rX3_isAbsence : Room := { frames := 1, cells := 0, slots := 0, locals := 25 }
set_option maxRecDepth 100000 in
set_option maxHeartbeats 4000000 in
theorem c_X3_isAbsence (l : Launch) (D : va_G) (cI cJ cS : ClassId) (a : Nat → Nat) (S : MD) (p1 : Int32) (o : Int32) (hf : f_X3_isAbsence S p1 = some o) : Met l yX3_isAbsence wsX3_isAbsence rX3_isAbsence (va_Pc [.ref (a 0), .int p1] (q_B D cI cJ cS (wMD cI cJ a S))) (q_Ri o) 0 0 (fun _ => False) := by
  refine Met.ofW (cc := cX3_isAbsence) (maxL := 2) (ret := some .boolean) (by decide) rfl ?_
  intro p e s m args below meth c s₁ B hml hv
  obtain ⟨rfl, hP, hE⟩ := hv
  have hx := B.exec
  have hb := B.bytes
  have hr := B.returns
  have hts := atoms_spec (ws := wsX3_isAbsence) B.pre
  have hown : s.vm.findClass RX3 = some m.cls := findClass_of_methodNamed B.named
  have hlocks := B.notSynchronized
  have hu : ∀ z ∈ wsX30, z.before _ s = true := fun z h => hts z (List.mem_cons_of_mem _ (List.mem_append_right _ h))
  have hl := lv_entry ([.ref (a 0), .int p1]) (n := 2) (Nat.le_of_ble_eq_true rfl)
  rw [lg_entry_eq]
  generalize (lg_sl ([.ref (a 0), .int p1]) ++ List.replicate (2 - (lg_sl ([.ref (a 0), .int p1])).length) Slot.unset).toArray = ls at hl ⊢
  have hl : lv_has ls 2 [(0, .ref (a 0)), (1, .int p1)] := hl
  unfold f_X3_isAbsence at hf
  refine lv_iload_n hx hb dX3_isAbsence_0 rfl (lv_at hl 1 rfl) ?_
  refine lv_i2l (v := ((p1 : Int32).toInt64)) hx hb dX3_isAbsence_1 rfl ?_
  refine lv_lconst (v := 0) hx hb dX3_isAbsence_2 (by decide) ?_
  refine lv_aload_n hx hb dX3_isAbsence_3 rfl (lv_at hl 0 rfl) ?_
  refine va_get (D := D) (ci := 3) (v := .ref (a 1)) (C := RX3) (T := TX3) (N := 15) hx hb hu (fun _ h => h) hown hE.1 hP 0 rfl rfl 0 (Nat.le_of_ble_eq_true rfl) (hts (.fieldLink RX3 7 "CoverMeterModel" "now" "[J") (List.mem_of_getElem? (i := 1) rfl)) (fun _ h9 => h9) rfl dX3_isAbsence_4 ?_
  refine lv_iconst (v := 4) hx hb dX3_isAbsence_7 (by decide) ?_
  have hi1 := q_gd_in hf
  have hf := q_gd_go hf
  refine va_lald hx hb hE.1 hP 1 1 rfl rfl hi1 dX3_isAbsence_8 ?_
  refine lv_lconst (v := 1) hx hb dX3_isAbsence_9 (by decide) ?_
  refine lv_lsub hx hb dX3_isAbsence_10 ?_
  obtain ⟨r2, hr2, hf⟩ := q_bd_go hf
  refine q_rdSi (As := [.long ((p1 : Int32).toInt64), .long 0, .long ((MD_now S (4 : Int32).toNatClampNeg) - 1)]) (rest := []) hx hb hml hown hts (c_X3_isIn l D cI cJ cS ((p1 : Int32).toInt64) 0 ((MD_now S (4 : Int32).toNatClampNeg) - 1) _ hr2) (va_cwS 3 hts gX3_isAbsence_X3_isIn rfl rfl rfl (by decide +kernel) ⟨(Nat.le_of_ble_eq_true rfl), (Nat.le_of_ble_eq_true rfl)⟩) hE rfl hl.1 rfl (Nat.le_of_ble_eq_true rfl) dX3_isAbsence_11 ⟨Nat.zero_le _, Nat.zero_le _⟩ ?_
  have hbo := q_gc_in hf
  have hf := q_ite_t hbo hf
  have ho := q_some hf
  subst ho
  exact W.zret hx hb hr (q_nz hbo) (fun t ht hW => ⟨rfl, ht⟩) t_nil dX3_isAbsence_14
def f_X3_areThere (S : MD) (p1 : Int32) (p2 : Int32) : Option Int32 := (f_X3_isPerson S p1).bind fun r1 =>
 if r1 = 0 then
 (some 0)
 else ((f_X3_isAbsence S p2).bind fun r3 =>
 if r3 = 0 then
 (some 0)
 else (some 1))
abbrev rX3_areThere : Room := { frames := 2, cells := 0, slots := 0, locals := 46 }
set_option maxRecDepth 100000 in
set_option maxHeartbeats 4000000 in
theorem c_X3_areThere (l : Launch) (D : va_G) (cI cJ cS : ClassId) (a : Nat → Nat) (S : MD) (p1 : Int32) (p2 : Int32) (o : Int32) (hf : f_X3_areThere S p1 p2 = some o) : Met l yX3_areThere wsX3_areThere rX3_areThere (va_Pc [.ref (a 0), .int p1, .int p2] (q_B D cI cJ cS (wMD cI cJ a S))) (q_Ri o) 0 0 (fun _ => False) := by
  refine Met.ofW (cc := cX3_areThere) (maxL := 3) (ret := some .boolean) (by decide) rfl ?_
  intro p e s m args below meth c s₁ B hml hv
  obtain ⟨rfl, hP, hE⟩ := hv
  have hx := B.exec
  have hb := B.bytes
  have hr := B.returns
  have hts := atoms_spec (ws := wsX3_areThere) B.pre
  have hown : s.vm.findClass RX3 = some m.cls := findClass_of_methodNamed B.named
  have hlocks := B.notSynchronized
  have hl := lv_entry ([.ref (a 0), .int p1, .int p2]) (n := 3) (Nat.le_of_ble_eq_true rfl)
  rw [lg_entry_eq]
  generalize (lg_sl ([.ref (a 0), .int p1, .int p2]) ++ List.replicate (3 - (lg_sl ([.ref (a 0), .int p1, .int p2])).length) Slot.unset).toArray = ls at hl ⊢
  have hl : lv_has ls 3 [(0, .ref (a 0)), (1, .int p1), (2, .int p2)] := hl
  unfold f_X3_areThere at hf
  refine lv_aload_n hx hb dX3_areThere_0 rfl (lv_at hl 0 rfl) ?_
  refine lv_iload_n hx hb dX3_areThere_1 rfl (lv_at hl 1 rfl) ?_
  obtain ⟨r1, hr1, hf⟩ := q_bd_go hf
  refine q_rdVi (ci := 3) (As := [.int p1]) (rest := []) hx hb hml hown hts (c_X3_isPerson l D cI cJ cS a S p1 _ hr1) (cwV 1 hts gX3_areThere_X3_isPerson rfl rfl rfl (by decide +kernel) ⟨(Nat.le_of_ble_eq_true rfl), (Nat.le_of_ble_eq_true rfl)⟩) hE hP rfl rfl rfl hl.1 rfl (Nat.le_of_ble_eq_true rfl) dX3_areThere_2 ⟨Nat.zero_le _, Nat.zero_le _⟩ ?_
  refine lv_if_eq (tgt := 20) hx hb dX3_areThere_5 (by decide) (fun c2 => ?_) (fun c2 => ?_)
  · have hf := q_ite_t c2 hf
    refine lv_iconst (v := 0) hx hb dX3_areThere_20 (by decide) ?_
    have ho := q_some hf
    subst ho
    exact W.zret hx hb hr rfl (fun t ht hW => ⟨rfl, ht⟩) t_nil dX3_areThere_21
  · have hf := q_ite_f c2 hf
    refine lv_aload_n hx hb dX3_areThere_8 rfl (lv_at hl 0 rfl) ?_
    refine lv_iload_n hx hb dX3_areThere_9 rfl (lv_at hl 2 rfl) ?_
    obtain ⟨r3, hr3, hf⟩ := q_bd_go hf
    refine q_rdVi (ci := 3) (As := [.int p2]) (rest := []) hx hb hml hown hts (c_X3_isAbsence l D cI cJ cS a S p2 _ hr3) (cwV 1 hts gX3_areThere_X3_isAbsence rfl rfl rfl (by decide +kernel) ⟨(Nat.le_of_ble_eq_true rfl), (Nat.le_of_ble_eq_true rfl)⟩) hE hP rfl rfl rfl hl.1 rfl (Nat.le_of_ble_eq_true rfl) dX3_areThere_10 ⟨Nat.zero_le _, Nat.zero_le _⟩ ?_
    refine lv_if_eq (tgt := 20) hx hb dX3_areThere_13 (by decide) (fun c4 => ?_) (fun c4 => ?_)
    · have hf := q_ite_t c4 hf
      refine lv_iconst (v := 0) hx hb dX3_areThere_20 (by decide) ?_
      have ho := q_some hf
      subst ho
      exact W.zret hx hb hr rfl (fun t ht hW => ⟨rfl, ht⟩) t_nil dX3_areThere_21
    · have hf := q_ite_f c4 hf
      refine lv_iconst (v := 1) hx hb dX3_areThere_16 (by decide) ?_
      refine lv_goto (tgt := 21) hx hb dX3_areThere_17 (by decide) ?_
      have ho := q_some hf
      subst ho
      exact W.zret hx hb hr rfl (fun t ht hW => ⟨rfl, ht⟩) t_nil dX3_areThere_21
def f_X3_keeps_2 : Nat → MD → Int32 → Int32 → Option MD
  | 0, _, _, _ => none
  | n+1, Sz, l1, l2 => if 420 ≤ l2 then
 (some Sz)
 else (if q_in l2 420 = true then
 (if q_in ((l1 * 420) + l2) 2100 = true then
 (q_let (sMD_kept Sz (vp_updL (MD_kept Sz) (((l1 * 420) + l2) : Int32).toNatClampNeg (MD_now Sz (l2 : Int32).toNatClampNeg))) fun S4 =>
 q_let (l2 + 1) fun v5 =>
 f_X3_keeps_2 n S4 l1 v5) else none) else none)
def f_X3_keeps (S : MD) (p1 : Int32) : Option MD := f_X3_keeps_2 2000 S p1 0
abbrev rX3_keeps : Room := { frames := 0, cells := 0, slots := 0, locals := 0 }
set_option maxRecDepth 100000 in
set_option maxHeartbeats 4000000 in
theorem c_X3_keeps (l : Launch) (D : va_G) (cI cJ cS : ClassId) (a : Nat → Nat) (S : MD) (sz : Nat) (p1 : Int32) (o : MD) (hf : f_X3_keeps S p1 = some o) : Met l yX3_keeps wsX3_keeps rX3_keeps (va_Pc [.ref (a 0), .int p1] (q_BW D cI cJ cS (wMD cI cJ a S) sz)) (q_Wo none D (wMD cI cJ a S) (wMD cI cJ a o) sz) 0 0 (va_A (wMD cI cJ a S) sz) := by
  refine Met.ofW (cc := cX3_keeps) (maxL := 3) (ret := none) (by decide) rfl ?_
  intro p e s m args below meth c s₁ B hml hv
  obtain ⟨rfl, hsz, hP, hE, hD0⟩ := hv
  have hx := B.exec
  have hb := B.bytes
  have hr := B.returns
  have hts := atoms_spec (ws := wsX3_keeps) B.pre
  have hown : s.vm.findClass RX3 = some m.cls := findClass_of_methodNamed B.named
  have hlocks := B.notSynchronized
  have hu : ∀ z ∈ wsX30, z.before _ s = true := fun z h => hts z (List.mem_cons_of_mem _ (List.mem_append_right _ h))
  subst hsz
  have hD := hD0.self (sz := s.heap.size)
  have hS : va_S (va_A (wMD cI cJ a S) s.heap.size) s.heap s.heap [] := va_S.rf
  have L_2 : ∀ (n : Nat) (Sz : MD) (H : Heap) (locs : List Loc) (hP : va_P D vwCl (wMD cI cJ a Sz) H) (hD : va_D (va_A (wMD cI cJ a S) s.heap.size) (wMD cI cJ a Sz)) (hS : va_S (va_A (wMD cI cJ a S) s.heap.size) s.heap H locs) (l1 : Int32) (l2 : Int32) (ls : Array Slot), lv_has ls 3 [(0, .ref (a 0)), (1, .int l1), (2, .int l2)] → f_X3_keeps_2 n Sz l1 l2 = some o → W p l e (headSpec wsX3_keeps rX3_keeps).room s m (([.ref (a 0), .int p1] : List Value).toArray) below meth c H locs 0 0 (MQ below (q_Wo none D (wMD cI cJ a S) (wMD cI cJ a o) s.heap.size) (([.ref (a 0), .int p1] : List Value).toArray) s 0 0 (va_A (wMD cI cJ a S) s.heap.size)) (F0 m 2 ls []) := by
    intro n
    induction n with
    | zero => intro Sz H locs hP hD hS l1 l2 ls hl hf; cases hf
    | succ n ih =>
      intro Sz H locs hP hD hS l1 l2 ls hl hf
      rw [f_X3_keeps_2] at hf
      refine lv_iload_n hx hb dX3_keeps_2 rfl (lv_at hl 2 rfl) ?_
      refine lv_sipush (v := 420) hx hb dX3_keeps_3 (by decide) ?_
      refine lv_icmp_ge (tgt := 33) hx hb dX3_keeps_6 (by decide) (fun c1 => ?_) (fun c1 => ?_)
      · have hf := q_ite_t c1 hf
        have ho := q_some hf
        subst ho
        exact W.vret hx hb hr (fun t ht hW => ⟨rfl, ⟨by rw [ht]; exact hP, hD⟩, hS.F ht⟩) hS.2.2 dX3_keeps_33
      · have hf := q_ite_f c1 hf
        refine lv_aload_n hx hb dX3_keeps_9 rfl (lv_at hl 0 rfl) ?_
        refine va_get (D := D) (ci := 3) (v := .ref (a 2)) (C := RX3) (T := TX3) (N := 15) hx hb hu (fun _ h => h) hown hE.1 hP 0 rfl rfl 1 (Nat.le_of_ble_eq_true rfl) (hts (.fieldLink RX3 13 "CoverMeterModel" "kept" "[J") (List.mem_of_getElem? (i := 1) rfl)) (fun _ h9 => h9) rfl dX3_keeps_10 ?_
        refine lv_iload_n hx hb dX3_keeps_13 rfl (lv_at hl 1 rfl) ?_
        refine lv_sipush (v := 420) hx hb dX3_keeps_14 (by decide) ?_
        refine lv_imul hx hb dX3_keeps_17 ?_
        refine lv_iload_n hx hb dX3_keeps_18 rfl (lv_at hl 2 rfl) ?_
        refine lv_iadd hx hb dX3_keeps_19 ?_
        refine lv_aload_n hx hb dX3_keeps_20 rfl (lv_at hl 0 rfl) ?_
        refine va_get (D := D) (ci := 3) (v := .ref (a 1)) (C := RX3) (T := TX3) (N := 15) hx hb hu (fun _ h => h) hown hE.1 hP 0 rfl rfl 0 (Nat.le_of_ble_eq_true rfl) (hts (.fieldLink RX3 7 "CoverMeterModel" "now" "[J") (List.mem_of_getElem? (i := 2) rfl)) (fun _ h9 => h9) rfl dX3_keeps_21 ?_
        refine lv_iload_n hx hb dX3_keeps_24 rfl (lv_at hl 2 rfl) ?_
        have hi2 := q_gd_in hf
        have hf := q_gd_go hf
        refine va_lald hx hb hE.1 hP 1 1 rfl rfl hi2 dX3_keeps_25 ?_
        have hi3 := q_gd_in hf
        have hf := q_gd_go hf
        obtain ⟨S4, eS4, hf⟩ := q_let_go hf
        refine va_last hx hb hE.1 hP hD hS 2 1 rfl rfl hi3 dX3_keeps_26 (fun H locs hP hD hS => ?_)
        have hP : va_P D vwCl (wMD cI cJ a (sMD_kept Sz (vp_updL (MD_kept Sz) (((l1 * 420) + l2) : Int32).toNatClampNeg (MD_now Sz (l2 : Int32).toNatClampNeg)))) H := hP
        have hD : va_D (va_A (wMD cI cJ a S) s.heap.size) (wMD cI cJ a (sMD_kept Sz (vp_updL (MD_kept Sz) (((l1 * 420) + l2) : Int32).toNatClampNeg (MD_now Sz (l2 : Int32).toNatClampNeg)))) := hD
        rw [eS4] at hP hD
        obtain ⟨v5, ev5, hf⟩ := q_let_go hf
        refine lv_iinc (v := v5) (lv' := [(2, .int v5), (0, .ref (a 0)), (1, .int l1)]) hx hb dX3_keeps_27 hl (k := 2) rfl (by rw [← ev5]; rfl) (by decide) rfl (fun ls hl => ?_)
        refine lv_goto (tgt := 2) hx hb dX3_keeps_30 (by decide) ?_
        exact ih S4 _ _ hP hD hS l1 v5 _ (lv_sub hl [1, 2, 0] rfl) hf
  have hl := lv_entry ([.ref (a 0), .int p1]) (n := 3) (Nat.le_of_ble_eq_true rfl)
  rw [lg_entry_eq]
  generalize (lg_sl ([.ref (a 0), .int p1]) ++ List.replicate (3 - (lg_sl ([.ref (a 0), .int p1])).length) Slot.unset).toArray = ls at hl ⊢
  have hl : lv_has ls 3 [(0, .ref (a 0)), (1, .int p1)] := hl
  unfold f_X3_keeps at hf
  refine lv_iconst (v := 0) hx hb dX3_keeps_0 (by decide) ?_
  refine lv_istore_n (lv' := [(2, .int 0), (0, .ref (a 0)), (1, .int p1)]) hx hb dX3_keeps_1 rfl hl (by decide) rfl (fun ls hl => ?_)
  exact L_2 2000 S _ _ hP hD hS p1 0 _ (lv_sub hl [1, 2, 0] rfl) hf
def f_X3_brings_2 : Nat → MD → Int32 → Int32 → Option MD
  | 0, _, _, _ => none
  | n+1, Sz, l1, l2 => if 420 ≤ l2 then
 (some Sz)
 else (if q_in ((l1 * 420) + l2) 2100 = true then
 (if q_in l2 420 = true then
 (q_let (sMD_now Sz (vp_updL (MD_now Sz) (l2 : Int32).toNatClampNeg (MD_kept Sz (((l1 * 420) + l2) : Int32).toNatClampNeg))) fun S4 =>
 q_let (l2 + 1) fun v5 =>
 f_X3_brings_2 n S4 l1 v5) else none) else none)
def f_X3_brings (S : MD) (p1 : Int32) : Option MD := f_X3_brings_2 2000 S p1 0
abbrev rX3_brings : Room := { frames := 0, cells := 0, slots := 0, locals := 0 }
set_option maxRecDepth 100000 in
set_option maxHeartbeats 4000000 in
theorem c_X3_brings (l : Launch) (D : va_G) (cI cJ cS : ClassId) (a : Nat → Nat) (S : MD) (sz : Nat) (p1 : Int32) (o : MD) (hf : f_X3_brings S p1 = some o) : Met l yX3_brings wsX3_brings rX3_brings (va_Pc [.ref (a 0), .int p1] (q_BW D cI cJ cS (wMD cI cJ a S) sz)) (q_Wo none D (wMD cI cJ a S) (wMD cI cJ a o) sz) 0 0 (va_A (wMD cI cJ a S) sz) := by
  refine Met.ofW (cc := cX3_brings) (maxL := 3) (ret := none) (by decide) rfl ?_
  intro p e s m args below meth c s₁ B hml hv
  obtain ⟨rfl, hsz, hP, hE, hD0⟩ := hv
  have hx := B.exec
  have hb := B.bytes
  have hr := B.returns
  have hts := atoms_spec (ws := wsX3_brings) B.pre
  have hown : s.vm.findClass RX3 = some m.cls := findClass_of_methodNamed B.named
  have hlocks := B.notSynchronized
  have hu : ∀ z ∈ wsX30, z.before _ s = true := fun z h => hts z (List.mem_cons_of_mem _ (List.mem_append_right _ h))
  subst hsz
  have hD := hD0.self (sz := s.heap.size)
  have hS : va_S (va_A (wMD cI cJ a S) s.heap.size) s.heap s.heap [] := va_S.rf
  have L_2 : ∀ (n : Nat) (Sz : MD) (H : Heap) (locs : List Loc) (hP : va_P D vwCl (wMD cI cJ a Sz) H) (hD : va_D (va_A (wMD cI cJ a S) s.heap.size) (wMD cI cJ a Sz)) (hS : va_S (va_A (wMD cI cJ a S) s.heap.size) s.heap H locs) (l1 : Int32) (l2 : Int32) (ls : Array Slot), lv_has ls 3 [(0, .ref (a 0)), (1, .int l1), (2, .int l2)] → f_X3_brings_2 n Sz l1 l2 = some o → W p l e (headSpec wsX3_brings rX3_brings).room s m (([.ref (a 0), .int p1] : List Value).toArray) below meth c H locs 0 0 (MQ below (q_Wo none D (wMD cI cJ a S) (wMD cI cJ a o) s.heap.size) (([.ref (a 0), .int p1] : List Value).toArray) s 0 0 (va_A (wMD cI cJ a S) s.heap.size)) (F0 m 2 ls []) := by
    intro n
    induction n with
    | zero => intro Sz H locs hP hD hS l1 l2 ls hl hf; cases hf
    | succ n ih =>
      intro Sz H locs hP hD hS l1 l2 ls hl hf
      rw [f_X3_brings_2] at hf
      refine lv_iload_n hx hb dX3_brings_2 rfl (lv_at hl 2 rfl) ?_
      refine lv_sipush (v := 420) hx hb dX3_brings_3 (by decide) ?_
      refine lv_icmp_ge (tgt := 33) hx hb dX3_brings_6 (by decide) (fun c1 => ?_) (fun c1 => ?_)
      · have hf := q_ite_t c1 hf
        have ho := q_some hf
        subst ho
        exact W.vret hx hb hr (fun t ht hW => ⟨rfl, ⟨by rw [ht]; exact hP, hD⟩, hS.F ht⟩) hS.2.2 dX3_brings_33
      · have hf := q_ite_f c1 hf
        refine lv_aload_n hx hb dX3_brings_9 rfl (lv_at hl 0 rfl) ?_
        refine va_get (D := D) (ci := 3) (v := .ref (a 1)) (C := RX3) (T := TX3) (N := 15) hx hb hu (fun _ h => h) hown hE.1 hP 0 rfl rfl 0 (Nat.le_of_ble_eq_true rfl) (hts (.fieldLink RX3 7 "CoverMeterModel" "now" "[J") (List.mem_of_getElem? (i := 1) rfl)) (fun _ h9 => h9) rfl dX3_brings_10 ?_
        refine lv_iload_n hx hb dX3_brings_13 rfl (lv_at hl 2 rfl) ?_
        refine lv_aload_n hx hb dX3_brings_14 rfl (lv_at hl 0 rfl) ?_
        refine va_get (D := D) (ci := 3) (v := .ref (a 2)) (C := RX3) (T := TX3) (N := 15) hx hb hu (fun _ h => h) hown hE.1 hP 0 rfl rfl 1 (Nat.le_of_ble_eq_true rfl) (hts (.fieldLink RX3 13 "CoverMeterModel" "kept" "[J") (List.mem_of_getElem? (i := 2) rfl)) (fun _ h9 => h9) rfl dX3_brings_15 ?_
        refine lv_iload_n hx hb dX3_brings_18 rfl (lv_at hl 1 rfl) ?_
        refine lv_sipush (v := 420) hx hb dX3_brings_19 (by decide) ?_
        refine lv_imul hx hb dX3_brings_22 ?_
        refine lv_iload_n hx hb dX3_brings_23 rfl (lv_at hl 2 rfl) ?_
        refine lv_iadd hx hb dX3_brings_24 ?_
        have hi2 := q_gd_in hf
        have hf := q_gd_go hf
        refine va_lald hx hb hE.1 hP 2 1 rfl rfl hi2 dX3_brings_25 ?_
        have hi3 := q_gd_in hf
        have hf := q_gd_go hf
        obtain ⟨S4, eS4, hf⟩ := q_let_go hf
        refine va_last hx hb hE.1 hP hD hS 1 1 rfl rfl hi3 dX3_brings_26 (fun H locs hP hD hS => ?_)
        have hP : va_P D vwCl (wMD cI cJ a (sMD_now Sz (vp_updL (MD_now Sz) (l2 : Int32).toNatClampNeg (MD_kept Sz (((l1 * 420) + l2) : Int32).toNatClampNeg)))) H := hP
        have hD : va_D (va_A (wMD cI cJ a S) s.heap.size) (wMD cI cJ a (sMD_now Sz (vp_updL (MD_now Sz) (l2 : Int32).toNatClampNeg (MD_kept Sz (((l1 * 420) + l2) : Int32).toNatClampNeg)))) := hD
        rw [eS4] at hP hD
        obtain ⟨v5, ev5, hf⟩ := q_let_go hf
        refine lv_iinc (v := v5) (lv' := [(2, .int v5), (0, .ref (a 0)), (1, .int l1)]) hx hb dX3_brings_27 hl (k := 2) rfl (by rw [← ev5]; rfl) (by decide) rfl (fun ls hl => ?_)
        refine lv_goto (tgt := 2) hx hb dX3_brings_30 (by decide) ?_
        exact ih S4 _ _ hP hD hS l1 v5 _ (lv_sub hl [1, 2, 0] rfl) hf
  have hl := lv_entry ([.ref (a 0), .int p1]) (n := 3) (Nat.le_of_ble_eq_true rfl)
  rw [lg_entry_eq]
  generalize (lg_sl ([.ref (a 0), .int p1]) ++ List.replicate (3 - (lg_sl ([.ref (a 0), .int p1])).length) Slot.unset).toArray = ls at hl ⊢
  have hl : lv_has ls 3 [(0, .ref (a 0)), (1, .int p1)] := hl
  unfold f_X3_brings at hf
  refine lv_iconst (v := 0) hx hb dX3_brings_0 (by decide) ?_
  refine lv_istore_n (lv' := [(2, .int 0), (0, .ref (a 0)), (1, .int p1)]) hx hb dX3_brings_1 rfl hl (by decide) rfl (fun ls hl => ?_)
  exact L_2 2000 S _ _ hP hD hS p1 0 _ (lv_sub hl [1, 2, 0] rfl) hf
def f_X3_records_10 : Nat → MD → Int32 → Option MD
  | 0, _, _ => none
  | n+1, Sz, l1 => if 1260 ≤ l1 then
 (q_let (sMD_states Sz ((MD_states Sz) - 1)) fun S5 =>
 (f_X3_keeps S5 (MD_states S5)).bind fun r6 =>
 q_let (sMD_states r6 ((MD_states r6) + 1)) fun S7 =>
 some S7)
 else (if q_in (l1 + 420) 2100 = true then
 (if q_in l1 2100 = true then
 (q_let (sMD_kept Sz (vp_updL (MD_kept Sz) (l1 : Int32).toNatClampNeg (MD_kept Sz ((l1 + 420) : Int32).toNatClampNeg))) fun S10 =>
 q_let (l1 + 1) fun v11 =>
 f_X3_records_10 n S10 v11) else none) else none)
def f_X3_records (S : MD) : Option MD := if ¬ (MD_states S) = 4 then
 ((f_X3_keeps S (MD_states S)).bind fun r2 =>
 q_let (sMD_states r2 ((MD_states r2) + 1)) fun S3 =>
 some S3)
 else (f_X3_records_10 2000 S 0)
abbrev rX3_records : Room := { frames := 1, cells := 0, slots := 0, locals := 22 }
set_option maxRecDepth 100000 in
set_option maxHeartbeats 4000000 in
theorem c_X3_records (l : Launch) (D : va_G) (cI cJ cS : ClassId) (a : Nat → Nat) (S : MD) (sz : Nat) (o : MD) (hf : f_X3_records S = some o) : Met l yX3_records wsX3_records rX3_records (va_Pc [.ref (a 0)] (q_BW D cI cJ cS (wMD cI cJ a S) sz)) (q_Wo none D (wMD cI cJ a S) (wMD cI cJ a o) sz) 0 0 (va_A (wMD cI cJ a S) sz) := by
  refine Met.ofW (cc := cX3_records) (maxL := 2) (ret := none) (by decide) rfl ?_
  intro p e s m args below meth c s₁ B hml hv
  obtain ⟨rfl, hsz, hP, hE, hD0⟩ := hv
  have hx := B.exec
  have hb := B.bytes
  have hr := B.returns
  have hts := atoms_spec (ws := wsX3_records) B.pre
  have hown : s.vm.findClass RX3 = some m.cls := findClass_of_methodNamed B.named
  have hlocks := B.notSynchronized
  have hu : ∀ z ∈ wsX30, z.before _ s = true := fun z h => hts z (List.mem_cons_of_mem _ (List.mem_append_right _ h))
  subst hsz
  have hD := hD0.self (sz := s.heap.size)
  have hS : va_S (va_A (wMD cI cJ a S) s.heap.size) s.heap s.heap [] := va_S.rf
  have L_10 : ∀ (n : Nat) (Sz : MD) (H : Heap) (locs : List Loc) (hP : va_P D vwCl (wMD cI cJ a Sz) H) (hD : va_D (va_A (wMD cI cJ a S) s.heap.size) (wMD cI cJ a Sz)) (hS : va_S (va_A (wMD cI cJ a S) s.heap.size) s.heap H locs) (l1 : Int32) (ls : Array Slot), lv_has ls 2 [(0, .ref (a 0)), (1, .int l1)] → f_X3_records_10 n Sz l1 = some o → W p l e (headSpec wsX3_records rX3_records).room s m (([.ref (a 0)] : List Value).toArray) below meth c H locs 0 0 (MQ below (q_Wo none D (wMD cI cJ a S) (wMD cI cJ a o) s.heap.size) (([.ref (a 0)] : List Value).toArray) s 0 0 (va_A (wMD cI cJ a S) s.heap.size)) (F0 m 10 ls []) := by
    intro n
    induction n with
    | zero => intro Sz H locs hP hD hS l1 ls hl hf; cases hf
    | succ n ih =>
      intro Sz H locs hP hD hS l1 ls hl hf
      rw [f_X3_records_10] at hf
      refine lv_iload_n hx hb dX3_records_10 rfl (lv_at hl 1 rfl) ?_
      refine lv_sipush (v := 1260) hx hb dX3_records_11 (by decide) ?_
      refine lv_icmp_ge (tgt := 39) hx hb dX3_records_14 (by decide) (fun c4 => ?_) (fun c4 => ?_)
      · have hf := q_ite_t c4 hf
        refine lv_aload_n hx hb dX3_records_39 rfl (lv_at hl 0 rfl) ?_
        refine lv_dup hx hb dX3_records_40 rfl ?_
        refine va_get (D := D) (ci := 3) (v := .int (MD_states Sz)) (C := RX3) (T := TX3) (N := 15) hx hb hu (fun _ h => h) hown hE.1 hP 0 rfl rfl 2 (Nat.le_of_ble_eq_true rfl) (hts (.fieldLink RX3 45 "CoverMeterModel" "states" "I") (List.mem_of_getElem? (i := 1) rfl)) (fun _ h9 => h9) rfl dX3_records_41 ?_
        refine lv_iconst (v := 1) hx hb dX3_records_44 (by decide) ?_
        refine lv_isub hx hb dX3_records_45 ?_
        obtain ⟨S5, eS5, hf⟩ := q_let_go hf
        refine va_put (D := D) (ci := 3) (v := .int ((MD_states Sz) - 1)) (ty := .int) (C := RX3) (T := TX3) (N := 15) hx hb hu (fun _ h => h) tyX3 tyX3_ok nmX3 hown hE.1 hP hD hS 0 rfl rfl 2 (Nat.le_of_ble_eq_true rfl) (hts (.fieldLink RX3 45 "CoverMeterModel" "states" "I") (List.mem_of_getElem? (i := 1) rfl)) (fun _ h9 => h9) rfl (by decide +kernel) rfl rfl (Nat.le_of_ble_eq_true rfl) dX3_records_46 (fun H locs hP hD hS => ?_)
        have hP : va_P D vwCl (wMD cI cJ a (sMD_states Sz ((MD_states Sz) - 1))) H := hP
        have hD : va_D (va_A (wMD cI cJ a S) s.heap.size) (wMD cI cJ a (sMD_states Sz ((MD_states Sz) - 1))) := hD
        rw [eS5] at hP hD
        refine lv_aload_n hx hb dX3_records_49 rfl (lv_at hl 0 rfl) ?_
        refine lv_aload_n hx hb dX3_records_50 rfl (lv_at hl 0 rfl) ?_
        refine va_get (D := D) (ci := 3) (v := .int (MD_states S5)) (C := RX3) (T := TX3) (N := 15) hx hb hu (fun _ h => h) hown hE.1 hP 0 rfl rfl 2 (Nat.le_of_ble_eq_true rfl) (hts (.fieldLink RX3 45 "CoverMeterModel" "states" "I") (List.mem_of_getElem? (i := 1) rfl)) (fun _ h9 => h9) rfl dX3_records_51 ?_
        obtain ⟨r6, hr6, hf⟩ := q_bd_go hf
        refine q_wrVv (ci := 3) (As := [.int (MD_states S5)]) (rest := []) hx hb hml hown hts (c_X3_keeps l D cI cJ cS a S5 _ (MD_states S5) _ hr6) (cwV 1 hts gX3_records_X3_keeps rfl rfl rfl (by decide +kernel) ⟨(Nat.le_of_ble_eq_true rfl), (Nat.le_of_ble_eq_true rfl)⟩) hE hP hD hS (fun q h => Or.inr h) rfl rfl rfl hl.1 rfl (Nat.le_of_ble_eq_true rfl) dX3_records_54 ⟨Nat.zero_le _, Nat.zero_le _⟩ (fun H locs hP hD hS => ?_)
        refine lv_aload_n hx hb dX3_records_57 rfl (lv_at hl 0 rfl) ?_
        refine lv_dup hx hb dX3_records_58 rfl ?_
        refine va_get (D := D) (ci := 3) (v := .int (MD_states r6)) (C := RX3) (T := TX3) (N := 15) hx hb hu (fun _ h => h) hown hE.1 hP 0 rfl rfl 2 (Nat.le_of_ble_eq_true rfl) (hts (.fieldLink RX3 45 "CoverMeterModel" "states" "I") (List.mem_of_getElem? (i := 1) rfl)) (fun _ h9 => h9) rfl dX3_records_59 ?_
        refine lv_iconst (v := 1) hx hb dX3_records_62 (by decide) ?_
        refine lv_iadd hx hb dX3_records_63 ?_
        obtain ⟨S7, eS7, hf⟩ := q_let_go hf
        refine va_put (D := D) (ci := 3) (v := .int ((MD_states r6) + 1)) (ty := .int) (C := RX3) (T := TX3) (N := 15) hx hb hu (fun _ h => h) tyX3 tyX3_ok nmX3 hown hE.1 hP hD hS 0 rfl rfl 2 (Nat.le_of_ble_eq_true rfl) (hts (.fieldLink RX3 45 "CoverMeterModel" "states" "I") (List.mem_of_getElem? (i := 1) rfl)) (fun _ h9 => h9) rfl (by decide +kernel) rfl rfl (Nat.le_of_ble_eq_true rfl) dX3_records_64 (fun H locs hP hD hS => ?_)
        have hP : va_P D vwCl (wMD cI cJ a (sMD_states r6 ((MD_states r6) + 1))) H := hP
        have hD : va_D (va_A (wMD cI cJ a S) s.heap.size) (wMD cI cJ a (sMD_states r6 ((MD_states r6) + 1))) := hD
        rw [eS7] at hP hD
        have ho := q_some hf
        subst ho
        exact W.vret hx hb hr (fun t ht hW => ⟨rfl, ⟨by rw [ht]; exact hP, hD⟩, hS.F ht⟩) hS.2.2 dX3_records_67
      · have hf := q_ite_f c4 hf
        refine lv_aload_n hx hb dX3_records_17 rfl (lv_at hl 0 rfl) ?_
        refine va_get (D := D) (ci := 3) (v := .ref (a 2)) (C := RX3) (T := TX3) (N := 15) hx hb hu (fun _ h => h) hown hE.1 hP 0 rfl rfl 1 (Nat.le_of_ble_eq_true rfl) (hts (.fieldLink RX3 13 "CoverMeterModel" "kept" "[J") (List.mem_of_getElem? (i := 2) rfl)) (fun _ h9 => h9) rfl dX3_records_18 ?_
        refine lv_iload_n hx hb dX3_records_21 rfl (lv_at hl 1 rfl) ?_
        refine lv_aload_n hx hb dX3_records_22 rfl (lv_at hl 0 rfl) ?_
        refine va_get (D := D) (ci := 3) (v := .ref (a 2)) (C := RX3) (T := TX3) (N := 15) hx hb hu (fun _ h => h) hown hE.1 hP 0 rfl rfl 1 (Nat.le_of_ble_eq_true rfl) (hts (.fieldLink RX3 13 "CoverMeterModel" "kept" "[J") (List.mem_of_getElem? (i := 2) rfl)) (fun _ h9 => h9) rfl dX3_records_23 ?_
        refine lv_iload_n hx hb dX3_records_26 rfl (lv_at hl 1 rfl) ?_
        refine lv_sipush (v := 420) hx hb dX3_records_27 (by decide) ?_
        refine lv_iadd hx hb dX3_records_30 ?_
        have hi8 := q_gd_in hf
        have hf := q_gd_go hf
        refine va_lald hx hb hE.1 hP 2 1 rfl rfl hi8 dX3_records_31 ?_
        have hi9 := q_gd_in hf
        have hf := q_gd_go hf
        obtain ⟨S10, eS10, hf⟩ := q_let_go hf
        refine va_last hx hb hE.1 hP hD hS 2 1 rfl rfl hi9 dX3_records_32 (fun H locs hP hD hS => ?_)
        have hP : va_P D vwCl (wMD cI cJ a (sMD_kept Sz (vp_updL (MD_kept Sz) (l1 : Int32).toNatClampNeg (MD_kept Sz ((l1 + 420) : Int32).toNatClampNeg)))) H := hP
        have hD : va_D (va_A (wMD cI cJ a S) s.heap.size) (wMD cI cJ a (sMD_kept Sz (vp_updL (MD_kept Sz) (l1 : Int32).toNatClampNeg (MD_kept Sz ((l1 + 420) : Int32).toNatClampNeg)))) := hD
        rw [eS10] at hP hD
        obtain ⟨v11, ev11, hf⟩ := q_let_go hf
        refine lv_iinc (v := v11) (lv' := [(1, .int v11), (0, .ref (a 0))]) hx hb dX3_records_33 hl (k := 1) rfl (by rw [← ev11]; rfl) (by decide) rfl (fun ls hl => ?_)
        refine lv_goto (tgt := 10) hx hb dX3_records_36 (by decide) ?_
        exact ih S10 _ _ hP hD hS v11 _ (lv_sub hl [1, 0] rfl) hf
  have hl := lv_entry ([.ref (a 0)]) (n := 2) (Nat.le_of_ble_eq_true rfl)
  rw [lg_entry_eq]
  generalize (lg_sl ([.ref (a 0)]) ++ List.replicate (2 - (lg_sl ([.ref (a 0)])).length) Slot.unset).toArray = ls at hl ⊢
  have hl : lv_has ls 2 [(0, .ref (a 0))] := hl
  unfold f_X3_records at hf
  refine lv_aload_n hx hb dX3_records_0 rfl (lv_at hl 0 rfl) ?_
  refine va_get (D := D) (ci := 3) (v := .int (MD_states S)) (C := RX3) (T := TX3) (N := 15) hx hb hu (fun _ h => h) hown hE.1 hP 0 rfl rfl 2 (Nat.le_of_ble_eq_true rfl) (hts (.fieldLink RX3 45 "CoverMeterModel" "states" "I") (List.mem_of_getElem? (i := 1) rfl)) (fun _ h9 => h9) rfl dX3_records_1 ?_
  refine lv_iconst (v := 4) hx hb dX3_records_4 (by decide) ?_
  refine lv_icmp_ne (tgt := 49) hx hb dX3_records_5 (by decide) (fun c1 => ?_) (fun c1 => ?_)
  · have hf := q_ite_t c1 hf
    refine lv_aload_n hx hb dX3_records_49 rfl (lv_at hl 0 rfl) ?_
    refine lv_aload_n hx hb dX3_records_50 rfl (lv_at hl 0 rfl) ?_
    refine va_get (D := D) (ci := 3) (v := .int (MD_states S)) (C := RX3) (T := TX3) (N := 15) hx hb hu (fun _ h => h) hown hE.1 hP 0 rfl rfl 2 (Nat.le_of_ble_eq_true rfl) (hts (.fieldLink RX3 45 "CoverMeterModel" "states" "I") (List.mem_of_getElem? (i := 1) rfl)) (fun _ h9 => h9) rfl dX3_records_51 ?_
    obtain ⟨r2, hr2, hf⟩ := q_bd_go hf
    refine q_wrVv (ci := 3) (As := [.int (MD_states S)]) (rest := []) hx hb hml hown hts (c_X3_keeps l D cI cJ cS a S _ (MD_states S) _ hr2) (cwV 1 hts gX3_records_X3_keeps rfl rfl rfl (by decide +kernel) ⟨(Nat.le_of_ble_eq_true rfl), (Nat.le_of_ble_eq_true rfl)⟩) hE hP hD hS (fun q h => Or.inr h) rfl rfl rfl hl.1 rfl (Nat.le_of_ble_eq_true rfl) dX3_records_54 ⟨Nat.zero_le _, Nat.zero_le _⟩ (fun H locs hP hD hS => ?_)
    refine lv_aload_n hx hb dX3_records_57 rfl (lv_at hl 0 rfl) ?_
    refine lv_dup hx hb dX3_records_58 rfl ?_
    refine va_get (D := D) (ci := 3) (v := .int (MD_states r2)) (C := RX3) (T := TX3) (N := 15) hx hb hu (fun _ h => h) hown hE.1 hP 0 rfl rfl 2 (Nat.le_of_ble_eq_true rfl) (hts (.fieldLink RX3 45 "CoverMeterModel" "states" "I") (List.mem_of_getElem? (i := 1) rfl)) (fun _ h9 => h9) rfl dX3_records_59 ?_
    refine lv_iconst (v := 1) hx hb dX3_records_62 (by decide) ?_
    refine lv_iadd hx hb dX3_records_63 ?_
    obtain ⟨S3, eS3, hf⟩ := q_let_go hf
    refine va_put (D := D) (ci := 3) (v := .int ((MD_states r2) + 1)) (ty := .int) (C := RX3) (T := TX3) (N := 15) hx hb hu (fun _ h => h) tyX3 tyX3_ok nmX3 hown hE.1 hP hD hS 0 rfl rfl 2 (Nat.le_of_ble_eq_true rfl) (hts (.fieldLink RX3 45 "CoverMeterModel" "states" "I") (List.mem_of_getElem? (i := 1) rfl)) (fun _ h9 => h9) rfl (by decide +kernel) rfl rfl (Nat.le_of_ble_eq_true rfl) dX3_records_64 (fun H locs hP hD hS => ?_)
    have hP : va_P D vwCl (wMD cI cJ a (sMD_states r2 ((MD_states r2) + 1))) H := hP
    have hD : va_D (va_A (wMD cI cJ a S) s.heap.size) (wMD cI cJ a (sMD_states r2 ((MD_states r2) + 1))) := hD
    rw [eS3] at hP hD
    have ho := q_some hf
    subst ho
    exact W.vret hx hb hr (fun t ht hW => ⟨rfl, ⟨by rw [ht]; exact hP, hD⟩, hS.F ht⟩) hS.2.2 dX3_records_67
  · have hf := q_ite_n c1 hf
    refine lv_iconst (v := 0) hx hb dX3_records_8 (by decide) ?_
    refine lv_istore_n (lv' := [(1, .int 0), (0, .ref (a 0))]) hx hb dX3_records_9 rfl hl (by decide) rfl (fun ls hl => ?_)
    exact L_10 2000 S _ _ hP hD hS 0 _ (lv_sub hl [1, 0] rfl) hf
def f_X3_undo_13 (Sz : MD) (t0 : Int32) : Option (Int32 × MD) := q_let (sMD_thrown Sz t0) fun S2 =>
 if (MD_thrown S2) = 0 then
 (q_let (sMD_states S2 ((MD_states S2) - 1)) fun S4 =>
 (f_X3_brings S4 (MD_states S4)).bind fun r5 =>
 some ((MD_states r5), r5))
 else (some (0, S2))
def f_X3_undo (S : MD) : Option (Int32 × MD) := if (MD_states S) ≤ 0 then
 (f_X3_undo_13 S 1)
 else (f_X3_undo_13 S 0)
abbrev rX3_undo : Room := { frames := 1, cells := 0, slots := 0, locals := 22 }
set_option maxRecDepth 100000 in
set_option maxHeartbeats 4000000 in
theorem c_X3_undo (l : Launch) (D : va_G) (cI cJ cS : ClassId) (a : Nat → Nat) (S : MD) (sz : Nat) (o : (Int32 × MD)) (hf : f_X3_undo S = some o) : Met l yX3_undo wsX3_undo rX3_undo (va_Pc [.ref (a 0)] (q_BW D cI cJ cS (wMD cI cJ a S) sz)) (q_Wo (some (.int o.1)) D (wMD cI cJ a S) (wMD cI cJ a o.2) sz) 0 0 (va_A (wMD cI cJ a S) sz) := by
  refine Met.ofW (cc := cX3_undo) (maxL := 1) (ret := some .int) (by decide) rfl ?_
  intro p e s m args below meth c s₁ B hml hv
  obtain ⟨rfl, hsz, hP, hE, hD0⟩ := hv
  have hx := B.exec
  have hb := B.bytes
  have hr := B.returns
  have hts := atoms_spec (ws := wsX3_undo) B.pre
  have hown : s.vm.findClass RX3 = some m.cls := findClass_of_methodNamed B.named
  have hlocks := B.notSynchronized
  have hu : ∀ z ∈ wsX30, z.before _ s = true := fun z h => hts z (List.mem_cons_of_mem _ (List.mem_append_right _ h))
  subst hsz
  have hD := hD0.self (sz := s.heap.size)
  have hS : va_S (va_A (wMD cI cJ a S) s.heap.size) s.heap s.heap [] := va_S.rf
  have B_13 : ∀ (Sz : MD) (H : Heap) (locs : List Loc) (hP : va_P D vwCl (wMD cI cJ a Sz) H) (hD : va_D (va_A (wMD cI cJ a S) s.heap.size) (wMD cI cJ a Sz)) (hS : va_S (va_A (wMD cI cJ a S) s.heap.size) s.heap H locs) (t0 : Int32) (ls : Array Slot), lv_has ls 1 [(0, .ref (a 0))] → f_X3_undo_13 Sz t0 = some o → W p l e (headSpec wsX3_undo rX3_undo).room s m (([.ref (a 0)] : List Value).toArray) below meth c H locs 0 0 (MQ below (q_Wo (some (.int o.1)) D (wMD cI cJ a S) (wMD cI cJ a o.2) s.heap.size) (([.ref (a 0)] : List Value).toArray) s 0 0 (va_A (wMD cI cJ a S) s.heap.size)) (F0 m 13 ls [.int t0, .ref (a 0)]) := by
    intro Sz H locs hP hD hS t0 ls hl hf
    unfold f_X3_undo_13 at hf
    obtain ⟨S2, eS2, hf⟩ := q_let_go hf
    refine va_put (D := D) (ci := 3) (v := .int t0) (ty := .int) (C := RX3) (T := TX3) (N := 15) hx hb hu (fun _ h => h) tyX3 tyX3_ok nmX3 hown hE.1 hP hD hS 0 rfl rfl 3 (Nat.le_of_ble_eq_true rfl) (hts (.fieldLink RX3 30 "CoverMeterModel" "thrown" "I") (List.mem_of_getElem? (i := 2) rfl)) (fun _ h9 => h9) rfl (by decide +kernel) rfl rfl (Nat.le_of_ble_eq_true rfl) dX3_undo_13 (fun H locs hP hD hS => ?_)
    have hP : va_P D vwCl (wMD cI cJ a (sMD_thrown Sz t0)) H := hP
    have hD : va_D (va_A (wMD cI cJ a S) s.heap.size) (wMD cI cJ a (sMD_thrown Sz t0)) := hD
    rw [eS2] at hP hD
    refine lv_aload_n hx hb dX3_undo_16 rfl (lv_at hl 0 rfl) ?_
    refine va_get (D := D) (ci := 3) (v := .int (MD_thrown S2)) (C := RX3) (T := TX3) (N := 15) hx hb hu (fun _ h => h) hown hE.1 hP 0 rfl rfl 3 (Nat.le_of_ble_eq_true rfl) (hts (.fieldLink RX3 30 "CoverMeterModel" "thrown" "I") (List.mem_of_getElem? (i := 2) rfl)) (fun _ h9 => h9) rfl dX3_undo_17 ?_
    refine lv_if_eq (tgt := 25) hx hb dX3_undo_20 (by decide) (fun c3 => ?_) (fun c3 => ?_)
    · have hf := q_ite_t c3 hf
      refine lv_aload_n hx hb dX3_undo_25 rfl (lv_at hl 0 rfl) ?_
      refine lv_dup hx hb dX3_undo_26 rfl ?_
      refine va_get (D := D) (ci := 3) (v := .int (MD_states S2)) (C := RX3) (T := TX3) (N := 15) hx hb hu (fun _ h => h) hown hE.1 hP 0 rfl rfl 2 (Nat.le_of_ble_eq_true rfl) (hts (.fieldLink RX3 45 "CoverMeterModel" "states" "I") (List.mem_of_getElem? (i := 1) rfl)) (fun _ h9 => h9) rfl dX3_undo_27 ?_
      refine lv_iconst (v := 1) hx hb dX3_undo_30 (by decide) ?_
      refine lv_isub hx hb dX3_undo_31 ?_
      obtain ⟨S4, eS4, hf⟩ := q_let_go hf
      refine va_put (D := D) (ci := 3) (v := .int ((MD_states S2) - 1)) (ty := .int) (C := RX3) (T := TX3) (N := 15) hx hb hu (fun _ h => h) tyX3 tyX3_ok nmX3 hown hE.1 hP hD hS 0 rfl rfl 2 (Nat.le_of_ble_eq_true rfl) (hts (.fieldLink RX3 45 "CoverMeterModel" "states" "I") (List.mem_of_getElem? (i := 1) rfl)) (fun _ h9 => h9) rfl (by decide +kernel) rfl rfl (Nat.le_of_ble_eq_true rfl) dX3_undo_32 (fun H locs hP hD hS => ?_)
      have hP : va_P D vwCl (wMD cI cJ a (sMD_states S2 ((MD_states S2) - 1))) H := hP
      have hD : va_D (va_A (wMD cI cJ a S) s.heap.size) (wMD cI cJ a (sMD_states S2 ((MD_states S2) - 1))) := hD
      rw [eS4] at hP hD
      refine lv_aload_n hx hb dX3_undo_35 rfl (lv_at hl 0 rfl) ?_
      refine lv_aload_n hx hb dX3_undo_36 rfl (lv_at hl 0 rfl) ?_
      refine va_get (D := D) (ci := 3) (v := .int (MD_states S4)) (C := RX3) (T := TX3) (N := 15) hx hb hu (fun _ h => h) hown hE.1 hP 0 rfl rfl 2 (Nat.le_of_ble_eq_true rfl) (hts (.fieldLink RX3 45 "CoverMeterModel" "states" "I") (List.mem_of_getElem? (i := 1) rfl)) (fun _ h9 => h9) rfl dX3_undo_37 ?_
      obtain ⟨r5, hr5, hf⟩ := q_bd_go hf
      refine q_wrVv (ci := 3) (As := [.int (MD_states S4)]) (rest := []) hx hb hml hown hts (c_X3_brings l D cI cJ cS a S4 _ (MD_states S4) _ hr5) (cwV 1 hts gX3_undo_X3_brings rfl rfl rfl (by decide +kernel) ⟨(Nat.le_of_ble_eq_true rfl), (Nat.le_of_ble_eq_true rfl)⟩) hE hP hD hS (fun q h => Or.inr h) rfl rfl rfl hl.1 rfl (Nat.le_of_ble_eq_true rfl) dX3_undo_40 ⟨Nat.zero_le _, Nat.zero_le _⟩ (fun H locs hP hD hS => ?_)
      refine lv_aload_n hx hb dX3_undo_43 rfl (lv_at hl 0 rfl) ?_
      refine va_get (D := D) (ci := 3) (v := .int (MD_states r5)) (C := RX3) (T := TX3) (N := 15) hx hb hu (fun _ h => h) hown hE.1 hP 0 rfl rfl 2 (Nat.le_of_ble_eq_true rfl) (hts (.fieldLink RX3 45 "CoverMeterModel" "states" "I") (List.mem_of_getElem? (i := 1) rfl)) (fun _ h9 => h9) rfl dX3_undo_44 ?_
      have ho := q_some hf
      subst ho
      exact W.iret hx hb hr (fun t ht hW => ⟨rfl, ⟨by rw [ht]; exact hP, hD⟩, hS.F ht⟩) hS.2.2 dX3_undo_47
    · have hf := q_ite_f c3 hf
      refine lv_iconst (v := 0) hx hb dX3_undo_23 (by decide) ?_
      have ho := q_some hf
      subst ho
      exact W.iret hx hb hr (fun t ht hW => ⟨rfl, ⟨by rw [ht]; exact hP, hD⟩, hS.F ht⟩) hS.2.2 dX3_undo_24
  have hl := lv_entry ([.ref (a 0)]) (n := 1) (Nat.le_of_ble_eq_true rfl)
  rw [lg_entry_eq]
  generalize (lg_sl ([.ref (a 0)]) ++ List.replicate (1 - (lg_sl ([.ref (a 0)])).length) Slot.unset).toArray = ls at hl ⊢
  have hl : lv_has ls 1 [(0, .ref (a 0))] := hl
  unfold f_X3_undo at hf
  refine lv_aload_n hx hb dX3_undo_0 rfl (lv_at hl 0 rfl) ?_
  refine lv_aload_n hx hb dX3_undo_1 rfl (lv_at hl 0 rfl) ?_
  refine va_get (D := D) (ci := 3) (v := .int (MD_states S)) (C := RX3) (T := TX3) (N := 15) hx hb hu (fun _ h => h) hown hE.1 hP 0 rfl rfl 2 (Nat.le_of_ble_eq_true rfl) (hts (.fieldLink RX3 45 "CoverMeterModel" "states" "I") (List.mem_of_getElem? (i := 1) rfl)) (fun _ h9 => h9) rfl dX3_undo_2 ?_
  refine lv_if_le (tgt := 12) hx hb dX3_undo_5 (by decide) (fun c1 => ?_) (fun c1 => ?_)
  · have hf := q_ite_t c1 hf
    refine lv_iconst (v := 1) hx hb dX3_undo_12 (by decide) ?_
    exact B_13 S _ _ hP hD hS 1 _ (lv_sub hl [0] rfl) hf
  · have hf := q_ite_f c1 hf
    refine lv_iconst (v := 0) hx hb dX3_undo_8 (by decide) ?_
    refine lv_goto (tgt := 13) hx hb dX3_undo_9 (by decide) ?_
    exact B_13 S _ _ hP hD hS 0 _ (lv_sub hl [0] rfl) hf
def f_X3_isRostered (S : MD) (p1 : Int32) (p2 : Int32) : Option Int32 := (f_X3_ofP S p1 0).bind fun r1 =>
 if ¬ (lg_cmp ((r1 >>> ((p2 : Int32).toInt64 &&& 63)) &&& 1) 1) = 0 then
 (some 0)
 else (some 1)
abbrev rX3_isRostered : Room := { frames := 1, cells := 0, slots := 0, locals := 22 }
set_option maxRecDepth 100000 in
set_option maxHeartbeats 4000000 in
theorem c_X3_isRostered (l : Launch) (D : va_G) (cI cJ cS : ClassId) (a : Nat → Nat) (S : MD) (p1 : Int32) (p2 : Int32) (o : Int32) (hf : f_X3_isRostered S p1 p2 = some o) : Met l yX3_isRostered wsX3_isRostered rX3_isRostered (va_Pc [.ref (a 0), .int p1, .int p2] (q_B D cI cJ cS (wMD cI cJ a S))) (q_Ri o) 0 0 (fun _ => False) := by
  refine Met.ofW (cc := cX3_isRostered) (maxL := 3) (ret := some .boolean) (by decide) rfl ?_
  intro p e s m args below meth c s₁ B hml hv
  obtain ⟨rfl, hP, hE⟩ := hv
  have hx := B.exec
  have hb := B.bytes
  have hr := B.returns
  have hts := atoms_spec (ws := wsX3_isRostered) B.pre
  have hown : s.vm.findClass RX3 = some m.cls := findClass_of_methodNamed B.named
  have hlocks := B.notSynchronized
  have hl := lv_entry ([.ref (a 0), .int p1, .int p2]) (n := 3) (Nat.le_of_ble_eq_true rfl)
  rw [lg_entry_eq]
  generalize (lg_sl ([.ref (a 0), .int p1, .int p2]) ++ List.replicate (3 - (lg_sl ([.ref (a 0), .int p1, .int p2])).length) Slot.unset).toArray = ls at hl ⊢
  have hl : lv_has ls 3 [(0, .ref (a 0)), (1, .int p1), (2, .int p2)] := hl
  unfold f_X3_isRostered at hf
  refine lv_aload_n hx hb dX3_isRostered_0 rfl (lv_at hl 0 rfl) ?_
  refine lv_iload_n hx hb dX3_isRostered_1 rfl (lv_at hl 1 rfl) ?_
  refine lv_iconst (v := 0) hx hb dX3_isRostered_2 (by decide) ?_
  obtain ⟨r1, hr1, hf⟩ := q_bd_go hf
  refine q_rdVl (ci := 3) (As := [.int p1, .int 0]) (rest := []) hx hb hml hown hts (c_X3_ofP l D cI cJ cS a S p1 0 _ hr1) (cwV 2 hts gX3_isRostered_X3_ofP rfl rfl rfl (by decide +kernel) ⟨(Nat.le_of_ble_eq_true rfl), (Nat.le_of_ble_eq_true rfl)⟩) hE hP rfl rfl rfl hl.1 rfl (Nat.le_of_ble_eq_true rfl) dX3_isRostered_3 ⟨Nat.zero_le _, Nat.zero_le _⟩ ?_
  refine lv_iload_n hx hb dX3_isRostered_6 rfl (lv_at hl 2 rfl) ?_
  refine lv_lshr (v := (r1 >>> ((p2 : Int32).toInt64 &&& 63))) hx hb dX3_isRostered_7 rfl ?_
  refine lv_lconst (v := 1) hx hb dX3_isRostered_8 (by decide) ?_
  refine lv_land hx hb dX3_isRostered_9 ?_
  refine lv_lconst (v := 1) hx hb dX3_isRostered_10 (by decide) ?_
  refine W.lcmp hx hb dX3_isRostered_11 ?_
  refine lv_if_ne (tgt := 19) hx hb dX3_isRostered_12 (by decide) (fun c2 => ?_) (fun c2 => ?_)
  · have hf := q_ite_t c2 hf
    refine lv_iconst (v := 0) hx hb dX3_isRostered_19 (by decide) ?_
    have ho := q_some hf
    subst ho
    exact W.zret hx hb hr rfl (fun t ht hW => ⟨rfl, ht⟩) t_nil dX3_isRostered_20
  · have hf := q_ite_n c2 hf
    refine lv_iconst (v := 1) hx hb dX3_isRostered_15 (by decide) ?_
    refine lv_goto (tgt := 20) hx hb dX3_isRostered_16 (by decide) ?_
    have ho := q_some hf
    subst ho
    exact W.zret hx hb hr rfl (fun t ht hW => ⟨rfl, ht⟩) t_nil dX3_isRostered_20
def f_X3_isAbsent_5 (S : MD) : Nat → Int32 → Int32 → Int32 → Int32 → Option Int32
  | 0, _, _, _, _ => none
  | n+1, l1, l2, l3, l4 => if q_in 4 420 = true then
 (if 0 ≤ (lg_cmp ((l4 : Int32).toInt64) (MD_now S (4 : Int32).toNatClampNeg)) then
 (if l3 = 0 ∨ l3 = 1 then some l3 else none)
 else (if ¬ l3 = 0 then
 (q_let (l4 + 1) fun v4 =>
 f_X3_isAbsent_5 S n l1 l2 1 v4)
 else ((f_X3_ofA S l4 0).bind fun r5 =>
 if ¬ r5 = l1 then
 (q_let (l4 + 1) fun v7 =>
 f_X3_isAbsent_5 S n l1 l2 0 v7)
 else ((f_X3_ofA S l4 1).bind fun r8 =>
 if ¬ r8 = l2 then
 (q_let (l4 + 1) fun v10 =>
 f_X3_isAbsent_5 S n l1 l2 0 v10)
 else (q_let (l4 + 1) fun v11 =>
 f_X3_isAbsent_5 S n l1 l2 1 v11))))) else none
def f_X3_isAbsent (S : MD) (p1 : Int32) (p2 : Int32) : Option Int32 := f_X3_isAbsent_5 S 2000 p1 p2 0 0
abbrev rX3_isAbsent : Room := { frames := 1, cells := 0, slots := 0, locals := 22 }
set_option maxRecDepth 100000 in
set_option maxHeartbeats 4000000 in
theorem c_X3_isAbsent (l : Launch) (D : va_G) (cI cJ cS : ClassId) (a : Nat → Nat) (S : MD) (p1 : Int32) (p2 : Int32) (o : Int32) (hf : f_X3_isAbsent S p1 p2 = some o) : Met l yX3_isAbsent wsX3_isAbsent rX3_isAbsent (va_Pc [.ref (a 0), .int p1, .int p2] (q_B D cI cJ cS (wMD cI cJ a S))) (q_Ri o) 0 0 (fun _ => False) := by
  refine Met.ofW (cc := cX3_isAbsent) (maxL := 5) (ret := some .boolean) (by decide) rfl ?_
  intro p e s m args below meth c s₁ B hml hv
  obtain ⟨rfl, hP, hE⟩ := hv
  have hx := B.exec
  have hb := B.bytes
  have hr := B.returns
  have hts := atoms_spec (ws := wsX3_isAbsent) B.pre
  have hown : s.vm.findClass RX3 = some m.cls := findClass_of_methodNamed B.named
  have hlocks := B.notSynchronized
  have hu : ∀ z ∈ wsX30, z.before _ s = true := fun z h => hts z (List.mem_cons_of_mem _ (List.mem_append_right _ h))
  have L_5 : ∀ (n : Nat) (l1 : Int32) (l2 : Int32) (l3 : Int32) (l4 : Int32) (ls : Array Slot), lv_has ls 5 [(0, .ref (a 0)), (1, .int l1), (2, .int l2), (3, .int l3), (4, .int l4)] → f_X3_isAbsent_5 S n l1 l2 l3 l4 = some o → W p l e (headSpec wsX3_isAbsent rX3_isAbsent).room s m (([.ref (a 0), .int p1, .int p2] : List Value).toArray) below meth c s.heap [] 0 0 (MQ below (q_Ri o) (([.ref (a 0), .int p1, .int p2] : List Value).toArray) s 0 0 (fun _ => False)) (F0 m 5 ls []) := by
    intro n
    induction n with
    | zero => intro l1 l2 l3 l4 ls hl hf; cases hf
    | succ n ih =>
      intro l1 l2 l3 l4 ls hl hf
      rw [f_X3_isAbsent_5] at hf
      refine lv_iload hx hb dX3_isAbsent_5 (lv_at hl 4 rfl) ?_
      refine lv_i2l (v := ((l4 : Int32).toInt64)) hx hb dX3_isAbsent_7 rfl ?_
      refine lv_aload_n hx hb dX3_isAbsent_8 rfl (lv_at hl 0 rfl) ?_
      refine va_get (D := D) (ci := 3) (v := .ref (a 1)) (C := RX3) (T := TX3) (N := 15) hx hb hu (fun _ h => h) hown hE.1 hP 0 rfl rfl 0 (Nat.le_of_ble_eq_true rfl) (hts (.fieldLink RX3 7 "CoverMeterModel" "now" "[J") (List.mem_of_getElem? (i := 1) rfl)) (fun _ h9 => h9) rfl dX3_isAbsent_9 ?_
      refine lv_iconst (v := 4) hx hb dX3_isAbsent_12 (by decide) ?_
      have hi1 := q_gd_in hf
      have hf := q_gd_go hf
      refine va_lald hx hb hE.1 hP 1 1 rfl rfl hi1 dX3_isAbsent_13 ?_
      refine W.lcmp hx hb dX3_isAbsent_14 ?_
      refine lv_if_ge (tgt := 56) hx hb dX3_isAbsent_15 (by decide) (fun c2 => ?_) (fun c2 => ?_)
      · have hf := q_ite_t c2 hf
        refine lv_iload_n hx hb dX3_isAbsent_56 rfl (lv_at hl 3 rfl) ?_
        have hbo := q_gc_in hf
        have hf := q_ite_t hbo hf
        have ho := q_some hf
        subst ho
        exact W.zret hx hb hr (q_nz hbo) (fun t ht hW => ⟨rfl, ht⟩) t_nil dX3_isAbsent_57
      · have hf := q_ite_f c2 hf
        refine lv_iload_n hx hb dX3_isAbsent_18 rfl (lv_at hl 3 rfl) ?_
        refine lv_if_ne (tgt := 44) hx hb dX3_isAbsent_19 (by decide) (fun c3 => ?_) (fun c3 => ?_)
        · have hf := q_ite_t c3 hf
          refine lv_iconst (v := 1) hx hb dX3_isAbsent_44 (by decide) ?_
          refine lv_goto (tgt := 49) hx hb dX3_isAbsent_45 (by decide) ?_
          refine lv_istore_n (lv' := [(3, .int 1), (0, .ref (a 0)), (1, .int l1), (2, .int l2), (4, .int l4)]) hx hb dX3_isAbsent_49 rfl hl (by decide) rfl (fun ls hl => ?_)
          obtain ⟨v4, ev4, hf⟩ := q_let_go hf
          refine lv_iinc (v := v4) (lv' := [(4, .int v4), (3, .int 1), (0, .ref (a 0)), (1, .int l1), (2, .int l2)]) hx hb dX3_isAbsent_50 hl (k := 4) rfl (by rw [← ev4]; rfl) (by decide) rfl (fun ls hl => ?_)
          refine lv_goto (tgt := 5) hx hb dX3_isAbsent_53 (by decide) ?_
          exact ih l1 l2 1 v4 _ (lv_sub hl [2, 3, 4, 1, 0] rfl) hf
        · have hf := q_ite_n c3 hf
          refine lv_aload_n hx hb dX3_isAbsent_22 rfl (lv_at hl 0 rfl) ?_
          refine lv_iload hx hb dX3_isAbsent_23 (lv_at hl 4 rfl) ?_
          refine lv_iconst (v := 0) hx hb dX3_isAbsent_25 (by decide) ?_
          obtain ⟨r5, hr5, hf⟩ := q_bd_go hf
          refine q_rdVi (ci := 3) (As := [.int l4, .int 0]) (rest := []) hx hb hml hown hts (c_X3_ofA l D cI cJ cS a S l4 0 _ hr5) (cwV 2 hts gX3_isAbsent_X3_ofA rfl rfl rfl (by decide +kernel) ⟨(Nat.le_of_ble_eq_true rfl), (Nat.le_of_ble_eq_true rfl)⟩) hE hP rfl rfl rfl hl.1 rfl (Nat.le_of_ble_eq_true rfl) dX3_isAbsent_26 ⟨Nat.zero_le _, Nat.zero_le _⟩ ?_
          refine lv_iload_n hx hb dX3_isAbsent_29 rfl (lv_at hl 1 rfl) ?_
          refine lv_icmp_ne (tgt := 48) hx hb dX3_isAbsent_30 (by decide) (fun c6 => ?_) (fun c6 => ?_)
          · have hf := q_ite_t c6 hf
            refine lv_iconst (v := 0) hx hb dX3_isAbsent_48 (by decide) ?_
            refine lv_istore_n (lv' := [(3, .int 0), (0, .ref (a 0)), (1, .int l1), (2, .int l2), (4, .int l4)]) hx hb dX3_isAbsent_49 rfl hl (by decide) rfl (fun ls hl => ?_)
            obtain ⟨v7, ev7, hf⟩ := q_let_go hf
            refine lv_iinc (v := v7) (lv' := [(4, .int v7), (3, .int 0), (0, .ref (a 0)), (1, .int l1), (2, .int l2)]) hx hb dX3_isAbsent_50 hl (k := 4) rfl (by rw [← ev7]; rfl) (by decide) rfl (fun ls hl => ?_)
            refine lv_goto (tgt := 5) hx hb dX3_isAbsent_53 (by decide) ?_
            exact ih l1 l2 0 v7 _ (lv_sub hl [2, 3, 4, 1, 0] rfl) hf
          · have hf := q_ite_n c6 hf
            refine lv_aload_n hx hb dX3_isAbsent_33 rfl (lv_at hl 0 rfl) ?_
            refine lv_iload hx hb dX3_isAbsent_34 (lv_at hl 4 rfl) ?_
            refine lv_iconst (v := 1) hx hb dX3_isAbsent_36 (by decide) ?_
            obtain ⟨r8, hr8, hf⟩ := q_bd_go hf
            refine q_rdVi (ci := 3) (As := [.int l4, .int 1]) (rest := []) hx hb hml hown hts (c_X3_ofA l D cI cJ cS a S l4 1 _ hr8) (cwV 2 hts gX3_isAbsent_X3_ofA rfl rfl rfl (by decide +kernel) ⟨(Nat.le_of_ble_eq_true rfl), (Nat.le_of_ble_eq_true rfl)⟩) hE hP rfl rfl rfl hl.1 rfl (Nat.le_of_ble_eq_true rfl) dX3_isAbsent_37 ⟨Nat.zero_le _, Nat.zero_le _⟩ ?_
            refine lv_iload_n hx hb dX3_isAbsent_40 rfl (lv_at hl 2 rfl) ?_
            refine lv_icmp_ne (tgt := 48) hx hb dX3_isAbsent_41 (by decide) (fun c9 => ?_) (fun c9 => ?_)
            · have hf := q_ite_t c9 hf
              refine lv_iconst (v := 0) hx hb dX3_isAbsent_48 (by decide) ?_
              refine lv_istore_n (lv' := [(3, .int 0), (0, .ref (a 0)), (1, .int l1), (2, .int l2), (4, .int l4)]) hx hb dX3_isAbsent_49 rfl hl (by decide) rfl (fun ls hl => ?_)
              obtain ⟨v10, ev10, hf⟩ := q_let_go hf
              refine lv_iinc (v := v10) (lv' := [(4, .int v10), (3, .int 0), (0, .ref (a 0)), (1, .int l1), (2, .int l2)]) hx hb dX3_isAbsent_50 hl (k := 4) rfl (by rw [← ev10]; rfl) (by decide) rfl (fun ls hl => ?_)
              refine lv_goto (tgt := 5) hx hb dX3_isAbsent_53 (by decide) ?_
              exact ih l1 l2 0 v10 _ (lv_sub hl [2, 3, 4, 1, 0] rfl) hf
            · have hf := q_ite_n c9 hf
              refine lv_iconst (v := 1) hx hb dX3_isAbsent_44 (by decide) ?_
              refine lv_goto (tgt := 49) hx hb dX3_isAbsent_45 (by decide) ?_
              refine lv_istore_n (lv' := [(3, .int 1), (0, .ref (a 0)), (1, .int l1), (2, .int l2), (4, .int l4)]) hx hb dX3_isAbsent_49 rfl hl (by decide) rfl (fun ls hl => ?_)
              obtain ⟨v11, ev11, hf⟩ := q_let_go hf
              refine lv_iinc (v := v11) (lv' := [(4, .int v11), (3, .int 1), (0, .ref (a 0)), (1, .int l1), (2, .int l2)]) hx hb dX3_isAbsent_50 hl (k := 4) rfl (by rw [← ev11]; rfl) (by decide) rfl (fun ls hl => ?_)
              refine lv_goto (tgt := 5) hx hb dX3_isAbsent_53 (by decide) ?_
              exact ih l1 l2 1 v11 _ (lv_sub hl [2, 3, 4, 1, 0] rfl) hf
  have hl := lv_entry ([.ref (a 0), .int p1, .int p2]) (n := 5) (Nat.le_of_ble_eq_true rfl)
  rw [lg_entry_eq]
  generalize (lg_sl ([.ref (a 0), .int p1, .int p2]) ++ List.replicate (5 - (lg_sl ([.ref (a 0), .int p1, .int p2])).length) Slot.unset).toArray = ls at hl ⊢
  have hl : lv_has ls 5 [(0, .ref (a 0)), (1, .int p1), (2, .int p2)] := hl
  unfold f_X3_isAbsent at hf
  refine lv_iconst (v := 0) hx hb dX3_isAbsent_0 (by decide) ?_
  refine lv_istore_n (lv' := [(3, .int 0), (0, .ref (a 0)), (1, .int p1), (2, .int p2)]) hx hb dX3_isAbsent_1 rfl hl (by decide) rfl (fun ls hl => ?_)
  refine lv_iconst (v := 0) hx hb dX3_isAbsent_2 (by decide) ?_
  refine lv_istore (lv' := [(4, .int 0), (3, .int 0), (0, .ref (a 0)), (1, .int p1), (2, .int p2)]) hx hb dX3_isAbsent_3 hl (by decide) rfl (fun ls hl => ?_)
  exact L_5 2000 p1 p2 0 0 _ (lv_sub hl [2, 3, 4, 1, 0] rfl) hf
def f_X3_isCovered (S : MD) (p1 : Int32) : Option Int32 := (f_X3_ofA S p1 2).bind fun r1 =>
 if r1 = 1 then
 (some 1)
 else ((f_X3_ofA S p1 2).bind fun r3 =>
 if ¬ r3 = 2 then
 (some 0)
 else (some 1))
abbrev rX3_isCovered : Room := { frames := 1, cells := 0, slots := 0, locals := 22 }
set_option maxRecDepth 100000 in
set_option maxHeartbeats 4000000 in
theorem c_X3_isCovered (l : Launch) (D : va_G) (cI cJ cS : ClassId) (a : Nat → Nat) (S : MD) (p1 : Int32) (o : Int32) (hf : f_X3_isCovered S p1 = some o) : Met l yX3_isCovered wsX3_isCovered rX3_isCovered (va_Pc [.ref (a 0), .int p1] (q_B D cI cJ cS (wMD cI cJ a S))) (q_Ri o) 0 0 (fun _ => False) := by
  refine Met.ofW (cc := cX3_isCovered) (maxL := 2) (ret := some .boolean) (by decide) rfl ?_
  intro p e s m args below meth c s₁ B hml hv
  obtain ⟨rfl, hP, hE⟩ := hv
  have hx := B.exec
  have hb := B.bytes
  have hr := B.returns
  have hts := atoms_spec (ws := wsX3_isCovered) B.pre
  have hown : s.vm.findClass RX3 = some m.cls := findClass_of_methodNamed B.named
  have hlocks := B.notSynchronized
  have hl := lv_entry ([.ref (a 0), .int p1]) (n := 2) (Nat.le_of_ble_eq_true rfl)
  rw [lg_entry_eq]
  generalize (lg_sl ([.ref (a 0), .int p1]) ++ List.replicate (2 - (lg_sl ([.ref (a 0), .int p1])).length) Slot.unset).toArray = ls at hl ⊢
  have hl : lv_has ls 2 [(0, .ref (a 0)), (1, .int p1)] := hl
  unfold f_X3_isCovered at hf
  refine lv_aload_n hx hb dX3_isCovered_0 rfl (lv_at hl 0 rfl) ?_
  refine lv_iload_n hx hb dX3_isCovered_1 rfl (lv_at hl 1 rfl) ?_
  refine lv_iconst (v := 2) hx hb dX3_isCovered_2 (by decide) ?_
  obtain ⟨r1, hr1, hf⟩ := q_bd_go hf
  refine q_rdVi (ci := 3) (As := [.int p1, .int 2]) (rest := []) hx hb hml hown hts (c_X3_ofA l D cI cJ cS a S p1 2 _ hr1) (cwV 2 hts gX3_isCovered_X3_ofA rfl rfl rfl (by decide +kernel) ⟨(Nat.le_of_ble_eq_true rfl), (Nat.le_of_ble_eq_true rfl)⟩) hE hP rfl rfl rfl hl.1 rfl (Nat.le_of_ble_eq_true rfl) dX3_isCovered_3 ⟨Nat.zero_le _, Nat.zero_le _⟩ ?_
  refine lv_iconst (v := 1) hx hb dX3_isCovered_6 (by decide) ?_
  refine lv_icmp_eq (tgt := 20) hx hb dX3_isCovered_7 (by decide) (fun c2 => ?_) (fun c2 => ?_)
  · have hf := q_ite_t c2 hf
    refine lv_iconst (v := 1) hx hb dX3_isCovered_20 (by decide) ?_
    refine lv_goto (tgt := 25) hx hb dX3_isCovered_21 (by decide) ?_
    have ho := q_some hf
    subst ho
    exact W.zret hx hb hr rfl (fun t ht hW => ⟨rfl, ht⟩) t_nil dX3_isCovered_25
  · have hf := q_ite_f c2 hf
    refine lv_aload_n hx hb dX3_isCovered_10 rfl (lv_at hl 0 rfl) ?_
    refine lv_iload_n hx hb dX3_isCovered_11 rfl (lv_at hl 1 rfl) ?_
    refine lv_iconst (v := 2) hx hb dX3_isCovered_12 (by decide) ?_
    obtain ⟨r3, hr3, hf⟩ := q_bd_go hf
    refine q_rdVi (ci := 3) (As := [.int p1, .int 2]) (rest := []) hx hb hml hown hts (c_X3_ofA l D cI cJ cS a S p1 2 _ hr3) (cwV 2 hts gX3_isCovered_X3_ofA rfl rfl rfl (by decide +kernel) ⟨(Nat.le_of_ble_eq_true rfl), (Nat.le_of_ble_eq_true rfl)⟩) hE hP rfl rfl rfl hl.1 rfl (Nat.le_of_ble_eq_true rfl) dX3_isCovered_13 ⟨Nat.zero_le _, Nat.zero_le _⟩ ?_
    refine lv_iconst (v := 2) hx hb dX3_isCovered_16 (by decide) ?_
    refine lv_icmp_ne (tgt := 24) hx hb dX3_isCovered_17 (by decide) (fun c4 => ?_) (fun c4 => ?_)
    · have hf := q_ite_t c4 hf
      refine lv_iconst (v := 0) hx hb dX3_isCovered_24 (by decide) ?_
      have ho := q_some hf
      subst ho
      exact W.zret hx hb hr rfl (fun t ht hW => ⟨rfl, ht⟩) t_nil dX3_isCovered_25
    · have hf := q_ite_n c4 hf
      refine lv_iconst (v := 1) hx hb dX3_isCovered_20 (by decide) ?_
      refine lv_goto (tgt := 25) hx hb dX3_isCovered_21 (by decide) ?_
      have ho := q_some hf
      subst ho
      exact W.zret hx hb hr rfl (fun t ht hW => ⟨rfl, ht⟩) t_nil dX3_isCovered_25
def f_X3_coversIn_5 (S : MD) : Nat → Int32 → Int32 → Int32 → Int32 → Option Int32
  | 0, _, _, _, _ => none
  | n+1, l1, l2, l3, l4 => if q_in 4 420 = true then
 (if 0 ≤ (lg_cmp ((l4 : Int32).toInt64) (MD_now S (4 : Int32).toNatClampNeg)) then
 (if l3 = 0 ∨ l3 = 1 then some l3 else none)
 else (if ¬ l3 = 0 then
 (q_let (l4 + 1) fun v4 =>
 f_X3_coversIn_5 S n l1 l2 1 v4)
 else ((f_X3_isCovered S l4).bind fun r5 =>
 if r5 = 0 then
 (q_let (l4 + 1) fun v7 =>
 f_X3_coversIn_5 S n l1 l2 0 v7)
 else ((f_X3_ofA S l4 3).bind fun r8 =>
 if ¬ r8 = l1 then
 (q_let (l4 + 1) fun v10 =>
 f_X3_coversIn_5 S n l1 l2 0 v10)
 else ((f_X3_ofA S l4 1).bind fun r11 =>
 if ¬ r11 = l2 then
 (q_let (l4 + 1) fun v13 =>
 f_X3_coversIn_5 S n l1 l2 0 v13)
 else (q_let (l4 + 1) fun v14 =>
 f_X3_coversIn_5 S n l1 l2 1 v14)))))) else none
def f_X3_coversIn (S : MD) (p1 : Int32) (p2 : Int32) : Option Int32 := f_X3_coversIn_5 S 2000 p1 p2 0 0
abbrev rX3_coversIn : Room := { frames := 2, cells := 0, slots := 0, locals := 43 }
set_option maxRecDepth 100000 in
set_option maxHeartbeats 4000000 in
theorem c_X3_coversIn (l : Launch) (D : va_G) (cI cJ cS : ClassId) (a : Nat → Nat) (S : MD) (p1 : Int32) (p2 : Int32) (o : Int32) (hf : f_X3_coversIn S p1 p2 = some o) : Met l yX3_coversIn wsX3_coversIn rX3_coversIn (va_Pc [.ref (a 0), .int p1, .int p2] (q_B D cI cJ cS (wMD cI cJ a S))) (q_Ri o) 0 0 (fun _ => False) := by
  refine Met.ofW (cc := cX3_coversIn) (maxL := 5) (ret := some .boolean) (by decide) rfl ?_
  intro p e s m args below meth c s₁ B hml hv
  obtain ⟨rfl, hP, hE⟩ := hv
  have hx := B.exec
  have hb := B.bytes
  have hr := B.returns
  have hts := atoms_spec (ws := wsX3_coversIn) B.pre
  have hown : s.vm.findClass RX3 = some m.cls := findClass_of_methodNamed B.named
  have hlocks := B.notSynchronized
  have hu : ∀ z ∈ wsX30, z.before _ s = true := fun z h => hts z (List.mem_cons_of_mem _ (List.mem_append_right _ h))
  have L_5 : ∀ (n : Nat) (l1 : Int32) (l2 : Int32) (l3 : Int32) (l4 : Int32) (ls : Array Slot), lv_has ls 5 [(0, .ref (a 0)), (1, .int l1), (2, .int l2), (3, .int l3), (4, .int l4)] → f_X3_coversIn_5 S n l1 l2 l3 l4 = some o → W p l e (headSpec wsX3_coversIn rX3_coversIn).room s m (([.ref (a 0), .int p1, .int p2] : List Value).toArray) below meth c s.heap [] 0 0 (MQ below (q_Ri o) (([.ref (a 0), .int p1, .int p2] : List Value).toArray) s 0 0 (fun _ => False)) (F0 m 5 ls []) := by
    intro n
    induction n with
    | zero => intro l1 l2 l3 l4 ls hl hf; cases hf
    | succ n ih =>
      intro l1 l2 l3 l4 ls hl hf
      rw [f_X3_coversIn_5] at hf
      refine lv_iload hx hb dX3_coversIn_5 (lv_at hl 4 rfl) ?_
      refine lv_i2l (v := ((l4 : Int32).toInt64)) hx hb dX3_coversIn_7 rfl ?_
      refine lv_aload_n hx hb dX3_coversIn_8 rfl (lv_at hl 0 rfl) ?_
      refine va_get (D := D) (ci := 3) (v := .ref (a 1)) (C := RX3) (T := TX3) (N := 15) hx hb hu (fun _ h => h) hown hE.1 hP 0 rfl rfl 0 (Nat.le_of_ble_eq_true rfl) (hts (.fieldLink RX3 7 "CoverMeterModel" "now" "[J") (List.mem_of_getElem? (i := 1) rfl)) (fun _ h9 => h9) rfl dX3_coversIn_9 ?_
      refine lv_iconst (v := 4) hx hb dX3_coversIn_12 (by decide) ?_
      have hi1 := q_gd_in hf
      have hf := q_gd_go hf
      refine va_lald hx hb hE.1 hP 1 1 rfl rfl hi1 dX3_coversIn_13 ?_
      refine W.lcmp hx hb dX3_coversIn_14 ?_
      refine lv_if_ge (tgt := 65) hx hb dX3_coversIn_15 (by decide) (fun c2 => ?_) (fun c2 => ?_)
      · have hf := q_ite_t c2 hf
        refine lv_iload_n hx hb dX3_coversIn_65 rfl (lv_at hl 3 rfl) ?_
        have hbo := q_gc_in hf
        have hf := q_ite_t hbo hf
        have ho := q_some hf
        subst ho
        exact W.zret hx hb hr (q_nz hbo) (fun t ht hW => ⟨rfl, ht⟩) t_nil dX3_coversIn_66
      · have hf := q_ite_f c2 hf
        refine lv_iload_n hx hb dX3_coversIn_18 rfl (lv_at hl 3 rfl) ?_
        refine lv_if_ne (tgt := 53) hx hb dX3_coversIn_19 (by decide) (fun c3 => ?_) (fun c3 => ?_)
        · have hf := q_ite_t c3 hf
          refine lv_iconst (v := 1) hx hb dX3_coversIn_53 (by decide) ?_
          refine lv_goto (tgt := 58) hx hb dX3_coversIn_54 (by decide) ?_
          refine lv_istore_n (lv' := [(3, .int 1), (0, .ref (a 0)), (1, .int l1), (2, .int l2), (4, .int l4)]) hx hb dX3_coversIn_58 rfl hl (by decide) rfl (fun ls hl => ?_)
          obtain ⟨v4, ev4, hf⟩ := q_let_go hf
          refine lv_iinc (v := v4) (lv' := [(4, .int v4), (3, .int 1), (0, .ref (a 0)), (1, .int l1), (2, .int l2)]) hx hb dX3_coversIn_59 hl (k := 4) rfl (by rw [← ev4]; rfl) (by decide) rfl (fun ls hl => ?_)
          refine lv_goto (tgt := 5) hx hb dX3_coversIn_62 (by decide) ?_
          exact ih l1 l2 1 v4 _ (lv_sub hl [2, 3, 4, 1, 0] rfl) hf
        · have hf := q_ite_n c3 hf
          refine lv_aload_n hx hb dX3_coversIn_22 rfl (lv_at hl 0 rfl) ?_
          refine lv_iload hx hb dX3_coversIn_23 (lv_at hl 4 rfl) ?_
          obtain ⟨r5, hr5, hf⟩ := q_bd_go hf
          refine q_rdVi (ci := 3) (As := [.int l4]) (rest := []) hx hb hml hown hts (c_X3_isCovered l D cI cJ cS a S l4 _ hr5) (cwV 1 hts gX3_coversIn_X3_isCovered rfl rfl rfl (by decide +kernel) ⟨(Nat.le_of_ble_eq_true rfl), (Nat.le_of_ble_eq_true rfl)⟩) hE hP rfl rfl rfl hl.1 rfl (Nat.le_of_ble_eq_true rfl) dX3_coversIn_25 ⟨Nat.zero_le _, Nat.zero_le _⟩ ?_
          refine lv_if_eq (tgt := 57) hx hb dX3_coversIn_28 (by decide) (fun c6 => ?_) (fun c6 => ?_)
          · have hf := q_ite_t c6 hf
            refine lv_iconst (v := 0) hx hb dX3_coversIn_57 (by decide) ?_
            refine lv_istore_n (lv' := [(3, .int 0), (0, .ref (a 0)), (1, .int l1), (2, .int l2), (4, .int l4)]) hx hb dX3_coversIn_58 rfl hl (by decide) rfl (fun ls hl => ?_)
            obtain ⟨v7, ev7, hf⟩ := q_let_go hf
            refine lv_iinc (v := v7) (lv' := [(4, .int v7), (3, .int 0), (0, .ref (a 0)), (1, .int l1), (2, .int l2)]) hx hb dX3_coversIn_59 hl (k := 4) rfl (by rw [← ev7]; rfl) (by decide) rfl (fun ls hl => ?_)
            refine lv_goto (tgt := 5) hx hb dX3_coversIn_62 (by decide) ?_
            exact ih l1 l2 0 v7 _ (lv_sub hl [2, 3, 4, 1, 0] rfl) hf
          · have hf := q_ite_f c6 hf
            refine lv_aload_n hx hb dX3_coversIn_31 rfl (lv_at hl 0 rfl) ?_
            refine lv_iload hx hb dX3_coversIn_32 (lv_at hl 4 rfl) ?_
            refine lv_iconst (v := 3) hx hb dX3_coversIn_34 (by decide) ?_
            obtain ⟨r8, hr8, hf⟩ := q_bd_go hf
            refine q_rdVi (ci := 3) (As := [.int l4, .int 3]) (rest := []) hx hb hml hown hts (c_X3_ofA l D cI cJ cS a S l4 3 _ hr8) (cwV 2 hts gX3_coversIn_X3_ofA rfl rfl rfl (by decide +kernel) ⟨(Nat.le_of_ble_eq_true rfl), (Nat.le_of_ble_eq_true rfl)⟩) hE hP rfl rfl rfl hl.1 rfl (Nat.le_of_ble_eq_true rfl) dX3_coversIn_35 ⟨Nat.zero_le _, Nat.zero_le _⟩ ?_
            refine lv_iload_n hx hb dX3_coversIn_38 rfl (lv_at hl 1 rfl) ?_
            refine lv_icmp_ne (tgt := 57) hx hb dX3_coversIn_39 (by decide) (fun c9 => ?_) (fun c9 => ?_)
            · have hf := q_ite_t c9 hf
              refine lv_iconst (v := 0) hx hb dX3_coversIn_57 (by decide) ?_
              refine lv_istore_n (lv' := [(3, .int 0), (0, .ref (a 0)), (1, .int l1), (2, .int l2), (4, .int l4)]) hx hb dX3_coversIn_58 rfl hl (by decide) rfl (fun ls hl => ?_)
              obtain ⟨v10, ev10, hf⟩ := q_let_go hf
              refine lv_iinc (v := v10) (lv' := [(4, .int v10), (3, .int 0), (0, .ref (a 0)), (1, .int l1), (2, .int l2)]) hx hb dX3_coversIn_59 hl (k := 4) rfl (by rw [← ev10]; rfl) (by decide) rfl (fun ls hl => ?_)
              refine lv_goto (tgt := 5) hx hb dX3_coversIn_62 (by decide) ?_
              exact ih l1 l2 0 v10 _ (lv_sub hl [2, 3, 4, 1, 0] rfl) hf
            · have hf := q_ite_n c9 hf
              refine lv_aload_n hx hb dX3_coversIn_42 rfl (lv_at hl 0 rfl) ?_
              refine lv_iload hx hb dX3_coversIn_43 (lv_at hl 4 rfl) ?_
              refine lv_iconst (v := 1) hx hb dX3_coversIn_45 (by decide) ?_
              obtain ⟨r11, hr11, hf⟩ := q_bd_go hf
              refine q_rdVi (ci := 3) (As := [.int l4, .int 1]) (rest := []) hx hb hml hown hts (c_X3_ofA l D cI cJ cS a S l4 1 _ hr11) (cwV 2 hts gX3_coversIn_X3_ofA rfl rfl rfl (by decide +kernel) ⟨(Nat.le_of_ble_eq_true rfl), (Nat.le_of_ble_eq_true rfl)⟩) hE hP rfl rfl rfl hl.1 rfl (Nat.le_of_ble_eq_true rfl) dX3_coversIn_46 ⟨Nat.zero_le _, Nat.zero_le _⟩ ?_
              refine lv_iload_n hx hb dX3_coversIn_49 rfl (lv_at hl 2 rfl) ?_
              refine lv_icmp_ne (tgt := 57) hx hb dX3_coversIn_50 (by decide) (fun c12 => ?_) (fun c12 => ?_)
              · have hf := q_ite_t c12 hf
                refine lv_iconst (v := 0) hx hb dX3_coversIn_57 (by decide) ?_
                refine lv_istore_n (lv' := [(3, .int 0), (0, .ref (a 0)), (1, .int l1), (2, .int l2), (4, .int l4)]) hx hb dX3_coversIn_58 rfl hl (by decide) rfl (fun ls hl => ?_)
                obtain ⟨v13, ev13, hf⟩ := q_let_go hf
                refine lv_iinc (v := v13) (lv' := [(4, .int v13), (3, .int 0), (0, .ref (a 0)), (1, .int l1), (2, .int l2)]) hx hb dX3_coversIn_59 hl (k := 4) rfl (by rw [← ev13]; rfl) (by decide) rfl (fun ls hl => ?_)
                refine lv_goto (tgt := 5) hx hb dX3_coversIn_62 (by decide) ?_
                exact ih l1 l2 0 v13 _ (lv_sub hl [2, 3, 4, 1, 0] rfl) hf
              · have hf := q_ite_n c12 hf
                refine lv_iconst (v := 1) hx hb dX3_coversIn_53 (by decide) ?_
                refine lv_goto (tgt := 58) hx hb dX3_coversIn_54 (by decide) ?_
                refine lv_istore_n (lv' := [(3, .int 1), (0, .ref (a 0)), (1, .int l1), (2, .int l2), (4, .int l4)]) hx hb dX3_coversIn_58 rfl hl (by decide) rfl (fun ls hl => ?_)
                obtain ⟨v14, ev14, hf⟩ := q_let_go hf
                refine lv_iinc (v := v14) (lv' := [(4, .int v14), (3, .int 1), (0, .ref (a 0)), (1, .int l1), (2, .int l2)]) hx hb dX3_coversIn_59 hl (k := 4) rfl (by rw [← ev14]; rfl) (by decide) rfl (fun ls hl => ?_)
                refine lv_goto (tgt := 5) hx hb dX3_coversIn_62 (by decide) ?_
                exact ih l1 l2 1 v14 _ (lv_sub hl [2, 3, 4, 1, 0] rfl) hf
  have hl := lv_entry ([.ref (a 0), .int p1, .int p2]) (n := 5) (Nat.le_of_ble_eq_true rfl)
  rw [lg_entry_eq]
  generalize (lg_sl ([.ref (a 0), .int p1, .int p2]) ++ List.replicate (5 - (lg_sl ([.ref (a 0), .int p1, .int p2])).length) Slot.unset).toArray = ls at hl ⊢
  have hl : lv_has ls 5 [(0, .ref (a 0)), (1, .int p1), (2, .int p2)] := hl
  unfold f_X3_coversIn at hf
  refine lv_iconst (v := 0) hx hb dX3_coversIn_0 (by decide) ?_
  refine lv_istore_n (lv' := [(3, .int 0), (0, .ref (a 0)), (1, .int p1), (2, .int p2)]) hx hb dX3_coversIn_1 rfl hl (by decide) rfl (fun ls hl => ?_)
  refine lv_iconst (v := 0) hx hb dX3_coversIn_2 (by decide) ?_
  refine lv_istore (lv' := [(4, .int 0), (3, .int 0), (0, .ref (a 0)), (1, .int p1), (2, .int p2)]) hx hb dX3_coversIn_3 hl (by decide) rfl (fun ls hl => ?_)
  exact L_5 2000 p1 p2 0 0 _ (lv_sub hl [2, 3, 4, 1, 0] rfl) hf
