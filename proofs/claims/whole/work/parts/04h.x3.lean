def f_X3_isHere (S : MD) (p1 : Int32) (p2 : Int32) : Option Int32 := if (MD_length S) ≤ (MD_at S) then
 (some 0)
 else (if q_in (MD_at S) 100 = true then
 ((f_X3_isIn (((MD_text S ((MD_at S) : Int32).toNatClampNeg) : Int32).toInt64) ((p1 : Int32).toInt64) ((p2 : Int32).toInt64)).bind fun r3 =>
 if r3 = 0 then
 (some 0)
 else (some 1)) else none)
abbrev rX3_isHere : Room := { frames := 1, cells := 0, slots := 0, locals := 25 }
set_option maxRecDepth 100000 in
set_option maxHeartbeats 4000000 in
theorem c_X3_isHere (l : Launch) (D : va_G) (cI cJ cS : ClassId) (a : Nat → Nat) (S : MD) (p1 : Int32) (p2 : Int32) (o : Int32) (hf : f_X3_isHere S p1 p2 = some o) : Met l yX3_isHere wsX3_isHere rX3_isHere (va_Pc [.ref (a 0), .int p1, .int p2] (q_B D cI cJ cS (wMD cI cJ a S))) (q_Ri o) 0 0 (fun _ => False) := by
  refine Met.ofW (cc := cX3_isHere) (maxL := 3) (ret := some .boolean) (by decide) rfl ?_
  intro p e s m args below meth c s₁ B hml hv
  obtain ⟨rfl, hP, hE⟩ := hv
  have hx := B.exec
  have hb := B.bytes
  have hr := B.returns
  have hts := atoms_spec (ws := wsX3_isHere) B.pre
  have hown : s.vm.findClass RX3 = some m.cls := findClass_of_methodNamed B.named
  have hlocks := B.notSynchronized
  have hu : ∀ z ∈ wsX30, z.before _ s = true := fun z h => hts z (List.mem_cons_of_mem _ (List.mem_append_right _ h))
  have hl := lv_entry ([.ref (a 0), .int p1, .int p2]) (n := 3) (Nat.le_of_ble_eq_true rfl)
  rw [lg_entry_eq]
  generalize (lg_sl ([.ref (a 0), .int p1, .int p2]) ++ List.replicate (3 - (lg_sl ([.ref (a 0), .int p1, .int p2])).length) Slot.unset).toArray = ls at hl ⊢
  have hl : lv_has ls 3 [(0, .ref (a 0)), (1, .int p1), (2, .int p2)] := hl
  unfold f_X3_isHere at hf
  refine lv_aload_n hx hb dX3_isHere_0 rfl (lv_at hl 0 rfl) ?_
  refine va_get (D := D) (ci := 3) (v := .int (MD_at S)) (C := RX3) (T := TX3) (N := 15) hx hb hu (fun _ h => h) hown hE.1 hP 0 rfl rfl 6 (Nat.le_of_ble_eq_true rfl) (hts (.fieldLink RX3 200 "CoverMeterModel" "at" "I") (List.mem_of_getElem? (i := 1) rfl)) (fun _ h9 => h9) rfl dX3_isHere_1 ?_
  refine lv_aload_n hx hb dX3_isHere_4 rfl (lv_at hl 0 rfl) ?_
  refine va_get (D := D) (ci := 3) (v := .int (MD_length S)) (C := RX3) (T := TX3) (N := 15) hx hb hu (fun _ h => h) hown hE.1 hP 0 rfl rfl 5 (Nat.le_of_ble_eq_true rfl) (hts (.fieldLink RX3 197 "CoverMeterModel" "length" "I") (List.mem_of_getElem? (i := 2) rfl)) (fun _ h9 => h9) rfl dX3_isHere_5 ?_
  refine lv_icmp_ge (tgt := 35) hx hb dX3_isHere_8 (by decide) (fun c1 => ?_) (fun c1 => ?_)
  · have hf := q_ite_t c1 hf
    refine lv_iconst (v := 0) hx hb dX3_isHere_35 (by decide) ?_
    have ho := q_some hf
    subst ho
    exact W.zret hx hb hr rfl (fun t ht hW => ⟨rfl, ht⟩) t_nil dX3_isHere_36
  · have hf := q_ite_f c1 hf
    refine lv_aload_n hx hb dX3_isHere_11 rfl (lv_at hl 0 rfl) ?_
    refine va_get (D := D) (ci := 3) (v := .ref (a 3)) (C := RX3) (T := TX3) (N := 15) hx hb hu (fun _ h => h) hown hE.1 hP 0 rfl rfl 4 (Nat.le_of_ble_eq_true rfl) (hts (.fieldLink RX3 16 "CoverMeterModel" "text" "[I") (List.mem_of_getElem? (i := 3) rfl)) (fun _ h9 => h9) rfl dX3_isHere_12 ?_
    refine lv_aload_n hx hb dX3_isHere_15 rfl (lv_at hl 0 rfl) ?_
    refine va_get (D := D) (ci := 3) (v := .int (MD_at S)) (C := RX3) (T := TX3) (N := 15) hx hb hu (fun _ h => h) hown hE.1 hP 0 rfl rfl 6 (Nat.le_of_ble_eq_true rfl) (hts (.fieldLink RX3 200 "CoverMeterModel" "at" "I") (List.mem_of_getElem? (i := 1) rfl)) (fun _ h9 => h9) rfl dX3_isHere_16 ?_
    have hi2 := q_gd_in hf
    have hf := q_gd_go hf
    refine va_iald hx hb hE.1 hP 3 0 rfl rfl hi2 dX3_isHere_19 ?_
    refine lv_i2l (v := (((MD_text S ((MD_at S) : Int32).toNatClampNeg) : Int32).toInt64)) hx hb dX3_isHere_20 rfl ?_
    refine lv_iload_n hx hb dX3_isHere_21 rfl (lv_at hl 1 rfl) ?_
    refine lv_i2l (v := ((p1 : Int32).toInt64)) hx hb dX3_isHere_22 rfl ?_
    refine lv_iload_n hx hb dX3_isHere_23 rfl (lv_at hl 2 rfl) ?_
    refine lv_i2l (v := ((p2 : Int32).toInt64)) hx hb dX3_isHere_24 rfl ?_
    obtain ⟨r3, hr3, hf⟩ := q_bd_go hf
    refine q_rdSi (As := [.long (((MD_text S ((MD_at S) : Int32).toNatClampNeg) : Int32).toInt64), .long ((p1 : Int32).toInt64), .long ((p2 : Int32).toInt64)]) (rest := []) hx hb hml hown hts (c_X3_isIn l D cI cJ cS (((MD_text S ((MD_at S) : Int32).toNatClampNeg) : Int32).toInt64) ((p1 : Int32).toInt64) ((p2 : Int32).toInt64) _ hr3) (va_cwS 3 hts gX3_isHere_X3_isIn rfl rfl rfl (by decide +kernel) ⟨(Nat.le_of_ble_eq_true rfl), (Nat.le_of_ble_eq_true rfl)⟩) hE rfl hl.1 rfl (Nat.le_of_ble_eq_true rfl) dX3_isHere_25 ⟨Nat.zero_le _, Nat.zero_le _⟩ ?_
    refine lv_if_eq (tgt := 35) hx hb dX3_isHere_28 (by decide) (fun c4 => ?_) (fun c4 => ?_)
    · have hf := q_ite_t c4 hf
      refine lv_iconst (v := 0) hx hb dX3_isHere_35 (by decide) ?_
      have ho := q_some hf
      subst ho
      exact W.zret hx hb hr rfl (fun t ht hW => ⟨rfl, ht⟩) t_nil dX3_isHere_36
    · have hf := q_ite_f c4 hf
      refine lv_iconst (v := 1) hx hb dX3_isHere_31 (by decide) ?_
      refine lv_goto (tgt := 36) hx hb dX3_isHere_32 (by decide) ?_
      have ho := q_some hf
      subst ho
      exact W.zret hx hb hr rfl (fun t ht hW => ⟨rfl, ht⟩) t_nil dX3_isHere_36
def f_X3_passes (S : MD) (p1 : Int32) (p2 : Int32) : Option (Int32 × MD) := (f_X3_isHere S p1 p2).bind fun r1 =>
 if ¬ r1 = 0 then
 (if q_in (MD_at S) 100 = true then
 (q_let (sMD_number S ((MD_text S ((MD_at S) : Int32).toNatClampNeg) - 48)) fun S4 =>
 q_let (sMD_at S4 ((MD_at S4) + 1)) fun S5 =>
 some (1, S5)) else none)
 else (some (0, S))
abbrev rX3_passes : Room := { frames := 2, cells := 0, slots := 0, locals := 47 }
set_option maxRecDepth 100000 in
set_option maxHeartbeats 4000000 in
theorem c_X3_passes (l : Launch) (D : va_G) (cI cJ cS : ClassId) (a : Nat → Nat) (S : MD) (sz : Nat) (p1 : Int32) (p2 : Int32) (o : (Int32 × MD)) (hf : f_X3_passes S p1 p2 = some o) : Met l yX3_passes wsX3_passes rX3_passes (va_Pc [.ref (a 0), .int p1, .int p2] (q_BW D cI cJ cS (wMD cI cJ a S) sz)) (q_Wo (some (.int o.1)) D (wMD cI cJ a S) (wMD cI cJ a o.2) sz) 0 0 (va_A (wMD cI cJ a S) sz) := by
  refine Met.ofW (cc := cX3_passes) (maxL := 3) (ret := some .boolean) (by decide) rfl ?_
  intro p e s m args below meth c s₁ B hml hv
  obtain ⟨rfl, hsz, hP, hE, hD0⟩ := hv
  have hx := B.exec
  have hb := B.bytes
  have hr := B.returns
  have hts := atoms_spec (ws := wsX3_passes) B.pre
  have hown : s.vm.findClass RX3 = some m.cls := findClass_of_methodNamed B.named
  have hlocks := B.notSynchronized
  have hu : ∀ z ∈ wsX30, z.before _ s = true := fun z h => hts z (List.mem_cons_of_mem _ (List.mem_append_right _ h))
  subst hsz
  have hD := hD0.self (sz := s.heap.size)
  have hS : va_S (va_A (wMD cI cJ a S) s.heap.size) s.heap s.heap [] := va_S.rf
  have hl := lv_entry ([.ref (a 0), .int p1, .int p2]) (n := 3) (Nat.le_of_ble_eq_true rfl)
  rw [lg_entry_eq]
  generalize (lg_sl ([.ref (a 0), .int p1, .int p2]) ++ List.replicate (3 - (lg_sl ([.ref (a 0), .int p1, .int p2])).length) Slot.unset).toArray = ls at hl ⊢
  have hl : lv_has ls 3 [(0, .ref (a 0)), (1, .int p1), (2, .int p2)] := hl
  unfold f_X3_passes at hf
  refine lv_aload_n hx hb dX3_passes_0 rfl (lv_at hl 0 rfl) ?_
  refine lv_iload_n hx hb dX3_passes_1 rfl (lv_at hl 1 rfl) ?_
  refine lv_iload_n hx hb dX3_passes_2 rfl (lv_at hl 2 rfl) ?_
  obtain ⟨r1, hr1, hf⟩ := q_bd_go hf
  refine q_rdVi (ci := 3) (As := [.int p1, .int p2]) (rest := []) hx hb hml hown hts (c_X3_isHere l D cI cJ cS a S p1 p2 _ hr1) (cwV 2 hts gX3_passes_X3_isHere rfl rfl rfl (by decide +kernel) ⟨(Nat.le_of_ble_eq_true rfl), (Nat.le_of_ble_eq_true rfl)⟩) hE hP rfl rfl rfl hl.1 rfl (Nat.le_of_ble_eq_true rfl) dX3_passes_3 ⟨Nat.zero_le _, Nat.zero_le _⟩ ?_
  refine lv_if_ne (tgt := 11) hx hb dX3_passes_6 (by decide) (fun c2 => ?_) (fun c2 => ?_)
  · have hf := q_ite_t c2 hf
    refine lv_aload_n hx hb dX3_passes_11 rfl (lv_at hl 0 rfl) ?_
    refine lv_aload_n hx hb dX3_passes_12 rfl (lv_at hl 0 rfl) ?_
    refine va_get (D := D) (ci := 3) (v := .ref (a 3)) (C := RX3) (T := TX3) (N := 15) hx hb hu (fun _ h => h) hown hE.1 hP 0 rfl rfl 4 (Nat.le_of_ble_eq_true rfl) (hts (.fieldLink RX3 16 "CoverMeterModel" "text" "[I") (List.mem_of_getElem? (i := 1) rfl)) (fun _ h9 => h9) rfl dX3_passes_13 ?_
    refine lv_aload_n hx hb dX3_passes_16 rfl (lv_at hl 0 rfl) ?_
    refine va_get (D := D) (ci := 3) (v := .int (MD_at S)) (C := RX3) (T := TX3) (N := 15) hx hb hu (fun _ h => h) hown hE.1 hP 0 rfl rfl 6 (Nat.le_of_ble_eq_true rfl) (hts (.fieldLink RX3 200 "CoverMeterModel" "at" "I") (List.mem_of_getElem? (i := 2) rfl)) (fun _ h9 => h9) rfl dX3_passes_17 ?_
    have hi3 := q_gd_in hf
    have hf := q_gd_go hf
    refine va_iald hx hb hE.1 hP 3 0 rfl rfl hi3 dX3_passes_20 ?_
    refine lv_bipush (v := 48) hx hb dX3_passes_21 (by decide) ?_
    refine lv_isub hx hb dX3_passes_23 ?_
    obtain ⟨S4, eS4, hf⟩ := q_let_go hf
    refine va_put (D := D) (ci := 3) (v := .int ((MD_text S ((MD_at S) : Int32).toNatClampNeg) - 48)) (ty := .int) (C := RX3) (T := TX3) (N := 15) hx hb hu (fun _ h => h) tyX3 tyX3_ok nmX3 hown hE.1 hP hD hS 0 rfl rfl 8 (Nat.le_of_ble_eq_true rfl) (hts (.fieldLink RX3 206 "CoverMeterModel" "number" "I") (List.mem_of_getElem? (i := 3) rfl)) (fun _ h9 => h9) rfl (by decide +kernel) rfl rfl (Nat.le_of_ble_eq_true rfl) dX3_passes_24 (fun H locs hP hD hS => ?_)
    have hP : va_P D vwCl (wMD cI cJ a (sMD_number S ((MD_text S ((MD_at S) : Int32).toNatClampNeg) - 48))) H := hP
    have hD : va_D (va_A (wMD cI cJ a S) s.heap.size) (wMD cI cJ a (sMD_number S ((MD_text S ((MD_at S) : Int32).toNatClampNeg) - 48))) := hD
    rw [eS4] at hP hD
    refine lv_aload_n hx hb dX3_passes_27 rfl (lv_at hl 0 rfl) ?_
    refine lv_dup hx hb dX3_passes_28 rfl ?_
    refine va_get (D := D) (ci := 3) (v := .int (MD_at S4)) (C := RX3) (T := TX3) (N := 15) hx hb hu (fun _ h => h) hown hE.1 hP 0 rfl rfl 6 (Nat.le_of_ble_eq_true rfl) (hts (.fieldLink RX3 200 "CoverMeterModel" "at" "I") (List.mem_of_getElem? (i := 2) rfl)) (fun _ h9 => h9) rfl dX3_passes_29 ?_
    refine lv_iconst (v := 1) hx hb dX3_passes_32 (by decide) ?_
    refine lv_iadd hx hb dX3_passes_33 ?_
    obtain ⟨S5, eS5, hf⟩ := q_let_go hf
    refine va_put (D := D) (ci := 3) (v := .int ((MD_at S4) + 1)) (ty := .int) (C := RX3) (T := TX3) (N := 15) hx hb hu (fun _ h => h) tyX3 tyX3_ok nmX3 hown hE.1 hP hD hS 0 rfl rfl 6 (Nat.le_of_ble_eq_true rfl) (hts (.fieldLink RX3 200 "CoverMeterModel" "at" "I") (List.mem_of_getElem? (i := 2) rfl)) (fun _ h9 => h9) rfl (by decide +kernel) rfl rfl (Nat.le_of_ble_eq_true rfl) dX3_passes_34 (fun H locs hP hD hS => ?_)
    have hP : va_P D vwCl (wMD cI cJ a (sMD_at S4 ((MD_at S4) + 1))) H := hP
    have hD : va_D (va_A (wMD cI cJ a S) s.heap.size) (wMD cI cJ a (sMD_at S4 ((MD_at S4) + 1))) := hD
    rw [eS5] at hP hD
    refine lv_iconst (v := 1) hx hb dX3_passes_37 (by decide) ?_
    have ho := q_some hf
    subst ho
    exact W.zret hx hb hr rfl (fun t ht hW => ⟨rfl, ⟨by rw [ht]; exact hP, hD⟩, hS.F ht⟩) hS.2.2 dX3_passes_38
  · have hf := q_ite_n c2 hf
    refine lv_iconst (v := 0) hx hb dX3_passes_9 (by decide) ?_
    have ho := q_some hf
    subst ho
    exact W.zret hx hb hr rfl (fun t ht hW => ⟨rfl, ⟨by rw [ht]; exact hP, hD⟩, hS.F ht⟩) hS.2.2 dX3_passes_10
def f_X3_passesNumber_47 (Sz : MD) (l1 : Int32) (l2 : Int32) : Option (Int32 × MD) := (f_X3_isHere Sz 48 57).bind fun r7 =>
 if r7 = 0 then
 (if l2 ≤ l1 then
 (q_let (sMD_number Sz l2) fun S10 =>
 some (1, S10))
 else (q_let (sMD_at Sz (MD_from Sz)) fun S11 =>
 some (0, S11)))
 else (some (0, Sz))
def f_X3_passesNumber (S : MD) (p1 : Int32) : Option (Int32 × MD) := q_let (sMD_from S (MD_at S)) fun S1 =>
 (f_X3_passes S1 48 57).bind fun r2 =>
 if ¬ r2.1 = 0 then
 (q_let ((MD_number r2.2)) fun v4 =>
 (f_X3_passes r2.2 48 57).bind fun r5 =>
 if r5.1 = 0 then
 (f_X3_passesNumber_47 r5.2 p1 v4)
 else (q_let (((10 * v4) + (MD_number r5.2))) fun v12 =>
 f_X3_passesNumber_47 r5.2 p1 v12))
 else (some (0, r2.2))
abbrev rX3_passesNumber : Room := { frames := 3, cells := 0, slots := 0, locals := 69 }
set_option maxRecDepth 100000 in
set_option maxHeartbeats 4000000 in
theorem c_X3_passesNumber (l : Launch) (D : va_G) (cI cJ cS : ClassId) (a : Nat → Nat) (S : MD) (sz : Nat) (p1 : Int32) (o : (Int32 × MD)) (hf : f_X3_passesNumber S p1 = some o) : Met l yX3_passesNumber wsX3_passesNumber rX3_passesNumber (va_Pc [.ref (a 0), .int p1] (q_BW D cI cJ cS (wMD cI cJ a S) sz)) (q_Wo (some (.int o.1)) D (wMD cI cJ a S) (wMD cI cJ a o.2) sz) 0 0 (va_A (wMD cI cJ a S) sz) := by
  refine Met.ofW (cc := cX3_passesNumber) (maxL := 3) (ret := some .boolean) (by decide) rfl ?_
  intro p e s m args below meth c s₁ B hml hv
  obtain ⟨rfl, hsz, hP, hE, hD0⟩ := hv
  have hx := B.exec
  have hb := B.bytes
  have hr := B.returns
  have hts := atoms_spec (ws := wsX3_passesNumber) B.pre
  have hown : s.vm.findClass RX3 = some m.cls := findClass_of_methodNamed B.named
  have hlocks := B.notSynchronized
  have hu : ∀ z ∈ wsX30, z.before _ s = true := fun z h => hts z (List.mem_cons_of_mem _ (List.mem_append_right _ h))
  subst hsz
  have hD := hD0.self (sz := s.heap.size)
  have hS : va_S (va_A (wMD cI cJ a S) s.heap.size) s.heap s.heap [] := va_S.rf
  have B_47 : ∀ (Sz : MD) (H : Heap) (locs : List Loc) (hP : va_P D vwCl (wMD cI cJ a Sz) H) (hD : va_D (va_A (wMD cI cJ a S) s.heap.size) (wMD cI cJ a Sz)) (hS : va_S (va_A (wMD cI cJ a S) s.heap.size) s.heap H locs) (l1 : Int32) (l2 : Int32) (ls : Array Slot), lv_has ls 3 [(0, .ref (a 0)), (1, .int l1), (2, .int l2)] → f_X3_passesNumber_47 Sz l1 l2 = some o → W p l e (headSpec wsX3_passesNumber rX3_passesNumber).room s m (([.ref (a 0), .int p1] : List Value).toArray) below meth c H locs 0 0 (MQ below (q_Wo (some (.int o.1)) D (wMD cI cJ a S) (wMD cI cJ a o.2) s.heap.size) (([.ref (a 0), .int p1] : List Value).toArray) s 0 0 (va_A (wMD cI cJ a S) s.heap.size)) (F0 m 47 ls []) := by
    intro Sz H locs hP hD hS l1 l2 ls hl hf
    unfold f_X3_passesNumber_47 at hf
    refine lv_aload_n hx hb dX3_passesNumber_47 rfl (lv_at hl 0 rfl) ?_
    refine lv_bipush (v := 48) hx hb dX3_passesNumber_48 (by decide) ?_
    refine lv_bipush (v := 57) hx hb dX3_passesNumber_50 (by decide) ?_
    obtain ⟨r7, hr7, hf⟩ := q_bd_go hf
    refine q_rdVi (ci := 3) (As := [.int 48, .int 57]) (rest := []) hx hb hml hown hts (c_X3_isHere l D cI cJ cS a Sz 48 57 _ hr7) (cwV 2 hts gX3_passesNumber_X3_isHere rfl rfl rfl (by decide +kernel) ⟨(Nat.le_of_ble_eq_true rfl), (Nat.le_of_ble_eq_true rfl)⟩) hE hP rfl rfl rfl hl.1 rfl (Nat.le_of_ble_eq_true rfl) dX3_passesNumber_52 ⟨Nat.zero_le _, Nat.zero_le _⟩ ?_
    refine lv_if_eq (tgt := 60) hx hb dX3_passesNumber_55 (by decide) (fun c8 => ?_) (fun c8 => ?_)
    · have hf := q_ite_t c8 hf
      refine lv_iload_n hx hb dX3_passesNumber_60 rfl (lv_at hl 2 rfl) ?_
      refine lv_iload_n hx hb dX3_passesNumber_61 rfl (lv_at hl 1 rfl) ?_
      refine lv_icmp_le (tgt := 75) hx hb dX3_passesNumber_62 (by decide) (fun c9 => ?_) (fun c9 => ?_)
      · have hf := q_ite_t c9 hf
        refine lv_aload_n hx hb dX3_passesNumber_75 rfl (lv_at hl 0 rfl) ?_
        refine lv_iload_n hx hb dX3_passesNumber_76 rfl (lv_at hl 2 rfl) ?_
        obtain ⟨S10, eS10, hf⟩ := q_let_go hf
        refine va_put (D := D) (ci := 3) (v := .int l2) (ty := .int) (C := RX3) (T := TX3) (N := 15) hx hb hu (fun _ h => h) tyX3 tyX3_ok nmX3 hown hE.1 hP hD hS 0 rfl rfl 8 (Nat.le_of_ble_eq_true rfl) (hts (.fieldLink RX3 206 "CoverMeterModel" "number" "I") (List.mem_of_getElem? (i := 3) rfl)) (fun _ h9 => h9) rfl (by decide +kernel) rfl rfl (Nat.le_of_ble_eq_true rfl) dX3_passesNumber_77 (fun H locs hP hD hS => ?_)
        have hP : va_P D vwCl (wMD cI cJ a (sMD_number Sz l2)) H := hP
        have hD : va_D (va_A (wMD cI cJ a S) s.heap.size) (wMD cI cJ a (sMD_number Sz l2)) := hD
        rw [eS10] at hP hD
        refine lv_iconst (v := 1) hx hb dX3_passesNumber_80 (by decide) ?_
        have ho := q_some hf
        subst ho
        exact W.zret hx hb hr rfl (fun t ht hW => ⟨rfl, ⟨by rw [ht]; exact hP, hD⟩, hS.F ht⟩) hS.2.2 dX3_passesNumber_81
      · have hf := q_ite_f c9 hf
        refine lv_aload_n hx hb dX3_passesNumber_65 rfl (lv_at hl 0 rfl) ?_
        refine lv_aload_n hx hb dX3_passesNumber_66 rfl (lv_at hl 0 rfl) ?_
        refine va_get (D := D) (ci := 3) (v := .int (MD_from Sz)) (C := RX3) (T := TX3) (N := 15) hx hb hu (fun _ h => h) hown hE.1 hP 0 rfl rfl 7 (Nat.le_of_ble_eq_true rfl) (hts (.fieldLink RX3 209 "CoverMeterModel" "from" "I") (List.mem_of_getElem? (i := 2) rfl)) (fun _ h9 => h9) rfl dX3_passesNumber_67 ?_
        obtain ⟨S11, eS11, hf⟩ := q_let_go hf
        refine va_put (D := D) (ci := 3) (v := .int (MD_from Sz)) (ty := .int) (C := RX3) (T := TX3) (N := 15) hx hb hu (fun _ h => h) tyX3 tyX3_ok nmX3 hown hE.1 hP hD hS 0 rfl rfl 6 (Nat.le_of_ble_eq_true rfl) (hts (.fieldLink RX3 200 "CoverMeterModel" "at" "I") (List.mem_of_getElem? (i := 1) rfl)) (fun _ h9 => h9) rfl (by decide +kernel) rfl rfl (Nat.le_of_ble_eq_true rfl) dX3_passesNumber_70 (fun H locs hP hD hS => ?_)
        have hP : va_P D vwCl (wMD cI cJ a (sMD_at Sz (MD_from Sz))) H := hP
        have hD : va_D (va_A (wMD cI cJ a S) s.heap.size) (wMD cI cJ a (sMD_at Sz (MD_from Sz))) := hD
        rw [eS11] at hP hD
        refine lv_iconst (v := 0) hx hb dX3_passesNumber_73 (by decide) ?_
        have ho := q_some hf
        subst ho
        exact W.zret hx hb hr rfl (fun t ht hW => ⟨rfl, ⟨by rw [ht]; exact hP, hD⟩, hS.F ht⟩) hS.2.2 dX3_passesNumber_74
    · have hf := q_ite_f c8 hf
      refine lv_iconst (v := 0) hx hb dX3_passesNumber_58 (by decide) ?_
      have ho := q_some hf
      subst ho
      exact W.zret hx hb hr rfl (fun t ht hW => ⟨rfl, ⟨by rw [ht]; exact hP, hD⟩, hS.F ht⟩) hS.2.2 dX3_passesNumber_59
  have hl := lv_entry ([.ref (a 0), .int p1]) (n := 3) (Nat.le_of_ble_eq_true rfl)
  rw [lg_entry_eq]
  generalize (lg_sl ([.ref (a 0), .int p1]) ++ List.replicate (3 - (lg_sl ([.ref (a 0), .int p1])).length) Slot.unset).toArray = ls at hl ⊢
  have hl : lv_has ls 3 [(0, .ref (a 0)), (1, .int p1)] := hl
  unfold f_X3_passesNumber at hf
  refine lv_aload_n hx hb dX3_passesNumber_0 rfl (lv_at hl 0 rfl) ?_
  refine lv_aload_n hx hb dX3_passesNumber_1 rfl (lv_at hl 0 rfl) ?_
  refine va_get (D := D) (ci := 3) (v := .int (MD_at S)) (C := RX3) (T := TX3) (N := 15) hx hb hu (fun _ h => h) hown hE.1 hP 0 rfl rfl 6 (Nat.le_of_ble_eq_true rfl) (hts (.fieldLink RX3 200 "CoverMeterModel" "at" "I") (List.mem_of_getElem? (i := 1) rfl)) (fun _ h9 => h9) rfl dX3_passesNumber_2 ?_
  obtain ⟨S1, eS1, hf⟩ := q_let_go hf
  refine va_put (D := D) (ci := 3) (v := .int (MD_at S)) (ty := .int) (C := RX3) (T := TX3) (N := 15) hx hb hu (fun _ h => h) tyX3 tyX3_ok nmX3 hown hE.1 hP hD hS 0 rfl rfl 7 (Nat.le_of_ble_eq_true rfl) (hts (.fieldLink RX3 209 "CoverMeterModel" "from" "I") (List.mem_of_getElem? (i := 2) rfl)) (fun _ h9 => h9) rfl (by decide +kernel) rfl rfl (Nat.le_of_ble_eq_true rfl) dX3_passesNumber_5 (fun H locs hP hD hS => ?_)
  have hP : va_P D vwCl (wMD cI cJ a (sMD_from S (MD_at S))) H := hP
  have hD : va_D (va_A (wMD cI cJ a S) s.heap.size) (wMD cI cJ a (sMD_from S (MD_at S))) := hD
  rw [eS1] at hP hD
  refine lv_aload_n hx hb dX3_passesNumber_8 rfl (lv_at hl 0 rfl) ?_
  refine lv_bipush (v := 48) hx hb dX3_passesNumber_9 (by decide) ?_
  refine lv_bipush (v := 57) hx hb dX3_passesNumber_11 (by decide) ?_
  obtain ⟨r2, hr2, hf⟩ := q_bd_go hf
  refine q_wrVi (ci := 3) (As := [.int 48, .int 57]) (rest := []) hx hb hml hown hts (c_X3_passes l D cI cJ cS a S1 _ 48 57 _ hr2) (cwV 2 hts gX3_passesNumber_X3_passes rfl rfl rfl (by decide +kernel) ⟨(Nat.le_of_ble_eq_true rfl), (Nat.le_of_ble_eq_true rfl)⟩) hE hP hD hS (fun q h => Or.inr h) rfl rfl rfl hl.1 rfl (Nat.le_of_ble_eq_true rfl) dX3_passesNumber_13 ⟨Nat.zero_le _, Nat.zero_le _⟩ (fun H locs hP hD hS => ?_)
  refine lv_if_ne (tgt := 21) hx hb dX3_passesNumber_16 (by decide) (fun c3 => ?_) (fun c3 => ?_)
  · have hf := q_ite_t c3 hf
    refine lv_aload_n hx hb dX3_passesNumber_21 rfl (lv_at hl 0 rfl) ?_
    refine va_get (D := D) (ci := 3) (v := .int (MD_number r2.2)) (C := RX3) (T := TX3) (N := 15) hx hb hu (fun _ h => h) hown hE.1 hP 0 rfl rfl 8 (Nat.le_of_ble_eq_true rfl) (hts (.fieldLink RX3 206 "CoverMeterModel" "number" "I") (List.mem_of_getElem? (i := 3) rfl)) (fun _ h9 => h9) rfl dX3_passesNumber_22 ?_
    obtain ⟨v4, ev4, hf⟩ := q_let_go hf
    refine q_nmi ev4 ?_
    refine lv_istore_n (lv' := [(2, .int v4), (0, .ref (a 0)), (1, .int p1)]) hx hb dX3_passesNumber_25 rfl hl (by decide) rfl (fun ls hl => ?_)
    refine lv_aload_n hx hb dX3_passesNumber_26 rfl (lv_at hl 1 rfl) ?_
    refine lv_bipush (v := 48) hx hb dX3_passesNumber_27 (by decide) ?_
    refine lv_bipush (v := 57) hx hb dX3_passesNumber_29 (by decide) ?_
    obtain ⟨r5, hr5, hf⟩ := q_bd_go hf
    refine q_wrVi (ci := 3) (As := [.int 48, .int 57]) (rest := []) hx hb hml hown hts (c_X3_passes l D cI cJ cS a r2.2 _ 48 57 _ hr5) (cwV 2 hts gX3_passesNumber_X3_passes rfl rfl rfl (by decide +kernel) ⟨(Nat.le_of_ble_eq_true rfl), (Nat.le_of_ble_eq_true rfl)⟩) hE hP hD hS (fun q h => Or.inr h) rfl rfl rfl hl.1 rfl (Nat.le_of_ble_eq_true rfl) dX3_passesNumber_31 ⟨Nat.zero_le _, Nat.zero_le _⟩ (fun H locs hP hD hS => ?_)
    refine lv_if_eq (tgt := 47) hx hb dX3_passesNumber_34 (by decide) (fun c6 => ?_) (fun c6 => ?_)
    · have hf := q_ite_t c6 hf
      exact B_47 r5.2 _ _ hP hD hS p1 v4 _ (lv_sub hl [1, 2, 0] rfl) hf
    · have hf := q_ite_f c6 hf
      refine lv_bipush (v := 10) hx hb dX3_passesNumber_37 (by decide) ?_
      refine lv_iload_n hx hb dX3_passesNumber_39 rfl (lv_at hl 0 rfl) ?_
      refine lv_imul hx hb dX3_passesNumber_40 ?_
      refine lv_aload_n hx hb dX3_passesNumber_41 rfl (lv_at hl 1 rfl) ?_
      refine va_get (D := D) (ci := 3) (v := .int (MD_number r5.2)) (C := RX3) (T := TX3) (N := 15) hx hb hu (fun _ h => h) hown hE.1 hP 0 rfl rfl 8 (Nat.le_of_ble_eq_true rfl) (hts (.fieldLink RX3 206 "CoverMeterModel" "number" "I") (List.mem_of_getElem? (i := 3) rfl)) (fun _ h9 => h9) rfl dX3_passesNumber_42 ?_
      refine lv_iadd hx hb dX3_passesNumber_45 ?_
      obtain ⟨v12, ev12, hf⟩ := q_let_go hf
      refine q_nmi ev12 ?_
      refine lv_istore_n (lv' := [(2, .int v12), (0, .ref (a 0)), (1, .int p1)]) hx hb dX3_passesNumber_46 rfl hl (by decide) rfl (fun ls hl => ?_)
      exact B_47 r5.2 _ _ hP hD hS p1 v12 _ (lv_sub hl [1, 2, 0] rfl) hf
  · have hf := q_ite_n c3 hf
    refine lv_iconst (v := 0) hx hb dX3_passesNumber_19 (by decide) ?_
    have ho := q_some hf
    subst ho
    exact W.zret hx hb hr rfl (fun t ht hW => ⟨rfl, ⟨by rw [ht]; exact hP, hD⟩, hS.F ht⟩) hS.2.2 dX3_passesNumber_20
def f_X3_passesAbsence (S : MD) : Option (Int32 × MD) := (f_X3_passes S 48 55).bind fun r1 =>
 if ¬ r1.1 = 0 then
 (q_let (sMD_first r1.2 (MD_number r1.2)) fun S3 =>
 (f_X3_passes S3 44 44).bind fun r4 =>
 if r4.1 = 0 then
 (some (0, r4.2))
 else ((f_X3_passesNumber r4.2 41).bind fun r6 =>
 if ¬ r6.1 = 0 then
 (q_let (sMD_second r6.2 (MD_number r6.2)) fun S8 =>
 some (1, S8))
 else (some (0, r6.2))))
 else (some (0, r1.2))
abbrev rX3_passesAbsence : Room := { frames := 4, cells := 0, slots := 0, locals := 91 }
set_option maxRecDepth 100000 in
set_option maxHeartbeats 4000000 in
theorem c_X3_passesAbsence (l : Launch) (D : va_G) (cI cJ cS : ClassId) (a : Nat → Nat) (S : MD) (sz : Nat) (o : (Int32 × MD)) (hf : f_X3_passesAbsence S = some o) : Met l yX3_passesAbsence wsX3_passesAbsence rX3_passesAbsence (va_Pc [.ref (a 0)] (q_BW D cI cJ cS (wMD cI cJ a S) sz)) (q_Wo (some (.int o.1)) D (wMD cI cJ a S) (wMD cI cJ a o.2) sz) 0 0 (va_A (wMD cI cJ a S) sz) := by
  refine Met.ofW (cc := cX3_passesAbsence) (maxL := 1) (ret := some .boolean) (by decide) rfl ?_
  intro p e s m args below meth c s₁ B hml hv
  obtain ⟨rfl, hsz, hP, hE, hD0⟩ := hv
  have hx := B.exec
  have hb := B.bytes
  have hr := B.returns
  have hts := atoms_spec (ws := wsX3_passesAbsence) B.pre
  have hown : s.vm.findClass RX3 = some m.cls := findClass_of_methodNamed B.named
  have hlocks := B.notSynchronized
  have hu : ∀ z ∈ wsX30, z.before _ s = true := fun z h => hts z (List.mem_cons_of_mem _ (List.mem_append_right _ h))
  subst hsz
  have hD := hD0.self (sz := s.heap.size)
  have hS : va_S (va_A (wMD cI cJ a S) s.heap.size) s.heap s.heap [] := va_S.rf
  have hl := lv_entry ([.ref (a 0)]) (n := 1) (Nat.le_of_ble_eq_true rfl)
  rw [lg_entry_eq]
  generalize (lg_sl ([.ref (a 0)]) ++ List.replicate (1 - (lg_sl ([.ref (a 0)])).length) Slot.unset).toArray = ls at hl ⊢
  have hl : lv_has ls 1 [(0, .ref (a 0))] := hl
  unfold f_X3_passesAbsence at hf
  refine lv_aload_n hx hb dX3_passesAbsence_0 rfl (lv_at hl 0 rfl) ?_
  refine lv_bipush (v := 48) hx hb dX3_passesAbsence_1 (by decide) ?_
  refine lv_bipush (v := 55) hx hb dX3_passesAbsence_3 (by decide) ?_
  obtain ⟨r1, hr1, hf⟩ := q_bd_go hf
  refine q_wrVi (ci := 3) (As := [.int 48, .int 55]) (rest := []) hx hb hml hown hts (c_X3_passes l D cI cJ cS a S _ 48 55 _ hr1) (cwV 2 hts gX3_passesAbsence_X3_passes rfl rfl rfl (by decide +kernel) ⟨(Nat.le_of_ble_eq_true rfl), (Nat.le_of_ble_eq_true rfl)⟩) hE hP hD hS (fun q h => Or.inr h) rfl rfl rfl hl.1 rfl (Nat.le_of_ble_eq_true rfl) dX3_passesAbsence_5 ⟨Nat.zero_le _, Nat.zero_le _⟩ (fun H locs hP hD hS => ?_)
  refine lv_if_ne (tgt := 13) hx hb dX3_passesAbsence_8 (by decide) (fun c2 => ?_) (fun c2 => ?_)
  · have hf := q_ite_t c2 hf
    refine lv_aload_n hx hb dX3_passesAbsence_13 rfl (lv_at hl 0 rfl) ?_
    refine lv_aload_n hx hb dX3_passesAbsence_14 rfl (lv_at hl 0 rfl) ?_
    refine va_get (D := D) (ci := 3) (v := .int (MD_number r1.2)) (C := RX3) (T := TX3) (N := 15) hx hb hu (fun _ h => h) hown hE.1 hP 0 rfl rfl 8 (Nat.le_of_ble_eq_true rfl) (hts (.fieldLink RX3 206 "CoverMeterModel" "number" "I") (List.mem_of_getElem? (i := 1) rfl)) (fun _ h9 => h9) rfl dX3_passesAbsence_15 ?_
    obtain ⟨S3, eS3, hf⟩ := q_let_go hf
    refine va_put (D := D) (ci := 3) (v := .int (MD_number r1.2)) (ty := .int) (C := RX3) (T := TX3) (N := 15) hx hb hu (fun _ h => h) tyX3 tyX3_ok nmX3 hown hE.1 hP hD hS 0 rfl rfl 10 (Nat.le_of_ble_eq_true rfl) (hts (.fieldLink RX3 215 "CoverMeterModel" "first" "I") (List.mem_of_getElem? (i := 2) rfl)) (fun _ h9 => h9) rfl (by decide +kernel) rfl rfl (Nat.le_of_ble_eq_true rfl) dX3_passesAbsence_18 (fun H locs hP hD hS => ?_)
    have hP : va_P D vwCl (wMD cI cJ a (sMD_first r1.2 (MD_number r1.2))) H := hP
    have hD : va_D (va_A (wMD cI cJ a S) s.heap.size) (wMD cI cJ a (sMD_first r1.2 (MD_number r1.2))) := hD
    rw [eS3] at hP hD
    refine lv_aload_n hx hb dX3_passesAbsence_21 rfl (lv_at hl 0 rfl) ?_
    refine lv_bipush (v := 44) hx hb dX3_passesAbsence_22 (by decide) ?_
    refine lv_bipush (v := 44) hx hb dX3_passesAbsence_24 (by decide) ?_
    obtain ⟨r4, hr4, hf⟩ := q_bd_go hf
    refine q_wrVi (ci := 3) (As := [.int 44, .int 44]) (rest := []) hx hb hml hown hts (c_X3_passes l D cI cJ cS a S3 _ 44 44 _ hr4) (cwV 2 hts gX3_passesAbsence_X3_passes rfl rfl rfl (by decide +kernel) ⟨(Nat.le_of_ble_eq_true rfl), (Nat.le_of_ble_eq_true rfl)⟩) hE hP hD hS (fun q h => Or.inr h) rfl rfl rfl hl.1 rfl (Nat.le_of_ble_eq_true rfl) dX3_passesAbsence_26 ⟨Nat.zero_le _, Nat.zero_le _⟩ (fun H locs hP hD hS => ?_)
    refine lv_if_eq (tgt := 41) hx hb dX3_passesAbsence_29 (by decide) (fun c5 => ?_) (fun c5 => ?_)
    · have hf := q_ite_t c5 hf
      refine lv_iconst (v := 0) hx hb dX3_passesAbsence_41 (by decide) ?_
      have ho := q_some hf
      subst ho
      exact W.zret hx hb hr rfl (fun t ht hW => ⟨rfl, ⟨by rw [ht]; exact hP, hD⟩, hS.F ht⟩) hS.2.2 dX3_passesAbsence_42
    · have hf := q_ite_f c5 hf
      refine lv_aload_n hx hb dX3_passesAbsence_32 rfl (lv_at hl 0 rfl) ?_
      refine lv_bipush (v := 41) hx hb dX3_passesAbsence_33 (by decide) ?_
      obtain ⟨r6, hr6, hf⟩ := q_bd_go hf
      refine q_wrVi (ci := 3) (As := [.int 41]) (rest := []) hx hb hml hown hts (c_X3_passesNumber l D cI cJ cS a r4.2 _ 41 _ hr6) (cwV 1 hts gX3_passesAbsence_X3_passesNumber rfl rfl rfl (by decide +kernel) ⟨(Nat.le_of_ble_eq_true rfl), (Nat.le_of_ble_eq_true rfl)⟩) hE hP hD hS (fun q h => Or.inr h) rfl rfl rfl hl.1 rfl (Nat.le_of_ble_eq_true rfl) dX3_passesAbsence_35 ⟨Nat.zero_le _, Nat.zero_le _⟩ (fun H locs hP hD hS => ?_)
      refine lv_if_ne (tgt := 43) hx hb dX3_passesAbsence_38 (by decide) (fun c7 => ?_) (fun c7 => ?_)
      · have hf := q_ite_t c7 hf
        refine lv_aload_n hx hb dX3_passesAbsence_43 rfl (lv_at hl 0 rfl) ?_
        refine lv_aload_n hx hb dX3_passesAbsence_44 rfl (lv_at hl 0 rfl) ?_
        refine va_get (D := D) (ci := 3) (v := .int (MD_number r6.2)) (C := RX3) (T := TX3) (N := 15) hx hb hu (fun _ h => h) hown hE.1 hP 0 rfl rfl 8 (Nat.le_of_ble_eq_true rfl) (hts (.fieldLink RX3 206 "CoverMeterModel" "number" "I") (List.mem_of_getElem? (i := 1) rfl)) (fun _ h9 => h9) rfl dX3_passesAbsence_45 ?_
        obtain ⟨S8, eS8, hf⟩ := q_let_go hf
        refine va_put (D := D) (ci := 3) (v := .int (MD_number r6.2)) (ty := .int) (C := RX3) (T := TX3) (N := 15) hx hb hu (fun _ h => h) tyX3 tyX3_ok nmX3 hown hE.1 hP hD hS 0 rfl rfl 11 (Nat.le_of_ble_eq_true rfl) (hts (.fieldLink RX3 221 "CoverMeterModel" "second" "I") (List.mem_of_getElem? (i := 3) rfl)) (fun _ h9 => h9) rfl (by decide +kernel) rfl rfl (Nat.le_of_ble_eq_true rfl) dX3_passesAbsence_48 (fun H locs hP hD hS => ?_)
        have hP : va_P D vwCl (wMD cI cJ a (sMD_second r6.2 (MD_number r6.2))) H := hP
        have hD : va_D (va_A (wMD cI cJ a S) s.heap.size) (wMD cI cJ a (sMD_second r6.2 (MD_number r6.2))) := hD
        rw [eS8] at hP hD
        refine lv_iconst (v := 1) hx hb dX3_passesAbsence_51 (by decide) ?_
        have ho := q_some hf
        subst ho
        exact W.zret hx hb hr rfl (fun t ht hW => ⟨rfl, ⟨by rw [ht]; exact hP, hD⟩, hS.F ht⟩) hS.2.2 dX3_passesAbsence_52
      · have hf := q_ite_n c7 hf
        refine lv_iconst (v := 0) hx hb dX3_passesAbsence_41 (by decide) ?_
        have ho := q_some hf
        subst ho
        exact W.zret hx hb hr rfl (fun t ht hW => ⟨rfl, ⟨by rw [ht]; exact hP, hD⟩, hS.F ht⟩) hS.2.2 dX3_passesAbsence_42
  · have hf := q_ite_n c2 hf
    refine lv_iconst (v := 0) hx hb dX3_passesAbsence_11 (by decide) ?_
    have ho := q_some hf
    subst ho
    exact W.zret hx hb hr rfl (fun t ht hW => ⟨rfl, ⟨by rw [ht]; exact hP, hD⟩, hS.F ht⟩) hS.2.2 dX3_passesAbsence_12
def f_X3_passesBid (S : MD) : Option (Int32 × MD) := (f_X3_passes S 48 55).bind fun r1 =>
 if ¬ r1.1 = 0 then
 (q_let (sMD_first r1.2 (MD_number r1.2)) fun S3 =>
 (f_X3_passes S3 44 44).bind fun r4 =>
 if r4.1 = 0 then
 (some (0, r4.2))
 else ((f_X3_passesNumber r4.2 29).bind fun r6 =>
 if ¬ r6.1 = 0 then
 (q_let (sMD_second r6.2 (MD_number r6.2)) fun S8 =>
 (f_X3_passes S8 44 44).bind fun r9 =>
 if r9.1 = 0 then
 (some (0, r9.2))
 else ((f_X3_passesNumber r9.2 50).bind fun r11 =>
 if ¬ r11.1 = 0 then
 (q_let (sMD_third r11.2 (MD_number r11.2)) fun S13 =>
 some (1, S13))
 else (some (0, r11.2))))
 else (some (0, r6.2))))
 else (some (0, r1.2))
abbrev rX3_passesBid : Room := { frames := 4, cells := 0, slots := 0, locals := 91 }
set_option maxRecDepth 100000 in
set_option maxHeartbeats 4000000 in
theorem c_X3_passesBid (l : Launch) (D : va_G) (cI cJ cS : ClassId) (a : Nat → Nat) (S : MD) (sz : Nat) (o : (Int32 × MD)) (hf : f_X3_passesBid S = some o) : Met l yX3_passesBid wsX3_passesBid rX3_passesBid (va_Pc [.ref (a 0)] (q_BW D cI cJ cS (wMD cI cJ a S) sz)) (q_Wo (some (.int o.1)) D (wMD cI cJ a S) (wMD cI cJ a o.2) sz) 0 0 (va_A (wMD cI cJ a S) sz) := by
  refine Met.ofW (cc := cX3_passesBid) (maxL := 1) (ret := some .boolean) (by decide) rfl ?_
  intro p e s m args below meth c s₁ B hml hv
  obtain ⟨rfl, hsz, hP, hE, hD0⟩ := hv
  have hx := B.exec
  have hb := B.bytes
  have hr := B.returns
  have hts := atoms_spec (ws := wsX3_passesBid) B.pre
  have hown : s.vm.findClass RX3 = some m.cls := findClass_of_methodNamed B.named
  have hlocks := B.notSynchronized
  have hu : ∀ z ∈ wsX30, z.before _ s = true := fun z h => hts z (List.mem_cons_of_mem _ (List.mem_append_right _ h))
  subst hsz
  have hD := hD0.self (sz := s.heap.size)
  have hS : va_S (va_A (wMD cI cJ a S) s.heap.size) s.heap s.heap [] := va_S.rf
  have hl := lv_entry ([.ref (a 0)]) (n := 1) (Nat.le_of_ble_eq_true rfl)
  rw [lg_entry_eq]
  generalize (lg_sl ([.ref (a 0)]) ++ List.replicate (1 - (lg_sl ([.ref (a 0)])).length) Slot.unset).toArray = ls at hl ⊢
  have hl : lv_has ls 1 [(0, .ref (a 0))] := hl
  unfold f_X3_passesBid at hf
  refine lv_aload_n hx hb dX3_passesBid_0 rfl (lv_at hl 0 rfl) ?_
  refine lv_bipush (v := 48) hx hb dX3_passesBid_1 (by decide) ?_
  refine lv_bipush (v := 55) hx hb dX3_passesBid_3 (by decide) ?_
  obtain ⟨r1, hr1, hf⟩ := q_bd_go hf
  refine q_wrVi (ci := 3) (As := [.int 48, .int 55]) (rest := []) hx hb hml hown hts (c_X3_passes l D cI cJ cS a S _ 48 55 _ hr1) (cwV 2 hts gX3_passesBid_X3_passes rfl rfl rfl (by decide +kernel) ⟨(Nat.le_of_ble_eq_true rfl), (Nat.le_of_ble_eq_true rfl)⟩) hE hP hD hS (fun q h => Or.inr h) rfl rfl rfl hl.1 rfl (Nat.le_of_ble_eq_true rfl) dX3_passesBid_5 ⟨Nat.zero_le _, Nat.zero_le _⟩ (fun H locs hP hD hS => ?_)
  refine lv_if_ne (tgt := 13) hx hb dX3_passesBid_8 (by decide) (fun c2 => ?_) (fun c2 => ?_)
  · have hf := q_ite_t c2 hf
    refine lv_aload_n hx hb dX3_passesBid_13 rfl (lv_at hl 0 rfl) ?_
    refine lv_aload_n hx hb dX3_passesBid_14 rfl (lv_at hl 0 rfl) ?_
    refine va_get (D := D) (ci := 3) (v := .int (MD_number r1.2)) (C := RX3) (T := TX3) (N := 15) hx hb hu (fun _ h => h) hown hE.1 hP 0 rfl rfl 8 (Nat.le_of_ble_eq_true rfl) (hts (.fieldLink RX3 206 "CoverMeterModel" "number" "I") (List.mem_of_getElem? (i := 1) rfl)) (fun _ h9 => h9) rfl dX3_passesBid_15 ?_
    obtain ⟨S3, eS3, hf⟩ := q_let_go hf
    refine va_put (D := D) (ci := 3) (v := .int (MD_number r1.2)) (ty := .int) (C := RX3) (T := TX3) (N := 15) hx hb hu (fun _ h => h) tyX3 tyX3_ok nmX3 hown hE.1 hP hD hS 0 rfl rfl 10 (Nat.le_of_ble_eq_true rfl) (hts (.fieldLink RX3 215 "CoverMeterModel" "first" "I") (List.mem_of_getElem? (i := 2) rfl)) (fun _ h9 => h9) rfl (by decide +kernel) rfl rfl (Nat.le_of_ble_eq_true rfl) dX3_passesBid_18 (fun H locs hP hD hS => ?_)
    have hP : va_P D vwCl (wMD cI cJ a (sMD_first r1.2 (MD_number r1.2))) H := hP
    have hD : va_D (va_A (wMD cI cJ a S) s.heap.size) (wMD cI cJ a (sMD_first r1.2 (MD_number r1.2))) := hD
    rw [eS3] at hP hD
    refine lv_aload_n hx hb dX3_passesBid_21 rfl (lv_at hl 0 rfl) ?_
    refine lv_bipush (v := 44) hx hb dX3_passesBid_22 (by decide) ?_
    refine lv_bipush (v := 44) hx hb dX3_passesBid_24 (by decide) ?_
    obtain ⟨r4, hr4, hf⟩ := q_bd_go hf
    refine q_wrVi (ci := 3) (As := [.int 44, .int 44]) (rest := []) hx hb hml hown hts (c_X3_passes l D cI cJ cS a S3 _ 44 44 _ hr4) (cwV 2 hts gX3_passesBid_X3_passes rfl rfl rfl (by decide +kernel) ⟨(Nat.le_of_ble_eq_true rfl), (Nat.le_of_ble_eq_true rfl)⟩) hE hP hD hS (fun q h => Or.inr h) rfl rfl rfl hl.1 rfl (Nat.le_of_ble_eq_true rfl) dX3_passesBid_26 ⟨Nat.zero_le _, Nat.zero_le _⟩ (fun H locs hP hD hS => ?_)
    refine lv_if_eq (tgt := 41) hx hb dX3_passesBid_29 (by decide) (fun c5 => ?_) (fun c5 => ?_)
    · have hf := q_ite_t c5 hf
      refine lv_iconst (v := 0) hx hb dX3_passesBid_41 (by decide) ?_
      have ho := q_some hf
      subst ho
      exact W.zret hx hb hr rfl (fun t ht hW => ⟨rfl, ⟨by rw [ht]; exact hP, hD⟩, hS.F ht⟩) hS.2.2 dX3_passesBid_42
    · have hf := q_ite_f c5 hf
      refine lv_aload_n hx hb dX3_passesBid_32 rfl (lv_at hl 0 rfl) ?_
      refine lv_bipush (v := 29) hx hb dX3_passesBid_33 (by decide) ?_
      obtain ⟨r6, hr6, hf⟩ := q_bd_go hf
      refine q_wrVi (ci := 3) (As := [.int 29]) (rest := []) hx hb hml hown hts (c_X3_passesNumber l D cI cJ cS a r4.2 _ 29 _ hr6) (cwV 1 hts gX3_passesBid_X3_passesNumber rfl rfl rfl (by decide +kernel) ⟨(Nat.le_of_ble_eq_true rfl), (Nat.le_of_ble_eq_true rfl)⟩) hE hP hD hS (fun q h => Or.inr h) rfl rfl rfl hl.1 rfl (Nat.le_of_ble_eq_true rfl) dX3_passesBid_35 ⟨Nat.zero_le _, Nat.zero_le _⟩ (fun H locs hP hD hS => ?_)
      refine lv_if_ne (tgt := 43) hx hb dX3_passesBid_38 (by decide) (fun c7 => ?_) (fun c7 => ?_)
      · have hf := q_ite_t c7 hf
        refine lv_aload_n hx hb dX3_passesBid_43 rfl (lv_at hl 0 rfl) ?_
        refine lv_aload_n hx hb dX3_passesBid_44 rfl (lv_at hl 0 rfl) ?_
        refine va_get (D := D) (ci := 3) (v := .int (MD_number r6.2)) (C := RX3) (T := TX3) (N := 15) hx hb hu (fun _ h => h) hown hE.1 hP 0 rfl rfl 8 (Nat.le_of_ble_eq_true rfl) (hts (.fieldLink RX3 206 "CoverMeterModel" "number" "I") (List.mem_of_getElem? (i := 1) rfl)) (fun _ h9 => h9) rfl dX3_passesBid_45 ?_
        obtain ⟨S8, eS8, hf⟩ := q_let_go hf
        refine va_put (D := D) (ci := 3) (v := .int (MD_number r6.2)) (ty := .int) (C := RX3) (T := TX3) (N := 15) hx hb hu (fun _ h => h) tyX3 tyX3_ok nmX3 hown hE.1 hP hD hS 0 rfl rfl 11 (Nat.le_of_ble_eq_true rfl) (hts (.fieldLink RX3 221 "CoverMeterModel" "second" "I") (List.mem_of_getElem? (i := 3) rfl)) (fun _ h9 => h9) rfl (by decide +kernel) rfl rfl (Nat.le_of_ble_eq_true rfl) dX3_passesBid_48 (fun H locs hP hD hS => ?_)
        have hP : va_P D vwCl (wMD cI cJ a (sMD_second r6.2 (MD_number r6.2))) H := hP
        have hD : va_D (va_A (wMD cI cJ a S) s.heap.size) (wMD cI cJ a (sMD_second r6.2 (MD_number r6.2))) := hD
        rw [eS8] at hP hD
        refine lv_aload_n hx hb dX3_passesBid_51 rfl (lv_at hl 0 rfl) ?_
        refine lv_bipush (v := 44) hx hb dX3_passesBid_52 (by decide) ?_
        refine lv_bipush (v := 44) hx hb dX3_passesBid_54 (by decide) ?_
        obtain ⟨r9, hr9, hf⟩ := q_bd_go hf
        refine q_wrVi (ci := 3) (As := [.int 44, .int 44]) (rest := []) hx hb hml hown hts (c_X3_passes l D cI cJ cS a S8 _ 44 44 _ hr9) (cwV 2 hts gX3_passesBid_X3_passes rfl rfl rfl (by decide +kernel) ⟨(Nat.le_of_ble_eq_true rfl), (Nat.le_of_ble_eq_true rfl)⟩) hE hP hD hS (fun q h => Or.inr h) rfl rfl rfl hl.1 rfl (Nat.le_of_ble_eq_true rfl) dX3_passesBid_56 ⟨Nat.zero_le _, Nat.zero_le _⟩ (fun H locs hP hD hS => ?_)
        refine lv_if_eq (tgt := 71) hx hb dX3_passesBid_59 (by decide) (fun c10 => ?_) (fun c10 => ?_)
        · have hf := q_ite_t c10 hf
          refine lv_iconst (v := 0) hx hb dX3_passesBid_71 (by decide) ?_
          have ho := q_some hf
          subst ho
          exact W.zret hx hb hr rfl (fun t ht hW => ⟨rfl, ⟨by rw [ht]; exact hP, hD⟩, hS.F ht⟩) hS.2.2 dX3_passesBid_72
        · have hf := q_ite_f c10 hf
          refine lv_aload_n hx hb dX3_passesBid_62 rfl (lv_at hl 0 rfl) ?_
          refine lv_bipush (v := 50) hx hb dX3_passesBid_63 (by decide) ?_
          obtain ⟨r11, hr11, hf⟩ := q_bd_go hf
          refine q_wrVi (ci := 3) (As := [.int 50]) (rest := []) hx hb hml hown hts (c_X3_passesNumber l D cI cJ cS a r9.2 _ 50 _ hr11) (cwV 1 hts gX3_passesBid_X3_passesNumber rfl rfl rfl (by decide +kernel) ⟨(Nat.le_of_ble_eq_true rfl), (Nat.le_of_ble_eq_true rfl)⟩) hE hP hD hS (fun q h => Or.inr h) rfl rfl rfl hl.1 rfl (Nat.le_of_ble_eq_true rfl) dX3_passesBid_65 ⟨Nat.zero_le _, Nat.zero_le _⟩ (fun H locs hP hD hS => ?_)
          refine lv_if_ne (tgt := 73) hx hb dX3_passesBid_68 (by decide) (fun c12 => ?_) (fun c12 => ?_)
          · have hf := q_ite_t c12 hf
            refine lv_aload_n hx hb dX3_passesBid_73 rfl (lv_at hl 0 rfl) ?_
            refine lv_aload_n hx hb dX3_passesBid_74 rfl (lv_at hl 0 rfl) ?_
            refine va_get (D := D) (ci := 3) (v := .int (MD_number r11.2)) (C := RX3) (T := TX3) (N := 15) hx hb hu (fun _ h => h) hown hE.1 hP 0 rfl rfl 8 (Nat.le_of_ble_eq_true rfl) (hts (.fieldLink RX3 206 "CoverMeterModel" "number" "I") (List.mem_of_getElem? (i := 1) rfl)) (fun _ h9 => h9) rfl dX3_passesBid_75 ?_
            obtain ⟨S13, eS13, hf⟩ := q_let_go hf
            refine va_put (D := D) (ci := 3) (v := .int (MD_number r11.2)) (ty := .int) (C := RX3) (T := TX3) (N := 15) hx hb hu (fun _ h => h) tyX3 tyX3_ok nmX3 hown hE.1 hP hD hS 0 rfl rfl 12 (Nat.le_of_ble_eq_true rfl) (hts (.fieldLink RX3 224 "CoverMeterModel" "third" "I") (List.mem_of_getElem? (i := 4) rfl)) (fun _ h9 => h9) rfl (by decide +kernel) rfl rfl (Nat.le_of_ble_eq_true rfl) dX3_passesBid_78 (fun H locs hP hD hS => ?_)
            have hP : va_P D vwCl (wMD cI cJ a (sMD_third r11.2 (MD_number r11.2))) H := hP
            have hD : va_D (va_A (wMD cI cJ a S) s.heap.size) (wMD cI cJ a (sMD_third r11.2 (MD_number r11.2))) := hD
            rw [eS13] at hP hD
            refine lv_iconst (v := 1) hx hb dX3_passesBid_81 (by decide) ?_
            have ho := q_some hf
            subst ho
            exact W.zret hx hb hr rfl (fun t ht hW => ⟨rfl, ⟨by rw [ht]; exact hP, hD⟩, hS.F ht⟩) hS.2.2 dX3_passesBid_82
          · have hf := q_ite_n c12 hf
            refine lv_iconst (v := 0) hx hb dX3_passesBid_71 (by decide) ?_
            have ho := q_some hf
            subst ho
            exact W.zret hx hb hr rfl (fun t ht hW => ⟨rfl, ⟨by rw [ht]; exact hP, hD⟩, hS.F ht⟩) hS.2.2 dX3_passesBid_72
      · have hf := q_ite_n c7 hf
        refine lv_iconst (v := 0) hx hb dX3_passesBid_41 (by decide) ?_
        have ho := q_some hf
        subst ho
        exact W.zret hx hb hr rfl (fun t ht hW => ⟨rfl, ⟨by rw [ht]; exact hP, hD⟩, hS.F ht⟩) hS.2.2 dX3_passesBid_42
  · have hf := q_ite_n c2 hf
    refine lv_iconst (v := 0) hx hb dX3_passesBid_11 (by decide) ?_
    have ho := q_some hf
    subst ho
    exact W.zret hx hb hr rfl (fun t ht hW => ⟨rfl, ⟨by rw [ht]; exact hP, hD⟩, hS.F ht⟩) hS.2.2 dX3_passesBid_12
def f_X3_passesOrder_96 (Sz : MD) (l1 : Int32) : Option (Int32 × MD) := if l1 = 0 then
 (some (0, Sz))
 else ((f_X3_passes Sz 59 59).bind fun r10 =>
 if r10.1 = 0 then
 (some (0, r10.2))
 else (some (1, r10.2)))
def f_X3_passesOrder (S : MD) : Option (Int32 × MD) := (f_X3_passes S 97 97).bind fun r1 =>
 if r1.1 = 0 then
 ((f_X3_passes r1.2 98 98).bind fun r3 =>
 if r3.1 = 0 then
 ((f_X3_passes r3.2 99 99).bind fun r5 =>
 if r5.1 = 0 then
 (q_let (sMD_kind r5.2 3) fun S7 =>
 (f_X3_passes S7 122 122).bind fun r8 =>
 f_X3_passesOrder_96 r8.2 r8.1)
 else (q_let (sMD_kind r5.2 2) fun S12 =>
 (f_X3_passesNumber S12 29).bind fun r13 =>
 q_let (sMD_first r13.2 (MD_number r13.2)) fun S14 =>
 f_X3_passesOrder_96 S14 r13.1))
 else (q_let (sMD_kind r3.2 1) fun S15 =>
 (f_X3_passesBid S15).bind fun r16 =>
 f_X3_passesOrder_96 r16.2 r16.1))
 else (q_let (sMD_kind r1.2 0) fun S17 =>
 (f_X3_passesAbsence S17).bind fun r18 =>
 f_X3_passesOrder_96 r18.2 r18.1)
abbrev rX3_passesOrder : Room := { frames := 5, cells := 0, slots := 0, locals := 111 }
set_option maxRecDepth 100000 in
set_option maxHeartbeats 4000000 in
theorem c_X3_passesOrder (l : Launch) (D : va_G) (cI cJ cS : ClassId) (a : Nat → Nat) (S : MD) (sz : Nat) (o : (Int32 × MD)) (hf : f_X3_passesOrder S = some o) : Met l yX3_passesOrder wsX3_passesOrder rX3_passesOrder (va_Pc [.ref (a 0)] (q_BW D cI cJ cS (wMD cI cJ a S) sz)) (q_Wo (some (.int o.1)) D (wMD cI cJ a S) (wMD cI cJ a o.2) sz) 0 0 (va_A (wMD cI cJ a S) sz) := by
  refine Met.ofW (cc := cX3_passesOrder) (maxL := 2) (ret := some .boolean) (by decide) rfl ?_
  intro p e s m args below meth c s₁ B hml hv
  obtain ⟨rfl, hsz, hP, hE, hD0⟩ := hv
  have hx := B.exec
  have hb := B.bytes
  have hr := B.returns
  have hts := atoms_spec (ws := wsX3_passesOrder) B.pre
  have hown : s.vm.findClass RX3 = some m.cls := findClass_of_methodNamed B.named
  have hlocks := B.notSynchronized
  have hu : ∀ z ∈ wsX30, z.before _ s = true := fun z h => hts z (List.mem_cons_of_mem _ (List.mem_append_right _ h))
  subst hsz
  have hD := hD0.self (sz := s.heap.size)
  have hS : va_S (va_A (wMD cI cJ a S) s.heap.size) s.heap s.heap [] := va_S.rf
  have B_96 : ∀ (Sz : MD) (H : Heap) (locs : List Loc) (hP : va_P D vwCl (wMD cI cJ a Sz) H) (hD : va_D (va_A (wMD cI cJ a S) s.heap.size) (wMD cI cJ a Sz)) (hS : va_S (va_A (wMD cI cJ a S) s.heap.size) s.heap H locs) (l1 : Int32) (ls : Array Slot), lv_has ls 2 [(0, .ref (a 0)), (1, .int l1)] → f_X3_passesOrder_96 Sz l1 = some o → W p l e (headSpec wsX3_passesOrder rX3_passesOrder).room s m (([.ref (a 0)] : List Value).toArray) below meth c H locs 0 0 (MQ below (q_Wo (some (.int o.1)) D (wMD cI cJ a S) (wMD cI cJ a o.2) s.heap.size) (([.ref (a 0)] : List Value).toArray) s 0 0 (va_A (wMD cI cJ a S) s.heap.size)) (F0 m 96 ls []) := by
    intro Sz H locs hP hD hS l1 ls hl hf
    unfold f_X3_passesOrder_96 at hf
    refine lv_iload_n hx hb dX3_passesOrder_96 rfl (lv_at hl 1 rfl) ?_
    refine lv_if_eq (tgt := 115) hx hb dX3_passesOrder_97 (by decide) (fun c9 => ?_) (fun c9 => ?_)
    · have hf := q_ite_t c9 hf
      refine lv_iconst (v := 0) hx hb dX3_passesOrder_115 (by decide) ?_
      have ho := q_some hf
      subst ho
      exact W.zret hx hb hr rfl (fun t ht hW => ⟨rfl, ⟨by rw [ht]; exact hP, hD⟩, hS.F ht⟩) hS.2.2 dX3_passesOrder_116
    · have hf := q_ite_f c9 hf
      refine lv_aload_n hx hb dX3_passesOrder_100 rfl (lv_at hl 0 rfl) ?_
      refine lv_bipush (v := 59) hx hb dX3_passesOrder_101 (by decide) ?_
      refine lv_bipush (v := 59) hx hb dX3_passesOrder_103 (by decide) ?_
      obtain ⟨r10, hr10, hf⟩ := q_bd_go hf
      refine q_wrVi (ci := 3) (As := [.int 59, .int 59]) (rest := []) hx hb hml hown hts (c_X3_passes l D cI cJ cS a Sz _ 59 59 _ hr10) (cwV 2 hts gX3_passesOrder_X3_passes rfl rfl rfl (by decide +kernel) ⟨(Nat.le_of_ble_eq_true rfl), (Nat.le_of_ble_eq_true rfl)⟩) hE hP hD hS (fun q h => Or.inr h) rfl rfl rfl hl.1 rfl (Nat.le_of_ble_eq_true rfl) dX3_passesOrder_105 ⟨Nat.zero_le _, Nat.zero_le _⟩ (fun H locs hP hD hS => ?_)
      refine lv_if_eq (tgt := 115) hx hb dX3_passesOrder_108 (by decide) (fun c11 => ?_) (fun c11 => ?_)
      · have hf := q_ite_t c11 hf
        refine lv_iconst (v := 0) hx hb dX3_passesOrder_115 (by decide) ?_
        have ho := q_some hf
        subst ho
        exact W.zret hx hb hr rfl (fun t ht hW => ⟨rfl, ⟨by rw [ht]; exact hP, hD⟩, hS.F ht⟩) hS.2.2 dX3_passesOrder_116
      · have hf := q_ite_f c11 hf
        refine lv_iconst (v := 1) hx hb dX3_passesOrder_111 (by decide) ?_
        refine lv_goto (tgt := 116) hx hb dX3_passesOrder_112 (by decide) ?_
        have ho := q_some hf
        subst ho
        exact W.zret hx hb hr rfl (fun t ht hW => ⟨rfl, ⟨by rw [ht]; exact hP, hD⟩, hS.F ht⟩) hS.2.2 dX3_passesOrder_116
  have hl := lv_entry ([.ref (a 0)]) (n := 2) (Nat.le_of_ble_eq_true rfl)
  rw [lg_entry_eq]
  generalize (lg_sl ([.ref (a 0)]) ++ List.replicate (2 - (lg_sl ([.ref (a 0)])).length) Slot.unset).toArray = ls at hl ⊢
  have hl : lv_has ls 2 [(0, .ref (a 0))] := hl
  unfold f_X3_passesOrder at hf
  refine lv_aload_n hx hb dX3_passesOrder_0 rfl (lv_at hl 0 rfl) ?_
  refine lv_bipush (v := 97) hx hb dX3_passesOrder_1 (by decide) ?_
  refine lv_bipush (v := 97) hx hb dX3_passesOrder_3 (by decide) ?_
  obtain ⟨r1, hr1, hf⟩ := q_bd_go hf
  refine q_wrVi (ci := 3) (As := [.int 97, .int 97]) (rest := []) hx hb hml hown hts (c_X3_passes l D cI cJ cS a S _ 97 97 _ hr1) (cwV 2 hts gX3_passesOrder_X3_passes rfl rfl rfl (by decide +kernel) ⟨(Nat.le_of_ble_eq_true rfl), (Nat.le_of_ble_eq_true rfl)⟩) hE hP hD hS (fun q h => Or.inr h) rfl rfl rfl hl.1 rfl (Nat.le_of_ble_eq_true rfl) dX3_passesOrder_5 ⟨Nat.zero_le _, Nat.zero_le _⟩ (fun H locs hP hD hS => ?_)
  refine lv_if_eq (tgt := 24) hx hb dX3_passesOrder_8 (by decide) (fun c2 => ?_) (fun c2 => ?_)
  · have hf := q_ite_t c2 hf
    refine lv_aload_n hx hb dX3_passesOrder_24 rfl (lv_at hl 0 rfl) ?_
    refine lv_bipush (v := 98) hx hb dX3_passesOrder_25 (by decide) ?_
    refine lv_bipush (v := 98) hx hb dX3_passesOrder_27 (by decide) ?_
    obtain ⟨r3, hr3, hf⟩ := q_bd_go hf
    refine q_wrVi (ci := 3) (As := [.int 98, .int 98]) (rest := []) hx hb hml hown hts (c_X3_passes l D cI cJ cS a r1.2 _ 98 98 _ hr3) (cwV 2 hts gX3_passesOrder_X3_passes rfl rfl rfl (by decide +kernel) ⟨(Nat.le_of_ble_eq_true rfl), (Nat.le_of_ble_eq_true rfl)⟩) hE hP hD hS (fun q h => Or.inr h) rfl rfl rfl hl.1 rfl (Nat.le_of_ble_eq_true rfl) dX3_passesOrder_29 ⟨Nat.zero_le _, Nat.zero_le _⟩ (fun H locs hP hD hS => ?_)
    refine lv_if_eq (tgt := 48) hx hb dX3_passesOrder_32 (by decide) (fun c4 => ?_) (fun c4 => ?_)
    · have hf := q_ite_t c4 hf
      refine lv_aload_n hx hb dX3_passesOrder_48 rfl (lv_at hl 0 rfl) ?_
      refine lv_bipush (v := 99) hx hb dX3_passesOrder_49 (by decide) ?_
      refine lv_bipush (v := 99) hx hb dX3_passesOrder_51 (by decide) ?_
      obtain ⟨r5, hr5, hf⟩ := q_bd_go hf
      refine q_wrVi (ci := 3) (As := [.int 99, .int 99]) (rest := []) hx hb hml hown hts (c_X3_passes l D cI cJ cS a r3.2 _ 99 99 _ hr5) (cwV 2 hts gX3_passesOrder_X3_passes rfl rfl rfl (by decide +kernel) ⟨(Nat.le_of_ble_eq_true rfl), (Nat.le_of_ble_eq_true rfl)⟩) hE hP hD hS (fun q h => Or.inr h) rfl rfl rfl hl.1 rfl (Nat.le_of_ble_eq_true rfl) dX3_passesOrder_53 ⟨Nat.zero_le _, Nat.zero_le _⟩ (fun H locs hP hD hS => ?_)
      refine lv_if_eq (tgt := 82) hx hb dX3_passesOrder_56 (by decide) (fun c6 => ?_) (fun c6 => ?_)
      · have hf := q_ite_t c6 hf
        refine lv_aload_n hx hb dX3_passesOrder_82 rfl (lv_at hl 0 rfl) ?_
        refine lv_iconst (v := 3) hx hb dX3_passesOrder_83 (by decide) ?_
        obtain ⟨S7, eS7, hf⟩ := q_let_go hf
        refine va_put (D := D) (ci := 3) (v := .int 3) (ty := .int) (C := RX3) (T := TX3) (N := 15) hx hb hu (fun _ h => h) tyX3 tyX3_ok nmX3 hown hE.1 hP hD hS 0 rfl rfl 9 (Nat.le_of_ble_eq_true rfl) (hts (.fieldLink RX3 227 "CoverMeterModel" "kind" "I") (List.mem_of_getElem? (i := 1) rfl)) (fun _ h9 => h9) rfl (by decide +kernel) rfl rfl (Nat.le_of_ble_eq_true rfl) dX3_passesOrder_84 (fun H locs hP hD hS => ?_)
        have hP : va_P D vwCl (wMD cI cJ a (sMD_kind r5.2 3)) H := hP
        have hD : va_D (va_A (wMD cI cJ a S) s.heap.size) (wMD cI cJ a (sMD_kind r5.2 3)) := hD
        rw [eS7] at hP hD
        refine lv_aload_n hx hb dX3_passesOrder_87 rfl (lv_at hl 0 rfl) ?_
        refine lv_bipush (v := 122) hx hb dX3_passesOrder_88 (by decide) ?_
        refine lv_bipush (v := 122) hx hb dX3_passesOrder_90 (by decide) ?_
        obtain ⟨r8, hr8, hf⟩ := q_bd_go hf
        refine q_wrVi (ci := 3) (As := [.int 122, .int 122]) (rest := []) hx hb hml hown hts (c_X3_passes l D cI cJ cS a S7 _ 122 122 _ hr8) (cwV 2 hts gX3_passesOrder_X3_passes rfl rfl rfl (by decide +kernel) ⟨(Nat.le_of_ble_eq_true rfl), (Nat.le_of_ble_eq_true rfl)⟩) hE hP hD hS (fun q h => Or.inr h) rfl rfl rfl hl.1 rfl (Nat.le_of_ble_eq_true rfl) dX3_passesOrder_92 ⟨Nat.zero_le _, Nat.zero_le _⟩ (fun H locs hP hD hS => ?_)
        refine lv_istore_n (lv' := [(1, .int r8.1), (0, .ref (a 0))]) hx hb dX3_passesOrder_95 rfl hl (by decide) rfl (fun ls hl => ?_)
        exact B_96 r8.2 _ _ hP hD hS r8.1 _ (lv_sub hl [1, 0] rfl) hf
      · have hf := q_ite_f c6 hf
        refine lv_aload_n hx hb dX3_passesOrder_59 rfl (lv_at hl 0 rfl) ?_
        refine lv_iconst (v := 2) hx hb dX3_passesOrder_60 (by decide) ?_
        obtain ⟨S12, eS12, hf⟩ := q_let_go hf
        refine va_put (D := D) (ci := 3) (v := .int 2) (ty := .int) (C := RX3) (T := TX3) (N := 15) hx hb hu (fun _ h => h) tyX3 tyX3_ok nmX3 hown hE.1 hP hD hS 0 rfl rfl 9 (Nat.le_of_ble_eq_true rfl) (hts (.fieldLink RX3 227 "CoverMeterModel" "kind" "I") (List.mem_of_getElem? (i := 1) rfl)) (fun _ h9 => h9) rfl (by decide +kernel) rfl rfl (Nat.le_of_ble_eq_true rfl) dX3_passesOrder_61 (fun H locs hP hD hS => ?_)
        have hP : va_P D vwCl (wMD cI cJ a (sMD_kind r5.2 2)) H := hP
        have hD : va_D (va_A (wMD cI cJ a S) s.heap.size) (wMD cI cJ a (sMD_kind r5.2 2)) := hD
        rw [eS12] at hP hD
        refine lv_aload_n hx hb dX3_passesOrder_64 rfl (lv_at hl 0 rfl) ?_
        refine lv_bipush (v := 29) hx hb dX3_passesOrder_65 (by decide) ?_
        obtain ⟨r13, hr13, hf⟩ := q_bd_go hf
        refine q_wrVi (ci := 3) (As := [.int 29]) (rest := []) hx hb hml hown hts (c_X3_passesNumber l D cI cJ cS a S12 _ 29 _ hr13) (cwV 1 hts gX3_passesOrder_X3_passesNumber rfl rfl rfl (by decide +kernel) ⟨(Nat.le_of_ble_eq_true rfl), (Nat.le_of_ble_eq_true rfl)⟩) hE hP hD hS (fun q h => Or.inr h) rfl rfl rfl hl.1 rfl (Nat.le_of_ble_eq_true rfl) dX3_passesOrder_67 ⟨Nat.zero_le _, Nat.zero_le _⟩ (fun H locs hP hD hS => ?_)
        refine lv_istore_n (lv' := [(1, .int r13.1), (0, .ref (a 0))]) hx hb dX3_passesOrder_70 rfl hl (by decide) rfl (fun ls hl => ?_)
        refine lv_aload_n hx hb dX3_passesOrder_71 rfl (lv_at hl 1 rfl) ?_
        refine lv_aload_n hx hb dX3_passesOrder_72 rfl (lv_at hl 1 rfl) ?_
        refine va_get (D := D) (ci := 3) (v := .int (MD_number r13.2)) (C := RX3) (T := TX3) (N := 15) hx hb hu (fun _ h => h) hown hE.1 hP 0 rfl rfl 8 (Nat.le_of_ble_eq_true rfl) (hts (.fieldLink RX3 206 "CoverMeterModel" "number" "I") (List.mem_of_getElem? (i := 2) rfl)) (fun _ h9 => h9) rfl dX3_passesOrder_73 ?_
        obtain ⟨S14, eS14, hf⟩ := q_let_go hf
        refine va_put (D := D) (ci := 3) (v := .int (MD_number r13.2)) (ty := .int) (C := RX3) (T := TX3) (N := 15) hx hb hu (fun _ h => h) tyX3 tyX3_ok nmX3 hown hE.1 hP hD hS 0 rfl rfl 10 (Nat.le_of_ble_eq_true rfl) (hts (.fieldLink RX3 215 "CoverMeterModel" "first" "I") (List.mem_of_getElem? (i := 3) rfl)) (fun _ h9 => h9) rfl (by decide +kernel) rfl rfl (Nat.le_of_ble_eq_true rfl) dX3_passesOrder_76 (fun H locs hP hD hS => ?_)
        have hP : va_P D vwCl (wMD cI cJ a (sMD_first r13.2 (MD_number r13.2))) H := hP
        have hD : va_D (va_A (wMD cI cJ a S) s.heap.size) (wMD cI cJ a (sMD_first r13.2 (MD_number r13.2))) := hD
        rw [eS14] at hP hD
        refine lv_goto (tgt := 96) hx hb dX3_passesOrder_79 (by decide) ?_
        exact B_96 S14 _ _ hP hD hS r13.1 _ (lv_sub hl [1, 0] rfl) hf
    · have hf := q_ite_f c4 hf
      refine lv_aload_n hx hb dX3_passesOrder_35 rfl (lv_at hl 0 rfl) ?_
      refine lv_iconst (v := 1) hx hb dX3_passesOrder_36 (by decide) ?_
      obtain ⟨S15, eS15, hf⟩ := q_let_go hf
      refine va_put (D := D) (ci := 3) (v := .int 1) (ty := .int) (C := RX3) (T := TX3) (N := 15) hx hb hu (fun _ h => h) tyX3 tyX3_ok nmX3 hown hE.1 hP hD hS 0 rfl rfl 9 (Nat.le_of_ble_eq_true rfl) (hts (.fieldLink RX3 227 "CoverMeterModel" "kind" "I") (List.mem_of_getElem? (i := 1) rfl)) (fun _ h9 => h9) rfl (by decide +kernel) rfl rfl (Nat.le_of_ble_eq_true rfl) dX3_passesOrder_37 (fun H locs hP hD hS => ?_)
      have hP : va_P D vwCl (wMD cI cJ a (sMD_kind r3.2 1)) H := hP
      have hD : va_D (va_A (wMD cI cJ a S) s.heap.size) (wMD cI cJ a (sMD_kind r3.2 1)) := hD
      rw [eS15] at hP hD
      refine lv_aload_n hx hb dX3_passesOrder_40 rfl (lv_at hl 0 rfl) ?_
      obtain ⟨r16, hr16, hf⟩ := q_bd_go hf
      refine q_wrVi (ci := 3) (As := []) (rest := []) hx hb hml hown hts (c_X3_passesBid l D cI cJ cS a S15 _  _ hr16) (cwV 0 hts gX3_passesOrder_X3_passesBid rfl rfl rfl (by decide +kernel) ⟨(Nat.le_of_ble_eq_true rfl), (Nat.le_of_ble_eq_true rfl)⟩) hE hP hD hS (fun q h => Or.inr h) rfl rfl rfl hl.1 rfl (Nat.le_of_ble_eq_true rfl) dX3_passesOrder_41 ⟨Nat.zero_le _, Nat.zero_le _⟩ (fun H locs hP hD hS => ?_)
      refine lv_istore_n (lv' := [(1, .int r16.1), (0, .ref (a 0))]) hx hb dX3_passesOrder_44 rfl hl (by decide) rfl (fun ls hl => ?_)
      refine lv_goto (tgt := 96) hx hb dX3_passesOrder_45 (by decide) ?_
      exact B_96 r16.2 _ _ hP hD hS r16.1 _ (lv_sub hl [1, 0] rfl) hf
  · have hf := q_ite_f c2 hf
    refine lv_aload_n hx hb dX3_passesOrder_11 rfl (lv_at hl 0 rfl) ?_
    refine lv_iconst (v := 0) hx hb dX3_passesOrder_12 (by decide) ?_
    obtain ⟨S17, eS17, hf⟩ := q_let_go hf
    refine va_put (D := D) (ci := 3) (v := .int 0) (ty := .int) (C := RX3) (T := TX3) (N := 15) hx hb hu (fun _ h => h) tyX3 tyX3_ok nmX3 hown hE.1 hP hD hS 0 rfl rfl 9 (Nat.le_of_ble_eq_true rfl) (hts (.fieldLink RX3 227 "CoverMeterModel" "kind" "I") (List.mem_of_getElem? (i := 1) rfl)) (fun _ h9 => h9) rfl (by decide +kernel) rfl rfl (Nat.le_of_ble_eq_true rfl) dX3_passesOrder_13 (fun H locs hP hD hS => ?_)
    have hP : va_P D vwCl (wMD cI cJ a (sMD_kind r1.2 0)) H := hP
    have hD : va_D (va_A (wMD cI cJ a S) s.heap.size) (wMD cI cJ a (sMD_kind r1.2 0)) := hD
    rw [eS17] at hP hD
    refine lv_aload_n hx hb dX3_passesOrder_16 rfl (lv_at hl 0 rfl) ?_
    obtain ⟨r18, hr18, hf⟩ := q_bd_go hf
    refine q_wrVi (ci := 3) (As := []) (rest := []) hx hb hml hown hts (c_X3_passesAbsence l D cI cJ cS a S17 _  _ hr18) (cwV 0 hts gX3_passesOrder_X3_passesAbsence rfl rfl rfl (by decide +kernel) ⟨(Nat.le_of_ble_eq_true rfl), (Nat.le_of_ble_eq_true rfl)⟩) hE hP hD hS (fun q h => Or.inr h) rfl rfl rfl hl.1 rfl (Nat.le_of_ble_eq_true rfl) dX3_passesOrder_17 ⟨Nat.zero_le _, Nat.zero_le _⟩ (fun H locs hP hD hS => ?_)
    refine lv_istore_n (lv' := [(1, .int r18.1), (0, .ref (a 0))]) hx hb dX3_passesOrder_20 rfl hl (by decide) rfl (fun ls hl => ?_)
    refine lv_goto (tgt := 96) hx hb dX3_passesOrder_21 (by decide) ?_
    exact B_96 r18.2 _ _ hP hD hS r18.1 _ (lv_sub hl [1, 0] rfl) hf
def f_X3_faultOf_5 : Nat → MD → Option (Int32 × MD)
  | 0, _ => none
  | n+1, Sz => if (MD_length Sz) ≤ (MD_at Sz) then
 (some ((-1), Sz))
 else ((f_X3_passesOrder Sz).bind fun r3 =>
 if ¬ r3.1 = 0 then
 (f_X3_faultOf_5 n r3.2)
 else (some ((MD_at r3.2), r3.2)))
def f_X3_faultOf (S : MD) : Option (Int32 × MD) := q_let (sMD_at S 0) fun S1 =>
 f_X3_faultOf_5 2000 S1
abbrev rX3_faultOf : Room := { frames := 6, cells := 0, slots := 0, locals := 132 }
set_option maxRecDepth 100000 in
set_option maxHeartbeats 4000000 in
theorem c_X3_faultOf (l : Launch) (D : va_G) (cI cJ cS : ClassId) (a : Nat → Nat) (S : MD) (sz : Nat) (o : (Int32 × MD)) (hf : f_X3_faultOf S = some o) : Met l yX3_faultOf wsX3_faultOf rX3_faultOf (va_Pc [.ref (a 0)] (q_BW D cI cJ cS (wMD cI cJ a S) sz)) (q_Wo (some (.int o.1)) D (wMD cI cJ a S) (wMD cI cJ a o.2) sz) 0 0 (va_A (wMD cI cJ a S) sz) := by
  refine Met.ofW (cc := cX3_faultOf) (maxL := 1) (ret := some .int) (by decide) rfl ?_
  intro p e s m args below meth c s₁ B hml hv
  obtain ⟨rfl, hsz, hP, hE, hD0⟩ := hv
  have hx := B.exec
  have hb := B.bytes
  have hr := B.returns
  have hts := atoms_spec (ws := wsX3_faultOf) B.pre
  have hown : s.vm.findClass RX3 = some m.cls := findClass_of_methodNamed B.named
  have hlocks := B.notSynchronized
  have hu : ∀ z ∈ wsX30, z.before _ s = true := fun z h => hts z (List.mem_cons_of_mem _ (List.mem_append_right _ h))
  subst hsz
  have hD := hD0.self (sz := s.heap.size)
  have hS : va_S (va_A (wMD cI cJ a S) s.heap.size) s.heap s.heap [] := va_S.rf
  have L_5 : ∀ (n : Nat) (Sz : MD) (H : Heap) (locs : List Loc) (hP : va_P D vwCl (wMD cI cJ a Sz) H) (hD : va_D (va_A (wMD cI cJ a S) s.heap.size) (wMD cI cJ a Sz)) (hS : va_S (va_A (wMD cI cJ a S) s.heap.size) s.heap H locs) (ls : Array Slot), lv_has ls 1 [(0, .ref (a 0))] → f_X3_faultOf_5 n Sz = some o → W p l e (headSpec wsX3_faultOf rX3_faultOf).room s m (([.ref (a 0)] : List Value).toArray) below meth c H locs 0 0 (MQ below (q_Wo (some (.int o.1)) D (wMD cI cJ a S) (wMD cI cJ a o.2) s.heap.size) (([.ref (a 0)] : List Value).toArray) s 0 0 (va_A (wMD cI cJ a S) s.heap.size)) (F0 m 5 ls []) := by
    intro n
    induction n with
    | zero => intro Sz H locs hP hD hS ls hl hf; cases hf
    | succ n ih =>
      intro Sz H locs hP hD hS ls hl hf
      rw [f_X3_faultOf_5] at hf
      refine lv_aload_n hx hb dX3_faultOf_5 rfl (lv_at hl 0 rfl) ?_
      refine va_get (D := D) (ci := 3) (v := .int (MD_at Sz)) (C := RX3) (T := TX3) (N := 15) hx hb hu (fun _ h => h) hown hE.1 hP 0 rfl rfl 6 (Nat.le_of_ble_eq_true rfl) (hts (.fieldLink RX3 200 "CoverMeterModel" "at" "I") (List.mem_of_getElem? (i := 1) rfl)) (fun _ h9 => h9) rfl dX3_faultOf_6 ?_
      refine lv_aload_n hx hb dX3_faultOf_9 rfl (lv_at hl 0 rfl) ?_
      refine va_get (D := D) (ci := 3) (v := .int (MD_length Sz)) (C := RX3) (T := TX3) (N := 15) hx hb hu (fun _ h => h) hown hE.1 hP 0 rfl rfl 5 (Nat.le_of_ble_eq_true rfl) (hts (.fieldLink RX3 197 "CoverMeterModel" "length" "I") (List.mem_of_getElem? (i := 2) rfl)) (fun _ h9 => h9) rfl dX3_faultOf_10 ?_
      refine lv_icmp_ge (tgt := 28) hx hb dX3_faultOf_13 (by decide) (fun c2 => ?_) (fun c2 => ?_)
      · have hf := q_ite_t c2 hf
        refine lv_iconst (v := (-1)) hx hb dX3_faultOf_28 (by decide) ?_
        have ho := q_some hf
        subst ho
        exact W.iret hx hb hr (fun t ht hW => ⟨rfl, ⟨by rw [ht]; exact hP, hD⟩, hS.F ht⟩) hS.2.2 dX3_faultOf_29
      · have hf := q_ite_f c2 hf
        refine lv_aload_n hx hb dX3_faultOf_16 rfl (lv_at hl 0 rfl) ?_
        obtain ⟨r3, hr3, hf⟩ := q_bd_go hf
        refine q_wrVi (ci := 3) (As := []) (rest := []) hx hb hml hown hts (c_X3_passesOrder l D cI cJ cS a Sz _  _ hr3) (cwV 0 hts gX3_faultOf_X3_passesOrder rfl rfl rfl (by decide +kernel) ⟨(Nat.le_of_ble_eq_true rfl), (Nat.le_of_ble_eq_true rfl)⟩) hE hP hD hS (fun q h => Or.inr h) rfl rfl rfl hl.1 rfl (Nat.le_of_ble_eq_true rfl) dX3_faultOf_17 ⟨Nat.zero_le _, Nat.zero_le _⟩ (fun H locs hP hD hS => ?_)
        refine lv_if_ne (tgt := 5) hx hb dX3_faultOf_20 (by decide) (fun c4 => ?_) (fun c4 => ?_)
        · have hf := q_ite_t c4 hf
          exact ih r3.2 _ _ hP hD hS _ (lv_sub hl [0] rfl) hf
        · have hf := q_ite_n c4 hf
          refine lv_aload_n hx hb dX3_faultOf_23 rfl (lv_at hl 0 rfl) ?_
          refine va_get (D := D) (ci := 3) (v := .int (MD_at r3.2)) (C := RX3) (T := TX3) (N := 15) hx hb hu (fun _ h => h) hown hE.1 hP 0 rfl rfl 6 (Nat.le_of_ble_eq_true rfl) (hts (.fieldLink RX3 200 "CoverMeterModel" "at" "I") (List.mem_of_getElem? (i := 1) rfl)) (fun _ h9 => h9) rfl dX3_faultOf_24 ?_
          have ho := q_some hf
          subst ho
          exact W.iret hx hb hr (fun t ht hW => ⟨rfl, ⟨by rw [ht]; exact hP, hD⟩, hS.F ht⟩) hS.2.2 dX3_faultOf_27
  have hl := lv_entry ([.ref (a 0)]) (n := 1) (Nat.le_of_ble_eq_true rfl)
  rw [lg_entry_eq]
  generalize (lg_sl ([.ref (a 0)]) ++ List.replicate (1 - (lg_sl ([.ref (a 0)])).length) Slot.unset).toArray = ls at hl ⊢
  have hl : lv_has ls 1 [(0, .ref (a 0))] := hl
  unfold f_X3_faultOf at hf
  refine lv_aload_n hx hb dX3_faultOf_0 rfl (lv_at hl 0 rfl) ?_
  refine lv_iconst (v := 0) hx hb dX3_faultOf_1 (by decide) ?_
  obtain ⟨S1, eS1, hf⟩ := q_let_go hf
  refine va_put (D := D) (ci := 3) (v := .int 0) (ty := .int) (C := RX3) (T := TX3) (N := 15) hx hb hu (fun _ h => h) tyX3 tyX3_ok nmX3 hown hE.1 hP hD hS 0 rfl rfl 6 (Nat.le_of_ble_eq_true rfl) (hts (.fieldLink RX3 200 "CoverMeterModel" "at" "I") (List.mem_of_getElem? (i := 1) rfl)) (fun _ h9 => h9) rfl (by decide +kernel) rfl rfl (Nat.le_of_ble_eq_true rfl) dX3_faultOf_2 (fun H locs hP hD hS => ?_)
  have hP : va_P D vwCl (wMD cI cJ a (sMD_at S 0)) H := hP
  have hD : va_D (va_A (wMD cI cJ a S) s.heap.size) (wMD cI cJ a (sMD_at S 0)) := hD
  rw [eS1] at hP hD
  exact L_5 2000 S1 _ _ hP hD hS _ (lv_sub hl [0] rfl) hf
def f_X3_does_126 (Sz : MD) (t0 : Int32) : Option (Int32 × MD) := if t0 = 0 then
 (if t0 = 0 ∨ t0 = 1 then some (t0, Sz) else none)
 else ((f_X3_becomes Sz (MD_second Sz) (5 + (MD_first Sz)) (MD_third Sz)).bind fun r12 =>
 if t0 = 0 ∨ t0 = 1 then some (t0, r12) else none)
def f_X3_does_38 (Sz : MD) (t0 : Int32) : Option (Int32 × MD) := if t0 = 0 then
 (if t0 = 0 ∨ t0 = 1 then some (t0, Sz) else none)
 else ((f_X3_adds Sz (MD_first Sz) (MD_second Sz)).bind fun r23 =>
 if t0 = 0 ∨ t0 = 1 then some (t0, r23.2) else none)
def f_X3_does (S : MD) : Option (Int32 × MD) := if ¬ (MD_kind S) = 0 then
 (if ¬ (MD_kind S) = 1 then
 (if ¬ (MD_kind S) = 2 then
 ((f_X3_coversAll S).bind fun r4 =>
 some (1, r4.2))
 else ((f_X3_isAbsence S (MD_first S)).bind fun r5 =>
 if r5 = 0 then
 (some (0, S))
 else ((f_X3_covers S (MD_first S)).bind fun r7 =>
 if r7.1 = (-1) then
 (some (0, r7.2))
 else (some (1, r7.2)))))
 else ((f_X3_isPerson S (MD_first S)).bind fun r9 =>
 if r9 = 0 then
 (f_X3_does_126 S 0)
 else ((f_X3_isAbsence S (MD_second S)).bind fun r13 =>
 if r13 = 0 then
 (f_X3_does_126 S 0)
 else (if q_in 2 420 = true then
 ((f_X3_isIn (((MD_third S) : Int32).toInt64) 0 (MD_now S (2 : Int32).toNatClampNeg)).bind fun r16 =>
 if r16 = 0 then
 (f_X3_does_126 S 0)
 else ((f_X3_mayBid S (MD_first S) (MD_second S)).bind fun r18 =>
 if r18 = 0 then
 (f_X3_does_126 S 0)
 else (f_X3_does_126 S 1))) else none))))
 else ((f_X3_isPerson S (MD_first S)).bind fun r20 =>
 if r20 = 0 then
 (f_X3_does_38 S 0)
 else ((f_X3_mayBeAbsent S (MD_first S) (MD_second S)).bind fun r24 =>
 if r24 = 0 then
 (f_X3_does_38 S 0)
 else (f_X3_does_38 S 1)))
abbrev rX3_does : Room := { frames := 10, cells := 0, slots := 0, locals := 226 }
set_option maxRecDepth 100000 in
set_option maxHeartbeats 4000000 in
theorem c_X3_does (l : Launch) (D : va_G) (cI cJ cS : ClassId) (a : Nat → Nat) (S : MD) (sz : Nat) (o : (Int32 × MD)) (hf : f_X3_does S = some o) : Met l yX3_does wsX3_does rX3_does (va_Pc [.ref (a 0)] (q_BW D cI cJ cS (wMD cI cJ a S) sz)) (q_Wo (some (.int o.1)) D (wMD cI cJ a S) (wMD cI cJ a o.2) sz) 0 0 (va_A (wMD cI cJ a S) sz) := by
  refine Met.ofW (cc := cX3_does) (maxL := 2) (ret := some .boolean) (by decide) rfl ?_
  intro p e s m args below meth c s₁ B hml hv
  obtain ⟨rfl, hsz, hP, hE, hD0⟩ := hv
  have hx := B.exec
  have hb := B.bytes
  have hr := B.returns
  have hts := atoms_spec (ws := wsX3_does) B.pre
  have hown : s.vm.findClass RX3 = some m.cls := findClass_of_methodNamed B.named
  have hlocks := B.notSynchronized
  have hu : ∀ z ∈ wsX30, z.before _ s = true := fun z h => hts z (List.mem_cons_of_mem _ (List.mem_append_right _ h))
  subst hsz
  have hD := hD0.self (sz := s.heap.size)
  have hS : va_S (va_A (wMD cI cJ a S) s.heap.size) s.heap s.heap [] := va_S.rf
  have B_126 : ∀ (Sz : MD) (H : Heap) (locs : List Loc) (hP : va_P D vwCl (wMD cI cJ a Sz) H) (hD : va_D (va_A (wMD cI cJ a S) s.heap.size) (wMD cI cJ a Sz)) (hS : va_S (va_A (wMD cI cJ a S) s.heap.size) s.heap H locs) (t0 : Int32) (ls : Array Slot), lv_has ls 2 [(0, .ref (a 0))] → f_X3_does_126 Sz t0 = some o → W p l e (headSpec wsX3_does rX3_does).room s m (([.ref (a 0)] : List Value).toArray) below meth c H locs 0 0 (MQ below (q_Wo (some (.int o.1)) D (wMD cI cJ a S) (wMD cI cJ a o.2) s.heap.size) (([.ref (a 0)] : List Value).toArray) s 0 0 (va_A (wMD cI cJ a S) s.heap.size)) (F0 m 126 ls [.int t0]) := by
    intro Sz H locs hP hD hS t0 ls hl hf
    unfold f_X3_does_126 at hf
    refine lv_istore_n (lv' := [(1, .int t0), (0, .ref (a 0))]) hx hb dX3_does_126 rfl hl (by decide) rfl (fun ls hl => ?_)
    refine lv_iload_n hx hb dX3_does_127 rfl (lv_at hl 0 rfl) ?_
    refine lv_if_eq (tgt := 149) hx hb dX3_does_128 (by decide) (fun c11 => ?_) (fun c11 => ?_)
    · have hf := q_ite_t c11 hf
      refine lv_iload_n hx hb dX3_does_149 rfl (lv_at hl 0 rfl) ?_
      have hbo := q_gc_in hf
      have hf := q_ite_t hbo hf
      have ho := q_some hf
      subst ho
      exact W.zret hx hb hr (q_nz hbo) (fun t ht hW => ⟨rfl, ⟨by rw [ht]; exact hP, hD⟩, hS.F ht⟩) hS.2.2 dX3_does_150
    · have hf := q_ite_f c11 hf
      refine lv_aload_n hx hb dX3_does_131 rfl (lv_at hl 1 rfl) ?_
      refine lv_aload_n hx hb dX3_does_132 rfl (lv_at hl 1 rfl) ?_
      refine va_get (D := D) (ci := 3) (v := .int (MD_second Sz)) (C := RX3) (T := TX3) (N := 15) hx hb hu (fun _ h => h) hown hE.1 hP 0 rfl rfl 11 (Nat.le_of_ble_eq_true rfl) (hts (.fieldLink RX3 221 "CoverMeterModel" "second" "I") (List.mem_of_getElem? (i := 3) rfl)) (fun _ h9 => h9) rfl dX3_does_133 ?_
      refine lv_iconst (v := 5) hx hb dX3_does_136 (by decide) ?_
      refine lv_aload_n hx hb dX3_does_137 rfl (lv_at hl 1 rfl) ?_
      refine va_get (D := D) (ci := 3) (v := .int (MD_first Sz)) (C := RX3) (T := TX3) (N := 15) hx hb hu (fun _ h => h) hown hE.1 hP 0 rfl rfl 10 (Nat.le_of_ble_eq_true rfl) (hts (.fieldLink RX3 215 "CoverMeterModel" "first" "I") (List.mem_of_getElem? (i := 2) rfl)) (fun _ h9 => h9) rfl dX3_does_138 ?_
      refine lv_iadd hx hb dX3_does_141 ?_
      refine lv_aload_n hx hb dX3_does_142 rfl (lv_at hl 1 rfl) ?_
      refine va_get (D := D) (ci := 3) (v := .int (MD_third Sz)) (C := RX3) (T := TX3) (N := 15) hx hb hu (fun _ h => h) hown hE.1 hP 0 rfl rfl 12 (Nat.le_of_ble_eq_true rfl) (hts (.fieldLink RX3 224 "CoverMeterModel" "third" "I") (List.mem_of_getElem? (i := 4) rfl)) (fun _ h9 => h9) rfl dX3_does_143 ?_
      obtain ⟨r12, hr12, hf⟩ := q_bd_go hf
      refine q_wrVv (ci := 3) (As := [.int (MD_second Sz), .int (5 + (MD_first Sz)), .int (MD_third Sz)]) (rest := []) hx hb hml hown hts (c_X3_becomes l D cI cJ cS a Sz _ (MD_second Sz) (5 + (MD_first Sz)) (MD_third Sz) _ hr12) (cwV 3 hts gX3_does_X3_becomes rfl rfl rfl (by decide +kernel) ⟨(Nat.le_of_ble_eq_true rfl), (Nat.le_of_ble_eq_true rfl)⟩) hE hP hD hS (fun q h => Or.inr h) rfl rfl rfl hl.1 rfl (Nat.le_of_ble_eq_true rfl) dX3_does_146 ⟨Nat.zero_le _, Nat.zero_le _⟩ (fun H locs hP hD hS => ?_)
      refine lv_iload_n hx hb dX3_does_149 rfl (lv_at hl 0 rfl) ?_
      have hbo := q_gc_in hf
      have hf := q_ite_t hbo hf
      have ho := q_some hf
      subst ho
      exact W.zret hx hb hr (q_nz hbo) (fun t ht hW => ⟨rfl, ⟨by rw [ht]; exact hP, hD⟩, hS.F ht⟩) hS.2.2 dX3_does_150
  have B_38 : ∀ (Sz : MD) (H : Heap) (locs : List Loc) (hP : va_P D vwCl (wMD cI cJ a Sz) H) (hD : va_D (va_A (wMD cI cJ a S) s.heap.size) (wMD cI cJ a Sz)) (hS : va_S (va_A (wMD cI cJ a S) s.heap.size) s.heap H locs) (t0 : Int32) (ls : Array Slot), lv_has ls 2 [(0, .ref (a 0))] → f_X3_does_38 Sz t0 = some o → W p l e (headSpec wsX3_does rX3_does).room s m (([.ref (a 0)] : List Value).toArray) below meth c H locs 0 0 (MQ below (q_Wo (some (.int o.1)) D (wMD cI cJ a S) (wMD cI cJ a o.2) s.heap.size) (([.ref (a 0)] : List Value).toArray) s 0 0 (va_A (wMD cI cJ a S) s.heap.size)) (F0 m 38 ls [.int t0]) := by
    intro Sz H locs hP hD hS t0 ls hl hf
    unfold f_X3_does_38 at hf
    refine lv_istore_n (lv' := [(1, .int t0), (0, .ref (a 0))]) hx hb dX3_does_38 rfl hl (by decide) rfl (fun ls hl => ?_)
    refine lv_iload_n hx hb dX3_does_39 rfl (lv_at hl 0 rfl) ?_
    refine lv_if_eq (tgt := 56) hx hb dX3_does_40 (by decide) (fun c22 => ?_) (fun c22 => ?_)
    · have hf := q_ite_t c22 hf
      refine lv_iload_n hx hb dX3_does_56 rfl (lv_at hl 0 rfl) ?_
      have hbo := q_gc_in hf
      have hf := q_ite_t hbo hf
      have ho := q_some hf
      subst ho
      exact W.zret hx hb hr (q_nz hbo) (fun t ht hW => ⟨rfl, ⟨by rw [ht]; exact hP, hD⟩, hS.F ht⟩) hS.2.2 dX3_does_57
    · have hf := q_ite_f c22 hf
      refine lv_aload_n hx hb dX3_does_43 rfl (lv_at hl 1 rfl) ?_
      refine lv_aload_n hx hb dX3_does_44 rfl (lv_at hl 1 rfl) ?_
      refine va_get (D := D) (ci := 3) (v := .int (MD_first Sz)) (C := RX3) (T := TX3) (N := 15) hx hb hu (fun _ h => h) hown hE.1 hP 0 rfl rfl 10 (Nat.le_of_ble_eq_true rfl) (hts (.fieldLink RX3 215 "CoverMeterModel" "first" "I") (List.mem_of_getElem? (i := 2) rfl)) (fun _ h9 => h9) rfl dX3_does_45 ?_
      refine lv_aload_n hx hb dX3_does_48 rfl (lv_at hl 1 rfl) ?_
      refine va_get (D := D) (ci := 3) (v := .int (MD_second Sz)) (C := RX3) (T := TX3) (N := 15) hx hb hu (fun _ h => h) hown hE.1 hP 0 rfl rfl 11 (Nat.le_of_ble_eq_true rfl) (hts (.fieldLink RX3 221 "CoverMeterModel" "second" "I") (List.mem_of_getElem? (i := 3) rfl)) (fun _ h9 => h9) rfl dX3_does_49 ?_
      obtain ⟨r23, hr23, hf⟩ := q_bd_go hf
      refine q_wrVi (ci := 3) (As := [.int (MD_first Sz), .int (MD_second Sz)]) (rest := []) hx hb hml hown hts (c_X3_adds l D cI cJ cS a Sz _ (MD_first Sz) (MD_second Sz) _ hr23) (cwV 2 hts gX3_does_X3_adds rfl rfl rfl (by decide +kernel) ⟨(Nat.le_of_ble_eq_true rfl), (Nat.le_of_ble_eq_true rfl)⟩) hE hP hD hS (fun q h => Or.inr h) rfl rfl rfl hl.1 rfl (Nat.le_of_ble_eq_true rfl) dX3_does_52 ⟨Nat.zero_le _, Nat.zero_le _⟩ (fun H locs hP hD hS => ?_)
      refine lv_pop hx hb dX3_does_55 rfl ?_
      refine lv_iload_n hx hb dX3_does_56 rfl (lv_at hl 0 rfl) ?_
      have hbo := q_gc_in hf
      have hf := q_ite_t hbo hf
      have ho := q_some hf
      subst ho
      exact W.zret hx hb hr (q_nz hbo) (fun t ht hW => ⟨rfl, ⟨by rw [ht]; exact hP, hD⟩, hS.F ht⟩) hS.2.2 dX3_does_57
  have hl := lv_entry ([.ref (a 0)]) (n := 2) (Nat.le_of_ble_eq_true rfl)
  rw [lg_entry_eq]
  generalize (lg_sl ([.ref (a 0)]) ++ List.replicate (2 - (lg_sl ([.ref (a 0)])).length) Slot.unset).toArray = ls at hl ⊢
  have hl : lv_has ls 2 [(0, .ref (a 0))] := hl
  unfold f_X3_does at hf
  refine lv_aload_n hx hb dX3_does_0 rfl (lv_at hl 0 rfl) ?_
  refine va_get (D := D) (ci := 3) (v := .int (MD_kind S)) (C := RX3) (T := TX3) (N := 15) hx hb hu (fun _ h => h) hown hE.1 hP 0 rfl rfl 9 (Nat.le_of_ble_eq_true rfl) (hts (.fieldLink RX3 227 "CoverMeterModel" "kind" "I") (List.mem_of_getElem? (i := 1) rfl)) (fun _ h9 => h9) rfl dX3_does_1 ?_
  refine lv_if_ne (tgt := 58) hx hb dX3_does_4 (by decide) (fun c1 => ?_) (fun c1 => ?_)
  · have hf := q_ite_t c1 hf
    refine lv_aload_n hx hb dX3_does_58 rfl (lv_at hl 0 rfl) ?_
    refine va_get (D := D) (ci := 3) (v := .int (MD_kind S)) (C := RX3) (T := TX3) (N := 15) hx hb hu (fun _ h => h) hown hE.1 hP 0 rfl rfl 9 (Nat.le_of_ble_eq_true rfl) (hts (.fieldLink RX3 227 "CoverMeterModel" "kind" "I") (List.mem_of_getElem? (i := 1) rfl)) (fun _ h9 => h9) rfl dX3_does_59 ?_
    refine lv_iconst (v := 1) hx hb dX3_does_62 (by decide) ?_
    refine lv_icmp_ne (tgt := 151) hx hb dX3_does_63 (by decide) (fun c2 => ?_) (fun c2 => ?_)
    · have hf := q_ite_t c2 hf
      refine lv_aload_n hx hb dX3_does_151 rfl (lv_at hl 0 rfl) ?_
      refine va_get (D := D) (ci := 3) (v := .int (MD_kind S)) (C := RX3) (T := TX3) (N := 15) hx hb hu (fun _ h => h) hown hE.1 hP 0 rfl rfl 9 (Nat.le_of_ble_eq_true rfl) (hts (.fieldLink RX3 227 "CoverMeterModel" "kind" "I") (List.mem_of_getElem? (i := 1) rfl)) (fun _ h9 => h9) rfl dX3_does_152 ?_
      refine lv_iconst (v := 2) hx hb dX3_does_155 (by decide) ?_
      refine lv_icmp_ne (tgt := 188) hx hb dX3_does_156 (by decide) (fun c3 => ?_) (fun c3 => ?_)
      · have hf := q_ite_t c3 hf
        refine lv_aload_n hx hb dX3_does_188 rfl (lv_at hl 0 rfl) ?_
        obtain ⟨r4, hr4, hf⟩ := q_bd_go hf
        refine q_wrVi (ci := 3) (As := []) (rest := []) hx hb hml hown hts (c_X3_coversAll l D cI cJ cS a S _  _ hr4) (cwV 0 hts gX3_does_X3_coversAll rfl rfl rfl (by decide +kernel) ⟨(Nat.le_of_ble_eq_true rfl), (Nat.le_of_ble_eq_true rfl)⟩) hE hP hD hS (fun q h => Or.inr h) rfl rfl rfl hl.1 rfl (Nat.le_of_ble_eq_true rfl) dX3_does_189 ⟨Nat.zero_le _, Nat.zero_le _⟩ (fun H locs hP hD hS => ?_)
        refine lv_pop hx hb dX3_does_192 rfl ?_
        refine lv_iconst (v := 1) hx hb dX3_does_193 (by decide) ?_
        have ho := q_some hf
        subst ho
        exact W.zret hx hb hr rfl (fun t ht hW => ⟨rfl, ⟨by rw [ht]; exact hP, hD⟩, hS.F ht⟩) hS.2.2 dX3_does_194
      · have hf := q_ite_n c3 hf
        refine lv_aload_n hx hb dX3_does_159 rfl (lv_at hl 0 rfl) ?_
        refine lv_aload_n hx hb dX3_does_160 rfl (lv_at hl 0 rfl) ?_
        refine va_get (D := D) (ci := 3) (v := .int (MD_first S)) (C := RX3) (T := TX3) (N := 15) hx hb hu (fun _ h => h) hown hE.1 hP 0 rfl rfl 10 (Nat.le_of_ble_eq_true rfl) (hts (.fieldLink RX3 215 "CoverMeterModel" "first" "I") (List.mem_of_getElem? (i := 2) rfl)) (fun _ h9 => h9) rfl dX3_does_161 ?_
        obtain ⟨r5, hr5, hf⟩ := q_bd_go hf
        refine q_rdVi (ci := 3) (As := [.int (MD_first S)]) (rest := []) hx hb hml hown hts (c_X3_isAbsence l D cI cJ cS a S (MD_first S) _ hr5) (cwV 1 hts gX3_does_X3_isAbsence rfl rfl rfl (by decide +kernel) ⟨(Nat.le_of_ble_eq_true rfl), (Nat.le_of_ble_eq_true rfl)⟩) hE hP rfl rfl rfl hl.1 rfl (Nat.le_of_ble_eq_true rfl) dX3_does_164 ⟨Nat.zero_le _, Nat.zero_le _⟩ ?_
        refine lv_if_eq (tgt := 186) hx hb dX3_does_167 (by decide) (fun c6 => ?_) (fun c6 => ?_)
        · have hf := q_ite_t c6 hf
          refine lv_iconst (v := 0) hx hb dX3_does_186 (by decide) ?_
          have ho := q_some hf
          subst ho
          exact W.zret hx hb hr rfl (fun t ht hW => ⟨rfl, ⟨by rw [ht]; exact hP, hD⟩, hS.F ht⟩) hS.2.2 dX3_does_187
        · have hf := q_ite_f c6 hf
          refine lv_aload_n hx hb dX3_does_170 rfl (lv_at hl 0 rfl) ?_
          refine lv_aload_n hx hb dX3_does_171 rfl (lv_at hl 0 rfl) ?_
          refine va_get (D := D) (ci := 3) (v := .int (MD_first S)) (C := RX3) (T := TX3) (N := 15) hx hb hu (fun _ h => h) hown hE.1 hP 0 rfl rfl 10 (Nat.le_of_ble_eq_true rfl) (hts (.fieldLink RX3 215 "CoverMeterModel" "first" "I") (List.mem_of_getElem? (i := 2) rfl)) (fun _ h9 => h9) rfl dX3_does_172 ?_
          obtain ⟨r7, hr7, hf⟩ := q_bd_go hf
          refine q_wrVi (ci := 3) (As := [.int (MD_first S)]) (rest := []) hx hb hml hown hts (c_X3_covers l D cI cJ cS a S _ (MD_first S) _ hr7) (cwV 1 hts gX3_does_X3_covers rfl rfl rfl (by decide +kernel) ⟨(Nat.le_of_ble_eq_true rfl), (Nat.le_of_ble_eq_true rfl)⟩) hE hP hD hS (fun q h => Or.inr h) rfl rfl rfl hl.1 rfl (Nat.le_of_ble_eq_true rfl) dX3_does_175 ⟨Nat.zero_le _, Nat.zero_le _⟩ (fun H locs hP hD hS => ?_)
          refine lv_iconst (v := (-1)) hx hb dX3_does_178 (by decide) ?_
          refine lv_icmp_eq (tgt := 186) hx hb dX3_does_179 (by decide) (fun c8 => ?_) (fun c8 => ?_)
          · have hf := q_ite_t c8 hf
            refine lv_iconst (v := 0) hx hb dX3_does_186 (by decide) ?_
            have ho := q_some hf
            subst ho
            exact W.zret hx hb hr rfl (fun t ht hW => ⟨rfl, ⟨by rw [ht]; exact hP, hD⟩, hS.F ht⟩) hS.2.2 dX3_does_187
          · have hf := q_ite_f c8 hf
            refine lv_iconst (v := 1) hx hb dX3_does_182 (by decide) ?_
            refine lv_goto (tgt := 187) hx hb dX3_does_183 (by decide) ?_
            have ho := q_some hf
            subst ho
            exact W.zret hx hb hr rfl (fun t ht hW => ⟨rfl, ⟨by rw [ht]; exact hP, hD⟩, hS.F ht⟩) hS.2.2 dX3_does_187
    · have hf := q_ite_n c2 hf
      refine lv_aload_n hx hb dX3_does_66 rfl (lv_at hl 0 rfl) ?_
      refine lv_aload_n hx hb dX3_does_67 rfl (lv_at hl 0 rfl) ?_
      refine va_get (D := D) (ci := 3) (v := .int (MD_first S)) (C := RX3) (T := TX3) (N := 15) hx hb hu (fun _ h => h) hown hE.1 hP 0 rfl rfl 10 (Nat.le_of_ble_eq_true rfl) (hts (.fieldLink RX3 215 "CoverMeterModel" "first" "I") (List.mem_of_getElem? (i := 2) rfl)) (fun _ h9 => h9) rfl dX3_does_68 ?_
      obtain ⟨r9, hr9, hf⟩ := q_bd_go hf
      refine q_rdVi (ci := 3) (As := [.int (MD_first S)]) (rest := []) hx hb hml hown hts (c_X3_isPerson l D cI cJ cS a S (MD_first S) _ hr9) (cwV 1 hts gX3_does_X3_isPerson rfl rfl rfl (by decide +kernel) ⟨(Nat.le_of_ble_eq_true rfl), (Nat.le_of_ble_eq_true rfl)⟩) hE hP rfl rfl rfl hl.1 rfl (Nat.le_of_ble_eq_true rfl) dX3_does_71 ⟨Nat.zero_le _, Nat.zero_le _⟩ ?_
      refine lv_if_eq (tgt := 125) hx hb dX3_does_74 (by decide) (fun c10 => ?_) (fun c10 => ?_)
      · have hf := q_ite_t c10 hf
        refine lv_iconst (v := 0) hx hb dX3_does_125 (by decide) ?_
        exact B_126 S _ _ hP hD hS 0 _ (lv_sub hl [0] rfl) hf
      · have hf := q_ite_f c10 hf
        refine lv_aload_n hx hb dX3_does_77 rfl (lv_at hl 0 rfl) ?_
        refine lv_aload_n hx hb dX3_does_78 rfl (lv_at hl 0 rfl) ?_
        refine va_get (D := D) (ci := 3) (v := .int (MD_second S)) (C := RX3) (T := TX3) (N := 15) hx hb hu (fun _ h => h) hown hE.1 hP 0 rfl rfl 11 (Nat.le_of_ble_eq_true rfl) (hts (.fieldLink RX3 221 "CoverMeterModel" "second" "I") (List.mem_of_getElem? (i := 3) rfl)) (fun _ h9 => h9) rfl dX3_does_79 ?_
        obtain ⟨r13, hr13, hf⟩ := q_bd_go hf
        refine q_rdVi (ci := 3) (As := [.int (MD_second S)]) (rest := []) hx hb hml hown hts (c_X3_isAbsence l D cI cJ cS a S (MD_second S) _ hr13) (cwV 1 hts gX3_does_X3_isAbsence rfl rfl rfl (by decide +kernel) ⟨(Nat.le_of_ble_eq_true rfl), (Nat.le_of_ble_eq_true rfl)⟩) hE hP rfl rfl rfl hl.1 rfl (Nat.le_of_ble_eq_true rfl) dX3_does_82 ⟨Nat.zero_le _, Nat.zero_le _⟩ ?_
        refine lv_if_eq (tgt := 125) hx hb dX3_does_85 (by decide) (fun c14 => ?_) (fun c14 => ?_)
        · have hf := q_ite_t c14 hf
          refine lv_iconst (v := 0) hx hb dX3_does_125 (by decide) ?_
          exact B_126 S _ _ hP hD hS 0 _ (lv_sub hl [0] rfl) hf
        · have hf := q_ite_f c14 hf
          refine lv_aload_n hx hb dX3_does_88 rfl (lv_at hl 0 rfl) ?_
          refine va_get (D := D) (ci := 3) (v := .int (MD_third S)) (C := RX3) (T := TX3) (N := 15) hx hb hu (fun _ h => h) hown hE.1 hP 0 rfl rfl 12 (Nat.le_of_ble_eq_true rfl) (hts (.fieldLink RX3 224 "CoverMeterModel" "third" "I") (List.mem_of_getElem? (i := 4) rfl)) (fun _ h9 => h9) rfl dX3_does_89 ?_
          refine lv_i2l (v := (((MD_third S) : Int32).toInt64)) hx hb dX3_does_92 rfl ?_
          refine lv_lconst (v := 0) hx hb dX3_does_93 (by decide) ?_
          refine lv_aload_n hx hb dX3_does_94 rfl (lv_at hl 0 rfl) ?_
          refine va_get (D := D) (ci := 3) (v := .ref (a 1)) (C := RX3) (T := TX3) (N := 15) hx hb hu (fun _ h => h) hown hE.1 hP 0 rfl rfl 0 (Nat.le_of_ble_eq_true rfl) (hts (.fieldLink RX3 7 "CoverMeterModel" "now" "[J") (List.mem_of_getElem? (i := 5) rfl)) (fun _ h9 => h9) rfl dX3_does_95 ?_
          refine lv_iconst (v := 2) hx hb dX3_does_98 (by decide) ?_
          have hi15 := q_gd_in hf
          have hf := q_gd_go hf
          refine va_lald hx hb hE.1 hP 1 1 rfl rfl hi15 dX3_does_99 ?_
          obtain ⟨r16, hr16, hf⟩ := q_bd_go hf
          refine q_rdSi (As := [.long (((MD_third S) : Int32).toInt64), .long 0, .long (MD_now S (2 : Int32).toNatClampNeg)]) (rest := []) hx hb hml hown hts (c_X3_isIn l D cI cJ cS (((MD_third S) : Int32).toInt64) 0 (MD_now S (2 : Int32).toNatClampNeg) _ hr16) (va_cwS 3 hts gX3_does_X3_isIn rfl rfl rfl (by decide +kernel) ⟨(Nat.le_of_ble_eq_true rfl), (Nat.le_of_ble_eq_true rfl)⟩) hE rfl hl.1 rfl (Nat.le_of_ble_eq_true rfl) dX3_does_100 ⟨Nat.zero_le _, Nat.zero_le _⟩ ?_
          refine lv_if_eq (tgt := 125) hx hb dX3_does_103 (by decide) (fun c17 => ?_) (fun c17 => ?_)
          · have hf := q_ite_t c17 hf
            refine lv_iconst (v := 0) hx hb dX3_does_125 (by decide) ?_
            exact B_126 S _ _ hP hD hS 0 _ (lv_sub hl [0] rfl) hf
          · have hf := q_ite_f c17 hf
            refine lv_aload_n hx hb dX3_does_106 rfl (lv_at hl 0 rfl) ?_
            refine lv_aload_n hx hb dX3_does_107 rfl (lv_at hl 0 rfl) ?_
            refine va_get (D := D) (ci := 3) (v := .int (MD_first S)) (C := RX3) (T := TX3) (N := 15) hx hb hu (fun _ h => h) hown hE.1 hP 0 rfl rfl 10 (Nat.le_of_ble_eq_true rfl) (hts (.fieldLink RX3 215 "CoverMeterModel" "first" "I") (List.mem_of_getElem? (i := 2) rfl)) (fun _ h9 => h9) rfl dX3_does_108 ?_
            refine lv_aload_n hx hb dX3_does_111 rfl (lv_at hl 0 rfl) ?_
            refine va_get (D := D) (ci := 3) (v := .int (MD_second S)) (C := RX3) (T := TX3) (N := 15) hx hb hu (fun _ h => h) hown hE.1 hP 0 rfl rfl 11 (Nat.le_of_ble_eq_true rfl) (hts (.fieldLink RX3 221 "CoverMeterModel" "second" "I") (List.mem_of_getElem? (i := 3) rfl)) (fun _ h9 => h9) rfl dX3_does_112 ?_
            obtain ⟨r18, hr18, hf⟩ := q_bd_go hf
            refine q_rdVi (ci := 3) (As := [.int (MD_first S), .int (MD_second S)]) (rest := []) hx hb hml hown hts (c_X3_mayBid l D cI cJ cS a S (MD_first S) (MD_second S) _ hr18) (cwV 2 hts gX3_does_X3_mayBid rfl rfl rfl (by decide +kernel) ⟨(Nat.le_of_ble_eq_true rfl), (Nat.le_of_ble_eq_true rfl)⟩) hE hP rfl rfl rfl hl.1 rfl (Nat.le_of_ble_eq_true rfl) dX3_does_115 ⟨Nat.zero_le _, Nat.zero_le _⟩ ?_
            refine lv_if_eq (tgt := 125) hx hb dX3_does_118 (by decide) (fun c19 => ?_) (fun c19 => ?_)
            · have hf := q_ite_t c19 hf
              refine lv_iconst (v := 0) hx hb dX3_does_125 (by decide) ?_
              exact B_126 S _ _ hP hD hS 0 _ (lv_sub hl [0] rfl) hf
            · have hf := q_ite_f c19 hf
              refine lv_iconst (v := 1) hx hb dX3_does_121 (by decide) ?_
              refine lv_goto (tgt := 126) hx hb dX3_does_122 (by decide) ?_
              exact B_126 S _ _ hP hD hS 1 _ (lv_sub hl [0] rfl) hf
  · have hf := q_ite_n c1 hf
    refine lv_aload_n hx hb dX3_does_7 rfl (lv_at hl 0 rfl) ?_
    refine lv_aload_n hx hb dX3_does_8 rfl (lv_at hl 0 rfl) ?_
    refine va_get (D := D) (ci := 3) (v := .int (MD_first S)) (C := RX3) (T := TX3) (N := 15) hx hb hu (fun _ h => h) hown hE.1 hP 0 rfl rfl 10 (Nat.le_of_ble_eq_true rfl) (hts (.fieldLink RX3 215 "CoverMeterModel" "first" "I") (List.mem_of_getElem? (i := 2) rfl)) (fun _ h9 => h9) rfl dX3_does_9 ?_
    obtain ⟨r20, hr20, hf⟩ := q_bd_go hf
    refine q_rdVi (ci := 3) (As := [.int (MD_first S)]) (rest := []) hx hb hml hown hts (c_X3_isPerson l D cI cJ cS a S (MD_first S) _ hr20) (cwV 1 hts gX3_does_X3_isPerson rfl rfl rfl (by decide +kernel) ⟨(Nat.le_of_ble_eq_true rfl), (Nat.le_of_ble_eq_true rfl)⟩) hE hP rfl rfl rfl hl.1 rfl (Nat.le_of_ble_eq_true rfl) dX3_does_12 ⟨Nat.zero_le _, Nat.zero_le _⟩ ?_
    refine lv_if_eq (tgt := 37) hx hb dX3_does_15 (by decide) (fun c21 => ?_) (fun c21 => ?_)
    · have hf := q_ite_t c21 hf
      refine lv_iconst (v := 0) hx hb dX3_does_37 (by decide) ?_
      exact B_38 S _ _ hP hD hS 0 _ (lv_sub hl [0] rfl) hf
    · have hf := q_ite_f c21 hf
      refine lv_aload_n hx hb dX3_does_18 rfl (lv_at hl 0 rfl) ?_
      refine lv_aload_n hx hb dX3_does_19 rfl (lv_at hl 0 rfl) ?_
      refine va_get (D := D) (ci := 3) (v := .int (MD_first S)) (C := RX3) (T := TX3) (N := 15) hx hb hu (fun _ h => h) hown hE.1 hP 0 rfl rfl 10 (Nat.le_of_ble_eq_true rfl) (hts (.fieldLink RX3 215 "CoverMeterModel" "first" "I") (List.mem_of_getElem? (i := 2) rfl)) (fun _ h9 => h9) rfl dX3_does_20 ?_
      refine lv_aload_n hx hb dX3_does_23 rfl (lv_at hl 0 rfl) ?_
      refine va_get (D := D) (ci := 3) (v := .int (MD_second S)) (C := RX3) (T := TX3) (N := 15) hx hb hu (fun _ h => h) hown hE.1 hP 0 rfl rfl 11 (Nat.le_of_ble_eq_true rfl) (hts (.fieldLink RX3 221 "CoverMeterModel" "second" "I") (List.mem_of_getElem? (i := 3) rfl)) (fun _ h9 => h9) rfl dX3_does_24 ?_
      obtain ⟨r24, hr24, hf⟩ := q_bd_go hf
      refine q_rdVi (ci := 3) (As := [.int (MD_first S), .int (MD_second S)]) (rest := []) hx hb hml hown hts (c_X3_mayBeAbsent l D cI cJ cS a S (MD_first S) (MD_second S) _ hr24) (cwV 2 hts gX3_does_X3_mayBeAbsent rfl rfl rfl (by decide +kernel) ⟨(Nat.le_of_ble_eq_true rfl), (Nat.le_of_ble_eq_true rfl)⟩) hE hP rfl rfl rfl hl.1 rfl (Nat.le_of_ble_eq_true rfl) dX3_does_27 ⟨Nat.zero_le _, Nat.zero_le _⟩ ?_
      refine lv_if_eq (tgt := 37) hx hb dX3_does_30 (by decide) (fun c25 => ?_) (fun c25 => ?_)
      · have hf := q_ite_t c25 hf
        refine lv_iconst (v := 0) hx hb dX3_does_37 (by decide) ?_
        exact B_38 S _ _ hP hD hS 0 _ (lv_sub hl [0] rfl) hf
      · have hf := q_ite_f c25 hf
        refine lv_iconst (v := 1) hx hb dX3_does_33 (by decide) ?_
        refine lv_goto (tgt := 38) hx hb dX3_does_34 (by decide) ?_
        exact B_38 S _ _ hP hD hS 1 _ (lv_sub hl [0] rfl) hf
