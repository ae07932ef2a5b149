def f_X3_bidOf_15 (Sz : MD) (l1 : Int32) (l2 : Int32) (t0 : Int32) : Option (Int32 × MD) := q_let (sMD_thrown Sz t0) fun S3 =>
 if ¬ (MD_thrown S3) = 0 then
 (some (0, S3))
 else ((f_X3_ofA S3 l2 (5 + l1)).bind fun r5 =>
 some (r5, S3))
def f_X3_bidOf (S : MD) (p1 : Int32) (p2 : Int32) : Option (Int32 × MD) := (f_X3_areThere S p1 p2).bind fun r1 =>
 if r1 = 0 then
 (f_X3_bidOf_15 S p1 p2 1)
 else (f_X3_bidOf_15 S p1 p2 0)
abbrev rX3_bidOf : Room := { frames := 3, cells := 0, slots := 0, locals := 68 }
set_option maxRecDepth 100000 in
set_option maxHeartbeats 4000000 in
theorem c_X3_bidOf (l : Launch) (D : va_G) (cI cJ cS : ClassId) (a : Nat → Nat) (S : MD) (sz : Nat) (p1 : Int32) (p2 : Int32) (o : (Int32 × MD)) (hf : f_X3_bidOf S p1 p2 = some o) : Met l yX3_bidOf wsX3_bidOf rX3_bidOf (va_Pc [.ref (a 0), .int p1, .int p2] (q_BW D cI cJ cS (wMD cI cJ a S) sz)) (q_Wo (some (.int o.1)) D (wMD cI cJ a S) (wMD cI cJ a o.2) sz) 0 0 (va_A (wMD cI cJ a S) sz) := by
  refine Met.ofW (cc := cX3_bidOf) (maxL := 3) (ret := some .int) (by decide) rfl ?_
  intro p e s m args below meth c s₁ B hml hv
  obtain ⟨rfl, hsz, hP, hE, hD0⟩ := hv
  have hx := B.exec
  have hb := B.bytes
  have hr := B.returns
  have hts := atoms_spec (ws := wsX3_bidOf) B.pre
  have hown : s.vm.findClass RX3 = some m.cls := findClass_of_methodNamed B.named
  have hlocks := B.notSynchronized
  have hu : ∀ z ∈ wsX30, z.before _ s = true := fun z h => hts z (List.mem_cons_of_mem _ (List.mem_append_right _ h))
  subst hsz
  have hD := hD0.self (sz := s.heap.size)
  have hS : va_S (va_A (wMD cI cJ a S) s.heap.size) s.heap s.heap [] := va_S.rf
  have B_15 : ∀ (Sz : MD) (H : Heap) (locs : List Loc) (hP : va_P D vwCl (wMD cI cJ a Sz) H) (hD : va_D (va_A (wMD cI cJ a S) s.heap.size) (wMD cI cJ a Sz)) (hS : va_S (va_A (wMD cI cJ a S) s.heap.size) s.heap H locs) (l1 : Int32) (l2 : Int32) (t0 : Int32) (ls : Array Slot), lv_has ls 3 [(0, .ref (a 0)), (1, .int l1), (2, .int l2)] → f_X3_bidOf_15 Sz l1 l2 t0 = some o → W p l e (headSpec wsX3_bidOf rX3_bidOf).room s m (([.ref (a 0), .int p1, .int p2] : List Value).toArray) below meth c H locs 0 0 (MQ below (q_Wo (some (.int o.1)) D (wMD cI cJ a S) (wMD cI cJ a o.2) s.heap.size) (([.ref (a 0), .int p1, .int p2] : List Value).toArray) s 0 0 (va_A (wMD cI cJ a S) s.heap.size)) (F0 m 15 ls [.int t0, .ref (a 0)]) := by
    intro Sz H locs hP hD hS l1 l2 t0 ls hl hf
    unfold f_X3_bidOf_15 at hf
    obtain ⟨S3, eS3, hf⟩ := q_let_go hf
    refine va_put (D := D) (ci := 3) (v := .int t0) (ty := .int) (C := RX3) (T := TX3) (N := 15) hx hb hu (fun _ h => h) tyX3 tyX3_ok nmX3 hown hE.1 hP hD hS 0 rfl rfl 3 (Nat.le_of_ble_eq_true rfl) (hts (.fieldLink RX3 30 "CoverMeterModel" "thrown" "I") (List.mem_of_getElem? (i := 1) rfl)) (fun _ h9 => h9) rfl (by decide +kernel) rfl rfl (Nat.le_of_ble_eq_true rfl) dX3_bidOf_15 (fun H locs hP hD hS => ?_)
    have hP : va_P D vwCl (wMD cI cJ a (sMD_thrown Sz t0)) H := hP
    have hD : va_D (va_A (wMD cI cJ a S) s.heap.size) (wMD cI cJ a (sMD_thrown Sz t0)) := hD
    rw [eS3] at hP hD
    refine lv_aload_n hx hb dX3_bidOf_18 rfl (lv_at hl 0 rfl) ?_
    refine va_get (D := D) (ci := 3) (v := .int (MD_thrown S3)) (C := RX3) (T := TX3) (N := 15) hx hb hu (fun _ h => h) hown hE.1 hP 0 rfl rfl 3 (Nat.le_of_ble_eq_true rfl) (hts (.fieldLink RX3 30 "CoverMeterModel" "thrown" "I") (List.mem_of_getElem? (i := 1) rfl)) (fun _ h9 => h9) rfl dX3_bidOf_19 ?_
    refine lv_if_ne (tgt := 36) hx hb dX3_bidOf_22 (by decide) (fun c4 => ?_) (fun c4 => ?_)
    · have hf := q_ite_t c4 hf
      refine lv_iconst (v := 0) hx hb dX3_bidOf_36 (by decide) ?_
      have ho := q_some hf
      subst ho
      exact W.iret hx hb hr (fun t ht hW => ⟨rfl, ⟨by rw [ht]; exact hP, hD⟩, hS.F ht⟩) hS.2.2 dX3_bidOf_37
    · have hf := q_ite_n c4 hf
      refine lv_aload_n hx hb dX3_bidOf_25 rfl (lv_at hl 0 rfl) ?_
      refine lv_iload_n hx hb dX3_bidOf_26 rfl (lv_at hl 2 rfl) ?_
      refine lv_iconst (v := 5) hx hb dX3_bidOf_27 (by decide) ?_
      refine lv_iload_n hx hb dX3_bidOf_28 rfl (lv_at hl 1 rfl) ?_
      refine lv_iadd hx hb dX3_bidOf_29 ?_
      obtain ⟨r5, hr5, hf⟩ := q_bd_go hf
      refine q_rdVi (ci := 3) (As := [.int l2, .int (5 + l1)]) (rest := []) hx hb hml hown hts (c_X3_ofA l D cI cJ cS a S3 l2 (5 + l1) _ hr5) (cwV 2 hts gX3_bidOf_X3_ofA rfl rfl rfl (by decide +kernel) ⟨(Nat.le_of_ble_eq_true rfl), (Nat.le_of_ble_eq_true rfl)⟩) hE hP rfl rfl rfl hl.1 rfl (Nat.le_of_ble_eq_true rfl) dX3_bidOf_30 ⟨Nat.zero_le _, Nat.zero_le _⟩ ?_
      refine lv_goto (tgt := 37) hx hb dX3_bidOf_33 (by decide) ?_
      have ho := q_some hf
      subst ho
      exact W.iret hx hb hr (fun t ht hW => ⟨rfl, ⟨by rw [ht]; exact hP, hD⟩, hS.F ht⟩) hS.2.2 dX3_bidOf_37
  have hl := lv_entry ([.ref (a 0), .int p1, .int p2]) (n := 3) (Nat.le_of_ble_eq_true rfl)
  rw [lg_entry_eq]
  generalize (lg_sl ([.ref (a 0), .int p1, .int p2]) ++ List.replicate (3 - (lg_sl ([.ref (a 0), .int p1, .int p2])).length) Slot.unset).toArray = ls at hl ⊢
  have hl : lv_has ls 3 [(0, .ref (a 0)), (1, .int p1), (2, .int p2)] := hl
  unfold f_X3_bidOf at hf
  refine lv_aload_n hx hb dX3_bidOf_0 rfl (lv_at hl 0 rfl) ?_
  refine lv_aload_n hx hb dX3_bidOf_1 rfl (lv_at hl 0 rfl) ?_
  refine lv_iload_n hx hb dX3_bidOf_2 rfl (lv_at hl 1 rfl) ?_
  refine lv_iload_n hx hb dX3_bidOf_3 rfl (lv_at hl 2 rfl) ?_
  obtain ⟨r1, hr1, hf⟩ := q_bd_go hf
  refine q_rdVi (ci := 3) (As := [.int p1, .int p2]) (rest := [.ref (a 0)]) hx hb hml hown hts (c_X3_areThere l D cI cJ cS a S p1 p2 _ hr1) (cwV 2 hts gX3_bidOf_X3_areThere rfl rfl rfl (by decide +kernel) ⟨(Nat.le_of_ble_eq_true rfl), (Nat.le_of_ble_eq_true rfl)⟩) hE hP rfl rfl rfl hl.1 rfl (Nat.le_of_ble_eq_true rfl) dX3_bidOf_4 ⟨Nat.zero_le _, Nat.zero_le _⟩ ?_
  refine lv_if_eq (tgt := 14) hx hb dX3_bidOf_7 (by decide) (fun c2 => ?_) (fun c2 => ?_)
  · have hf := q_ite_t c2 hf
    refine lv_iconst (v := 1) hx hb dX3_bidOf_14 (by decide) ?_
    exact B_15 S _ _ hP hD hS p1 p2 1 _ (lv_sub hl [0, 1, 2] rfl) hf
  · have hf := q_ite_f c2 hf
    refine lv_iconst (v := 0) hx hb dX3_bidOf_10 (by decide) ?_
    refine lv_goto (tgt := 15) hx hb dX3_bidOf_11 (by decide) ?_
    exact B_15 S _ _ hP hD hS p1 p2 0 _ (lv_sub hl [0, 1, 2] rfl) hf
def f_X3_ofState_4 (S : MD) : Nat → Int32 → Int32 → Int32 → Option Int32
  | 0, _, _, _ => none
  | n+1, l1, l2, l3 => if q_in 4 420 = true then
 (if 0 ≤ (lg_cmp ((l3 : Int32).toInt64) (MD_now S (4 : Int32).toNatClampNeg)) then
 (some l2)
 else ((f_X3_ofA S l3 2).bind fun r3 =>
 if ¬ r3 = l1 then
 (q_let ((l2 + 0)) fun v5 =>
 q_let (l3 + 1) fun v6 =>
 f_X3_ofState_4 S n l1 v5 v6)
 else (q_let ((l2 + 1)) fun v7 =>
 q_let (l3 + 1) fun v8 =>
 f_X3_ofState_4 S n l1 v7 v8))) else none
def f_X3_ofState (S : MD) (p1 : Int32) : Option Int32 := f_X3_ofState_4 S 2000 p1 0 0
abbrev rX3_ofState : Room := { frames := 1, cells := 0, slots := 0, locals := 22 }
set_option maxRecDepth 100000 in
set_option maxHeartbeats 4000000 in
theorem c_X3_ofState (l : Launch) (D : va_G) (cI cJ cS : ClassId) (a : Nat → Nat) (S : MD) (p1 : Int32) (o : Int32) (hf : f_X3_ofState S p1 = some o) : Met l yX3_ofState wsX3_ofState rX3_ofState (va_Pc [.ref (a 0), .int p1] (q_B D cI cJ cS (wMD cI cJ a S))) (q_Ri o) 0 0 (fun _ => False) := by
  refine Met.ofW (cc := cX3_ofState) (maxL := 4) (ret := some .int) (by decide) rfl ?_
  intro p e s m args below meth c s₁ B hml hv
  obtain ⟨rfl, hP, hE⟩ := hv
  have hx := B.exec
  have hb := B.bytes
  have hr := B.returns
  have hts := atoms_spec (ws := wsX3_ofState) B.pre
  have hown : s.vm.findClass RX3 = some m.cls := findClass_of_methodNamed B.named
  have hlocks := B.notSynchronized
  have hu : ∀ z ∈ wsX30, z.before _ s = true := fun z h => hts z (List.mem_cons_of_mem _ (List.mem_append_right _ h))
  have L_4 : ∀ (n : Nat) (l1 : Int32) (l2 : Int32) (l3 : Int32) (ls : Array Slot), lv_has ls 4 [(0, .ref (a 0)), (1, .int l1), (2, .int l2), (3, .int l3)] → f_X3_ofState_4 S n l1 l2 l3 = some o → W p l e (headSpec wsX3_ofState rX3_ofState).room s m (([.ref (a 0), .int p1] : List Value).toArray) below meth c s.heap [] 0 0 (MQ below (q_Ri o) (([.ref (a 0), .int p1] : List Value).toArray) s 0 0 (fun _ => False)) (F0 m 4 ls []) := by
    intro n
    induction n with
    | zero => intro l1 l2 l3 ls hl hf; cases hf
    | succ n ih =>
      intro l1 l2 l3 ls hl hf
      rw [f_X3_ofState_4] at hf
      refine lv_iload_n hx hb dX3_ofState_4 rfl (lv_at hl 3 rfl) ?_
      refine lv_i2l (v := ((l3 : Int32).toInt64)) hx hb dX3_ofState_5 rfl ?_
      refine lv_aload_n hx hb dX3_ofState_6 rfl (lv_at hl 0 rfl) ?_
      refine va_get (D := D) (ci := 3) (v := .ref (a 1)) (C := RX3) (T := TX3) (N := 15) hx hb hu (fun _ h => h) hown hE.1 hP 0 rfl rfl 0 (Nat.le_of_ble_eq_true rfl) (hts (.fieldLink RX3 7 "CoverMeterModel" "now" "[J") (List.mem_of_getElem? (i := 1) rfl)) (fun _ h9 => h9) rfl dX3_ofState_7 ?_
      refine lv_iconst (v := 4) hx hb dX3_ofState_10 (by decide) ?_
      have hi1 := q_gd_in hf
      have hf := q_gd_go hf
      refine va_lald hx hb hE.1 hP 1 1 rfl rfl hi1 dX3_ofState_11 ?_
      refine W.lcmp hx hb dX3_ofState_12 ?_
      refine lv_if_ge (tgt := 40) hx hb dX3_ofState_13 (by decide) (fun c2 => ?_) (fun c2 => ?_)
      · have hf := q_ite_t c2 hf
        refine lv_iload_n hx hb dX3_ofState_40 rfl (lv_at hl 2 rfl) ?_
        have ho := q_some hf
        subst ho
        exact W.iret hx hb hr (fun t ht hW => ⟨rfl, ht⟩) t_nil dX3_ofState_41
      · have hf := q_ite_f c2 hf
        refine lv_iload_n hx hb dX3_ofState_16 rfl (lv_at hl 2 rfl) ?_
        refine lv_aload_n hx hb dX3_ofState_17 rfl (lv_at hl 0 rfl) ?_
        refine lv_iload_n hx hb dX3_ofState_18 rfl (lv_at hl 3 rfl) ?_
        refine lv_iconst (v := 2) hx hb dX3_ofState_19 (by decide) ?_
        obtain ⟨r3, hr3, hf⟩ := q_bd_go hf
        refine q_rdVi (ci := 3) (As := [.int l3, .int 2]) (rest := [.int l2]) hx hb hml hown hts (c_X3_ofA l D cI cJ cS a S l3 2 _ hr3) (cwV 2 hts gX3_ofState_X3_ofA rfl rfl rfl (by decide +kernel) ⟨(Nat.le_of_ble_eq_true rfl), (Nat.le_of_ble_eq_true rfl)⟩) hE hP rfl rfl rfl hl.1 rfl (Nat.le_of_ble_eq_true rfl) dX3_ofState_20 ⟨Nat.zero_le _, Nat.zero_le _⟩ ?_
        refine lv_iload_n hx hb dX3_ofState_23 rfl (lv_at hl 1 rfl) ?_
        refine lv_icmp_ne (tgt := 31) hx hb dX3_ofState_24 (by decide) (fun c4 => ?_) (fun c4 => ?_)
        · have hf := q_ite_t c4 hf
          refine lv_iconst (v := 0) hx hb dX3_ofState_31 (by decide) ?_
          refine lv_iadd hx hb dX3_ofState_32 ?_
          obtain ⟨v5, ev5, hf⟩ := q_let_go hf
          refine q_nmi ev5 ?_
          refine lv_istore_n (lv' := [(2, .int v5), (0, .ref (a 0)), (1, .int l1), (3, .int l3)]) hx hb dX3_ofState_33 rfl hl (by decide) rfl (fun ls hl => ?_)
          obtain ⟨v6, ev6, hf⟩ := q_let_go hf
          refine lv_iinc (v := v6) (lv' := [(3, .int v6), (2, .int v5), (0, .ref (a 0)), (1, .int l1)]) hx hb dX3_ofState_34 hl (k := 3) rfl (by rw [← ev6]; rfl) (by decide) rfl (fun ls hl => ?_)
          refine lv_goto (tgt := 4) hx hb dX3_ofState_37 (by decide) ?_
          exact ih l1 v5 v6 _ (lv_sub hl [2, 3, 1, 0] rfl) hf
        · have hf := q_ite_n c4 hf
          refine lv_iconst (v := 1) hx hb dX3_ofState_27 (by decide) ?_
          refine lv_goto (tgt := 32) hx hb dX3_ofState_28 (by decide) ?_
          refine lv_iadd hx hb dX3_ofState_32 ?_
          obtain ⟨v7, ev7, hf⟩ := q_let_go hf
          refine q_nmi ev7 ?_
          refine lv_istore_n (lv' := [(2, .int v7), (0, .ref (a 0)), (1, .int l1), (3, .int l3)]) hx hb dX3_ofState_33 rfl hl (by decide) rfl (fun ls hl => ?_)
          obtain ⟨v8, ev8, hf⟩ := q_let_go hf
          refine lv_iinc (v := v8) (lv' := [(3, .int v8), (2, .int v7), (0, .ref (a 0)), (1, .int l1)]) hx hb dX3_ofState_34 hl (k := 3) rfl (by rw [← ev8]; rfl) (by decide) rfl (fun ls hl => ?_)
          refine lv_goto (tgt := 4) hx hb dX3_ofState_37 (by decide) ?_
          exact ih l1 v7 v8 _ (lv_sub hl [2, 3, 1, 0] rfl) hf
  have hl := lv_entry ([.ref (a 0), .int p1]) (n := 4) (Nat.le_of_ble_eq_true rfl)
  rw [lg_entry_eq]
  generalize (lg_sl ([.ref (a 0), .int p1]) ++ List.replicate (4 - (lg_sl ([.ref (a 0), .int p1])).length) Slot.unset).toArray = ls at hl ⊢
  have hl : lv_has ls 4 [(0, .ref (a 0)), (1, .int p1)] := hl
  unfold f_X3_ofState at hf
  refine lv_iconst (v := 0) hx hb dX3_ofState_0 (by decide) ?_
  refine lv_istore_n (lv' := [(2, .int 0), (0, .ref (a 0)), (1, .int p1)]) hx hb dX3_ofState_1 rfl hl (by decide) rfl (fun ls hl => ?_)
  refine lv_iconst (v := 0) hx hb dX3_ofState_2 (by decide) ?_
  refine lv_istore_n (lv' := [(3, .int 0), (2, .int 0), (0, .ref (a 0)), (1, .int p1)]) hx hb dX3_ofState_3 rfl hl (by decide) rfl (fun ls hl => ?_)
  exact L_4 2000 p1 0 0 _ (lv_sub hl [2, 3, 1, 0] rfl) hf
def f_X3_meterOf_7 (S : MD) : Nat → Int32 → Int64 → Int32 → Option Int32
  | 0, _, _, _ => none
  | n+1, l1, l2, l4 => if q_in 3 420 = true then
 (if 0 ≤ (lg_cmp ((l4 : Int32).toInt64) (MD_now S (3 : Int32).toNatClampNeg)) then
 (some ((l2 : Int64).toInt32))
 else ((f_X3_ofP S l4 1).bind fun r3 =>
 if l4 = 0 then
 (q_let (l4 + 1) fun v5 =>
 f_X3_meterOf_7 S n l1 r3 v5)
 else (if l1 = 0 then
 (if 0 ≤ (lg_cmp r3 l2) then
 (q_let (l4 + 1) fun v8 =>
 f_X3_meterOf_7 S n l1 l2 v8)
 else (q_let (l4 + 1) fun v9 =>
 f_X3_meterOf_7 S n l1 r3 v9))
 else (if (lg_cmp r3 l2) ≤ 0 then
 (q_let (l4 + 1) fun v11 =>
 f_X3_meterOf_7 S n l1 l2 v11)
 else (q_let (l4 + 1) fun v12 =>
 f_X3_meterOf_7 S n l1 r3 v12))))) else none
def f_X3_meterOf (S : MD) (p1 : Int32) : Option Int32 := f_X3_meterOf_7 S 2000 p1 (-1) 0
abbrev rX3_meterOf : Room := { frames := 1, cells := 0, slots := 0, locals := 22 }
set_option maxRecDepth 100000 in
set_option maxHeartbeats 4000000 in
theorem c_X3_meterOf (l : Launch) (D : va_G) (cI cJ cS : ClassId) (a : Nat → Nat) (S : MD) (p1 : Int32) (o : Int32) (hf : f_X3_meterOf S p1 = some o) : Met l yX3_meterOf wsX3_meterOf rX3_meterOf (va_Pc [.ref (a 0), .int p1] (q_B D cI cJ cS (wMD cI cJ a S))) (q_Ri o) 0 0 (fun _ => False) := by
  refine Met.ofW (cc := cX3_meterOf) (maxL := 7) (ret := some .int) (by decide) rfl ?_
  intro p e s m args below meth c s₁ B hml hv
  obtain ⟨rfl, hP, hE⟩ := hv
  have hx := B.exec
  have hb := B.bytes
  have hr := B.returns
  have hts := atoms_spec (ws := wsX3_meterOf) B.pre
  have hown : s.vm.findClass RX3 = some m.cls := findClass_of_methodNamed B.named
  have hlocks := B.notSynchronized
  have hu : ∀ z ∈ wsX30, z.before _ s = true := fun z h => hts z (List.mem_cons_of_mem _ (List.mem_append_right _ h))
  have L_7 : ∀ (n : Nat) (l1 : Int32) (l2 : Int64) (l4 : Int32) (ls : Array Slot), lv_has ls 7 [(0, .ref (a 0)), (1, .int l1), (2, .long l2), (4, .int l4)] → f_X3_meterOf_7 S n l1 l2 l4 = some o → W p l e (headSpec wsX3_meterOf rX3_meterOf).room s m (([.ref (a 0), .int p1] : List Value).toArray) below meth c s.heap [] 0 0 (MQ below (q_Ri o) (([.ref (a 0), .int p1] : List Value).toArray) s 0 0 (fun _ => False)) (F0 m 7 ls []) := by
    intro n
    induction n with
    | zero => intro l1 l2 l4 ls hl hf; cases hf
    | succ n ih =>
      intro l1 l2 l4 ls hl hf
      rw [f_X3_meterOf_7] at hf
      refine lv_iload hx hb dX3_meterOf_7 (lv_at hl 3 rfl) ?_
      refine lv_i2l (v := ((l4 : Int32).toInt64)) hx hb dX3_meterOf_9 rfl ?_
      refine lv_aload_n hx hb dX3_meterOf_10 rfl (lv_at hl 0 rfl) ?_
      refine va_get (D := D) (ci := 3) (v := .ref (a 1)) (C := RX3) (T := TX3) (N := 15) hx hb hu (fun _ h => h) hown hE.1 hP 0 rfl rfl 0 (Nat.le_of_ble_eq_true rfl) (hts (.fieldLink RX3 7 "CoverMeterModel" "now" "[J") (List.mem_of_getElem? (i := 2) rfl)) (fun _ h9 => h9) rfl dX3_meterOf_11 ?_
      refine lv_iconst (v := 3) hx hb dX3_meterOf_14 (by decide) ?_
      have hi1 := q_gd_in hf
      have hf := q_gd_go hf
      refine va_lald hx hb hE.1 hP 1 1 rfl rfl hi1 dX3_meterOf_15 ?_
      refine W.lcmp hx hb dX3_meterOf_16 ?_
      refine lv_if_ge (tgt := 68) hx hb dX3_meterOf_17 (by decide) (fun c2 => ?_) (fun c2 => ?_)
      · have hf := q_ite_t c2 hf
        refine lv_lload_n hx hb dX3_meterOf_68 rfl (lv_at hl 2 rfl) ?_
        refine lv_l2i (v := ((l2 : Int64).toInt32)) hx hb dX3_meterOf_69 rfl ?_
        have ho := q_some hf
        subst ho
        exact W.iret hx hb hr (fun t ht hW => ⟨rfl, ht⟩) t_nil dX3_meterOf_70
      · have hf := q_ite_f c2 hf
        refine lv_aload_n hx hb dX3_meterOf_20 rfl (lv_at hl 0 rfl) ?_
        refine lv_iload hx hb dX3_meterOf_21 (lv_at hl 3 rfl) ?_
        refine lv_iconst (v := 1) hx hb dX3_meterOf_23 (by decide) ?_
        obtain ⟨r3, hr3, hf⟩ := q_bd_go hf
        refine q_rdVl (ci := 3) (As := [.int l4, .int 1]) (rest := []) hx hb hml hown hts (c_X3_ofP l D cI cJ cS a S l4 1 _ hr3) (cwV 2 hts gX3_meterOf_X3_ofP rfl rfl rfl (by decide +kernel) ⟨(Nat.le_of_ble_eq_true rfl), (Nat.le_of_ble_eq_true rfl)⟩) hE hP rfl rfl rfl hl.1 rfl (Nat.le_of_ble_eq_true rfl) dX3_meterOf_24 ⟨Nat.zero_le _, Nat.zero_le _⟩ ?_
        refine lv_lstore (lv' := [(5, .long r3), (0, .ref (a 0)), (1, .int l1), (2, .long l2), (4, .int l4)]) hx hb dX3_meterOf_27 hl (by decide) rfl (fun ls hl => ?_)
        refine lv_iload hx hb dX3_meterOf_29 (lv_at hl 4 rfl) ?_
        refine lv_if_eq (tgt := 55) hx hb dX3_meterOf_31 (by decide) (fun c4 => ?_) (fun c4 => ?_)
        · have hf := q_ite_t c4 hf
          refine lv_lload hx hb dX3_meterOf_55 (lv_at hl 0 rfl) ?_
          refine lv_goto (tgt := 61) hx hb dX3_meterOf_57 (by decide) ?_
          refine lv_lstore_n (lv' := [(2, .long r3), (5, .long r3), (0, .ref (a 0)), (1, .int l1), (4, .int l4)]) hx hb dX3_meterOf_61 rfl hl (by decide) rfl (fun ls hl => ?_)
          obtain ⟨v5, ev5, hf⟩ := q_let_go hf
          refine lv_iinc (v := v5) (lv' := [(4, .int v5), (2, .long r3), (5, .long r3), (0, .ref (a 0)), (1, .int l1)]) hx hb dX3_meterOf_62 hl (k := 4) rfl (by rw [← ev5]; rfl) (by decide) rfl (fun ls hl => ?_)
          refine lv_goto (tgt := 7) hx hb dX3_meterOf_65 (by decide) ?_
          exact ih l1 r3 v5 _ (lv_sub hl [3, 4, 1, 0] rfl) hf
        · have hf := q_ite_f c4 hf
          refine lv_iload_n hx hb dX3_meterOf_34 rfl (lv_at hl 2 rfl) ?_
          refine lv_if_eq (tgt := 48) hx hb dX3_meterOf_35 (by decide) (fun c6 => ?_) (fun c6 => ?_)
          · have hf := q_ite_t c6 hf
            refine lv_lload hx hb dX3_meterOf_48 (lv_at hl 0 rfl) ?_
            refine lv_lload_n hx hb dX3_meterOf_50 rfl (lv_at hl 3 rfl) ?_
            refine W.lcmp hx hb dX3_meterOf_51 ?_
            refine lv_if_ge (tgt := 60) hx hb dX3_meterOf_52 (by decide) (fun c7 => ?_) (fun c7 => ?_)
            · have hf := q_ite_t c7 hf
              refine lv_lload_n hx hb dX3_meterOf_60 rfl (lv_at hl 3 rfl) ?_
              refine lv_lstore_n (lv' := [(2, .long l2), (5, .long r3), (0, .ref (a 0)), (1, .int l1), (4, .int l4)]) hx hb dX3_meterOf_61 rfl hl (by decide) rfl (fun ls hl => ?_)
              obtain ⟨v8, ev8, hf⟩ := q_let_go hf
              refine lv_iinc (v := v8) (lv' := [(4, .int v8), (2, .long l2), (5, .long r3), (0, .ref (a 0)), (1, .int l1)]) hx hb dX3_meterOf_62 hl (k := 4) rfl (by rw [← ev8]; rfl) (by decide) rfl (fun ls hl => ?_)
              refine lv_goto (tgt := 7) hx hb dX3_meterOf_65 (by decide) ?_
              exact ih l1 l2 v8 _ (lv_sub hl [3, 4, 1, 0] rfl) hf
            · have hf := q_ite_f c7 hf
              refine lv_lload hx hb dX3_meterOf_55 (lv_at hl 0 rfl) ?_
              refine lv_goto (tgt := 61) hx hb dX3_meterOf_57 (by decide) ?_
              refine lv_lstore_n (lv' := [(2, .long r3), (5, .long r3), (0, .ref (a 0)), (1, .int l1), (4, .int l4)]) hx hb dX3_meterOf_61 rfl hl (by decide) rfl (fun ls hl => ?_)
              obtain ⟨v9, ev9, hf⟩ := q_let_go hf
              refine lv_iinc (v := v9) (lv' := [(4, .int v9), (2, .long r3), (5, .long r3), (0, .ref (a 0)), (1, .int l1)]) hx hb dX3_meterOf_62 hl (k := 4) rfl (by rw [← ev9]; rfl) (by decide) rfl (fun ls hl => ?_)
              refine lv_goto (tgt := 7) hx hb dX3_meterOf_65 (by decide) ?_
              exact ih l1 r3 v9 _ (lv_sub hl [3, 4, 1, 0] rfl) hf
          · have hf := q_ite_f c6 hf
            refine lv_lload hx hb dX3_meterOf_38 (lv_at hl 0 rfl) ?_
            refine lv_lload_n hx hb dX3_meterOf_40 rfl (lv_at hl 3 rfl) ?_
            refine W.lcmp hx hb dX3_meterOf_41 ?_
            refine lv_if_le (tgt := 60) hx hb dX3_meterOf_42 (by decide) (fun c10 => ?_) (fun c10 => ?_)
            · have hf := q_ite_t c10 hf
              refine lv_lload_n hx hb dX3_meterOf_60 rfl (lv_at hl 3 rfl) ?_
              refine lv_lstore_n (lv' := [(2, .long l2), (5, .long r3), (0, .ref (a 0)), (1, .int l1), (4, .int l4)]) hx hb dX3_meterOf_61 rfl hl (by decide) rfl (fun ls hl => ?_)
              obtain ⟨v11, ev11, hf⟩ := q_let_go hf
              refine lv_iinc (v := v11) (lv' := [(4, .int v11), (2, .long l2), (5, .long r3), (0, .ref (a 0)), (1, .int l1)]) hx hb dX3_meterOf_62 hl (k := 4) rfl (by rw [← ev11]; rfl) (by decide) rfl (fun ls hl => ?_)
              refine lv_goto (tgt := 7) hx hb dX3_meterOf_65 (by decide) ?_
              exact ih l1 l2 v11 _ (lv_sub hl [3, 4, 1, 0] rfl) hf
            · have hf := q_ite_f c10 hf
              refine lv_goto (tgt := 55) hx hb dX3_meterOf_45 (by decide) ?_
              refine lv_lload hx hb dX3_meterOf_55 (lv_at hl 0 rfl) ?_
              refine lv_goto (tgt := 61) hx hb dX3_meterOf_57 (by decide) ?_
              refine lv_lstore_n (lv' := [(2, .long r3), (5, .long r3), (0, .ref (a 0)), (1, .int l1), (4, .int l4)]) hx hb dX3_meterOf_61 rfl hl (by decide) rfl (fun ls hl => ?_)
              obtain ⟨v12, ev12, hf⟩ := q_let_go hf
              refine lv_iinc (v := v12) (lv' := [(4, .int v12), (2, .long r3), (5, .long r3), (0, .ref (a 0)), (1, .int l1)]) hx hb dX3_meterOf_62 hl (k := 4) rfl (by rw [← ev12]; rfl) (by decide) rfl (fun ls hl => ?_)
              refine lv_goto (tgt := 7) hx hb dX3_meterOf_65 (by decide) ?_
              exact ih l1 r3 v12 _ (lv_sub hl [3, 4, 1, 0] rfl) hf
  have hl := lv_entry ([.ref (a 0), .int p1]) (n := 7) (Nat.le_of_ble_eq_true rfl)
  rw [lg_entry_eq]
  generalize (lg_sl ([.ref (a 0), .int p1]) ++ List.replicate (7 - (lg_sl ([.ref (a 0), .int p1])).length) Slot.unset).toArray = ls at hl ⊢
  have hl : lv_has ls 7 [(0, .ref (a 0)), (1, .int p1)] := hl
  unfold f_X3_meterOf at hf
  refine lv_ldc2 (v := (-1)) hx hb hown (hts (.constantLong RX3 173 (-1)) (List.mem_of_getElem? (i := 1) rfl)) dX3_meterOf_0 ?_
  refine lv_lstore_n (lv' := [(2, .long (-1)), (0, .ref (a 0)), (1, .int p1)]) hx hb dX3_meterOf_3 rfl hl (by decide) rfl (fun ls hl => ?_)
  refine lv_iconst (v := 0) hx hb dX3_meterOf_4 (by decide) ?_
  refine lv_istore (lv' := [(4, .int 0), (2, .long (-1)), (0, .ref (a 0)), (1, .int p1)]) hx hb dX3_meterOf_5 hl (by decide) rfl (fun ls hl => ?_)
  exact L_7 2000 p1 (-1) 0 _ (lv_sub hl [2, 3, 1, 0] rfl) hf
def f_X3_sumOf_4 (S : MD) : Nat → Int32 → Int32 → Int32 → Option Int32
  | 0, _, _, _ => none
  | n+1, l1, l2, l3 => if q_in 4 420 = true then
 (if 0 ≤ (lg_cmp ((l3 : Int32).toInt64) (MD_now S (4 : Int32).toNatClampNeg)) then
 (some l2)
 else (if l1 = 0 then
 ((f_X3_bids S l3).bind fun r4 =>
 q_let ((l2 + r4)) fun v5 =>
 q_let (l3 + 1) fun v6 =>
 f_X3_sumOf_4 S n l1 v5 v6)
 else ((f_X3_ofA S l3 4).bind fun r7 =>
 q_let ((l2 + r7)) fun v8 =>
 q_let (l3 + 1) fun v9 =>
 f_X3_sumOf_4 S n l1 v8 v9))) else none
def f_X3_sumOf (S : MD) (p1 : Int32) : Option Int32 := f_X3_sumOf_4 S 2000 p1 0 0
abbrev rX3_sumOf : Room := { frames := 2, cells := 0, slots := 0, locals := 45 }
set_option maxRecDepth 100000 in
set_option maxHeartbeats 4000000 in
theorem c_X3_sumOf (l : Launch) (D : va_G) (cI cJ cS : ClassId) (a : Nat → Nat) (S : MD) (p1 : Int32) (o : Int32) (hf : f_X3_sumOf S p1 = some o) : Met l yX3_sumOf wsX3_sumOf rX3_sumOf (va_Pc [.ref (a 0), .int p1] (q_B D cI cJ cS (wMD cI cJ a S))) (q_Ri o) 0 0 (fun _ => False) := by
  refine Met.ofW (cc := cX3_sumOf) (maxL := 4) (ret := some .int) (by decide) rfl ?_
  intro p e s m args below meth c s₁ B hml hv
  obtain ⟨rfl, hP, hE⟩ := hv
  have hx := B.exec
  have hb := B.bytes
  have hr := B.returns
  have hts := atoms_spec (ws := wsX3_sumOf) B.pre
  have hown : s.vm.findClass RX3 = some m.cls := findClass_of_methodNamed B.named
  have hlocks := B.notSynchronized
  have hu : ∀ z ∈ wsX30, z.before _ s = true := fun z h => hts z (List.mem_cons_of_mem _ (List.mem_append_right _ h))
  have L_4 : ∀ (n : Nat) (l1 : Int32) (l2 : Int32) (l3 : Int32) (ls : Array Slot), lv_has ls 4 [(0, .ref (a 0)), (1, .int l1), (2, .int l2), (3, .int l3)] → f_X3_sumOf_4 S n l1 l2 l3 = some o → W p l e (headSpec wsX3_sumOf rX3_sumOf).room s m (([.ref (a 0), .int p1] : List Value).toArray) below meth c s.heap [] 0 0 (MQ below (q_Ri o) (([.ref (a 0), .int p1] : List Value).toArray) s 0 0 (fun _ => False)) (F0 m 4 ls []) := by
    intro n
    induction n with
    | zero => intro l1 l2 l3 ls hl hf; cases hf
    | succ n ih =>
      intro l1 l2 l3 ls hl hf
      rw [f_X3_sumOf_4] at hf
      refine lv_iload_n hx hb dX3_sumOf_4 rfl (lv_at hl 3 rfl) ?_
      refine lv_i2l (v := ((l3 : Int32).toInt64)) hx hb dX3_sumOf_5 rfl ?_
      refine lv_aload_n hx hb dX3_sumOf_6 rfl (lv_at hl 0 rfl) ?_
      refine va_get (D := D) (ci := 3) (v := .ref (a 1)) (C := RX3) (T := TX3) (N := 15) hx hb hu (fun _ h => h) hown hE.1 hP 0 rfl rfl 0 (Nat.le_of_ble_eq_true rfl) (hts (.fieldLink RX3 7 "CoverMeterModel" "now" "[J") (List.mem_of_getElem? (i := 1) rfl)) (fun _ h9 => h9) rfl dX3_sumOf_7 ?_
      refine lv_iconst (v := 4) hx hb dX3_sumOf_10 (by decide) ?_
      have hi1 := q_gd_in hf
      have hf := q_gd_go hf
      refine va_lald hx hb hE.1 hP 1 1 rfl rfl hi1 dX3_sumOf_11 ?_
      refine W.lcmp hx hb dX3_sumOf_12 ?_
      refine lv_if_ge (tgt := 43) hx hb dX3_sumOf_13 (by decide) (fun c2 => ?_) (fun c2 => ?_)
      · have hf := q_ite_t c2 hf
        refine lv_iload_n hx hb dX3_sumOf_43 rfl (lv_at hl 2 rfl) ?_
        have ho := q_some hf
        subst ho
        exact W.iret hx hb hr (fun t ht hW => ⟨rfl, ht⟩) t_nil dX3_sumOf_44
      · have hf := q_ite_f c2 hf
        refine lv_iload_n hx hb dX3_sumOf_16 rfl (lv_at hl 2 rfl) ?_
        refine lv_iload_n hx hb dX3_sumOf_17 rfl (lv_at hl 1 rfl) ?_
        refine lv_if_eq (tgt := 30) hx hb dX3_sumOf_18 (by decide) (fun c3 => ?_) (fun c3 => ?_)
        · have hf := q_ite_t c3 hf
          refine lv_aload_n hx hb dX3_sumOf_30 rfl (lv_at hl 0 rfl) ?_
          refine lv_iload_n hx hb dX3_sumOf_31 rfl (lv_at hl 3 rfl) ?_
          obtain ⟨r4, hr4, hf⟩ := q_bd_go hf
          refine q_rdVi (ci := 3) (As := [.int l3]) (rest := [.int l2]) hx hb hml hown hts (c_X3_bids l D cI cJ cS a S l3 _ hr4) (cwV 1 hts gX3_sumOf_X3_bids rfl rfl rfl (by decide +kernel) ⟨(Nat.le_of_ble_eq_true rfl), (Nat.le_of_ble_eq_true rfl)⟩) hE hP rfl rfl rfl hl.1 rfl (Nat.le_of_ble_eq_true rfl) dX3_sumOf_32 ⟨Nat.zero_le _, Nat.zero_le _⟩ ?_
          refine lv_iadd hx hb dX3_sumOf_35 ?_
          obtain ⟨v5, ev5, hf⟩ := q_let_go hf
          refine q_nmi ev5 ?_
          refine lv_istore_n (lv' := [(2, .int v5), (0, .ref (a 0)), (1, .int l1), (3, .int l3)]) hx hb dX3_sumOf_36 rfl hl (by decide) rfl (fun ls hl => ?_)
          obtain ⟨v6, ev6, hf⟩ := q_let_go hf
          refine lv_iinc (v := v6) (lv' := [(3, .int v6), (2, .int v5), (0, .ref (a 0)), (1, .int l1)]) hx hb dX3_sumOf_37 hl (k := 3) rfl (by rw [← ev6]; rfl) (by decide) rfl (fun ls hl => ?_)
          refine lv_goto (tgt := 4) hx hb dX3_sumOf_40 (by decide) ?_
          exact ih l1 v5 v6 _ (lv_sub hl [2, 3, 1, 0] rfl) hf
        · have hf := q_ite_f c3 hf
          refine lv_aload_n hx hb dX3_sumOf_21 rfl (lv_at hl 0 rfl) ?_
          refine lv_iload_n hx hb dX3_sumOf_22 rfl (lv_at hl 3 rfl) ?_
          refine lv_iconst (v := 4) hx hb dX3_sumOf_23 (by decide) ?_
          obtain ⟨r7, hr7, hf⟩ := q_bd_go hf
          refine q_rdVi (ci := 3) (As := [.int l3, .int 4]) (rest := [.int l2]) hx hb hml hown hts (c_X3_ofA l D cI cJ cS a S l3 4 _ hr7) (cwV 2 hts gX3_sumOf_X3_ofA rfl rfl rfl (by decide +kernel) ⟨(Nat.le_of_ble_eq_true rfl), (Nat.le_of_ble_eq_true rfl)⟩) hE hP rfl rfl rfl hl.1 rfl (Nat.le_of_ble_eq_true rfl) dX3_sumOf_24 ⟨Nat.zero_le _, Nat.zero_le _⟩ ?_
          refine lv_goto (tgt := 35) hx hb dX3_sumOf_27 (by decide) ?_
          refine lv_iadd hx hb dX3_sumOf_35 ?_
          obtain ⟨v8, ev8, hf⟩ := q_let_go hf
          refine q_nmi ev8 ?_
          refine lv_istore_n (lv' := [(2, .int v8), (0, .ref (a 0)), (1, .int l1), (3, .int l3)]) hx hb dX3_sumOf_36 rfl hl (by decide) rfl (fun ls hl => ?_)
          obtain ⟨v9, ev9, hf⟩ := q_let_go hf
          refine lv_iinc (v := v9) (lv' := [(3, .int v9), (2, .int v8), (0, .ref (a 0)), (1, .int l1)]) hx hb dX3_sumOf_37 hl (k := 3) rfl (by rw [← ev9]; rfl) (by decide) rfl (fun ls hl => ?_)
          refine lv_goto (tgt := 4) hx hb dX3_sumOf_40 (by decide) ?_
          exact ih l1 v8 v9 _ (lv_sub hl [2, 3, 1, 0] rfl) hf
  have hl := lv_entry ([.ref (a 0), .int p1]) (n := 4) (Nat.le_of_ble_eq_true rfl)
  rw [lg_entry_eq]
  generalize (lg_sl ([.ref (a 0), .int p1]) ++ List.replicate (4 - (lg_sl ([.ref (a 0), .int p1])).length) Slot.unset).toArray = ls at hl ⊢
  have hl : lv_has ls 4 [(0, .ref (a 0)), (1, .int p1)] := hl
  unfold f_X3_sumOf at hf
  refine lv_iconst (v := 0) hx hb dX3_sumOf_0 (by decide) ?_
  refine lv_istore_n (lv' := [(2, .int 0), (0, .ref (a 0)), (1, .int p1)]) hx hb dX3_sumOf_1 rfl hl (by decide) rfl (fun ls hl => ?_)
  refine lv_iconst (v := 0) hx hb dX3_sumOf_2 (by decide) ?_
  refine lv_istore_n (lv' := [(3, .int 0), (2, .int 0), (0, .ref (a 0)), (1, .int p1)]) hx hb dX3_sumOf_3 rfl hl (by decide) rfl (fun ls hl => ?_)
  exact L_4 2000 p1 0 0 _ (lv_sub hl [2, 3, 1, 0] rfl) hf
def f_X3_tellsAll (S : MD) (p1 : Int32) : Option Int32 := if p1 = 0 then
 (if q_in 3 420 = true then
 (some (((MD_now S (3 : Int32).toNatClampNeg) : Int64).toInt32)) else none)
 else (if p1 = 1 then
 (if q_in 4 420 = true then
 (some (((MD_now S (4 : Int32).toNatClampNeg) : Int64).toInt32)) else none)
 else (if p1 = 2 then
 ((f_X3_ofState S 0).bind fun r4 =>
 some r4)
 else (if p1 = 3 then
 ((f_X3_ofState S 1).bind fun r5 =>
 some r5)
 else (if p1 = 4 then
 ((f_X3_ofState S 2).bind fun r6 =>
 some r6)
 else (if p1 = 5 then
 ((f_X3_ofState S 3).bind fun r7 =>
 some r7)
 else (if p1 = 6 then
 ((f_X3_meterOf S 1).bind fun r8 =>
 some r8)
 else (if p1 = 7 then
 ((f_X3_meterOf S 0).bind fun r9 =>
 some r9)
 else (if p1 = 8 then
 ((f_X3_sumOf S 0).bind fun r10 =>
 some r10)
 else (if p1 = 9 then
 ((f_X3_sumOf S 1).bind fun r11 =>
 some r11)
 else (if q_in 5 420 = true then
 (some (((MD_now S (5 : Int32).toNatClampNeg) : Int64).toInt32)) else none))))))))))
abbrev rX3_tellsAll : Room := { frames := 3, cells := 0, slots := 0, locals := 68 }
set_option maxRecDepth 100000 in
set_option maxHeartbeats 4000000 in
theorem c_X3_tellsAll (l : Launch) (D : va_G) (cI cJ cS : ClassId) (a : Nat → Nat) (S : MD) (p1 : Int32) (o : Int32) (hf : f_X3_tellsAll S p1 = some o) : Met l yX3_tellsAll wsX3_tellsAll rX3_tellsAll (va_Pc [.ref (a 0), .int p1] (q_B D cI cJ cS (wMD cI cJ a S))) (q_Ri o) 0 0 (fun _ => False) := by
  refine Met.ofW (cc := cX3_tellsAll) (maxL := 2) (ret := some .int) (by decide) rfl ?_
  intro p e s m args below meth c s₁ B hml hv
  obtain ⟨rfl, hP, hE⟩ := hv
  have hx := B.exec
  have hb := B.bytes
  have hr := B.returns
  have hts := atoms_spec (ws := wsX3_tellsAll) B.pre
  have hown : s.vm.findClass RX3 = some m.cls := findClass_of_methodNamed B.named
  have hlocks := B.notSynchronized
  have hu : ∀ z ∈ wsX30, z.before _ s = true := fun z h => hts z (List.mem_cons_of_mem _ (List.mem_append_right _ h))
  have hl := lv_entry ([.ref (a 0), .int p1]) (n := 2) (Nat.le_of_ble_eq_true rfl)
  rw [lg_entry_eq]
  generalize (lg_sl ([.ref (a 0), .int p1]) ++ List.replicate (2 - (lg_sl ([.ref (a 0), .int p1])).length) Slot.unset).toArray = ls at hl ⊢
  have hl : lv_has ls 2 [(0, .ref (a 0)), (1, .int p1)] := hl
  unfold f_X3_tellsAll at hf
  refine lv_iload_n hx hb dX3_tellsAll_0 rfl (lv_at hl 1 rfl) ?_
  by_cases c1_0 : p1 = 0
  · have hf := q_ite_t c1_0 hf
    refine lv_tableIn (tgt := 56) hx hb dX3_tellsAll_1 (by rw [c1_0]; decide) (by rw [c1_0]; decide) (by rw [c1_0]; rfl) (by decide) ?_
    refine lv_aload_n hx hb dX3_tellsAll_56 rfl (lv_at hl 0 rfl) ?_
    refine va_get (D := D) (ci := 3) (v := .ref (a 1)) (C := RX3) (T := TX3) (N := 15) hx hb hu (fun _ h => h) hown hE.1 hP 0 rfl rfl 0 (Nat.le_of_ble_eq_true rfl) (hts (.fieldLink RX3 7 "CoverMeterModel" "now" "[J") (List.mem_of_getElem? (i := 1) rfl)) (fun _ h9 => h9) rfl dX3_tellsAll_57 ?_
    refine lv_iconst (v := 3) hx hb dX3_tellsAll_60 (by decide) ?_
    have hi2 := q_gd_in hf
    have hf := q_gd_go hf
    refine va_lald hx hb hE.1 hP 1 1 rfl rfl hi2 dX3_tellsAll_61 ?_
    refine lv_l2i (v := (((MD_now S (3 : Int32).toNatClampNeg) : Int64).toInt32)) hx hb dX3_tellsAll_62 rfl ?_
    have ho := q_some hf
    subst ho
    exact W.iret hx hb hr (fun t ht hW => ⟨rfl, ht⟩) t_nil dX3_tellsAll_63
  have hf := q_ite_f c1_0 hf
  by_cases c1_1 : p1 = 1
  · have hf := q_ite_t c1_1 hf
    refine lv_tableIn (tgt := 64) hx hb dX3_tellsAll_1 (by rw [c1_1]; decide) (by rw [c1_1]; decide) (by rw [c1_1]; rfl) (by decide) ?_
    refine lv_aload_n hx hb dX3_tellsAll_64 rfl (lv_at hl 0 rfl) ?_
    refine va_get (D := D) (ci := 3) (v := .ref (a 1)) (C := RX3) (T := TX3) (N := 15) hx hb hu (fun _ h => h) hown hE.1 hP 0 rfl rfl 0 (Nat.le_of_ble_eq_true rfl) (hts (.fieldLink RX3 7 "CoverMeterModel" "now" "[J") (List.mem_of_getElem? (i := 1) rfl)) (fun _ h9 => h9) rfl dX3_tellsAll_65 ?_
    refine lv_iconst (v := 4) hx hb dX3_tellsAll_68 (by decide) ?_
    have hi3 := q_gd_in hf
    have hf := q_gd_go hf
    refine va_lald hx hb hE.1 hP 1 1 rfl rfl hi3 dX3_tellsAll_69 ?_
    refine lv_l2i (v := (((MD_now S (4 : Int32).toNatClampNeg) : Int64).toInt32)) hx hb dX3_tellsAll_70 rfl ?_
    have ho := q_some hf
    subst ho
    exact W.iret hx hb hr (fun t ht hW => ⟨rfl, ht⟩) t_nil dX3_tellsAll_71
  have hf := q_ite_f c1_1 hf
  by_cases c1_2 : p1 = 2
  · have hf := q_ite_t c1_2 hf
    refine lv_tableIn (tgt := 72) hx hb dX3_tellsAll_1 (by rw [c1_2]; decide) (by rw [c1_2]; decide) (by rw [c1_2]; rfl) (by decide) ?_
    refine lv_aload_n hx hb dX3_tellsAll_72 rfl (lv_at hl 0 rfl) ?_
    refine lv_iconst (v := 0) hx hb dX3_tellsAll_73 (by decide) ?_
    obtain ⟨r4, hr4, hf⟩ := q_bd_go hf
    refine q_rdVi (ci := 3) (As := [.int 0]) (rest := []) hx hb hml hown hts (c_X3_ofState l D cI cJ cS a S 0 _ hr4) (cwV 1 hts gX3_tellsAll_X3_ofState rfl rfl rfl (by decide +kernel) ⟨(Nat.le_of_ble_eq_true rfl), (Nat.le_of_ble_eq_true rfl)⟩) hE hP rfl rfl rfl hl.1 rfl (Nat.le_of_ble_eq_true rfl) dX3_tellsAll_74 ⟨Nat.zero_le _, Nat.zero_le _⟩ ?_
    have ho := q_some hf
    subst ho
    exact W.iret hx hb hr (fun t ht hW => ⟨rfl, ht⟩) t_nil dX3_tellsAll_77
  have hf := q_ite_f c1_2 hf
  by_cases c1_3 : p1 = 3
  · have hf := q_ite_t c1_3 hf
    refine lv_tableIn (tgt := 78) hx hb dX3_tellsAll_1 (by rw [c1_3]; decide) (by rw [c1_3]; decide) (by rw [c1_3]; rfl) (by decide) ?_
    refine lv_aload_n hx hb dX3_tellsAll_78 rfl (lv_at hl 0 rfl) ?_
    refine lv_iconst (v := 1) hx hb dX3_tellsAll_79 (by decide) ?_
    obtain ⟨r5, hr5, hf⟩ := q_bd_go hf
    refine q_rdVi (ci := 3) (As := [.int 1]) (rest := []) hx hb hml hown hts (c_X3_ofState l D cI cJ cS a S 1 _ hr5) (cwV 1 hts gX3_tellsAll_X3_ofState rfl rfl rfl (by decide +kernel) ⟨(Nat.le_of_ble_eq_true rfl), (Nat.le_of_ble_eq_true rfl)⟩) hE hP rfl rfl rfl hl.1 rfl (Nat.le_of_ble_eq_true rfl) dX3_tellsAll_80 ⟨Nat.zero_le _, Nat.zero_le _⟩ ?_
    have ho := q_some hf
    subst ho
    exact W.iret hx hb hr (fun t ht hW => ⟨rfl, ht⟩) t_nil dX3_tellsAll_83
  have hf := q_ite_f c1_3 hf
  by_cases c1_4 : p1 = 4
  · have hf := q_ite_t c1_4 hf
    refine lv_tableIn (tgt := 84) hx hb dX3_tellsAll_1 (by rw [c1_4]; decide) (by rw [c1_4]; decide) (by rw [c1_4]; rfl) (by decide) ?_
    refine lv_aload_n hx hb dX3_tellsAll_84 rfl (lv_at hl 0 rfl) ?_
    refine lv_iconst (v := 2) hx hb dX3_tellsAll_85 (by decide) ?_
    obtain ⟨r6, hr6, hf⟩ := q_bd_go hf
    refine q_rdVi (ci := 3) (As := [.int 2]) (rest := []) hx hb hml hown hts (c_X3_ofState l D cI cJ cS a S 2 _ hr6) (cwV 1 hts gX3_tellsAll_X3_ofState rfl rfl rfl (by decide +kernel) ⟨(Nat.le_of_ble_eq_true rfl), (Nat.le_of_ble_eq_true rfl)⟩) hE hP rfl rfl rfl hl.1 rfl (Nat.le_of_ble_eq_true rfl) dX3_tellsAll_86 ⟨Nat.zero_le _, Nat.zero_le _⟩ ?_
    have ho := q_some hf
    subst ho
    exact W.iret hx hb hr (fun t ht hW => ⟨rfl, ht⟩) t_nil dX3_tellsAll_89
  have hf := q_ite_f c1_4 hf
  by_cases c1_5 : p1 = 5
  · have hf := q_ite_t c1_5 hf
    refine lv_tableIn (tgt := 90) hx hb dX3_tellsAll_1 (by rw [c1_5]; decide) (by rw [c1_5]; decide) (by rw [c1_5]; rfl) (by decide) ?_
    refine lv_aload_n hx hb dX3_tellsAll_90 rfl (lv_at hl 0 rfl) ?_
    refine lv_iconst (v := 3) hx hb dX3_tellsAll_91 (by decide) ?_
    obtain ⟨r7, hr7, hf⟩ := q_bd_go hf
    refine q_rdVi (ci := 3) (As := [.int 3]) (rest := []) hx hb hml hown hts (c_X3_ofState l D cI cJ cS a S 3 _ hr7) (cwV 1 hts gX3_tellsAll_X3_ofState rfl rfl rfl (by decide +kernel) ⟨(Nat.le_of_ble_eq_true rfl), (Nat.le_of_ble_eq_true rfl)⟩) hE hP rfl rfl rfl hl.1 rfl (Nat.le_of_ble_eq_true rfl) dX3_tellsAll_92 ⟨Nat.zero_le _, Nat.zero_le _⟩ ?_
    have ho := q_some hf
    subst ho
    exact W.iret hx hb hr (fun t ht hW => ⟨rfl, ht⟩) t_nil dX3_tellsAll_95
  have hf := q_ite_f c1_5 hf
  by_cases c1_6 : p1 = 6
  · have hf := q_ite_t c1_6 hf
    refine lv_tableIn (tgt := 96) hx hb dX3_tellsAll_1 (by rw [c1_6]; decide) (by rw [c1_6]; decide) (by rw [c1_6]; rfl) (by decide) ?_
    refine lv_aload_n hx hb dX3_tellsAll_96 rfl (lv_at hl 0 rfl) ?_
    refine lv_iconst (v := 1) hx hb dX3_tellsAll_97 (by decide) ?_
    obtain ⟨r8, hr8, hf⟩ := q_bd_go hf
    refine q_rdVi (ci := 3) (As := [.int 1]) (rest := []) hx hb hml hown hts (c_X3_meterOf l D cI cJ cS a S 1 _ hr8) (cwV 1 hts gX3_tellsAll_X3_meterOf rfl rfl rfl (by decide +kernel) ⟨(Nat.le_of_ble_eq_true rfl), (Nat.le_of_ble_eq_true rfl)⟩) hE hP rfl rfl rfl hl.1 rfl (Nat.le_of_ble_eq_true rfl) dX3_tellsAll_98 ⟨Nat.zero_le _, Nat.zero_le _⟩ ?_
    have ho := q_some hf
    subst ho
    exact W.iret hx hb hr (fun t ht hW => ⟨rfl, ht⟩) t_nil dX3_tellsAll_101
  have hf := q_ite_f c1_6 hf
  by_cases c1_7 : p1 = 7
  · have hf := q_ite_t c1_7 hf
    refine lv_tableIn (tgt := 102) hx hb dX3_tellsAll_1 (by rw [c1_7]; decide) (by rw [c1_7]; decide) (by rw [c1_7]; rfl) (by decide) ?_
    refine lv_aload_n hx hb dX3_tellsAll_102 rfl (lv_at hl 0 rfl) ?_
    refine lv_iconst (v := 0) hx hb dX3_tellsAll_103 (by decide) ?_
    obtain ⟨r9, hr9, hf⟩ := q_bd_go hf
    refine q_rdVi (ci := 3) (As := [.int 0]) (rest := []) hx hb hml hown hts (c_X3_meterOf l D cI cJ cS a S 0 _ hr9) (cwV 1 hts gX3_tellsAll_X3_meterOf rfl rfl rfl (by decide +kernel) ⟨(Nat.le_of_ble_eq_true rfl), (Nat.le_of_ble_eq_true rfl)⟩) hE hP rfl rfl rfl hl.1 rfl (Nat.le_of_ble_eq_true rfl) dX3_tellsAll_104 ⟨Nat.zero_le _, Nat.zero_le _⟩ ?_
    have ho := q_some hf
    subst ho
    exact W.iret hx hb hr (fun t ht hW => ⟨rfl, ht⟩) t_nil dX3_tellsAll_107
  have hf := q_ite_f c1_7 hf
  by_cases c1_8 : p1 = 8
  · have hf := q_ite_t c1_8 hf
    refine lv_tableIn (tgt := 108) hx hb dX3_tellsAll_1 (by rw [c1_8]; decide) (by rw [c1_8]; decide) (by rw [c1_8]; rfl) (by decide) ?_
    refine lv_aload_n hx hb dX3_tellsAll_108 rfl (lv_at hl 0 rfl) ?_
    refine lv_iconst (v := 0) hx hb dX3_tellsAll_109 (by decide) ?_
    obtain ⟨r10, hr10, hf⟩ := q_bd_go hf
    refine q_rdVi (ci := 3) (As := [.int 0]) (rest := []) hx hb hml hown hts (c_X3_sumOf l D cI cJ cS a S 0 _ hr10) (cwV 1 hts gX3_tellsAll_X3_sumOf rfl rfl rfl (by decide +kernel) ⟨(Nat.le_of_ble_eq_true rfl), (Nat.le_of_ble_eq_true rfl)⟩) hE hP rfl rfl rfl hl.1 rfl (Nat.le_of_ble_eq_true rfl) dX3_tellsAll_110 ⟨Nat.zero_le _, Nat.zero_le _⟩ ?_
    have ho := q_some hf
    subst ho
    exact W.iret hx hb hr (fun t ht hW => ⟨rfl, ht⟩) t_nil dX3_tellsAll_113
  have hf := q_ite_f c1_8 hf
  by_cases c1_9 : p1 = 9
  · have hf := q_ite_t c1_9 hf
    refine lv_tableIn (tgt := 114) hx hb dX3_tellsAll_1 (by rw [c1_9]; decide) (by rw [c1_9]; decide) (by rw [c1_9]; rfl) (by decide) ?_
    refine lv_aload_n hx hb dX3_tellsAll_114 rfl (lv_at hl 0 rfl) ?_
    refine lv_iconst (v := 1) hx hb dX3_tellsAll_115 (by decide) ?_
    obtain ⟨r11, hr11, hf⟩ := q_bd_go hf
    refine q_rdVi (ci := 3) (As := [.int 1]) (rest := []) hx hb hml hown hts (c_X3_sumOf l D cI cJ cS a S 1 _ hr11) (cwV 1 hts gX3_tellsAll_X3_sumOf rfl rfl rfl (by decide +kernel) ⟨(Nat.le_of_ble_eq_true rfl), (Nat.le_of_ble_eq_true rfl)⟩) hE hP rfl rfl rfl hl.1 rfl (Nat.le_of_ble_eq_true rfl) dX3_tellsAll_116 ⟨Nat.zero_le _, Nat.zero_le _⟩ ?_
    have ho := q_some hf
    subst ho
    exact W.iret hx hb hr (fun t ht hW => ⟨rfl, ht⟩) t_nil dX3_tellsAll_119
  have hf := q_ite_f c1_9 hf
  have zc1_0 := lv_neT (a := 0) c1_0 (by decide)
  have zc1_1 := lv_neT (a := 1) c1_1 (by decide)
  have zc1_2 := lv_neT (a := 2) c1_2 (by decide)
  have zc1_3 := lv_neT (a := 3) c1_3 (by decide)
  have zc1_4 := lv_neT (a := 4) c1_4 (by decide)
  have zc1_5 := lv_neT (a := 5) c1_5 (by decide)
  have zc1_6 := lv_neT (a := 6) c1_6 (by decide)
  have zc1_7 := lv_neT (a := 7) c1_7 (by decide)
  have zc1_8 := lv_neT (a := 8) c1_8 (by decide)
  have zc1_9 := lv_neT (a := 9) c1_9 (by decide)
  refine lv_tableOut (tgt := 120) hx hb dX3_tellsAll_1 (by omega) (by decide) ?_
  refine lv_aload_n hx hb dX3_tellsAll_120 rfl (lv_at hl 0 rfl) ?_
  refine va_get (D := D) (ci := 3) (v := .ref (a 1)) (C := RX3) (T := TX3) (N := 15) hx hb hu (fun _ h => h) hown hE.1 hP 0 rfl rfl 0 (Nat.le_of_ble_eq_true rfl) (hts (.fieldLink RX3 7 "CoverMeterModel" "now" "[J") (List.mem_of_getElem? (i := 1) rfl)) (fun _ h9 => h9) rfl dX3_tellsAll_121 ?_
  refine lv_iconst (v := 5) hx hb dX3_tellsAll_124 (by decide) ?_
  have hi12 := q_gd_in hf
  have hf := q_gd_go hf
  refine va_lald hx hb hE.1 hP 1 1 rfl rfl hi12 dX3_tellsAll_125 ?_
  refine lv_l2i (v := (((MD_now S (5 : Int32).toNatClampNeg) : Int64).toInt32)) hx hb dX3_tellsAll_126 rfl ?_
  have ho := q_some hf
  subst ho
  exact W.iret hx hb hr (fun t ht hW => ⟨rfl, ht⟩) t_nil dX3_tellsAll_127
def f_X3_value (S : MD) (p1 : Int32) : Option (Int32 × MD) := (f_X3_isIn ((p1 : Int32).toInt64) 0 10).bind fun r1 =>
 if r1 = 0 then
 (q_let (sMD_thrown S 1) fun S3 =>
 if ¬ (MD_thrown S3) = 0 then
 (some (0, S3))
 else ((f_X3_tellsAll S3 p1).bind fun r5 =>
 some (r5, S3)))
 else (q_let (sMD_thrown S 0) fun S6 =>
 if ¬ (MD_thrown S6) = 0 then
 (some (0, S6))
 else ((f_X3_tellsAll S6 p1).bind fun r8 =>
 some (r8, S6)))
abbrev rX3_value : Room := { frames := 4, cells := 0, slots := 0, locals := 89 }
set_option maxRecDepth 100000 in
set_option maxHeartbeats 4000000 in
theorem c_X3_value (l : Launch) (D : va_G) (cI cJ cS : ClassId) (a : Nat → Nat) (S : MD) (sz : Nat) (p1 : Int32) (o : (Int32 × MD)) (hf : f_X3_value S p1 = some o) : Met l yX3_value wsX3_value rX3_value (va_Pc [.ref (a 0), .int p1] (q_BW D cI cJ cS (wMD cI cJ a S) sz)) (q_Wo (some (.int o.1)) D (wMD cI cJ a S) (wMD cI cJ a o.2) sz) 0 0 (va_A (wMD cI cJ a S) sz) := by
  refine Met.ofW (cc := cX3_value) (maxL := 2) (ret := some .int) (by decide) rfl ?_
  intro p e s m args below meth c s₁ B hml hv
  obtain ⟨rfl, hsz, hP, hE, hD0⟩ := hv
  have hx := B.exec
  have hb := B.bytes
  have hr := B.returns
  have hts := atoms_spec (ws := wsX3_value) B.pre
  have hown : s.vm.findClass RX3 = some m.cls := findClass_of_methodNamed B.named
  have hlocks := B.notSynchronized
  have hu : ∀ z ∈ wsX30, z.before _ s = true := fun z h => hts z (List.mem_cons_of_mem _ (List.mem_append_right _ h))
  subst hsz
  have hD := hD0.self (sz := s.heap.size)
  have hS : va_S (va_A (wMD cI cJ a S) s.heap.size) s.heap s.heap [] := va_S.rf
  have hl := lv_entry ([.ref (a 0), .int p1]) (n := 2) (Nat.le_of_ble_eq_true rfl)
  rw [lg_entry_eq]
  generalize (lg_sl ([.ref (a 0), .int p1]) ++ List.replicate (2 - (lg_sl ([.ref (a 0), .int p1])).length) Slot.unset).toArray = ls at hl ⊢
  have hl : lv_has ls 2 [(0, .ref (a 0)), (1, .int p1)] := hl
  unfold f_X3_value at hf
  refine lv_aload_n hx hb dX3_value_0 rfl (lv_at hl 0 rfl) ?_
  refine lv_iload_n hx hb dX3_value_1 rfl (lv_at hl 1 rfl) ?_
  refine lv_i2l (v := ((p1 : Int32).toInt64)) hx hb dX3_value_2 rfl ?_
  refine lv_lconst (v := 0) hx hb dX3_value_3 (by decide) ?_
  refine lv_ldc2 (v := 10) hx hb hown (hts (.constantLong RX3 26 (10)) (List.mem_of_getElem? (i := 1) rfl)) dX3_value_4 ?_
  obtain ⟨r1, hr1, hf⟩ := q_bd_go hf
  refine q_rdSi (As := [.long ((p1 : Int32).toInt64), .long 0, .long 10]) (rest := [.ref (a 0)]) hx hb hml hown hts (c_X3_isIn l D cI cJ cS ((p1 : Int32).toInt64) 0 10 _ hr1) (va_cwS 3 hts gX3_value_X3_isIn rfl rfl rfl (by decide +kernel) ⟨(Nat.le_of_ble_eq_true rfl), (Nat.le_of_ble_eq_true rfl)⟩) hE rfl hl.1 rfl (Nat.le_of_ble_eq_true rfl) dX3_value_7 ⟨Nat.zero_le _, Nat.zero_le _⟩ ?_
  refine lv_if_eq (tgt := 17) hx hb dX3_value_10 (by decide) (fun c2 => ?_) (fun c2 => ?_)
  · have hf := q_ite_t c2 hf
    refine lv_iconst (v := 1) hx hb dX3_value_17 (by decide) ?_
    obtain ⟨S3, eS3, hf⟩ := q_let_go hf
    refine va_put (D := D) (ci := 3) (v := .int 1) (ty := .int) (C := RX3) (T := TX3) (N := 15) hx hb hu (fun _ h => h) tyX3 tyX3_ok nmX3 hown hE.1 hP hD hS 0 rfl rfl 3 (Nat.le_of_ble_eq_true rfl) (hts (.fieldLink RX3 30 "CoverMeterModel" "thrown" "I") (List.mem_of_getElem? (i := 2) rfl)) (fun _ h9 => h9) rfl (by decide +kernel) rfl rfl (Nat.le_of_ble_eq_true rfl) dX3_value_18 (fun H locs hP hD hS => ?_)
    have hP : va_P D vwCl (wMD cI cJ a (sMD_thrown S 1)) H := hP
    have hD : va_D (va_A (wMD cI cJ a S) s.heap.size) (wMD cI cJ a (sMD_thrown S 1)) := hD
    rw [eS3] at hP hD
    refine lv_aload_n hx hb dX3_value_21 rfl (lv_at hl 0 rfl) ?_
    refine va_get (D := D) (ci := 3) (v := .int (MD_thrown S3)) (C := RX3) (T := TX3) (N := 15) hx hb hu (fun _ h => h) hown hE.1 hP 0 rfl rfl 3 (Nat.le_of_ble_eq_true rfl) (hts (.fieldLink RX3 30 "CoverMeterModel" "thrown" "I") (List.mem_of_getElem? (i := 2) rfl)) (fun _ h9 => h9) rfl dX3_value_22 ?_
    refine lv_if_ne (tgt := 36) hx hb dX3_value_25 (by decide) (fun c4 => ?_) (fun c4 => ?_)
    · have hf := q_ite_t c4 hf
      refine lv_iconst (v := 0) hx hb dX3_value_36 (by decide) ?_
      have ho := q_some hf
      subst ho
      exact W.iret hx hb hr (fun t ht hW => ⟨rfl, ⟨by rw [ht]; exact hP, hD⟩, hS.F ht⟩) hS.2.2 dX3_value_37
    · have hf := q_ite_n c4 hf
      refine lv_aload_n hx hb dX3_value_28 rfl (lv_at hl 0 rfl) ?_
      refine lv_iload_n hx hb dX3_value_29 rfl (lv_at hl 1 rfl) ?_
      obtain ⟨r5, hr5, hf⟩ := q_bd_go hf
      refine q_rdVi (ci := 3) (As := [.int p1]) (rest := []) hx hb hml hown hts (c_X3_tellsAll l D cI cJ cS a S3 p1 _ hr5) (cwV 1 hts gX3_value_X3_tellsAll rfl rfl rfl (by decide +kernel) ⟨(Nat.le_of_ble_eq_true rfl), (Nat.le_of_ble_eq_true rfl)⟩) hE hP rfl rfl rfl hl.1 rfl (Nat.le_of_ble_eq_true rfl) dX3_value_30 ⟨Nat.zero_le _, Nat.zero_le _⟩ ?_
      refine lv_goto (tgt := 37) hx hb dX3_value_33 (by decide) ?_
      have ho := q_some hf
      subst ho
      exact W.iret hx hb hr (fun t ht hW => ⟨rfl, ⟨by rw [ht]; exact hP, hD⟩, hS.F ht⟩) hS.2.2 dX3_value_37
  · have hf := q_ite_f c2 hf
    refine lv_iconst (v := 0) hx hb dX3_value_13 (by decide) ?_
    refine lv_goto (tgt := 18) hx hb dX3_value_14 (by decide) ?_
    obtain ⟨S6, eS6, hf⟩ := q_let_go hf
    refine va_put (D := D) (ci := 3) (v := .int 0) (ty := .int) (C := RX3) (T := TX3) (N := 15) hx hb hu (fun _ h => h) tyX3 tyX3_ok nmX3 hown hE.1 hP hD hS 0 rfl rfl 3 (Nat.le_of_ble_eq_true rfl) (hts (.fieldLink RX3 30 "CoverMeterModel" "thrown" "I") (List.mem_of_getElem? (i := 2) rfl)) (fun _ h9 => h9) rfl (by decide +kernel) rfl rfl (Nat.le_of_ble_eq_true rfl) dX3_value_18 (fun H locs hP hD hS => ?_)
    have hP : va_P D vwCl (wMD cI cJ a (sMD_thrown S 0)) H := hP
    have hD : va_D (va_A (wMD cI cJ a S) s.heap.size) (wMD cI cJ a (sMD_thrown S 0)) := hD
    rw [eS6] at hP hD
    refine lv_aload_n hx hb dX3_value_21 rfl (lv_at hl 0 rfl) ?_
    refine va_get (D := D) (ci := 3) (v := .int (MD_thrown S6)) (C := RX3) (T := TX3) (N := 15) hx hb hu (fun _ h => h) hown hE.1 hP 0 rfl rfl 3 (Nat.le_of_ble_eq_true rfl) (hts (.fieldLink RX3 30 "CoverMeterModel" "thrown" "I") (List.mem_of_getElem? (i := 2) rfl)) (fun _ h9 => h9) rfl dX3_value_22 ?_
    refine lv_if_ne (tgt := 36) hx hb dX3_value_25 (by decide) (fun c7 => ?_) (fun c7 => ?_)
    · have hf := q_ite_t c7 hf
      refine lv_iconst (v := 0) hx hb dX3_value_36 (by decide) ?_
      have ho := q_some hf
      subst ho
      exact W.iret hx hb hr (fun t ht hW => ⟨rfl, ⟨by rw [ht]; exact hP, hD⟩, hS.F ht⟩) hS.2.2 dX3_value_37
    · have hf := q_ite_n c7 hf
      refine lv_aload_n hx hb dX3_value_28 rfl (lv_at hl 0 rfl) ?_
      refine lv_iload_n hx hb dX3_value_29 rfl (lv_at hl 1 rfl) ?_
      obtain ⟨r8, hr8, hf⟩ := q_bd_go hf
      refine q_rdVi (ci := 3) (As := [.int p1]) (rest := []) hx hb hml hown hts (c_X3_tellsAll l D cI cJ cS a S6 p1 _ hr8) (cwV 1 hts gX3_value_X3_tellsAll rfl rfl rfl (by decide +kernel) ⟨(Nat.le_of_ble_eq_true rfl), (Nat.le_of_ble_eq_true rfl)⟩) hE hP rfl rfl rfl hl.1 rfl (Nat.le_of_ble_eq_true rfl) dX3_value_30 ⟨Nat.zero_le _, Nat.zero_le _⟩ ?_
      refine lv_goto (tgt := 37) hx hb dX3_value_33 (by decide) ?_
      have ho := q_some hf
      subst ho
      exact W.iret hx hb hr (fun t ht hW => ⟨rfl, ⟨by rw [ht]; exact hP, hD⟩, hS.F ht⟩) hS.2.2 dX3_value_37
def f_X3_setting (S : MD) (p1 : Int32) : Option (Int32 × MD) := (f_X3_isIn ((p1 : Int32).toInt64) 0 2).bind fun r1 =>
 if r1 = 0 then
 (q_let (sMD_thrown S 1) fun S3 =>
 if ¬ (MD_thrown S3) = 0 then
 (some (0, S3))
 else (if q_in p1 420 = true then
 (some ((((MD_now S3 (p1 : Int32).toNatClampNeg) : Int64).toInt32), S3)) else none))
 else (q_let (sMD_thrown S 0) fun S6 =>
 if ¬ (MD_thrown S6) = 0 then
 (some (0, S6))
 else (if q_in p1 420 = true then
 (some ((((MD_now S6 (p1 : Int32).toNatClampNeg) : Int64).toInt32), S6)) else none))
abbrev rX3_setting : Room := { frames := 1, cells := 0, slots := 0, locals := 25 }
set_option maxRecDepth 100000 in
set_option maxHeartbeats 4000000 in
theorem c_X3_setting (l : Launch) (D : va_G) (cI cJ cS : ClassId) (a : Nat → Nat) (S : MD) (sz : Nat) (p1 : Int32) (o : (Int32 × MD)) (hf : f_X3_setting S p1 = some o) : Met l yX3_setting wsX3_setting rX3_setting (va_Pc [.ref (a 0), .int p1] (q_BW D cI cJ cS (wMD cI cJ a S) sz)) (q_Wo (some (.int o.1)) D (wMD cI cJ a S) (wMD cI cJ a o.2) sz) 0 0 (va_A (wMD cI cJ a S) sz) := by
  refine Met.ofW (cc := cX3_setting) (maxL := 2) (ret := some .int) (by decide) rfl ?_
  intro p e s m args below meth c s₁ B hml hv
  obtain ⟨rfl, hsz, hP, hE, hD0⟩ := hv
  have hx := B.exec
  have hb := B.bytes
  have hr := B.returns
  have hts := atoms_spec (ws := wsX3_setting) B.pre
  have hown : s.vm.findClass RX3 = some m.cls := findClass_of_methodNamed B.named
  have hlocks := B.notSynchronized
  have hu : ∀ z ∈ wsX30, z.before _ s = true := fun z h => hts z (List.mem_cons_of_mem _ (List.mem_append_right _ h))
  subst hsz
  have hD := hD0.self (sz := s.heap.size)
  have hS : va_S (va_A (wMD cI cJ a S) s.heap.size) s.heap s.heap [] := va_S.rf
  have hl := lv_entry ([.ref (a 0), .int p1]) (n := 2) (Nat.le_of_ble_eq_true rfl)
  rw [lg_entry_eq]
  generalize (lg_sl ([.ref (a 0), .int p1]) ++ List.replicate (2 - (lg_sl ([.ref (a 0), .int p1])).length) Slot.unset).toArray = ls at hl ⊢
  have hl : lv_has ls 2 [(0, .ref (a 0)), (1, .int p1)] := hl
  unfold f_X3_setting at hf
  refine lv_aload_n hx hb dX3_setting_0 rfl (lv_at hl 0 rfl) ?_
  refine lv_iload_n hx hb dX3_setting_1 rfl (lv_at hl 1 rfl) ?_
  refine lv_i2l (v := ((p1 : Int32).toInt64)) hx hb dX3_setting_2 rfl ?_
  refine lv_lconst (v := 0) hx hb dX3_setting_3 (by decide) ?_
  refine lv_ldc2 (v := 2) hx hb hown (hts (.constantLong RX3 87 (2)) (List.mem_of_getElem? (i := 1) rfl)) dX3_setting_4 ?_
  obtain ⟨r1, hr1, hf⟩ := q_bd_go hf
  refine q_rdSi (As := [.long ((p1 : Int32).toInt64), .long 0, .long 2]) (rest := [.ref (a 0)]) hx hb hml hown hts (c_X3_isIn l D cI cJ cS ((p1 : Int32).toInt64) 0 2 _ hr1) (va_cwS 3 hts gX3_setting_X3_isIn rfl rfl rfl (by decide +kernel) ⟨(Nat.le_of_ble_eq_true rfl), (Nat.le_of_ble_eq_true rfl)⟩) hE rfl hl.1 rfl (Nat.le_of_ble_eq_true rfl) dX3_setting_7 ⟨Nat.zero_le _, Nat.zero_le _⟩ ?_
  refine lv_if_eq (tgt := 17) hx hb dX3_setting_10 (by decide) (fun c2 => ?_) (fun c2 => ?_)
  · have hf := q_ite_t c2 hf
    refine lv_iconst (v := 1) hx hb dX3_setting_17 (by decide) ?_
    obtain ⟨S3, eS3, hf⟩ := q_let_go hf
    refine va_put (D := D) (ci := 3) (v := .int 1) (ty := .int) (C := RX3) (T := TX3) (N := 15) hx hb hu (fun _ h => h) tyX3 tyX3_ok nmX3 hown hE.1 hP hD hS 0 rfl rfl 3 (Nat.le_of_ble_eq_true rfl) (hts (.fieldLink RX3 30 "CoverMeterModel" "thrown" "I") (List.mem_of_getElem? (i := 2) rfl)) (fun _ h9 => h9) rfl (by decide +kernel) rfl rfl (Nat.le_of_ble_eq_true rfl) dX3_setting_18 (fun H locs hP hD hS => ?_)
    have hP : va_P D vwCl (wMD cI cJ a (sMD_thrown S 1)) H := hP
    have hD : va_D (va_A (wMD cI cJ a S) s.heap.size) (wMD cI cJ a (sMD_thrown S 1)) := hD
    rw [eS3] at hP hD
    refine lv_aload_n hx hb dX3_setting_21 rfl (lv_at hl 0 rfl) ?_
    refine va_get (D := D) (ci := 3) (v := .int (MD_thrown S3)) (C := RX3) (T := TX3) (N := 15) hx hb hu (fun _ h => h) hown hE.1 hP 0 rfl rfl 3 (Nat.le_of_ble_eq_true rfl) (hts (.fieldLink RX3 30 "CoverMeterModel" "thrown" "I") (List.mem_of_getElem? (i := 2) rfl)) (fun _ h9 => h9) rfl dX3_setting_22 ?_
    refine lv_if_ne (tgt := 38) hx hb dX3_setting_25 (by decide) (fun c4 => ?_) (fun c4 => ?_)
    · have hf := q_ite_t c4 hf
      refine lv_iconst (v := 0) hx hb dX3_setting_38 (by decide) ?_
      have ho := q_some hf
      subst ho
      exact W.iret hx hb hr (fun t ht hW => ⟨rfl, ⟨by rw [ht]; exact hP, hD⟩, hS.F ht⟩) hS.2.2 dX3_setting_39
    · have hf := q_ite_n c4 hf
      refine lv_aload_n hx hb dX3_setting_28 rfl (lv_at hl 0 rfl) ?_
      refine va_get (D := D) (ci := 3) (v := .ref (a 1)) (C := RX3) (T := TX3) (N := 15) hx hb hu (fun _ h => h) hown hE.1 hP 0 rfl rfl 0 (Nat.le_of_ble_eq_true rfl) (hts (.fieldLink RX3 7 "CoverMeterModel" "now" "[J") (List.mem_of_getElem? (i := 3) rfl)) (fun _ h9 => h9) rfl dX3_setting_29 ?_
      refine lv_iload_n hx hb dX3_setting_32 rfl (lv_at hl 1 rfl) ?_
      have hi5 := q_gd_in hf
      have hf := q_gd_go hf
      refine va_lald hx hb hE.1 hP 1 1 rfl rfl hi5 dX3_setting_33 ?_
      refine lv_l2i (v := (((MD_now S3 (p1 : Int32).toNatClampNeg) : Int64).toInt32)) hx hb dX3_setting_34 rfl ?_
      refine lv_goto (tgt := 39) hx hb dX3_setting_35 (by decide) ?_
      have ho := q_some hf
      subst ho
      exact W.iret hx hb hr (fun t ht hW => ⟨rfl, ⟨by rw [ht]; exact hP, hD⟩, hS.F ht⟩) hS.2.2 dX3_setting_39
  · have hf := q_ite_f c2 hf
    refine lv_iconst (v := 0) hx hb dX3_setting_13 (by decide) ?_
    refine lv_goto (tgt := 18) hx hb dX3_setting_14 (by decide) ?_
    obtain ⟨S6, eS6, hf⟩ := q_let_go hf
    refine va_put (D := D) (ci := 3) (v := .int 0) (ty := .int) (C := RX3) (T := TX3) (N := 15) hx hb hu (fun _ h => h) tyX3 tyX3_ok nmX3 hown hE.1 hP hD hS 0 rfl rfl 3 (Nat.le_of_ble_eq_true rfl) (hts (.fieldLink RX3 30 "CoverMeterModel" "thrown" "I") (List.mem_of_getElem? (i := 2) rfl)) (fun _ h9 => h9) rfl (by decide +kernel) rfl rfl (Nat.le_of_ble_eq_true rfl) dX3_setting_18 (fun H locs hP hD hS => ?_)
    have hP : va_P D vwCl (wMD cI cJ a (sMD_thrown S 0)) H := hP
    have hD : va_D (va_A (wMD cI cJ a S) s.heap.size) (wMD cI cJ a (sMD_thrown S 0)) := hD
    rw [eS6] at hP hD
    refine lv_aload_n hx hb dX3_setting_21 rfl (lv_at hl 0 rfl) ?_
    refine va_get (D := D) (ci := 3) (v := .int (MD_thrown S6)) (C := RX3) (T := TX3) (N := 15) hx hb hu (fun _ h => h) hown hE.1 hP 0 rfl rfl 3 (Nat.le_of_ble_eq_true rfl) (hts (.fieldLink RX3 30 "CoverMeterModel" "thrown" "I") (List.mem_of_getElem? (i := 2) rfl)) (fun _ h9 => h9) rfl dX3_setting_22 ?_
    refine lv_if_ne (tgt := 38) hx hb dX3_setting_25 (by decide) (fun c7 => ?_) (fun c7 => ?_)
    · have hf := q_ite_t c7 hf
      refine lv_iconst (v := 0) hx hb dX3_setting_38 (by decide) ?_
      have ho := q_some hf
      subst ho
      exact W.iret hx hb hr (fun t ht hW => ⟨rfl, ⟨by rw [ht]; exact hP, hD⟩, hS.F ht⟩) hS.2.2 dX3_setting_39
    · have hf := q_ite_n c7 hf
      refine lv_aload_n hx hb dX3_setting_28 rfl (lv_at hl 0 rfl) ?_
      refine va_get (D := D) (ci := 3) (v := .ref (a 1)) (C := RX3) (T := TX3) (N := 15) hx hb hu (fun _ h => h) hown hE.1 hP 0 rfl rfl 0 (Nat.le_of_ble_eq_true rfl) (hts (.fieldLink RX3 7 "CoverMeterModel" "now" "[J") (List.mem_of_getElem? (i := 3) rfl)) (fun _ h9 => h9) rfl dX3_setting_29 ?_
      refine lv_iload_n hx hb dX3_setting_32 rfl (lv_at hl 1 rfl) ?_
      have hi8 := q_gd_in hf
      have hf := q_gd_go hf
      refine va_lald hx hb hE.1 hP 1 1 rfl rfl hi8 dX3_setting_33 ?_
      refine lv_l2i (v := (((MD_now S6 (p1 : Int32).toNatClampNeg) : Int64).toInt32)) hx hb dX3_setting_34 rfl ?_
      refine lv_goto (tgt := 39) hx hb dX3_setting_35 (by decide) ?_
      have ho := q_some hf
      subst ho
      exact W.iret hx hb hr (fun t ht hW => ⟨rfl, ⟨by rw [ht]; exact hP, hD⟩, hS.F ht⟩) hS.2.2 dX3_setting_39
def f_X3_coverer (S : MD) (p1 : Int32) : Option (Int32 × MD) := (f_X3_isAbsence S p1).bind fun r1 =>
 if r1 = 0 then
 (q_let (sMD_thrown S 1) fun S3 =>
 if ¬ (MD_thrown S3) = 0 then
 (some (0, S3))
 else ((f_X3_covererOf S3 p1).bind fun r5 =>
 some (r5, S3)))
 else (q_let (sMD_thrown S 0) fun S6 =>
 if ¬ (MD_thrown S6) = 0 then
 (some (0, S6))
 else ((f_X3_covererOf S6 p1).bind fun r8 =>
 some (r8, S6)))
abbrev rX3_coverer : Room := { frames := 8, cells := 0, slots := 0, locals := 180 }
set_option maxRecDepth 100000 in
set_option maxHeartbeats 4000000 in
theorem c_X3_coverer (l : Launch) (D : va_G) (cI cJ cS : ClassId) (a : Nat → Nat) (S : MD) (sz : Nat) (p1 : Int32) (o : (Int32 × MD)) (hf : f_X3_coverer S p1 = some o) : Met l yX3_coverer wsX3_coverer rX3_coverer (va_Pc [.ref (a 0), .int p1] (q_BW D cI cJ cS (wMD cI cJ a S) sz)) (q_Wo (some (.int o.1)) D (wMD cI cJ a S) (wMD cI cJ a o.2) sz) 0 0 (va_A (wMD cI cJ a S) sz) := by
  refine Met.ofW (cc := cX3_coverer) (maxL := 2) (ret := some .int) (by decide) rfl ?_
  intro p e s m args below meth c s₁ B hml hv
  obtain ⟨rfl, hsz, hP, hE, hD0⟩ := hv
  have hx := B.exec
  have hb := B.bytes
  have hr := B.returns
  have hts := atoms_spec (ws := wsX3_coverer) B.pre
  have hown : s.vm.findClass RX3 = some m.cls := findClass_of_methodNamed B.named
  have hlocks := B.notSynchronized
  have hu : ∀ z ∈ wsX30, z.before _ s = true := fun z h => hts z (List.mem_cons_of_mem _ (List.mem_append_right _ h))
  subst hsz
  have hD := hD0.self (sz := s.heap.size)
  have hS : va_S (va_A (wMD cI cJ a S) s.heap.size) s.heap s.heap [] := va_S.rf
  have hl := lv_entry ([.ref (a 0), .int p1]) (n := 2) (Nat.le_of_ble_eq_true rfl)
  rw [lg_entry_eq]
  generalize (lg_sl ([.ref (a 0), .int p1]) ++ List.replicate (2 - (lg_sl ([.ref (a 0), .int p1])).length) Slot.unset).toArray = ls at hl ⊢
  have hl : lv_has ls 2 [(0, .ref (a 0)), (1, .int p1)] := hl
  unfold f_X3_coverer at hf
  refine lv_aload_n hx hb dX3_coverer_0 rfl (lv_at hl 0 rfl) ?_
  refine lv_aload_n hx hb dX3_coverer_1 rfl (lv_at hl 0 rfl) ?_
  refine lv_iload_n hx hb dX3_coverer_2 rfl (lv_at hl 1 rfl) ?_
  obtain ⟨r1, hr1, hf⟩ := q_bd_go hf
  refine q_rdVi (ci := 3) (As := [.int p1]) (rest := [.ref (a 0)]) hx hb hml hown hts (c_X3_isAbsence l D cI cJ cS a S p1 _ hr1) (cwV 1 hts gX3_coverer_X3_isAbsence rfl rfl rfl (by decide +kernel) ⟨(Nat.le_of_ble_eq_true rfl), (Nat.le_of_ble_eq_true rfl)⟩) hE hP rfl rfl rfl hl.1 rfl (Nat.le_of_ble_eq_true rfl) dX3_coverer_3 ⟨Nat.zero_le _, Nat.zero_le _⟩ ?_
  refine lv_if_eq (tgt := 13) hx hb dX3_coverer_6 (by decide) (fun c2 => ?_) (fun c2 => ?_)
  · have hf := q_ite_t c2 hf
    refine lv_iconst (v := 1) hx hb dX3_coverer_13 (by decide) ?_
    obtain ⟨S3, eS3, hf⟩ := q_let_go hf
    refine va_put (D := D) (ci := 3) (v := .int 1) (ty := .int) (C := RX3) (T := TX3) (N := 15) hx hb hu (fun _ h => h) tyX3 tyX3_ok nmX3 hown hE.1 hP hD hS 0 rfl rfl 3 (Nat.le_of_ble_eq_true rfl) (hts (.fieldLink RX3 30 "CoverMeterModel" "thrown" "I") (List.mem_of_getElem? (i := 1) rfl)) (fun _ h9 => h9) rfl (by decide +kernel) rfl rfl (Nat.le_of_ble_eq_true rfl) dX3_coverer_14 (fun H locs hP hD hS => ?_)
    have hP : va_P D vwCl (wMD cI cJ a (sMD_thrown S 1)) H := hP
    have hD : va_D (va_A (wMD cI cJ a S) s.heap.size) (wMD cI cJ a (sMD_thrown S 1)) := hD
    rw [eS3] at hP hD
    refine lv_aload_n hx hb dX3_coverer_17 rfl (lv_at hl 0 rfl) ?_
    refine va_get (D := D) (ci := 3) (v := .int (MD_thrown S3)) (C := RX3) (T := TX3) (N := 15) hx hb hu (fun _ h => h) hown hE.1 hP 0 rfl rfl 3 (Nat.le_of_ble_eq_true rfl) (hts (.fieldLink RX3 30 "CoverMeterModel" "thrown" "I") (List.mem_of_getElem? (i := 1) rfl)) (fun _ h9 => h9) rfl dX3_coverer_18 ?_
    refine lv_if_ne (tgt := 32) hx hb dX3_coverer_21 (by decide) (fun c4 => ?_) (fun c4 => ?_)
    · have hf := q_ite_t c4 hf
      refine lv_iconst (v := 0) hx hb dX3_coverer_32 (by decide) ?_
      have ho := q_some hf
      subst ho
      exact W.iret hx hb hr (fun t ht hW => ⟨rfl, ⟨by rw [ht]; exact hP, hD⟩, hS.F ht⟩) hS.2.2 dX3_coverer_33
    · have hf := q_ite_n c4 hf
      refine lv_aload_n hx hb dX3_coverer_24 rfl (lv_at hl 0 rfl) ?_
      refine lv_iload_n hx hb dX3_coverer_25 rfl (lv_at hl 1 rfl) ?_
      obtain ⟨r5, hr5, hf⟩ := q_bd_go hf
      refine q_rdVi (ci := 3) (As := [.int p1]) (rest := []) hx hb hml hown hts (c_X3_covererOf l D cI cJ cS a S3 p1 _ hr5) (cwV 1 hts gX3_coverer_X3_covererOf rfl rfl rfl (by decide +kernel) ⟨(Nat.le_of_ble_eq_true rfl), (Nat.le_of_ble_eq_true rfl)⟩) hE hP rfl rfl rfl hl.1 rfl (Nat.le_of_ble_eq_true rfl) dX3_coverer_26 ⟨Nat.zero_le _, Nat.zero_le _⟩ ?_
      refine lv_goto (tgt := 33) hx hb dX3_coverer_29 (by decide) ?_
      have ho := q_some hf
      subst ho
      exact W.iret hx hb hr (fun t ht hW => ⟨rfl, ⟨by rw [ht]; exact hP, hD⟩, hS.F ht⟩) hS.2.2 dX3_coverer_33
  · have hf := q_ite_f c2 hf
    refine lv_iconst (v := 0) hx hb dX3_coverer_9 (by decide) ?_
    refine lv_goto (tgt := 14) hx hb dX3_coverer_10 (by decide) ?_
    obtain ⟨S6, eS6, hf⟩ := q_let_go hf
    refine va_put (D := D) (ci := 3) (v := .int 0) (ty := .int) (C := RX3) (T := TX3) (N := 15) hx hb hu (fun _ h => h) tyX3 tyX3_ok nmX3 hown hE.1 hP hD hS 0 rfl rfl 3 (Nat.le_of_ble_eq_true rfl) (hts (.fieldLink RX3 30 "CoverMeterModel" "thrown" "I") (List.mem_of_getElem? (i := 1) rfl)) (fun _ h9 => h9) rfl (by decide +kernel) rfl rfl (Nat.le_of_ble_eq_true rfl) dX3_coverer_14 (fun H locs hP hD hS => ?_)
    have hP : va_P D vwCl (wMD cI cJ a (sMD_thrown S 0)) H := hP
    have hD : va_D (va_A (wMD cI cJ a S) s.heap.size) (wMD cI cJ a (sMD_thrown S 0)) := hD
    rw [eS6] at hP hD
    refine lv_aload_n hx hb dX3_coverer_17 rfl (lv_at hl 0 rfl) ?_
    refine va_get (D := D) (ci := 3) (v := .int (MD_thrown S6)) (C := RX3) (T := TX3) (N := 15) hx hb hu (fun _ h => h) hown hE.1 hP 0 rfl rfl 3 (Nat.le_of_ble_eq_true rfl) (hts (.fieldLink RX3 30 "CoverMeterModel" "thrown" "I") (List.mem_of_getElem? (i := 1) rfl)) (fun _ h9 => h9) rfl dX3_coverer_18 ?_
    refine lv_if_ne (tgt := 32) hx hb dX3_coverer_21 (by decide) (fun c7 => ?_) (fun c7 => ?_)
    · have hf := q_ite_t c7 hf
      refine lv_iconst (v := 0) hx hb dX3_coverer_32 (by decide) ?_
      have ho := q_some hf
      subst ho
      exact W.iret hx hb hr (fun t ht hW => ⟨rfl, ⟨by rw [ht]; exact hP, hD⟩, hS.F ht⟩) hS.2.2 dX3_coverer_33
    · have hf := q_ite_n c7 hf
      refine lv_aload_n hx hb dX3_coverer_24 rfl (lv_at hl 0 rfl) ?_
      refine lv_iload_n hx hb dX3_coverer_25 rfl (lv_at hl 1 rfl) ?_
      obtain ⟨r8, hr8, hf⟩ := q_bd_go hf
      refine q_rdVi (ci := 3) (As := [.int p1]) (rest := []) hx hb hml hown hts (c_X3_covererOf l D cI cJ cS a S6 p1 _ hr8) (cwV 1 hts gX3_coverer_X3_covererOf rfl rfl rfl (by decide +kernel) ⟨(Nat.le_of_ble_eq_true rfl), (Nat.le_of_ble_eq_true rfl)⟩) hE hP rfl rfl rfl hl.1 rfl (Nat.le_of_ble_eq_true rfl) dX3_coverer_26 ⟨Nat.zero_le _, Nat.zero_le _⟩ ?_
      refine lv_goto (tgt := 33) hx hb dX3_coverer_29 (by decide) ?_
      have ho := q_some hf
      subst ho
      exact W.iret hx hb hr (fun t ht hW => ⟨rfl, ⟨by rw [ht]; exact hP, hD⟩, hS.F ht⟩) hS.2.2 dX3_coverer_33
def f_X3_coveredWith_18 (Sz : MD) (l1 : Int32) (t0 : Int32) : Option (Int32 × MD) := q_let (sMD_thrown Sz t0) fun S3 =>
 if (MD_thrown S3) = 0 then
 ((f_X3_keeps S3 4).bind fun r5 =>
 if q_in 0 420 = true then
 (q_let (sMD_now r5 (vp_updL (MD_now r5) (0 : Int32).toNatClampNeg ((l1 : Int32).toInt64))) fun S7 =>
 (f_X3_coversAll S7).bind fun r8 =>
 (f_X3_brings r8.2 4).bind fun r9 =>
 some (r8.1, r9)) else none)
 else (some (0, S3))
def f_X3_coveredWith (S : MD) (p1 : Int32) : Option (Int32 × MD) := (f_X3_isIn ((p1 : Int32).toInt64) 0 5).bind fun r1 =>
 if r1 = 0 then
 (f_X3_coveredWith_18 S p1 1)
 else (f_X3_coveredWith_18 S p1 0)
abbrev rX3_coveredWith : Room := { frames := 10, cells := 0, slots := 0, locals := 226 }
set_option maxRecDepth 100000 in
set_option maxHeartbeats 4000000 in
theorem c_X3_coveredWith (l : Launch) (D : va_G) (cI cJ cS : ClassId) (a : Nat → Nat) (S : MD) (sz : Nat) (p1 : Int32) (o : (Int32 × MD)) (hf : f_X3_coveredWith S p1 = some o) : Met l yX3_coveredWith wsX3_coveredWith rX3_coveredWith (va_Pc [.ref (a 0), .int p1] (q_BW D cI cJ cS (wMD cI cJ a S) sz)) (q_Wo (some (.int o.1)) D (wMD cI cJ a S) (wMD cI cJ a o.2) sz) 0 0 (va_A (wMD cI cJ a S) sz) := by
  refine Met.ofW (cc := cX3_coveredWith) (maxL := 3) (ret := some .int) (by decide) rfl ?_
  intro p e s m args below meth c s₁ B hml hv
  obtain ⟨rfl, hsz, hP, hE, hD0⟩ := hv
  have hx := B.exec
  have hb := B.bytes
  have hr := B.returns
  have hts := atoms_spec (ws := wsX3_coveredWith) B.pre
  have hown : s.vm.findClass RX3 = some m.cls := findClass_of_methodNamed B.named
  have hlocks := B.notSynchronized
  have hu : ∀ z ∈ wsX30, z.before _ s = true := fun z h => hts z (List.mem_cons_of_mem _ (List.mem_append_right _ h))
  subst hsz
  have hD := hD0.self (sz := s.heap.size)
  have hS : va_S (va_A (wMD cI cJ a S) s.heap.size) s.heap s.heap [] := va_S.rf
  have B_18 : ∀ (Sz : MD) (H : Heap) (locs : List Loc) (hP : va_P D vwCl (wMD cI cJ a Sz) H) (hD : va_D (va_A (wMD cI cJ a S) s.heap.size) (wMD cI cJ a Sz)) (hS : va_S (va_A (wMD cI cJ a S) s.heap.size) s.heap H locs) (l1 : Int32) (t0 : Int32) (ls : Array Slot), lv_has ls 3 [(0, .ref (a 0)), (1, .int l1)] → f_X3_coveredWith_18 Sz l1 t0 = some o → W p l e (headSpec wsX3_coveredWith rX3_coveredWith).room s m (([.ref (a 0), .int p1] : List Value).toArray) below meth c H locs 0 0 (MQ below (q_Wo (some (.int o.1)) D (wMD cI cJ a S) (wMD cI cJ a o.2) s.heap.size) (([.ref (a 0), .int p1] : List Value).toArray) s 0 0 (va_A (wMD cI cJ a S) s.heap.size)) (F0 m 18 ls [.int t0, .ref (a 0)]) := by
    intro Sz H locs hP hD hS l1 t0 ls hl hf
    unfold f_X3_coveredWith_18 at hf
    obtain ⟨S3, eS3, hf⟩ := q_let_go hf
    refine va_put (D := D) (ci := 3) (v := .int t0) (ty := .int) (C := RX3) (T := TX3) (N := 15) hx hb hu (fun _ h => h) tyX3 tyX3_ok nmX3 hown hE.1 hP hD hS 0 rfl rfl 3 (Nat.le_of_ble_eq_true rfl) (hts (.fieldLink RX3 30 "CoverMeterModel" "thrown" "I") (List.mem_of_getElem? (i := 2) rfl)) (fun _ h9 => h9) rfl (by decide +kernel) rfl rfl (Nat.le_of_ble_eq_true rfl) dX3_coveredWith_18 (fun H locs hP hD hS => ?_)
    have hP : va_P D vwCl (wMD cI cJ a (sMD_thrown Sz t0)) H := hP
    have hD : va_D (va_A (wMD cI cJ a S) s.heap.size) (wMD cI cJ a (sMD_thrown Sz t0)) := hD
    rw [eS3] at hP hD
    refine lv_aload_n hx hb dX3_coveredWith_21 rfl (lv_at hl 0 rfl) ?_
    refine va_get (D := D) (ci := 3) (v := .int (MD_thrown S3)) (C := RX3) (T := TX3) (N := 15) hx hb hu (fun _ h => h) hown hE.1 hP 0 rfl rfl 3 (Nat.le_of_ble_eq_true rfl) (hts (.fieldLink RX3 30 "CoverMeterModel" "thrown" "I") (List.mem_of_getElem? (i := 2) rfl)) (fun _ h9 => h9) rfl dX3_coveredWith_22 ?_
    refine lv_if_eq (tgt := 30) hx hb dX3_coveredWith_25 (by decide) (fun c4 => ?_) (fun c4 => ?_)
    · have hf := q_ite_t c4 hf
      refine lv_aload_n hx hb dX3_coveredWith_30 rfl (lv_at hl 0 rfl) ?_
      refine lv_iconst (v := 4) hx hb dX3_coveredWith_31 (by decide) ?_
      obtain ⟨r5, hr5, hf⟩ := q_bd_go hf
      refine q_wrVv (ci := 3) (As := [.int 4]) (rest := []) hx hb hml hown hts (c_X3_keeps l D cI cJ cS a S3 _ 4 _ hr5) (cwV 1 hts gX3_coveredWith_X3_keeps rfl rfl rfl (by decide +kernel) ⟨(Nat.le_of_ble_eq_true rfl), (Nat.le_of_ble_eq_true rfl)⟩) hE hP hD hS (fun q h => Or.inr h) rfl rfl rfl hl.1 rfl (Nat.le_of_ble_eq_true rfl) dX3_coveredWith_32 ⟨Nat.zero_le _, Nat.zero_le _⟩ (fun H locs hP hD hS => ?_)
      refine lv_aload_n hx hb dX3_coveredWith_35 rfl (lv_at hl 0 rfl) ?_
      refine va_get (D := D) (ci := 3) (v := .ref (a 1)) (C := RX3) (T := TX3) (N := 15) hx hb hu (fun _ h => h) hown hE.1 hP 0 rfl rfl 0 (Nat.le_of_ble_eq_true rfl) (hts (.fieldLink RX3 7 "CoverMeterModel" "now" "[J") (List.mem_of_getElem? (i := 3) rfl)) (fun _ h9 => h9) rfl dX3_coveredWith_36 ?_
      refine lv_iconst (v := 0) hx hb dX3_coveredWith_39 (by decide) ?_
      refine lv_iload_n hx hb dX3_coveredWith_40 rfl (lv_at hl 1 rfl) ?_
      refine lv_i2l (v := ((l1 : Int32).toInt64)) hx hb dX3_coveredWith_41 rfl ?_
      have hi6 := q_gd_in hf
      have hf := q_gd_go hf
      obtain ⟨S7, eS7, hf⟩ := q_let_go hf
      refine va_last hx hb hE.1 hP hD hS 1 1 rfl rfl hi6 dX3_coveredWith_42 (fun H locs hP hD hS => ?_)
      have hP : va_P D vwCl (wMD cI cJ a (sMD_now r5 (vp_updL (MD_now r5) (0 : Int32).toNatClampNeg ((l1 : Int32).toInt64)))) H := hP
      have hD : va_D (va_A (wMD cI cJ a S) s.heap.size) (wMD cI cJ a (sMD_now r5 (vp_updL (MD_now r5) (0 : Int32).toNatClampNeg ((l1 : Int32).toInt64)))) := hD
      rw [eS7] at hP hD
      refine lv_aload_n hx hb dX3_coveredWith_43 rfl (lv_at hl 0 rfl) ?_
      obtain ⟨r8, hr8, hf⟩ := q_bd_go hf
      refine q_wrVi (ci := 3) (As := []) (rest := []) hx hb hml hown hts (c_X3_coversAll l D cI cJ cS a S7 _  _ hr8) (cwV 0 hts gX3_coveredWith_X3_coversAll rfl rfl rfl (by decide +kernel) ⟨(Nat.le_of_ble_eq_true rfl), (Nat.le_of_ble_eq_true rfl)⟩) hE hP hD hS (fun q h => Or.inr h) rfl rfl rfl hl.1 rfl (Nat.le_of_ble_eq_true rfl) dX3_coveredWith_44 ⟨Nat.zero_le _, Nat.zero_le _⟩ (fun H locs hP hD hS => ?_)
      refine lv_istore_n (lv' := [(2, .int r8.1), (0, .ref (a 0)), (1, .int l1)]) hx hb dX3_coveredWith_47 rfl hl (by decide) rfl (fun ls hl => ?_)
      refine lv_aload_n hx hb dX3_coveredWith_48 rfl (lv_at hl 1 rfl) ?_
      refine lv_iconst (v := 4) hx hb dX3_coveredWith_49 (by decide) ?_
      obtain ⟨r9, hr9, hf⟩ := q_bd_go hf
      refine q_wrVv (ci := 3) (As := [.int 4]) (rest := []) hx hb hml hown hts (c_X3_brings l D cI cJ cS a r8.2 _ 4 _ hr9) (cwV 1 hts gX3_coveredWith_X3_brings rfl rfl rfl (by decide +kernel) ⟨(Nat.le_of_ble_eq_true rfl), (Nat.le_of_ble_eq_true rfl)⟩) hE hP hD hS (fun q h => Or.inr h) rfl rfl rfl hl.1 rfl (Nat.le_of_ble_eq_true rfl) dX3_coveredWith_50 ⟨Nat.zero_le _, Nat.zero_le _⟩ (fun H locs hP hD hS => ?_)
      refine lv_iload_n hx hb dX3_coveredWith_53 rfl (lv_at hl 0 rfl) ?_
      have ho := q_some hf
      subst ho
      exact W.iret hx hb hr (fun t ht hW => ⟨rfl, ⟨by rw [ht]; exact hP, hD⟩, hS.F ht⟩) hS.2.2 dX3_coveredWith_54
    · have hf := q_ite_f c4 hf
      refine lv_iconst (v := 0) hx hb dX3_coveredWith_28 (by decide) ?_
      have ho := q_some hf
      subst ho
      exact W.iret hx hb hr (fun t ht hW => ⟨rfl, ⟨by rw [ht]; exact hP, hD⟩, hS.F ht⟩) hS.2.2 dX3_coveredWith_29
  have hl := lv_entry ([.ref (a 0), .int p1]) (n := 3) (Nat.le_of_ble_eq_true rfl)
  rw [lg_entry_eq]
  generalize (lg_sl ([.ref (a 0), .int p1]) ++ List.replicate (3 - (lg_sl ([.ref (a 0), .int p1])).length) Slot.unset).toArray = ls at hl ⊢
  have hl : lv_has ls 3 [(0, .ref (a 0)), (1, .int p1)] := hl
  unfold f_X3_coveredWith at hf
  refine lv_aload_n hx hb dX3_coveredWith_0 rfl (lv_at hl 0 rfl) ?_
  refine lv_iload_n hx hb dX3_coveredWith_1 rfl (lv_at hl 1 rfl) ?_
  refine lv_i2l (v := ((p1 : Int32).toInt64)) hx hb dX3_coveredWith_2 rfl ?_
  refine lv_lconst (v := 0) hx hb dX3_coveredWith_3 (by decide) ?_
  refine lv_ldc2 (v := 5) hx hb hown (hts (.constantLong RX3 89 (5)) (List.mem_of_getElem? (i := 1) rfl)) dX3_coveredWith_4 ?_
  obtain ⟨r1, hr1, hf⟩ := q_bd_go hf
  refine q_rdSi (As := [.long ((p1 : Int32).toInt64), .long 0, .long 5]) (rest := [.ref (a 0)]) hx hb hml hown hts (c_X3_isIn l D cI cJ cS ((p1 : Int32).toInt64) 0 5 _ hr1) (va_cwS 3 hts gX3_coveredWith_X3_isIn rfl rfl rfl (by decide +kernel) ⟨(Nat.le_of_ble_eq_true rfl), (Nat.le_of_ble_eq_true rfl)⟩) hE rfl hl.1 rfl (Nat.le_of_ble_eq_true rfl) dX3_coveredWith_7 ⟨Nat.zero_le _, Nat.zero_le _⟩ ?_
  refine lv_if_eq (tgt := 17) hx hb dX3_coveredWith_10 (by decide) (fun c2 => ?_) (fun c2 => ?_)
  · have hf := q_ite_t c2 hf
    refine lv_iconst (v := 1) hx hb dX3_coveredWith_17 (by decide) ?_
    exact B_18 S _ _ hP hD hS p1 1 _ (lv_sub hl [0, 1] rfl) hf
  · have hf := q_ite_f c2 hf
    refine lv_iconst (v := 0) hx hb dX3_coveredWith_13 (by decide) ?_
    refine lv_goto (tgt := 18) hx hb dX3_coveredWith_14 (by decide) ?_
    exact B_18 S _ _ hP hD hS p1 0 _ (lv_sub hl [0, 1] rfl) hf
