def f_X2_digest_101 (S : CM) : Nat → Int64 → Int32 → Option Int64
  | 0, _, _ => none
  | n+1, l1, l3 => if (ST_absences (CM_now S)) ≤ l3 then
 (some ((31 * l1) + (((CM_ss S) : Int32).toInt64)))
 else ((f_X2_digestAbsence S l1 l3).bind fun r6 =>
 q_let (l3 + 1) fun v7 =>
 f_X2_digest_101 S n r6 v7)
def f_X2_digest_75 (S : CM) : Nat → Int64 → Int32 → Option Int64
  | 0, _, _ => none
  | n+1, l1, l3 => if (ST_persons (CM_now S)) ≤ l3 then
 (f_X2_digest_101 S 2000 l1 0)
 else ((f_X2_digestPerson S l1 l3).bind fun r8 =>
 q_let (l3 + 1) fun v9 =>
 f_X2_digest_75 S n r8 v9)
def f_X2_digest_45 (S : CM) : Nat → Int64 → Int32 → Option Int64
  | 0, _, _ => none
  | n+1, l1, l3 => if 3 ≤ l3 then
 (f_X2_digest_75 S 2000 l1 0)
 else (if q_in l3 3 = true then
 (q_let (((31 * l1) + (((ST_settings (CM_now S) (l3 : Int32).toNatClampNeg) : Int32).toInt64))) fun v11 =>
 q_let (l3 + 1) fun v12 =>
 f_X2_digest_45 S n v11 v12) else none)
def f_X2_digest_15 (S : CM) : Nat → Int64 → Int32 → Option Int64
  | 0, _, _ => none
  | n+1, l1, l3 => if 11 ≤ l3 then
 (f_X2_digest_45 S 2000 l1 0)
 else ((f_X1_aboutAll (CM_now S) l3).bind fun r13 =>
 q_let (((31 * l1) + ((r13 : Int32).toInt64))) fun v14 =>
 q_let (l3 + 1) fun v15 =>
 f_X2_digest_15 S n v14 v15)
def f_X2_digest (S : CM) : Option Int64 := q_let ((115537 + (((OR_length (CM_or S)) : Int32).toInt64))) fun v1 =>
 f_X2_digest_15 S 2000 v1 0
abbrev rX2_digest : Room := { frames := 5, cells := 0, slots := 0, locals := 122 }
set_option maxRecDepth 100000 in
set_option maxHeartbeats 4000000 in
theorem c_X2_digest (l : Launch) (D : va_G) (cI cJ cS : ClassId) (A : Nat → Nat → Nat) (S : CM) (o : Int64) (hf : f_X2_digest S = some o) : Met l yX2_digest wsX2_digest rX2_digest (va_Pc [.ref (A 3 0)] (q_B D cI cJ cS (wCR cI cJ A S))) (q_Rl o) 0 0 (fun _ => False) := by
  refine Met.ofW (cc := cX2_digest) (maxL := 4) (ret := some .long) (by decide) rfl ?_
  intro p e s m args below meth c s₁ B9 hml hv
  obtain ⟨rfl, hP, hE⟩ := hv
  have hx := B9.exec
  have hb := B9.bytes
  have hr := B9.returns
  have hts := atoms_spec (ws := wsX2_digest) B9.pre
  have hown : s.vm.findClass RX2 = some m.cls := findClass_of_methodNamed B9.named
  have hlocks := B9.notSynchronized
  have hu0 : ∀ z ∈ wsX00, z.before _ s = true := fun z h => hts z (List.mem_cons_of_mem _ (List.mem_append_left _ (List.mem_append_right _ h)))
  have hu1 : ∀ z ∈ wsX10, z.before _ s = true := fun z h => hts z (List.mem_cons_of_mem _ (List.mem_append_right _ h))
  have hu2 : ∀ z ∈ wsX20, z.before _ s = true := fun z h => hts z (List.mem_cons_of_mem _ (List.mem_append_left _ (List.mem_append_left _ (List.mem_append_right _ h))))
  have L_101 : ∀ (n : Nat) (l1 : Int64) (l3 : Int32) (ls : Array Slot), lv_has ls 4 [(0, .ref (A 3 0)), (1, .long l1), (3, .int l3)] → f_X2_digest_101 S n l1 l3 = some o → W p l e (headSpec wsX2_digest rX2_digest).room s m (([.ref (A 3 0)] : List Value).toArray) below meth c s.heap [] 0 0 (MQ below (q_Rl o) (([.ref (A 3 0)] : List Value).toArray) s 0 0 (fun _ => False)) (F0 m 101 ls []) := by
    intro n
    induction n with
    | zero => intro l1 l3 ls hl hf; cases hf
    | succ n ih =>
      intro l1 l3 ls hl hf
      rw [f_X2_digest_101] at hf
      refine lv_iload_n hx hb dX2_digest_101 rfl (lv_at hl 2 rfl) ?_
      refine lv_aload_n hx hb dX2_digest_102 rfl (lv_at hl 0 rfl) ?_
      refine va_get (D := D) (ci := 2) (v := .ref (A 0 0)) (C := RX2) (T := TX2) (N := 5) hx hb hu2 (fun _ h => h) hown hE.1 hP 0 rfl rfl 0 (Nat.le_of_ble_eq_true rfl) (hts (.fieldLink RX2 12 "CoverMeter" "now" "LCoverMeter$State;") (List.mem_of_getElem? (i := 5) rfl)) (fun _ h9 => h9) rfl dX2_digest_103 ?_
      refine va_get (D := D) (ci := 1) (v := .int (ST_absences (CM_now S))) (C := RX1) (T := TX1) (N := 15) hx hb hu1 (fun _ h => h) hown hE.1 hP 1 rfl rfl 8 (Nat.le_of_ble_eq_true rfl) (hts (.fieldLink RX2 207 "CoverMeter$State" "absences" "I") (List.mem_of_getElem? (i := 8) rfl)) (fun _ h9 => h9) rfl dX2_digest_106 ?_
      refine lv_icmp_ge (tgt := 125) hx hb dX2_digest_109 (by decide) (fun c5 => ?_) (fun c5 => ?_)
      · have hf := q_ite_t c5 hf
        refine lv_ldc2 (v := 31) hx hb hown (hts (.constantLong RX2 201 (31)) (List.mem_of_getElem? (i := 4) rfl)) dX2_digest_125 ?_
        refine lv_lload_n hx hb dX2_digest_128 rfl (lv_at hl 1 rfl) ?_
        refine lv_lmul hx hb dX2_digest_129 ?_
        refine lv_aload_n hx hb dX2_digest_130 rfl (lv_at hl 0 rfl) ?_
        refine va_get (D := D) (ci := 2) (v := .int (CM_ss S)) (C := RX2) (T := TX2) (N := 5) hx hb hu2 (fun _ h => h) hown hE.1 hP 0 rfl rfl 3 (Nat.le_of_ble_eq_true rfl) (hts (.fieldLink RX2 196 "CoverMeter" "savedStates" "I") (List.mem_of_getElem? (i := 9) rfl)) (fun _ h9 => h9) rfl dX2_digest_131 ?_
        refine lv_i2l (v := (((CM_ss S) : Int32).toInt64)) hx hb dX2_digest_134 rfl ?_
        refine lv_ladd hx hb dX2_digest_135 ?_
        have ho := q_some hf
        subst ho
        refine W.widen (k := 0) (n := 0) (Nat.le_of_ble_eq_true rfl) (Nat.le_of_ble_eq_true rfl) ?_
        exact W.lret hx hb hr (fun t ht hW => ⟨rfl, ht⟩) t_nil dX2_digest_136
      · have hf := q_ite_f c5 hf
        refine lv_aload_n hx hb dX2_digest_112 rfl (lv_at hl 0 rfl) ?_
        refine lv_lload_n hx hb dX2_digest_113 rfl (lv_at hl 1 rfl) ?_
        refine lv_iload_n hx hb dX2_digest_114 rfl (lv_at hl 2 rfl) ?_
        obtain ⟨r6, hr6, hf⟩ := q_bd_go hf
        refine q_rdVl (w := wCR cI cJ A S) (ci := 2) (As := [.long l1, .int l3]) (rest := []) hx hb hml hown hts (c_X2_digestAbsence l D cI cJ cS A S l1 l3 _ hr6) (cwV 2 hts gX2_digest_X2_digestAbsence rfl rfl rfl (by decide +kernel) ⟨(Nat.le_of_ble_eq_true rfl), (Nat.le_of_ble_eq_true rfl)⟩) hE hP rfl rfl rfl hl.1 rfl (Nat.le_of_ble_eq_true rfl) dX2_digest_115 ⟨(Nat.le_of_ble_eq_true rfl), (Nat.le_of_ble_eq_true rfl)⟩ ?_
        refine lv_lstore_n (lv' := [(1, .long r6), (0, .ref (A 3 0)), (3, .int l3)]) hx hb dX2_digest_118 rfl hl (by decide) rfl (fun ls hl => ?_)
        obtain ⟨v7, ev7, hf⟩ := q_let_go hf
        refine lv_iinc (v := v7) (lv' := [(3, .int v7), (1, .long r6), (0, .ref (A 3 0))]) hx hb dX2_digest_119 hl (k := 2) rfl (by rw [← ev7]; rfl) (by decide) rfl (fun ls hl => ?_)
        refine lv_goto (tgt := 101) hx hb dX2_digest_122 (by decide) ?_
        exact ih r6 v7 _ (lv_sub hl [2, 1, 0] rfl) hf
  have L_75 : ∀ (n : Nat) (l1 : Int64) (l3 : Int32) (ls : Array Slot), lv_has ls 4 [(0, .ref (A 3 0)), (1, .long l1), (3, .int l3)] → f_X2_digest_75 S n l1 l3 = some o → W p l e (headSpec wsX2_digest rX2_digest).room s m (([.ref (A 3 0)] : List Value).toArray) below meth c s.heap [] 0 0 (MQ below (q_Rl o) (([.ref (A 3 0)] : List Value).toArray) s 0 0 (fun _ => False)) (F0 m 75 ls []) := by
    intro n
    induction n with
    | zero => intro l1 l3 ls hl hf; cases hf
    | succ n ih =>
      intro l1 l3 ls hl hf
      rw [f_X2_digest_75] at hf
      refine lv_iload_n hx hb dX2_digest_75 rfl (lv_at hl 2 rfl) ?_
      refine lv_aload_n hx hb dX2_digest_76 rfl (lv_at hl 0 rfl) ?_
      refine va_get (D := D) (ci := 2) (v := .ref (A 0 0)) (C := RX2) (T := TX2) (N := 5) hx hb hu2 (fun _ h => h) hown hE.1 hP 0 rfl rfl 0 (Nat.le_of_ble_eq_true rfl) (hts (.fieldLink RX2 12 "CoverMeter" "now" "LCoverMeter$State;") (List.mem_of_getElem? (i := 5) rfl)) (fun _ h9 => h9) rfl dX2_digest_77 ?_
      refine va_get (D := D) (ci := 1) (v := .int (ST_persons (CM_now S))) (C := RX1) (T := TX1) (N := 15) hx hb hu1 (fun _ h => h) hown hE.1 hP 1 rfl rfl 2 (Nat.le_of_ble_eq_true rfl) (hts (.fieldLink RX2 56 "CoverMeter$State" "persons" "I") (List.mem_of_getElem? (i := 7) rfl)) (fun _ h9 => h9) rfl dX2_digest_80 ?_
      refine lv_icmp_ge (tgt := 99) hx hb dX2_digest_83 (by decide) (fun c4 => ?_) (fun c4 => ?_)
      · have hf := q_ite_t c4 hf
        refine lv_iconst (v := 0) hx hb dX2_digest_99 (by decide) ?_
        refine lv_istore_n (lv' := [(3, .int 0), (0, .ref (A 3 0)), (1, .long l1)]) hx hb dX2_digest_100 rfl hl (by decide) rfl (fun ls hl => ?_)
        exact L_101 2000 l1 0 _ (lv_sub hl [1, 2, 0] rfl) hf
      · have hf := q_ite_f c4 hf
        refine lv_aload_n hx hb dX2_digest_86 rfl (lv_at hl 0 rfl) ?_
        refine lv_lload_n hx hb dX2_digest_87 rfl (lv_at hl 1 rfl) ?_
        refine lv_iload_n hx hb dX2_digest_88 rfl (lv_at hl 2 rfl) ?_
        obtain ⟨r8, hr8, hf⟩ := q_bd_go hf
        refine q_rdVl (w := wCR cI cJ A S) (ci := 2) (As := [.long l1, .int l3]) (rest := []) hx hb hml hown hts (c_X2_digestPerson l D cI cJ cS A S l1 l3 _ hr8) (cwV 2 hts gX2_digest_X2_digestPerson rfl rfl rfl (by decide +kernel) ⟨(Nat.le_of_ble_eq_true rfl), (Nat.le_of_ble_eq_true rfl)⟩) hE hP rfl rfl rfl hl.1 rfl (Nat.le_of_ble_eq_true rfl) dX2_digest_89 ⟨(Nat.le_of_ble_eq_true rfl), (Nat.le_of_ble_eq_true rfl)⟩ ?_
        refine lv_lstore_n (lv' := [(1, .long r8), (0, .ref (A 3 0)), (3, .int l3)]) hx hb dX2_digest_92 rfl hl (by decide) rfl (fun ls hl => ?_)
        obtain ⟨v9, ev9, hf⟩ := q_let_go hf
        refine lv_iinc (v := v9) (lv' := [(3, .int v9), (1, .long r8), (0, .ref (A 3 0))]) hx hb dX2_digest_93 hl (k := 2) rfl (by rw [← ev9]; rfl) (by decide) rfl (fun ls hl => ?_)
        refine lv_goto (tgt := 75) hx hb dX2_digest_96 (by decide) ?_
        exact ih r8 v9 _ (lv_sub hl [2, 1, 0] rfl) hf
  have L_45 : ∀ (n : Nat) (l1 : Int64) (l3 : Int32) (ls : Array Slot), lv_has ls 4 [(0, .ref (A 3 0)), (1, .long l1), (3, .int l3)] → f_X2_digest_45 S n l1 l3 = some o → W p l e (headSpec wsX2_digest rX2_digest).room s m (([.ref (A 3 0)] : List Value).toArray) below meth c s.heap [] 0 0 (MQ below (q_Rl o) (([.ref (A 3 0)] : List Value).toArray) s 0 0 (fun _ => False)) (F0 m 45 ls []) := by
    intro n
    induction n with
    | zero => intro l1 l3 ls hl hf; cases hf
    | succ n ih =>
      intro l1 l3 ls hl hf
      rw [f_X2_digest_45] at hf
      refine lv_iload_n hx hb dX2_digest_45 rfl (lv_at hl 2 rfl) ?_
      refine lv_iconst (v := 3) hx hb dX2_digest_46 (by decide) ?_
      refine lv_icmp_ge (tgt := 73) hx hb dX2_digest_47 (by decide) (fun c3 => ?_) (fun c3 => ?_)
      · have hf := q_ite_t c3 hf
        refine lv_iconst (v := 0) hx hb dX2_digest_73 (by decide) ?_
        refine lv_istore_n (lv' := [(3, .int 0), (0, .ref (A 3 0)), (1, .long l1)]) hx hb dX2_digest_74 rfl hl (by decide) rfl (fun ls hl => ?_)
        exact L_75 2000 l1 0 _ (lv_sub hl [1, 2, 0] rfl) hf
      · have hf := q_ite_f c3 hf
        refine lv_ldc2 (v := 31) hx hb hown (hts (.constantLong RX2 201 (31)) (List.mem_of_getElem? (i := 4) rfl)) dX2_digest_50 ?_
        refine lv_lload_n hx hb dX2_digest_53 rfl (lv_at hl 1 rfl) ?_
        refine lv_lmul hx hb dX2_digest_54 ?_
        refine lv_aload_n hx hb dX2_digest_55 rfl (lv_at hl 0 rfl) ?_
        refine va_get (D := D) (ci := 2) (v := .ref (A 0 0)) (C := RX2) (T := TX2) (N := 5) hx hb hu2 (fun _ h => h) hown hE.1 hP 0 rfl rfl 0 (Nat.le_of_ble_eq_true rfl) (hts (.fieldLink RX2 12 "CoverMeter" "now" "LCoverMeter$State;") (List.mem_of_getElem? (i := 5) rfl)) (fun _ h9 => h9) rfl dX2_digest_56 ?_
        refine va_get (D := D) (ci := 1) (v := .ref (A 0 1)) (C := RX1) (T := TX1) (N := 15) hx hb hu1 (fun _ h => h) hown hE.1 hP 1 rfl rfl 0 (Nat.le_of_ble_eq_true rfl) (hts (.fieldLink RX2 44 "CoverMeter$State" "settings" "[I") (List.mem_of_getElem? (i := 6) rfl)) (fun _ h9 => h9) rfl dX2_digest_59 ?_
        refine lv_iload_n hx hb dX2_digest_62 rfl (lv_at hl 2 rfl) ?_
        have hi10 := q_gd_in hf
        have hf := q_gd_go hf
        refine va_iald hx hb hE.1 hP 2 0 rfl rfl hi10 dX2_digest_63 ?_
        refine lv_i2l (v := (((ST_settings (CM_now S) (l3 : Int32).toNatClampNeg) : Int32).toInt64)) hx hb dX2_digest_64 rfl ?_
        refine lv_ladd hx hb dX2_digest_65 ?_
        obtain ⟨v11, ev11, hf⟩ := q_let_go hf
        refine q_nml ev11 ?_
        refine lv_lstore_n (lv' := [(1, .long v11), (0, .ref (A 3 0)), (3, .int l3)]) hx hb dX2_digest_66 rfl hl (by decide) rfl (fun ls hl => ?_)
        obtain ⟨v12, ev12, hf⟩ := q_let_go hf
        refine lv_iinc (v := v12) (lv' := [(3, .int v12), (1, .long v11), (0, .ref (A 3 0))]) hx hb dX2_digest_67 hl (k := 2) rfl (by rw [← ev12]; rfl) (by decide) rfl (fun ls hl => ?_)
        refine lv_goto (tgt := 45) hx hb dX2_digest_70 (by decide) ?_
        exact ih v11 v12 _ (lv_sub hl [2, 1, 0] rfl) hf
  have L_15 : ∀ (n : Nat) (l1 : Int64) (l3 : Int32) (ls : Array Slot), lv_has ls 4 [(0, .ref (A 3 0)), (1, .long l1), (3, .int l3)] → f_X2_digest_15 S n l1 l3 = some o → W p l e (headSpec wsX2_digest rX2_digest).room s m (([.ref (A 3 0)] : List Value).toArray) below meth c s.heap [] 0 0 (MQ below (q_Rl o) (([.ref (A 3 0)] : List Value).toArray) s 0 0 (fun _ => False)) (F0 m 15 ls []) := by
    intro n
    induction n with
    | zero => intro l1 l3 ls hl hf; cases hf
    | succ n ih =>
      intro l1 l3 ls hl hf
      rw [f_X2_digest_15] at hf
      refine lv_iload_n hx hb dX2_digest_15 rfl (lv_at hl 2 rfl) ?_
      refine lv_bipush (v := 11) hx hb dX2_digest_16 (by decide) ?_
      refine lv_icmp_ge (tgt := 43) hx hb dX2_digest_18 (by decide) (fun c2 => ?_) (fun c2 => ?_)
      · have hf := q_ite_t c2 hf
        refine lv_iconst (v := 0) hx hb dX2_digest_43 (by decide) ?_
        refine lv_istore_n (lv' := [(3, .int 0), (0, .ref (A 3 0)), (1, .long l1)]) hx hb dX2_digest_44 rfl hl (by decide) rfl (fun ls hl => ?_)
        exact L_45 2000 l1 0 _ (lv_sub hl [1, 2, 0] rfl) hf
      · have hf := q_ite_f c2 hf
        refine lv_ldc2 (v := 31) hx hb hown (hts (.constantLong RX2 201 (31)) (List.mem_of_getElem? (i := 4) rfl)) dX2_digest_21 ?_
        refine lv_lload_n hx hb dX2_digest_24 rfl (lv_at hl 1 rfl) ?_
        refine lv_lmul hx hb dX2_digest_25 ?_
        refine lv_aload_n hx hb dX2_digest_26 rfl (lv_at hl 0 rfl) ?_
        refine va_get (D := D) (ci := 2) (v := .ref (A 0 0)) (C := RX2) (T := TX2) (N := 5) hx hb hu2 (fun _ h => h) hown hE.1 hP 0 rfl rfl 0 (Nat.le_of_ble_eq_true rfl) (hts (.fieldLink RX2 12 "CoverMeter" "now" "LCoverMeter$State;") (List.mem_of_getElem? (i := 5) rfl)) (fun _ h9 => h9) rfl dX2_digest_27 ?_
        refine lv_iload_n hx hb dX2_digest_30 rfl (lv_at hl 2 rfl) ?_
        obtain ⟨r13, hr13, hf⟩ := q_bd_go hf
        refine q_rdVi (w := (wST cI cJ (A 0) (CM_now S))) (ci := 1) (As := [.int l3]) (rest := [.long (31 * l1)]) hx hb hml hown hts (c_X1_aboutAll l D cI cJ cS (A 0) (CM_now S) l3 _ hr13) (cwV 1 hts gX2_digest_X1_aboutAll rfl rfl rfl (by decide +kernel) ⟨(Nat.le_of_ble_eq_true rfl), (Nat.le_of_ble_eq_true rfl)⟩) hE (qr_now hP) rfl rfl rfl hl.1 rfl (Nat.le_of_ble_eq_true rfl) dX2_digest_31 ⟨(Nat.le_of_ble_eq_true rfl), (Nat.le_of_ble_eq_true rfl)⟩ ?_
        refine lv_i2l (v := ((r13 : Int32).toInt64)) hx hb dX2_digest_34 rfl ?_
        refine lv_ladd hx hb dX2_digest_35 ?_
        obtain ⟨v14, ev14, hf⟩ := q_let_go hf
        refine q_nml ev14 ?_
        refine lv_lstore_n (lv' := [(1, .long v14), (0, .ref (A 3 0)), (3, .int l3)]) hx hb dX2_digest_36 rfl hl (by decide) rfl (fun ls hl => ?_)
        obtain ⟨v15, ev15, hf⟩ := q_let_go hf
        refine lv_iinc (v := v15) (lv' := [(3, .int v15), (1, .long v14), (0, .ref (A 3 0))]) hx hb dX2_digest_37 hl (k := 2) rfl (by rw [← ev15]; rfl) (by decide) rfl (fun ls hl => ?_)
        refine lv_goto (tgt := 15) hx hb dX2_digest_40 (by decide) ?_
        exact ih v14 v15 _ (lv_sub hl [2, 1, 0] rfl) hf
  have hl := lv_entry ([.ref (A 3 0)]) (n := 4) (Nat.le_of_ble_eq_true rfl)
  rw [lg_entry_eq]
  generalize (lg_sl ([.ref (A 3 0)]) ++ List.replicate (4 - (lg_sl ([.ref (A 3 0)])).length) Slot.unset).toArray = ls at hl ⊢
  have hl : lv_has ls 4 [(0, .ref (A 3 0))] := hl
  unfold f_X2_digest at hf
  refine lv_ldc2 (v := 115537) hx hb hown (hts (.constantLong RX2 199 (115537)) (List.mem_of_getElem? (i := 1) rfl)) dX2_digest_0 ?_
  refine lv_aload_n hx hb dX2_digest_3 rfl (lv_at hl 0 rfl) ?_
  refine va_get (D := D) (ci := 2) (v := .ref (A 2 0)) (C := RX2) (T := TX2) (N := 5) hx hb hu2 (fun _ h => h) hown hE.1 hP 0 rfl rfl 4 (Nat.le_of_ble_eq_true rfl) (hts (.fieldLink RX2 26 "CoverMeter" "orders" "LCoverMeter$Orders;") (List.mem_of_getElem? (i := 2) rfl)) (fun _ h9 => h9) rfl dX2_digest_4 ?_
  refine va_get (D := D) (ci := 0) (v := .int (OR_length (CM_or S))) (C := RX0) (T := TX0) (N := 8) hx hb hu0 (fun _ h => h) hown hE.1 hP 14 rfl rfl 1 (Nat.le_of_ble_eq_true rfl) (hts (.fieldLink RX2 174 "CoverMeter$Orders" "length" "I") (List.mem_of_getElem? (i := 3) rfl)) (fun _ h9 => h9) rfl dX2_digest_7 ?_
  refine lv_i2l (v := (((OR_length (CM_or S)) : Int32).toInt64)) hx hb dX2_digest_10 rfl ?_
  refine lv_ladd hx hb dX2_digest_11 ?_
  obtain ⟨v1, ev1, hf⟩ := q_let_go hf
  refine q_nml ev1 ?_
  refine lv_lstore_n (lv' := [(1, .long v1), (0, .ref (A 3 0))]) hx hb dX2_digest_12 rfl hl (by decide) rfl (fun ls hl => ?_)
  refine lv_iconst (v := 0) hx hb dX2_digest_13 (by decide) ?_
  refine lv_istore_n (lv' := [(3, .int 0), (1, .long v1), (0, .ref (A 3 0))]) hx hb dX2_digest_14 rfl hl (by decide) rfl (fun ls hl => ?_)
  exact L_15 2000 v1 0 _ (lv_sub hl [2, 1, 0] rfl) hf
