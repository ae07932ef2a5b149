def f_X1_worked (S : ST) (p1 : Int32) : Option Int64 := if q_in p1 8 = true then
 (if q_in p1 8 = true then
 (if q_in p1 8 = true then
 (some (((ST_rosters S (p1 : Int32).toNatClampNeg) &&& ((ST_away S (p1 : Int32).toNatClampNeg) ^^^ (-1))) ||| (ST_covering S (p1 : Int32).toNatClampNeg))) else none) else none) else none
abbrev rX1_worked : Room := { frames := 0, cells := 0, slots := 0, locals := 0 }
set_option maxRecDepth 100000 in
set_option maxHeartbeats 4000000 in
theorem c_X1_worked (l : Launch) (D : va_G) (cI cJ cS : ClassId) (a : Nat → Nat) (S : ST) (p1 : Int32) (o : Int64) (hf : f_X1_worked S p1 = some o) : Met l yX1_worked wsX1_worked rX1_worked (va_Pc [.ref (a 0), .int p1] (q_B D cI cJ cS (wST cI cJ a S))) (q_Rl o) 0 0 (fun _ => False) := by
  refine Met.ofW (cc := cX1_worked) (maxL := 2) (ret := some .long) (by decide) rfl ?_
  intro p e s m args below meth c s₁ B hml hv
  obtain ⟨rfl, hP, hE⟩ := hv
  have hx := B.exec
  have hb := B.bytes
  have hr := B.returns
  have hts := atoms_spec (ws := wsX1_worked) B.pre
  have hown : s.vm.findClass RX1 = some m.cls := findClass_of_methodNamed B.named
  have hlocks := B.notSynchronized
  have hu : ∀ z ∈ wsX10, z.before _ s = true := fun z h => hts z (List.mem_cons_of_mem _ (List.mem_append_right _ h))
  have hl := lv_entry ([.ref (a 0), .int p1]) (n := 2) (Nat.le_of_ble_eq_true rfl)
  rw [lg_entry_eq]
  generalize (lg_sl ([.ref (a 0), .int p1]) ++ List.replicate (2 - (lg_sl ([.ref (a 0), .int p1])).length) Slot.unset).toArray = ls at hl ⊢
  have hl : lv_has ls 2 [(0, .ref (a 0)), (1, .int p1)] := hl
  unfold f_X1_worked at hf
  refine lv_aload_n hx hb dX1_worked_0 rfl (lv_at hl 0 rfl) ?_
  refine va_get (D := D) (ci := 1) (v := .ref (a 2)) (C := RX1) (T := TX1) (N := 15) hx hb hu (fun _ h => h) hown hE.1 hP 0 rfl rfl 3 (Nat.le_of_ble_eq_true rfl) (hts (.fieldLink RX1 15 "CoverMeter$State" "rosters" "[J") (List.mem_of_getElem? (i := 1) rfl)) (fun _ h9 => h9) rfl dX1_worked_1 ?_
  refine lv_iload_n hx hb dX1_worked_4 rfl (lv_at hl 1 rfl) ?_
  have hi1 := q_gd_in hf
  have hf := q_gd_go hf
  refine va_lald hx hb hE.1 hP 2 1 rfl rfl hi1 dX1_worked_5 ?_
  refine lv_aload_n hx hb dX1_worked_6 rfl (lv_at hl 0 rfl) ?_
  refine va_get (D := D) (ci := 1) (v := .ref (a 3)) (C := RX1) (T := TX1) (N := 15) hx hb hu (fun _ h => h) hown hE.1 hP 0 rfl rfl 4 (Nat.le_of_ble_eq_true rfl) (hts (.fieldLink RX1 19 "CoverMeter$State" "away" "[J") (List.mem_of_getElem? (i := 2) rfl)) (fun _ h9 => h9) rfl dX1_worked_7 ?_
  refine lv_iload_n hx hb dX1_worked_10 rfl (lv_at hl 1 rfl) ?_
  have hi2 := q_gd_in hf
  have hf := q_gd_go hf
  refine va_lald hx hb hE.1 hP 3 1 rfl rfl hi2 dX1_worked_11 ?_
  refine lv_ldc2 (v := (-1)) hx hb hown (hts (.constantLong RX1 68 (-1)) (List.mem_of_getElem? (i := 3) rfl)) dX1_worked_12 ?_
  refine lv_lxor hx hb dX1_worked_15 ?_
  refine lv_land hx hb dX1_worked_16 ?_
  refine lv_aload_n hx hb dX1_worked_17 rfl (lv_at hl 0 rfl) ?_
  refine va_get (D := D) (ci := 1) (v := .ref (a 4)) (C := RX1) (T := TX1) (N := 15) hx hb hu (fun _ h => h) hown hE.1 hP 0 rfl rfl 5 (Nat.le_of_ble_eq_true rfl) (hts (.fieldLink RX1 22 "CoverMeter$State" "covering" "[J") (List.mem_of_getElem? (i := 4) rfl)) (fun _ h9 => h9) rfl dX1_worked_18 ?_
  refine lv_iload_n hx hb dX1_worked_21 rfl (lv_at hl 1 rfl) ?_
  have hi3 := q_gd_in hf
  have hf := q_gd_go hf
  refine va_lald hx hb hE.1 hP 4 1 rfl rfl hi3 dX1_worked_22 ?_
  refine lv_lor hx hb dX1_worked_23 ?_
  have ho := q_some hf
  subst ho
  exact W.lret hx hb hr (fun t ht hW => ⟨rfl, ht⟩) t_nil dX1_worked_24
def f_X1_restBehind_5 (S : ST) : Nat → Int64 → Int64 → Int32 → Option Int64
  | 0, _, _, _ => none
  | n+1, l1, l3, l5 => if q_in 0 3 = true then
 (if (ST_settings S (0 : Int32).toNatClampNeg) < l5 then
 (some l3)
 else (q_let ((l3 ||| (l1 <<< ((l5 : Int32).toInt64 &&& 63)))) fun v3 =>
 q_let (l5 + 1) fun v4 =>
 f_X1_restBehind_5 S n l1 v3 v4)) else none
def f_X1_restBehind (S : ST) (p1 : Int64) : Option Int64 := f_X1_restBehind_5 S 2000 p1 0 1
abbrev rX1_restBehind : Room := { frames := 0, cells := 0, slots := 0, locals := 0 }
set_option maxRecDepth 100000 in
set_option maxHeartbeats 4000000 in
theorem c_X1_restBehind (l : Launch) (D : va_G) (cI cJ cS : ClassId) (a : Nat → Nat) (S : ST) (p1 : Int64) (o : Int64) (hf : f_X1_restBehind S p1 = some o) : Met l yX1_restBehind wsX1_restBehind rX1_restBehind (va_Pc [.ref (a 0), .long p1] (q_B D cI cJ cS (wST cI cJ a S))) (q_Rl o) 0 0 (fun _ => False) := by
  refine Met.ofW (cc := cX1_restBehind) (maxL := 6) (ret := some .long) (by decide) rfl ?_
  intro p e s m args below meth c s₁ B hml hv
  obtain ⟨rfl, hP, hE⟩ := hv
  have hx := B.exec
  have hb := B.bytes
  have hr := B.returns
  have hts := atoms_spec (ws := wsX1_restBehind) B.pre
  have hown : s.vm.findClass RX1 = some m.cls := findClass_of_methodNamed B.named
  have hlocks := B.notSynchronized
  have hu : ∀ z ∈ wsX10, z.before _ s = true := fun z h => hts z (List.mem_cons_of_mem _ (List.mem_append_right _ h))
  have L_5 : ∀ (n : Nat) (l1 : Int64) (l3 : Int64) (l5 : Int32) (ls : Array Slot), lv_has ls 6 [(0, .ref (a 0)), (1, .long l1), (3, .long l3), (5, .int l5)] → f_X1_restBehind_5 S n l1 l3 l5 = some o → W p l e (headSpec wsX1_restBehind rX1_restBehind).room s m (([.ref (a 0), .long p1] : List Value).toArray) below meth c s.heap [] 0 0 (MQ below (q_Rl o) (([.ref (a 0), .long p1] : List Value).toArray) s 0 0 (fun _ => False)) (F0 m 5 ls []) := by
    intro n
    induction n with
    | zero => intro l1 l3 l5 ls hl hf; cases hf
    | succ n ih =>
      intro l1 l3 l5 ls hl hf
      rw [f_X1_restBehind_5] at hf
      refine lv_iload hx hb dX1_restBehind_5 (lv_at hl 3 rfl) ?_
      refine lv_aload_n hx hb dX1_restBehind_7 rfl (lv_at hl 0 rfl) ?_
      refine va_get (D := D) (ci := 1) (v := .ref (a 1)) (C := RX1) (T := TX1) (N := 15) hx hb hu (fun _ h => h) hown hE.1 hP 0 rfl rfl 0 (Nat.le_of_ble_eq_true rfl) (hts (.fieldLink RX1 9 "CoverMeter$State" "settings" "[I") (List.mem_of_getElem? (i := 1) rfl)) (fun _ h9 => h9) rfl dX1_restBehind_8 ?_
      refine lv_iconst (v := 0) hx hb dX1_restBehind_11 (by decide) ?_
      have hi1 := q_gd_in hf
      have hf := q_gd_go hf
      refine va_iald hx hb hE.1 hP 1 0 rfl rfl hi1 dX1_restBehind_12 ?_
      refine lv_icmp_gt (tgt := 29) hx hb dX1_restBehind_13 (by decide) (fun c2 => ?_) (fun c2 => ?_)
      · have hf := q_ite_t c2 hf
        refine lv_lload_n hx hb dX1_restBehind_29 rfl (lv_at hl 2 rfl) ?_
        have ho := q_some hf
        subst ho
        exact W.lret hx hb hr (fun t ht hW => ⟨rfl, ht⟩) t_nil dX1_restBehind_30
      · have hf := q_ite_f c2 hf
        refine lv_lload_n hx hb dX1_restBehind_16 rfl (lv_at hl 2 rfl) ?_
        refine lv_lload_n hx hb dX1_restBehind_17 rfl (lv_at hl 1 rfl) ?_
        refine lv_iload hx hb dX1_restBehind_18 (lv_at hl 3 rfl) ?_
        refine lv_lshl (v := (l1 <<< ((l5 : Int32).toInt64 &&& 63))) hx hb dX1_restBehind_20 rfl ?_
        refine lv_lor hx hb dX1_restBehind_21 ?_
        obtain ⟨v3, ev3, hf⟩ := q_let_go hf
        refine q_nml ev3 ?_
        refine lv_lstore_n (lv' := [(3, .long v3), (0, .ref (a 0)), (1, .long l1), (5, .int l5)]) hx hb dX1_restBehind_22 rfl hl (by decide) rfl (fun ls hl => ?_)
        obtain ⟨v4, ev4, hf⟩ := q_let_go hf
        refine lv_iinc (v := v4) (lv' := [(5, .int v4), (3, .long v3), (0, .ref (a 0)), (1, .long l1)]) hx hb dX1_restBehind_23 hl (k := 3) rfl (by rw [← ev4]; rfl) (by decide) rfl (fun ls hl => ?_)
        refine lv_goto (tgt := 5) hx hb dX1_restBehind_26 (by decide) ?_
        exact ih l1 v3 v4 _ (lv_sub hl [2, 3, 1, 0] rfl) hf
  have hl := lv_entry ([.ref (a 0), .long p1]) (n := 6) (Nat.le_of_ble_eq_true rfl)
  rw [lg_entry_eq]
  generalize (lg_sl ([.ref (a 0), .long p1]) ++ List.replicate (6 - (lg_sl ([.ref (a 0), .long p1])).length) Slot.unset).toArray = ls at hl ⊢
  have hl : lv_has ls 6 [(0, .ref (a 0)), (1, .long p1)] := hl
  unfold f_X1_restBehind at hf
  refine lv_lconst (v := 0) hx hb dX1_restBehind_0 (by decide) ?_
  refine lv_lstore_n (lv' := [(3, .long 0), (0, .ref (a 0)), (1, .long p1)]) hx hb dX1_restBehind_1 rfl hl (by decide) rfl (fun ls hl => ?_)
  refine lv_iconst (v := 1) hx hb dX1_restBehind_2 (by decide) ?_
  refine lv_istore (lv' := [(5, .int 1), (3, .long 0), (0, .ref (a 0)), (1, .long p1)]) hx hb dX1_restBehind_3 hl (by decide) rfl (fun ls hl => ?_)
  exact L_5 2000 p1 0 1 _ (lv_sub hl [2, 3, 1, 0] rfl) hf
def f_X1_restBefore_5 (S : ST) : Nat → Int64 → Int64 → Int32 → Option Int64
  | 0, _, _, _ => none
  | n+1, l1, l3, l5 => if q_in 0 3 = true then
 (if (ST_settings S (0 : Int32).toNatClampNeg) < l5 then
 (some l3)
 else (q_let ((l3 ||| (((l1 : Int64).toUInt64 >>> ((l5 : Int32).toInt64.toUInt64 &&& Int64.toUInt64 63)).toInt64))) fun v3 =>
 q_let (l5 + 1) fun v4 =>
 f_X1_restBefore_5 S n l1 v3 v4)) else none
def f_X1_restBefore (S : ST) (p1 : Int64) : Option Int64 := f_X1_restBefore_5 S 2000 p1 0 1
abbrev rX1_restBefore : Room := { frames := 0, cells := 0, slots := 0, locals := 0 }
set_option maxRecDepth 100000 in
set_option maxHeartbeats 4000000 in
theorem c_X1_restBefore (l : Launch) (D : va_G) (cI cJ cS : ClassId) (a : Nat → Nat) (S : ST) (p1 : Int64) (o : Int64) (hf : f_X1_restBefore S p1 = some o) : Met l yX1_restBefore wsX1_restBefore rX1_restBefore (va_Pc [.ref (a 0), .long p1] (q_B D cI cJ cS (wST cI cJ a S))) (q_Rl o) 0 0 (fun _ => False) := by
  refine Met.ofW (cc := cX1_restBefore) (maxL := 6) (ret := some .long) (by decide) rfl ?_
  intro p e s m args below meth c s₁ B hml hv
  obtain ⟨rfl, hP, hE⟩ := hv
  have hx := B.exec
  have hb := B.bytes
  have hr := B.returns
  have hts := atoms_spec (ws := wsX1_restBefore) B.pre
  have hown : s.vm.findClass RX1 = some m.cls := findClass_of_methodNamed B.named
  have hlocks := B.notSynchronized
  have hu : ∀ z ∈ wsX10, z.before _ s = true := fun z h => hts z (List.mem_cons_of_mem _ (List.mem_append_right _ h))
  have L_5 : ∀ (n : Nat) (l1 : Int64) (l3 : Int64) (l5 : Int32) (ls : Array Slot), lv_has ls 6 [(0, .ref (a 0)), (1, .long l1), (3, .long l3), (5, .int l5)] → f_X1_restBefore_5 S n l1 l3 l5 = some o → W p l e (headSpec wsX1_restBefore rX1_restBefore).room s m (([.ref (a 0), .long p1] : List Value).toArray) below meth c s.heap [] 0 0 (MQ below (q_Rl o) (([.ref (a 0), .long p1] : List Value).toArray) s 0 0 (fun _ => False)) (F0 m 5 ls []) := by
    intro n
    induction n with
    | zero => intro l1 l3 l5 ls hl hf; cases hf
    | succ n ih =>
      intro l1 l3 l5 ls hl hf
      rw [f_X1_restBefore_5] at hf
      refine lv_iload hx hb dX1_restBefore_5 (lv_at hl 3 rfl) ?_
      refine lv_aload_n hx hb dX1_restBefore_7 rfl (lv_at hl 0 rfl) ?_
      refine va_get (D := D) (ci := 1) (v := .ref (a 1)) (C := RX1) (T := TX1) (N := 15) hx hb hu (fun _ h => h) hown hE.1 hP 0 rfl rfl 0 (Nat.le_of_ble_eq_true rfl) (hts (.fieldLink RX1 9 "CoverMeter$State" "settings" "[I") (List.mem_of_getElem? (i := 1) rfl)) (fun _ h9 => h9) rfl dX1_restBefore_8 ?_
      refine lv_iconst (v := 0) hx hb dX1_restBefore_11 (by decide) ?_
      have hi1 := q_gd_in hf
      have hf := q_gd_go hf
      refine va_iald hx hb hE.1 hP 1 0 rfl rfl hi1 dX1_restBefore_12 ?_
      refine lv_icmp_gt (tgt := 29) hx hb dX1_restBefore_13 (by decide) (fun c2 => ?_) (fun c2 => ?_)
      · have hf := q_ite_t c2 hf
        refine lv_lload_n hx hb dX1_restBefore_29 rfl (lv_at hl 2 rfl) ?_
        have ho := q_some hf
        subst ho
        exact W.lret hx hb hr (fun t ht hW => ⟨rfl, ht⟩) t_nil dX1_restBefore_30
      · have hf := q_ite_f c2 hf
        refine lv_lload_n hx hb dX1_restBefore_16 rfl (lv_at hl 2 rfl) ?_
        refine lv_lload_n hx hb dX1_restBefore_17 rfl (lv_at hl 1 rfl) ?_
        refine lv_iload hx hb dX1_restBefore_18 (lv_at hl 3 rfl) ?_
        refine lv_lushr (v := (((l1 : Int64).toUInt64 >>> ((l5 : Int32).toInt64.toUInt64 &&& Int64.toUInt64 63)).toInt64)) hx hb dX1_restBefore_20 rfl ?_
        refine lv_lor hx hb dX1_restBefore_21 ?_
        obtain ⟨v3, ev3, hf⟩ := q_let_go hf
        refine q_nml ev3 ?_
        refine lv_lstore_n (lv' := [(3, .long v3), (0, .ref (a 0)), (1, .long l1), (5, .int l5)]) hx hb dX1_restBefore_22 rfl hl (by decide) rfl (fun ls hl => ?_)
        obtain ⟨v4, ev4, hf⟩ := q_let_go hf
        refine lv_iinc (v := v4) (lv' := [(5, .int v4), (3, .long v3), (0, .ref (a 0)), (1, .long l1)]) hx hb dX1_restBefore_23 hl (k := 3) rfl (by rw [← ev4]; rfl) (by decide) rfl (fun ls hl => ?_)
        refine lv_goto (tgt := 5) hx hb dX1_restBefore_26 (by decide) ?_
        exact ih l1 v3 v4 _ (lv_sub hl [2, 3, 1, 0] rfl) hf
  have hl := lv_entry ([.ref (a 0), .long p1]) (n := 6) (Nat.le_of_ble_eq_true rfl)
  rw [lg_entry_eq]
  generalize (lg_sl ([.ref (a 0), .long p1]) ++ List.replicate (6 - (lg_sl ([.ref (a 0), .long p1])).length) Slot.unset).toArray = ls at hl ⊢
  have hl : lv_has ls 6 [(0, .ref (a 0)), (1, .long p1)] := hl
  unfold f_X1_restBefore at hf
  refine lv_lconst (v := 0) hx hb dX1_restBefore_0 (by decide) ?_
  refine lv_lstore_n (lv' := [(3, .long 0), (0, .ref (a 0)), (1, .long p1)]) hx hb dX1_restBefore_1 rfl hl (by decide) rfl (fun ls hl => ?_)
  refine lv_iconst (v := 1) hx hb dX1_restBefore_2 (by decide) ?_
  refine lv_istore (lv' := [(5, .int 1), (3, .long 0), (0, .ref (a 0)), (1, .long p1)]) hx hb dX1_restBefore_3 hl (by decide) rfl (fun ls hl => ?_)
  exact L_5 2000 p1 0 1 _ (lv_sub hl [2, 3, 1, 0] rfl) hf
def f_X1_hindrance (S : ST) (p1 : Int32) (p2 : Int32) : Option Int32 := if q_in p2 30 = true then
 (if ¬ (ST_absentees S (p2 : Int32).toNatClampNeg) = p1 then
 (if q_in p2 30 = true then
 (q_let (((1 : Int64) <<< (((ST_shifts S (p2 : Int32).toNatClampNeg) : Int32).toInt64 &&& 63))) fun v4 =>
 if q_in p1 8 = true then
 (if (lg_cmp ((ST_away S (p1 : Int32).toNatClampNeg) &&& v4) 0) = 0 then
 ((f_X1_worked S p1).bind fun r7 =>
 if (lg_cmp (r7 &&& v4) 0) = 0 then
 ((f_X1_restBehind S r7).bind fun r9 =>
 if (lg_cmp (r9 &&& v4) 0) = 0 then
 ((f_X1_restBefore S r7).bind fun r11 =>
 if (lg_cmp (r11 &&& v4) 0) = 0 then
 (some 0)
 else (some 5))
 else (some 4))
 else (some 3))
 else (some 2)) else none) else none)
 else (some 1)) else none
abbrev rX1_hindrance : Room := { frames := 1, cells := 0, slots := 0, locals := 25 }
set_option maxRecDepth 100000 in
set_option maxHeartbeats 4000000 in
theorem c_X1_hindrance (l : Launch) (D : va_G) (cI cJ cS : ClassId) (a : Nat → Nat) (S : ST) (p1 : Int32) (p2 : Int32) (o : Int32) (hf : f_X1_hindrance S p1 p2 = some o) : Met l yX1_hindrance wsX1_hindrance rX1_hindrance (va_Pc [.ref (a 0), .int p1, .int p2] (q_B D cI cJ cS (wST cI cJ a S))) (q_Ri o) 0 0 (fun _ => False) := by
  refine Met.ofW (cc := cX1_hindrance) (maxL := 7) (ret := some .int) (by decide) rfl ?_
  intro p e s m args below meth c s₁ B hml hv
  obtain ⟨rfl, hP, hE⟩ := hv
  have hx := B.exec
  have hb := B.bytes
  have hr := B.returns
  have hts := atoms_spec (ws := wsX1_hindrance) B.pre
  have hown : s.vm.findClass RX1 = some m.cls := findClass_of_methodNamed B.named
  have hlocks := B.notSynchronized
  have hu : ∀ z ∈ wsX10, z.before _ s = true := fun z h => hts z (List.mem_cons_of_mem _ (List.mem_append_right _ h))
  have hl := lv_entry ([.ref (a 0), .int p1, .int p2]) (n := 7) (Nat.le_of_ble_eq_true rfl)
  rw [lg_entry_eq]
  generalize (lg_sl ([.ref (a 0), .int p1, .int p2]) ++ List.replicate (7 - (lg_sl ([.ref (a 0), .int p1, .int p2])).length) Slot.unset).toArray = ls at hl ⊢
  have hl : lv_has ls 7 [(0, .ref (a 0)), (1, .int p1), (2, .int p2)] := hl
  unfold f_X1_hindrance at hf
  refine lv_aload_n hx hb dX1_hindrance_0 rfl (lv_at hl 0 rfl) ?_
  refine va_get (D := D) (ci := 1) (v := .ref (a 7)) (C := RX1) (T := TX1) (N := 15) hx hb hu (fun _ h => h) hown hE.1 hP 0 rfl rfl 9 (Nat.le_of_ble_eq_true rfl) (hts (.fieldLink RX1 31 "CoverMeter$State" "absentees" "[I") (List.mem_of_getElem? (i := 1) rfl)) (fun _ h9 => h9) rfl dX1_hindrance_1 ?_
  refine lv_iload_n hx hb dX1_hindrance_4 rfl (lv_at hl 2 rfl) ?_
  have hi1 := q_gd_in hf
  have hf := q_gd_go hf
  refine va_iald hx hb hE.1 hP 7 0 rfl rfl hi1 dX1_hindrance_5 ?_
  refine lv_iload_n hx hb dX1_hindrance_6 rfl (lv_at hl 1 rfl) ?_
  refine lv_icmp_ne (tgt := 12) hx hb dX1_hindrance_7 (by decide) (fun c2 => ?_) (fun c2 => ?_)
  · have hf := q_ite_t c2 hf
    refine lv_lconst (v := 1) hx hb dX1_hindrance_12 (by decide) ?_
    refine lv_aload_n hx hb dX1_hindrance_13 rfl (lv_at hl 0 rfl) ?_
    refine va_get (D := D) (ci := 1) (v := .ref (a 8)) (C := RX1) (T := TX1) (N := 15) hx hb hu (fun _ h => h) hown hE.1 hP 0 rfl rfl 10 (Nat.le_of_ble_eq_true rfl) (hts (.fieldLink RX1 34 "CoverMeter$State" "shifts" "[I") (List.mem_of_getElem? (i := 2) rfl)) (fun _ h9 => h9) rfl dX1_hindrance_14 ?_
    refine lv_iload_n hx hb dX1_hindrance_17 rfl (lv_at hl 2 rfl) ?_
    have hi3 := q_gd_in hf
    have hf := q_gd_go hf
    refine va_iald hx hb hE.1 hP 8 0 rfl rfl hi3 dX1_hindrance_18 ?_
    refine lv_lshl (v := ((1 : Int64) <<< (((ST_shifts S (p2 : Int32).toNatClampNeg) : Int32).toInt64 &&& 63))) hx hb dX1_hindrance_19 rfl ?_
    obtain ⟨v4, ev4, hf⟩ := q_let_go hf
    refine q_nml ev4 ?_
    refine lv_lstore_n (lv' := [(3, .long v4), (0, .ref (a 0)), (1, .int p1), (2, .int p2)]) hx hb dX1_hindrance_20 rfl hl (by decide) rfl (fun ls hl => ?_)
    refine lv_aload_n hx hb dX1_hindrance_21 rfl (lv_at hl 1 rfl) ?_
    refine va_get (D := D) (ci := 1) (v := .ref (a 3)) (C := RX1) (T := TX1) (N := 15) hx hb hu (fun _ h => h) hown hE.1 hP 0 rfl rfl 4 (Nat.le_of_ble_eq_true rfl) (hts (.fieldLink RX1 19 "CoverMeter$State" "away" "[J") (List.mem_of_getElem? (i := 3) rfl)) (fun _ h9 => h9) rfl dX1_hindrance_22 ?_
    refine lv_iload_n hx hb dX1_hindrance_25 rfl (lv_at hl 2 rfl) ?_
    have hi5 := q_gd_in hf
    have hf := q_gd_go hf
    refine va_lald hx hb hE.1 hP 3 1 rfl rfl hi5 dX1_hindrance_26 ?_
    refine lv_lload_n hx hb dX1_hindrance_27 rfl (lv_at hl 0 rfl) ?_
    refine lv_land hx hb dX1_hindrance_28 ?_
    refine lv_lconst (v := 0) hx hb dX1_hindrance_29 (by decide) ?_
    refine W.lcmp hx hb dX1_hindrance_30 ?_
    refine lv_if_eq (tgt := 36) hx hb dX1_hindrance_31 (by decide) (fun c6 => ?_) (fun c6 => ?_)
    · have hf := q_ite_t c6 hf
      refine lv_aload_n hx hb dX1_hindrance_36 rfl (lv_at hl 1 rfl) ?_
      refine lv_iload_n hx hb dX1_hindrance_37 rfl (lv_at hl 2 rfl) ?_
      obtain ⟨r7, hr7, hf⟩ := q_bd_go hf
      refine q_rdVl (ci := 1) (As := [.int p1]) (rest := []) hx hb hml hown hts (c_X1_worked l D cI cJ cS a S p1 _ hr7) (cwV 1 hts gX1_hindrance_X1_worked rfl rfl rfl (by decide +kernel) ⟨(Nat.le_of_ble_eq_true rfl), (Nat.le_of_ble_eq_true rfl)⟩) hE hP rfl rfl rfl hl.1 rfl (Nat.le_of_ble_eq_true rfl) dX1_hindrance_38 ⟨Nat.zero_le _, Nat.zero_le _⟩ ?_
      refine lv_lstore (lv' := [(5, .long r7), (3, .long v4), (0, .ref (a 0)), (1, .int p1), (2, .int p2)]) hx hb dX1_hindrance_41 hl (by decide) rfl (fun ls hl => ?_)
      refine lv_lload hx hb dX1_hindrance_43 (lv_at hl 0 rfl) ?_
      refine lv_lload_n hx hb dX1_hindrance_45 rfl (lv_at hl 1 rfl) ?_
      refine lv_land hx hb dX1_hindrance_46 ?_
      refine lv_lconst (v := 0) hx hb dX1_hindrance_47 (by decide) ?_
      refine W.lcmp hx hb dX1_hindrance_48 ?_
      refine lv_if_eq (tgt := 54) hx hb dX1_hindrance_49 (by decide) (fun c8 => ?_) (fun c8 => ?_)
      · have hf := q_ite_t c8 hf
        refine lv_aload_n hx hb dX1_hindrance_54 rfl (lv_at hl 2 rfl) ?_
        refine lv_lload hx hb dX1_hindrance_55 (lv_at hl 0 rfl) ?_
        obtain ⟨r9, hr9, hf⟩ := q_bd_go hf
        refine q_rdVl (ci := 1) (As := [.long r7]) (rest := []) hx hb hml hown hts (c_X1_restBehind l D cI cJ cS a S r7 _ hr9) (cwV 1 hts gX1_hindrance_X1_restBehind rfl rfl rfl (by decide +kernel) ⟨(Nat.le_of_ble_eq_true rfl), (Nat.le_of_ble_eq_true rfl)⟩) hE hP rfl rfl rfl hl.1 rfl (Nat.le_of_ble_eq_true rfl) dX1_hindrance_57 ⟨Nat.zero_le _, Nat.zero_le _⟩ ?_
        refine lv_lload_n hx hb dX1_hindrance_60 rfl (lv_at hl 1 rfl) ?_
        refine lv_land hx hb dX1_hindrance_61 ?_
        refine lv_lconst (v := 0) hx hb dX1_hindrance_62 (by decide) ?_
        refine W.lcmp hx hb dX1_hindrance_63 ?_
        refine lv_if_eq (tgt := 69) hx hb dX1_hindrance_64 (by decide) (fun c10 => ?_) (fun c10 => ?_)
        · have hf := q_ite_t c10 hf
          refine lv_aload_n hx hb dX1_hindrance_69 rfl (lv_at hl 2 rfl) ?_
          refine lv_lload hx hb dX1_hindrance_70 (lv_at hl 0 rfl) ?_
          obtain ⟨r11, hr11, hf⟩ := q_bd_go hf
          refine q_rdVl (ci := 1) (As := [.long r7]) (rest := []) hx hb hml hown hts (c_X1_restBefore l D cI cJ cS a S r7 _ hr11) (cwV 1 hts gX1_hindrance_X1_restBefore rfl rfl rfl (by decide +kernel) ⟨(Nat.le_of_ble_eq_true rfl), (Nat.le_of_ble_eq_true rfl)⟩) hE hP rfl rfl rfl hl.1 rfl (Nat.le_of_ble_eq_true rfl) dX1_hindrance_72 ⟨Nat.zero_le _, Nat.zero_le _⟩ ?_
          refine lv_lload_n hx hb dX1_hindrance_75 rfl (lv_at hl 1 rfl) ?_
          refine lv_land hx hb dX1_hindrance_76 ?_
          refine lv_lconst (v := 0) hx hb dX1_hindrance_77 (by decide) ?_
          refine W.lcmp hx hb dX1_hindrance_78 ?_
          refine lv_if_eq (tgt := 86) hx hb dX1_hindrance_79 (by decide) (fun c12 => ?_) (fun c12 => ?_)
          · have hf := q_ite_t c12 hf
            refine lv_iconst (v := 0) hx hb dX1_hindrance_86 (by decide) ?_
            have ho := q_some hf
            subst ho
            exact W.iret hx hb hr (fun t ht hW => ⟨rfl, ht⟩) t_nil dX1_hindrance_87
          · have hf := q_ite_f c12 hf
            refine lv_iconst (v := 5) hx hb dX1_hindrance_82 (by decide) ?_
            refine lv_goto (tgt := 87) hx hb dX1_hindrance_83 (by decide) ?_
            have ho := q_some hf
            subst ho
            exact W.iret hx hb hr (fun t ht hW => ⟨rfl, ht⟩) t_nil dX1_hindrance_87
        · have hf := q_ite_f c10 hf
          refine lv_iconst (v := 4) hx hb dX1_hindrance_67 (by decide) ?_
          have ho := q_some hf
          subst ho
          exact W.iret hx hb hr (fun t ht hW => ⟨rfl, ht⟩) t_nil dX1_hindrance_68
      · have hf := q_ite_f c8 hf
        refine lv_iconst (v := 3) hx hb dX1_hindrance_52 (by decide) ?_
        have ho := q_some hf
        subst ho
        exact W.iret hx hb hr (fun t ht hW => ⟨rfl, ht⟩) t_nil dX1_hindrance_53
    · have hf := q_ite_f c6 hf
      refine lv_iconst (v := 2) hx hb dX1_hindrance_34 (by decide) ?_
      have ho := q_some hf
      subst ho
      exact W.iret hx hb hr (fun t ht hW => ⟨rfl, ht⟩) t_nil dX1_hindrance_35
  · have hf := q_ite_n c2 hf
    refine lv_iconst (v := 1) hx hb dX1_hindrance_10 (by decide) ?_
    have ho := q_some hf
    subst ho
    exact W.iret hx hb hr (fun t ht hW => ⟨rfl, ht⟩) t_nil dX1_hindrance_11
def f_X1_personsWhoCanCover_4 (S : ST) : Nat → Int32 → Int32 → Int32 → Option Int32
  | 0, _, _, _ => none
  | n+1, l1, l2, l3 => if (ST_persons S) ≤ l3 then
 (some l2)
 else ((f_X1_hindrance S l3 l1).bind fun r2 =>
 if ¬ r2 = 0 then
 (q_let (l3 + 1) fun v4 =>
 f_X1_personsWhoCanCover_4 S n l1 l2 v4)
 else (q_let ((l2 ||| ((1 : Int32) <<< (l3 &&& 31)))) fun v5 =>
 q_let (l3 + 1) fun v6 =>
 f_X1_personsWhoCanCover_4 S n l1 v5 v6))
def f_X1_personsWhoCanCover (S : ST) (p1 : Int32) : Option Int32 := f_X1_personsWhoCanCover_4 S 2000 p1 0 0
abbrev rX1_personsWhoCanCover : Room := { frames := 2, cells := 0, slots := 0, locals := 51 }
set_option maxRecDepth 100000 in
set_option maxHeartbeats 4000000 in
theorem c_X1_personsWhoCanCover (l : Launch) (D : va_G) (cI cJ cS : ClassId) (a : Nat → Nat) (S : ST) (p1 : Int32) (o : Int32) (hf : f_X1_personsWhoCanCover S p1 = some o) : Met l yX1_personsWhoCanCover wsX1_personsWhoCanCover rX1_personsWhoCanCover (va_Pc [.ref (a 0), .int p1] (q_B D cI cJ cS (wST cI cJ a S))) (q_Ri o) 0 0 (fun _ => False) := by
  refine Met.ofW (cc := cX1_personsWhoCanCover) (maxL := 4) (ret := some .int) (by decide) rfl ?_
  intro p e s m args below meth c s₁ B hml hv
  obtain ⟨rfl, hP, hE⟩ := hv
  have hx := B.exec
  have hb := B.bytes
  have hr := B.returns
  have hts := atoms_spec (ws := wsX1_personsWhoCanCover) B.pre
  have hown : s.vm.findClass RX1 = some m.cls := findClass_of_methodNamed B.named
  have hlocks := B.notSynchronized
  have hu : ∀ z ∈ wsX10, z.before _ s = true := fun z h => hts z (List.mem_cons_of_mem _ (List.mem_append_right _ h))
  have L_4 : ∀ (n : Nat) (l1 : Int32) (l2 : Int32) (l3 : Int32) (ls : Array Slot), lv_has ls 4 [(0, .ref (a 0)), (1, .int l1), (2, .int l2), (3, .int l3)] → f_X1_personsWhoCanCover_4 S n l1 l2 l3 = some o → W p l e (headSpec wsX1_personsWhoCanCover rX1_personsWhoCanCover).room s m (([.ref (a 0), .int p1] : List Value).toArray) below meth c s.heap [] 0 0 (MQ below (q_Ri o) (([.ref (a 0), .int p1] : List Value).toArray) s 0 0 (fun _ => False)) (F0 m 4 ls []) := by
    intro n
    induction n with
    | zero => intro l1 l2 l3 ls hl hf; cases hf
    | succ n ih =>
      intro l1 l2 l3 ls hl hf
      rw [f_X1_personsWhoCanCover_4] at hf
      refine lv_iload_n hx hb dX1_personsWhoCanCover_4 rfl (lv_at hl 3 rfl) ?_
      refine lv_aload_n hx hb dX1_personsWhoCanCover_5 rfl (lv_at hl 0 rfl) ?_
      refine va_get (D := D) (ci := 1) (v := .int (ST_persons S)) (C := RX1) (T := TX1) (N := 15) hx hb hu (fun _ h => h) hown hE.1 hP 0 rfl rfl 2 (Nat.le_of_ble_eq_true rfl) (hts (.fieldLink RX1 62 "CoverMeter$State" "persons" "I") (List.mem_of_getElem? (i := 1) rfl)) (fun _ h9 => h9) rfl dX1_personsWhoCanCover_6 ?_
      refine lv_icmp_ge (tgt := 33) hx hb dX1_personsWhoCanCover_9 (by decide) (fun c1 => ?_) (fun c1 => ?_)
      · have hf := q_ite_t c1 hf
        refine lv_iload_n hx hb dX1_personsWhoCanCover_33 rfl (lv_at hl 2 rfl) ?_
        have ho := q_some hf
        subst ho
        exact W.iret hx hb hr (fun t ht hW => ⟨rfl, ht⟩) t_nil dX1_personsWhoCanCover_34
      · have hf := q_ite_f c1 hf
        refine lv_aload_n hx hb dX1_personsWhoCanCover_12 rfl (lv_at hl 0 rfl) ?_
        refine lv_iload_n hx hb dX1_personsWhoCanCover_13 rfl (lv_at hl 3 rfl) ?_
        refine lv_iload_n hx hb dX1_personsWhoCanCover_14 rfl (lv_at hl 1 rfl) ?_
        obtain ⟨r2, hr2, hf⟩ := q_bd_go hf
        refine q_rdVi (ci := 1) (As := [.int l3, .int l1]) (rest := []) hx hb hml hown hts (c_X1_hindrance l D cI cJ cS a S l3 l1 _ hr2) (cwV 2 hts gX1_personsWhoCanCover_X1_hindrance rfl rfl rfl (by decide +kernel) ⟨(Nat.le_of_ble_eq_true rfl), (Nat.le_of_ble_eq_true rfl)⟩) hE hP rfl rfl rfl hl.1 rfl (Nat.le_of_ble_eq_true rfl) dX1_personsWhoCanCover_15 ⟨Nat.zero_le _, Nat.zero_le _⟩ ?_
        refine lv_if_ne (tgt := 27) hx hb dX1_personsWhoCanCover_18 (by decide) (fun c3 => ?_) (fun c3 => ?_)
        · have hf := q_ite_t c3 hf
          obtain ⟨v4, ev4, hf⟩ := q_let_go hf
          refine lv_iinc (v := v4) (lv' := [(3, .int v4), (0, .ref (a 0)), (1, .int l1), (2, .int l2)]) hx hb dX1_personsWhoCanCover_27 hl (k := 3) rfl (by rw [← ev4]; rfl) (by decide) rfl (fun ls hl => ?_)
          refine lv_goto (tgt := 4) hx hb dX1_personsWhoCanCover_30 (by decide) ?_
          exact ih l1 l2 v4 _ (lv_sub hl [1, 2, 3, 0] rfl) hf
        · have hf := q_ite_n c3 hf
          refine lv_iload_n hx hb dX1_personsWhoCanCover_21 rfl (lv_at hl 2 rfl) ?_
          refine lv_iconst (v := 1) hx hb dX1_personsWhoCanCover_22 (by decide) ?_
          refine lv_iload_n hx hb dX1_personsWhoCanCover_23 rfl (lv_at hl 3 rfl) ?_
          refine lv_ishl hx hb dX1_personsWhoCanCover_24 ?_
          refine lv_ior hx hb dX1_personsWhoCanCover_25 ?_
          obtain ⟨v5, ev5, hf⟩ := q_let_go hf
          refine q_nmi ev5 ?_
          refine lv_istore_n (lv' := [(2, .int v5), (0, .ref (a 0)), (1, .int l1), (3, .int l3)]) hx hb dX1_personsWhoCanCover_26 rfl hl (by decide) rfl (fun ls hl => ?_)
          obtain ⟨v6, ev6, hf⟩ := q_let_go hf
          refine lv_iinc (v := v6) (lv' := [(3, .int v6), (2, .int v5), (0, .ref (a 0)), (1, .int l1)]) hx hb dX1_personsWhoCanCover_27 hl (k := 3) rfl (by rw [← ev6]; rfl) (by decide) rfl (fun ls hl => ?_)
          refine lv_goto (tgt := 4) hx hb dX1_personsWhoCanCover_30 (by decide) ?_
          exact ih l1 v5 v6 _ (lv_sub hl [2, 3, 1, 0] rfl) hf
  have hl := lv_entry ([.ref (a 0), .int p1]) (n := 4) (Nat.le_of_ble_eq_true rfl)
  rw [lg_entry_eq]
  generalize (lg_sl ([.ref (a 0), .int p1]) ++ List.replicate (4 - (lg_sl ([.ref (a 0), .int p1])).length) Slot.unset).toArray = ls at hl ⊢
  have hl : lv_has ls 4 [(0, .ref (a 0)), (1, .int p1)] := hl
  unfold f_X1_personsWhoCanCover at hf
  refine lv_iconst (v := 0) hx hb dX1_personsWhoCanCover_0 (by decide) ?_
  refine lv_istore_n (lv' := [(2, .int 0), (0, .ref (a 0)), (1, .int p1)]) hx hb dX1_personsWhoCanCover_1 rfl hl (by decide) rfl (fun ls hl => ?_)
  refine lv_iconst (v := 0) hx hb dX1_personsWhoCanCover_2 (by decide) ?_
  refine lv_istore_n (lv' := [(3, .int 0), (2, .int 0), (0, .ref (a 0)), (1, .int p1)]) hx hb dX1_personsWhoCanCover_3 rfl hl (by decide) rfl (fun ls hl => ?_)
  exact L_4 2000 p1 0 0 _ (lv_sub hl [2, 3, 1, 0] rfl) hf
def f_X1_isLess (p1 : Int32) (p2 : Int32) (p3 : Int32) (p4 : Int32) : Option Int32 := if p1 = p3 then
 (if p4 ≤ p2 then
 (some 0)
 else (some 1))
 else (if p3 ≤ p1 then
 (some 0)
 else (some 1))
abbrev rX1_isLess : Room := { frames := 0, cells := 0, slots := 0, locals := 0 }
set_option maxRecDepth 100000 in
set_option maxHeartbeats 4000000 in
theorem c_X1_isLess (l : Launch) (D : va_G) (cI cJ cS : ClassId) (p1 : Int32) (p2 : Int32) (p3 : Int32) (p4 : Int32) (o : Int32) (hf : f_X1_isLess p1 p2 p3 p4 = some o) : Met l yX1_isLess wsX1_isLess rX1_isLess (va_Pc [.int p1, .int p2, .int p3, .int p4] (q_B D cI cJ cS [])) (q_Ri o) 0 0 (fun _ => False) := by
  refine Met.ofW (cc := cX1_isLess) (maxL := 4) (ret := some .boolean) (by decide) rfl ?_
  intro p e s m args below meth c s₁ B hml hv
  obtain ⟨rfl, hP, hE⟩ := hv
  have hx := B.exec
  have hb := B.bytes
  have hr := B.returns
  have hts := atoms_spec (ws := wsX1_isLess) B.pre
  have hown : s.vm.findClass RX1 = some m.cls := findClass_of_methodNamed B.named
  have hlocks := B.notSynchronized
  have hl := lv_entry ([.int p1, .int p2, .int p3, .int p4]) (n := 4) (Nat.le_of_ble_eq_true rfl)
  rw [lg_entry_eq]
  generalize (lg_sl ([.int p1, .int p2, .int p3, .int p4]) ++ List.replicate (4 - (lg_sl ([.int p1, .int p2, .int p3, .int p4])).length) Slot.unset).toArray = ls at hl ⊢
  have hl : lv_has ls 4 [(0, .int p1), (1, .int p2), (2, .int p3), (3, .int p4)] := hl
  unfold f_X1_isLess at hf
  refine lv_iload_n hx hb dX1_isLess_0 rfl (lv_at hl 0 rfl) ?_
  refine lv_iload_n hx hb dX1_isLess_1 rfl (lv_at hl 2 rfl) ?_
  refine lv_icmp_eq (tgt := 18) hx hb dX1_isLess_2 (by decide) (fun c1 => ?_) (fun c1 => ?_)
  · have hf := q_ite_t c1 hf
    refine lv_iload_n hx hb dX1_isLess_18 rfl (lv_at hl 1 rfl) ?_
    refine lv_iload_n hx hb dX1_isLess_19 rfl (lv_at hl 3 rfl) ?_
    refine lv_icmp_ge (tgt := 27) hx hb dX1_isLess_20 (by decide) (fun c2 => ?_) (fun c2 => ?_)
    · have hf := q_ite_t c2 hf
      refine lv_iconst (v := 0) hx hb dX1_isLess_27 (by decide) ?_
      have ho := q_some hf
      subst ho
      exact W.zret hx hb hr rfl (fun t ht hW => ⟨rfl, ht⟩) t_nil dX1_isLess_28
    · have hf := q_ite_f c2 hf
      refine lv_iconst (v := 1) hx hb dX1_isLess_23 (by decide) ?_
      refine lv_goto (tgt := 28) hx hb dX1_isLess_24 (by decide) ?_
      have ho := q_some hf
      subst ho
      exact W.zret hx hb hr rfl (fun t ht hW => ⟨rfl, ht⟩) t_nil dX1_isLess_28
  · have hf := q_ite_f c1 hf
    refine lv_iload_n hx hb dX1_isLess_5 rfl (lv_at hl 0 rfl) ?_
    refine lv_iload_n hx hb dX1_isLess_6 rfl (lv_at hl 2 rfl) ?_
    refine lv_icmp_ge (tgt := 14) hx hb dX1_isLess_7 (by decide) (fun c3 => ?_) (fun c3 => ?_)
    · have hf := q_ite_t c3 hf
      refine lv_iconst (v := 0) hx hb dX1_isLess_14 (by decide) ?_
      refine lv_goto (tgt := 28) hx hb dX1_isLess_15 (by decide) ?_
      have ho := q_some hf
      subst ho
      exact W.zret hx hb hr rfl (fun t ht hW => ⟨rfl, ht⟩) t_nil dX1_isLess_28
    · have hf := q_ite_f c3 hf
      refine lv_iconst (v := 1) hx hb dX1_isLess_10 (by decide) ?_
      refine lv_goto (tgt := 28) hx hb dX1_isLess_11 (by decide) ?_
      have ho := q_some hf
      subst ho
      exact W.zret hx hb hr rfl (fun t ht hW => ⟨rfl, ht⟩) t_nil dX1_isLess_28
def f_X1_comesBefore_64 (S : ST) (l1 : Int32) (l2 : Int32) (l4 : Int32) (l5 : Int32) : Option Int32 := if l4 = (-1) then
 (if l4 = (-1) then
 (some 0)
 else (some 1))
 else (if ¬ l5 = (-1) then
 (if q_in l1 8 = true then
 (if q_in l2 8 = true then
 ((f_X1_isLess l4 (ST_meters S (l1 : Int32).toNatClampNeg) l5 (ST_meters S (l2 : Int32).toNatClampNeg)).bind fun r13 =>
 if r13 = 0 ∨ r13 = 1 then some r13 else none) else none) else none)
 else (if l4 = (-1) then
 (some 0)
 else (some 1)))
def f_X1_comesBefore (S : ST) (p1 : Int32) (p2 : Int32) (p3 : Int32) : Option Int32 := (f_X2_bidIndex p1 p3).bind fun r1 =>
 if q_in r1 240 = true then
 (q_let ((ST_bids S (r1 : Int32).toNatClampNeg)) fun v3 =>
 (f_X2_bidIndex p2 p3).bind fun r4 =>
 if q_in r4 240 = true then
 (q_let ((ST_bids S (r4 : Int32).toNatClampNeg)) fun v6 =>
 if ¬ v3 = (-1) then
 (f_X1_comesBefore_64 S p1 p2 v3 v6)
 else (if ¬ v6 = (-1) then
 (f_X1_comesBefore_64 S p1 p2 v3 v6)
 else (if q_in p1 8 = true then
 (if q_in p1 8 = true then
 (if q_in p2 8 = true then
 (if q_in p2 8 = true then
 ((f_X1_isLess (ST_turns S (p1 : Int32).toNatClampNeg) (ST_meters S (p1 : Int32).toNatClampNeg) (ST_turns S (p2 : Int32).toNatClampNeg) (ST_meters S (p2 : Int32).toNatClampNeg)).bind fun r20 =>
 if r20 = 0 ∨ r20 = 1 then some r20 else none) else none) else none) else none) else none))) else none) else none
abbrev rX1_comesBefore : Room := { frames := 1, cells := 0, slots := 0, locals := 23 }
set_option maxRecDepth 100000 in
set_option maxHeartbeats 4000000 in
theorem c_X1_comesBefore (l : Launch) (D : va_G) (cI cJ cS : ClassId) (a : Nat → Nat) (S : ST) (p1 : Int32) (p2 : Int32) (p3 : Int32) (o : Int32) (hf : f_X1_comesBefore S p1 p2 p3 = some o) : Met l yX1_comesBefore wsX1_comesBefore rX1_comesBefore (va_Pc [.ref (a 0), .int p1, .int p2, .int p3] (q_B D cI cJ cS (wST cI cJ a S))) (q_Ri o) 0 0 (fun _ => False) := by
  refine Met.ofW (cc := cX1_comesBefore) (maxL := 6) (ret := some .boolean) (by decide) rfl ?_
  intro p e s m args below meth c s₁ B hml hv
  obtain ⟨rfl, hP, hE⟩ := hv
  have hx := B.exec
  have hb := B.bytes
  have hr := B.returns
  have hts := atoms_spec (ws := wsX1_comesBefore) B.pre
  have hown : s.vm.findClass RX1 = some m.cls := findClass_of_methodNamed B.named
  have hlocks := B.notSynchronized
  have hu : ∀ z ∈ wsX10, z.before _ s = true := fun z h => hts z (List.mem_cons_of_mem _ (List.mem_append_right _ h))
  have B_64 : ∀ (l1 : Int32) (l2 : Int32) (l4 : Int32) (l5 : Int32) (ls : Array Slot), lv_has ls 6 [(0, .ref (a 0)), (1, .int l1), (2, .int l2), (4, .int l4), (5, .int l5)] → f_X1_comesBefore_64 S l1 l2 l4 l5 = some o → W p l e (headSpec wsX1_comesBefore rX1_comesBefore).room s m (([.ref (a 0), .int p1, .int p2, .int p3] : List Value).toArray) below meth c s.heap [] 0 0 (MQ below (q_Ri o) (([.ref (a 0), .int p1, .int p2, .int p3] : List Value).toArray) s 0 0 (fun _ => False)) (F0 m 64 ls []) := by
    intro l1 l2 l4 l5 ls hl hf
    unfold f_X1_comesBefore_64 at hf
    refine lv_iload hx hb dX1_comesBefore_64 (lv_at hl 3 rfl) ?_
    refine lv_iconst (v := (-1)) hx hb dX1_comesBefore_66 (by decide) ?_
    refine lv_icmp_eq (tgt := 76) hx hb dX1_comesBefore_67 (by decide) (fun c8 => ?_) (fun c8 => ?_)
    · have hf := q_ite_t c8 hf
      refine lv_iload hx hb dX1_comesBefore_76 (lv_at hl 3 rfl) ?_
      refine lv_iconst (v := (-1)) hx hb dX1_comesBefore_78 (by decide) ?_
      refine lv_icmp_eq (tgt := 86) hx hb dX1_comesBefore_79 (by decide) (fun c9 => ?_) (fun c9 => ?_)
      · have hf := q_ite_t c9 hf
        refine lv_iconst (v := 0) hx hb dX1_comesBefore_86 (by decide) ?_
        have ho := q_some hf
        subst ho
        exact W.zret hx hb hr rfl (fun t ht hW => ⟨rfl, ht⟩) t_nil dX1_comesBefore_87
      · have hf := q_ite_f c9 hf
        refine lv_iconst (v := 1) hx hb dX1_comesBefore_82 (by decide) ?_
        refine lv_goto (tgt := 87) hx hb dX1_comesBefore_83 (by decide) ?_
        have ho := q_some hf
        subst ho
        exact W.zret hx hb hr rfl (fun t ht hW => ⟨rfl, ht⟩) t_nil dX1_comesBefore_87
    · have hf := q_ite_f c8 hf
      refine lv_iload hx hb dX1_comesBefore_70 (lv_at hl 4 rfl) ?_
      refine lv_iconst (v := (-1)) hx hb dX1_comesBefore_72 (by decide) ?_
      refine lv_icmp_ne (tgt := 88) hx hb dX1_comesBefore_73 (by decide) (fun c10 => ?_) (fun c10 => ?_)
      · have hf := q_ite_t c10 hf
        refine lv_iload hx hb dX1_comesBefore_88 (lv_at hl 3 rfl) ?_
        refine lv_aload_n hx hb dX1_comesBefore_90 rfl (lv_at hl 0 rfl) ?_
        refine va_get (D := D) (ci := 1) (v := .ref (a 5)) (C := RX1) (T := TX1) (N := 15) hx hb hu (fun _ h => h) hown hE.1 hP 0 rfl rfl 6 (Nat.le_of_ble_eq_true rfl) (hts (.fieldLink RX1 25 "CoverMeter$State" "meters" "[I") (List.mem_of_getElem? (i := 3) rfl)) (fun _ h9 => h9) rfl dX1_comesBefore_91 ?_
        refine lv_iload_n hx hb dX1_comesBefore_94 rfl (lv_at hl 1 rfl) ?_
        have hi11 := q_gd_in hf
        have hf := q_gd_go hf
        refine va_iald hx hb hE.1 hP 5 0 rfl rfl hi11 dX1_comesBefore_95 ?_
        refine lv_iload hx hb dX1_comesBefore_96 (lv_at hl 4 rfl) ?_
        refine lv_aload_n hx hb dX1_comesBefore_98 rfl (lv_at hl 0 rfl) ?_
        refine va_get (D := D) (ci := 1) (v := .ref (a 5)) (C := RX1) (T := TX1) (N := 15) hx hb hu (fun _ h => h) hown hE.1 hP 0 rfl rfl 6 (Nat.le_of_ble_eq_true rfl) (hts (.fieldLink RX1 25 "CoverMeter$State" "meters" "[I") (List.mem_of_getElem? (i := 3) rfl)) (fun _ h9 => h9) rfl dX1_comesBefore_99 ?_
        refine lv_iload_n hx hb dX1_comesBefore_102 rfl (lv_at hl 2 rfl) ?_
        have hi12 := q_gd_in hf
        have hf := q_gd_go hf
        refine va_iald hx hb hE.1 hP 5 0 rfl rfl hi12 dX1_comesBefore_103 ?_
        obtain ⟨r13, hr13, hf⟩ := q_bd_go hf
        refine q_rdSi (As := [.int l4, .int (ST_meters S (l1 : Int32).toNatClampNeg), .int l5, .int (ST_meters S (l2 : Int32).toNatClampNeg)]) (rest := []) hx hb hml hown hts (c_X1_isLess l D cI cJ cS l4 (ST_meters S (l1 : Int32).toNatClampNeg) l5 (ST_meters S (l2 : Int32).toNatClampNeg) _ hr13) (va_cwS 4 hts gX1_comesBefore_X1_isLess rfl rfl rfl (by decide +kernel) ⟨(Nat.le_of_ble_eq_true rfl), (Nat.le_of_ble_eq_true rfl)⟩) hE rfl hl.1 rfl (Nat.le_of_ble_eq_true rfl) dX1_comesBefore_104 ⟨Nat.zero_le _, Nat.zero_le _⟩ ?_
        have hbo := q_gc_in hf
        have hf := q_ite_t hbo hf
        have ho := q_some hf
        subst ho
        exact W.zret hx hb hr (q_nz hbo) (fun t ht hW => ⟨rfl, ht⟩) t_nil dX1_comesBefore_107
      · have hf := q_ite_n c10 hf
        refine lv_iload hx hb dX1_comesBefore_76 (lv_at hl 3 rfl) ?_
        refine lv_iconst (v := (-1)) hx hb dX1_comesBefore_78 (by decide) ?_
        refine lv_icmp_eq (tgt := 86) hx hb dX1_comesBefore_79 (by decide) (fun c14 => ?_) (fun c14 => ?_)
        · have hf := q_ite_t c14 hf
          refine lv_iconst (v := 0) hx hb dX1_comesBefore_86 (by decide) ?_
          have ho := q_some hf
          subst ho
          exact W.zret hx hb hr rfl (fun t ht hW => ⟨rfl, ht⟩) t_nil dX1_comesBefore_87
        · have hf := q_ite_f c14 hf
          refine lv_iconst (v := 1) hx hb dX1_comesBefore_82 (by decide) ?_
          refine lv_goto (tgt := 87) hx hb dX1_comesBefore_83 (by decide) ?_
          have ho := q_some hf
          subst ho
          exact W.zret hx hb hr rfl (fun t ht hW => ⟨rfl, ht⟩) t_nil dX1_comesBefore_87
  have hl := lv_entry ([.ref (a 0), .int p1, .int p2, .int p3]) (n := 6) (Nat.le_of_ble_eq_true rfl)
  rw [lg_entry_eq]
  generalize (lg_sl ([.ref (a 0), .int p1, .int p2, .int p3]) ++ List.replicate (6 - (lg_sl ([.ref (a 0), .int p1, .int p2, .int p3])).length) Slot.unset).toArray = ls at hl ⊢
  have hl : lv_has ls 6 [(0, .ref (a 0)), (1, .int p1), (2, .int p2), (3, .int p3)] := hl
  unfold f_X1_comesBefore at hf
  refine lv_aload_n hx hb dX1_comesBefore_0 rfl (lv_at hl 0 rfl) ?_
  refine va_get (D := D) (ci := 1) (v := .ref (a 12)) (C := RX1) (T := TX1) (N := 15) hx hb hu (fun _ h => h) hown hE.1 hP 0 rfl rfl 14 (Nat.le_of_ble_eq_true rfl) (hts (.fieldLink RX1 46 "CoverMeter$State" "bids" "[I") (List.mem_of_getElem? (i := 1) rfl)) (fun _ h9 => h9) rfl dX1_comesBefore_1 ?_
  refine lv_iload_n hx hb dX1_comesBefore_4 rfl (lv_at hl 1 rfl) ?_
  refine lv_iload_n hx hb dX1_comesBefore_5 rfl (lv_at hl 3 rfl) ?_
  obtain ⟨r1, hr1, hf⟩ := q_bd_go hf
  refine q_rdNi (As := [.int p1, .int p3]) (rest := [.ref (a 12)]) hx hb hml hown hts (c_X2_bidIndex l D cI cJ cS p1 p3 _ hr1) ⟨va_cnB 2 hts gX1_comesBefore_X2_bidIndex_n74 rfl rfl rfl hE.2 (hts (.initialized RX2) (List.mem_of_getElem? (i := 5) rfl)) (by decide +kernel) ⟨(Nat.le_of_ble_eq_true rfl), (Nat.le_of_ble_eq_true rfl)⟩, hts (.static yX2_bidIndex) (List.mem_of_getElem? (i := 4) rfl), trivial⟩ hE rfl hl.1 rfl (Nat.le_of_ble_eq_true rfl) dX1_comesBefore_6 ⟨Nat.zero_le _, Nat.zero_le _⟩ ?_
  have hi2 := q_gd_in hf
  have hf := q_gd_go hf
  refine va_iald hx hb hE.1 hP 12 0 rfl rfl hi2 dX1_comesBefore_9 ?_
  obtain ⟨v3, ev3, hf⟩ := q_let_go hf
  refine q_nmi ev3 ?_
  refine lv_istore (lv' := [(4, .int v3), (0, .ref (a 0)), (1, .int p1), (2, .int p2), (3, .int p3)]) hx hb dX1_comesBefore_10 hl (by decide) rfl (fun ls hl => ?_)
  refine lv_aload_n hx hb dX1_comesBefore_12 rfl (lv_at hl 1 rfl) ?_
  refine va_get (D := D) (ci := 1) (v := .ref (a 12)) (C := RX1) (T := TX1) (N := 15) hx hb hu (fun _ h => h) hown hE.1 hP 0 rfl rfl 14 (Nat.le_of_ble_eq_true rfl) (hts (.fieldLink RX1 46 "CoverMeter$State" "bids" "[I") (List.mem_of_getElem? (i := 1) rfl)) (fun _ h9 => h9) rfl dX1_comesBefore_13 ?_
  refine lv_iload_n hx hb dX1_comesBefore_16 rfl (lv_at hl 3 rfl) ?_
  refine lv_iload_n hx hb dX1_comesBefore_17 rfl (lv_at hl 4 rfl) ?_
  obtain ⟨r4, hr4, hf⟩ := q_bd_go hf
  refine q_rdNi (As := [.int p2, .int p3]) (rest := [.ref (a 12)]) hx hb hml hown hts (c_X2_bidIndex l D cI cJ cS p2 p3 _ hr4) ⟨va_cnB 2 hts gX1_comesBefore_X2_bidIndex_n74 rfl rfl rfl hE.2 (hts (.initialized RX2) (List.mem_of_getElem? (i := 5) rfl)) (by decide +kernel) ⟨(Nat.le_of_ble_eq_true rfl), (Nat.le_of_ble_eq_true rfl)⟩, hts (.static yX2_bidIndex) (List.mem_of_getElem? (i := 4) rfl), trivial⟩ hE rfl hl.1 rfl (Nat.le_of_ble_eq_true rfl) dX1_comesBefore_18 ⟨Nat.zero_le _, Nat.zero_le _⟩ ?_
  have hi5 := q_gd_in hf
  have hf := q_gd_go hf
  refine va_iald hx hb hE.1 hP 12 0 rfl rfl hi5 dX1_comesBefore_21 ?_
  obtain ⟨v6, ev6, hf⟩ := q_let_go hf
  refine q_nmi ev6 ?_
  refine lv_istore (lv' := [(5, .int v6), (4, .int v3), (0, .ref (a 0)), (1, .int p1), (2, .int p2), (3, .int p3)]) hx hb dX1_comesBefore_22 hl (by decide) rfl (fun ls hl => ?_)
  refine lv_iload hx hb dX1_comesBefore_24 (lv_at hl 1 rfl) ?_
  refine lv_iconst (v := (-1)) hx hb dX1_comesBefore_26 (by decide) ?_
  refine lv_icmp_ne (tgt := 64) hx hb dX1_comesBefore_27 (by decide) (fun c7 => ?_) (fun c7 => ?_)
  · have hf := q_ite_t c7 hf
    exact B_64 p1 p2 v3 v6 _ (lv_sub hl [2, 3, 4, 1, 0] rfl) hf
  · have hf := q_ite_n c7 hf
    refine lv_iload hx hb dX1_comesBefore_30 (lv_at hl 0 rfl) ?_
    refine lv_iconst (v := (-1)) hx hb dX1_comesBefore_32 (by decide) ?_
    refine lv_icmp_ne (tgt := 64) hx hb dX1_comesBefore_33 (by decide) (fun c15 => ?_) (fun c15 => ?_)
    · have hf := q_ite_t c15 hf
      exact B_64 p1 p2 v3 v6 _ (lv_sub hl [2, 3, 4, 1, 0] rfl) hf
    · have hf := q_ite_n c15 hf
      refine lv_aload_n hx hb dX1_comesBefore_36 rfl (lv_at hl 2 rfl) ?_
      refine va_get (D := D) (ci := 1) (v := .ref (a 6)) (C := RX1) (T := TX1) (N := 15) hx hb hu (fun _ h => h) hown hE.1 hP 0 rfl rfl 7 (Nat.le_of_ble_eq_true rfl) (hts (.fieldLink RX1 28 "CoverMeter$State" "turns" "[I") (List.mem_of_getElem? (i := 2) rfl)) (fun _ h9 => h9) rfl dX1_comesBefore_37 ?_
      refine lv_iload_n hx hb dX1_comesBefore_40 rfl (lv_at hl 3 rfl) ?_
      have hi16 := q_gd_in hf
      have hf := q_gd_go hf
      refine va_iald hx hb hE.1 hP 6 0 rfl rfl hi16 dX1_comesBefore_41 ?_
      refine lv_aload_n hx hb dX1_comesBefore_42 rfl (lv_at hl 2 rfl) ?_
      refine va_get (D := D) (ci := 1) (v := .ref (a 5)) (C := RX1) (T := TX1) (N := 15) hx hb hu (fun _ h => h) hown hE.1 hP 0 rfl rfl 6 (Nat.le_of_ble_eq_true rfl) (hts (.fieldLink RX1 25 "CoverMeter$State" "meters" "[I") (List.mem_of_getElem? (i := 3) rfl)) (fun _ h9 => h9) rfl dX1_comesBefore_43 ?_
      refine lv_iload_n hx hb dX1_comesBefore_46 rfl (lv_at hl 3 rfl) ?_
      have hi17 := q_gd_in hf
      have hf := q_gd_go hf
      refine va_iald hx hb hE.1 hP 5 0 rfl rfl hi17 dX1_comesBefore_47 ?_
      refine lv_aload_n hx hb dX1_comesBefore_48 rfl (lv_at hl 2 rfl) ?_
      refine va_get (D := D) (ci := 1) (v := .ref (a 6)) (C := RX1) (T := TX1) (N := 15) hx hb hu (fun _ h => h) hown hE.1 hP 0 rfl rfl 7 (Nat.le_of_ble_eq_true rfl) (hts (.fieldLink RX1 28 "CoverMeter$State" "turns" "[I") (List.mem_of_getElem? (i := 2) rfl)) (fun _ h9 => h9) rfl dX1_comesBefore_49 ?_
      refine lv_iload_n hx hb dX1_comesBefore_52 rfl (lv_at hl 4 rfl) ?_
      have hi18 := q_gd_in hf
      have hf := q_gd_go hf
      refine va_iald hx hb hE.1 hP 6 0 rfl rfl hi18 dX1_comesBefore_53 ?_
      refine lv_aload_n hx hb dX1_comesBefore_54 rfl (lv_at hl 2 rfl) ?_
      refine va_get (D := D) (ci := 1) (v := .ref (a 5)) (C := RX1) (T := TX1) (N := 15) hx hb hu (fun _ h => h) hown hE.1 hP 0 rfl rfl 6 (Nat.le_of_ble_eq_true rfl) (hts (.fieldLink RX1 25 "CoverMeter$State" "meters" "[I") (List.mem_of_getElem? (i := 3) rfl)) (fun _ h9 => h9) rfl dX1_comesBefore_55 ?_
      refine lv_iload_n hx hb dX1_comesBefore_58 rfl (lv_at hl 4 rfl) ?_
      have hi19 := q_gd_in hf
      have hf := q_gd_go hf
      refine va_iald hx hb hE.1 hP 5 0 rfl rfl hi19 dX1_comesBefore_59 ?_
      obtain ⟨r20, hr20, hf⟩ := q_bd_go hf
      refine q_rdSi (As := [.int (ST_turns S (p1 : Int32).toNatClampNeg), .int (ST_meters S (p1 : Int32).toNatClampNeg), .int (ST_turns S (p2 : Int32).toNatClampNeg), .int (ST_meters S (p2 : Int32).toNatClampNeg)]) (rest := []) hx hb hml hown hts (c_X1_isLess l D cI cJ cS (ST_turns S (p1 : Int32).toNatClampNeg) (ST_meters S (p1 : Int32).toNatClampNeg) (ST_turns S (p2 : Int32).toNatClampNeg) (ST_meters S (p2 : Int32).toNatClampNeg) _ hr20) (va_cwS 4 hts gX1_comesBefore_X1_isLess rfl rfl rfl (by decide +kernel) ⟨(Nat.le_of_ble_eq_true rfl), (Nat.le_of_ble_eq_true rfl)⟩) hE rfl hl.1 rfl (Nat.le_of_ble_eq_true rfl) dX1_comesBefore_60 ⟨Nat.zero_le _, Nat.zero_le _⟩ ?_
      have hbo := q_gc_in hf
      have hf := q_ite_t hbo hf
      have ho := q_some hf
      subst ho
      exact W.zret hx hb hr (q_nz hbo) (fun t ht hW => ⟨rfl, ht⟩) t_nil dX1_comesBefore_63
def f_X1_nextCoverer_15 (S : ST) : Nat → Int32 → Int32 → Int32 → Option Int32
  | 0, _, _, _ => none
  | n+1, l1, l2, l3 => if (ST_persons S) ≤ l3 then
 (some l2)
 else ((f_X1_hindrance S l3 l1).bind fun r4 =>
 if ¬ r4 = 0 then
 (q_let (l3 + 1) fun v6 =>
 f_X1_nextCoverer_15 S n l1 l2 v6)
 else (if l2 = (-1) then
 (q_let (l3 + 1) fun v8 =>
 f_X1_nextCoverer_15 S n l1 l3 v8)
 else ((f_X1_comesBefore S l3 l2 l1).bind fun r9 =>
 if r9 = 0 then
 (q_let (l3 + 1) fun v11 =>
 f_X1_nextCoverer_15 S n l1 l2 v11)
 else (q_let (l3 + 1) fun v12 =>
 f_X1_nextCoverer_15 S n l1 l3 v12))))
def f_X1_nextCoverer (S : ST) (p1 : Int32) : Option Int32 := if q_in p1 30 = true then
 (if (ST_statuses S (p1 : Int32).toNatClampNeg) = 0 then
 (f_X1_nextCoverer_15 S 2000 p1 (-1) 0)
 else (some (-1))) else none
abbrev rX1_nextCoverer : Room := { frames := 2, cells := 0, slots := 0, locals := 51 }
set_option maxRecDepth 100000 in
set_option maxHeartbeats 4000000 in
theorem c_X1_nextCoverer (l : Launch) (D : va_G) (cI cJ cS : ClassId) (a : Nat → Nat) (S : ST) (p1 : Int32) (o : Int32) (hf : f_X1_nextCoverer S p1 = some o) : Met l yX1_nextCoverer wsX1_nextCoverer rX1_nextCoverer (va_Pc [.ref (a 0), .int p1] (q_B D cI cJ cS (wST cI cJ a S))) (q_Ri o) 0 0 (fun _ => False) := by
  refine Met.ofW (cc := cX1_nextCoverer) (maxL := 4) (ret := some .int) (by decide) rfl ?_
  intro p e s m args below meth c s₁ B hml hv
  obtain ⟨rfl, hP, hE⟩ := hv
  have hx := B.exec
  have hb := B.bytes
  have hr := B.returns
  have hts := atoms_spec (ws := wsX1_nextCoverer) B.pre
  have hown : s.vm.findClass RX1 = some m.cls := findClass_of_methodNamed B.named
  have hlocks := B.notSynchronized
  have hu : ∀ z ∈ wsX10, z.before _ s = true := fun z h => hts z (List.mem_cons_of_mem _ (List.mem_append_right _ h))
  have L_15 : ∀ (n : Nat) (l1 : Int32) (l2 : Int32) (l3 : Int32) (ls : Array Slot), lv_has ls 4 [(0, .ref (a 0)), (1, .int l1), (2, .int l2), (3, .int l3)] → f_X1_nextCoverer_15 S n l1 l2 l3 = some o → W p l e (headSpec wsX1_nextCoverer rX1_nextCoverer).room s m (([.ref (a 0), .int p1] : List Value).toArray) below meth c s.heap [] 0 0 (MQ below (q_Ri o) (([.ref (a 0), .int p1] : List Value).toArray) s 0 0 (fun _ => False)) (F0 m 15 ls []) := by
    intro n
    induction n with
    | zero => intro l1 l2 l3 ls hl hf; cases hf
    | succ n ih =>
      intro l1 l2 l3 ls hl hf
      rw [f_X1_nextCoverer_15] at hf
      refine lv_iload_n hx hb dX1_nextCoverer_15 rfl (lv_at hl 3 rfl) ?_
      refine lv_aload_n hx hb dX1_nextCoverer_16 rfl (lv_at hl 0 rfl) ?_
      refine va_get (D := D) (ci := 1) (v := .int (ST_persons S)) (C := RX1) (T := TX1) (N := 15) hx hb hu (fun _ h => h) hown hE.1 hP 0 rfl rfl 2 (Nat.le_of_ble_eq_true rfl) (hts (.fieldLink RX1 62 "CoverMeter$State" "persons" "I") (List.mem_of_getElem? (i := 2) rfl)) (fun _ h9 => h9) rfl dX1_nextCoverer_17 ?_
      refine lv_icmp_ge (tgt := 55) hx hb dX1_nextCoverer_20 (by decide) (fun c3 => ?_) (fun c3 => ?_)
      · have hf := q_ite_t c3 hf
        refine lv_iload_n hx hb dX1_nextCoverer_55 rfl (lv_at hl 2 rfl) ?_
        have ho := q_some hf
        subst ho
        exact W.iret hx hb hr (fun t ht hW => ⟨rfl, ht⟩) t_nil dX1_nextCoverer_56
      · have hf := q_ite_f c3 hf
        refine lv_aload_n hx hb dX1_nextCoverer_23 rfl (lv_at hl 0 rfl) ?_
        refine lv_iload_n hx hb dX1_nextCoverer_24 rfl (lv_at hl 3 rfl) ?_
        refine lv_iload_n hx hb dX1_nextCoverer_25 rfl (lv_at hl 1 rfl) ?_
        obtain ⟨r4, hr4, hf⟩ := q_bd_go hf
        refine q_rdVi (ci := 1) (As := [.int l3, .int l1]) (rest := []) hx hb hml hown hts (c_X1_hindrance l D cI cJ cS a S l3 l1 _ hr4) (cwV 2 hts gX1_nextCoverer_X1_hindrance rfl rfl rfl (by decide +kernel) ⟨(Nat.le_of_ble_eq_true rfl), (Nat.le_of_ble_eq_true rfl)⟩) hE hP rfl rfl rfl hl.1 rfl (Nat.le_of_ble_eq_true rfl) dX1_nextCoverer_26 ⟨Nat.zero_le _, Nat.zero_le _⟩ ?_
        refine lv_if_ne (tgt := 49) hx hb dX1_nextCoverer_29 (by decide) (fun c5 => ?_) (fun c5 => ?_)
        · have hf := q_ite_t c5 hf
          obtain ⟨v6, ev6, hf⟩ := q_let_go hf
          refine lv_iinc (v := v6) (lv' := [(3, .int v6), (0, .ref (a 0)), (1, .int l1), (2, .int l2)]) hx hb dX1_nextCoverer_49 hl (k := 3) rfl (by rw [← ev6]; rfl) (by decide) rfl (fun ls hl => ?_)
          refine lv_goto (tgt := 15) hx hb dX1_nextCoverer_52 (by decide) ?_
          exact ih l1 l2 v6 _ (lv_sub hl [1, 2, 3, 0] rfl) hf
        · have hf := q_ite_n c5 hf
          refine lv_iload_n hx hb dX1_nextCoverer_32 rfl (lv_at hl 2 rfl) ?_
          refine lv_iconst (v := (-1)) hx hb dX1_nextCoverer_33 (by decide) ?_
          refine lv_icmp_eq (tgt := 47) hx hb dX1_nextCoverer_34 (by decide) (fun c7 => ?_) (fun c7 => ?_)
          · have hf := q_ite_t c7 hf
            refine lv_iload_n hx hb dX1_nextCoverer_47 rfl (lv_at hl 3 rfl) ?_
            refine lv_istore_n (lv' := [(2, .int l3), (0, .ref (a 0)), (1, .int l1), (3, .int l3)]) hx hb dX1_nextCoverer_48 rfl hl (by decide) rfl (fun ls hl => ?_)
            obtain ⟨v8, ev8, hf⟩ := q_let_go hf
            refine lv_iinc (v := v8) (lv' := [(3, .int v8), (2, .int l3), (0, .ref (a 0)), (1, .int l1)]) hx hb dX1_nextCoverer_49 hl (k := 3) rfl (by rw [← ev8]; rfl) (by decide) rfl (fun ls hl => ?_)
            refine lv_goto (tgt := 15) hx hb dX1_nextCoverer_52 (by decide) ?_
            exact ih l1 l3 v8 _ (lv_sub hl [2, 3, 1, 0] rfl) hf
          · have hf := q_ite_f c7 hf
            refine lv_aload_n hx hb dX1_nextCoverer_37 rfl (lv_at hl 0 rfl) ?_
            refine lv_iload_n hx hb dX1_nextCoverer_38 rfl (lv_at hl 3 rfl) ?_
            refine lv_iload_n hx hb dX1_nextCoverer_39 rfl (lv_at hl 2 rfl) ?_
            refine lv_iload_n hx hb dX1_nextCoverer_40 rfl (lv_at hl 1 rfl) ?_
            obtain ⟨r9, hr9, hf⟩ := q_bd_go hf
            refine q_rdVi (ci := 1) (As := [.int l3, .int l2, .int l1]) (rest := []) hx hb hml hown hts (c_X1_comesBefore l D cI cJ cS a S l3 l2 l1 _ hr9) (cwV 3 hts gX1_nextCoverer_X1_comesBefore rfl rfl rfl (by decide +kernel) ⟨(Nat.le_of_ble_eq_true rfl), (Nat.le_of_ble_eq_true rfl)⟩) hE hP rfl rfl rfl hl.1 rfl (Nat.le_of_ble_eq_true rfl) dX1_nextCoverer_41 ⟨Nat.zero_le _, Nat.zero_le _⟩ ?_
            refine lv_if_eq (tgt := 49) hx hb dX1_nextCoverer_44 (by decide) (fun c10 => ?_) (fun c10 => ?_)
            · have hf := q_ite_t c10 hf
              obtain ⟨v11, ev11, hf⟩ := q_let_go hf
              refine lv_iinc (v := v11) (lv' := [(3, .int v11), (0, .ref (a 0)), (1, .int l1), (2, .int l2)]) hx hb dX1_nextCoverer_49 hl (k := 3) rfl (by rw [← ev11]; rfl) (by decide) rfl (fun ls hl => ?_)
              refine lv_goto (tgt := 15) hx hb dX1_nextCoverer_52 (by decide) ?_
              exact ih l1 l2 v11 _ (lv_sub hl [1, 2, 3, 0] rfl) hf
            · have hf := q_ite_f c10 hf
              refine lv_iload_n hx hb dX1_nextCoverer_47 rfl (lv_at hl 3 rfl) ?_
              refine lv_istore_n (lv' := [(2, .int l3), (0, .ref (a 0)), (1, .int l1), (3, .int l3)]) hx hb dX1_nextCoverer_48 rfl hl (by decide) rfl (fun ls hl => ?_)
              obtain ⟨v12, ev12, hf⟩ := q_let_go hf
              refine lv_iinc (v := v12) (lv' := [(3, .int v12), (2, .int l3), (0, .ref (a 0)), (1, .int l1)]) hx hb dX1_nextCoverer_49 hl (k := 3) rfl (by rw [← ev12]; rfl) (by decide) rfl (fun ls hl => ?_)
              refine lv_goto (tgt := 15) hx hb dX1_nextCoverer_52 (by decide) ?_
              exact ih l1 l3 v12 _ (lv_sub hl [2, 3, 1, 0] rfl) hf
  have hl := lv_entry ([.ref (a 0), .int p1]) (n := 4) (Nat.le_of_ble_eq_true rfl)
  rw [lg_entry_eq]
  generalize (lg_sl ([.ref (a 0), .int p1]) ++ List.replicate (4 - (lg_sl ([.ref (a 0), .int p1])).length) Slot.unset).toArray = ls at hl ⊢
  have hl : lv_has ls 4 [(0, .ref (a 0)), (1, .int p1)] := hl
  unfold f_X1_nextCoverer at hf
  refine lv_aload_n hx hb dX1_nextCoverer_0 rfl (lv_at hl 0 rfl) ?_
  refine va_get (D := D) (ci := 1) (v := .ref (a 9)) (C := RX1) (T := TX1) (N := 15) hx hb hu (fun _ h => h) hown hE.1 hP 0 rfl rfl 11 (Nat.le_of_ble_eq_true rfl) (hts (.fieldLink RX1 37 "CoverMeter$State" "statuses" "[I") (List.mem_of_getElem? (i := 1) rfl)) (fun _ h9 => h9) rfl dX1_nextCoverer_1 ?_
  refine lv_iload_n hx hb dX1_nextCoverer_4 rfl (lv_at hl 1 rfl) ?_
  have hi1 := q_gd_in hf
  have hf := q_gd_go hf
  refine va_iald hx hb hE.1 hP 9 0 rfl rfl hi1 dX1_nextCoverer_5 ?_
  refine lv_if_eq (tgt := 11) hx hb dX1_nextCoverer_6 (by decide) (fun c2 => ?_) (fun c2 => ?_)
  · have hf := q_ite_t c2 hf
    refine lv_iconst (v := (-1)) hx hb dX1_nextCoverer_11 (by decide) ?_
    refine lv_istore_n (lv' := [(2, .int (-1)), (0, .ref (a 0)), (1, .int p1)]) hx hb dX1_nextCoverer_12 rfl hl (by decide) rfl (fun ls hl => ?_)
    refine lv_iconst (v := 0) hx hb dX1_nextCoverer_13 (by decide) ?_
    refine lv_istore_n (lv' := [(3, .int 0), (2, .int (-1)), (0, .ref (a 0)), (1, .int p1)]) hx hb dX1_nextCoverer_14 rfl hl (by decide) rfl (fun ls hl => ?_)
    exact L_15 2000 p1 (-1) 0 _ (lv_sub hl [2, 3, 1, 0] rfl) hf
  · have hf := q_ite_f c2 hf
    refine lv_iconst (v := (-1)) hx hb dX1_nextCoverer_9 (by decide) ?_
    have ho := q_some hf
    subst ho
    exact W.iret hx hb hr (fun t ht hW => ⟨rfl, ht⟩) t_nil dX1_nextCoverer_10
def f_X1_coverOpen_75 (Sz : ST) (l1 : Int32) (l2 : Int32) : Option (Int32 × ST) := if q_in l1 30 = true then
 (q_let (sST_coverers Sz (upd (ST_coverers Sz) (l1 : Int32).toNatClampNeg l2)) fun S16 =>
 if q_in l2 8 = true then
 (if q_in l1 30 = true then
 (if q_in l2 8 = true then
 (q_let (sST_covering S16 (vp_updL (ST_covering S16) (l2 : Int32).toNatClampNeg ((ST_covering S16 (l2 : Int32).toNatClampNeg) ||| ((1 : Int64) <<< (((ST_shifts S16 (l1 : Int32).toNatClampNeg) : Int32).toInt64 &&& 63))))) fun S20 =>
 if q_in l2 8 = true then
 (if q_in l1 30 = true then
 (if q_in l2 8 = true then
 (q_let (sST_meters S20 (upd (ST_meters S20) (l2 : Int32).toNatClampNeg ((ST_meters S20 (l2 : Int32).toNatClampNeg) + (ST_points S20 (l1 : Int32).toNatClampNeg)))) fun S24 =>
 if q_in l1 30 = true then
 (if q_in (ST_absentees S24 (l1 : Int32).toNatClampNeg) 8 = true then
 (if q_in l1 30 = true then
 (if q_in (ST_absentees S24 (l1 : Int32).toNatClampNeg) 8 = true then
 (q_let (sST_meters S24 (upd (ST_meters S24) ((ST_absentees S24 (l1 : Int32).toNatClampNeg) : Int32).toNatClampNeg ((ST_meters S24 ((ST_absentees S24 (l1 : Int32).toNatClampNeg) : Int32).toNatClampNeg) - (ST_points S24 (l1 : Int32).toNatClampNeg)))) fun S29 =>
 (f_X1_dropBids S29 l1).bind fun r30 =>
 some (1, r30)) else none) else none) else none) else none) else none) else none) else none) else none) else none) else none) else none
def f_X1_coverOpen (S : ST) (p1 : Int32) : Option (Int32 × ST) := (f_X1_nextCoverer S p1).bind fun r1 =>
 if ¬ r1 = (-1) then
 ((f_X2_bidIndex r1 p1).bind fun r3 =>
 if q_in r3 240 = true then
 (q_let ((ST_bids S (r3 : Int32).toNatClampNeg)) fun v5 =>
 if v5 = (-1) then
 (if q_in p1 30 = true then
 (q_let (sST_statuses S (upd (ST_statuses S) (p1 : Int32).toNatClampNeg 2)) fun S8 =>
 if q_in 1 3 = true then
 (if q_in p1 30 = true then
 (q_let (sST_points S8 (upd (ST_points S8) (p1 : Int32).toNatClampNeg (ST_settings S8 (1 : Int32).toNatClampNeg))) fun S11 =>
 if q_in r1 8 = true then
 (if q_in r1 8 = true then
 (q_let (sST_turns S11 (upd (ST_turns S11) (r1 : Int32).toNatClampNeg ((ST_turns S11 (r1 : Int32).toNatClampNeg) + 1))) fun S14 =>
 f_X1_coverOpen_75 S14 p1 r1) else none) else none) else none) else none) else none)
 else (if q_in p1 30 = true then
 (q_let (sST_statuses S (upd (ST_statuses S) (p1 : Int32).toNatClampNeg 1)) fun S32 =>
 if q_in p1 30 = true then
 (q_let (sST_points S32 (upd (ST_points S32) (p1 : Int32).toNatClampNeg v5)) fun S34 =>
 f_X1_coverOpen_75 S34 p1 r1) else none) else none)) else none)
 else (some (0, S))
abbrev rX1_coverOpen : Room := { frames := 3, cells := 0, slots := 0, locals := 74 }
set_option maxRecDepth 100000 in
set_option maxHeartbeats 4000000 in
theorem c_X1_coverOpen (l : Launch) (D : va_G) (cI cJ cS : ClassId) (a : Nat → Nat) (S : ST) (sz : Nat) (p1 : Int32) (o : (Int32 × ST)) (hf : f_X1_coverOpen S p1 = some o) : Met l yX1_coverOpen wsX1_coverOpen rX1_coverOpen (va_Pc [.ref (a 0), .int p1] (q_BW D cI cJ cS (wST cI cJ a S) sz)) (q_Wo (some (.int o.1)) D (wST cI cJ a S) (wST cI cJ a o.2) sz) 0 0 (va_A (wST cI cJ a S) sz) := by
  refine Met.ofW (cc := cX1_coverOpen) (maxL := 4) (ret := some .boolean) (by decide) rfl ?_
  intro p e s m args below meth c s₁ B hml hv
  obtain ⟨rfl, hsz, hP, hE, hD0⟩ := hv
  have hx := B.exec
  have hb := B.bytes
  have hr := B.returns
  have hts := atoms_spec (ws := wsX1_coverOpen) B.pre
  have hown : s.vm.findClass RX1 = some m.cls := findClass_of_methodNamed B.named
  have hlocks := B.notSynchronized
  have hu : ∀ z ∈ wsX10, z.before _ s = true := fun z h => hts z (List.mem_cons_of_mem _ (List.mem_append_right _ h))
  subst hsz
  have hD := hD0.self (sz := s.heap.size)
  have hS : va_S (va_A (wST cI cJ a S) s.heap.size) s.heap s.heap [] := va_S.rf
  have B_75 : ∀ (Sz : ST) (H : Heap) (locs : List Loc) (hP : va_P D vwCl (wST cI cJ a Sz) H) (hD : va_D (va_A (wST cI cJ a S) s.heap.size) (wST cI cJ a Sz)) (hS : va_S (va_A (wST cI cJ a S) s.heap.size) s.heap H locs) (l1 : Int32) (l2 : Int32) (ls : Array Slot), lv_has ls 4 [(0, .ref (a 0)), (1, .int l1), (2, .int l2)] → f_X1_coverOpen_75 Sz l1 l2 = some o → W p l e (headSpec wsX1_coverOpen rX1_coverOpen).room s m (([.ref (a 0), .int p1] : List Value).toArray) below meth c H locs 0 0 (MQ below (q_Wo (some (.int o.1)) D (wST cI cJ a S) (wST cI cJ a o.2) s.heap.size) (([.ref (a 0), .int p1] : List Value).toArray) s 0 0 (va_A (wST cI cJ a S) s.heap.size)) (F0 m 75 ls []) := by
    intro Sz H locs hP hD hS l1 l2 ls hl hf
    unfold f_X1_coverOpen_75 at hf
    refine lv_aload_n hx hb dX1_coverOpen_75 rfl (lv_at hl 0 rfl) ?_
    refine va_get (D := D) (ci := 1) (v := .ref (a 10)) (C := RX1) (T := TX1) (N := 15) hx hb hu (fun _ h => h) hown hE.1 hP 0 rfl rfl 12 (Nat.le_of_ble_eq_true rfl) (hts (.fieldLink RX1 40 "CoverMeter$State" "coverers" "[I") (List.mem_of_getElem? (i := 6) rfl)) (fun _ h9 => h9) rfl dX1_coverOpen_76 ?_
    refine lv_iload_n hx hb dX1_coverOpen_79 rfl (lv_at hl 1 rfl) ?_
    refine lv_iload_n hx hb dX1_coverOpen_80 rfl (lv_at hl 2 rfl) ?_
    have hi15 := q_gd_in hf
    have hf := q_gd_go hf
    obtain ⟨S16, eS16, hf⟩ := q_let_go hf
    refine va_iast hx hb hE.1 hP hD hS 10 0 rfl rfl hi15 dX1_coverOpen_81 (fun H locs hP hD hS => ?_)
    have hP : va_P D vwCl (wST cI cJ a (sST_coverers Sz (upd (ST_coverers Sz) (l1 : Int32).toNatClampNeg l2))) H := hP
    have hD : va_D (va_A (wST cI cJ a S) s.heap.size) (wST cI cJ a (sST_coverers Sz (upd (ST_coverers Sz) (l1 : Int32).toNatClampNeg l2))) := hD
    rw [eS16] at hP hD
    refine lv_aload_n hx hb dX1_coverOpen_82 rfl (lv_at hl 0 rfl) ?_
    refine va_get (D := D) (ci := 1) (v := .ref (a 4)) (C := RX1) (T := TX1) (N := 15) hx hb hu (fun _ h => h) hown hE.1 hP 0 rfl rfl 5 (Nat.le_of_ble_eq_true rfl) (hts (.fieldLink RX1 22 "CoverMeter$State" "covering" "[J") (List.mem_of_getElem? (i := 7) rfl)) (fun _ h9 => h9) rfl dX1_coverOpen_83 ?_
    refine lv_iload_n hx hb dX1_coverOpen_86 rfl (lv_at hl 2 rfl) ?_
    refine lv_dup2_11 hx hb dX1_coverOpen_87 rfl rfl ?_
    have hi17 := q_gd_in hf
    have hf := q_gd_go hf
    refine va_lald hx hb hE.1 hP 4 1 rfl rfl hi17 dX1_coverOpen_88 ?_
    refine lv_lconst (v := 1) hx hb dX1_coverOpen_89 (by decide) ?_
    refine lv_aload_n hx hb dX1_coverOpen_90 rfl (lv_at hl 0 rfl) ?_
    refine va_get (D := D) (ci := 1) (v := .ref (a 8)) (C := RX1) (T := TX1) (N := 15) hx hb hu (fun _ h => h) hown hE.1 hP 0 rfl rfl 10 (Nat.le_of_ble_eq_true rfl) (hts (.fieldLink RX1 34 "CoverMeter$State" "shifts" "[I") (List.mem_of_getElem? (i := 8) rfl)) (fun _ h9 => h9) rfl dX1_coverOpen_91 ?_
    refine lv_iload_n hx hb dX1_coverOpen_94 rfl (lv_at hl 1 rfl) ?_
    have hi18 := q_gd_in hf
    have hf := q_gd_go hf
    refine va_iald hx hb hE.1 hP 8 0 rfl rfl hi18 dX1_coverOpen_95 ?_
    refine lv_lshl (v := ((1 : Int64) <<< (((ST_shifts S16 (l1 : Int32).toNatClampNeg) : Int32).toInt64 &&& 63))) hx hb dX1_coverOpen_96 rfl ?_
    refine lv_lor hx hb dX1_coverOpen_97 ?_
    have hi19 := q_gd_in hf
    have hf := q_gd_go hf
    obtain ⟨S20, eS20, hf⟩ := q_let_go hf
    refine va_last hx hb hE.1 hP hD hS 4 1 rfl rfl hi19 dX1_coverOpen_98 (fun H locs hP hD hS => ?_)
    have hP : va_P D vwCl (wST cI cJ a (sST_covering S16 (vp_updL (ST_covering S16) (l2 : Int32).toNatClampNeg ((ST_covering S16 (l2 : Int32).toNatClampNeg) ||| ((1 : Int64) <<< (((ST_shifts S16 (l1 : Int32).toNatClampNeg) : Int32).toInt64 &&& 63)))))) H := hP
    have hD : va_D (va_A (wST cI cJ a S) s.heap.size) (wST cI cJ a (sST_covering S16 (vp_updL (ST_covering S16) (l2 : Int32).toNatClampNeg ((ST_covering S16 (l2 : Int32).toNatClampNeg) ||| ((1 : Int64) <<< (((ST_shifts S16 (l1 : Int32).toNatClampNeg) : Int32).toInt64 &&& 63)))))) := hD
    rw [eS20] at hP hD
    refine lv_aload_n hx hb dX1_coverOpen_99 rfl (lv_at hl 0 rfl) ?_
    refine va_get (D := D) (ci := 1) (v := .ref (a 5)) (C := RX1) (T := TX1) (N := 15) hx hb hu (fun _ h => h) hown hE.1 hP 0 rfl rfl 6 (Nat.le_of_ble_eq_true rfl) (hts (.fieldLink RX1 25 "CoverMeter$State" "meters" "[I") (List.mem_of_getElem? (i := 9) rfl)) (fun _ h9 => h9) rfl dX1_coverOpen_100 ?_
    refine lv_iload_n hx hb dX1_coverOpen_103 rfl (lv_at hl 2 rfl) ?_
    refine lv_dup2_11 hx hb dX1_coverOpen_104 rfl rfl ?_
    have hi21 := q_gd_in hf
    have hf := q_gd_go hf
    refine va_iald hx hb hE.1 hP 5 0 rfl rfl hi21 dX1_coverOpen_105 ?_
    refine lv_aload_n hx hb dX1_coverOpen_106 rfl (lv_at hl 0 rfl) ?_
    refine va_get (D := D) (ci := 1) (v := .ref (a 11)) (C := RX1) (T := TX1) (N := 15) hx hb hu (fun _ h => h) hown hE.1 hP 0 rfl rfl 13 (Nat.le_of_ble_eq_true rfl) (hts (.fieldLink RX1 43 "CoverMeter$State" "points" "[I") (List.mem_of_getElem? (i := 3) rfl)) (fun _ h9 => h9) rfl dX1_coverOpen_107 ?_
    refine lv_iload_n hx hb dX1_coverOpen_110 rfl (lv_at hl 1 rfl) ?_
    have hi22 := q_gd_in hf
    have hf := q_gd_go hf
    refine va_iald hx hb hE.1 hP 11 0 rfl rfl hi22 dX1_coverOpen_111 ?_
    refine lv_iadd hx hb dX1_coverOpen_112 ?_
    have hi23 := q_gd_in hf
    have hf := q_gd_go hf
    obtain ⟨S24, eS24, hf⟩ := q_let_go hf
    refine va_iast hx hb hE.1 hP hD hS 5 0 rfl rfl hi23 dX1_coverOpen_113 (fun H locs hP hD hS => ?_)
    have hP : va_P D vwCl (wST cI cJ a (sST_meters S20 (upd (ST_meters S20) (l2 : Int32).toNatClampNeg ((ST_meters S20 (l2 : Int32).toNatClampNeg) + (ST_points S20 (l1 : Int32).toNatClampNeg))))) H := hP
    have hD : va_D (va_A (wST cI cJ a S) s.heap.size) (wST cI cJ a (sST_meters S20 (upd (ST_meters S20) (l2 : Int32).toNatClampNeg ((ST_meters S20 (l2 : Int32).toNatClampNeg) + (ST_points S20 (l1 : Int32).toNatClampNeg))))) := hD
    rw [eS24] at hP hD
    refine lv_aload_n hx hb dX1_coverOpen_114 rfl (lv_at hl 0 rfl) ?_
    refine va_get (D := D) (ci := 1) (v := .ref (a 5)) (C := RX1) (T := TX1) (N := 15) hx hb hu (fun _ h => h) hown hE.1 hP 0 rfl rfl 6 (Nat.le_of_ble_eq_true rfl) (hts (.fieldLink RX1 25 "CoverMeter$State" "meters" "[I") (List.mem_of_getElem? (i := 9) rfl)) (fun _ h9 => h9) rfl dX1_coverOpen_115 ?_
    refine lv_aload_n hx hb dX1_coverOpen_118 rfl (lv_at hl 0 rfl) ?_
    refine va_get (D := D) (ci := 1) (v := .ref (a 7)) (C := RX1) (T := TX1) (N := 15) hx hb hu (fun _ h => h) hown hE.1 hP 0 rfl rfl 9 (Nat.le_of_ble_eq_true rfl) (hts (.fieldLink RX1 31 "CoverMeter$State" "absentees" "[I") (List.mem_of_getElem? (i := 10) rfl)) (fun _ h9 => h9) rfl dX1_coverOpen_119 ?_
    refine lv_iload_n hx hb dX1_coverOpen_122 rfl (lv_at hl 1 rfl) ?_
    have hi25 := q_gd_in hf
    have hf := q_gd_go hf
    refine va_iald hx hb hE.1 hP 7 0 rfl rfl hi25 dX1_coverOpen_123 ?_
    refine lv_dup2_11 hx hb dX1_coverOpen_124 rfl rfl ?_
    have hi26 := q_gd_in hf
    have hf := q_gd_go hf
    refine va_iald hx hb hE.1 hP 5 0 rfl rfl hi26 dX1_coverOpen_125 ?_
    refine lv_aload_n hx hb dX1_coverOpen_126 rfl (lv_at hl 0 rfl) ?_
    refine va_get (D := D) (ci := 1) (v := .ref (a 11)) (C := RX1) (T := TX1) (N := 15) hx hb hu (fun _ h => h) hown hE.1 hP 0 rfl rfl 13 (Nat.le_of_ble_eq_true rfl) (hts (.fieldLink RX1 43 "CoverMeter$State" "points" "[I") (List.mem_of_getElem? (i := 3) rfl)) (fun _ h9 => h9) rfl dX1_coverOpen_127 ?_
    refine lv_iload_n hx hb dX1_coverOpen_130 rfl (lv_at hl 1 rfl) ?_
    have hi27 := q_gd_in hf
    have hf := q_gd_go hf
    refine va_iald hx hb hE.1 hP 11 0 rfl rfl hi27 dX1_coverOpen_131 ?_
    refine lv_isub hx hb dX1_coverOpen_132 ?_
    have hi28 := q_gd_in hf
    have hf := q_gd_go hf
    obtain ⟨S29, eS29, hf⟩ := q_let_go hf
    refine va_iast hx hb hE.1 hP hD hS 5 0 rfl rfl hi28 dX1_coverOpen_133 (fun H locs hP hD hS => ?_)
    have hP : va_P D vwCl (wST cI cJ a (sST_meters S24 (upd (ST_meters S24) ((ST_absentees S24 (l1 : Int32).toNatClampNeg) : Int32).toNatClampNeg ((ST_meters S24 ((ST_absentees S24 (l1 : Int32).toNatClampNeg) : Int32).toNatClampNeg) - (ST_points S24 (l1 : Int32).toNatClampNeg))))) H := hP
    have hD : va_D (va_A (wST cI cJ a S) s.heap.size) (wST cI cJ a (sST_meters S24 (upd (ST_meters S24) ((ST_absentees S24 (l1 : Int32).toNatClampNeg) : Int32).toNatClampNeg ((ST_meters S24 ((ST_absentees S24 (l1 : Int32).toNatClampNeg) : Int32).toNatClampNeg) - (ST_points S24 (l1 : Int32).toNatClampNeg))))) := hD
    rw [eS29] at hP hD
    refine lv_aload_n hx hb dX1_coverOpen_134 rfl (lv_at hl 0 rfl) ?_
    refine lv_iload_n hx hb dX1_coverOpen_135 rfl (lv_at hl 1 rfl) ?_
    obtain ⟨r30, hr30, hf⟩ := q_bd_go hf
    refine q_wrVv (ci := 1) (As := [.int l1]) (rest := []) hx hb hml hown hts (c_X1_dropBids l D cI cJ cS a S29 _ l1 _ hr30) (cwV 1 hts gX1_coverOpen_X1_dropBids rfl rfl rfl (by decide +kernel) ⟨(Nat.le_of_ble_eq_true rfl), (Nat.le_of_ble_eq_true rfl)⟩) hE hP hD hS (fun q h => Or.inr h) rfl rfl rfl hl.1 rfl (Nat.le_of_ble_eq_true rfl) dX1_coverOpen_136 ⟨Nat.zero_le _, Nat.zero_le _⟩ (fun H locs hP hD hS => ?_)
    refine lv_iconst (v := 1) hx hb dX1_coverOpen_139 (by decide) ?_
    have ho := q_some hf
    subst ho
    exact W.zret hx hb hr rfl (fun t ht hW => ⟨rfl, ⟨by rw [ht]; exact hP, hD⟩, hS.F ht⟩) hS.2.2 dX1_coverOpen_140
  have hl := lv_entry ([.ref (a 0), .int p1]) (n := 4) (Nat.le_of_ble_eq_true rfl)
  rw [lg_entry_eq]
  generalize (lg_sl ([.ref (a 0), .int p1]) ++ List.replicate (4 - (lg_sl ([.ref (a 0), .int p1])).length) Slot.unset).toArray = ls at hl ⊢
  have hl : lv_has ls 4 [(0, .ref (a 0)), (1, .int p1)] := hl
  unfold f_X1_coverOpen at hf
  refine lv_aload_n hx hb dX1_coverOpen_0 rfl (lv_at hl 0 rfl) ?_
  refine lv_iload_n hx hb dX1_coverOpen_1 rfl (lv_at hl 1 rfl) ?_
  obtain ⟨r1, hr1, hf⟩ := q_bd_go hf
  refine q_rdVi (ci := 1) (As := [.int p1]) (rest := []) hx hb hml hown hts (c_X1_nextCoverer l D cI cJ cS a S p1 _ hr1) (cwV 1 hts gX1_coverOpen_X1_nextCoverer rfl rfl rfl (by decide +kernel) ⟨(Nat.le_of_ble_eq_true rfl), (Nat.le_of_ble_eq_true rfl)⟩) hE hP rfl rfl rfl hl.1 rfl (Nat.le_of_ble_eq_true rfl) dX1_coverOpen_2 ⟨Nat.zero_le _, Nat.zero_le _⟩ ?_
  refine lv_istore_n (lv' := [(2, .int r1), (0, .ref (a 0)), (1, .int p1)]) hx hb dX1_coverOpen_5 rfl hl (by decide) rfl (fun ls hl => ?_)
  refine lv_iload_n hx hb dX1_coverOpen_6 rfl (lv_at hl 0 rfl) ?_
  refine lv_iconst (v := (-1)) hx hb dX1_coverOpen_7 (by decide) ?_
  refine lv_icmp_ne (tgt := 13) hx hb dX1_coverOpen_8 (by decide) (fun c2 => ?_) (fun c2 => ?_)
  · have hf := q_ite_t c2 hf
    refine lv_aload_n hx hb dX1_coverOpen_13 rfl (lv_at hl 1 rfl) ?_
    refine va_get (D := D) (ci := 1) (v := .ref (a 12)) (C := RX1) (T := TX1) (N := 15) hx hb hu (fun _ h => h) hown hE.1 hP 0 rfl rfl 14 (Nat.le_of_ble_eq_true rfl) (hts (.fieldLink RX1 46 "CoverMeter$State" "bids" "[I") (List.mem_of_getElem? (i := 1) rfl)) (fun _ h9 => h9) rfl dX1_coverOpen_14 ?_
    refine lv_iload_n hx hb dX1_coverOpen_17 rfl (lv_at hl 0 rfl) ?_
    refine lv_iload_n hx hb dX1_coverOpen_18 rfl (lv_at hl 2 rfl) ?_
    obtain ⟨r3, hr3, hf⟩ := q_bd_go hf
    refine q_rdNi (As := [.int r1, .int p1]) (rest := [.ref (a 12)]) hx hb hml hown hts (c_X2_bidIndex l D cI cJ cS r1 p1 _ hr3) ⟨va_cnB 2 hts gX1_coverOpen_X2_bidIndex_n74 rfl rfl rfl hE.2 (hts (.initialized RX2) (List.mem_of_getElem? (i := 41) rfl)) (by decide +kernel) ⟨(Nat.le_of_ble_eq_true rfl), (Nat.le_of_ble_eq_true rfl)⟩, hts (.static yX2_bidIndex) (List.mem_of_getElem? (i := 40) rfl), trivial⟩ hE rfl hl.1 rfl (Nat.le_of_ble_eq_true rfl) dX1_coverOpen_19 ⟨Nat.zero_le _, Nat.zero_le _⟩ ?_
    have hi4 := q_gd_in hf
    have hf := q_gd_go hf
    refine va_iald hx hb hE.1 hP 12 0 rfl rfl hi4 dX1_coverOpen_22 ?_
    obtain ⟨v5, ev5, hf⟩ := q_let_go hf
    refine q_nmi ev5 ?_
    refine lv_istore_n (lv' := [(3, .int v5), (2, .int r1), (0, .ref (a 0)), (1, .int p1)]) hx hb dX1_coverOpen_23 rfl hl (by decide) rfl (fun ls hl => ?_)
    refine lv_iload_n hx hb dX1_coverOpen_24 rfl (lv_at hl 0 rfl) ?_
    refine lv_iconst (v := (-1)) hx hb dX1_coverOpen_25 (by decide) ?_
    refine lv_icmp_eq (tgt := 46) hx hb dX1_coverOpen_26 (by decide) (fun c6 => ?_) (fun c6 => ?_)
    · have hf := q_ite_t c6 hf
      refine lv_aload_n hx hb dX1_coverOpen_46 rfl (lv_at hl 2 rfl) ?_
      refine va_get (D := D) (ci := 1) (v := .ref (a 9)) (C := RX1) (T := TX1) (N := 15) hx hb hu (fun _ h => h) hown hE.1 hP 0 rfl rfl 11 (Nat.le_of_ble_eq_true rfl) (hts (.fieldLink RX1 37 "CoverMeter$State" "statuses" "[I") (List.mem_of_getElem? (i := 2) rfl)) (fun _ h9 => h9) rfl dX1_coverOpen_47 ?_
      refine lv_iload_n hx hb dX1_coverOpen_50 rfl (lv_at hl 3 rfl) ?_
      refine lv_iconst (v := 2) hx hb dX1_coverOpen_51 (by decide) ?_
      have hi7 := q_gd_in hf
      have hf := q_gd_go hf
      obtain ⟨S8, eS8, hf⟩ := q_let_go hf
      refine va_iast hx hb hE.1 hP hD hS 9 0 rfl rfl hi7 dX1_coverOpen_52 (fun H locs hP hD hS => ?_)
      have hP : va_P D vwCl (wST cI cJ a (sST_statuses S (upd (ST_statuses S) (p1 : Int32).toNatClampNeg 2))) H := hP
      have hD : va_D (va_A (wST cI cJ a S) s.heap.size) (wST cI cJ a (sST_statuses S (upd (ST_statuses S) (p1 : Int32).toNatClampNeg 2))) := hD
      rw [eS8] at hP hD
      refine lv_aload_n hx hb dX1_coverOpen_53 rfl (lv_at hl 2 rfl) ?_
      refine va_get (D := D) (ci := 1) (v := .ref (a 11)) (C := RX1) (T := TX1) (N := 15) hx hb hu (fun _ h => h) hown hE.1 hP 0 rfl rfl 13 (Nat.le_of_ble_eq_true rfl) (hts (.fieldLink RX1 43 "CoverMeter$State" "points" "[I") (List.mem_of_getElem? (i := 3) rfl)) (fun _ h9 => h9) rfl dX1_coverOpen_54 ?_
      refine lv_iload_n hx hb dX1_coverOpen_57 rfl (lv_at hl 3 rfl) ?_
      refine lv_aload_n hx hb dX1_coverOpen_58 rfl (lv_at hl 2 rfl) ?_
      refine va_get (D := D) (ci := 1) (v := .ref (a 1)) (C := RX1) (T := TX1) (N := 15) hx hb hu (fun _ h => h) hown hE.1 hP 0 rfl rfl 0 (Nat.le_of_ble_eq_true rfl) (hts (.fieldLink RX1 9 "CoverMeter$State" "settings" "[I") (List.mem_of_getElem? (i := 4) rfl)) (fun _ h9 => h9) rfl dX1_coverOpen_59 ?_
      refine lv_iconst (v := 1) hx hb dX1_coverOpen_62 (by decide) ?_
      have hi9 := q_gd_in hf
      have hf := q_gd_go hf
      refine va_iald hx hb hE.1 hP 1 0 rfl rfl hi9 dX1_coverOpen_63 ?_
      have hi10 := q_gd_in hf
      have hf := q_gd_go hf
      obtain ⟨S11, eS11, hf⟩ := q_let_go hf
      refine va_iast hx hb hE.1 hP hD hS 11 0 rfl rfl hi10 dX1_coverOpen_64 (fun H locs hP hD hS => ?_)
      have hP : va_P D vwCl (wST cI cJ a (sST_points S8 (upd (ST_points S8) (p1 : Int32).toNatClampNeg (ST_settings S8 (1 : Int32).toNatClampNeg)))) H := hP
      have hD : va_D (va_A (wST cI cJ a S) s.heap.size) (wST cI cJ a (sST_points S8 (upd (ST_points S8) (p1 : Int32).toNatClampNeg (ST_settings S8 (1 : Int32).toNatClampNeg)))) := hD
      rw [eS11] at hP hD
      refine lv_aload_n hx hb dX1_coverOpen_65 rfl (lv_at hl 2 rfl) ?_
      refine va_get (D := D) (ci := 1) (v := .ref (a 6)) (C := RX1) (T := TX1) (N := 15) hx hb hu (fun _ h => h) hown hE.1 hP 0 rfl rfl 7 (Nat.le_of_ble_eq_true rfl) (hts (.fieldLink RX1 28 "CoverMeter$State" "turns" "[I") (List.mem_of_getElem? (i := 5) rfl)) (fun _ h9 => h9) rfl dX1_coverOpen_66 ?_
      refine lv_iload_n hx hb dX1_coverOpen_69 rfl (lv_at hl 1 rfl) ?_
      refine lv_dup2_11 hx hb dX1_coverOpen_70 rfl rfl ?_
      have hi12 := q_gd_in hf
      have hf := q_gd_go hf
      refine va_iald hx hb hE.1 hP 6 0 rfl rfl hi12 dX1_coverOpen_71 ?_
      refine lv_iconst (v := 1) hx hb dX1_coverOpen_72 (by decide) ?_
      refine lv_iadd hx hb dX1_coverOpen_73 ?_
      have hi13 := q_gd_in hf
      have hf := q_gd_go hf
      obtain ⟨S14, eS14, hf⟩ := q_let_go hf
      refine va_iast hx hb hE.1 hP hD hS 6 0 rfl rfl hi13 dX1_coverOpen_74 (fun H locs hP hD hS => ?_)
      have hP : va_P D vwCl (wST cI cJ a (sST_turns S11 (upd (ST_turns S11) (r1 : Int32).toNatClampNeg ((ST_turns S11 (r1 : Int32).toNatClampNeg) + 1)))) H := hP
      have hD : va_D (va_A (wST cI cJ a S) s.heap.size) (wST cI cJ a (sST_turns S11 (upd (ST_turns S11) (r1 : Int32).toNatClampNeg ((ST_turns S11 (r1 : Int32).toNatClampNeg) + 1)))) := hD
      rw [eS14] at hP hD
      exact B_75 S14 _ _ hP hD hS p1 r1 _ (lv_sub hl [2, 3, 1] rfl) hf
    · have hf := q_ite_f c6 hf
      refine lv_aload_n hx hb dX1_coverOpen_29 rfl (lv_at hl 2 rfl) ?_
      refine va_get (D := D) (ci := 1) (v := .ref (a 9)) (C := RX1) (T := TX1) (N := 15) hx hb hu (fun _ h => h) hown hE.1 hP 0 rfl rfl 11 (Nat.le_of_ble_eq_true rfl) (hts (.fieldLink RX1 37 "CoverMeter$State" "statuses" "[I") (List.mem_of_getElem? (i := 2) rfl)) (fun _ h9 => h9) rfl dX1_coverOpen_30 ?_
      refine lv_iload_n hx hb dX1_coverOpen_33 rfl (lv_at hl 3 rfl) ?_
      refine lv_iconst (v := 1) hx hb dX1_coverOpen_34 (by decide) ?_
      have hi31 := q_gd_in hf
      have hf := q_gd_go hf
      obtain ⟨S32, eS32, hf⟩ := q_let_go hf
      refine va_iast hx hb hE.1 hP hD hS 9 0 rfl rfl hi31 dX1_coverOpen_35 (fun H locs hP hD hS => ?_)
      have hP : va_P D vwCl (wST cI cJ a (sST_statuses S (upd (ST_statuses S) (p1 : Int32).toNatClampNeg 1))) H := hP
      have hD : va_D (va_A (wST cI cJ a S) s.heap.size) (wST cI cJ a (sST_statuses S (upd (ST_statuses S) (p1 : Int32).toNatClampNeg 1))) := hD
      rw [eS32] at hP hD
      refine lv_aload_n hx hb dX1_coverOpen_36 rfl (lv_at hl 2 rfl) ?_
      refine va_get (D := D) (ci := 1) (v := .ref (a 11)) (C := RX1) (T := TX1) (N := 15) hx hb hu (fun _ h => h) hown hE.1 hP 0 rfl rfl 13 (Nat.le_of_ble_eq_true rfl) (hts (.fieldLink RX1 43 "CoverMeter$State" "points" "[I") (List.mem_of_getElem? (i := 3) rfl)) (fun _ h9 => h9) rfl dX1_coverOpen_37 ?_
      refine lv_iload_n hx hb dX1_coverOpen_40 rfl (lv_at hl 3 rfl) ?_
      refine lv_iload_n hx hb dX1_coverOpen_41 rfl (lv_at hl 0 rfl) ?_
      have hi33 := q_gd_in hf
      have hf := q_gd_go hf
      obtain ⟨S34, eS34, hf⟩ := q_let_go hf
      refine va_iast hx hb hE.1 hP hD hS 11 0 rfl rfl hi33 dX1_coverOpen_42 (fun H locs hP hD hS => ?_)
      have hP : va_P D vwCl (wST cI cJ a (sST_points S32 (upd (ST_points S32) (p1 : Int32).toNatClampNeg v5))) H := hP
      have hD : va_D (va_A (wST cI cJ a S) s.heap.size) (wST cI cJ a (sST_points S32 (upd (ST_points S32) (p1 : Int32).toNatClampNeg v5))) := hD
      rw [eS34] at hP hD
      refine lv_goto (tgt := 75) hx hb dX1_coverOpen_43 (by decide) ?_
      exact B_75 S34 _ _ hP hD hS p1 r1 _ (lv_sub hl [2, 3, 1] rfl) hf
  · have hf := q_ite_n c2 hf
    refine lv_iconst (v := 0) hx hb dX1_coverOpen_11 (by decide) ?_
    have ho := q_some hf
    subst ho
    exact W.zret hx hb hr rfl (fun t ht hW => ⟨rfl, ⟨by rw [ht]; exact hP, hD⟩, hS.F ht⟩) hS.2.2 dX1_coverOpen_12
