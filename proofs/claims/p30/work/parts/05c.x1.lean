def f_X1_coverAllOpen_4 : Nat → ST → Int32 → Int32 → Option (Int32 × ST)
  | 0, _, _, _ => none
  | n+1, Sz, l1, l2 => if (ST_absences Sz) ≤ l2 then
 (some (l1, Sz))
 else ((f_X1_coverOpen Sz l2).bind fun r2 =>
 if r2.1 = 0 then
 (q_let (l2 + 1) fun v4 =>
 f_X1_coverAllOpen_4 n r2.2 l1 v4)
 else (q_let (l1 + 1) fun v5 =>
 q_let (l2 + 1) fun v6 =>
 f_X1_coverAllOpen_4 n r2.2 v5 v6))
def f_X1_coverAllOpen (S : ST) : Option (Int32 × ST) := f_X1_coverAllOpen_4 2000 S 0 0
abbrev rX1_coverAllOpen : Room := { frames := 4, cells := 0, slots := 0, locals := 97 }
set_option maxRecDepth 100000 in
set_option maxHeartbeats 4000000 in
theorem c_X1_coverAllOpen (l : Launch) (D : va_G) (cI cJ cS : ClassId) (a : Nat → Nat) (S : ST) (sz : Nat) (o : (Int32 × ST)) (hf : f_X1_coverAllOpen S = some o) : Met l yX1_coverAllOpen wsX1_coverAllOpen rX1_coverAllOpen (va_Pc [.ref (a 0)] (q_BW D cI cJ cS (wST cI cJ a S) sz)) (q_Wo (some (.int o.1)) D (wST cI cJ a S) (wST cI cJ a o.2) sz) 0 0 (va_A (wST cI cJ a S) sz) := by
  refine Met.ofW (cc := cX1_coverAllOpen) (maxL := 3) (ret := some .int) (by decide) rfl ?_
  intro p e s m args below meth c s₁ B hml hv
  obtain ⟨rfl, hsz, hP, hE, hD0⟩ := hv
  have hx := B.exec
  have hb := B.bytes
  have hr := B.returns
  have hts := atoms_spec (ws := wsX1_coverAllOpen) B.pre
  have hown : s.vm.findClass RX1 = some m.cls := findClass_of_methodNamed B.named
  have hlocks := B.notSynchronized
  have hu : ∀ z ∈ wsX10, z.before _ s = true := fun z h => hts z (List.mem_cons_of_mem _ (List.mem_append_right _ h))
  subst hsz
  have hD := hD0.self (sz := s.heap.size)
  have hS : va_S (va_A (wST cI cJ a S) s.heap.size) s.heap s.heap [] := va_S.rf
  have L_4 : ∀ (n : Nat) (Sz : ST) (H : Heap) (locs : List Loc) (hP : va_P D vwCl (wST cI cJ a Sz) H) (hD : va_D (va_A (wST cI cJ a S) s.heap.size) (wST cI cJ a Sz)) (hS : va_S (va_A (wST cI cJ a S) s.heap.size) s.heap H locs) (l1 : Int32) (l2 : Int32) (ls : Array Slot), lv_has ls 3 [(0, .ref (a 0)), (1, .int l1), (2, .int l2)] → f_X1_coverAllOpen_4 n Sz l1 l2 = some o → W p l e (headSpec wsX1_coverAllOpen rX1_coverAllOpen).room s m (([.ref (a 0)] : List Value).toArray) below meth c H locs 0 0 (MQ below (q_Wo (some (.int o.1)) D (wST cI cJ a S) (wST cI cJ a o.2) s.heap.size) (([.ref (a 0)] : List Value).toArray) s 0 0 (va_A (wST cI cJ a S) s.heap.size)) (F0 m 4 ls []) := by
    intro n
    induction n with
    | zero => intro Sz H locs hP hD hS l1 l2 ls hl hf; cases hf
    | succ n ih =>
      intro Sz H locs hP hD hS l1 l2 ls hl hf
      rw [f_X1_coverAllOpen_4] at hf
      refine lv_iload_n hx hb dX1_coverAllOpen_4 rfl (lv_at hl 2 rfl) ?_
      refine lv_aload_n hx hb dX1_coverAllOpen_5 rfl (lv_at hl 0 rfl) ?_
      refine va_get (D := D) (ci := 1) (v := .int (ST_absences Sz)) (C := RX1) (T := TX1) (N := 15) hx hb hu (fun _ h => h) hown hE.1 hP 0 rfl rfl 8 (Nat.le_of_ble_eq_true rfl) (hts (.fieldLink RX1 65 "CoverMeter$State" "absences" "I") (List.mem_of_getElem? (i := 1) rfl)) (fun _ h9 => h9) rfl dX1_coverAllOpen_6 ?_
      refine lv_icmp_ge (tgt := 29) hx hb dX1_coverAllOpen_9 (by decide) (fun c1 => ?_) (fun c1 => ?_)
      · have hf := q_ite_t c1 hf
        refine lv_iload_n hx hb dX1_coverAllOpen_29 rfl (lv_at hl 1 rfl) ?_
        have ho := q_some hf
        subst ho
        exact W.iret hx hb hr (fun t ht hW => ⟨rfl, ⟨by rw [ht]; exact hP, hD⟩, hS.F ht⟩) hS.2.2 dX1_coverAllOpen_30
      · have hf := q_ite_f c1 hf
        refine lv_aload_n hx hb dX1_coverAllOpen_12 rfl (lv_at hl 0 rfl) ?_
        refine lv_iload_n hx hb dX1_coverAllOpen_13 rfl (lv_at hl 2 rfl) ?_
        obtain ⟨r2, hr2, hf⟩ := q_bd_go hf
        refine q_wrVi (ci := 1) (As := [.int l2]) (rest := []) hx hb hml hown hts (c_X1_coverOpen l D cI cJ cS a Sz _ l2 _ hr2) (cwV 1 hts gX1_coverAllOpen_X1_coverOpen rfl rfl rfl (by decide +kernel) ⟨(Nat.le_of_ble_eq_true rfl), (Nat.le_of_ble_eq_true rfl)⟩) hE hP hD hS (fun q h => Or.inr h) rfl rfl rfl hl.1 rfl (Nat.le_of_ble_eq_true rfl) dX1_coverAllOpen_14 ⟨Nat.zero_le _, Nat.zero_le _⟩ (fun H locs hP hD hS => ?_)
        refine lv_if_eq (tgt := 23) hx hb dX1_coverAllOpen_17 (by decide) (fun c3 => ?_) (fun c3 => ?_)
        · have hf := q_ite_t c3 hf
          obtain ⟨v4, ev4, hf⟩ := q_let_go hf
          refine lv_iinc (v := v4) (lv' := [(2, .int v4), (0, .ref (a 0)), (1, .int l1)]) hx hb dX1_coverAllOpen_23 hl (k := 2) rfl (by rw [← ev4]; rfl) (by decide) rfl (fun ls hl => ?_)
          refine lv_goto (tgt := 4) hx hb dX1_coverAllOpen_26 (by decide) ?_
          exact ih r2.2 _ _ hP hD hS l1 v4 _ (lv_sub hl [1, 2, 0] rfl) hf
        · have hf := q_ite_f c3 hf
          obtain ⟨v5, ev5, hf⟩ := q_let_go hf
          refine lv_iinc (v := v5) (lv' := [(1, .int v5), (0, .ref (a 0)), (2, .int l2)]) hx hb dX1_coverAllOpen_20 hl (k := 1) rfl (by rw [← ev5]; rfl) (by decide) rfl (fun ls hl => ?_)
          obtain ⟨v6, ev6, hf⟩ := q_let_go hf
          refine lv_iinc (v := v6) (lv' := [(2, .int v6), (1, .int v5), (0, .ref (a 0))]) hx hb dX1_coverAllOpen_23 hl (k := 2) rfl (by rw [← ev6]; rfl) (by decide) rfl (fun ls hl => ?_)
          refine lv_goto (tgt := 4) hx hb dX1_coverAllOpen_26 (by decide) ?_
          exact ih r2.2 _ _ hP hD hS v5 v6 _ (lv_sub hl [2, 1, 0] rfl) hf
  have hl := lv_entry ([.ref (a 0)]) (n := 3) (Nat.le_of_ble_eq_true rfl)
  rw [lg_entry_eq]
  generalize (lg_sl ([.ref (a 0)]) ++ List.replicate (3 - (lg_sl ([.ref (a 0)])).length) Slot.unset).toArray = ls at hl ⊢
  have hl : lv_has ls 3 [(0, .ref (a 0))] := hl
  unfold f_X1_coverAllOpen at hf
  refine lv_iconst (v := 0) hx hb dX1_coverAllOpen_0 (by decide) ?_
  refine lv_istore_n (lv' := [(1, .int 0), (0, .ref (a 0))]) hx hb dX1_coverAllOpen_1 rfl hl (by decide) rfl (fun ls hl => ?_)
  refine lv_iconst (v := 0) hx hb dX1_coverAllOpen_2 (by decide) ?_
  refine lv_istore_n (lv' := [(2, .int 0), (1, .int 0), (0, .ref (a 0))]) hx hb dX1_coverAllOpen_3 rfl hl (by decide) rfl (fun ls hl => ?_)
  exact L_4 2000 S _ _ hP hD hS 0 0 _ (lv_sub hl [2, 1, 0] rfl) hf
def f_X1_moveCover (S : ST) (p1 : Int32) (p2 : Int32) : Option ST := if q_in p1 30 = true then
 (q_let (((1 : Int64) <<< (((ST_shifts S (p1 : Int32).toNatClampNeg) : Int32).toInt64 &&& 63))) fun v2 =>
 if q_in p1 30 = true then
 (q_let ((ST_coverers S (p1 : Int32).toNatClampNeg)) fun v4 =>
 if q_in v4 8 = true then
 (if q_in v4 8 = true then
 (q_let (sST_covering S (vp_updL (ST_covering S) (v4 : Int32).toNatClampNeg ((ST_covering S (v4 : Int32).toNatClampNeg) &&& (v2 ^^^ (-1))))) fun S7 =>
 if q_in v4 8 = true then
 (if q_in p1 30 = true then
 (if q_in v4 8 = true then
 (q_let (sST_meters S7 (upd (ST_meters S7) (v4 : Int32).toNatClampNeg ((ST_meters S7 (v4 : Int32).toNatClampNeg) - (ST_points S7 (p1 : Int32).toNatClampNeg)))) fun S11 =>
 if q_in p2 8 = true then
 (if q_in p2 8 = true then
 (q_let (sST_covering S11 (vp_updL (ST_covering S11) (p2 : Int32).toNatClampNeg ((ST_covering S11 (p2 : Int32).toNatClampNeg) ||| v2))) fun S14 =>
 if q_in p2 8 = true then
 (if q_in p1 30 = true then
 (if q_in p2 8 = true then
 (q_let (sST_meters S14 (upd (ST_meters S14) (p2 : Int32).toNatClampNeg ((ST_meters S14 (p2 : Int32).toNatClampNeg) + (ST_points S14 (p1 : Int32).toNatClampNeg)))) fun S18 =>
 if q_in p1 30 = true then
 (q_let (sST_coverers S18 (upd (ST_coverers S18) (p1 : Int32).toNatClampNeg p2)) fun S20 =>
 q_let (sST_handedOver S20 ((ST_handedOver S20) + 1)) fun S21 =>
 some S21) else none) else none) else none) else none) else none) else none) else none) else none) else none) else none) else none) else none) else none
abbrev rX1_moveCover : Room := { frames := 0, cells := 0, slots := 0, locals := 0 }
set_option maxRecDepth 100000 in
set_option maxHeartbeats 4000000 in
theorem c_X1_moveCover (l : Launch) (D : va_G) (cI cJ cS : ClassId) (a : Nat → Nat) (S : ST) (sz : Nat) (p1 : Int32) (p2 : Int32) (o : ST) (hf : f_X1_moveCover S p1 p2 = some o) : Met l yX1_moveCover wsX1_moveCover rX1_moveCover (va_Pc [.ref (a 0), .int p1, .int p2] (q_BW D cI cJ cS (wST cI cJ a S) sz)) (q_Wo none D (wST cI cJ a S) (wST cI cJ a o) sz) 0 0 (va_A (wST cI cJ a S) sz) := by
  refine Met.ofW (cc := cX1_moveCover) (maxL := 6) (ret := none) (by decide) rfl ?_
  intro p e s m args below meth c s₁ B hml hv
  obtain ⟨rfl, hsz, hP, hE, hD0⟩ := hv
  have hx := B.exec
  have hb := B.bytes
  have hr := B.returns
  have hts := atoms_spec (ws := wsX1_moveCover) B.pre
  have hown : s.vm.findClass RX1 = some m.cls := findClass_of_methodNamed B.named
  have hlocks := B.notSynchronized
  have hu : ∀ z ∈ wsX10, z.before _ s = true := fun z h => hts z (List.mem_cons_of_mem _ (List.mem_append_right _ h))
  subst hsz
  have hD := hD0.self (sz := s.heap.size)
  have hS : va_S (va_A (wST cI cJ a S) s.heap.size) s.heap s.heap [] := va_S.rf
  have hl := lv_entry ([.ref (a 0), .int p1, .int p2]) (n := 6) (Nat.le_of_ble_eq_true rfl)
  rw [lg_entry_eq]
  generalize (lg_sl ([.ref (a 0), .int p1, .int p2]) ++ List.replicate (6 - (lg_sl ([.ref (a 0), .int p1, .int p2])).length) Slot.unset).toArray = ls at hl ⊢
  have hl : lv_has ls 6 [(0, .ref (a 0)), (1, .int p1), (2, .int p2)] := hl
  unfold f_X1_moveCover at hf
  refine lv_lconst (v := 1) hx hb dX1_moveCover_0 (by decide) ?_
  refine lv_aload_n hx hb dX1_moveCover_1 rfl (lv_at hl 0 rfl) ?_
  refine va_get (D := D) (ci := 1) (v := .ref (a 8)) (C := RX1) (T := TX1) (N := 15) hx hb hu (fun _ h => h) hown hE.1 hP 0 rfl rfl 10 (Nat.le_of_ble_eq_true rfl) (hts (.fieldLink RX1 34 "CoverMeter$State" "shifts" "[I") (List.mem_of_getElem? (i := 1) rfl)) (fun _ h9 => h9) rfl dX1_moveCover_2 ?_
  refine lv_iload_n hx hb dX1_moveCover_5 rfl (lv_at hl 1 rfl) ?_
  have hi1 := q_gd_in hf
  have hf := q_gd_go hf
  refine va_iald hx hb hE.1 hP 8 0 rfl rfl hi1 dX1_moveCover_6 ?_
  refine lv_lshl (v := ((1 : Int64) <<< (((ST_shifts S (p1 : Int32).toNatClampNeg) : Int32).toInt64 &&& 63))) hx hb dX1_moveCover_7 rfl ?_
  obtain ⟨v2, ev2, hf⟩ := q_let_go hf
  refine q_nml ev2 ?_
  refine lv_lstore_n (lv' := [(3, .long v2), (0, .ref (a 0)), (1, .int p1), (2, .int p2)]) hx hb dX1_moveCover_8 rfl hl (by decide) rfl (fun ls hl => ?_)
  refine lv_aload_n hx hb dX1_moveCover_9 rfl (lv_at hl 1 rfl) ?_
  refine va_get (D := D) (ci := 1) (v := .ref (a 10)) (C := RX1) (T := TX1) (N := 15) hx hb hu (fun _ h => h) hown hE.1 hP 0 rfl rfl 12 (Nat.le_of_ble_eq_true rfl) (hts (.fieldLink RX1 40 "CoverMeter$State" "coverers" "[I") (List.mem_of_getElem? (i := 2) rfl)) (fun _ h9 => h9) rfl dX1_moveCover_10 ?_
  refine lv_iload_n hx hb dX1_moveCover_13 rfl (lv_at hl 2 rfl) ?_
  have hi3 := q_gd_in hf
  have hf := q_gd_go hf
  refine va_iald hx hb hE.1 hP 10 0 rfl rfl hi3 dX1_moveCover_14 ?_
  obtain ⟨v4, ev4, hf⟩ := q_let_go hf
  refine q_nmi ev4 ?_
  refine lv_istore (lv' := [(5, .int v4), (3, .long v2), (0, .ref (a 0)), (1, .int p1), (2, .int p2)]) hx hb dX1_moveCover_15 hl (by decide) rfl (fun ls hl => ?_)
  refine lv_aload_n hx hb dX1_moveCover_17 rfl (lv_at hl 2 rfl) ?_
  refine va_get (D := D) (ci := 1) (v := .ref (a 4)) (C := RX1) (T := TX1) (N := 15) hx hb hu (fun _ h => h) hown hE.1 hP 0 rfl rfl 5 (Nat.le_of_ble_eq_true rfl) (hts (.fieldLink RX1 22 "CoverMeter$State" "covering" "[J") (List.mem_of_getElem? (i := 3) rfl)) (fun _ h9 => h9) rfl dX1_moveCover_18 ?_
  refine lv_iload hx hb dX1_moveCover_21 (lv_at hl 0 rfl) ?_
  refine lv_dup2_11 hx hb dX1_moveCover_23 rfl rfl ?_
  have hi5 := q_gd_in hf
  have hf := q_gd_go hf
  refine va_lald hx hb hE.1 hP 4 1 rfl rfl hi5 dX1_moveCover_24 ?_
  refine lv_lload_n hx hb dX1_moveCover_25 rfl (lv_at hl 1 rfl) ?_
  refine lv_ldc2 (v := (-1)) hx hb hown (hts (.constantLong RX1 68 (-1)) (List.mem_of_getElem? (i := 4) rfl)) dX1_moveCover_26 ?_
  refine lv_lxor hx hb dX1_moveCover_29 ?_
  refine lv_land hx hb dX1_moveCover_30 ?_
  have hi6 := q_gd_in hf
  have hf := q_gd_go hf
  obtain ⟨S7, eS7, hf⟩ := q_let_go hf
  refine va_last hx hb hE.1 hP hD hS 4 1 rfl rfl hi6 dX1_moveCover_31 (fun H locs hP hD hS => ?_)
  have hP : va_P D vwCl (wST cI cJ a (sST_covering S (vp_updL (ST_covering S) (v4 : Int32).toNatClampNeg ((ST_covering S (v4 : Int32).toNatClampNeg) &&& (v2 ^^^ (-1)))))) H := hP
  have hD : va_D (va_A (wST cI cJ a S) s.heap.size) (wST cI cJ a (sST_covering S (vp_updL (ST_covering S) (v4 : Int32).toNatClampNeg ((ST_covering S (v4 : Int32).toNatClampNeg) &&& (v2 ^^^ (-1)))))) := hD
  rw [eS7] at hP hD
  refine lv_aload_n hx hb dX1_moveCover_32 rfl (lv_at hl 2 rfl) ?_
  refine va_get (D := D) (ci := 1) (v := .ref (a 5)) (C := RX1) (T := TX1) (N := 15) hx hb hu (fun _ h => h) hown hE.1 hP 0 rfl rfl 6 (Nat.le_of_ble_eq_true rfl) (hts (.fieldLink RX1 25 "CoverMeter$State" "meters" "[I") (List.mem_of_getElem? (i := 5) rfl)) (fun _ h9 => h9) rfl dX1_moveCover_33 ?_
  refine lv_iload hx hb dX1_moveCover_36 (lv_at hl 0 rfl) ?_
  refine lv_dup2_11 hx hb dX1_moveCover_38 rfl rfl ?_
  have hi8 := q_gd_in hf
  have hf := q_gd_go hf
  refine va_iald hx hb hE.1 hP 5 0 rfl rfl hi8 dX1_moveCover_39 ?_
  refine lv_aload_n hx hb dX1_moveCover_40 rfl (lv_at hl 2 rfl) ?_
  refine va_get (D := D) (ci := 1) (v := .ref (a 11)) (C := RX1) (T := TX1) (N := 15) hx hb hu (fun _ h => h) hown hE.1 hP 0 rfl rfl 13 (Nat.le_of_ble_eq_true rfl) (hts (.fieldLink RX1 43 "CoverMeter$State" "points" "[I") (List.mem_of_getElem? (i := 6) rfl)) (fun _ h9 => h9) rfl dX1_moveCover_41 ?_
  refine lv_iload_n hx hb dX1_moveCover_44 rfl (lv_at hl 3 rfl) ?_
  have hi9 := q_gd_in hf
  have hf := q_gd_go hf
  refine va_iald hx hb hE.1 hP 11 0 rfl rfl hi9 dX1_moveCover_45 ?_
  refine lv_isub hx hb dX1_moveCover_46 ?_
  have hi10 := q_gd_in hf
  have hf := q_gd_go hf
  obtain ⟨S11, eS11, hf⟩ := q_let_go hf
  refine va_iast hx hb hE.1 hP hD hS 5 0 rfl rfl hi10 dX1_moveCover_47 (fun H locs hP hD hS => ?_)
  have hP : va_P D vwCl (wST cI cJ a (sST_meters S7 (upd (ST_meters S7) (v4 : Int32).toNatClampNeg ((ST_meters S7 (v4 : Int32).toNatClampNeg) - (ST_points S7 (p1 : Int32).toNatClampNeg))))) H := hP
  have hD : va_D (va_A (wST cI cJ a S) s.heap.size) (wST cI cJ a (sST_meters S7 (upd (ST_meters S7) (v4 : Int32).toNatClampNeg ((ST_meters S7 (v4 : Int32).toNatClampNeg) - (ST_points S7 (p1 : Int32).toNatClampNeg))))) := hD
  rw [eS11] at hP hD
  refine lv_aload_n hx hb dX1_moveCover_48 rfl (lv_at hl 2 rfl) ?_
  refine va_get (D := D) (ci := 1) (v := .ref (a 4)) (C := RX1) (T := TX1) (N := 15) hx hb hu (fun _ h => h) hown hE.1 hP 0 rfl rfl 5 (Nat.le_of_ble_eq_true rfl) (hts (.fieldLink RX1 22 "CoverMeter$State" "covering" "[J") (List.mem_of_getElem? (i := 3) rfl)) (fun _ h9 => h9) rfl dX1_moveCover_49 ?_
  refine lv_iload_n hx hb dX1_moveCover_52 rfl (lv_at hl 4 rfl) ?_
  refine lv_dup2_11 hx hb dX1_moveCover_53 rfl rfl ?_
  have hi12 := q_gd_in hf
  have hf := q_gd_go hf
  refine va_lald hx hb hE.1 hP 4 1 rfl rfl hi12 dX1_moveCover_54 ?_
  refine lv_lload_n hx hb dX1_moveCover_55 rfl (lv_at hl 1 rfl) ?_
  refine lv_lor hx hb dX1_moveCover_56 ?_
  have hi13 := q_gd_in hf
  have hf := q_gd_go hf
  obtain ⟨S14, eS14, hf⟩ := q_let_go hf
  refine va_last hx hb hE.1 hP hD hS 4 1 rfl rfl hi13 dX1_moveCover_57 (fun H locs hP hD hS => ?_)
  have hP : va_P D vwCl (wST cI cJ a (sST_covering S11 (vp_updL (ST_covering S11) (p2 : Int32).toNatClampNeg ((ST_covering S11 (p2 : Int32).toNatClampNeg) ||| v2)))) H := hP
  have hD : va_D (va_A (wST cI cJ a S) s.heap.size) (wST cI cJ a (sST_covering S11 (vp_updL (ST_covering S11) (p2 : Int32).toNatClampNeg ((ST_covering S11 (p2 : Int32).toNatClampNeg) ||| v2)))) := hD
  rw [eS14] at hP hD
  refine lv_aload_n hx hb dX1_moveCover_58 rfl (lv_at hl 2 rfl) ?_
  refine va_get (D := D) (ci := 1) (v := .ref (a 5)) (C := RX1) (T := TX1) (N := 15) hx hb hu (fun _ h => h) hown hE.1 hP 0 rfl rfl 6 (Nat.le_of_ble_eq_true rfl) (hts (.fieldLink RX1 25 "CoverMeter$State" "meters" "[I") (List.mem_of_getElem? (i := 5) rfl)) (fun _ h9 => h9) rfl dX1_moveCover_59 ?_
  refine lv_iload_n hx hb dX1_moveCover_62 rfl (lv_at hl 4 rfl) ?_
  refine lv_dup2_11 hx hb dX1_moveCover_63 rfl rfl ?_
  have hi15 := q_gd_in hf
  have hf := q_gd_go hf
  refine va_iald hx hb hE.1 hP 5 0 rfl rfl hi15 dX1_moveCover_64 ?_
  refine lv_aload_n hx hb dX1_moveCover_65 rfl (lv_at hl 2 rfl) ?_
  refine va_get (D := D) (ci := 1) (v := .ref (a 11)) (C := RX1) (T := TX1) (N := 15) hx hb hu (fun _ h => h) hown hE.1 hP 0 rfl rfl 13 (Nat.le_of_ble_eq_true rfl) (hts (.fieldLink RX1 43 "CoverMeter$State" "points" "[I") (List.mem_of_getElem? (i := 6) rfl)) (fun _ h9 => h9) rfl dX1_moveCover_66 ?_
  refine lv_iload_n hx hb dX1_moveCover_69 rfl (lv_at hl 3 rfl) ?_
  have hi16 := q_gd_in hf
  have hf := q_gd_go hf
  refine va_iald hx hb hE.1 hP 11 0 rfl rfl hi16 dX1_moveCover_70 ?_
  refine lv_iadd hx hb dX1_moveCover_71 ?_
  have hi17 := q_gd_in hf
  have hf := q_gd_go hf
  obtain ⟨S18, eS18, hf⟩ := q_let_go hf
  refine va_iast hx hb hE.1 hP hD hS 5 0 rfl rfl hi17 dX1_moveCover_72 (fun H locs hP hD hS => ?_)
  have hP : va_P D vwCl (wST cI cJ a (sST_meters S14 (upd (ST_meters S14) (p2 : Int32).toNatClampNeg ((ST_meters S14 (p2 : Int32).toNatClampNeg) + (ST_points S14 (p1 : Int32).toNatClampNeg))))) H := hP
  have hD : va_D (va_A (wST cI cJ a S) s.heap.size) (wST cI cJ a (sST_meters S14 (upd (ST_meters S14) (p2 : Int32).toNatClampNeg ((ST_meters S14 (p2 : Int32).toNatClampNeg) + (ST_points S14 (p1 : Int32).toNatClampNeg))))) := hD
  rw [eS18] at hP hD
  refine lv_aload_n hx hb dX1_moveCover_73 rfl (lv_at hl 2 rfl) ?_
  refine va_get (D := D) (ci := 1) (v := .ref (a 10)) (C := RX1) (T := TX1) (N := 15) hx hb hu (fun _ h => h) hown hE.1 hP 0 rfl rfl 12 (Nat.le_of_ble_eq_true rfl) (hts (.fieldLink RX1 40 "CoverMeter$State" "coverers" "[I") (List.mem_of_getElem? (i := 2) rfl)) (fun _ h9 => h9) rfl dX1_moveCover_74 ?_
  refine lv_iload_n hx hb dX1_moveCover_77 rfl (lv_at hl 3 rfl) ?_
  refine lv_iload_n hx hb dX1_moveCover_78 rfl (lv_at hl 4 rfl) ?_
  have hi19 := q_gd_in hf
  have hf := q_gd_go hf
  obtain ⟨S20, eS20, hf⟩ := q_let_go hf
  refine va_iast hx hb hE.1 hP hD hS 10 0 rfl rfl hi19 dX1_moveCover_79 (fun H locs hP hD hS => ?_)
  have hP : va_P D vwCl (wST cI cJ a (sST_coverers S18 (upd (ST_coverers S18) (p1 : Int32).toNatClampNeg p2))) H := hP
  have hD : va_D (va_A (wST cI cJ a S) s.heap.size) (wST cI cJ a (sST_coverers S18 (upd (ST_coverers S18) (p1 : Int32).toNatClampNeg p2))) := hD
  rw [eS20] at hP hD
  refine lv_aload_n hx hb dX1_moveCover_80 rfl (lv_at hl 2 rfl) ?_
  refine lv_dup hx hb dX1_moveCover_81 rfl ?_
  refine va_get (D := D) (ci := 1) (v := .int (ST_handedOver S20)) (C := RX1) (T := TX1) (N := 15) hx hb hu (fun _ h => h) hown hE.1 hP 0 rfl rfl 1 (Nat.le_of_ble_eq_true rfl) (hts (.fieldLink RX1 58 "CoverMeter$State" "handedOver" "I") (List.mem_of_getElem? (i := 7) rfl)) (fun _ h9 => h9) rfl dX1_moveCover_82 ?_
  refine lv_iconst (v := 1) hx hb dX1_moveCover_85 (by decide) ?_
  refine lv_iadd hx hb dX1_moveCover_86 ?_
  obtain ⟨S21, eS21, hf⟩ := q_let_go hf
  refine va_put (D := D) (ci := 1) (v := .int ((ST_handedOver S20) + 1)) (ty := .int) (C := RX1) (T := TX1) (N := 15) hx hb hu (fun _ h => h) tyX1 tyX1_ok nmX1 hown hE.1 hP hD hS 0 rfl rfl 1 (Nat.le_of_ble_eq_true rfl) (hts (.fieldLink RX1 58 "CoverMeter$State" "handedOver" "I") (List.mem_of_getElem? (i := 7) rfl)) (fun _ h9 => h9) rfl (by decide +kernel) rfl rfl (Nat.le_of_ble_eq_true rfl) dX1_moveCover_87 (fun H locs hP hD hS => ?_)
  have hP : va_P D vwCl (wST cI cJ a (sST_handedOver S20 ((ST_handedOver S20) + 1))) H := hP
  have hD : va_D (va_A (wST cI cJ a S) s.heap.size) (wST cI cJ a (sST_handedOver S20 ((ST_handedOver S20) + 1))) := hD
  rw [eS21] at hP hD
  have ho := q_some hf
  subst ho
  exact W.vret hx hb hr (fun t ht hW => ⟨rfl, ⟨by rw [ht]; exact hP, hD⟩, hS.F ht⟩) hS.2.2 dX1_moveCover_90
def f_X1_aboutPerson (S : ST) (p1 : Int32) (p2 : Int32) : Option Int32 := if p2 = 0 then
 (if q_in p1 8 = true then
 ((f_J13_bitCount_95d88 (ST_rosters S (p1 : Int32).toNatClampNeg)).bind fun r3 =>
 some r3) else none)
 else (if p2 = 1 then
 (if q_in p1 8 = true then
 ((f_J13_bitCount_95d88 (ST_away S (p1 : Int32).toNatClampNeg)).bind fun r5 =>
 some r5) else none)
 else (if p2 = 2 then
 (if q_in p1 8 = true then
 ((f_J13_bitCount_95d88 (ST_covering S (p1 : Int32).toNatClampNeg)).bind fun r7 =>
 some r7) else none)
 else (if p2 = 3 then
 (if q_in p1 8 = true then
 (some (ST_meters S (p1 : Int32).toNatClampNeg)) else none)
 else (if p2 = 4 then
 (if q_in p1 8 = true then
 (some (ST_turns S (p1 : Int32).toNatClampNeg)) else none)
 else (if p2 = 5 then
 ((f_X1_worked S p1).bind fun r10 =>
 (f_J13_bitCount_95d88 r10).bind fun r11 =>
 some r11)
 else ((f_X1_bidsBy S p1).bind fun r12 =>
 some r12))))))
abbrev rX1_aboutPerson : Room := { frames := 2, cells := 0, slots := 0, locals := 44 }
set_option maxRecDepth 100000 in
set_option maxHeartbeats 4000000 in
theorem c_X1_aboutPerson (l : Launch) (D : va_G) (cI cJ cS : ClassId) (a : Nat → Nat) (S : ST) (p1 : Int32) (p2 : Int32) (o : Int32) (hf : f_X1_aboutPerson S p1 p2 = some o) : Met l yX1_aboutPerson wsX1_aboutPerson rX1_aboutPerson (va_Pc [.ref (a 0), .int p1, .int p2] (q_B D cI cJ cS (wST cI cJ a S))) (q_Ri o) 0 0 (fun _ => False) := by
  refine Met.ofW (cc := cX1_aboutPerson) (maxL := 3) (ret := some .int) (by decide) rfl ?_
  intro p e s m args below meth c s₁ B hml hv
  obtain ⟨rfl, hP, hE⟩ := hv
  have hx := B.exec
  have hb := B.bytes
  have hr := B.returns
  have hts := atoms_spec (ws := wsX1_aboutPerson) B.pre
  have hown : s.vm.findClass RX1 = some m.cls := findClass_of_methodNamed B.named
  have hlocks := B.notSynchronized
  have hu : ∀ z ∈ wsX10, z.before _ s = true := fun z h => hts z (List.mem_cons_of_mem _ (List.mem_append_right _ h))
  have hl := lv_entry ([.ref (a 0), .int p1, .int p2]) (n := 3) (Nat.le_of_ble_eq_true rfl)
  rw [lg_entry_eq]
  generalize (lg_sl ([.ref (a 0), .int p1, .int p2]) ++ List.replicate (3 - (lg_sl ([.ref (a 0), .int p1, .int p2])).length) Slot.unset).toArray = ls at hl ⊢
  have hl : lv_has ls 3 [(0, .ref (a 0)), (1, .int p1), (2, .int p2)] := hl
  unfold f_X1_aboutPerson at hf
  refine lv_iload_n hx hb dX1_aboutPerson_0 rfl (lv_at hl 2 rfl) ?_
  by_cases c1_0 : p2 = 0
  · have hf := q_ite_t c1_0 hf
    refine lv_tableIn (tgt := 40) hx hb dX1_aboutPerson_1 (by rw [c1_0]; decide) (by rw [c1_0]; decide) (by rw [c1_0]; rfl) (by decide) ?_
    refine lv_aload_n hx hb dX1_aboutPerson_40 rfl (lv_at hl 0 rfl) ?_
    refine va_get (D := D) (ci := 1) (v := .ref (a 2)) (C := RX1) (T := TX1) (N := 15) hx hb hu (fun _ h => h) hown hE.1 hP 0 rfl rfl 3 (Nat.le_of_ble_eq_true rfl) (hts (.fieldLink RX1 15 "CoverMeter$State" "rosters" "[J") (List.mem_of_getElem? (i := 1) rfl)) (fun _ h9 => h9) rfl dX1_aboutPerson_41 ?_
    refine lv_iload_n hx hb dX1_aboutPerson_44 rfl (lv_at hl 1 rfl) ?_
    have hi2 := q_gd_in hf
    have hf := q_gd_go hf
    refine va_lald hx hb hE.1 hP 2 1 rfl rfl hi2 dX1_aboutPerson_45 ?_
    obtain ⟨r3, hr3, hf⟩ := q_bd_go hf
    refine q_rdSi (As := [.long (ST_rosters S (p1 : Int32).toNatClampNeg)]) (rest := []) hx hb hml hown hts (c_J13_bitCount_95d88 l D cI cJ cS (ST_rosters S (p1 : Int32).toNatClampNeg) _ hr3) (va_cwS 1 hts gX1_aboutPerson_J13_bitCount_95d88 rfl rfl rfl (by decide +kernel) ⟨(Nat.le_of_ble_eq_true rfl), (Nat.le_of_ble_eq_true rfl)⟩) hE rfl hl.1 rfl (Nat.le_of_ble_eq_true rfl) dX1_aboutPerson_46 ⟨Nat.zero_le _, Nat.zero_le _⟩ ?_
    have ho := q_some hf
    subst ho
    exact W.iret hx hb hr (fun t ht hW => ⟨rfl, ht⟩) t_nil dX1_aboutPerson_49
  have hf := q_ite_f c1_0 hf
  by_cases c1_1 : p2 = 1
  · have hf := q_ite_t c1_1 hf
    refine lv_tableIn (tgt := 50) hx hb dX1_aboutPerson_1 (by rw [c1_1]; decide) (by rw [c1_1]; decide) (by rw [c1_1]; rfl) (by decide) ?_
    refine lv_aload_n hx hb dX1_aboutPerson_50 rfl (lv_at hl 0 rfl) ?_
    refine va_get (D := D) (ci := 1) (v := .ref (a 3)) (C := RX1) (T := TX1) (N := 15) hx hb hu (fun _ h => h) hown hE.1 hP 0 rfl rfl 4 (Nat.le_of_ble_eq_true rfl) (hts (.fieldLink RX1 19 "CoverMeter$State" "away" "[J") (List.mem_of_getElem? (i := 2) rfl)) (fun _ h9 => h9) rfl dX1_aboutPerson_51 ?_
    refine lv_iload_n hx hb dX1_aboutPerson_54 rfl (lv_at hl 1 rfl) ?_
    have hi4 := q_gd_in hf
    have hf := q_gd_go hf
    refine va_lald hx hb hE.1 hP 3 1 rfl rfl hi4 dX1_aboutPerson_55 ?_
    obtain ⟨r5, hr5, hf⟩ := q_bd_go hf
    refine q_rdSi (As := [.long (ST_away S (p1 : Int32).toNatClampNeg)]) (rest := []) hx hb hml hown hts (c_J13_bitCount_95d88 l D cI cJ cS (ST_away S (p1 : Int32).toNatClampNeg) _ hr5) (va_cwS 1 hts gX1_aboutPerson_J13_bitCount_95d88 rfl rfl rfl (by decide +kernel) ⟨(Nat.le_of_ble_eq_true rfl), (Nat.le_of_ble_eq_true rfl)⟩) hE rfl hl.1 rfl (Nat.le_of_ble_eq_true rfl) dX1_aboutPerson_56 ⟨Nat.zero_le _, Nat.zero_le _⟩ ?_
    have ho := q_some hf
    subst ho
    exact W.iret hx hb hr (fun t ht hW => ⟨rfl, ht⟩) t_nil dX1_aboutPerson_59
  have hf := q_ite_f c1_1 hf
  by_cases c1_2 : p2 = 2
  · have hf := q_ite_t c1_2 hf
    refine lv_tableIn (tgt := 60) hx hb dX1_aboutPerson_1 (by rw [c1_2]; decide) (by rw [c1_2]; decide) (by rw [c1_2]; rfl) (by decide) ?_
    refine lv_aload_n hx hb dX1_aboutPerson_60 rfl (lv_at hl 0 rfl) ?_
    refine va_get (D := D) (ci := 1) (v := .ref (a 4)) (C := RX1) (T := TX1) (N := 15) hx hb hu (fun _ h => h) hown hE.1 hP 0 rfl rfl 5 (Nat.le_of_ble_eq_true rfl) (hts (.fieldLink RX1 22 "CoverMeter$State" "covering" "[J") (List.mem_of_getElem? (i := 3) rfl)) (fun _ h9 => h9) rfl dX1_aboutPerson_61 ?_
    refine lv_iload_n hx hb dX1_aboutPerson_64 rfl (lv_at hl 1 rfl) ?_
    have hi6 := q_gd_in hf
    have hf := q_gd_go hf
    refine va_lald hx hb hE.1 hP 4 1 rfl rfl hi6 dX1_aboutPerson_65 ?_
    obtain ⟨r7, hr7, hf⟩ := q_bd_go hf
    refine q_rdSi (As := [.long (ST_covering S (p1 : Int32).toNatClampNeg)]) (rest := []) hx hb hml hown hts (c_J13_bitCount_95d88 l D cI cJ cS (ST_covering S (p1 : Int32).toNatClampNeg) _ hr7) (va_cwS 1 hts gX1_aboutPerson_J13_bitCount_95d88 rfl rfl rfl (by decide +kernel) ⟨(Nat.le_of_ble_eq_true rfl), (Nat.le_of_ble_eq_true rfl)⟩) hE rfl hl.1 rfl (Nat.le_of_ble_eq_true rfl) dX1_aboutPerson_66 ⟨Nat.zero_le _, Nat.zero_le _⟩ ?_
    have ho := q_some hf
    subst ho
    exact W.iret hx hb hr (fun t ht hW => ⟨rfl, ht⟩) t_nil dX1_aboutPerson_69
  have hf := q_ite_f c1_2 hf
  by_cases c1_3 : p2 = 3
  · have hf := q_ite_t c1_3 hf
    refine lv_tableIn (tgt := 70) hx hb dX1_aboutPerson_1 (by rw [c1_3]; decide) (by rw [c1_3]; decide) (by rw [c1_3]; rfl) (by decide) ?_
    refine lv_aload_n hx hb dX1_aboutPerson_70 rfl (lv_at hl 0 rfl) ?_
    refine va_get (D := D) (ci := 1) (v := .ref (a 5)) (C := RX1) (T := TX1) (N := 15) hx hb hu (fun _ h => h) hown hE.1 hP 0 rfl rfl 6 (Nat.le_of_ble_eq_true rfl) (hts (.fieldLink RX1 25 "CoverMeter$State" "meters" "[I") (List.mem_of_getElem? (i := 4) rfl)) (fun _ h9 => h9) rfl dX1_aboutPerson_71 ?_
    refine lv_iload_n hx hb dX1_aboutPerson_74 rfl (lv_at hl 1 rfl) ?_
    have hi8 := q_gd_in hf
    have hf := q_gd_go hf
    refine va_iald hx hb hE.1 hP 5 0 rfl rfl hi8 dX1_aboutPerson_75 ?_
    have ho := q_some hf
    subst ho
    exact W.iret hx hb hr (fun t ht hW => ⟨rfl, ht⟩) t_nil dX1_aboutPerson_76
  have hf := q_ite_f c1_3 hf
  by_cases c1_4 : p2 = 4
  · have hf := q_ite_t c1_4 hf
    refine lv_tableIn (tgt := 77) hx hb dX1_aboutPerson_1 (by rw [c1_4]; decide) (by rw [c1_4]; decide) (by rw [c1_4]; rfl) (by decide) ?_
    refine lv_aload_n hx hb dX1_aboutPerson_77 rfl (lv_at hl 0 rfl) ?_
    refine va_get (D := D) (ci := 1) (v := .ref (a 6)) (C := RX1) (T := TX1) (N := 15) hx hb hu (fun _ h => h) hown hE.1 hP 0 rfl rfl 7 (Nat.le_of_ble_eq_true rfl) (hts (.fieldLink RX1 28 "CoverMeter$State" "turns" "[I") (List.mem_of_getElem? (i := 5) rfl)) (fun _ h9 => h9) rfl dX1_aboutPerson_78 ?_
    refine lv_iload_n hx hb dX1_aboutPerson_81 rfl (lv_at hl 1 rfl) ?_
    have hi9 := q_gd_in hf
    have hf := q_gd_go hf
    refine va_iald hx hb hE.1 hP 6 0 rfl rfl hi9 dX1_aboutPerson_82 ?_
    have ho := q_some hf
    subst ho
    exact W.iret hx hb hr (fun t ht hW => ⟨rfl, ht⟩) t_nil dX1_aboutPerson_83
  have hf := q_ite_f c1_4 hf
  by_cases c1_5 : p2 = 5
  · have hf := q_ite_t c1_5 hf
    refine lv_tableIn (tgt := 84) hx hb dX1_aboutPerson_1 (by rw [c1_5]; decide) (by rw [c1_5]; decide) (by rw [c1_5]; rfl) (by decide) ?_
    refine lv_aload_n hx hb dX1_aboutPerson_84 rfl (lv_at hl 0 rfl) ?_
    refine lv_iload_n hx hb dX1_aboutPerson_85 rfl (lv_at hl 1 rfl) ?_
    obtain ⟨r10, hr10, hf⟩ := q_bd_go hf
    refine q_rdVl (ci := 1) (As := [.int p1]) (rest := []) hx hb hml hown hts (c_X1_worked l D cI cJ cS a S p1 _ hr10) (cwV 1 hts gX1_aboutPerson_X1_worked rfl rfl rfl (by decide +kernel) ⟨(Nat.le_of_ble_eq_true rfl), (Nat.le_of_ble_eq_true rfl)⟩) hE hP rfl rfl rfl hl.1 rfl (Nat.le_of_ble_eq_true rfl) dX1_aboutPerson_86 ⟨Nat.zero_le _, Nat.zero_le _⟩ ?_
    obtain ⟨r11, hr11, hf⟩ := q_bd_go hf
    refine q_rdSi (As := [.long r10]) (rest := []) hx hb hml hown hts (c_J13_bitCount_95d88 l D cI cJ cS r10 _ hr11) (va_cwS 1 hts gX1_aboutPerson_J13_bitCount_95d88 rfl rfl rfl (by decide +kernel) ⟨(Nat.le_of_ble_eq_true rfl), (Nat.le_of_ble_eq_true rfl)⟩) hE rfl hl.1 rfl (Nat.le_of_ble_eq_true rfl) dX1_aboutPerson_89 ⟨Nat.zero_le _, Nat.zero_le _⟩ ?_
    have ho := q_some hf
    subst ho
    exact W.iret hx hb hr (fun t ht hW => ⟨rfl, ht⟩) t_nil dX1_aboutPerson_92
  have hf := q_ite_f c1_5 hf
  have zc1_0 := lv_neT (a := 0) c1_0 (by decide)
  have zc1_1 := lv_neT (a := 1) c1_1 (by decide)
  have zc1_2 := lv_neT (a := 2) c1_2 (by decide)
  have zc1_3 := lv_neT (a := 3) c1_3 (by decide)
  have zc1_4 := lv_neT (a := 4) c1_4 (by decide)
  have zc1_5 := lv_neT (a := 5) c1_5 (by decide)
  refine lv_tableOut (tgt := 93) hx hb dX1_aboutPerson_1 (by omega) (by decide) ?_
  refine lv_aload_n hx hb dX1_aboutPerson_93 rfl (lv_at hl 0 rfl) ?_
  refine lv_iload_n hx hb dX1_aboutPerson_94 rfl (lv_at hl 1 rfl) ?_
  obtain ⟨r12, hr12, hf⟩ := q_bd_go hf
  refine q_rdVi (ci := 1) (As := [.int p1]) (rest := []) hx hb hml hown hts (c_X1_bidsBy l D cI cJ cS a S p1 _ hr12) (cwV 1 hts gX1_aboutPerson_X1_bidsBy rfl rfl rfl (by decide +kernel) ⟨(Nat.le_of_ble_eq_true rfl), (Nat.le_of_ble_eq_true rfl)⟩) hE hP rfl rfl rfl hl.1 rfl (Nat.le_of_ble_eq_true rfl) dX1_aboutPerson_95 ⟨Nat.zero_le _, Nat.zero_le _⟩ ?_
  have ho := q_some hf
  subst ho
  exact W.iret hx hb hr (fun t ht hW => ⟨rfl, ht⟩) t_nil dX1_aboutPerson_98
def f_X1_aboutAbsence (S : ST) (p1 : Int32) (p2 : Int32) : Option Int32 := if p2 = 0 then
 (if q_in p1 30 = true then
 (some (ST_absentees S (p1 : Int32).toNatClampNeg)) else none)
 else (if p2 = 1 then
 (if q_in p1 30 = true then
 (some (ST_shifts S (p1 : Int32).toNatClampNeg)) else none)
 else (if p2 = 2 then
 (if q_in p1 30 = true then
 (some (ST_statuses S (p1 : Int32).toNatClampNeg)) else none)
 else (if p2 = 3 then
 (if q_in p1 30 = true then
 (some (ST_coverers S (p1 : Int32).toNatClampNeg)) else none)
 else (if p2 = 4 then
 (if q_in p1 30 = true then
 (some (ST_points S (p1 : Int32).toNatClampNeg)) else none)
 else (if p2 = 5 then
 ((f_X1_bidsFor S p1).bind fun r7 =>
 some r7)
 else ((f_X1_personsWhoCanCover S p1).bind fun r8 =>
 some r8))))))
abbrev rX1_aboutAbsence : Room := { frames := 3, cells := 0, slots := 0, locals := 74 }
set_option maxRecDepth 100000 in
set_option maxHeartbeats 4000000 in
theorem c_X1_aboutAbsence (l : Launch) (D : va_G) (cI cJ cS : ClassId) (a : Nat → Nat) (S : ST) (p1 : Int32) (p2 : Int32) (o : Int32) (hf : f_X1_aboutAbsence S p1 p2 = some o) : Met l yX1_aboutAbsence wsX1_aboutAbsence rX1_aboutAbsence (va_Pc [.ref (a 0), .int p1, .int p2] (q_B D cI cJ cS (wST cI cJ a S))) (q_Ri o) 0 0 (fun _ => False) := by
  refine Met.ofW (cc := cX1_aboutAbsence) (maxL := 3) (ret := some .int) (by decide) rfl ?_
  intro p e s m args below meth c s₁ B hml hv
  obtain ⟨rfl, hP, hE⟩ := hv
  have hx := B.exec
  have hb := B.bytes
  have hr := B.returns
  have hts := atoms_spec (ws := wsX1_aboutAbsence) B.pre
  have hown : s.vm.findClass RX1 = some m.cls := findClass_of_methodNamed B.named
  have hlocks := B.notSynchronized
  have hu : ∀ z ∈ wsX10, z.before _ s = true := fun z h => hts z (List.mem_cons_of_mem _ (List.mem_append_right _ h))
  have hl := lv_entry ([.ref (a 0), .int p1, .int p2]) (n := 3) (Nat.le_of_ble_eq_true rfl)
  rw [lg_entry_eq]
  generalize (lg_sl ([.ref (a 0), .int p1, .int p2]) ++ List.replicate (3 - (lg_sl ([.ref (a 0), .int p1, .int p2])).length) Slot.unset).toArray = ls at hl ⊢
  have hl : lv_has ls 3 [(0, .ref (a 0)), (1, .int p1), (2, .int p2)] := hl
  unfold f_X1_aboutAbsence at hf
  refine lv_iload_n hx hb dX1_aboutAbsence_0 rfl (lv_at hl 2 rfl) ?_
  by_cases c1_0 : p2 = 0
  · have hf := q_ite_t c1_0 hf
    refine lv_tableIn (tgt := 40) hx hb dX1_aboutAbsence_1 (by rw [c1_0]; decide) (by rw [c1_0]; decide) (by rw [c1_0]; rfl) (by decide) ?_
    refine lv_aload_n hx hb dX1_aboutAbsence_40 rfl (lv_at hl 0 rfl) ?_
    refine va_get (D := D) (ci := 1) (v := .ref (a 7)) (C := RX1) (T := TX1) (N := 15) hx hb hu (fun _ h => h) hown hE.1 hP 0 rfl rfl 9 (Nat.le_of_ble_eq_true rfl) (hts (.fieldLink RX1 31 "CoverMeter$State" "absentees" "[I") (List.mem_of_getElem? (i := 1) rfl)) (fun _ h9 => h9) rfl dX1_aboutAbsence_41 ?_
    refine lv_iload_n hx hb dX1_aboutAbsence_44 rfl (lv_at hl 1 rfl) ?_
    have hi2 := q_gd_in hf
    have hf := q_gd_go hf
    refine va_iald hx hb hE.1 hP 7 0 rfl rfl hi2 dX1_aboutAbsence_45 ?_
    have ho := q_some hf
    subst ho
    exact W.iret hx hb hr (fun t ht hW => ⟨rfl, ht⟩) t_nil dX1_aboutAbsence_46
  have hf := q_ite_f c1_0 hf
  by_cases c1_1 : p2 = 1
  · have hf := q_ite_t c1_1 hf
    refine lv_tableIn (tgt := 47) hx hb dX1_aboutAbsence_1 (by rw [c1_1]; decide) (by rw [c1_1]; decide) (by rw [c1_1]; rfl) (by decide) ?_
    refine lv_aload_n hx hb dX1_aboutAbsence_47 rfl (lv_at hl 0 rfl) ?_
    refine va_get (D := D) (ci := 1) (v := .ref (a 8)) (C := RX1) (T := TX1) (N := 15) hx hb hu (fun _ h => h) hown hE.1 hP 0 rfl rfl 10 (Nat.le_of_ble_eq_true rfl) (hts (.fieldLink RX1 34 "CoverMeter$State" "shifts" "[I") (List.mem_of_getElem? (i := 2) rfl)) (fun _ h9 => h9) rfl dX1_aboutAbsence_48 ?_
    refine lv_iload_n hx hb dX1_aboutAbsence_51 rfl (lv_at hl 1 rfl) ?_
    have hi3 := q_gd_in hf
    have hf := q_gd_go hf
    refine va_iald hx hb hE.1 hP 8 0 rfl rfl hi3 dX1_aboutAbsence_52 ?_
    have ho := q_some hf
    subst ho
    exact W.iret hx hb hr (fun t ht hW => ⟨rfl, ht⟩) t_nil dX1_aboutAbsence_53
  have hf := q_ite_f c1_1 hf
  by_cases c1_2 : p2 = 2
  · have hf := q_ite_t c1_2 hf
    refine lv_tableIn (tgt := 54) hx hb dX1_aboutAbsence_1 (by rw [c1_2]; decide) (by rw [c1_2]; decide) (by rw [c1_2]; rfl) (by decide) ?_
    refine lv_aload_n hx hb dX1_aboutAbsence_54 rfl (lv_at hl 0 rfl) ?_
    refine va_get (D := D) (ci := 1) (v := .ref (a 9)) (C := RX1) (T := TX1) (N := 15) hx hb hu (fun _ h => h) hown hE.1 hP 0 rfl rfl 11 (Nat.le_of_ble_eq_true rfl) (hts (.fieldLink RX1 37 "CoverMeter$State" "statuses" "[I") (List.mem_of_getElem? (i := 3) rfl)) (fun _ h9 => h9) rfl dX1_aboutAbsence_55 ?_
    refine lv_iload_n hx hb dX1_aboutAbsence_58 rfl (lv_at hl 1 rfl) ?_
    have hi4 := q_gd_in hf
    have hf := q_gd_go hf
    refine va_iald hx hb hE.1 hP 9 0 rfl rfl hi4 dX1_aboutAbsence_59 ?_
    have ho := q_some hf
    subst ho
    exact W.iret hx hb hr (fun t ht hW => ⟨rfl, ht⟩) t_nil dX1_aboutAbsence_60
  have hf := q_ite_f c1_2 hf
  by_cases c1_3 : p2 = 3
  · have hf := q_ite_t c1_3 hf
    refine lv_tableIn (tgt := 61) hx hb dX1_aboutAbsence_1 (by rw [c1_3]; decide) (by rw [c1_3]; decide) (by rw [c1_3]; rfl) (by decide) ?_
    refine lv_aload_n hx hb dX1_aboutAbsence_61 rfl (lv_at hl 0 rfl) ?_
    refine va_get (D := D) (ci := 1) (v := .ref (a 10)) (C := RX1) (T := TX1) (N := 15) hx hb hu (fun _ h => h) hown hE.1 hP 0 rfl rfl 12 (Nat.le_of_ble_eq_true rfl) (hts (.fieldLink RX1 40 "CoverMeter$State" "coverers" "[I") (List.mem_of_getElem? (i := 4) rfl)) (fun _ h9 => h9) rfl dX1_aboutAbsence_62 ?_
    refine lv_iload_n hx hb dX1_aboutAbsence_65 rfl (lv_at hl 1 rfl) ?_
    have hi5 := q_gd_in hf
    have hf := q_gd_go hf
    refine va_iald hx hb hE.1 hP 10 0 rfl rfl hi5 dX1_aboutAbsence_66 ?_
    have ho := q_some hf
    subst ho
    exact W.iret hx hb hr (fun t ht hW => ⟨rfl, ht⟩) t_nil dX1_aboutAbsence_67
  have hf := q_ite_f c1_3 hf
  by_cases c1_4 : p2 = 4
  · have hf := q_ite_t c1_4 hf
    refine lv_tableIn (tgt := 68) hx hb dX1_aboutAbsence_1 (by rw [c1_4]; decide) (by rw [c1_4]; decide) (by rw [c1_4]; rfl) (by decide) ?_
    refine lv_aload_n hx hb dX1_aboutAbsence_68 rfl (lv_at hl 0 rfl) ?_
    refine va_get (D := D) (ci := 1) (v := .ref (a 11)) (C := RX1) (T := TX1) (N := 15) hx hb hu (fun _ h => h) hown hE.1 hP 0 rfl rfl 13 (Nat.le_of_ble_eq_true rfl) (hts (.fieldLink RX1 43 "CoverMeter$State" "points" "[I") (List.mem_of_getElem? (i := 5) rfl)) (fun _ h9 => h9) rfl dX1_aboutAbsence_69 ?_
    refine lv_iload_n hx hb dX1_aboutAbsence_72 rfl (lv_at hl 1 rfl) ?_
    have hi6 := q_gd_in hf
    have hf := q_gd_go hf
    refine va_iald hx hb hE.1 hP 11 0 rfl rfl hi6 dX1_aboutAbsence_73 ?_
    have ho := q_some hf
    subst ho
    exact W.iret hx hb hr (fun t ht hW => ⟨rfl, ht⟩) t_nil dX1_aboutAbsence_74
  have hf := q_ite_f c1_4 hf
  by_cases c1_5 : p2 = 5
  · have hf := q_ite_t c1_5 hf
    refine lv_tableIn (tgt := 75) hx hb dX1_aboutAbsence_1 (by rw [c1_5]; decide) (by rw [c1_5]; decide) (by rw [c1_5]; rfl) (by decide) ?_
    refine lv_aload_n hx hb dX1_aboutAbsence_75 rfl (lv_at hl 0 rfl) ?_
    refine lv_iload_n hx hb dX1_aboutAbsence_76 rfl (lv_at hl 1 rfl) ?_
    obtain ⟨r7, hr7, hf⟩ := q_bd_go hf
    refine q_rdVi (ci := 1) (As := [.int p1]) (rest := []) hx hb hml hown hts (c_X1_bidsFor l D cI cJ cS a S p1 _ hr7) (cwV 1 hts gX1_aboutAbsence_X1_bidsFor rfl rfl rfl (by decide +kernel) ⟨(Nat.le_of_ble_eq_true rfl), (Nat.le_of_ble_eq_true rfl)⟩) hE hP rfl rfl rfl hl.1 rfl (Nat.le_of_ble_eq_true rfl) dX1_aboutAbsence_77 ⟨Nat.zero_le _, Nat.zero_le _⟩ ?_
    have ho := q_some hf
    subst ho
    exact W.iret hx hb hr (fun t ht hW => ⟨rfl, ht⟩) t_nil dX1_aboutAbsence_80
  have hf := q_ite_f c1_5 hf
  have zc1_0 := lv_neT (a := 0) c1_0 (by decide)
  have zc1_1 := lv_neT (a := 1) c1_1 (by decide)
  have zc1_2 := lv_neT (a := 2) c1_2 (by decide)
  have zc1_3 := lv_neT (a := 3) c1_3 (by decide)
  have zc1_4 := lv_neT (a := 4) c1_4 (by decide)
  have zc1_5 := lv_neT (a := 5) c1_5 (by decide)
  refine lv_tableOut (tgt := 81) hx hb dX1_aboutAbsence_1 (by omega) (by decide) ?_
  refine lv_aload_n hx hb dX1_aboutAbsence_81 rfl (lv_at hl 0 rfl) ?_
  refine lv_iload_n hx hb dX1_aboutAbsence_82 rfl (lv_at hl 1 rfl) ?_
  obtain ⟨r8, hr8, hf⟩ := q_bd_go hf
  refine q_rdVi (ci := 1) (As := [.int p1]) (rest := []) hx hb hml hown hts (c_X1_personsWhoCanCover l D cI cJ cS a S p1 _ hr8) (cwV 1 hts gX1_aboutAbsence_X1_personsWhoCanCover rfl rfl rfl (by decide +kernel) ⟨(Nat.le_of_ble_eq_true rfl), (Nat.le_of_ble_eq_true rfl)⟩) hE hP rfl rfl rfl hl.1 rfl (Nat.le_of_ble_eq_true rfl) dX1_aboutAbsence_83 ⟨Nat.zero_le _, Nat.zero_le _⟩ ?_
  have ho := q_some hf
  subst ho
  exact W.iret hx hb hr (fun t ht hW => ⟨rfl, ht⟩) t_nil dX1_aboutAbsence_86
def f_X1_countOf_4 (S : ST) : Nat → Int32 → Int32 → Int32 → Option Int32
  | 0, _, _, _ => none
  | n+1, l1, l2, l3 => if (ST_absences S) ≤ l3 then
 (some l2)
 else (if q_in l3 30 = true then
 (if ¬ (ST_statuses S (l3 : Int32).toNatClampNeg) = l1 then
 (q_let (l3 + 1) fun v4 =>
 f_X1_countOf_4 S n l1 l2 v4)
 else (q_let (l2 + 1) fun v5 =>
 q_let (l3 + 1) fun v6 =>
 f_X1_countOf_4 S n l1 v5 v6)) else none)
def f_X1_countOf (S : ST) (p1 : Int32) : Option Int32 := f_X1_countOf_4 S 2000 p1 0 0
abbrev rX1_countOf : Room := { frames := 0, cells := 0, slots := 0, locals := 0 }
set_option maxRecDepth 100000 in
set_option maxHeartbeats 4000000 in
theorem c_X1_countOf (l : Launch) (D : va_G) (cI cJ cS : ClassId) (a : Nat → Nat) (S : ST) (p1 : Int32) (o : Int32) (hf : f_X1_countOf S p1 = some o) : Met l yX1_countOf wsX1_countOf rX1_countOf (va_Pc [.ref (a 0), .int p1] (q_B D cI cJ cS (wST cI cJ a S))) (q_Ri o) 0 0 (fun _ => False) := by
  refine Met.ofW (cc := cX1_countOf) (maxL := 4) (ret := some .int) (by decide) rfl ?_
  intro p e s m args below meth c s₁ B hml hv
  obtain ⟨rfl, hP, hE⟩ := hv
  have hx := B.exec
  have hb := B.bytes
  have hr := B.returns
  have hts := atoms_spec (ws := wsX1_countOf) B.pre
  have hown : s.vm.findClass RX1 = some m.cls := findClass_of_methodNamed B.named
  have hlocks := B.notSynchronized
  have hu : ∀ z ∈ wsX10, z.before _ s = true := fun z h => hts z (List.mem_cons_of_mem _ (List.mem_append_right _ h))
  have L_4 : ∀ (n : Nat) (l1 : Int32) (l2 : Int32) (l3 : Int32) (ls : Array Slot), lv_has ls 4 [(0, .ref (a 0)), (1, .int l1), (2, .int l2), (3, .int l3)] → f_X1_countOf_4 S n l1 l2 l3 = some o → W p l e (headSpec wsX1_countOf rX1_countOf).room s m (([.ref (a 0), .int p1] : List Value).toArray) below meth c s.heap [] 0 0 (MQ below (q_Ri o) (([.ref (a 0), .int p1] : List Value).toArray) s 0 0 (fun _ => False)) (F0 m 4 ls []) := by
    intro n
    induction n with
    | zero => intro l1 l2 l3 ls hl hf; cases hf
    | succ n ih =>
      intro l1 l2 l3 ls hl hf
      rw [f_X1_countOf_4] at hf
      refine lv_iload_n hx hb dX1_countOf_4 rfl (lv_at hl 3 rfl) ?_
      refine lv_aload_n hx hb dX1_countOf_5 rfl (lv_at hl 0 rfl) ?_
      refine va_get (D := D) (ci := 1) (v := .int (ST_absences S)) (C := RX1) (T := TX1) (N := 15) hx hb hu (fun _ h => h) hown hE.1 hP 0 rfl rfl 8 (Nat.le_of_ble_eq_true rfl) (hts (.fieldLink RX1 65 "CoverMeter$State" "absences" "I") (List.mem_of_getElem? (i := 1) rfl)) (fun _ h9 => h9) rfl dX1_countOf_6 ?_
      refine lv_icmp_ge (tgt := 31) hx hb dX1_countOf_9 (by decide) (fun c1 => ?_) (fun c1 => ?_)
      · have hf := q_ite_t c1 hf
        refine lv_iload_n hx hb dX1_countOf_31 rfl (lv_at hl 2 rfl) ?_
        have ho := q_some hf
        subst ho
        exact W.iret hx hb hr (fun t ht hW => ⟨rfl, ht⟩) t_nil dX1_countOf_32
      · have hf := q_ite_f c1 hf
        refine lv_aload_n hx hb dX1_countOf_12 rfl (lv_at hl 0 rfl) ?_
        refine va_get (D := D) (ci := 1) (v := .ref (a 9)) (C := RX1) (T := TX1) (N := 15) hx hb hu (fun _ h => h) hown hE.1 hP 0 rfl rfl 11 (Nat.le_of_ble_eq_true rfl) (hts (.fieldLink RX1 37 "CoverMeter$State" "statuses" "[I") (List.mem_of_getElem? (i := 2) rfl)) (fun _ h9 => h9) rfl dX1_countOf_13 ?_
        refine lv_iload_n hx hb dX1_countOf_16 rfl (lv_at hl 3 rfl) ?_
        have hi2 := q_gd_in hf
        have hf := q_gd_go hf
        refine va_iald hx hb hE.1 hP 9 0 rfl rfl hi2 dX1_countOf_17 ?_
        refine lv_iload_n hx hb dX1_countOf_18 rfl (lv_at hl 1 rfl) ?_
        refine lv_icmp_ne (tgt := 25) hx hb dX1_countOf_19 (by decide) (fun c3 => ?_) (fun c3 => ?_)
        · have hf := q_ite_t c3 hf
          obtain ⟨v4, ev4, hf⟩ := q_let_go hf
          refine lv_iinc (v := v4) (lv' := [(3, .int v4), (0, .ref (a 0)), (1, .int l1), (2, .int l2)]) hx hb dX1_countOf_25 hl (k := 3) rfl (by rw [← ev4]; rfl) (by decide) rfl (fun ls hl => ?_)
          refine lv_goto (tgt := 4) hx hb dX1_countOf_28 (by decide) ?_
          exact ih l1 l2 v4 _ (lv_sub hl [1, 2, 3, 0] rfl) hf
        · have hf := q_ite_n c3 hf
          obtain ⟨v5, ev5, hf⟩ := q_let_go hf
          refine lv_iinc (v := v5) (lv' := [(2, .int v5), (0, .ref (a 0)), (1, .int l1), (3, .int l3)]) hx hb dX1_countOf_22 hl (k := 2) rfl (by rw [← ev5]; rfl) (by decide) rfl (fun ls hl => ?_)
          obtain ⟨v6, ev6, hf⟩ := q_let_go hf
          refine lv_iinc (v := v6) (lv' := [(3, .int v6), (2, .int v5), (0, .ref (a 0)), (1, .int l1)]) hx hb dX1_countOf_25 hl (k := 3) rfl (by rw [← ev6]; rfl) (by decide) rfl (fun ls hl => ?_)
          refine lv_goto (tgt := 4) hx hb dX1_countOf_28 (by decide) ?_
          exact ih l1 v5 v6 _ (lv_sub hl [2, 3, 1, 0] rfl) hf
  have hl := lv_entry ([.ref (a 0), .int p1]) (n := 4) (Nat.le_of_ble_eq_true rfl)
  rw [lg_entry_eq]
  generalize (lg_sl ([.ref (a 0), .int p1]) ++ List.replicate (4 - (lg_sl ([.ref (a 0), .int p1])).length) Slot.unset).toArray = ls at hl ⊢
  have hl : lv_has ls 4 [(0, .ref (a 0)), (1, .int p1)] := hl
  unfold f_X1_countOf at hf
  refine lv_iconst (v := 0) hx hb dX1_countOf_0 (by decide) ?_
  refine lv_istore_n (lv' := [(2, .int 0), (0, .ref (a 0)), (1, .int p1)]) hx hb dX1_countOf_1 rfl hl (by decide) rfl (fun ls hl => ?_)
  refine lv_iconst (v := 0) hx hb dX1_countOf_2 (by decide) ?_
  refine lv_istore_n (lv' := [(3, .int 0), (2, .int 0), (0, .ref (a 0)), (1, .int p1)]) hx hb dX1_countOf_3 rfl hl (by decide) rfl (fun ls hl => ?_)
  exact L_4 2000 p1 0 0 _ (lv_sub hl [2, 3, 1, 0] rfl) hf
def f_X1_greatestMeter_18 (S : ST) : Nat → Int32 → Int32 → Option Int32
  | 0, _, _ => none
  | n+1, l1, l2 => if (ST_persons S) ≤ l2 then
 (some l1)
 else (if q_in l2 8 = true then
 (q_let ((if l1 < (ST_meters S (l2 : Int32).toNatClampNeg) then (ST_meters S (l2 : Int32).toNatClampNeg) else l1)) fun v6 =>
 q_let (l2 + 1) fun v7 =>
 f_X1_greatestMeter_18 S n v6 v7) else none)
def f_X1_greatestMeter (S : ST) : Option Int32 := if ¬ (ST_persons S) = 0 then
 (if q_in 0 8 = true then
 (q_let ((ST_meters S (0 : Int32).toNatClampNeg)) fun v3 =>
 f_X1_greatestMeter_18 S 2000 v3 1) else none)
 else (some (-1))
abbrev rX1_greatestMeter : Room := { frames := 1, cells := 0, slots := 0, locals := 21 }
set_option maxRecDepth 100000 in
set_option maxHeartbeats 4000000 in
theorem c_X1_greatestMeter (l : Launch) (D : va_G) (cI cJ cS : ClassId) (a : Nat → Nat) (S : ST) (o : Int32) (hf : f_X1_greatestMeter S = some o) : Met l yX1_greatestMeter wsX1_greatestMeter rX1_greatestMeter (va_Pc [.ref (a 0)] (q_B D cI cJ cS (wST cI cJ a S))) (q_Ri o) 0 0 (fun _ => False) := by
  refine Met.ofW (cc := cX1_greatestMeter) (maxL := 3) (ret := some .int) (by decide) rfl ?_
  intro p e s m args below meth c s₁ B hml hv
  obtain ⟨rfl, hP, hE⟩ := hv
  have hx := B.exec
  have hb := B.bytes
  have hr := B.returns
  have hts := atoms_spec (ws := wsX1_greatestMeter) B.pre
  have hown : s.vm.findClass RX1 = some m.cls := findClass_of_methodNamed B.named
  have hlocks := B.notSynchronized
  have hu : ∀ z ∈ wsX10, z.before _ s = true := fun z h => hts z (List.mem_cons_of_mem _ (List.mem_append_right _ h))
  have L_18 : ∀ (n : Nat) (l1 : Int32) (l2 : Int32) (ls : Array Slot), lv_has ls 3 [(0, .ref (a 0)), (1, .int l1), (2, .int l2)] → f_X1_greatestMeter_18 S n l1 l2 = some o → W p l e (headSpec wsX1_greatestMeter rX1_greatestMeter).room s m (([.ref (a 0)] : List Value).toArray) below meth c s.heap [] 0 0 (MQ below (q_Ri o) (([.ref (a 0)] : List Value).toArray) s 0 0 (fun _ => False)) (F0 m 18 ls []) := by
    intro n
    induction n with
    | zero => intro l1 l2 ls hl hf; cases hf
    | succ n ih =>
      intro l1 l2 ls hl hf
      rw [f_X1_greatestMeter_18] at hf
      refine lv_iload_n hx hb dX1_greatestMeter_18 rfl (lv_at hl 2 rfl) ?_
      refine lv_aload_n hx hb dX1_greatestMeter_19 rfl (lv_at hl 0 rfl) ?_
      refine va_get (D := D) (ci := 1) (v := .int (ST_persons S)) (C := RX1) (T := TX1) (N := 15) hx hb hu (fun _ h => h) hown hE.1 hP 0 rfl rfl 2 (Nat.le_of_ble_eq_true rfl) (hts (.fieldLink RX1 62 "CoverMeter$State" "persons" "I") (List.mem_of_getElem? (i := 1) rfl)) (fun _ h9 => h9) rfl dX1_greatestMeter_20 ?_
      refine lv_icmp_ge (tgt := 43) hx hb dX1_greatestMeter_23 (by decide) (fun c4 => ?_) (fun c4 => ?_)
      · have hf := q_ite_t c4 hf
        refine lv_iload_n hx hb dX1_greatestMeter_43 rfl (lv_at hl 1 rfl) ?_
        have ho := q_some hf
        subst ho
        exact W.iret hx hb hr (fun t ht hW => ⟨rfl, ht⟩) t_nil dX1_greatestMeter_44
      · have hf := q_ite_f c4 hf
        refine lv_iload_n hx hb dX1_greatestMeter_26 rfl (lv_at hl 1 rfl) ?_
        refine lv_aload_n hx hb dX1_greatestMeter_27 rfl (lv_at hl 0 rfl) ?_
        refine va_get (D := D) (ci := 1) (v := .ref (a 5)) (C := RX1) (T := TX1) (N := 15) hx hb hu (fun _ h => h) hown hE.1 hP 0 rfl rfl 6 (Nat.le_of_ble_eq_true rfl) (hts (.fieldLink RX1 25 "CoverMeter$State" "meters" "[I") (List.mem_of_getElem? (i := 2) rfl)) (fun _ h9 => h9) rfl dX1_greatestMeter_28 ?_
        refine lv_iload_n hx hb dX1_greatestMeter_31 rfl (lv_at hl 2 rfl) ?_
        have hi5 := q_gd_in hf
        have hf := q_gd_go hf
        refine va_iald hx hb hE.1 hP 5 0 rfl rfl hi5 dX1_greatestMeter_32 ?_
        refine va_mmax hx hb (hml.trans hl.1.symm) hown (hts (.methodLink RX1 141 Lib.Math.max.name) (List.mem_of_getElem? (i := 3) rfl)) (hts (.static Lib.Math.max.name) (List.mem_of_getElem? (i := 4) rfl)) (hts (.initialized "java/lang/Math") (List.mem_of_getElem? (i := 5) rfl)) (hts (.code Lib.Math.max.name Lib.Math.max.code 2 (some .int)) (List.mem_of_getElem? (i := 6) rfl)) (Nat.le_of_ble_eq_true rfl) (Nat.le_of_ble_eq_true rfl) (Nat.zero_le _) (Nat.zero_le _) dX1_greatestMeter_33 ?_
        obtain ⟨v6, ev6, hf⟩ := q_let_go hf
        refine q_nmi ev6 ?_
        refine lv_istore_n (lv' := [(1, .int v6), (0, .ref (a 0)), (2, .int l2)]) hx hb dX1_greatestMeter_36 rfl hl (by decide) rfl (fun ls hl => ?_)
        obtain ⟨v7, ev7, hf⟩ := q_let_go hf
        refine lv_iinc (v := v7) (lv' := [(2, .int v7), (1, .int v6), (0, .ref (a 0))]) hx hb dX1_greatestMeter_37 hl (k := 2) rfl (by rw [← ev7]; rfl) (by decide) rfl (fun ls hl => ?_)
        refine lv_goto (tgt := 18) hx hb dX1_greatestMeter_40 (by decide) ?_
        exact ih v6 v7 _ (lv_sub hl [2, 1, 0] rfl) hf
  have hl := lv_entry ([.ref (a 0)]) (n := 3) (Nat.le_of_ble_eq_true rfl)
  rw [lg_entry_eq]
  generalize (lg_sl ([.ref (a 0)]) ++ List.replicate (3 - (lg_sl ([.ref (a 0)])).length) Slot.unset).toArray = ls at hl ⊢
  have hl : lv_has ls 3 [(0, .ref (a 0))] := hl
  unfold f_X1_greatestMeter at hf
  refine lv_aload_n hx hb dX1_greatestMeter_0 rfl (lv_at hl 0 rfl) ?_
  refine va_get (D := D) (ci := 1) (v := .int (ST_persons S)) (C := RX1) (T := TX1) (N := 15) hx hb hu (fun _ h => h) hown hE.1 hP 0 rfl rfl 2 (Nat.le_of_ble_eq_true rfl) (hts (.fieldLink RX1 62 "CoverMeter$State" "persons" "I") (List.mem_of_getElem? (i := 1) rfl)) (fun _ h9 => h9) rfl dX1_greatestMeter_1 ?_
  refine lv_if_ne (tgt := 9) hx hb dX1_greatestMeter_4 (by decide) (fun c1 => ?_) (fun c1 => ?_)
  · have hf := q_ite_t c1 hf
    refine lv_aload_n hx hb dX1_greatestMeter_9 rfl (lv_at hl 0 rfl) ?_
    refine va_get (D := D) (ci := 1) (v := .ref (a 5)) (C := RX1) (T := TX1) (N := 15) hx hb hu (fun _ h => h) hown hE.1 hP 0 rfl rfl 6 (Nat.le_of_ble_eq_true rfl) (hts (.fieldLink RX1 25 "CoverMeter$State" "meters" "[I") (List.mem_of_getElem? (i := 2) rfl)) (fun _ h9 => h9) rfl dX1_greatestMeter_10 ?_
    refine lv_iconst (v := 0) hx hb dX1_greatestMeter_13 (by decide) ?_
    have hi2 := q_gd_in hf
    have hf := q_gd_go hf
    refine va_iald hx hb hE.1 hP 5 0 rfl rfl hi2 dX1_greatestMeter_14 ?_
    obtain ⟨v3, ev3, hf⟩ := q_let_go hf
    refine q_nmi ev3 ?_
    refine lv_istore_n (lv' := [(1, .int v3), (0, .ref (a 0))]) hx hb dX1_greatestMeter_15 rfl hl (by decide) rfl (fun ls hl => ?_)
    refine lv_iconst (v := 1) hx hb dX1_greatestMeter_16 (by decide) ?_
    refine lv_istore_n (lv' := [(2, .int 1), (1, .int v3), (0, .ref (a 0))]) hx hb dX1_greatestMeter_17 rfl hl (by decide) rfl (fun ls hl => ?_)
    exact L_18 2000 v3 1 _ (lv_sub hl [2, 1, 0] rfl) hf
  · have hf := q_ite_n c1 hf
    refine lv_iconst (v := (-1)) hx hb dX1_greatestMeter_7 (by decide) ?_
    have ho := q_some hf
    subst ho
    exact W.iret hx hb hr (fun t ht hW => ⟨rfl, ht⟩) t_nil dX1_greatestMeter_8
def f_X1_lowestMeter_18 (S : ST) : Nat → Int32 → Int32 → Option Int32
  | 0, _, _ => none
  | n+1, l1, l2 => if (ST_persons S) ≤ l2 then
 (some l1)
 else (if q_in l2 8 = true then
 (q_let ((if (ST_meters S (l2 : Int32).toNatClampNeg) < l1 then (ST_meters S (l2 : Int32).toNatClampNeg) else l1)) fun v6 =>
 q_let (l2 + 1) fun v7 =>
 f_X1_lowestMeter_18 S n v6 v7) else none)
def f_X1_lowestMeter (S : ST) : Option Int32 := if ¬ (ST_persons S) = 0 then
 (if q_in 0 8 = true then
 (q_let ((ST_meters S (0 : Int32).toNatClampNeg)) fun v3 =>
 f_X1_lowestMeter_18 S 2000 v3 1) else none)
 else (some (-1))
abbrev rX1_lowestMeter : Room := { frames := 1, cells := 0, slots := 0, locals := 21 }
set_option maxRecDepth 100000 in
set_option maxHeartbeats 4000000 in
theorem c_X1_lowestMeter (l : Launch) (D : va_G) (cI cJ cS : ClassId) (a : Nat → Nat) (S : ST) (o : Int32) (hf : f_X1_lowestMeter S = some o) : Met l yX1_lowestMeter wsX1_lowestMeter rX1_lowestMeter (va_Pc [.ref (a 0)] (q_B D cI cJ cS (wST cI cJ a S))) (q_Ri o) 0 0 (fun _ => False) := by
  refine Met.ofW (cc := cX1_lowestMeter) (maxL := 3) (ret := some .int) (by decide) rfl ?_
  intro p e s m args below meth c s₁ B hml hv
  obtain ⟨rfl, hP, hE⟩ := hv
  have hx := B.exec
  have hb := B.bytes
  have hr := B.returns
  have hts := atoms_spec (ws := wsX1_lowestMeter) B.pre
  have hown : s.vm.findClass RX1 = some m.cls := findClass_of_methodNamed B.named
  have hlocks := B.notSynchronized
  have hu : ∀ z ∈ wsX10, z.before _ s = true := fun z h => hts z (List.mem_cons_of_mem _ (List.mem_append_right _ h))
  have L_18 : ∀ (n : Nat) (l1 : Int32) (l2 : Int32) (ls : Array Slot), lv_has ls 3 [(0, .ref (a 0)), (1, .int l1), (2, .int l2)] → f_X1_lowestMeter_18 S n l1 l2 = some o → W p l e (headSpec wsX1_lowestMeter rX1_lowestMeter).room s m (([.ref (a 0)] : List Value).toArray) below meth c s.heap [] 0 0 (MQ below (q_Ri o) (([.ref (a 0)] : List Value).toArray) s 0 0 (fun _ => False)) (F0 m 18 ls []) := by
    intro n
    induction n with
    | zero => intro l1 l2 ls hl hf; cases hf
    | succ n ih =>
      intro l1 l2 ls hl hf
      rw [f_X1_lowestMeter_18] at hf
      refine lv_iload_n hx hb dX1_lowestMeter_18 rfl (lv_at hl 2 rfl) ?_
      refine lv_aload_n hx hb dX1_lowestMeter_19 rfl (lv_at hl 0 rfl) ?_
      refine va_get (D := D) (ci := 1) (v := .int (ST_persons S)) (C := RX1) (T := TX1) (N := 15) hx hb hu (fun _ h => h) hown hE.1 hP 0 rfl rfl 2 (Nat.le_of_ble_eq_true rfl) (hts (.fieldLink RX1 62 "CoverMeter$State" "persons" "I") (List.mem_of_getElem? (i := 1) rfl)) (fun _ h9 => h9) rfl dX1_lowestMeter_20 ?_
      refine lv_icmp_ge (tgt := 43) hx hb dX1_lowestMeter_23 (by decide) (fun c4 => ?_) (fun c4 => ?_)
      · have hf := q_ite_t c4 hf
        refine lv_iload_n hx hb dX1_lowestMeter_43 rfl (lv_at hl 1 rfl) ?_
        have ho := q_some hf
        subst ho
        exact W.iret hx hb hr (fun t ht hW => ⟨rfl, ht⟩) t_nil dX1_lowestMeter_44
      · have hf := q_ite_f c4 hf
        refine lv_iload_n hx hb dX1_lowestMeter_26 rfl (lv_at hl 1 rfl) ?_
        refine lv_aload_n hx hb dX1_lowestMeter_27 rfl (lv_at hl 0 rfl) ?_
        refine va_get (D := D) (ci := 1) (v := .ref (a 5)) (C := RX1) (T := TX1) (N := 15) hx hb hu (fun _ h => h) hown hE.1 hP 0 rfl rfl 6 (Nat.le_of_ble_eq_true rfl) (hts (.fieldLink RX1 25 "CoverMeter$State" "meters" "[I") (List.mem_of_getElem? (i := 2) rfl)) (fun _ h9 => h9) rfl dX1_lowestMeter_28 ?_
        refine lv_iload_n hx hb dX1_lowestMeter_31 rfl (lv_at hl 2 rfl) ?_
        have hi5 := q_gd_in hf
        have hf := q_gd_go hf
        refine va_iald hx hb hE.1 hP 5 0 rfl rfl hi5 dX1_lowestMeter_32 ?_
        refine va_mmin hx hb (hml.trans hl.1.symm) hown (hts (.methodLink RX1 146 Lib.Math.min.name) (List.mem_of_getElem? (i := 3) rfl)) (hts (.static Lib.Math.min.name) (List.mem_of_getElem? (i := 4) rfl)) (hts (.initialized "java/lang/Math") (List.mem_of_getElem? (i := 5) rfl)) (hts (.code Lib.Math.min.name Lib.Math.min.code 2 (some .int)) (List.mem_of_getElem? (i := 6) rfl)) (Nat.le_of_ble_eq_true rfl) (Nat.le_of_ble_eq_true rfl) (Nat.zero_le _) (Nat.zero_le _) dX1_lowestMeter_33 ?_
        obtain ⟨v6, ev6, hf⟩ := q_let_go hf
        refine q_nmi ev6 ?_
        refine lv_istore_n (lv' := [(1, .int v6), (0, .ref (a 0)), (2, .int l2)]) hx hb dX1_lowestMeter_36 rfl hl (by decide) rfl (fun ls hl => ?_)
        obtain ⟨v7, ev7, hf⟩ := q_let_go hf
        refine lv_iinc (v := v7) (lv' := [(2, .int v7), (1, .int v6), (0, .ref (a 0))]) hx hb dX1_lowestMeter_37 hl (k := 2) rfl (by rw [← ev7]; rfl) (by decide) rfl (fun ls hl => ?_)
        refine lv_goto (tgt := 18) hx hb dX1_lowestMeter_40 (by decide) ?_
        exact ih v6 v7 _ (lv_sub hl [2, 1, 0] rfl) hf
  have hl := lv_entry ([.ref (a 0)]) (n := 3) (Nat.le_of_ble_eq_true rfl)
  rw [lg_entry_eq]
  generalize (lg_sl ([.ref (a 0)]) ++ List.replicate (3 - (lg_sl ([.ref (a 0)])).length) Slot.unset).toArray = ls at hl ⊢
  have hl : lv_has ls 3 [(0, .ref (a 0))] := hl
  unfold f_X1_lowestMeter at hf
  refine lv_aload_n hx hb dX1_lowestMeter_0 rfl (lv_at hl 0 rfl) ?_
  refine va_get (D := D) (ci := 1) (v := .int (ST_persons S)) (C := RX1) (T := TX1) (N := 15) hx hb hu (fun _ h => h) hown hE.1 hP 0 rfl rfl 2 (Nat.le_of_ble_eq_true rfl) (hts (.fieldLink RX1 62 "CoverMeter$State" "persons" "I") (List.mem_of_getElem? (i := 1) rfl)) (fun _ h9 => h9) rfl dX1_lowestMeter_1 ?_
  refine lv_if_ne (tgt := 9) hx hb dX1_lowestMeter_4 (by decide) (fun c1 => ?_) (fun c1 => ?_)
  · have hf := q_ite_t c1 hf
    refine lv_aload_n hx hb dX1_lowestMeter_9 rfl (lv_at hl 0 rfl) ?_
    refine va_get (D := D) (ci := 1) (v := .ref (a 5)) (C := RX1) (T := TX1) (N := 15) hx hb hu (fun _ h => h) hown hE.1 hP 0 rfl rfl 6 (Nat.le_of_ble_eq_true rfl) (hts (.fieldLink RX1 25 "CoverMeter$State" "meters" "[I") (List.mem_of_getElem? (i := 2) rfl)) (fun _ h9 => h9) rfl dX1_lowestMeter_10 ?_
    refine lv_iconst (v := 0) hx hb dX1_lowestMeter_13 (by decide) ?_
    have hi2 := q_gd_in hf
    have hf := q_gd_go hf
    refine va_iald hx hb hE.1 hP 5 0 rfl rfl hi2 dX1_lowestMeter_14 ?_
    obtain ⟨v3, ev3, hf⟩ := q_let_go hf
    refine q_nmi ev3 ?_
    refine lv_istore_n (lv' := [(1, .int v3), (0, .ref (a 0))]) hx hb dX1_lowestMeter_15 rfl hl (by decide) rfl (fun ls hl => ?_)
    refine lv_iconst (v := 1) hx hb dX1_lowestMeter_16 (by decide) ?_
    refine lv_istore_n (lv' := [(2, .int 1), (1, .int v3), (0, .ref (a 0))]) hx hb dX1_lowestMeter_17 rfl hl (by decide) rfl (fun ls hl => ?_)
    exact L_18 2000 v3 1 _ (lv_sub hl [2, 1, 0] rfl) hf
  · have hf := q_ite_n c1 hf
    refine lv_iconst (v := (-1)) hx hb dX1_lowestMeter_7 (by decide) ?_
    have ho := q_some hf
    subst ho
    exact W.iret hx hb hr (fun t ht hW => ⟨rfl, ht⟩) t_nil dX1_lowestMeter_8
def f_X1_allBids_4 (S : ST) : Nat → Int32 → Int32 → Option Int32
  | 0, _, _ => none
  | n+1, l1, l2 => if (ST_absences S) ≤ l2 then
 (some l1)
 else ((f_X1_bidsFor S l2).bind fun r2 =>
 q_let ((l1 + r2)) fun v3 =>
 q_let (l2 + 1) fun v4 =>
 f_X1_allBids_4 S n v3 v4)
def f_X1_allBids (S : ST) : Option Int32 := f_X1_allBids_4 S 2000 0 0
abbrev rX1_allBids : Room := { frames := 2, cells := 0, slots := 0, locals := 44 }
set_option maxRecDepth 100000 in
set_option maxHeartbeats 4000000 in
theorem c_X1_allBids (l : Launch) (D : va_G) (cI cJ cS : ClassId) (a : Nat → Nat) (S : ST) (o : Int32) (hf : f_X1_allBids S = some o) : Met l yX1_allBids wsX1_allBids rX1_allBids (va_Pc [.ref (a 0)] (q_B D cI cJ cS (wST cI cJ a S))) (q_Ri o) 0 0 (fun _ => False) := by
  refine Met.ofW (cc := cX1_allBids) (maxL := 3) (ret := some .int) (by decide) rfl ?_
  intro p e s m args below meth c s₁ B hml hv
  obtain ⟨rfl, hP, hE⟩ := hv
  have hx := B.exec
  have hb := B.bytes
  have hr := B.returns
  have hts := atoms_spec (ws := wsX1_allBids) B.pre
  have hown : s.vm.findClass RX1 = some m.cls := findClass_of_methodNamed B.named
  have hlocks := B.notSynchronized
  have hu : ∀ z ∈ wsX10, z.before _ s = true := fun z h => hts z (List.mem_cons_of_mem _ (List.mem_append_right _ h))
  have L_4 : ∀ (n : Nat) (l1 : Int32) (l2 : Int32) (ls : Array Slot), lv_has ls 3 [(0, .ref (a 0)), (1, .int l1), (2, .int l2)] → f_X1_allBids_4 S n l1 l2 = some o → W p l e (headSpec wsX1_allBids rX1_allBids).room s m (([.ref (a 0)] : List Value).toArray) below meth c s.heap [] 0 0 (MQ below (q_Ri o) (([.ref (a 0)] : List Value).toArray) s 0 0 (fun _ => False)) (F0 m 4 ls []) := by
    intro n
    induction n with
    | zero => intro l1 l2 ls hl hf; cases hf
    | succ n ih =>
      intro l1 l2 ls hl hf
      rw [f_X1_allBids_4] at hf
      refine lv_iload_n hx hb dX1_allBids_4 rfl (lv_at hl 2 rfl) ?_
      refine lv_aload_n hx hb dX1_allBids_5 rfl (lv_at hl 0 rfl) ?_
      refine va_get (D := D) (ci := 1) (v := .int (ST_absences S)) (C := RX1) (T := TX1) (N := 15) hx hb hu (fun _ h => h) hown hE.1 hP 0 rfl rfl 8 (Nat.le_of_ble_eq_true rfl) (hts (.fieldLink RX1 65 "CoverMeter$State" "absences" "I") (List.mem_of_getElem? (i := 1) rfl)) (fun _ h9 => h9) rfl dX1_allBids_6 ?_
      refine lv_icmp_ge (tgt := 26) hx hb dX1_allBids_9 (by decide) (fun c1 => ?_) (fun c1 => ?_)
      · have hf := q_ite_t c1 hf
        refine lv_iload_n hx hb dX1_allBids_26 rfl (lv_at hl 1 rfl) ?_
        have ho := q_some hf
        subst ho
        exact W.iret hx hb hr (fun t ht hW => ⟨rfl, ht⟩) t_nil dX1_allBids_27
      · have hf := q_ite_f c1 hf
        refine lv_iload_n hx hb dX1_allBids_12 rfl (lv_at hl 1 rfl) ?_
        refine lv_aload_n hx hb dX1_allBids_13 rfl (lv_at hl 0 rfl) ?_
        refine lv_iload_n hx hb dX1_allBids_14 rfl (lv_at hl 2 rfl) ?_
        obtain ⟨r2, hr2, hf⟩ := q_bd_go hf
        refine q_rdVi (ci := 1) (As := [.int l2]) (rest := [.int l1]) hx hb hml hown hts (c_X1_bidsFor l D cI cJ cS a S l2 _ hr2) (cwV 1 hts gX1_allBids_X1_bidsFor rfl rfl rfl (by decide +kernel) ⟨(Nat.le_of_ble_eq_true rfl), (Nat.le_of_ble_eq_true rfl)⟩) hE hP rfl rfl rfl hl.1 rfl (Nat.le_of_ble_eq_true rfl) dX1_allBids_15 ⟨Nat.zero_le _, Nat.zero_le _⟩ ?_
        refine lv_iadd hx hb dX1_allBids_18 ?_
        obtain ⟨v3, ev3, hf⟩ := q_let_go hf
        refine q_nmi ev3 ?_
        refine lv_istore_n (lv' := [(1, .int v3), (0, .ref (a 0)), (2, .int l2)]) hx hb dX1_allBids_19 rfl hl (by decide) rfl (fun ls hl => ?_)
        obtain ⟨v4, ev4, hf⟩ := q_let_go hf
        refine lv_iinc (v := v4) (lv' := [(2, .int v4), (1, .int v3), (0, .ref (a 0))]) hx hb dX1_allBids_20 hl (k := 2) rfl (by rw [← ev4]; rfl) (by decide) rfl (fun ls hl => ?_)
        refine lv_goto (tgt := 4) hx hb dX1_allBids_23 (by decide) ?_
        exact ih v3 v4 _ (lv_sub hl [2, 1, 0] rfl) hf
  have hl := lv_entry ([.ref (a 0)]) (n := 3) (Nat.le_of_ble_eq_true rfl)
  rw [lg_entry_eq]
  generalize (lg_sl ([.ref (a 0)]) ++ List.replicate (3 - (lg_sl ([.ref (a 0)])).length) Slot.unset).toArray = ls at hl ⊢
  have hl : lv_has ls 3 [(0, .ref (a 0))] := hl
  unfold f_X1_allBids at hf
  refine lv_iconst (v := 0) hx hb dX1_allBids_0 (by decide) ?_
  refine lv_istore_n (lv' := [(1, .int 0), (0, .ref (a 0))]) hx hb dX1_allBids_1 rfl hl (by decide) rfl (fun ls hl => ?_)
  refine lv_iconst (v := 0) hx hb dX1_allBids_2 (by decide) ?_
  refine lv_istore_n (lv' := [(2, .int 0), (1, .int 0), (0, .ref (a 0))]) hx hb dX1_allBids_3 rfl hl (by decide) rfl (fun ls hl => ?_)
  exact L_4 2000 0 0 _ (lv_sub hl [2, 1, 0] rfl) hf
def f_X1_allPoints_4 (S : ST) : Nat → Int32 → Int32 → Option Int32
  | 0, _, _ => none
  | n+1, l1, l2 => if (ST_absences S) ≤ l2 then
 (some l1)
 else (if q_in l2 30 = true then
 (q_let ((l1 + (ST_points S (l2 : Int32).toNatClampNeg))) fun v3 =>
 q_let (l2 + 1) fun v4 =>
 f_X1_allPoints_4 S n v3 v4) else none)
def f_X1_allPoints (S : ST) : Option Int32 := f_X1_allPoints_4 S 2000 0 0
abbrev rX1_allPoints : Room := { frames := 0, cells := 0, slots := 0, locals := 0 }
set_option maxRecDepth 100000 in
set_option maxHeartbeats 4000000 in
theorem c_X1_allPoints (l : Launch) (D : va_G) (cI cJ cS : ClassId) (a : Nat → Nat) (S : ST) (o : Int32) (hf : f_X1_allPoints S = some o) : Met l yX1_allPoints wsX1_allPoints rX1_allPoints (va_Pc [.ref (a 0)] (q_B D cI cJ cS (wST cI cJ a S))) (q_Ri o) 0 0 (fun _ => False) := by
  refine Met.ofW (cc := cX1_allPoints) (maxL := 3) (ret := some .int) (by decide) rfl ?_
  intro p e s m args below meth c s₁ B hml hv
  obtain ⟨rfl, hP, hE⟩ := hv
  have hx := B.exec
  have hb := B.bytes
  have hr := B.returns
  have hts := atoms_spec (ws := wsX1_allPoints) B.pre
  have hown : s.vm.findClass RX1 = some m.cls := findClass_of_methodNamed B.named
  have hlocks := B.notSynchronized
  have hu : ∀ z ∈ wsX10, z.before _ s = true := fun z h => hts z (List.mem_cons_of_mem _ (List.mem_append_right _ h))
  have L_4 : ∀ (n : Nat) (l1 : Int32) (l2 : Int32) (ls : Array Slot), lv_has ls 3 [(0, .ref (a 0)), (1, .int l1), (2, .int l2)] → f_X1_allPoints_4 S n l1 l2 = some o → W p l e (headSpec wsX1_allPoints rX1_allPoints).room s m (([.ref (a 0)] : List Value).toArray) below meth c s.heap [] 0 0 (MQ below (q_Ri o) (([.ref (a 0)] : List Value).toArray) s 0 0 (fun _ => False)) (F0 m 4 ls []) := by
    intro n
    induction n with
    | zero => intro l1 l2 ls hl hf; cases hf
    | succ n ih =>
      intro l1 l2 ls hl hf
      rw [f_X1_allPoints_4] at hf
      refine lv_iload_n hx hb dX1_allPoints_4 rfl (lv_at hl 2 rfl) ?_
      refine lv_aload_n hx hb dX1_allPoints_5 rfl (lv_at hl 0 rfl) ?_
      refine va_get (D := D) (ci := 1) (v := .int (ST_absences S)) (C := RX1) (T := TX1) (N := 15) hx hb hu (fun _ h => h) hown hE.1 hP 0 rfl rfl 8 (Nat.le_of_ble_eq_true rfl) (hts (.fieldLink RX1 65 "CoverMeter$State" "absences" "I") (List.mem_of_getElem? (i := 1) rfl)) (fun _ h9 => h9) rfl dX1_allPoints_6 ?_
      refine lv_icmp_ge (tgt := 27) hx hb dX1_allPoints_9 (by decide) (fun c1 => ?_) (fun c1 => ?_)
      · have hf := q_ite_t c1 hf
        refine lv_iload_n hx hb dX1_allPoints_27 rfl (lv_at hl 1 rfl) ?_
        have ho := q_some hf
        subst ho
        exact W.iret hx hb hr (fun t ht hW => ⟨rfl, ht⟩) t_nil dX1_allPoints_28
      · have hf := q_ite_f c1 hf
        refine lv_iload_n hx hb dX1_allPoints_12 rfl (lv_at hl 1 rfl) ?_
        refine lv_aload_n hx hb dX1_allPoints_13 rfl (lv_at hl 0 rfl) ?_
        refine va_get (D := D) (ci := 1) (v := .ref (a 11)) (C := RX1) (T := TX1) (N := 15) hx hb hu (fun _ h => h) hown hE.1 hP 0 rfl rfl 13 (Nat.le_of_ble_eq_true rfl) (hts (.fieldLink RX1 43 "CoverMeter$State" "points" "[I") (List.mem_of_getElem? (i := 2) rfl)) (fun _ h9 => h9) rfl dX1_allPoints_14 ?_
        refine lv_iload_n hx hb dX1_allPoints_17 rfl (lv_at hl 2 rfl) ?_
        have hi2 := q_gd_in hf
        have hf := q_gd_go hf
        refine va_iald hx hb hE.1 hP 11 0 rfl rfl hi2 dX1_allPoints_18 ?_
        refine lv_iadd hx hb dX1_allPoints_19 ?_
        obtain ⟨v3, ev3, hf⟩ := q_let_go hf
        refine q_nmi ev3 ?_
        refine lv_istore_n (lv' := [(1, .int v3), (0, .ref (a 0)), (2, .int l2)]) hx hb dX1_allPoints_20 rfl hl (by decide) rfl (fun ls hl => ?_)
        obtain ⟨v4, ev4, hf⟩ := q_let_go hf
        refine lv_iinc (v := v4) (lv' := [(2, .int v4), (1, .int v3), (0, .ref (a 0))]) hx hb dX1_allPoints_21 hl (k := 2) rfl (by rw [← ev4]; rfl) (by decide) rfl (fun ls hl => ?_)
        refine lv_goto (tgt := 4) hx hb dX1_allPoints_24 (by decide) ?_
        exact ih v3 v4 _ (lv_sub hl [2, 1, 0] rfl) hf
  have hl := lv_entry ([.ref (a 0)]) (n := 3) (Nat.le_of_ble_eq_true rfl)
  rw [lg_entry_eq]
  generalize (lg_sl ([.ref (a 0)]) ++ List.replicate (3 - (lg_sl ([.ref (a 0)])).length) Slot.unset).toArray = ls at hl ⊢
  have hl : lv_has ls 3 [(0, .ref (a 0))] := hl
  unfold f_X1_allPoints at hf
  refine lv_iconst (v := 0) hx hb dX1_allPoints_0 (by decide) ?_
  refine lv_istore_n (lv' := [(1, .int 0), (0, .ref (a 0))]) hx hb dX1_allPoints_1 rfl hl (by decide) rfl (fun ls hl => ?_)
  refine lv_iconst (v := 0) hx hb dX1_allPoints_2 (by decide) ?_
  refine lv_istore_n (lv' := [(2, .int 0), (1, .int 0), (0, .ref (a 0))]) hx hb dX1_allPoints_3 rfl hl (by decide) rfl (fun ls hl => ?_)
  exact L_4 2000 0 0 _ (lv_sub hl [2, 1, 0] rfl) hf
def f_X1_aboutAll (S : ST) (p1 : Int32) : Option Int32 := if p1 = 0 then
 (some (ST_persons S))
 else (if p1 = 1 then
 (some (ST_absences S))
 else (if p1 = 2 then
 ((f_X1_countOf S 0).bind fun r2 =>
 some r2)
 else (if p1 = 3 then
 ((f_X1_countOf S 1).bind fun r3 =>
 some r3)
 else (if p1 = 4 then
 ((f_X1_countOf S 2).bind fun r4 =>
 some r4)
 else (if p1 = 5 then
 ((f_X1_countOf S 3).bind fun r5 =>
 some r5)
 else (if p1 = 6 then
 ((f_X1_greatestMeter S).bind fun r6 =>
 some r6)
 else (if p1 = 7 then
 ((f_X1_lowestMeter S).bind fun r7 =>
 some r7)
 else (if p1 = 8 then
 ((f_X1_allBids S).bind fun r8 =>
 some r8)
 else (if p1 = 9 then
 ((f_X1_allPoints S).bind fun r9 =>
 some r9)
 else (some (ST_handedOver S)))))))))))
abbrev rX1_aboutAll : Room := { frames := 3, cells := 0, slots := 0, locals := 66 }
set_option maxRecDepth 100000 in
set_option maxHeartbeats 4000000 in
theorem c_X1_aboutAll (l : Launch) (D : va_G) (cI cJ cS : ClassId) (a : Nat → Nat) (S : ST) (p1 : Int32) (o : Int32) (hf : f_X1_aboutAll S p1 = some o) : Met l yX1_aboutAll wsX1_aboutAll rX1_aboutAll (va_Pc [.ref (a 0), .int p1] (q_B D cI cJ cS (wST cI cJ a S))) (q_Ri o) 0 0 (fun _ => False) := by
  refine Met.ofW (cc := cX1_aboutAll) (maxL := 2) (ret := some .int) (by decide) rfl ?_
  intro p e s m args below meth c s₁ B hml hv
  obtain ⟨rfl, hP, hE⟩ := hv
  have hx := B.exec
  have hb := B.bytes
  have hr := B.returns
  have hts := atoms_spec (ws := wsX1_aboutAll) B.pre
  have hown : s.vm.findClass RX1 = some m.cls := findClass_of_methodNamed B.named
  have hlocks := B.notSynchronized
  have hu : ∀ z ∈ wsX10, z.before _ s = true := fun z h => hts z (List.mem_cons_of_mem _ (List.mem_append_right _ h))
  have hl := lv_entry ([.ref (a 0), .int p1]) (n := 2) (Nat.le_of_ble_eq_true rfl)
  rw [lg_entry_eq]
  generalize (lg_sl ([.ref (a 0), .int p1]) ++ List.replicate (2 - (lg_sl ([.ref (a 0), .int p1])).length) Slot.unset).toArray = ls at hl ⊢
  have hl : lv_has ls 2 [(0, .ref (a 0)), (1, .int p1)] := hl
  unfold f_X1_aboutAll at hf
  refine lv_iload_n hx hb dX1_aboutAll_0 rfl (lv_at hl 1 rfl) ?_
  by_cases c1_0 : p1 = 0
  · have hf := q_ite_t c1_0 hf
    refine lv_tableIn (tgt := 56) hx hb dX1_aboutAll_1 (by rw [c1_0]; decide) (by rw [c1_0]; decide) (by rw [c1_0]; rfl) (by decide) ?_
    refine lv_aload_n hx hb dX1_aboutAll_56 rfl (lv_at hl 0 rfl) ?_
    refine va_get (D := D) (ci := 1) (v := .int (ST_persons S)) (C := RX1) (T := TX1) (N := 15) hx hb hu (fun _ h => h) hown hE.1 hP 0 rfl rfl 2 (Nat.le_of_ble_eq_true rfl) (hts (.fieldLink RX1 62 "CoverMeter$State" "persons" "I") (List.mem_of_getElem? (i := 1) rfl)) (fun _ h9 => h9) rfl dX1_aboutAll_57 ?_
    have ho := q_some hf
    subst ho
    exact W.iret hx hb hr (fun t ht hW => ⟨rfl, ht⟩) t_nil dX1_aboutAll_60
  have hf := q_ite_f c1_0 hf
  by_cases c1_1 : p1 = 1
  · have hf := q_ite_t c1_1 hf
    refine lv_tableIn (tgt := 61) hx hb dX1_aboutAll_1 (by rw [c1_1]; decide) (by rw [c1_1]; decide) (by rw [c1_1]; rfl) (by decide) ?_
    refine lv_aload_n hx hb dX1_aboutAll_61 rfl (lv_at hl 0 rfl) ?_
    refine va_get (D := D) (ci := 1) (v := .int (ST_absences S)) (C := RX1) (T := TX1) (N := 15) hx hb hu (fun _ h => h) hown hE.1 hP 0 rfl rfl 8 (Nat.le_of_ble_eq_true rfl) (hts (.fieldLink RX1 65 "CoverMeter$State" "absences" "I") (List.mem_of_getElem? (i := 2) rfl)) (fun _ h9 => h9) rfl dX1_aboutAll_62 ?_
    have ho := q_some hf
    subst ho
    exact W.iret hx hb hr (fun t ht hW => ⟨rfl, ht⟩) t_nil dX1_aboutAll_65
  have hf := q_ite_f c1_1 hf
  by_cases c1_2 : p1 = 2
  · have hf := q_ite_t c1_2 hf
    refine lv_tableIn (tgt := 66) hx hb dX1_aboutAll_1 (by rw [c1_2]; decide) (by rw [c1_2]; decide) (by rw [c1_2]; rfl) (by decide) ?_
    refine lv_aload_n hx hb dX1_aboutAll_66 rfl (lv_at hl 0 rfl) ?_
    refine lv_iconst (v := 0) hx hb dX1_aboutAll_67 (by decide) ?_
    obtain ⟨r2, hr2, hf⟩ := q_bd_go hf
    refine q_rdVi (ci := 1) (As := [.int 0]) (rest := []) hx hb hml hown hts (c_X1_countOf l D cI cJ cS a S 0 _ hr2) (cwV 1 hts gX1_aboutAll_X1_countOf rfl rfl rfl (by decide +kernel) ⟨(Nat.le_of_ble_eq_true rfl), (Nat.le_of_ble_eq_true rfl)⟩) hE hP rfl rfl rfl hl.1 rfl (Nat.le_of_ble_eq_true rfl) dX1_aboutAll_68 ⟨Nat.zero_le _, Nat.zero_le _⟩ ?_
    have ho := q_some hf
    subst ho
    exact W.iret hx hb hr (fun t ht hW => ⟨rfl, ht⟩) t_nil dX1_aboutAll_71
  have hf := q_ite_f c1_2 hf
  by_cases c1_3 : p1 = 3
  · have hf := q_ite_t c1_3 hf
    refine lv_tableIn (tgt := 72) hx hb dX1_aboutAll_1 (by rw [c1_3]; decide) (by rw [c1_3]; decide) (by rw [c1_3]; rfl) (by decide) ?_
    refine lv_aload_n hx hb dX1_aboutAll_72 rfl (lv_at hl 0 rfl) ?_
    refine lv_iconst (v := 1) hx hb dX1_aboutAll_73 (by decide) ?_
    obtain ⟨r3, hr3, hf⟩ := q_bd_go hf
    refine q_rdVi (ci := 1) (As := [.int 1]) (rest := []) hx hb hml hown hts (c_X1_countOf l D cI cJ cS a S 1 _ hr3) (cwV 1 hts gX1_aboutAll_X1_countOf rfl rfl rfl (by decide +kernel) ⟨(Nat.le_of_ble_eq_true rfl), (Nat.le_of_ble_eq_true rfl)⟩) hE hP rfl rfl rfl hl.1 rfl (Nat.le_of_ble_eq_true rfl) dX1_aboutAll_74 ⟨Nat.zero_le _, Nat.zero_le _⟩ ?_
    have ho := q_some hf
    subst ho
    exact W.iret hx hb hr (fun t ht hW => ⟨rfl, ht⟩) t_nil dX1_aboutAll_77
  have hf := q_ite_f c1_3 hf
  by_cases c1_4 : p1 = 4
  · have hf := q_ite_t c1_4 hf
    refine lv_tableIn (tgt := 78) hx hb dX1_aboutAll_1 (by rw [c1_4]; decide) (by rw [c1_4]; decide) (by rw [c1_4]; rfl) (by decide) ?_
    refine lv_aload_n hx hb dX1_aboutAll_78 rfl (lv_at hl 0 rfl) ?_
    refine lv_iconst (v := 2) hx hb dX1_aboutAll_79 (by decide) ?_
    obtain ⟨r4, hr4, hf⟩ := q_bd_go hf
    refine q_rdVi (ci := 1) (As := [.int 2]) (rest := []) hx hb hml hown hts (c_X1_countOf l D cI cJ cS a S 2 _ hr4) (cwV 1 hts gX1_aboutAll_X1_countOf rfl rfl rfl (by decide +kernel) ⟨(Nat.le_of_ble_eq_true rfl), (Nat.le_of_ble_eq_true rfl)⟩) hE hP rfl rfl rfl hl.1 rfl (Nat.le_of_ble_eq_true rfl) dX1_aboutAll_80 ⟨Nat.zero_le _, Nat.zero_le _⟩ ?_
    have ho := q_some hf
    subst ho
    exact W.iret hx hb hr (fun t ht hW => ⟨rfl, ht⟩) t_nil dX1_aboutAll_83
  have hf := q_ite_f c1_4 hf
  by_cases c1_5 : p1 = 5
  · have hf := q_ite_t c1_5 hf
    refine lv_tableIn (tgt := 84) hx hb dX1_aboutAll_1 (by rw [c1_5]; decide) (by rw [c1_5]; decide) (by rw [c1_5]; rfl) (by decide) ?_
    refine lv_aload_n hx hb dX1_aboutAll_84 rfl (lv_at hl 0 rfl) ?_
    refine lv_iconst (v := 3) hx hb dX1_aboutAll_85 (by decide) ?_
    obtain ⟨r5, hr5, hf⟩ := q_bd_go hf
    refine q_rdVi (ci := 1) (As := [.int 3]) (rest := []) hx hb hml hown hts (c_X1_countOf l D cI cJ cS a S 3 _ hr5) (cwV 1 hts gX1_aboutAll_X1_countOf rfl rfl rfl (by decide +kernel) ⟨(Nat.le_of_ble_eq_true rfl), (Nat.le_of_ble_eq_true rfl)⟩) hE hP rfl rfl rfl hl.1 rfl (Nat.le_of_ble_eq_true rfl) dX1_aboutAll_86 ⟨Nat.zero_le _, Nat.zero_le _⟩ ?_
    have ho := q_some hf
    subst ho
    exact W.iret hx hb hr (fun t ht hW => ⟨rfl, ht⟩) t_nil dX1_aboutAll_89
  have hf := q_ite_f c1_5 hf
  by_cases c1_6 : p1 = 6
  · have hf := q_ite_t c1_6 hf
    refine lv_tableIn (tgt := 90) hx hb dX1_aboutAll_1 (by rw [c1_6]; decide) (by rw [c1_6]; decide) (by rw [c1_6]; rfl) (by decide) ?_
    refine lv_aload_n hx hb dX1_aboutAll_90 rfl (lv_at hl 0 rfl) ?_
    obtain ⟨r6, hr6, hf⟩ := q_bd_go hf
    refine q_rdVi (ci := 1) (As := []) (rest := []) hx hb hml hown hts (c_X1_greatestMeter l D cI cJ cS a S  _ hr6) (cwV 0 hts gX1_aboutAll_X1_greatestMeter rfl rfl rfl (by decide +kernel) ⟨(Nat.le_of_ble_eq_true rfl), (Nat.le_of_ble_eq_true rfl)⟩) hE hP rfl rfl rfl hl.1 rfl (Nat.le_of_ble_eq_true rfl) dX1_aboutAll_91 ⟨Nat.zero_le _, Nat.zero_le _⟩ ?_
    have ho := q_some hf
    subst ho
    exact W.iret hx hb hr (fun t ht hW => ⟨rfl, ht⟩) t_nil dX1_aboutAll_94
  have hf := q_ite_f c1_6 hf
  by_cases c1_7 : p1 = 7
  · have hf := q_ite_t c1_7 hf
    refine lv_tableIn (tgt := 95) hx hb dX1_aboutAll_1 (by rw [c1_7]; decide) (by rw [c1_7]; decide) (by rw [c1_7]; rfl) (by decide) ?_
    refine lv_aload_n hx hb dX1_aboutAll_95 rfl (lv_at hl 0 rfl) ?_
    obtain ⟨r7, hr7, hf⟩ := q_bd_go hf
    refine q_rdVi (ci := 1) (As := []) (rest := []) hx hb hml hown hts (c_X1_lowestMeter l D cI cJ cS a S  _ hr7) (cwV 0 hts gX1_aboutAll_X1_lowestMeter rfl rfl rfl (by decide +kernel) ⟨(Nat.le_of_ble_eq_true rfl), (Nat.le_of_ble_eq_true rfl)⟩) hE hP rfl rfl rfl hl.1 rfl (Nat.le_of_ble_eq_true rfl) dX1_aboutAll_96 ⟨Nat.zero_le _, Nat.zero_le _⟩ ?_
    have ho := q_some hf
    subst ho
    exact W.iret hx hb hr (fun t ht hW => ⟨rfl, ht⟩) t_nil dX1_aboutAll_99
  have hf := q_ite_f c1_7 hf
  by_cases c1_8 : p1 = 8
  · have hf := q_ite_t c1_8 hf
    refine lv_tableIn (tgt := 100) hx hb dX1_aboutAll_1 (by rw [c1_8]; decide) (by rw [c1_8]; decide) (by rw [c1_8]; rfl) (by decide) ?_
    refine lv_aload_n hx hb dX1_aboutAll_100 rfl (lv_at hl 0 rfl) ?_
    obtain ⟨r8, hr8, hf⟩ := q_bd_go hf
    refine q_rdVi (ci := 1) (As := []) (rest := []) hx hb hml hown hts (c_X1_allBids l D cI cJ cS a S  _ hr8) (cwV 0 hts gX1_aboutAll_X1_allBids rfl rfl rfl (by decide +kernel) ⟨(Nat.le_of_ble_eq_true rfl), (Nat.le_of_ble_eq_true rfl)⟩) hE hP rfl rfl rfl hl.1 rfl (Nat.le_of_ble_eq_true rfl) dX1_aboutAll_101 ⟨Nat.zero_le _, Nat.zero_le _⟩ ?_
    have ho := q_some hf
    subst ho
    exact W.iret hx hb hr (fun t ht hW => ⟨rfl, ht⟩) t_nil dX1_aboutAll_104
  have hf := q_ite_f c1_8 hf
  by_cases c1_9 : p1 = 9
  · have hf := q_ite_t c1_9 hf
    refine lv_tableIn (tgt := 105) hx hb dX1_aboutAll_1 (by rw [c1_9]; decide) (by rw [c1_9]; decide) (by rw [c1_9]; rfl) (by decide) ?_
    refine lv_aload_n hx hb dX1_aboutAll_105 rfl (lv_at hl 0 rfl) ?_
    obtain ⟨r9, hr9, hf⟩ := q_bd_go hf
    refine q_rdVi (ci := 1) (As := []) (rest := []) hx hb hml hown hts (c_X1_allPoints l D cI cJ cS a S  _ hr9) (cwV 0 hts gX1_aboutAll_X1_allPoints rfl rfl rfl (by decide +kernel) ⟨(Nat.le_of_ble_eq_true rfl), (Nat.le_of_ble_eq_true rfl)⟩) hE hP rfl rfl rfl hl.1 rfl (Nat.le_of_ble_eq_true rfl) dX1_aboutAll_106 ⟨Nat.zero_le _, Nat.zero_le _⟩ ?_
    have ho := q_some hf
    subst ho
    exact W.iret hx hb hr (fun t ht hW => ⟨rfl, ht⟩) t_nil dX1_aboutAll_109
  have hf := q_ite_f c1_9 hf
  have zc1_0 := lv_neT (a := 0) c1_0 (by decide)
  have zc1_1 := lv_neT (a := 1) c1_1 (by decide)
  have zc1_2 := lv_neT (a := 2) c1_2 (by decide)
  have zc1_3 := lv_neT (a := 3) c1_3 (by decide)
  have zc1_4 := lv_neT (a := 4) c1_4 (by decide)
  have zc1_5 := lv_neT (a := 5) c1_5 (by decide)
  have zc1_6 := lv_neT (a := 6) c1_6 (by decide)
  have zc1_7 := lv_neT (a := 7) c1_7 (by decide)
  have zc1_8 := lv_neT (a := 8) c1_8 (by decide)
  have zc1_9 := lv_neT (a := 9) c1_9 (by decide)
  refine lv_tableOut (tgt := 110) hx hb dX1_aboutAll_1 (by omega) (by decide) ?_
  refine lv_aload_n hx hb dX1_aboutAll_110 rfl (lv_at hl 0 rfl) ?_
  refine va_get (D := D) (ci := 1) (v := .int (ST_handedOver S)) (C := RX1) (T := TX1) (N := 15) hx hb hu (fun _ h => h) hown hE.1 hP 0 rfl rfl 1 (Nat.le_of_ble_eq_true rfl) (hts (.fieldLink RX1 58 "CoverMeter$State" "handedOver" "I") (List.mem_of_getElem? (i := 3) rfl)) (fun _ h9 => h9) rfl dX1_aboutAll_111 ?_
  have ho := q_some hf
  subst ho
  exact W.iret hx hb hr (fun t ht hW => ⟨rfl, ht⟩) t_nil dX1_aboutAll_114
