def f_X3_roster (S : MD) (p1 : Int32) (p2 : Int32) (p3 : Int32) : Option (Int32 × MD) := (f_X3_shiftError S p1 p2 1).bind fun r1 =>
 q_let (sMD_thrown S r1) fun S2 =>
 if (MD_thrown S2) = 0 then
 ((f_X3_isRostered S2 p1 p2).bind fun r4 =>
 if r4 = p3 then
 (q_let (sMD_thrown S2 3) fun S6 =>
 some (0, S6))
 else ((f_X3_isAbsent S2 p1 p2).bind fun r7 =>
 if ¬ r7 = 0 then
 (q_let (sMD_thrown S2 3) fun S9 =>
 some (0, S9))
 else ((f_X3_coversIn S2 p1 p2).bind fun r10 =>
 if r10 = 0 then
 ((f_X3_records S2).bind fun r12 =>
 q_let (((1 : Int64) <<< ((p2 : Int32).toInt64 &&& 63))) fun v13 =>
 if q_in ((6 + (3 * p1)) + 0) 420 = true then
 (if p3 = 0 then
 (if q_in ((6 + (3 * p1)) + 0) 420 = true then
 (q_let (sMD_now r12 (vp_updL (MD_now r12) (((6 + (3 * p1)) + 0) : Int32).toNatClampNeg ((MD_now r12 (((6 + (3 * p1)) + 0) : Int32).toNatClampNeg) + (-v13)))) fun S17 =>
 (f_X3_rostered S17 p1).bind fun r18 =>
 some (r18, S17)) else none)
 else (if q_in ((6 + (3 * p1)) + 0) 420 = true then
 (q_let (sMD_now r12 (vp_updL (MD_now r12) (((6 + (3 * p1)) + 0) : Int32).toNatClampNeg ((MD_now r12 (((6 + (3 * p1)) + 0) : Int32).toNatClampNeg) + v13))) fun S20 =>
 (f_X3_rostered S20 p1).bind fun r21 =>
 some (r21, S20)) else none)) else none)
 else (q_let (sMD_thrown S2 3) fun S22 =>
 some (0, S22)))))
 else (some (0, S2))
abbrev rX3_roster : Room := { frames := 4, cells := 0, slots := 0, locals := 91 }
set_option maxRecDepth 100000 in
set_option maxHeartbeats 4000000 in
theorem c_X3_roster (l : Launch) (D : va_G) (cI cJ cS : ClassId) (a : Nat → Nat) (S : MD) (sz : Nat) (p1 : Int32) (p2 : Int32) (p3 : Int32) (o : (Int32 × MD)) (hf : f_X3_roster S p1 p2 p3 = some o) : Met l yX3_roster wsX3_roster rX3_roster (va_Pc [.ref (a 0), .int p1, .int p2, .int p3] (q_BW D cI cJ cS (wMD cI cJ a S) sz)) (q_Wo (some (.int o.1)) D (wMD cI cJ a S) (wMD cI cJ a o.2) sz) 0 0 (va_A (wMD cI cJ a S) sz) := by
  refine Met.ofW (cc := cX3_roster) (maxL := 6) (ret := some .int) (by decide) rfl ?_
  intro p e s m args below meth c s₁ B hml hv
  obtain ⟨rfl, hsz, hP, hE, hD0⟩ := hv
  have hx := B.exec
  have hb := B.bytes
  have hr := B.returns
  have hts := atoms_spec (ws := wsX3_roster) B.pre
  have hown : s.vm.findClass RX3 = some m.cls := findClass_of_methodNamed B.named
  have hlocks := B.notSynchronized
  have hu : ∀ z ∈ wsX30, z.before _ s = true := fun z h => hts z (List.mem_cons_of_mem _ (List.mem_append_right _ h))
  subst hsz
  have hD := hD0.self (sz := s.heap.size)
  have hS : va_S (va_A (wMD cI cJ a S) s.heap.size) s.heap s.heap [] := va_S.rf
  have hl := lv_entry ([.ref (a 0), .int p1, .int p2, .int p3]) (n := 6) (Nat.le_of_ble_eq_true rfl)
  rw [lg_entry_eq]
  generalize (lg_sl ([.ref (a 0), .int p1, .int p2, .int p3]) ++ List.replicate (6 - (lg_sl ([.ref (a 0), .int p1, .int p2, .int p3])).length) Slot.unset).toArray = ls at hl ⊢
  have hl : lv_has ls 6 [(0, .ref (a 0)), (1, .int p1), (2, .int p2), (3, .int p3)] := hl
  unfold f_X3_roster at hf
  refine lv_aload_n hx hb dX3_roster_0 rfl (lv_at hl 0 rfl) ?_
  refine lv_aload_n hx hb dX3_roster_1 rfl (lv_at hl 0 rfl) ?_
  refine lv_iload_n hx hb dX3_roster_2 rfl (lv_at hl 1 rfl) ?_
  refine lv_iload_n hx hb dX3_roster_3 rfl (lv_at hl 2 rfl) ?_
  refine lv_iconst (v := 1) hx hb dX3_roster_4 (by decide) ?_
  obtain ⟨r1, hr1, hf⟩ := q_bd_go hf
  refine q_rdVi (ci := 3) (As := [.int p1, .int p2, .int 1]) (rest := [.ref (a 0)]) hx hb hml hown hts (c_X3_shiftError l D cI cJ cS a S p1 p2 1 _ hr1) (cwV 3 hts gX3_roster_X3_shiftError rfl rfl rfl (by decide +kernel) ⟨(Nat.le_of_ble_eq_true rfl), (Nat.le_of_ble_eq_true rfl)⟩) hE hP rfl rfl rfl hl.1 rfl (Nat.le_of_ble_eq_true rfl) dX3_roster_5 ⟨Nat.zero_le _, Nat.zero_le _⟩ ?_
  obtain ⟨S2, eS2, hf⟩ := q_let_go hf
  refine va_put (D := D) (ci := 3) (v := .int r1) (ty := .int) (C := RX3) (T := TX3) (N := 15) hx hb hu (fun _ h => h) tyX3 tyX3_ok nmX3 hown hE.1 hP hD hS 0 rfl rfl 3 (Nat.le_of_ble_eq_true rfl) (hts (.fieldLink RX3 30 "CoverMeterModel" "thrown" "I") (List.mem_of_getElem? (i := 1) rfl)) (fun _ h9 => h9) rfl (by decide +kernel) rfl rfl (Nat.le_of_ble_eq_true rfl) dX3_roster_8 (fun H locs hP hD hS => ?_)
  have hP : va_P D vwCl (wMD cI cJ a (sMD_thrown S r1)) H := hP
  have hD : va_D (va_A (wMD cI cJ a S) s.heap.size) (wMD cI cJ a (sMD_thrown S r1)) := hD
  rw [eS2] at hP hD
  refine lv_aload_n hx hb dX3_roster_11 rfl (lv_at hl 0 rfl) ?_
  refine va_get (D := D) (ci := 3) (v := .int (MD_thrown S2)) (C := RX3) (T := TX3) (N := 15) hx hb hu (fun _ h => h) hown hE.1 hP 0 rfl rfl 3 (Nat.le_of_ble_eq_true rfl) (hts (.fieldLink RX3 30 "CoverMeterModel" "thrown" "I") (List.mem_of_getElem? (i := 1) rfl)) (fun _ h9 => h9) rfl dX3_roster_12 ?_
  refine lv_if_eq (tgt := 20) hx hb dX3_roster_15 (by decide) (fun c3 => ?_) (fun c3 => ?_)
  · have hf := q_ite_t c3 hf
    refine lv_aload_n hx hb dX3_roster_20 rfl (lv_at hl 0 rfl) ?_
    refine lv_iload_n hx hb dX3_roster_21 rfl (lv_at hl 1 rfl) ?_
    refine lv_iload_n hx hb dX3_roster_22 rfl (lv_at hl 2 rfl) ?_
    obtain ⟨r4, hr4, hf⟩ := q_bd_go hf
    refine q_rdVi (ci := 3) (As := [.int p1, .int p2]) (rest := []) hx hb hml hown hts (c_X3_isRostered l D cI cJ cS a S2 p1 p2 _ hr4) (cwV 2 hts gX3_roster_X3_isRostered rfl rfl rfl (by decide +kernel) ⟨(Nat.le_of_ble_eq_true rfl), (Nat.le_of_ble_eq_true rfl)⟩) hE hP rfl rfl rfl hl.1 rfl (Nat.le_of_ble_eq_true rfl) dX3_roster_23 ⟨Nat.zero_le _, Nat.zero_le _⟩ ?_
    refine lv_iload_n hx hb dX3_roster_26 rfl (lv_at hl 3 rfl) ?_
    refine lv_icmp_eq (tgt := 48) hx hb dX3_roster_27 (by decide) (fun c5 => ?_) (fun c5 => ?_)
    · have hf := q_ite_t c5 hf
      refine lv_aload_n hx hb dX3_roster_48 rfl (lv_at hl 0 rfl) ?_
      refine lv_iconst (v := 3) hx hb dX3_roster_49 (by decide) ?_
      obtain ⟨S6, eS6, hf⟩ := q_let_go hf
      refine va_put (D := D) (ci := 3) (v := .int 3) (ty := .int) (C := RX3) (T := TX3) (N := 15) hx hb hu (fun _ h => h) tyX3 tyX3_ok nmX3 hown hE.1 hP hD hS 0 rfl rfl 3 (Nat.le_of_ble_eq_true rfl) (hts (.fieldLink RX3 30 "CoverMeterModel" "thrown" "I") (List.mem_of_getElem? (i := 1) rfl)) (fun _ h9 => h9) rfl (by decide +kernel) rfl rfl (Nat.le_of_ble_eq_true rfl) dX3_roster_50 (fun H locs hP hD hS => ?_)
      have hP : va_P D vwCl (wMD cI cJ a (sMD_thrown S2 3)) H := hP
      have hD : va_D (va_A (wMD cI cJ a S) s.heap.size) (wMD cI cJ a (sMD_thrown S2 3)) := hD
      rw [eS6] at hP hD
      refine lv_iconst (v := 0) hx hb dX3_roster_53 (by decide) ?_
      have ho := q_some hf
      subst ho
      exact W.iret hx hb hr (fun t ht hW => ⟨rfl, ⟨by rw [ht]; exact hP, hD⟩, hS.F ht⟩) hS.2.2 dX3_roster_54
    · have hf := q_ite_f c5 hf
      refine lv_aload_n hx hb dX3_roster_30 rfl (lv_at hl 0 rfl) ?_
      refine lv_iload_n hx hb dX3_roster_31 rfl (lv_at hl 1 rfl) ?_
      refine lv_iload_n hx hb dX3_roster_32 rfl (lv_at hl 2 rfl) ?_
      obtain ⟨r7, hr7, hf⟩ := q_bd_go hf
      refine q_rdVi (ci := 3) (As := [.int p1, .int p2]) (rest := []) hx hb hml hown hts (c_X3_isAbsent l D cI cJ cS a S2 p1 p2 _ hr7) (cwV 2 hts gX3_roster_X3_isAbsent rfl rfl rfl (by decide +kernel) ⟨(Nat.le_of_ble_eq_true rfl), (Nat.le_of_ble_eq_true rfl)⟩) hE hP rfl rfl rfl hl.1 rfl (Nat.le_of_ble_eq_true rfl) dX3_roster_33 ⟨Nat.zero_le _, Nat.zero_le _⟩ ?_
      refine lv_if_ne (tgt := 48) hx hb dX3_roster_36 (by decide) (fun c8 => ?_) (fun c8 => ?_)
      · have hf := q_ite_t c8 hf
        refine lv_aload_n hx hb dX3_roster_48 rfl (lv_at hl 0 rfl) ?_
        refine lv_iconst (v := 3) hx hb dX3_roster_49 (by decide) ?_
        obtain ⟨S9, eS9, hf⟩ := q_let_go hf
        refine va_put (D := D) (ci := 3) (v := .int 3) (ty := .int) (C := RX3) (T := TX3) (N := 15) hx hb hu (fun _ h => h) tyX3 tyX3_ok nmX3 hown hE.1 hP hD hS 0 rfl rfl 3 (Nat.le_of_ble_eq_true rfl) (hts (.fieldLink RX3 30 "CoverMeterModel" "thrown" "I") (List.mem_of_getElem? (i := 1) rfl)) (fun _ h9 => h9) rfl (by decide +kernel) rfl rfl (Nat.le_of_ble_eq_true rfl) dX3_roster_50 (fun H locs hP hD hS => ?_)
        have hP : va_P D vwCl (wMD cI cJ a (sMD_thrown S2 3)) H := hP
        have hD : va_D (va_A (wMD cI cJ a S) s.heap.size) (wMD cI cJ a (sMD_thrown S2 3)) := hD
        rw [eS9] at hP hD
        refine lv_iconst (v := 0) hx hb dX3_roster_53 (by decide) ?_
        have ho := q_some hf
        subst ho
        exact W.iret hx hb hr (fun t ht hW => ⟨rfl, ⟨by rw [ht]; exact hP, hD⟩, hS.F ht⟩) hS.2.2 dX3_roster_54
      · have hf := q_ite_n c8 hf
        refine lv_aload_n hx hb dX3_roster_39 rfl (lv_at hl 0 rfl) ?_
        refine lv_iload_n hx hb dX3_roster_40 rfl (lv_at hl 1 rfl) ?_
        refine lv_iload_n hx hb dX3_roster_41 rfl (lv_at hl 2 rfl) ?_
        obtain ⟨r10, hr10, hf⟩ := q_bd_go hf
        refine q_rdVi (ci := 3) (As := [.int p1, .int p2]) (rest := []) hx hb hml hown hts (c_X3_coversIn l D cI cJ cS a S2 p1 p2 _ hr10) (cwV 2 hts gX3_roster_X3_coversIn rfl rfl rfl (by decide +kernel) ⟨(Nat.le_of_ble_eq_true rfl), (Nat.le_of_ble_eq_true rfl)⟩) hE hP rfl rfl rfl hl.1 rfl (Nat.le_of_ble_eq_true rfl) dX3_roster_42 ⟨Nat.zero_le _, Nat.zero_le _⟩ ?_
        refine lv_if_eq (tgt := 55) hx hb dX3_roster_45 (by decide) (fun c11 => ?_) (fun c11 => ?_)
        · have hf := q_ite_t c11 hf
          refine lv_aload_n hx hb dX3_roster_55 rfl (lv_at hl 0 rfl) ?_
          obtain ⟨r12, hr12, hf⟩ := q_bd_go hf
          refine q_wrVv (ci := 3) (As := []) (rest := []) hx hb hml hown hts (c_X3_records l D cI cJ cS a S2 _  _ hr12) (cwV 0 hts gX3_roster_X3_records rfl rfl rfl (by decide +kernel) ⟨(Nat.le_of_ble_eq_true rfl), (Nat.le_of_ble_eq_true rfl)⟩) hE hP hD hS (fun q h => Or.inr h) rfl rfl rfl hl.1 rfl (Nat.le_of_ble_eq_true rfl) dX3_roster_56 ⟨Nat.zero_le _, Nat.zero_le _⟩ (fun H locs hP hD hS => ?_)
          refine lv_lconst (v := 1) hx hb dX3_roster_59 (by decide) ?_
          refine lv_iload_n hx hb dX3_roster_60 rfl (lv_at hl 2 rfl) ?_
          refine lv_lshl (v := ((1 : Int64) <<< ((p2 : Int32).toInt64 &&& 63))) hx hb dX3_roster_61 rfl ?_
          obtain ⟨v13, ev13, hf⟩ := q_let_go hf
          refine q_nml ev13 ?_
          refine lv_lstore (lv' := [(4, .long v13), (0, .ref (a 0)), (1, .int p1), (2, .int p2), (3, .int p3)]) hx hb dX3_roster_62 hl (by decide) rfl (fun ls hl => ?_)
          refine lv_aload_n hx hb dX3_roster_64 rfl (lv_at hl 1 rfl) ?_
          refine va_get (D := D) (ci := 3) (v := .ref (a 1)) (C := RX3) (T := TX3) (N := 15) hx hb hu (fun _ h => h) hown hE.1 hP 0 rfl rfl 0 (Nat.le_of_ble_eq_true rfl) (hts (.fieldLink RX3 7 "CoverMeterModel" "now" "[J") (List.mem_of_getElem? (i := 2) rfl)) (fun _ h9 => h9) rfl dX3_roster_65 ?_
          refine lv_bipush (v := 6) hx hb dX3_roster_68 (by decide) ?_
          refine lv_iconst (v := 3) hx hb dX3_roster_70 (by decide) ?_
          refine lv_iload_n hx hb dX3_roster_71 rfl (lv_at hl 2 rfl) ?_
          refine lv_imul hx hb dX3_roster_72 ?_
          refine lv_iadd hx hb dX3_roster_73 ?_
          refine lv_iconst (v := 0) hx hb dX3_roster_74 (by decide) ?_
          refine lv_iadd hx hb dX3_roster_75 ?_
          refine lv_dup2_11 hx hb dX3_roster_76 rfl rfl ?_
          have hi14 := q_gd_in hf
          have hf := q_gd_go hf
          refine va_lald hx hb hE.1 hP 1 1 rfl rfl hi14 dX3_roster_77 ?_
          refine lv_iload_n hx hb dX3_roster_78 rfl (lv_at hl 4 rfl) ?_
          refine lv_if_eq (tgt := 87) hx hb dX3_roster_79 (by decide) (fun c15 => ?_) (fun c15 => ?_)
          · have hf := q_ite_t c15 hf
            refine lv_lload hx hb dX3_roster_87 (lv_at hl 0 rfl) ?_
            refine lv_lneg hx hb dX3_roster_89 ?_
            refine lv_ladd hx hb dX3_roster_90 ?_
            have hi16 := q_gd_in hf
            have hf := q_gd_go hf
            obtain ⟨S17, eS17, hf⟩ := q_let_go hf
            refine va_last hx hb hE.1 hP hD hS 1 1 rfl rfl hi16 dX3_roster_91 (fun H locs hP hD hS => ?_)
            have hP : va_P D vwCl (wMD cI cJ a (sMD_now r12 (vp_updL (MD_now r12) (((6 + (3 * p1)) + 0) : Int32).toNatClampNeg ((MD_now r12 (((6 + (3 * p1)) + 0) : Int32).toNatClampNeg) + (-v13))))) H := hP
            have hD : va_D (va_A (wMD cI cJ a S) s.heap.size) (wMD cI cJ a (sMD_now r12 (vp_updL (MD_now r12) (((6 + (3 * p1)) + 0) : Int32).toNatClampNeg ((MD_now r12 (((6 + (3 * p1)) + 0) : Int32).toNatClampNeg) + (-v13))))) := hD
            rw [eS17] at hP hD
            refine lv_aload_n hx hb dX3_roster_92 rfl (lv_at hl 1 rfl) ?_
            refine lv_iload_n hx hb dX3_roster_93 rfl (lv_at hl 2 rfl) ?_
            obtain ⟨r18, hr18, hf⟩ := q_bd_go hf
            refine q_rdVi (ci := 3) (As := [.int p1]) (rest := []) hx hb hml hown hts (c_X3_rostered l D cI cJ cS a S17 p1 _ hr18) (cwV 1 hts gX3_roster_X3_rostered rfl rfl rfl (by decide +kernel) ⟨(Nat.le_of_ble_eq_true rfl), (Nat.le_of_ble_eq_true rfl)⟩) hE hP rfl rfl rfl hl.1 rfl (Nat.le_of_ble_eq_true rfl) dX3_roster_94 ⟨Nat.zero_le _, Nat.zero_le _⟩ ?_
            have ho := q_some hf
            subst ho
            exact W.iret hx hb hr (fun t ht hW => ⟨rfl, ⟨by rw [ht]; exact hP, hD⟩, hS.F ht⟩) hS.2.2 dX3_roster_97
          · have hf := q_ite_f c15 hf
            refine lv_lload hx hb dX3_roster_82 (lv_at hl 0 rfl) ?_
            refine lv_goto (tgt := 90) hx hb dX3_roster_84 (by decide) ?_
            refine lv_ladd hx hb dX3_roster_90 ?_
            have hi19 := q_gd_in hf
            have hf := q_gd_go hf
            obtain ⟨S20, eS20, hf⟩ := q_let_go hf
            refine va_last hx hb hE.1 hP hD hS 1 1 rfl rfl hi19 dX3_roster_91 (fun H locs hP hD hS => ?_)
            have hP : va_P D vwCl (wMD cI cJ a (sMD_now r12 (vp_updL (MD_now r12) (((6 + (3 * p1)) + 0) : Int32).toNatClampNeg ((MD_now r12 (((6 + (3 * p1)) + 0) : Int32).toNatClampNeg) + v13)))) H := hP
            have hD : va_D (va_A (wMD cI cJ a S) s.heap.size) (wMD cI cJ a (sMD_now r12 (vp_updL (MD_now r12) (((6 + (3 * p1)) + 0) : Int32).toNatClampNeg ((MD_now r12 (((6 + (3 * p1)) + 0) : Int32).toNatClampNeg) + v13)))) := hD
            rw [eS20] at hP hD
            refine lv_aload_n hx hb dX3_roster_92 rfl (lv_at hl 1 rfl) ?_
            refine lv_iload_n hx hb dX3_roster_93 rfl (lv_at hl 2 rfl) ?_
            obtain ⟨r21, hr21, hf⟩ := q_bd_go hf
            refine q_rdVi (ci := 3) (As := [.int p1]) (rest := []) hx hb hml hown hts (c_X3_rostered l D cI cJ cS a S20 p1 _ hr21) (cwV 1 hts gX3_roster_X3_rostered rfl rfl rfl (by decide +kernel) ⟨(Nat.le_of_ble_eq_true rfl), (Nat.le_of_ble_eq_true rfl)⟩) hE hP rfl rfl rfl hl.1 rfl (Nat.le_of_ble_eq_true rfl) dX3_roster_94 ⟨Nat.zero_le _, Nat.zero_le _⟩ ?_
            have ho := q_some hf
            subst ho
            exact W.iret hx hb hr (fun t ht hW => ⟨rfl, ⟨by rw [ht]; exact hP, hD⟩, hS.F ht⟩) hS.2.2 dX3_roster_97
        · have hf := q_ite_f c11 hf
          refine lv_aload_n hx hb dX3_roster_48 rfl (lv_at hl 0 rfl) ?_
          refine lv_iconst (v := 3) hx hb dX3_roster_49 (by decide) ?_
          obtain ⟨S22, eS22, hf⟩ := q_let_go hf
          refine va_put (D := D) (ci := 3) (v := .int 3) (ty := .int) (C := RX3) (T := TX3) (N := 15) hx hb hu (fun _ h => h) tyX3 tyX3_ok nmX3 hown hE.1 hP hD hS 0 rfl rfl 3 (Nat.le_of_ble_eq_true rfl) (hts (.fieldLink RX3 30 "CoverMeterModel" "thrown" "I") (List.mem_of_getElem? (i := 1) rfl)) (fun _ h9 => h9) rfl (by decide +kernel) rfl rfl (Nat.le_of_ble_eq_true rfl) dX3_roster_50 (fun H locs hP hD hS => ?_)
          have hP : va_P D vwCl (wMD cI cJ a (sMD_thrown S2 3)) H := hP
          have hD : va_D (va_A (wMD cI cJ a S) s.heap.size) (wMD cI cJ a (sMD_thrown S2 3)) := hD
          rw [eS22] at hP hD
          refine lv_iconst (v := 0) hx hb dX3_roster_53 (by decide) ?_
          have ho := q_some hf
          subst ho
          exact W.iret hx hb hr (fun t ht hW => ⟨rfl, ⟨by rw [ht]; exact hP, hD⟩, hS.F ht⟩) hS.2.2 dX3_roster_54
  · have hf := q_ite_f c3 hf
    refine lv_iconst (v := 0) hx hb dX3_roster_18 (by decide) ?_
    have ho := q_some hf
    subst ho
    exact W.iret hx hb hr (fun t ht hW => ⟨rfl, ⟨by rw [ht]; exact hP, hD⟩, hS.F ht⟩) hS.2.2 dX3_roster_19
def f_X3_clearsBids_2 : Nat → MD → Int32 → Int32 → Option MD
  | 0, _, _, _ => none
  | n+1, Sz, l1, l2 => if 8 ≤ l2 then
 (some Sz)
 else ((f_X3_becomes Sz l1 (5 + l2) (-1)).bind fun r2 =>
 q_let (l2 + 1) fun v3 =>
 f_X3_clearsBids_2 n r2 l1 v3)
def f_X3_clearsBids (S : MD) (p1 : Int32) : Option MD := f_X3_clearsBids_2 2000 S p1 0
abbrev rX3_clearsBids : Room := { frames := 1, cells := 0, slots := 0, locals := 23 }
set_option maxRecDepth 100000 in
set_option maxHeartbeats 4000000 in
theorem c_X3_clearsBids (l : Launch) (D : va_G) (cI cJ cS : ClassId) (a : Nat → Nat) (S : MD) (sz : Nat) (p1 : Int32) (o : MD) (hf : f_X3_clearsBids S p1 = some o) : Met l yX3_clearsBids wsX3_clearsBids rX3_clearsBids (va_Pc [.ref (a 0), .int p1] (q_BW D cI cJ cS (wMD cI cJ a S) sz)) (q_Wo none D (wMD cI cJ a S) (wMD cI cJ a o) sz) 0 0 (va_A (wMD cI cJ a S) sz) := by
  refine Met.ofW (cc := cX3_clearsBids) (maxL := 3) (ret := none) (by decide) rfl ?_
  intro p e s m args below meth c s₁ B hml hv
  obtain ⟨rfl, hsz, hP, hE, hD0⟩ := hv
  have hx := B.exec
  have hb := B.bytes
  have hr := B.returns
  have hts := atoms_spec (ws := wsX3_clearsBids) B.pre
  have hown : s.vm.findClass RX3 = some m.cls := findClass_of_methodNamed B.named
  have hlocks := B.notSynchronized
  subst hsz
  have hD := hD0.self (sz := s.heap.size)
  have hS : va_S (va_A (wMD cI cJ a S) s.heap.size) s.heap s.heap [] := va_S.rf
  have L_2 : ∀ (n : Nat) (Sz : MD) (H : Heap) (locs : List Loc) (hP : va_P D vwCl (wMD cI cJ a Sz) H) (hD : va_D (va_A (wMD cI cJ a S) s.heap.size) (wMD cI cJ a Sz)) (hS : va_S (va_A (wMD cI cJ a S) s.heap.size) s.heap H locs) (l1 : Int32) (l2 : Int32) (ls : Array Slot), lv_has ls 3 [(0, .ref (a 0)), (1, .int l1), (2, .int l2)] → f_X3_clearsBids_2 n Sz l1 l2 = some o → W p l e (headSpec wsX3_clearsBids rX3_clearsBids).room s m (([.ref (a 0), .int p1] : List Value).toArray) below meth c H locs 0 0 (MQ below (q_Wo none D (wMD cI cJ a S) (wMD cI cJ a o) s.heap.size) (([.ref (a 0), .int p1] : List Value).toArray) s 0 0 (va_A (wMD cI cJ a S) s.heap.size)) (F0 m 2 ls []) := by
    intro n
    induction n with
    | zero => intro Sz H locs hP hD hS l1 l2 ls hl hf; cases hf
    | succ n ih =>
      intro Sz H locs hP hD hS l1 l2 ls hl hf
      rw [f_X3_clearsBids_2] at hf
      refine lv_iload_n hx hb dX3_clearsBids_2 rfl (lv_at hl 2 rfl) ?_
      refine lv_bipush (v := 8) hx hb dX3_clearsBids_3 (by decide) ?_
      refine lv_icmp_ge (tgt := 23) hx hb dX3_clearsBids_5 (by decide) (fun c1 => ?_) (fun c1 => ?_)
      · have hf := q_ite_t c1 hf
        have ho := q_some hf
        subst ho
        exact W.vret hx hb hr (fun t ht hW => ⟨rfl, ⟨by rw [ht]; exact hP, hD⟩, hS.F ht⟩) hS.2.2 dX3_clearsBids_23
      · have hf := q_ite_f c1 hf
        refine lv_aload_n hx hb dX3_clearsBids_8 rfl (lv_at hl 0 rfl) ?_
        refine lv_iload_n hx hb dX3_clearsBids_9 rfl (lv_at hl 1 rfl) ?_
        refine lv_iconst (v := 5) hx hb dX3_clearsBids_10 (by decide) ?_
        refine lv_iload_n hx hb dX3_clearsBids_11 rfl (lv_at hl 2 rfl) ?_
        refine lv_iadd hx hb dX3_clearsBids_12 ?_
        refine lv_iconst (v := (-1)) hx hb dX3_clearsBids_13 (by decide) ?_
        obtain ⟨r2, hr2, hf⟩ := q_bd_go hf
        refine q_wrVv (ci := 3) (As := [.int l1, .int (5 + l2), .int (-1)]) (rest := []) hx hb hml hown hts (c_X3_becomes l D cI cJ cS a Sz _ l1 (5 + l2) (-1) _ hr2) (cwV 3 hts gX3_clearsBids_X3_becomes rfl rfl rfl (by decide +kernel) ⟨(Nat.le_of_ble_eq_true rfl), (Nat.le_of_ble_eq_true rfl)⟩) hE hP hD hS (fun q h => Or.inr h) rfl rfl rfl hl.1 rfl (Nat.le_of_ble_eq_true rfl) dX3_clearsBids_14 ⟨Nat.zero_le _, Nat.zero_le _⟩ (fun H locs hP hD hS => ?_)
        obtain ⟨v3, ev3, hf⟩ := q_let_go hf
        refine lv_iinc (v := v3) (lv' := [(2, .int v3), (0, .ref (a 0)), (1, .int l1)]) hx hb dX3_clearsBids_17 hl (k := 2) rfl (by rw [← ev3]; rfl) (by decide) rfl (fun ls hl => ?_)
        refine lv_goto (tgt := 2) hx hb dX3_clearsBids_20 (by decide) ?_
        exact ih r2 _ _ hP hD hS l1 v3 _ (lv_sub hl [1, 2, 0] rfl) hf
  have hl := lv_entry ([.ref (a 0), .int p1]) (n := 3) (Nat.le_of_ble_eq_true rfl)
  rw [lg_entry_eq]
  generalize (lg_sl ([.ref (a 0), .int p1]) ++ List.replicate (3 - (lg_sl ([.ref (a 0), .int p1])).length) Slot.unset).toArray = ls at hl ⊢
  have hl : lv_has ls 3 [(0, .ref (a 0)), (1, .int p1)] := hl
  unfold f_X3_clearsBids at hf
  refine lv_iconst (v := 0) hx hb dX3_clearsBids_0 (by decide) ?_
  refine lv_istore_n (lv' := [(2, .int 0), (0, .ref (a 0)), (1, .int p1)]) hx hb dX3_clearsBids_1 rfl hl (by decide) rfl (fun ls hl => ?_)
  exact L_2 2000 S _ _ hP hD hS p1 0 _ (lv_sub hl [1, 2, 0] rfl) hf
def f_X3_adds (S : MD) (p1 : Int32) (p2 : Int32) : Option (Int32 × MD) := if q_in 4 420 = true then
 (q_let ((((MD_now S (4 : Int32).toNatClampNeg) : Int64).toInt32)) fun v2 =>
 if q_in 4 420 = true then
 (if q_in 4 420 = true then
 (q_let (sMD_now S (vp_updL (MD_now S) (4 : Int32).toNatClampNeg ((MD_now S (4 : Int32).toNatClampNeg) + 1))) fun S5 =>
 (f_X3_becomes S5 v2 0 p1).bind fun r6 =>
 (f_X3_becomes r6 v2 1 p2).bind fun r7 =>
 (f_X3_becomes r7 v2 2 0).bind fun r8 =>
 (f_X3_becomes r8 v2 3 (-1)).bind fun r9 =>
 (f_X3_becomes r9 v2 4 0).bind fun r10 =>
 (f_X3_clearsBids r10 v2).bind fun r11 =>
 some (v2, r11)) else none) else none) else none
abbrev rX3_adds : Room := { frames := 2, cells := 0, slots := 0, locals := 45 }
set_option maxRecDepth 100000 in
set_option maxHeartbeats 4000000 in
theorem c_X3_adds (l : Launch) (D : va_G) (cI cJ cS : ClassId) (a : Nat → Nat) (S : MD) (sz : Nat) (p1 : Int32) (p2 : Int32) (o : (Int32 × MD)) (hf : f_X3_adds S p1 p2 = some o) : Met l yX3_adds wsX3_adds rX3_adds (va_Pc [.ref (a 0), .int p1, .int p2] (q_BW D cI cJ cS (wMD cI cJ a S) sz)) (q_Wo (some (.int o.1)) D (wMD cI cJ a S) (wMD cI cJ a o.2) sz) 0 0 (va_A (wMD cI cJ a S) sz) := by
  refine Met.ofW (cc := cX3_adds) (maxL := 4) (ret := some .int) (by decide) rfl ?_
  intro p e s m args below meth c s₁ B hml hv
  obtain ⟨rfl, hsz, hP, hE, hD0⟩ := hv
  have hx := B.exec
  have hb := B.bytes
  have hr := B.returns
  have hts := atoms_spec (ws := wsX3_adds) B.pre
  have hown : s.vm.findClass RX3 = some m.cls := findClass_of_methodNamed B.named
  have hlocks := B.notSynchronized
  have hu : ∀ z ∈ wsX30, z.before _ s = true := fun z h => hts z (List.mem_cons_of_mem _ (List.mem_append_right _ h))
  subst hsz
  have hD := hD0.self (sz := s.heap.size)
  have hS : va_S (va_A (wMD cI cJ a S) s.heap.size) s.heap s.heap [] := va_S.rf
  have hl := lv_entry ([.ref (a 0), .int p1, .int p2]) (n := 4) (Nat.le_of_ble_eq_true rfl)
  rw [lg_entry_eq]
  generalize (lg_sl ([.ref (a 0), .int p1, .int p2]) ++ List.replicate (4 - (lg_sl ([.ref (a 0), .int p1, .int p2])).length) Slot.unset).toArray = ls at hl ⊢
  have hl : lv_has ls 4 [(0, .ref (a 0)), (1, .int p1), (2, .int p2)] := hl
  unfold f_X3_adds at hf
  refine lv_aload_n hx hb dX3_adds_0 rfl (lv_at hl 0 rfl) ?_
  refine va_get (D := D) (ci := 3) (v := .ref (a 1)) (C := RX3) (T := TX3) (N := 15) hx hb hu (fun _ h => h) hown hE.1 hP 0 rfl rfl 0 (Nat.le_of_ble_eq_true rfl) (hts (.fieldLink RX3 7 "CoverMeterModel" "now" "[J") (List.mem_of_getElem? (i := 1) rfl)) (fun _ h9 => h9) rfl dX3_adds_1 ?_
  refine lv_iconst (v := 4) hx hb dX3_adds_4 (by decide) ?_
  have hi1 := q_gd_in hf
  have hf := q_gd_go hf
  refine va_lald hx hb hE.1 hP 1 1 rfl rfl hi1 dX3_adds_5 ?_
  refine lv_l2i (v := (((MD_now S (4 : Int32).toNatClampNeg) : Int64).toInt32)) hx hb dX3_adds_6 rfl ?_
  obtain ⟨v2, ev2, hf⟩ := q_let_go hf
  refine q_nmi ev2 ?_
  refine lv_istore_n (lv' := [(3, .int v2), (0, .ref (a 0)), (1, .int p1), (2, .int p2)]) hx hb dX3_adds_7 rfl hl (by decide) rfl (fun ls hl => ?_)
  refine lv_aload_n hx hb dX3_adds_8 rfl (lv_at hl 1 rfl) ?_
  refine va_get (D := D) (ci := 3) (v := .ref (a 1)) (C := RX3) (T := TX3) (N := 15) hx hb hu (fun _ h => h) hown hE.1 hP 0 rfl rfl 0 (Nat.le_of_ble_eq_true rfl) (hts (.fieldLink RX3 7 "CoverMeterModel" "now" "[J") (List.mem_of_getElem? (i := 1) rfl)) (fun _ h9 => h9) rfl dX3_adds_9 ?_
  refine lv_iconst (v := 4) hx hb dX3_adds_12 (by decide) ?_
  refine lv_dup2_11 hx hb dX3_adds_13 rfl rfl ?_
  have hi3 := q_gd_in hf
  have hf := q_gd_go hf
  refine va_lald hx hb hE.1 hP 1 1 rfl rfl hi3 dX3_adds_14 ?_
  refine lv_lconst (v := 1) hx hb dX3_adds_15 (by decide) ?_
  refine lv_ladd hx hb dX3_adds_16 ?_
  have hi4 := q_gd_in hf
  have hf := q_gd_go hf
  obtain ⟨S5, eS5, hf⟩ := q_let_go hf
  refine va_last hx hb hE.1 hP hD hS 1 1 rfl rfl hi4 dX3_adds_17 (fun H locs hP hD hS => ?_)
  have hP : va_P D vwCl (wMD cI cJ a (sMD_now S (vp_updL (MD_now S) (4 : Int32).toNatClampNeg ((MD_now S (4 : Int32).toNatClampNeg) + 1)))) H := hP
  have hD : va_D (va_A (wMD cI cJ a S) s.heap.size) (wMD cI cJ a (sMD_now S (vp_updL (MD_now S) (4 : Int32).toNatClampNeg ((MD_now S (4 : Int32).toNatClampNeg) + 1)))) := hD
  rw [eS5] at hP hD
  refine lv_aload_n hx hb dX3_adds_18 rfl (lv_at hl 1 rfl) ?_
  refine lv_iload_n hx hb dX3_adds_19 rfl (lv_at hl 0 rfl) ?_
  refine lv_iconst (v := 0) hx hb dX3_adds_20 (by decide) ?_
  refine lv_iload_n hx hb dX3_adds_21 rfl (lv_at hl 2 rfl) ?_
  obtain ⟨r6, hr6, hf⟩ := q_bd_go hf
  refine q_wrVv (ci := 3) (As := [.int v2, .int 0, .int p1]) (rest := []) hx hb hml hown hts (c_X3_becomes l D cI cJ cS a S5 _ v2 0 p1 _ hr6) (cwV 3 hts gX3_adds_X3_becomes rfl rfl rfl (by decide +kernel) ⟨(Nat.le_of_ble_eq_true rfl), (Nat.le_of_ble_eq_true rfl)⟩) hE hP hD hS (fun q h => Or.inr h) rfl rfl rfl hl.1 rfl (Nat.le_of_ble_eq_true rfl) dX3_adds_22 ⟨Nat.zero_le _, Nat.zero_le _⟩ (fun H locs hP hD hS => ?_)
  refine lv_aload_n hx hb dX3_adds_25 rfl (lv_at hl 1 rfl) ?_
  refine lv_iload_n hx hb dX3_adds_26 rfl (lv_at hl 0 rfl) ?_
  refine lv_iconst (v := 1) hx hb dX3_adds_27 (by decide) ?_
  refine lv_iload_n hx hb dX3_adds_28 rfl (lv_at hl 3 rfl) ?_
  obtain ⟨r7, hr7, hf⟩ := q_bd_go hf
  refine q_wrVv (ci := 3) (As := [.int v2, .int 1, .int p2]) (rest := []) hx hb hml hown hts (c_X3_becomes l D cI cJ cS a r6 _ v2 1 p2 _ hr7) (cwV 3 hts gX3_adds_X3_becomes rfl rfl rfl (by decide +kernel) ⟨(Nat.le_of_ble_eq_true rfl), (Nat.le_of_ble_eq_true rfl)⟩) hE hP hD hS (fun q h => Or.inr h) rfl rfl rfl hl.1 rfl (Nat.le_of_ble_eq_true rfl) dX3_adds_29 ⟨Nat.zero_le _, Nat.zero_le _⟩ (fun H locs hP hD hS => ?_)
  refine lv_aload_n hx hb dX3_adds_32 rfl (lv_at hl 1 rfl) ?_
  refine lv_iload_n hx hb dX3_adds_33 rfl (lv_at hl 0 rfl) ?_
  refine lv_iconst (v := 2) hx hb dX3_adds_34 (by decide) ?_
  refine lv_iconst (v := 0) hx hb dX3_adds_35 (by decide) ?_
  obtain ⟨r8, hr8, hf⟩ := q_bd_go hf
  refine q_wrVv (ci := 3) (As := [.int v2, .int 2, .int 0]) (rest := []) hx hb hml hown hts (c_X3_becomes l D cI cJ cS a r7 _ v2 2 0 _ hr8) (cwV 3 hts gX3_adds_X3_becomes rfl rfl rfl (by decide +kernel) ⟨(Nat.le_of_ble_eq_true rfl), (Nat.le_of_ble_eq_true rfl)⟩) hE hP hD hS (fun q h => Or.inr h) rfl rfl rfl hl.1 rfl (Nat.le_of_ble_eq_true rfl) dX3_adds_36 ⟨Nat.zero_le _, Nat.zero_le _⟩ (fun H locs hP hD hS => ?_)
  refine lv_aload_n hx hb dX3_adds_39 rfl (lv_at hl 1 rfl) ?_
  refine lv_iload_n hx hb dX3_adds_40 rfl (lv_at hl 0 rfl) ?_
  refine lv_iconst (v := 3) hx hb dX3_adds_41 (by decide) ?_
  refine lv_iconst (v := (-1)) hx hb dX3_adds_42 (by decide) ?_
  obtain ⟨r9, hr9, hf⟩ := q_bd_go hf
  refine q_wrVv (ci := 3) (As := [.int v2, .int 3, .int (-1)]) (rest := []) hx hb hml hown hts (c_X3_becomes l D cI cJ cS a r8 _ v2 3 (-1) _ hr9) (cwV 3 hts gX3_adds_X3_becomes rfl rfl rfl (by decide +kernel) ⟨(Nat.le_of_ble_eq_true rfl), (Nat.le_of_ble_eq_true rfl)⟩) hE hP hD hS (fun q h => Or.inr h) rfl rfl rfl hl.1 rfl (Nat.le_of_ble_eq_true rfl) dX3_adds_43 ⟨Nat.zero_le _, Nat.zero_le _⟩ (fun H locs hP hD hS => ?_)
  refine lv_aload_n hx hb dX3_adds_46 rfl (lv_at hl 1 rfl) ?_
  refine lv_iload_n hx hb dX3_adds_47 rfl (lv_at hl 0 rfl) ?_
  refine lv_iconst (v := 4) hx hb dX3_adds_48 (by decide) ?_
  refine lv_iconst (v := 0) hx hb dX3_adds_49 (by decide) ?_
  obtain ⟨r10, hr10, hf⟩ := q_bd_go hf
  refine q_wrVv (ci := 3) (As := [.int v2, .int 4, .int 0]) (rest := []) hx hb hml hown hts (c_X3_becomes l D cI cJ cS a r9 _ v2 4 0 _ hr10) (cwV 3 hts gX3_adds_X3_becomes rfl rfl rfl (by decide +kernel) ⟨(Nat.le_of_ble_eq_true rfl), (Nat.le_of_ble_eq_true rfl)⟩) hE hP hD hS (fun q h => Or.inr h) rfl rfl rfl hl.1 rfl (Nat.le_of_ble_eq_true rfl) dX3_adds_50 ⟨Nat.zero_le _, Nat.zero_le _⟩ (fun H locs hP hD hS => ?_)
  refine lv_aload_n hx hb dX3_adds_53 rfl (lv_at hl 1 rfl) ?_
  refine lv_iload_n hx hb dX3_adds_54 rfl (lv_at hl 0 rfl) ?_
  obtain ⟨r11, hr11, hf⟩ := q_bd_go hf
  refine q_wrVv (ci := 3) (As := [.int v2]) (rest := []) hx hb hml hown hts (c_X3_clearsBids l D cI cJ cS a r10 _ v2 _ hr11) (cwV 1 hts gX3_adds_X3_clearsBids rfl rfl rfl (by decide +kernel) ⟨(Nat.le_of_ble_eq_true rfl), (Nat.le_of_ble_eq_true rfl)⟩) hE hP hD hS (fun q h => Or.inr h) rfl rfl rfl hl.1 rfl (Nat.le_of_ble_eq_true rfl) dX3_adds_55 ⟨Nat.zero_le _, Nat.zero_le _⟩ (fun H locs hP hD hS => ?_)
  refine lv_iload_n hx hb dX3_adds_58 rfl (lv_at hl 0 rfl) ?_
  have ho := q_some hf
  subst ho
  exact W.iret hx hb hr (fun t ht hW => ⟨rfl, ⟨by rw [ht]; exact hP, hD⟩, hS.F ht⟩) hS.2.2 dX3_adds_59
def f_X3_absent (S : MD) (p1 : Int32) (p2 : Int32) : Option (Int32 × MD) := (f_X3_shiftError S p1 p2 0).bind fun r1 =>
 q_let (sMD_thrown S r1) fun S2 =>
 if (MD_thrown S2) = 0 then
 ((f_X3_records S2).bind fun r4 =>
 (f_X3_adds r4 p1 p2).bind fun r5 =>
 some (r5.1, r5.2))
 else (some (0, S2))
abbrev rX3_absent : Room := { frames := 4, cells := 0, slots := 0, locals := 91 }
set_option maxRecDepth 100000 in
set_option maxHeartbeats 4000000 in
theorem c_X3_absent (l : Launch) (D : va_G) (cI cJ cS : ClassId) (a : Nat → Nat) (S : MD) (sz : Nat) (p1 : Int32) (p2 : Int32) (o : (Int32 × MD)) (hf : f_X3_absent S p1 p2 = some o) : Met l yX3_absent wsX3_absent rX3_absent (va_Pc [.ref (a 0), .int p1, .int p2] (q_BW D cI cJ cS (wMD cI cJ a S) sz)) (q_Wo (some (.int o.1)) D (wMD cI cJ a S) (wMD cI cJ a o.2) sz) 0 0 (va_A (wMD cI cJ a S) sz) := by
  refine Met.ofW (cc := cX3_absent) (maxL := 3) (ret := some .int) (by decide) rfl ?_
  intro p e s m args below meth c s₁ B hml hv
  obtain ⟨rfl, hsz, hP, hE, hD0⟩ := hv
  have hx := B.exec
  have hb := B.bytes
  have hr := B.returns
  have hts := atoms_spec (ws := wsX3_absent) B.pre
  have hown : s.vm.findClass RX3 = some m.cls := findClass_of_methodNamed B.named
  have hlocks := B.notSynchronized
  have hu : ∀ z ∈ wsX30, z.before _ s = true := fun z h => hts z (List.mem_cons_of_mem _ (List.mem_append_right _ h))
  subst hsz
  have hD := hD0.self (sz := s.heap.size)
  have hS : va_S (va_A (wMD cI cJ a S) s.heap.size) s.heap s.heap [] := va_S.rf
  have hl := lv_entry ([.ref (a 0), .int p1, .int p2]) (n := 3) (Nat.le_of_ble_eq_true rfl)
  rw [lg_entry_eq]
  generalize (lg_sl ([.ref (a 0), .int p1, .int p2]) ++ List.replicate (3 - (lg_sl ([.ref (a 0), .int p1, .int p2])).length) Slot.unset).toArray = ls at hl ⊢
  have hl : lv_has ls 3 [(0, .ref (a 0)), (1, .int p1), (2, .int p2)] := hl
  unfold f_X3_absent at hf
  refine lv_aload_n hx hb dX3_absent_0 rfl (lv_at hl 0 rfl) ?_
  refine lv_aload_n hx hb dX3_absent_1 rfl (lv_at hl 0 rfl) ?_
  refine lv_iload_n hx hb dX3_absent_2 rfl (lv_at hl 1 rfl) ?_
  refine lv_iload_n hx hb dX3_absent_3 rfl (lv_at hl 2 rfl) ?_
  refine lv_iconst (v := 0) hx hb dX3_absent_4 (by decide) ?_
  obtain ⟨r1, hr1, hf⟩ := q_bd_go hf
  refine q_rdVi (ci := 3) (As := [.int p1, .int p2, .int 0]) (rest := [.ref (a 0)]) hx hb hml hown hts (c_X3_shiftError l D cI cJ cS a S p1 p2 0 _ hr1) (cwV 3 hts gX3_absent_X3_shiftError rfl rfl rfl (by decide +kernel) ⟨(Nat.le_of_ble_eq_true rfl), (Nat.le_of_ble_eq_true rfl)⟩) hE hP rfl rfl rfl hl.1 rfl (Nat.le_of_ble_eq_true rfl) dX3_absent_5 ⟨Nat.zero_le _, Nat.zero_le _⟩ ?_
  obtain ⟨S2, eS2, hf⟩ := q_let_go hf
  refine va_put (D := D) (ci := 3) (v := .int r1) (ty := .int) (C := RX3) (T := TX3) (N := 15) hx hb hu (fun _ h => h) tyX3 tyX3_ok nmX3 hown hE.1 hP hD hS 0 rfl rfl 3 (Nat.le_of_ble_eq_true rfl) (hts (.fieldLink RX3 30 "CoverMeterModel" "thrown" "I") (List.mem_of_getElem? (i := 1) rfl)) (fun _ h9 => h9) rfl (by decide +kernel) rfl rfl (Nat.le_of_ble_eq_true rfl) dX3_absent_8 (fun H locs hP hD hS => ?_)
  have hP : va_P D vwCl (wMD cI cJ a (sMD_thrown S r1)) H := hP
  have hD : va_D (va_A (wMD cI cJ a S) s.heap.size) (wMD cI cJ a (sMD_thrown S r1)) := hD
  rw [eS2] at hP hD
  refine lv_aload_n hx hb dX3_absent_11 rfl (lv_at hl 0 rfl) ?_
  refine va_get (D := D) (ci := 3) (v := .int (MD_thrown S2)) (C := RX3) (T := TX3) (N := 15) hx hb hu (fun _ h => h) hown hE.1 hP 0 rfl rfl 3 (Nat.le_of_ble_eq_true rfl) (hts (.fieldLink RX3 30 "CoverMeterModel" "thrown" "I") (List.mem_of_getElem? (i := 1) rfl)) (fun _ h9 => h9) rfl dX3_absent_12 ?_
  refine lv_if_eq (tgt := 20) hx hb dX3_absent_15 (by decide) (fun c3 => ?_) (fun c3 => ?_)
  · have hf := q_ite_t c3 hf
    refine lv_aload_n hx hb dX3_absent_20 rfl (lv_at hl 0 rfl) ?_
    obtain ⟨r4, hr4, hf⟩ := q_bd_go hf
    refine q_wrVv (ci := 3) (As := []) (rest := []) hx hb hml hown hts (c_X3_records l D cI cJ cS a S2 _  _ hr4) (cwV 0 hts gX3_absent_X3_records rfl rfl rfl (by decide +kernel) ⟨(Nat.le_of_ble_eq_true rfl), (Nat.le_of_ble_eq_true rfl)⟩) hE hP hD hS (fun q h => Or.inr h) rfl rfl rfl hl.1 rfl (Nat.le_of_ble_eq_true rfl) dX3_absent_21 ⟨Nat.zero_le _, Nat.zero_le _⟩ (fun H locs hP hD hS => ?_)
    refine lv_aload_n hx hb dX3_absent_24 rfl (lv_at hl 0 rfl) ?_
    refine lv_iload_n hx hb dX3_absent_25 rfl (lv_at hl 1 rfl) ?_
    refine lv_iload_n hx hb dX3_absent_26 rfl (lv_at hl 2 rfl) ?_
    obtain ⟨r5, hr5, hf⟩ := q_bd_go hf
    refine q_wrVi (ci := 3) (As := [.int p1, .int p2]) (rest := []) hx hb hml hown hts (c_X3_adds l D cI cJ cS a r4 _ p1 p2 _ hr5) (cwV 2 hts gX3_absent_X3_adds rfl rfl rfl (by decide +kernel) ⟨(Nat.le_of_ble_eq_true rfl), (Nat.le_of_ble_eq_true rfl)⟩) hE hP hD hS (fun q h => Or.inr h) rfl rfl rfl hl.1 rfl (Nat.le_of_ble_eq_true rfl) dX3_absent_27 ⟨Nat.zero_le _, Nat.zero_le _⟩ (fun H locs hP hD hS => ?_)
    have ho := q_some hf
    subst ho
    exact W.iret hx hb hr (fun t ht hW => ⟨rfl, ⟨by rw [ht]; exact hP, hD⟩, hS.F ht⟩) hS.2.2 dX3_absent_30
  · have hf := q_ite_f c3 hf
    refine lv_iconst (v := 0) hx hb dX3_absent_18 (by decide) ?_
    have ho := q_some hf
    subst ho
    exact W.iret hx hb hr (fun t ht hW => ⟨rfl, ⟨by rw [ht]; exact hP, hD⟩, hS.F ht⟩) hS.2.2 dX3_absent_19
def f_X3_bids_4 (S : MD) : Nat → Int32 → Int32 → Int32 → Option Int32
  | 0, _, _, _ => none
  | n+1, l1, l2, l3 => if 8 ≤ l3 then
 (some l2)
 else ((f_X3_ofA S l1 (5 + l3)).bind fun r2 =>
 if r2 = (-1) then
 (q_let ((l2 + 0)) fun v4 =>
 q_let (l3 + 1) fun v5 =>
 f_X3_bids_4 S n l1 v4 v5)
 else (q_let ((l2 + 1)) fun v6 =>
 q_let (l3 + 1) fun v7 =>
 f_X3_bids_4 S n l1 v6 v7))
def f_X3_bids (S : MD) (p1 : Int32) : Option Int32 := f_X3_bids_4 S 2000 p1 0 0
abbrev rX3_bids : Room := { frames := 1, cells := 0, slots := 0, locals := 22 }
set_option maxRecDepth 100000 in
set_option maxHeartbeats 4000000 in
theorem c_X3_bids (l : Launch) (D : va_G) (cI cJ cS : ClassId) (a : Nat → Nat) (S : MD) (p1 : Int32) (o : Int32) (hf : f_X3_bids S p1 = some o) : Met l yX3_bids wsX3_bids rX3_bids (va_Pc [.ref (a 0), .int p1] (q_B D cI cJ cS (wMD cI cJ a S))) (q_Ri o) 0 0 (fun _ => False) := by
  refine Met.ofW (cc := cX3_bids) (maxL := 4) (ret := some .int) (by decide) rfl ?_
  intro p e s m args below meth c s₁ B hml hv
  obtain ⟨rfl, hP, hE⟩ := hv
  have hx := B.exec
  have hb := B.bytes
  have hr := B.returns
  have hts := atoms_spec (ws := wsX3_bids) B.pre
  have hown : s.vm.findClass RX3 = some m.cls := findClass_of_methodNamed B.named
  have hlocks := B.notSynchronized
  have L_4 : ∀ (n : Nat) (l1 : Int32) (l2 : Int32) (l3 : Int32) (ls : Array Slot), lv_has ls 4 [(0, .ref (a 0)), (1, .int l1), (2, .int l2), (3, .int l3)] → f_X3_bids_4 S n l1 l2 l3 = some o → W p l e (headSpec wsX3_bids rX3_bids).room s m (([.ref (a 0), .int p1] : List Value).toArray) below meth c s.heap [] 0 0 (MQ below (q_Ri o) (([.ref (a 0), .int p1] : List Value).toArray) s 0 0 (fun _ => False)) (F0 m 4 ls []) := by
    intro n
    induction n with
    | zero => intro l1 l2 l3 ls hl hf; cases hf
    | succ n ih =>
      intro l1 l2 l3 ls hl hf
      rw [f_X3_bids_4] at hf
      refine lv_iload_n hx hb dX3_bids_4 rfl (lv_at hl 3 rfl) ?_
      refine lv_bipush (v := 8) hx hb dX3_bids_5 (by decide) ?_
      refine lv_icmp_ge (tgt := 36) hx hb dX3_bids_7 (by decide) (fun c1 => ?_) (fun c1 => ?_)
      · have hf := q_ite_t c1 hf
        refine lv_iload_n hx hb dX3_bids_36 rfl (lv_at hl 2 rfl) ?_
        have ho := q_some hf
        subst ho
        exact W.iret hx hb hr (fun t ht hW => ⟨rfl, ht⟩) t_nil dX3_bids_37
      · have hf := q_ite_f c1 hf
        refine lv_iload_n hx hb dX3_bids_10 rfl (lv_at hl 2 rfl) ?_
        refine lv_aload_n hx hb dX3_bids_11 rfl (lv_at hl 0 rfl) ?_
        refine lv_iload_n hx hb dX3_bids_12 rfl (lv_at hl 1 rfl) ?_
        refine lv_iconst (v := 5) hx hb dX3_bids_13 (by decide) ?_
        refine lv_iload_n hx hb dX3_bids_14 rfl (lv_at hl 3 rfl) ?_
        refine lv_iadd hx hb dX3_bids_15 ?_
        obtain ⟨r2, hr2, hf⟩ := q_bd_go hf
        refine q_rdVi (ci := 3) (As := [.int l1, .int (5 + l3)]) (rest := [.int l2]) hx hb hml hown hts (c_X3_ofA l D cI cJ cS a S l1 (5 + l3) _ hr2) (cwV 2 hts gX3_bids_X3_ofA rfl rfl rfl (by decide +kernel) ⟨(Nat.le_of_ble_eq_true rfl), (Nat.le_of_ble_eq_true rfl)⟩) hE hP rfl rfl rfl hl.1 rfl (Nat.le_of_ble_eq_true rfl) dX3_bids_16 ⟨Nat.zero_le _, Nat.zero_le _⟩ ?_
        refine lv_iconst (v := (-1)) hx hb dX3_bids_19 (by decide) ?_
        refine lv_icmp_eq (tgt := 27) hx hb dX3_bids_20 (by decide) (fun c3 => ?_) (fun c3 => ?_)
        · have hf := q_ite_t c3 hf
          refine lv_iconst (v := 0) hx hb dX3_bids_27 (by decide) ?_
          refine lv_iadd hx hb dX3_bids_28 ?_
          obtain ⟨v4, ev4, hf⟩ := q_let_go hf
          refine q_nmi ev4 ?_
          refine lv_istore_n (lv' := [(2, .int v4), (0, .ref (a 0)), (1, .int l1), (3, .int l3)]) hx hb dX3_bids_29 rfl hl (by decide) rfl (fun ls hl => ?_)
          obtain ⟨v5, ev5, hf⟩ := q_let_go hf
          refine lv_iinc (v := v5) (lv' := [(3, .int v5), (2, .int v4), (0, .ref (a 0)), (1, .int l1)]) hx hb dX3_bids_30 hl (k := 3) rfl (by rw [← ev5]; rfl) (by decide) rfl (fun ls hl => ?_)
          refine lv_goto (tgt := 4) hx hb dX3_bids_33 (by decide) ?_
          exact ih l1 v4 v5 _ (lv_sub hl [2, 3, 1, 0] rfl) hf
        · have hf := q_ite_f c3 hf
          refine lv_iconst (v := 1) hx hb dX3_bids_23 (by decide) ?_
          refine lv_goto (tgt := 28) hx hb dX3_bids_24 (by decide) ?_
          refine lv_iadd hx hb dX3_bids_28 ?_
          obtain ⟨v6, ev6, hf⟩ := q_let_go hf
          refine q_nmi ev6 ?_
          refine lv_istore_n (lv' := [(2, .int v6), (0, .ref (a 0)), (1, .int l1), (3, .int l3)]) hx hb dX3_bids_29 rfl hl (by decide) rfl (fun ls hl => ?_)
          obtain ⟨v7, ev7, hf⟩ := q_let_go hf
          refine lv_iinc (v := v7) (lv' := [(3, .int v7), (2, .int v6), (0, .ref (a 0)), (1, .int l1)]) hx hb dX3_bids_30 hl (k := 3) rfl (by rw [← ev7]; rfl) (by decide) rfl (fun ls hl => ?_)
          refine lv_goto (tgt := 4) hx hb dX3_bids_33 (by decide) ?_
          exact ih l1 v6 v7 _ (lv_sub hl [2, 3, 1, 0] rfl) hf
  have hl := lv_entry ([.ref (a 0), .int p1]) (n := 4) (Nat.le_of_ble_eq_true rfl)
  rw [lg_entry_eq]
  generalize (lg_sl ([.ref (a 0), .int p1]) ++ List.replicate (4 - (lg_sl ([.ref (a 0), .int p1])).length) Slot.unset).toArray = ls at hl ⊢
  have hl : lv_has ls 4 [(0, .ref (a 0)), (1, .int p1)] := hl
  unfold f_X3_bids at hf
  refine lv_iconst (v := 0) hx hb dX3_bids_0 (by decide) ?_
  refine lv_istore_n (lv' := [(2, .int 0), (0, .ref (a 0)), (1, .int p1)]) hx hb dX3_bids_1 rfl hl (by decide) rfl (fun ls hl => ?_)
  refine lv_iconst (v := 0) hx hb dX3_bids_2 (by decide) ?_
  refine lv_istore_n (lv' := [(3, .int 0), (2, .int 0), (0, .ref (a 0)), (1, .int p1)]) hx hb dX3_bids_3 rfl hl (by decide) rfl (fun ls hl => ?_)
  exact L_4 2000 p1 0 0 _ (lv_sub hl [2, 3, 1, 0] rfl) hf
def f_X3_mayBid (S : MD) (p1 : Int32) (p2 : Int32) : Option Int32 := (f_X3_ofA S p2 2).bind fun r1 =>
 if ¬ r1 = 0 then
 (some 0)
 else ((f_X3_ofA S p2 0).bind fun r3 =>
 if r3 = p1 then
 (some 0)
 else (some 1))
abbrev rX3_mayBid : Room := { frames := 1, cells := 0, slots := 0, locals := 22 }
set_option maxRecDepth 100000 in
set_option maxHeartbeats 4000000 in
theorem c_X3_mayBid (l : Launch) (D : va_G) (cI cJ cS : ClassId) (a : Nat → Nat) (S : MD) (p1 : Int32) (p2 : Int32) (o : Int32) (hf : f_X3_mayBid S p1 p2 = some o) : Met l yX3_mayBid wsX3_mayBid rX3_mayBid (va_Pc [.ref (a 0), .int p1, .int p2] (q_B D cI cJ cS (wMD cI cJ a S))) (q_Ri o) 0 0 (fun _ => False) := by
  refine Met.ofW (cc := cX3_mayBid) (maxL := 3) (ret := some .boolean) (by decide) rfl ?_
  intro p e s m args below meth c s₁ B hml hv
  obtain ⟨rfl, hP, hE⟩ := hv
  have hx := B.exec
  have hb := B.bytes
  have hr := B.returns
  have hts := atoms_spec (ws := wsX3_mayBid) B.pre
  have hown : s.vm.findClass RX3 = some m.cls := findClass_of_methodNamed B.named
  have hlocks := B.notSynchronized
  have hl := lv_entry ([.ref (a 0), .int p1, .int p2]) (n := 3) (Nat.le_of_ble_eq_true rfl)
  rw [lg_entry_eq]
  generalize (lg_sl ([.ref (a 0), .int p1, .int p2]) ++ List.replicate (3 - (lg_sl ([.ref (a 0), .int p1, .int p2])).length) Slot.unset).toArray = ls at hl ⊢
  have hl : lv_has ls 3 [(0, .ref (a 0)), (1, .int p1), (2, .int p2)] := hl
  unfold f_X3_mayBid at hf
  refine lv_aload_n hx hb dX3_mayBid_0 rfl (lv_at hl 0 rfl) ?_
  refine lv_iload_n hx hb dX3_mayBid_1 rfl (lv_at hl 2 rfl) ?_
  refine lv_iconst (v := 2) hx hb dX3_mayBid_2 (by decide) ?_
  obtain ⟨r1, hr1, hf⟩ := q_bd_go hf
  refine q_rdVi (ci := 3) (As := [.int p2, .int 2]) (rest := []) hx hb hml hown hts (c_X3_ofA l D cI cJ cS a S p2 2 _ hr1) (cwV 2 hts gX3_mayBid_X3_ofA rfl rfl rfl (by decide +kernel) ⟨(Nat.le_of_ble_eq_true rfl), (Nat.le_of_ble_eq_true rfl)⟩) hE hP rfl rfl rfl hl.1 rfl (Nat.le_of_ble_eq_true rfl) dX3_mayBid_3 ⟨Nat.zero_le _, Nat.zero_le _⟩ ?_
  refine lv_if_ne (tgt := 23) hx hb dX3_mayBid_6 (by decide) (fun c2 => ?_) (fun c2 => ?_)
  · have hf := q_ite_t c2 hf
    refine lv_iconst (v := 0) hx hb dX3_mayBid_23 (by decide) ?_
    have ho := q_some hf
    subst ho
    exact W.zret hx hb hr rfl (fun t ht hW => ⟨rfl, ht⟩) t_nil dX3_mayBid_24
  · have hf := q_ite_n c2 hf
    refine lv_aload_n hx hb dX3_mayBid_9 rfl (lv_at hl 0 rfl) ?_
    refine lv_iload_n hx hb dX3_mayBid_10 rfl (lv_at hl 2 rfl) ?_
    refine lv_iconst (v := 0) hx hb dX3_mayBid_11 (by decide) ?_
    obtain ⟨r3, hr3, hf⟩ := q_bd_go hf
    refine q_rdVi (ci := 3) (As := [.int p2, .int 0]) (rest := []) hx hb hml hown hts (c_X3_ofA l D cI cJ cS a S p2 0 _ hr3) (cwV 2 hts gX3_mayBid_X3_ofA rfl rfl rfl (by decide +kernel) ⟨(Nat.le_of_ble_eq_true rfl), (Nat.le_of_ble_eq_true rfl)⟩) hE hP rfl rfl rfl hl.1 rfl (Nat.le_of_ble_eq_true rfl) dX3_mayBid_12 ⟨Nat.zero_le _, Nat.zero_le _⟩ ?_
    refine lv_iload_n hx hb dX3_mayBid_15 rfl (lv_at hl 1 rfl) ?_
    refine lv_icmp_eq (tgt := 23) hx hb dX3_mayBid_16 (by decide) (fun c4 => ?_) (fun c4 => ?_)
    · have hf := q_ite_t c4 hf
      refine lv_iconst (v := 0) hx hb dX3_mayBid_23 (by decide) ?_
      have ho := q_some hf
      subst ho
      exact W.zret hx hb hr rfl (fun t ht hW => ⟨rfl, ht⟩) t_nil dX3_mayBid_24
    · have hf := q_ite_f c4 hf
      refine lv_iconst (v := 1) hx hb dX3_mayBid_19 (by decide) ?_
      refine lv_goto (tgt := 24) hx hb dX3_mayBid_20 (by decide) ?_
      have ho := q_some hf
      subst ho
      exact W.zret hx hb hr rfl (fun t ht hW => ⟨rfl, ht⟩) t_nil dX3_mayBid_24
def f_X3_bid_47 (Sz : MD) (l1 : Int32) (l2 : Int32) (l3 : Int32) (t0 : Int32) : Option (Int32 × MD) := q_let (sMD_thrown Sz t0) fun S8 =>
 if (MD_thrown S8) = 0 then
 ((f_X3_records S8).bind fun r10 =>
 (f_X3_becomes r10 l2 (5 + l1) l3).bind fun r11 =>
 (f_X3_bids r11 l2).bind fun r12 =>
 some (r12, r11))
 else (some (0, S8))
def f_X3_bid (S : MD) (p1 : Int32) (p2 : Int32) (p3 : Int32) : Option (Int32 × MD) := (f_X3_areThere S p1 p2).bind fun r1 =>
 if ¬ r1 = 0 then
 (if q_in 2 420 = true then
 ((f_X3_isIn ((p3 : Int32).toInt64) 0 (MD_now S (2 : Int32).toNatClampNeg)).bind fun r4 =>
 if ¬ r4 = 0 then
 ((f_X3_mayBid S p1 p2).bind fun r6 =>
 if r6 = 0 then
 (f_X3_bid_47 S p1 p2 p3 3)
 else (f_X3_bid_47 S p1 p2 p3 0))
 else (f_X3_bid_47 S p1 p2 p3 2)) else none)
 else (f_X3_bid_47 S p1 p2 p3 1)
abbrev rX3_bid : Room := { frames := 3, cells := 0, slots := 0, locals := 68 }
set_option maxRecDepth 100000 in
set_option maxHeartbeats 4000000 in
theorem c_X3_bid (l : Launch) (D : va_G) (cI cJ cS : ClassId) (a : Nat → Nat) (S : MD) (sz : Nat) (p1 : Int32) (p2 : Int32) (p3 : Int32) (o : (Int32 × MD)) (hf : f_X3_bid S p1 p2 p3 = some o) : Met l yX3_bid wsX3_bid rX3_bid (va_Pc [.ref (a 0), .int p1, .int p2, .int p3] (q_BW D cI cJ cS (wMD cI cJ a S) sz)) (q_Wo (some (.int o.1)) D (wMD cI cJ a S) (wMD cI cJ a o.2) sz) 0 0 (va_A (wMD cI cJ a S) sz) := by
  refine Met.ofW (cc := cX3_bid) (maxL := 4) (ret := some .int) (by decide) rfl ?_
  intro p e s m args below meth c s₁ B hml hv
  obtain ⟨rfl, hsz, hP, hE, hD0⟩ := hv
  have hx := B.exec
  have hb := B.bytes
  have hr := B.returns
  have hts := atoms_spec (ws := wsX3_bid) B.pre
  have hown : s.vm.findClass RX3 = some m.cls := findClass_of_methodNamed B.named
  have hlocks := B.notSynchronized
  have hu : ∀ z ∈ wsX30, z.before _ s = true := fun z h => hts z (List.mem_cons_of_mem _ (List.mem_append_right _ h))
  subst hsz
  have hD := hD0.self (sz := s.heap.size)
  have hS : va_S (va_A (wMD cI cJ a S) s.heap.size) s.heap s.heap [] := va_S.rf
  have B_47 : ∀ (Sz : MD) (H : Heap) (locs : List Loc) (hP : va_P D vwCl (wMD cI cJ a Sz) H) (hD : va_D (va_A (wMD cI cJ a S) s.heap.size) (wMD cI cJ a Sz)) (hS : va_S (va_A (wMD cI cJ a S) s.heap.size) s.heap H locs) (l1 : Int32) (l2 : Int32) (l3 : Int32) (t0 : Int32) (ls : Array Slot), lv_has ls 4 [(0, .ref (a 0)), (1, .int l1), (2, .int l2), (3, .int l3)] → f_X3_bid_47 Sz l1 l2 l3 t0 = some o → W p l e (headSpec wsX3_bid rX3_bid).room s m (([.ref (a 0), .int p1, .int p2, .int p3] : List Value).toArray) below meth c H locs 0 0 (MQ below (q_Wo (some (.int o.1)) D (wMD cI cJ a S) (wMD cI cJ a o.2) s.heap.size) (([.ref (a 0), .int p1, .int p2, .int p3] : List Value).toArray) s 0 0 (va_A (wMD cI cJ a S) s.heap.size)) (F0 m 47 ls [.int t0, .ref (a 0)]) := by
    intro Sz H locs hP hD hS l1 l2 l3 t0 ls hl hf
    unfold f_X3_bid_47 at hf
    obtain ⟨S8, eS8, hf⟩ := q_let_go hf
    refine va_put (D := D) (ci := 3) (v := .int t0) (ty := .int) (C := RX3) (T := TX3) (N := 15) hx hb hu (fun _ h => h) tyX3 tyX3_ok nmX3 hown hE.1 hP hD hS 0 rfl rfl 3 (Nat.le_of_ble_eq_true rfl) (hts (.fieldLink RX3 30 "CoverMeterModel" "thrown" "I") (List.mem_of_getElem? (i := 2) rfl)) (fun _ h9 => h9) rfl (by decide +kernel) rfl rfl (Nat.le_of_ble_eq_true rfl) dX3_bid_47 (fun H locs hP hD hS => ?_)
    have hP : va_P D vwCl (wMD cI cJ a (sMD_thrown Sz t0)) H := hP
    have hD : va_D (va_A (wMD cI cJ a S) s.heap.size) (wMD cI cJ a (sMD_thrown Sz t0)) := hD
    rw [eS8] at hP hD
    refine lv_aload_n hx hb dX3_bid_50 rfl (lv_at hl 0 rfl) ?_
    refine va_get (D := D) (ci := 3) (v := .int (MD_thrown S8)) (C := RX3) (T := TX3) (N := 15) hx hb hu (fun _ h => h) hown hE.1 hP 0 rfl rfl 3 (Nat.le_of_ble_eq_true rfl) (hts (.fieldLink RX3 30 "CoverMeterModel" "thrown" "I") (List.mem_of_getElem? (i := 2) rfl)) (fun _ h9 => h9) rfl dX3_bid_51 ?_
    refine lv_if_eq (tgt := 59) hx hb dX3_bid_54 (by decide) (fun c9 => ?_) (fun c9 => ?_)
    · have hf := q_ite_t c9 hf
      refine lv_aload_n hx hb dX3_bid_59 rfl (lv_at hl 0 rfl) ?_
      obtain ⟨r10, hr10, hf⟩ := q_bd_go hf
      refine q_wrVv (ci := 3) (As := []) (rest := []) hx hb hml hown hts (c_X3_records l D cI cJ cS a S8 _  _ hr10) (cwV 0 hts gX3_bid_X3_records rfl rfl rfl (by decide +kernel) ⟨(Nat.le_of_ble_eq_true rfl), (Nat.le_of_ble_eq_true rfl)⟩) hE hP hD hS (fun q h => Or.inr h) rfl rfl rfl hl.1 rfl (Nat.le_of_ble_eq_true rfl) dX3_bid_60 ⟨Nat.zero_le _, Nat.zero_le _⟩ (fun H locs hP hD hS => ?_)
      refine lv_aload_n hx hb dX3_bid_63 rfl (lv_at hl 0 rfl) ?_
      refine lv_iload_n hx hb dX3_bid_64 rfl (lv_at hl 2 rfl) ?_
      refine lv_iconst (v := 5) hx hb dX3_bid_65 (by decide) ?_
      refine lv_iload_n hx hb dX3_bid_66 rfl (lv_at hl 1 rfl) ?_
      refine lv_iadd hx hb dX3_bid_67 ?_
      refine lv_iload_n hx hb dX3_bid_68 rfl (lv_at hl 3 rfl) ?_
      obtain ⟨r11, hr11, hf⟩ := q_bd_go hf
      refine q_wrVv (ci := 3) (As := [.int l2, .int (5 + l1), .int l3]) (rest := []) hx hb hml hown hts (c_X3_becomes l D cI cJ cS a r10 _ l2 (5 + l1) l3 _ hr11) (cwV 3 hts gX3_bid_X3_becomes rfl rfl rfl (by decide +kernel) ⟨(Nat.le_of_ble_eq_true rfl), (Nat.le_of_ble_eq_true rfl)⟩) hE hP hD hS (fun q h => Or.inr h) rfl rfl rfl hl.1 rfl (Nat.le_of_ble_eq_true rfl) dX3_bid_69 ⟨Nat.zero_le _, Nat.zero_le _⟩ (fun H locs hP hD hS => ?_)
      refine lv_aload_n hx hb dX3_bid_72 rfl (lv_at hl 0 rfl) ?_
      refine lv_iload_n hx hb dX3_bid_73 rfl (lv_at hl 2 rfl) ?_
      obtain ⟨r12, hr12, hf⟩ := q_bd_go hf
      refine q_rdVi (ci := 3) (As := [.int l2]) (rest := []) hx hb hml hown hts (c_X3_bids l D cI cJ cS a r11 l2 _ hr12) (cwV 1 hts gX3_bid_X3_bids rfl rfl rfl (by decide +kernel) ⟨(Nat.le_of_ble_eq_true rfl), (Nat.le_of_ble_eq_true rfl)⟩) hE hP rfl rfl rfl hl.1 rfl (Nat.le_of_ble_eq_true rfl) dX3_bid_74 ⟨Nat.zero_le _, Nat.zero_le _⟩ ?_
      have ho := q_some hf
      subst ho
      exact W.iret hx hb hr (fun t ht hW => ⟨rfl, ⟨by rw [ht]; exact hP, hD⟩, hS.F ht⟩) hS.2.2 dX3_bid_77
    · have hf := q_ite_f c9 hf
      refine lv_iconst (v := 0) hx hb dX3_bid_57 (by decide) ?_
      have ho := q_some hf
      subst ho
      exact W.iret hx hb hr (fun t ht hW => ⟨rfl, ⟨by rw [ht]; exact hP, hD⟩, hS.F ht⟩) hS.2.2 dX3_bid_58
  have hl := lv_entry ([.ref (a 0), .int p1, .int p2, .int p3]) (n := 4) (Nat.le_of_ble_eq_true rfl)
  rw [lg_entry_eq]
  generalize (lg_sl ([.ref (a 0), .int p1, .int p2, .int p3]) ++ List.replicate (4 - (lg_sl ([.ref (a 0), .int p1, .int p2, .int p3])).length) Slot.unset).toArray = ls at hl ⊢
  have hl : lv_has ls 4 [(0, .ref (a 0)), (1, .int p1), (2, .int p2), (3, .int p3)] := hl
  unfold f_X3_bid at hf
  refine lv_aload_n hx hb dX3_bid_0 rfl (lv_at hl 0 rfl) ?_
  refine lv_aload_n hx hb dX3_bid_1 rfl (lv_at hl 0 rfl) ?_
  refine lv_iload_n hx hb dX3_bid_2 rfl (lv_at hl 1 rfl) ?_
  refine lv_iload_n hx hb dX3_bid_3 rfl (lv_at hl 2 rfl) ?_
  obtain ⟨r1, hr1, hf⟩ := q_bd_go hf
  refine q_rdVi (ci := 3) (As := [.int p1, .int p2]) (rest := [.ref (a 0)]) hx hb hml hown hts (c_X3_areThere l D cI cJ cS a S p1 p2 _ hr1) (cwV 2 hts gX3_bid_X3_areThere rfl rfl rfl (by decide +kernel) ⟨(Nat.le_of_ble_eq_true rfl), (Nat.le_of_ble_eq_true rfl)⟩) hE hP rfl rfl rfl hl.1 rfl (Nat.le_of_ble_eq_true rfl) dX3_bid_4 ⟨Nat.zero_le _, Nat.zero_le _⟩ ?_
  refine lv_if_ne (tgt := 14) hx hb dX3_bid_7 (by decide) (fun c2 => ?_) (fun c2 => ?_)
  · have hf := q_ite_t c2 hf
    refine lv_iload_n hx hb dX3_bid_14 rfl (lv_at hl 3 rfl) ?_
    refine lv_i2l (v := ((p3 : Int32).toInt64)) hx hb dX3_bid_15 rfl ?_
    refine lv_lconst (v := 0) hx hb dX3_bid_16 (by decide) ?_
    refine lv_aload_n hx hb dX3_bid_17 rfl (lv_at hl 0 rfl) ?_
    refine va_get (D := D) (ci := 3) (v := .ref (a 1)) (C := RX3) (T := TX3) (N := 15) hx hb hu (fun _ h => h) hown hE.1 hP 0 rfl rfl 0 (Nat.le_of_ble_eq_true rfl) (hts (.fieldLink RX3 7 "CoverMeterModel" "now" "[J") (List.mem_of_getElem? (i := 1) rfl)) (fun _ h9 => h9) rfl dX3_bid_18 ?_
    refine lv_iconst (v := 2) hx hb dX3_bid_21 (by decide) ?_
    have hi3 := q_gd_in hf
    have hf := q_gd_go hf
    refine va_lald hx hb hE.1 hP 1 1 rfl rfl hi3 dX3_bid_22 ?_
    obtain ⟨r4, hr4, hf⟩ := q_bd_go hf
    refine q_rdSi (As := [.long ((p3 : Int32).toInt64), .long 0, .long (MD_now S (2 : Int32).toNatClampNeg)]) (rest := [.ref (a 0)]) hx hb hml hown hts (c_X3_isIn l D cI cJ cS ((p3 : Int32).toInt64) 0 (MD_now S (2 : Int32).toNatClampNeg) _ hr4) (va_cwS 3 hts gX3_bid_X3_isIn rfl rfl rfl (by decide +kernel) ⟨(Nat.le_of_ble_eq_true rfl), (Nat.le_of_ble_eq_true rfl)⟩) hE rfl hl.1 rfl (Nat.le_of_ble_eq_true rfl) dX3_bid_23 ⟨Nat.zero_le _, Nat.zero_le _⟩ ?_
    refine lv_if_ne (tgt := 33) hx hb dX3_bid_26 (by decide) (fun c5 => ?_) (fun c5 => ?_)
    · have hf := q_ite_t c5 hf
      refine lv_aload_n hx hb dX3_bid_33 rfl (lv_at hl 0 rfl) ?_
      refine lv_iload_n hx hb dX3_bid_34 rfl (lv_at hl 1 rfl) ?_
      refine lv_iload_n hx hb dX3_bid_35 rfl (lv_at hl 2 rfl) ?_
      obtain ⟨r6, hr6, hf⟩ := q_bd_go hf
      refine q_rdVi (ci := 3) (As := [.int p1, .int p2]) (rest := [.ref (a 0)]) hx hb hml hown hts (c_X3_mayBid l D cI cJ cS a S p1 p2 _ hr6) (cwV 2 hts gX3_bid_X3_mayBid rfl rfl rfl (by decide +kernel) ⟨(Nat.le_of_ble_eq_true rfl), (Nat.le_of_ble_eq_true rfl)⟩) hE hP rfl rfl rfl hl.1 rfl (Nat.le_of_ble_eq_true rfl) dX3_bid_36 ⟨Nat.zero_le _, Nat.zero_le _⟩ ?_
      refine lv_if_eq (tgt := 46) hx hb dX3_bid_39 (by decide) (fun c7 => ?_) (fun c7 => ?_)
      · have hf := q_ite_t c7 hf
        refine lv_iconst (v := 3) hx hb dX3_bid_46 (by decide) ?_
        exact B_47 S _ _ hP hD hS p1 p2 p3 3 _ (lv_sub hl [0, 1, 2, 3] rfl) hf
      · have hf := q_ite_f c7 hf
        refine lv_iconst (v := 0) hx hb dX3_bid_42 (by decide) ?_
        refine lv_goto (tgt := 47) hx hb dX3_bid_43 (by decide) ?_
        exact B_47 S _ _ hP hD hS p1 p2 p3 0 _ (lv_sub hl [0, 1, 2, 3] rfl) hf
    · have hf := q_ite_n c5 hf
      refine lv_iconst (v := 2) hx hb dX3_bid_29 (by decide) ?_
      refine lv_goto (tgt := 47) hx hb dX3_bid_30 (by decide) ?_
      exact B_47 S _ _ hP hD hS p1 p2 p3 2 _ (lv_sub hl [0, 1, 2, 3] rfl) hf
  · have hf := q_ite_n c2 hf
    refine lv_iconst (v := 1) hx hb dX3_bid_10 (by decide) ?_
    refine lv_goto (tgt := 47) hx hb dX3_bid_11 (by decide) ?_
    exact B_47 S _ _ hP hD hS p1 p2 p3 1 _ (lv_sub hl [0, 1, 2, 3] rfl) hf
def f_X3_takeBack_31 (Sz : MD) (l1 : Int32) (l2 : Int32) (t0 : Int32) : Option (Int32 × MD) := q_let (sMD_thrown Sz t0) fun S5 =>
 if (MD_thrown S5) = 0 then
 ((f_X3_ofA S5 l2 (5 + l1)).bind fun r7 =>
 (f_X3_records S5).bind fun r8 =>
 (f_X3_becomes r8 l2 (5 + l1) (-1)).bind fun r9 =>
 some (r7, r9))
 else (some (0, S5))
def f_X3_takeBack (S : MD) (p1 : Int32) (p2 : Int32) : Option (Int32 × MD) := (f_X3_areThere S p1 p2).bind fun r1 =>
 if ¬ r1 = 0 then
 ((f_X3_ofA S p2 (5 + p1)).bind fun r3 =>
 if r3 = (-1) then
 (f_X3_takeBack_31 S p1 p2 2)
 else (f_X3_takeBack_31 S p1 p2 0))
 else (f_X3_takeBack_31 S p1 p2 1)
abbrev rX3_takeBack : Room := { frames := 3, cells := 0, slots := 0, locals := 68 }
set_option maxRecDepth 100000 in
set_option maxHeartbeats 4000000 in
theorem c_X3_takeBack (l : Launch) (D : va_G) (cI cJ cS : ClassId) (a : Nat → Nat) (S : MD) (sz : Nat) (p1 : Int32) (p2 : Int32) (o : (Int32 × MD)) (hf : f_X3_takeBack S p1 p2 = some o) : Met l yX3_takeBack wsX3_takeBack rX3_takeBack (va_Pc [.ref (a 0), .int p1, .int p2] (q_BW D cI cJ cS (wMD cI cJ a S) sz)) (q_Wo (some (.int o.1)) D (wMD cI cJ a S) (wMD cI cJ a o.2) sz) 0 0 (va_A (wMD cI cJ a S) sz) := by
  refine Met.ofW (cc := cX3_takeBack) (maxL := 4) (ret := some .int) (by decide) rfl ?_
  intro p e s m args below meth c s₁ B hml hv
  obtain ⟨rfl, hsz, hP, hE, hD0⟩ := hv
  have hx := B.exec
  have hb := B.bytes
  have hr := B.returns
  have hts := atoms_spec (ws := wsX3_takeBack) B.pre
  have hown : s.vm.findClass RX3 = some m.cls := findClass_of_methodNamed B.named
  have hlocks := B.notSynchronized
  have hu : ∀ z ∈ wsX30, z.before _ s = true := fun z h => hts z (List.mem_cons_of_mem _ (List.mem_append_right _ h))
  subst hsz
  have hD := hD0.self (sz := s.heap.size)
  have hS : va_S (va_A (wMD cI cJ a S) s.heap.size) s.heap s.heap [] := va_S.rf
  have B_31 : ∀ (Sz : MD) (H : Heap) (locs : List Loc) (hP : va_P D vwCl (wMD cI cJ a Sz) H) (hD : va_D (va_A (wMD cI cJ a S) s.heap.size) (wMD cI cJ a Sz)) (hS : va_S (va_A (wMD cI cJ a S) s.heap.size) s.heap H locs) (l1 : Int32) (l2 : Int32) (t0 : Int32) (ls : Array Slot), lv_has ls 4 [(0, .ref (a 0)), (1, .int l1), (2, .int l2)] → f_X3_takeBack_31 Sz l1 l2 t0 = some o → W p l e (headSpec wsX3_takeBack rX3_takeBack).room s m (([.ref (a 0), .int p1, .int p2] : List Value).toArray) below meth c H locs 0 0 (MQ below (q_Wo (some (.int o.1)) D (wMD cI cJ a S) (wMD cI cJ a o.2) s.heap.size) (([.ref (a 0), .int p1, .int p2] : List Value).toArray) s 0 0 (va_A (wMD cI cJ a S) s.heap.size)) (F0 m 31 ls [.int t0, .ref (a 0)]) := by
    intro Sz H locs hP hD hS l1 l2 t0 ls hl hf
    unfold f_X3_takeBack_31 at hf
    obtain ⟨S5, eS5, hf⟩ := q_let_go hf
    refine va_put (D := D) (ci := 3) (v := .int t0) (ty := .int) (C := RX3) (T := TX3) (N := 15) hx hb hu (fun _ h => h) tyX3 tyX3_ok nmX3 hown hE.1 hP hD hS 0 rfl rfl 3 (Nat.le_of_ble_eq_true rfl) (hts (.fieldLink RX3 30 "CoverMeterModel" "thrown" "I") (List.mem_of_getElem? (i := 1) rfl)) (fun _ h9 => h9) rfl (by decide +kernel) rfl rfl (Nat.le_of_ble_eq_true rfl) dX3_takeBack_31 (fun H locs hP hD hS => ?_)
    have hP : va_P D vwCl (wMD cI cJ a (sMD_thrown Sz t0)) H := hP
    have hD : va_D (va_A (wMD cI cJ a S) s.heap.size) (wMD cI cJ a (sMD_thrown Sz t0)) := hD
    rw [eS5] at hP hD
    refine lv_aload_n hx hb dX3_takeBack_34 rfl (lv_at hl 0 rfl) ?_
    refine va_get (D := D) (ci := 3) (v := .int (MD_thrown S5)) (C := RX3) (T := TX3) (N := 15) hx hb hu (fun _ h => h) hown hE.1 hP 0 rfl rfl 3 (Nat.le_of_ble_eq_true rfl) (hts (.fieldLink RX3 30 "CoverMeterModel" "thrown" "I") (List.mem_of_getElem? (i := 1) rfl)) (fun _ h9 => h9) rfl dX3_takeBack_35 ?_
    refine lv_if_eq (tgt := 43) hx hb dX3_takeBack_38 (by decide) (fun c6 => ?_) (fun c6 => ?_)
    · have hf := q_ite_t c6 hf
      refine lv_aload_n hx hb dX3_takeBack_43 rfl (lv_at hl 0 rfl) ?_
      refine lv_iload_n hx hb dX3_takeBack_44 rfl (lv_at hl 2 rfl) ?_
      refine lv_iconst (v := 5) hx hb dX3_takeBack_45 (by decide) ?_
      refine lv_iload_n hx hb dX3_takeBack_46 rfl (lv_at hl 1 rfl) ?_
      refine lv_iadd hx hb dX3_takeBack_47 ?_
      obtain ⟨r7, hr7, hf⟩ := q_bd_go hf
      refine q_rdVi (ci := 3) (As := [.int l2, .int (5 + l1)]) (rest := []) hx hb hml hown hts (c_X3_ofA l D cI cJ cS a S5 l2 (5 + l1) _ hr7) (cwV 2 hts gX3_takeBack_X3_ofA rfl rfl rfl (by decide +kernel) ⟨(Nat.le_of_ble_eq_true rfl), (Nat.le_of_ble_eq_true rfl)⟩) hE hP rfl rfl rfl hl.1 rfl (Nat.le_of_ble_eq_true rfl) dX3_takeBack_48 ⟨Nat.zero_le _, Nat.zero_le _⟩ ?_
      refine lv_istore_n (lv' := [(3, .int r7), (0, .ref (a 0)), (1, .int l1), (2, .int l2)]) hx hb dX3_takeBack_51 rfl hl (by decide) rfl (fun ls hl => ?_)
      refine lv_aload_n hx hb dX3_takeBack_52 rfl (lv_at hl 1 rfl) ?_
      obtain ⟨r8, hr8, hf⟩ := q_bd_go hf
      refine q_wrVv (ci := 3) (As := []) (rest := []) hx hb hml hown hts (c_X3_records l D cI cJ cS a S5 _  _ hr8) (cwV 0 hts gX3_takeBack_X3_records rfl rfl rfl (by decide +kernel) ⟨(Nat.le_of_ble_eq_true rfl), (Nat.le_of_ble_eq_true rfl)⟩) hE hP hD hS (fun q h => Or.inr h) rfl rfl rfl hl.1 rfl (Nat.le_of_ble_eq_true rfl) dX3_takeBack_53 ⟨Nat.zero_le _, Nat.zero_le _⟩ (fun H locs hP hD hS => ?_)
      refine lv_aload_n hx hb dX3_takeBack_56 rfl (lv_at hl 1 rfl) ?_
      refine lv_iload_n hx hb dX3_takeBack_57 rfl (lv_at hl 3 rfl) ?_
      refine lv_iconst (v := 5) hx hb dX3_takeBack_58 (by decide) ?_
      refine lv_iload_n hx hb dX3_takeBack_59 rfl (lv_at hl 2 rfl) ?_
      refine lv_iadd hx hb dX3_takeBack_60 ?_
      refine lv_iconst (v := (-1)) hx hb dX3_takeBack_61 (by decide) ?_
      obtain ⟨r9, hr9, hf⟩ := q_bd_go hf
      refine q_wrVv (ci := 3) (As := [.int l2, .int (5 + l1), .int (-1)]) (rest := []) hx hb hml hown hts (c_X3_becomes l D cI cJ cS a r8 _ l2 (5 + l1) (-1) _ hr9) (cwV 3 hts gX3_takeBack_X3_becomes rfl rfl rfl (by decide +kernel) ⟨(Nat.le_of_ble_eq_true rfl), (Nat.le_of_ble_eq_true rfl)⟩) hE hP hD hS (fun q h => Or.inr h) rfl rfl rfl hl.1 rfl (Nat.le_of_ble_eq_true rfl) dX3_takeBack_62 ⟨Nat.zero_le _, Nat.zero_le _⟩ (fun H locs hP hD hS => ?_)
      refine lv_iload_n hx hb dX3_takeBack_65 rfl (lv_at hl 0 rfl) ?_
      have ho := q_some hf
      subst ho
      exact W.iret hx hb hr (fun t ht hW => ⟨rfl, ⟨by rw [ht]; exact hP, hD⟩, hS.F ht⟩) hS.2.2 dX3_takeBack_66
    · have hf := q_ite_f c6 hf
      refine lv_iconst (v := 0) hx hb dX3_takeBack_41 (by decide) ?_
      have ho := q_some hf
      subst ho
      exact W.iret hx hb hr (fun t ht hW => ⟨rfl, ⟨by rw [ht]; exact hP, hD⟩, hS.F ht⟩) hS.2.2 dX3_takeBack_42
  have hl := lv_entry ([.ref (a 0), .int p1, .int p2]) (n := 4) (Nat.le_of_ble_eq_true rfl)
  rw [lg_entry_eq]
  generalize (lg_sl ([.ref (a 0), .int p1, .int p2]) ++ List.replicate (4 - (lg_sl ([.ref (a 0), .int p1, .int p2])).length) Slot.unset).toArray = ls at hl ⊢
  have hl : lv_has ls 4 [(0, .ref (a 0)), (1, .int p1), (2, .int p2)] := hl
  unfold f_X3_takeBack at hf
  refine lv_aload_n hx hb dX3_takeBack_0 rfl (lv_at hl 0 rfl) ?_
  refine lv_aload_n hx hb dX3_takeBack_1 rfl (lv_at hl 0 rfl) ?_
  refine lv_iload_n hx hb dX3_takeBack_2 rfl (lv_at hl 1 rfl) ?_
  refine lv_iload_n hx hb dX3_takeBack_3 rfl (lv_at hl 2 rfl) ?_
  obtain ⟨r1, hr1, hf⟩ := q_bd_go hf
  refine q_rdVi (ci := 3) (As := [.int p1, .int p2]) (rest := [.ref (a 0)]) hx hb hml hown hts (c_X3_areThere l D cI cJ cS a S p1 p2 _ hr1) (cwV 2 hts gX3_takeBack_X3_areThere rfl rfl rfl (by decide +kernel) ⟨(Nat.le_of_ble_eq_true rfl), (Nat.le_of_ble_eq_true rfl)⟩) hE hP rfl rfl rfl hl.1 rfl (Nat.le_of_ble_eq_true rfl) dX3_takeBack_4 ⟨Nat.zero_le _, Nat.zero_le _⟩ ?_
  refine lv_if_ne (tgt := 14) hx hb dX3_takeBack_7 (by decide) (fun c2 => ?_) (fun c2 => ?_)
  · have hf := q_ite_t c2 hf
    refine lv_aload_n hx hb dX3_takeBack_14 rfl (lv_at hl 0 rfl) ?_
    refine lv_iload_n hx hb dX3_takeBack_15 rfl (lv_at hl 2 rfl) ?_
    refine lv_iconst (v := 5) hx hb dX3_takeBack_16 (by decide) ?_
    refine lv_iload_n hx hb dX3_takeBack_17 rfl (lv_at hl 1 rfl) ?_
    refine lv_iadd hx hb dX3_takeBack_18 ?_
    obtain ⟨r3, hr3, hf⟩ := q_bd_go hf
    refine q_rdVi (ci := 3) (As := [.int p2, .int (5 + p1)]) (rest := [.ref (a 0)]) hx hb hml hown hts (c_X3_ofA l D cI cJ cS a S p2 (5 + p1) _ hr3) (cwV 2 hts gX3_takeBack_X3_ofA rfl rfl rfl (by decide +kernel) ⟨(Nat.le_of_ble_eq_true rfl), (Nat.le_of_ble_eq_true rfl)⟩) hE hP rfl rfl rfl hl.1 rfl (Nat.le_of_ble_eq_true rfl) dX3_takeBack_19 ⟨Nat.zero_le _, Nat.zero_le _⟩ ?_
    refine lv_iconst (v := (-1)) hx hb dX3_takeBack_22 (by decide) ?_
    refine lv_icmp_eq (tgt := 30) hx hb dX3_takeBack_23 (by decide) (fun c4 => ?_) (fun c4 => ?_)
    · have hf := q_ite_t c4 hf
      refine lv_iconst (v := 2) hx hb dX3_takeBack_30 (by decide) ?_
      exact B_31 S _ _ hP hD hS p1 p2 2 _ (lv_sub hl [0, 1, 2] rfl) hf
    · have hf := q_ite_f c4 hf
      refine lv_iconst (v := 0) hx hb dX3_takeBack_26 (by decide) ?_
      refine lv_goto (tgt := 31) hx hb dX3_takeBack_27 (by decide) ?_
      exact B_31 S _ _ hP hD hS p1 p2 0 _ (lv_sub hl [0, 1, 2] rfl) hf
  · have hf := q_ite_n c2 hf
    refine lv_iconst (v := 1) hx hb dX3_takeBack_10 (by decide) ?_
    refine lv_goto (tgt := 31) hx hb dX3_takeBack_11 (by decide) ?_
    exact B_31 S _ _ hP hD hS p1 p2 1 _ (lv_sub hl [0, 1, 2] rfl) hf
def f_X3_isAhead (S : MD) (p1 : Int32) (p2 : Int64) (p3 : Int32) (p4 : Int64) : Option Int32 := if (lg_cmp p2 p4) = 0 then
 ((f_X3_ofP S p1 1).bind fun r2 =>
 (f_X3_ofP S p3 1).bind fun r3 =>
 if 0 ≤ (lg_cmp r2 r3) then
 (some 0)
 else (some 1))
 else (if 0 ≤ (lg_cmp p2 p4) then
 (some 0)
 else (some 1))
abbrev rX3_isAhead : Room := { frames := 1, cells := 0, slots := 0, locals := 22 }
set_option maxRecDepth 100000 in
set_option maxHeartbeats 4000000 in
theorem c_X3_isAhead (l : Launch) (D : va_G) (cI cJ cS : ClassId) (a : Nat → Nat) (S : MD) (p1 : Int32) (p2 : Int64) (p3 : Int32) (p4 : Int64) (o : Int32) (hf : f_X3_isAhead S p1 p2 p3 p4 = some o) : Met l yX3_isAhead wsX3_isAhead rX3_isAhead (va_Pc [.ref (a 0), .int p1, .long p2, .int p3, .long p4] (q_B D cI cJ cS (wMD cI cJ a S))) (q_Ri o) 0 0 (fun _ => False) := by
  refine Met.ofW (cc := cX3_isAhead) (maxL := 7) (ret := some .boolean) (by decide) rfl ?_
  intro p e s m args below meth c s₁ B hml hv
  obtain ⟨rfl, hP, hE⟩ := hv
  have hx := B.exec
  have hb := B.bytes
  have hr := B.returns
  have hts := atoms_spec (ws := wsX3_isAhead) B.pre
  have hown : s.vm.findClass RX3 = some m.cls := findClass_of_methodNamed B.named
  have hlocks := B.notSynchronized
  have hl := lv_entry ([.ref (a 0), .int p1, .long p2, .int p3, .long p4]) (n := 7) (Nat.le_of_ble_eq_true rfl)
  rw [lg_entry_eq]
  generalize (lg_sl ([.ref (a 0), .int p1, .long p2, .int p3, .long p4]) ++ List.replicate (7 - (lg_sl ([.ref (a 0), .int p1, .long p2, .int p3, .long p4])).length) Slot.unset).toArray = ls at hl ⊢
  have hl : lv_has ls 7 [(0, .ref (a 0)), (1, .int p1), (2, .long p2), (4, .int p3), (5, .long p4)] := hl
  unfold f_X3_isAhead at hf
  refine lv_lload_n hx hb dX3_isAhead_0 rfl (lv_at hl 2 rfl) ?_
  refine lv_lload hx hb dX3_isAhead_1 (lv_at hl 4 rfl) ?_
  refine W.lcmp hx hb dX3_isAhead_3 ?_
  refine lv_if_eq (tgt := 22) hx hb dX3_isAhead_4 (by decide) (fun c1 => ?_) (fun c1 => ?_)
  · have hf := q_ite_t c1 hf
    refine lv_aload_n hx hb dX3_isAhead_22 rfl (lv_at hl 0 rfl) ?_
    refine lv_iload_n hx hb dX3_isAhead_23 rfl (lv_at hl 1 rfl) ?_
    refine lv_iconst (v := 1) hx hb dX3_isAhead_24 (by decide) ?_
    obtain ⟨r2, hr2, hf⟩ := q_bd_go hf
    refine q_rdVl (ci := 3) (As := [.int p1, .int 1]) (rest := []) hx hb hml hown hts (c_X3_ofP l D cI cJ cS a S p1 1 _ hr2) (cwV 2 hts gX3_isAhead_X3_ofP rfl rfl rfl (by decide +kernel) ⟨(Nat.le_of_ble_eq_true rfl), (Nat.le_of_ble_eq_true rfl)⟩) hE hP rfl rfl rfl hl.1 rfl (Nat.le_of_ble_eq_true rfl) dX3_isAhead_25 ⟨Nat.zero_le _, Nat.zero_le _⟩ ?_
    refine lv_aload_n hx hb dX3_isAhead_28 rfl (lv_at hl 0 rfl) ?_
    refine lv_iload hx hb dX3_isAhead_29 (lv_at hl 3 rfl) ?_
    refine lv_iconst (v := 1) hx hb dX3_isAhead_31 (by decide) ?_
    obtain ⟨r3, hr3, hf⟩ := q_bd_go hf
    refine q_rdVl (ci := 3) (As := [.int p3, .int 1]) (rest := [.long r2]) hx hb hml hown hts (c_X3_ofP l D cI cJ cS a S p3 1 _ hr3) (cwV 2 hts gX3_isAhead_X3_ofP rfl rfl rfl (by decide +kernel) ⟨(Nat.le_of_ble_eq_true rfl), (Nat.le_of_ble_eq_true rfl)⟩) hE hP rfl rfl rfl hl.1 rfl (Nat.le_of_ble_eq_true rfl) dX3_isAhead_32 ⟨Nat.zero_le _, Nat.zero_le _⟩ ?_
    refine W.lcmp hx hb dX3_isAhead_35 ?_
    refine lv_if_ge (tgt := 43) hx hb dX3_isAhead_36 (by decide) (fun c4 => ?_) (fun c4 => ?_)
    · have hf := q_ite_t c4 hf
      refine lv_iconst (v := 0) hx hb dX3_isAhead_43 (by decide) ?_
      have ho := q_some hf
      subst ho
      exact W.zret hx hb hr rfl (fun t ht hW => ⟨rfl, ht⟩) t_nil dX3_isAhead_44
    · have hf := q_ite_f c4 hf
      refine lv_iconst (v := 1) hx hb dX3_isAhead_39 (by decide) ?_
      refine lv_goto (tgt := 44) hx hb dX3_isAhead_40 (by decide) ?_
      have ho := q_some hf
      subst ho
      exact W.zret hx hb hr rfl (fun t ht hW => ⟨rfl, ht⟩) t_nil dX3_isAhead_44
  · have hf := q_ite_f c1 hf
    refine lv_lload_n hx hb dX3_isAhead_7 rfl (lv_at hl 2 rfl) ?_
    refine lv_lload hx hb dX3_isAhead_8 (lv_at hl 4 rfl) ?_
    refine W.lcmp hx hb dX3_isAhead_10 ?_
    refine lv_if_ge (tgt := 18) hx hb dX3_isAhead_11 (by decide) (fun c5 => ?_) (fun c5 => ?_)
    · have hf := q_ite_t c5 hf
      refine lv_iconst (v := 0) hx hb dX3_isAhead_18 (by decide) ?_
      refine lv_goto (tgt := 44) hx hb dX3_isAhead_19 (by decide) ?_
      have ho := q_some hf
      subst ho
      exact W.zret hx hb hr rfl (fun t ht hW => ⟨rfl, ht⟩) t_nil dX3_isAhead_44
    · have hf := q_ite_f c5 hf
      refine lv_iconst (v := 1) hx hb dX3_isAhead_14 (by decide) ?_
      refine lv_goto (tgt := 44) hx hb dX3_isAhead_15 (by decide) ?_
      have ho := q_some hf
      subst ho
      exact W.zret hx hb hr rfl (fun t ht hW => ⟨rfl, ht⟩) t_nil dX3_isAhead_44
def f_X3_bestBidder_4 (S : MD) : Nat → Int32 → Int32 → Int32 → Option Int32
  | 0, _, _, _ => none
  | n+1, l1, l2, l3 => if q_in 3 420 = true then
 (if 0 ≤ (lg_cmp ((l3 : Int32).toInt64) (MD_now S (3 : Int32).toNatClampNeg)) then
 (some l2)
 else ((f_X3_ofA S l1 (5 + l3)).bind fun r3 =>
 if r3 = (-1) then
 (q_let (l3 + 1) fun v5 =>
 f_X3_bestBidder_4 S n l1 l2 v5)
 else ((f_X3_whyNotFor S l3 l1).bind fun r6 =>
 if ¬ r6 = 0 then
 (q_let (l3 + 1) fun v8 =>
 f_X3_bestBidder_4 S n l1 l2 v8)
 else (if l2 = (-1) then
 (q_let (l3 + 1) fun v10 =>
 f_X3_bestBidder_4 S n l1 l3 v10)
 else ((f_X3_ofA S l1 (5 + l2)).bind fun r11 =>
 (f_X3_isAhead S l3 ((r3 : Int32).toInt64) l2 ((r11 : Int32).toInt64)).bind fun r12 =>
 if r12 = 0 then
 (q_let (l3 + 1) fun v14 =>
 f_X3_bestBidder_4 S n l1 l2 v14)
 else (q_let (l3 + 1) fun v15 =>
 f_X3_bestBidder_4 S n l1 l3 v15)))))) else none
def f_X3_bestBidder (S : MD) (p1 : Int32) : Option Int32 := f_X3_bestBidder_4 S 2000 p1 (-1) 0
abbrev rX3_bestBidder : Room := { frames := 6, cells := 0, slots := 0, locals := 134 }
set_option maxRecDepth 100000 in
set_option maxHeartbeats 4000000 in
theorem c_X3_bestBidder (l : Launch) (D : va_G) (cI cJ cS : ClassId) (a : Nat → Nat) (S : MD) (p1 : Int32) (o : Int32) (hf : f_X3_bestBidder S p1 = some o) : Met l yX3_bestBidder wsX3_bestBidder rX3_bestBidder (va_Pc [.ref (a 0), .int p1] (q_B D cI cJ cS (wMD cI cJ a S))) (q_Ri o) 0 0 (fun _ => False) := by
  refine Met.ofW (cc := cX3_bestBidder) (maxL := 5) (ret := some .int) (by decide) rfl ?_
  intro p e s m args below meth c s₁ B hml hv
  obtain ⟨rfl, hP, hE⟩ := hv
  have hx := B.exec
  have hb := B.bytes
  have hr := B.returns
  have hts := atoms_spec (ws := wsX3_bestBidder) B.pre
  have hown : s.vm.findClass RX3 = some m.cls := findClass_of_methodNamed B.named
  have hlocks := B.notSynchronized
  have hu : ∀ z ∈ wsX30, z.before _ s = true := fun z h => hts z (List.mem_cons_of_mem _ (List.mem_append_right _ h))
  have L_4 : ∀ (n : Nat) (l1 : Int32) (l2 : Int32) (l3 : Int32) (ls : Array Slot), lv_has ls 5 [(0, .ref (a 0)), (1, .int l1), (2, .int l2), (3, .int l3)] → f_X3_bestBidder_4 S n l1 l2 l3 = some o → W p l e (headSpec wsX3_bestBidder rX3_bestBidder).room s m (([.ref (a 0), .int p1] : List Value).toArray) below meth c s.heap [] 0 0 (MQ below (q_Ri o) (([.ref (a 0), .int p1] : List Value).toArray) s 0 0 (fun _ => False)) (F0 m 4 ls []) := by
    intro n
    induction n with
    | zero => intro l1 l2 l3 ls hl hf; cases hf
    | succ n ih =>
      intro l1 l2 l3 ls hl hf
      rw [f_X3_bestBidder_4] at hf
      refine lv_iload_n hx hb dX3_bestBidder_4 rfl (lv_at hl 3 rfl) ?_
      refine lv_i2l (v := ((l3 : Int32).toInt64)) hx hb dX3_bestBidder_5 rfl ?_
      refine lv_aload_n hx hb dX3_bestBidder_6 rfl (lv_at hl 0 rfl) ?_
      refine va_get (D := D) (ci := 3) (v := .ref (a 1)) (C := RX3) (T := TX3) (N := 15) hx hb hu (fun _ h => h) hown hE.1 hP 0 rfl rfl 0 (Nat.le_of_ble_eq_true rfl) (hts (.fieldLink RX3 7 "CoverMeterModel" "now" "[J") (List.mem_of_getElem? (i := 1) rfl)) (fun _ h9 => h9) rfl dX3_bestBidder_7 ?_
      refine lv_iconst (v := 3) hx hb dX3_bestBidder_10 (by decide) ?_
      have hi1 := q_gd_in hf
      have hf := q_gd_go hf
      refine va_lald hx hb hE.1 hP 1 1 rfl rfl hi1 dX3_bestBidder_11 ?_
      refine W.lcmp hx hb dX3_bestBidder_12 ?_
      refine lv_if_ge (tgt := 75) hx hb dX3_bestBidder_13 (by decide) (fun c2 => ?_) (fun c2 => ?_)
      · have hf := q_ite_t c2 hf
        refine lv_iload_n hx hb dX3_bestBidder_75 rfl (lv_at hl 2 rfl) ?_
        have ho := q_some hf
        subst ho
        exact W.iret hx hb hr (fun t ht hW => ⟨rfl, ht⟩) t_nil dX3_bestBidder_76
      · have hf := q_ite_f c2 hf
        refine lv_aload_n hx hb dX3_bestBidder_16 rfl (lv_at hl 0 rfl) ?_
        refine lv_iload_n hx hb dX3_bestBidder_17 rfl (lv_at hl 1 rfl) ?_
        refine lv_iconst (v := 5) hx hb dX3_bestBidder_18 (by decide) ?_
        refine lv_iload_n hx hb dX3_bestBidder_19 rfl (lv_at hl 3 rfl) ?_
        refine lv_iadd hx hb dX3_bestBidder_20 ?_
        obtain ⟨r3, hr3, hf⟩ := q_bd_go hf
        refine q_rdVi (ci := 3) (As := [.int l1, .int (5 + l3)]) (rest := []) hx hb hml hown hts (c_X3_ofA l D cI cJ cS a S l1 (5 + l3) _ hr3) (cwV 2 hts gX3_bestBidder_X3_ofA rfl rfl rfl (by decide +kernel) ⟨(Nat.le_of_ble_eq_true rfl), (Nat.le_of_ble_eq_true rfl)⟩) hE hP rfl rfl rfl hl.1 rfl (Nat.le_of_ble_eq_true rfl) dX3_bestBidder_21 ⟨Nat.zero_le _, Nat.zero_le _⟩ ?_
        refine lv_istore (lv' := [(4, .int r3), (0, .ref (a 0)), (1, .int l1), (2, .int l2), (3, .int l3)]) hx hb dX3_bestBidder_24 hl (by decide) rfl (fun ls hl => ?_)
        refine lv_iload hx hb dX3_bestBidder_26 (lv_at hl 0 rfl) ?_
        refine lv_iconst (v := (-1)) hx hb dX3_bestBidder_28 (by decide) ?_
        refine lv_icmp_eq (tgt := 69) hx hb dX3_bestBidder_29 (by decide) (fun c4 => ?_) (fun c4 => ?_)
        · have hf := q_ite_t c4 hf
          obtain ⟨v5, ev5, hf⟩ := q_let_go hf
          refine lv_iinc (v := v5) (lv' := [(3, .int v5), (4, .int r3), (0, .ref (a 0)), (1, .int l1), (2, .int l2)]) hx hb dX3_bestBidder_69 hl (k := 4) rfl (by rw [← ev5]; rfl) (by decide) rfl (fun ls hl => ?_)
          refine lv_goto (tgt := 4) hx hb dX3_bestBidder_72 (by decide) ?_
          exact ih l1 l2 v5 _ (lv_sub hl [2, 3, 4, 0] rfl) hf
        · have hf := q_ite_f c4 hf
          refine lv_aload_n hx hb dX3_bestBidder_32 rfl (lv_at hl 1 rfl) ?_
          refine lv_iload_n hx hb dX3_bestBidder_33 rfl (lv_at hl 4 rfl) ?_
          refine lv_iload_n hx hb dX3_bestBidder_34 rfl (lv_at hl 2 rfl) ?_
          obtain ⟨r6, hr6, hf⟩ := q_bd_go hf
          refine q_rdVi (ci := 3) (As := [.int l3, .int l1]) (rest := []) hx hb hml hown hts (c_X3_whyNotFor l D cI cJ cS a S l3 l1 _ hr6) (cwV 2 hts gX3_bestBidder_X3_whyNotFor rfl rfl rfl (by decide +kernel) ⟨(Nat.le_of_ble_eq_true rfl), (Nat.le_of_ble_eq_true rfl)⟩) hE hP rfl rfl rfl hl.1 rfl (Nat.le_of_ble_eq_true rfl) dX3_bestBidder_35 ⟨Nat.zero_le _, Nat.zero_le _⟩ ?_
          refine lv_if_ne (tgt := 69) hx hb dX3_bestBidder_38 (by decide) (fun c7 => ?_) (fun c7 => ?_)
          · have hf := q_ite_t c7 hf
            obtain ⟨v8, ev8, hf⟩ := q_let_go hf
            refine lv_iinc (v := v8) (lv' := [(3, .int v8), (4, .int r3), (0, .ref (a 0)), (1, .int l1), (2, .int l2)]) hx hb dX3_bestBidder_69 hl (k := 4) rfl (by rw [← ev8]; rfl) (by decide) rfl (fun ls hl => ?_)
            refine lv_goto (tgt := 4) hx hb dX3_bestBidder_72 (by decide) ?_
            exact ih l1 l2 v8 _ (lv_sub hl [2, 3, 4, 0] rfl) hf
          · have hf := q_ite_n c7 hf
            refine lv_iload_n hx hb dX3_bestBidder_41 rfl (lv_at hl 3 rfl) ?_
            refine lv_iconst (v := (-1)) hx hb dX3_bestBidder_42 (by decide) ?_
            refine lv_icmp_eq (tgt := 67) hx hb dX3_bestBidder_43 (by decide) (fun c9 => ?_) (fun c9 => ?_)
            · have hf := q_ite_t c9 hf
              refine lv_iload_n hx hb dX3_bestBidder_67 rfl (lv_at hl 4 rfl) ?_
              refine lv_istore_n (lv' := [(2, .int l3), (4, .int r3), (0, .ref (a 0)), (1, .int l1), (3, .int l3)]) hx hb dX3_bestBidder_68 rfl hl (by decide) rfl (fun ls hl => ?_)
              obtain ⟨v10, ev10, hf⟩ := q_let_go hf
              refine lv_iinc (v := v10) (lv' := [(3, .int v10), (2, .int l3), (4, .int r3), (0, .ref (a 0)), (1, .int l1)]) hx hb dX3_bestBidder_69 hl (k := 4) rfl (by rw [← ev10]; rfl) (by decide) rfl (fun ls hl => ?_)
              refine lv_goto (tgt := 4) hx hb dX3_bestBidder_72 (by decide) ?_
              exact ih l1 l3 v10 _ (lv_sub hl [3, 4, 1, 0] rfl) hf
            · have hf := q_ite_f c9 hf
              refine lv_aload_n hx hb dX3_bestBidder_46 rfl (lv_at hl 1 rfl) ?_
              refine lv_iload_n hx hb dX3_bestBidder_47 rfl (lv_at hl 4 rfl) ?_
              refine lv_iload hx hb dX3_bestBidder_48 (lv_at hl 0 rfl) ?_
              refine lv_i2l (v := ((r3 : Int32).toInt64)) hx hb dX3_bestBidder_50 rfl ?_
              refine lv_iload_n hx hb dX3_bestBidder_51 rfl (lv_at hl 3 rfl) ?_
              refine lv_aload_n hx hb dX3_bestBidder_52 rfl (lv_at hl 1 rfl) ?_
              refine lv_iload_n hx hb dX3_bestBidder_53 rfl (lv_at hl 2 rfl) ?_
              refine lv_iconst (v := 5) hx hb dX3_bestBidder_54 (by decide) ?_
              refine lv_iload_n hx hb dX3_bestBidder_55 rfl (lv_at hl 3 rfl) ?_
              refine lv_iadd hx hb dX3_bestBidder_56 ?_
              obtain ⟨r11, hr11, hf⟩ := q_bd_go hf
              refine q_rdVi (ci := 3) (As := [.int l1, .int (5 + l2)]) (rest := [.int l2, .long ((r3 : Int32).toInt64), .int l3, .ref (a 0)]) hx hb hml hown hts (c_X3_ofA l D cI cJ cS a S l1 (5 + l2) _ hr11) (cwV 2 hts gX3_bestBidder_X3_ofA rfl rfl rfl (by decide +kernel) ⟨(Nat.le_of_ble_eq_true rfl), (Nat.le_of_ble_eq_true rfl)⟩) hE hP rfl rfl rfl hl.1 rfl (Nat.le_of_ble_eq_true rfl) dX3_bestBidder_57 ⟨Nat.zero_le _, Nat.zero_le _⟩ ?_
              refine lv_i2l (v := ((r11 : Int32).toInt64)) hx hb dX3_bestBidder_60 rfl ?_
              obtain ⟨r12, hr12, hf⟩ := q_bd_go hf
              refine q_rdVi (ci := 3) (As := [.int l3, .long ((r3 : Int32).toInt64), .int l2, .long ((r11 : Int32).toInt64)]) (rest := []) hx hb hml hown hts (c_X3_isAhead l D cI cJ cS a S l3 ((r3 : Int32).toInt64) l2 ((r11 : Int32).toInt64) _ hr12) (cwV 4 hts gX3_bestBidder_X3_isAhead rfl rfl rfl (by decide +kernel) ⟨(Nat.le_of_ble_eq_true rfl), (Nat.le_of_ble_eq_true rfl)⟩) hE hP rfl rfl rfl hl.1 rfl (Nat.le_of_ble_eq_true rfl) dX3_bestBidder_61 ⟨Nat.zero_le _, Nat.zero_le _⟩ ?_
              refine lv_if_eq (tgt := 69) hx hb dX3_bestBidder_64 (by decide) (fun c13 => ?_) (fun c13 => ?_)
              · have hf := q_ite_t c13 hf
                obtain ⟨v14, ev14, hf⟩ := q_let_go hf
                refine lv_iinc (v := v14) (lv' := [(3, .int v14), (4, .int r3), (0, .ref (a 0)), (1, .int l1), (2, .int l2)]) hx hb dX3_bestBidder_69 hl (k := 4) rfl (by rw [← ev14]; rfl) (by decide) rfl (fun ls hl => ?_)
                refine lv_goto (tgt := 4) hx hb dX3_bestBidder_72 (by decide) ?_
                exact ih l1 l2 v14 _ (lv_sub hl [2, 3, 4, 0] rfl) hf
              · have hf := q_ite_f c13 hf
                refine lv_iload_n hx hb dX3_bestBidder_67 rfl (lv_at hl 4 rfl) ?_
                refine lv_istore_n (lv' := [(2, .int l3), (4, .int r3), (0, .ref (a 0)), (1, .int l1), (3, .int l3)]) hx hb dX3_bestBidder_68 rfl hl (by decide) rfl (fun ls hl => ?_)
                obtain ⟨v15, ev15, hf⟩ := q_let_go hf
                refine lv_iinc (v := v15) (lv' := [(3, .int v15), (2, .int l3), (4, .int r3), (0, .ref (a 0)), (1, .int l1)]) hx hb dX3_bestBidder_69 hl (k := 4) rfl (by rw [← ev15]; rfl) (by decide) rfl (fun ls hl => ?_)
                refine lv_goto (tgt := 4) hx hb dX3_bestBidder_72 (by decide) ?_
                exact ih l1 l3 v15 _ (lv_sub hl [3, 4, 1, 0] rfl) hf
  have hl := lv_entry ([.ref (a 0), .int p1]) (n := 5) (Nat.le_of_ble_eq_true rfl)
  rw [lg_entry_eq]
  generalize (lg_sl ([.ref (a 0), .int p1]) ++ List.replicate (5 - (lg_sl ([.ref (a 0), .int p1])).length) Slot.unset).toArray = ls at hl ⊢
  have hl : lv_has ls 5 [(0, .ref (a 0)), (1, .int p1)] := hl
  unfold f_X3_bestBidder at hf
  refine lv_iconst (v := (-1)) hx hb dX3_bestBidder_0 (by decide) ?_
  refine lv_istore_n (lv' := [(2, .int (-1)), (0, .ref (a 0)), (1, .int p1)]) hx hb dX3_bestBidder_1 rfl hl (by decide) rfl (fun ls hl => ?_)
  refine lv_iconst (v := 0) hx hb dX3_bestBidder_2 (by decide) ?_
  refine lv_istore_n (lv' := [(3, .int 0), (2, .int (-1)), (0, .ref (a 0)), (1, .int p1)]) hx hb dX3_bestBidder_3 rfl hl (by decide) rfl (fun ls hl => ?_)
  exact L_4 2000 p1 (-1) 0 _ (lv_sub hl [2, 3, 1, 0] rfl) hf
