def cp_ST (S O : ST) : ST := (va_cpy (ST_settings O) (ST_settings S) (0 : Int32).toNatClampNeg (0 : Int32).toNatClampNeg (3 : Int32).toNatClampNeg, ST_handedOver O, ST_persons O, va_cpy (ST_rosters O) (ST_rosters S) (0 : Int32).toNatClampNeg (0 : Int32).toNatClampNeg (8 : Int32).toNatClampNeg, va_cpy (ST_away O) (ST_away S) (0 : Int32).toNatClampNeg (0 : Int32).toNatClampNeg (8 : Int32).toNatClampNeg, va_cpy (ST_covering O) (ST_covering S) (0 : Int32).toNatClampNeg (0 : Int32).toNatClampNeg (8 : Int32).toNatClampNeg, va_cpy (ST_meters O) (ST_meters S) (0 : Int32).toNatClampNeg (0 : Int32).toNatClampNeg (8 : Int32).toNatClampNeg, va_cpy (ST_turns O) (ST_turns S) (0 : Int32).toNatClampNeg (0 : Int32).toNatClampNeg (8 : Int32).toNatClampNeg, ST_absences O, va_cpy (ST_absentees O) (ST_absentees S) (0 : Int32).toNatClampNeg (0 : Int32).toNatClampNeg (30 : Int32).toNatClampNeg, va_cpy (ST_shifts O) (ST_shifts S) (0 : Int32).toNatClampNeg (0 : Int32).toNatClampNeg (30 : Int32).toNatClampNeg, va_cpy (ST_statuses O) (ST_statuses S) (0 : Int32).toNatClampNeg (0 : Int32).toNatClampNeg (30 : Int32).toNatClampNeg, va_cpy (ST_coverers O) (ST_coverers S) (0 : Int32).toNatClampNeg (0 : Int32).toNatClampNeg (30 : Int32).toNatClampNeg, va_cpy (ST_points O) (ST_points S) (0 : Int32).toNatClampNeg (0 : Int32).toNatClampNeg (30 : Int32).toNatClampNeg, va_cpy (ST_bids O) (ST_bids S) (0 : Int32).toNatClampNeg (0 : Int32).toNatClampNeg (240 : Int32).toNatClampNeg)
abbrev rX1_copyFrom : Room := { frames := 1, cells := 0, slots := 0, locals := 60 }
set_option maxRecDepth 100000 in
set_option maxHeartbeats 8000000 in
theorem c_X1_copyFrom (l : Launch) (D : va_G) (cI cJ cS : ClassId) (a b : Nat → Nat) (S O : ST) (sz : Nat) : Met l yX1_copyFrom wsX1_copyFrom rX1_copyFrom (va_Pc [.ref (a 0), .ref (b 0)] (q_BW D cI cJ cS (wST cI cJ a S ++ wST cI cJ b O) sz)) (q_Wo none D (wST cI cJ a S ++ wST cI cJ b O) (wST cI cJ a (cp_ST S O) ++ wST cI cJ b O) sz) 0 0 (va_A (wST cI cJ a S ++ wST cI cJ b O) sz) := by
  refine Met.ofW (cc := cX1_copyFrom) (maxL := 2) (ret := none) (by decide) rfl ?_
  intro p e s m args below meth c s₁ B9 hml hv
  obtain ⟨rfl, hsz, hP, hE, hD0⟩ := hv
  have hx := B9.exec
  have hb := B9.bytes
  have hr := B9.returns
  have hts := atoms_spec (ws := wsX1_copyFrom) B9.pre
  have hown : s.vm.findClass RX1 = some m.cls := findClass_of_methodNamed B9.named
  have hlocks := B9.notSynchronized
  have hu : ∀ z ∈ wsX10, z.before _ s = true := fun z h => hts z (List.mem_cons_of_mem _ (List.mem_append_right _ h))
  subst hsz
  have hD := hD0.self (sz := s.heap.size)
  have hS : va_S (va_A (wST cI cJ a S ++ wST cI cJ b O) s.heap.size) s.heap s.heap [] := va_S.rf
  have hl := lv_entry ([.ref (a 0), .ref (b 0)]) (n := 2) (Nat.le_of_ble_eq_true rfl)
  rw [lg_entry_eq]
  generalize (lg_sl ([.ref (a 0), .ref (b 0)]) ++ List.replicate (2 - (lg_sl ([.ref (a 0), .ref (b 0)])).length) Slot.unset).toArray = ls at hl ⊢
  have hl : lv_has ls 2 [(0, .ref (a 0)), (1, .ref (b 0))] := hl
  refine lv_aload_n hx hb dX1_copyFrom_0 rfl (lv_at hl 1 rfl) ?_
  refine va_get (D := D) (ci := 1) (v := .ref (b 1)) (C := RX1) (T := TX1) (N := 15) hx hb hu (fun _ h => h) hown hE.1 hP 13 rfl rfl 0 (Nat.le_of_ble_eq_true rfl) (hts (.fieldLink RX1 9 "CoverMeter$State" "settings" "[I") (List.mem_of_getElem? (i := 1) rfl)) (fun _ h9 => h9) rfl dX1_copyFrom_1 ?_
  refine lv_iconst (v := 0) hx hb dX1_copyFrom_4 (by decide) ?_
  refine lv_aload_n hx hb dX1_copyFrom_5 rfl (lv_at hl 0 rfl) ?_
  refine va_get (D := D) (ci := 1) (v := .ref (a 1)) (C := RX1) (T := TX1) (N := 15) hx hb hu (fun _ h => h) hown hE.1 hP 0 rfl rfl 0 (Nat.le_of_ble_eq_true rfl) (hts (.fieldLink RX1 9 "CoverMeter$State" "settings" "[I") (List.mem_of_getElem? (i := 1) rfl)) (fun _ h9 => h9) rfl dX1_copyFrom_6 ?_
  refine lv_iconst (v := 0) hx hb dX1_copyFrom_9 (by decide) ?_
  refine lv_iconst (v := 3) hx hb dX1_copyFrom_10 (by decide) ?_
  refine va_copyi hx hb (hml.trans hl.1.symm) hown (hts (.methodLink RX1 52 arraycopyName) (List.mem_of_getElem? (i := 2) rfl)) (hts (.native arraycopyName) (List.mem_of_getElem? (i := 3) rfl)) (hts (.static arraycopyName) (List.mem_of_getElem? (i := 4) rfl)) (hts (.initialized "java/lang/System") (List.mem_of_getElem? (i := 5) rfl)) hE.1 hP hD hS 14 1 0 0 rfl rfl rfl rfl rfl (by decide) (by decide) (by decide) (by decide) (by decide) (fun _ _ => rfl) (Nat.le_of_ble_eq_true rfl) (Nat.le_of_ble_eq_true rfl) dX1_copyFrom_11 (fun H locs hP hD hS => ?_)
  obtain ⟨S1, eS1⟩ : ∃ z, z = (sST_settings S (va_cpy (ST_settings O) (ST_settings S) (0 : Int32).toNatClampNeg (0 : Int32).toNatClampNeg (3 : Int32).toNatClampNeg)) := ⟨_, rfl⟩
  have hP : va_P D vwCl (wST cI cJ a (sST_settings S (va_cpy (ST_settings O) (ST_settings S) (0 : Int32).toNatClampNeg (0 : Int32).toNatClampNeg (3 : Int32).toNatClampNeg)) ++ wST cI cJ b O) H := hP
  have hD : va_D (va_A (wST cI cJ a S ++ wST cI cJ b O) s.heap.size) (wST cI cJ a (sST_settings S (va_cpy (ST_settings O) (ST_settings S) (0 : Int32).toNatClampNeg (0 : Int32).toNatClampNeg (3 : Int32).toNatClampNeg)) ++ wST cI cJ b O) := hD
  rw [← eS1] at hP hD
  refine lv_aload_n hx hb dX1_copyFrom_14 rfl (lv_at hl 0 rfl) ?_
  refine lv_aload_n hx hb dX1_copyFrom_15 rfl (lv_at hl 1 rfl) ?_
  refine va_get (D := D) (ci := 1) (v := .int (ST_handedOver O)) (C := RX1) (T := TX1) (N := 15) hx hb hu (fun _ h => h) hown hE.1 hP 13 rfl rfl 1 (Nat.le_of_ble_eq_true rfl) (hts (.fieldLink RX1 58 "CoverMeter$State" "handedOver" "I") (List.mem_of_getElem? (i := 6) rfl)) (fun _ h9 => h9) rfl dX1_copyFrom_16 ?_
  refine va_put (D := D) (ci := 1) (v := .int (ST_handedOver O)) (ty := .int) (C := RX1) (T := TX1) (N := 15) hx hb hu (fun _ h => h) tyX1 tyX1_ok nmX1 hown hE.1 hP hD hS 0 rfl rfl 1 (Nat.le_of_ble_eq_true rfl) (hts (.fieldLink RX1 58 "CoverMeter$State" "handedOver" "I") (List.mem_of_getElem? (i := 6) rfl)) (fun _ h9 => h9) rfl (by decide +kernel) rfl rfl (Nat.le_of_ble_eq_true rfl) dX1_copyFrom_19 (fun H locs hP hD hS => ?_)
  obtain ⟨S2, eS2⟩ : ∃ z, z = (sST_handedOver S1 (ST_handedOver O)) := ⟨_, rfl⟩
  have hP : va_P D vwCl (wST cI cJ a (sST_handedOver S1 (ST_handedOver O)) ++ wST cI cJ b O) H := hP
  have hD : va_D (va_A (wST cI cJ a S ++ wST cI cJ b O) s.heap.size) (wST cI cJ a (sST_handedOver S1 (ST_handedOver O)) ++ wST cI cJ b O) := hD
  rw [← eS2] at hP hD
  refine lv_aload_n hx hb dX1_copyFrom_22 rfl (lv_at hl 0 rfl) ?_
  refine lv_aload_n hx hb dX1_copyFrom_23 rfl (lv_at hl 1 rfl) ?_
  refine va_get (D := D) (ci := 1) (v := .int (ST_persons O)) (C := RX1) (T := TX1) (N := 15) hx hb hu (fun _ h => h) hown hE.1 hP 13 rfl rfl 2 (Nat.le_of_ble_eq_true rfl) (hts (.fieldLink RX1 62 "CoverMeter$State" "persons" "I") (List.mem_of_getElem? (i := 7) rfl)) (fun _ h9 => h9) rfl dX1_copyFrom_24 ?_
  refine va_put (D := D) (ci := 1) (v := .int (ST_persons O)) (ty := .int) (C := RX1) (T := TX1) (N := 15) hx hb hu (fun _ h => h) tyX1 tyX1_ok nmX1 hown hE.1 hP hD hS 0 rfl rfl 2 (Nat.le_of_ble_eq_true rfl) (hts (.fieldLink RX1 62 "CoverMeter$State" "persons" "I") (List.mem_of_getElem? (i := 7) rfl)) (fun _ h9 => h9) rfl (by decide +kernel) rfl rfl (Nat.le_of_ble_eq_true rfl) dX1_copyFrom_27 (fun H locs hP hD hS => ?_)
  obtain ⟨S3, eS3⟩ : ∃ z, z = (sST_persons S2 (ST_persons O)) := ⟨_, rfl⟩
  have hP : va_P D vwCl (wST cI cJ a (sST_persons S2 (ST_persons O)) ++ wST cI cJ b O) H := hP
  have hD : va_D (va_A (wST cI cJ a S ++ wST cI cJ b O) s.heap.size) (wST cI cJ a (sST_persons S2 (ST_persons O)) ++ wST cI cJ b O) := hD
  rw [← eS3] at hP hD
  refine lv_aload_n hx hb dX1_copyFrom_30 rfl (lv_at hl 1 rfl) ?_
  refine va_get (D := D) (ci := 1) (v := .ref (b 2)) (C := RX1) (T := TX1) (N := 15) hx hb hu (fun _ h => h) hown hE.1 hP 13 rfl rfl 3 (Nat.le_of_ble_eq_true rfl) (hts (.fieldLink RX1 15 "CoverMeter$State" "rosters" "[J") (List.mem_of_getElem? (i := 8) rfl)) (fun _ h9 => h9) rfl dX1_copyFrom_31 ?_
  refine lv_iconst (v := 0) hx hb dX1_copyFrom_34 (by decide) ?_
  refine lv_aload_n hx hb dX1_copyFrom_35 rfl (lv_at hl 0 rfl) ?_
  refine va_get (D := D) (ci := 1) (v := .ref (a 2)) (C := RX1) (T := TX1) (N := 15) hx hb hu (fun _ h => h) hown hE.1 hP 0 rfl rfl 3 (Nat.le_of_ble_eq_true rfl) (hts (.fieldLink RX1 15 "CoverMeter$State" "rosters" "[J") (List.mem_of_getElem? (i := 8) rfl)) (fun _ h9 => h9) rfl dX1_copyFrom_36 ?_
  refine lv_iconst (v := 0) hx hb dX1_copyFrom_39 (by decide) ?_
  refine lv_bipush (v := 8) hx hb dX1_copyFrom_40 (by decide) ?_
  refine va_copyl hx hb (hml.trans hl.1.symm) hown (hts (.methodLink RX1 52 arraycopyName) (List.mem_of_getElem? (i := 2) rfl)) (hts (.native arraycopyName) (List.mem_of_getElem? (i := 3) rfl)) (hts (.static arraycopyName) (List.mem_of_getElem? (i := 4) rfl)) (hts (.initialized "java/lang/System") (List.mem_of_getElem? (i := 5) rfl)) hE.1 hP hD hS 15 2 1 1 rfl rfl rfl rfl rfl (by decide) (by decide) (by decide) (by decide) (by decide) (fun _ _ => rfl) (Nat.le_of_ble_eq_true rfl) (Nat.le_of_ble_eq_true rfl) dX1_copyFrom_42 (fun H locs hP hD hS => ?_)
  obtain ⟨S4, eS4⟩ : ∃ z, z = (sST_rosters S3 (va_cpy (ST_rosters O) (ST_rosters S3) (0 : Int32).toNatClampNeg (0 : Int32).toNatClampNeg (8 : Int32).toNatClampNeg)) := ⟨_, rfl⟩
  have hP : va_P D vwCl (wST cI cJ a (sST_rosters S3 (va_cpy (ST_rosters O) (ST_rosters S3) (0 : Int32).toNatClampNeg (0 : Int32).toNatClampNeg (8 : Int32).toNatClampNeg)) ++ wST cI cJ b O) H := hP
  have hD : va_D (va_A (wST cI cJ a S ++ wST cI cJ b O) s.heap.size) (wST cI cJ a (sST_rosters S3 (va_cpy (ST_rosters O) (ST_rosters S3) (0 : Int32).toNatClampNeg (0 : Int32).toNatClampNeg (8 : Int32).toNatClampNeg)) ++ wST cI cJ b O) := hD
  rw [← eS4] at hP hD
  refine lv_aload_n hx hb dX1_copyFrom_45 rfl (lv_at hl 1 rfl) ?_
  refine va_get (D := D) (ci := 1) (v := .ref (b 3)) (C := RX1) (T := TX1) (N := 15) hx hb hu (fun _ h => h) hown hE.1 hP 13 rfl rfl 4 (Nat.le_of_ble_eq_true rfl) (hts (.fieldLink RX1 19 "CoverMeter$State" "away" "[J") (List.mem_of_getElem? (i := 9) rfl)) (fun _ h9 => h9) rfl dX1_copyFrom_46 ?_
  refine lv_iconst (v := 0) hx hb dX1_copyFrom_49 (by decide) ?_
  refine lv_aload_n hx hb dX1_copyFrom_50 rfl (lv_at hl 0 rfl) ?_
  refine va_get (D := D) (ci := 1) (v := .ref (a 3)) (C := RX1) (T := TX1) (N := 15) hx hb hu (fun _ h => h) hown hE.1 hP 0 rfl rfl 4 (Nat.le_of_ble_eq_true rfl) (hts (.fieldLink RX1 19 "CoverMeter$State" "away" "[J") (List.mem_of_getElem? (i := 9) rfl)) (fun _ h9 => h9) rfl dX1_copyFrom_51 ?_
  refine lv_iconst (v := 0) hx hb dX1_copyFrom_54 (by decide) ?_
  refine lv_bipush (v := 8) hx hb dX1_copyFrom_55 (by decide) ?_
  refine va_copyl hx hb (hml.trans hl.1.symm) hown (hts (.methodLink RX1 52 arraycopyName) (List.mem_of_getElem? (i := 2) rfl)) (hts (.native arraycopyName) (List.mem_of_getElem? (i := 3) rfl)) (hts (.static arraycopyName) (List.mem_of_getElem? (i := 4) rfl)) (hts (.initialized "java/lang/System") (List.mem_of_getElem? (i := 5) rfl)) hE.1 hP hD hS 16 3 1 1 rfl rfl rfl rfl rfl (by decide) (by decide) (by decide) (by decide) (by decide) (fun _ _ => rfl) (Nat.le_of_ble_eq_true rfl) (Nat.le_of_ble_eq_true rfl) dX1_copyFrom_57 (fun H locs hP hD hS => ?_)
  obtain ⟨S5, eS5⟩ : ∃ z, z = (sST_away S4 (va_cpy (ST_away O) (ST_away S4) (0 : Int32).toNatClampNeg (0 : Int32).toNatClampNeg (8 : Int32).toNatClampNeg)) := ⟨_, rfl⟩
  have hP : va_P D vwCl (wST cI cJ a (sST_away S4 (va_cpy (ST_away O) (ST_away S4) (0 : Int32).toNatClampNeg (0 : Int32).toNatClampNeg (8 : Int32).toNatClampNeg)) ++ wST cI cJ b O) H := hP
  have hD : va_D (va_A (wST cI cJ a S ++ wST cI cJ b O) s.heap.size) (wST cI cJ a (sST_away S4 (va_cpy (ST_away O) (ST_away S4) (0 : Int32).toNatClampNeg (0 : Int32).toNatClampNeg (8 : Int32).toNatClampNeg)) ++ wST cI cJ b O) := hD
  rw [← eS5] at hP hD
  refine lv_aload_n hx hb dX1_copyFrom_60 rfl (lv_at hl 1 rfl) ?_
  refine va_get (D := D) (ci := 1) (v := .ref (b 4)) (C := RX1) (T := TX1) (N := 15) hx hb hu (fun _ h => h) hown hE.1 hP 13 rfl rfl 5 (Nat.le_of_ble_eq_true rfl) (hts (.fieldLink RX1 22 "CoverMeter$State" "covering" "[J") (List.mem_of_getElem? (i := 10) rfl)) (fun _ h9 => h9) rfl dX1_copyFrom_61 ?_
  refine lv_iconst (v := 0) hx hb dX1_copyFrom_64 (by decide) ?_
  refine lv_aload_n hx hb dX1_copyFrom_65 rfl (lv_at hl 0 rfl) ?_
  refine va_get (D := D) (ci := 1) (v := .ref (a 4)) (C := RX1) (T := TX1) (N := 15) hx hb hu (fun _ h => h) hown hE.1 hP 0 rfl rfl 5 (Nat.le_of_ble_eq_true rfl) (hts (.fieldLink RX1 22 "CoverMeter$State" "covering" "[J") (List.mem_of_getElem? (i := 10) rfl)) (fun _ h9 => h9) rfl dX1_copyFrom_66 ?_
  refine lv_iconst (v := 0) hx hb dX1_copyFrom_69 (by decide) ?_
  refine lv_bipush (v := 8) hx hb dX1_copyFrom_70 (by decide) ?_
  refine va_copyl hx hb (hml.trans hl.1.symm) hown (hts (.methodLink RX1 52 arraycopyName) (List.mem_of_getElem? (i := 2) rfl)) (hts (.native arraycopyName) (List.mem_of_getElem? (i := 3) rfl)) (hts (.static arraycopyName) (List.mem_of_getElem? (i := 4) rfl)) (hts (.initialized "java/lang/System") (List.mem_of_getElem? (i := 5) rfl)) hE.1 hP hD hS 17 4 1 1 rfl rfl rfl rfl rfl (by decide) (by decide) (by decide) (by decide) (by decide) (fun _ _ => rfl) (Nat.le_of_ble_eq_true rfl) (Nat.le_of_ble_eq_true rfl) dX1_copyFrom_72 (fun H locs hP hD hS => ?_)
  obtain ⟨S6, eS6⟩ : ∃ z, z = (sST_covering S5 (va_cpy (ST_covering O) (ST_covering S5) (0 : Int32).toNatClampNeg (0 : Int32).toNatClampNeg (8 : Int32).toNatClampNeg)) := ⟨_, rfl⟩
  have hP : va_P D vwCl (wST cI cJ a (sST_covering S5 (va_cpy (ST_covering O) (ST_covering S5) (0 : Int32).toNatClampNeg (0 : Int32).toNatClampNeg (8 : Int32).toNatClampNeg)) ++ wST cI cJ b O) H := hP
  have hD : va_D (va_A (wST cI cJ a S ++ wST cI cJ b O) s.heap.size) (wST cI cJ a (sST_covering S5 (va_cpy (ST_covering O) (ST_covering S5) (0 : Int32).toNatClampNeg (0 : Int32).toNatClampNeg (8 : Int32).toNatClampNeg)) ++ wST cI cJ b O) := hD
  rw [← eS6] at hP hD
  refine lv_aload_n hx hb dX1_copyFrom_75 rfl (lv_at hl 1 rfl) ?_
  refine va_get (D := D) (ci := 1) (v := .ref (b 5)) (C := RX1) (T := TX1) (N := 15) hx hb hu (fun _ h => h) hown hE.1 hP 13 rfl rfl 6 (Nat.le_of_ble_eq_true rfl) (hts (.fieldLink RX1 25 "CoverMeter$State" "meters" "[I") (List.mem_of_getElem? (i := 11) rfl)) (fun _ h9 => h9) rfl dX1_copyFrom_76 ?_
  refine lv_iconst (v := 0) hx hb dX1_copyFrom_79 (by decide) ?_
  refine lv_aload_n hx hb dX1_copyFrom_80 rfl (lv_at hl 0 rfl) ?_
  refine va_get (D := D) (ci := 1) (v := .ref (a 5)) (C := RX1) (T := TX1) (N := 15) hx hb hu (fun _ h => h) hown hE.1 hP 0 rfl rfl 6 (Nat.le_of_ble_eq_true rfl) (hts (.fieldLink RX1 25 "CoverMeter$State" "meters" "[I") (List.mem_of_getElem? (i := 11) rfl)) (fun _ h9 => h9) rfl dX1_copyFrom_81 ?_
  refine lv_iconst (v := 0) hx hb dX1_copyFrom_84 (by decide) ?_
  refine lv_bipush (v := 8) hx hb dX1_copyFrom_85 (by decide) ?_
  refine va_copyi hx hb (hml.trans hl.1.symm) hown (hts (.methodLink RX1 52 arraycopyName) (List.mem_of_getElem? (i := 2) rfl)) (hts (.native arraycopyName) (List.mem_of_getElem? (i := 3) rfl)) (hts (.static arraycopyName) (List.mem_of_getElem? (i := 4) rfl)) (hts (.initialized "java/lang/System") (List.mem_of_getElem? (i := 5) rfl)) hE.1 hP hD hS 18 5 0 0 rfl rfl rfl rfl rfl (by decide) (by decide) (by decide) (by decide) (by decide) (fun _ _ => rfl) (Nat.le_of_ble_eq_true rfl) (Nat.le_of_ble_eq_true rfl) dX1_copyFrom_87 (fun H locs hP hD hS => ?_)
  obtain ⟨S7, eS7⟩ : ∃ z, z = (sST_meters S6 (va_cpy (ST_meters O) (ST_meters S6) (0 : Int32).toNatClampNeg (0 : Int32).toNatClampNeg (8 : Int32).toNatClampNeg)) := ⟨_, rfl⟩
  have hP : va_P D vwCl (wST cI cJ a (sST_meters S6 (va_cpy (ST_meters O) (ST_meters S6) (0 : Int32).toNatClampNeg (0 : Int32).toNatClampNeg (8 : Int32).toNatClampNeg)) ++ wST cI cJ b O) H := hP
  have hD : va_D (va_A (wST cI cJ a S ++ wST cI cJ b O) s.heap.size) (wST cI cJ a (sST_meters S6 (va_cpy (ST_meters O) (ST_meters S6) (0 : Int32).toNatClampNeg (0 : Int32).toNatClampNeg (8 : Int32).toNatClampNeg)) ++ wST cI cJ b O) := hD
  rw [← eS7] at hP hD
  refine lv_aload_n hx hb dX1_copyFrom_90 rfl (lv_at hl 1 rfl) ?_
  refine va_get (D := D) (ci := 1) (v := .ref (b 6)) (C := RX1) (T := TX1) (N := 15) hx hb hu (fun _ h => h) hown hE.1 hP 13 rfl rfl 7 (Nat.le_of_ble_eq_true rfl) (hts (.fieldLink RX1 28 "CoverMeter$State" "turns" "[I") (List.mem_of_getElem? (i := 12) rfl)) (fun _ h9 => h9) rfl dX1_copyFrom_91 ?_
  refine lv_iconst (v := 0) hx hb dX1_copyFrom_94 (by decide) ?_
  refine lv_aload_n hx hb dX1_copyFrom_95 rfl (lv_at hl 0 rfl) ?_
  refine va_get (D := D) (ci := 1) (v := .ref (a 6)) (C := RX1) (T := TX1) (N := 15) hx hb hu (fun _ h => h) hown hE.1 hP 0 rfl rfl 7 (Nat.le_of_ble_eq_true rfl) (hts (.fieldLink RX1 28 "CoverMeter$State" "turns" "[I") (List.mem_of_getElem? (i := 12) rfl)) (fun _ h9 => h9) rfl dX1_copyFrom_96 ?_
  refine lv_iconst (v := 0) hx hb dX1_copyFrom_99 (by decide) ?_
  refine lv_bipush (v := 8) hx hb dX1_copyFrom_100 (by decide) ?_
  refine va_copyi hx hb (hml.trans hl.1.symm) hown (hts (.methodLink RX1 52 arraycopyName) (List.mem_of_getElem? (i := 2) rfl)) (hts (.native arraycopyName) (List.mem_of_getElem? (i := 3) rfl)) (hts (.static arraycopyName) (List.mem_of_getElem? (i := 4) rfl)) (hts (.initialized "java/lang/System") (List.mem_of_getElem? (i := 5) rfl)) hE.1 hP hD hS 19 6 0 0 rfl rfl rfl rfl rfl (by decide) (by decide) (by decide) (by decide) (by decide) (fun _ _ => rfl) (Nat.le_of_ble_eq_true rfl) (Nat.le_of_ble_eq_true rfl) dX1_copyFrom_102 (fun H locs hP hD hS => ?_)
  obtain ⟨S8, eS8⟩ : ∃ z, z = (sST_turns S7 (va_cpy (ST_turns O) (ST_turns S7) (0 : Int32).toNatClampNeg (0 : Int32).toNatClampNeg (8 : Int32).toNatClampNeg)) := ⟨_, rfl⟩
  have hP : va_P D vwCl (wST cI cJ a (sST_turns S7 (va_cpy (ST_turns O) (ST_turns S7) (0 : Int32).toNatClampNeg (0 : Int32).toNatClampNeg (8 : Int32).toNatClampNeg)) ++ wST cI cJ b O) H := hP
  have hD : va_D (va_A (wST cI cJ a S ++ wST cI cJ b O) s.heap.size) (wST cI cJ a (sST_turns S7 (va_cpy (ST_turns O) (ST_turns S7) (0 : Int32).toNatClampNeg (0 : Int32).toNatClampNeg (8 : Int32).toNatClampNeg)) ++ wST cI cJ b O) := hD
  rw [← eS8] at hP hD
  refine lv_aload_n hx hb dX1_copyFrom_105 rfl (lv_at hl 0 rfl) ?_
  refine lv_aload_n hx hb dX1_copyFrom_106 rfl (lv_at hl 1 rfl) ?_
  refine va_get (D := D) (ci := 1) (v := .int (ST_absences O)) (C := RX1) (T := TX1) (N := 15) hx hb hu (fun _ h => h) hown hE.1 hP 13 rfl rfl 8 (Nat.le_of_ble_eq_true rfl) (hts (.fieldLink RX1 65 "CoverMeter$State" "absences" "I") (List.mem_of_getElem? (i := 13) rfl)) (fun _ h9 => h9) rfl dX1_copyFrom_107 ?_
  refine va_put (D := D) (ci := 1) (v := .int (ST_absences O)) (ty := .int) (C := RX1) (T := TX1) (N := 15) hx hb hu (fun _ h => h) tyX1 tyX1_ok nmX1 hown hE.1 hP hD hS 0 rfl rfl 8 (Nat.le_of_ble_eq_true rfl) (hts (.fieldLink RX1 65 "CoverMeter$State" "absences" "I") (List.mem_of_getElem? (i := 13) rfl)) (fun _ h9 => h9) rfl (by decide +kernel) rfl rfl (Nat.le_of_ble_eq_true rfl) dX1_copyFrom_110 (fun H locs hP hD hS => ?_)
  obtain ⟨S9, eS9⟩ : ∃ z, z = (sST_absences S8 (ST_absences O)) := ⟨_, rfl⟩
  have hP : va_P D vwCl (wST cI cJ a (sST_absences S8 (ST_absences O)) ++ wST cI cJ b O) H := hP
  have hD : va_D (va_A (wST cI cJ a S ++ wST cI cJ b O) s.heap.size) (wST cI cJ a (sST_absences S8 (ST_absences O)) ++ wST cI cJ b O) := hD
  rw [← eS9] at hP hD
  refine lv_aload_n hx hb dX1_copyFrom_113 rfl (lv_at hl 1 rfl) ?_
  refine va_get (D := D) (ci := 1) (v := .ref (b 7)) (C := RX1) (T := TX1) (N := 15) hx hb hu (fun _ h => h) hown hE.1 hP 13 rfl rfl 9 (Nat.le_of_ble_eq_true rfl) (hts (.fieldLink RX1 31 "CoverMeter$State" "absentees" "[I") (List.mem_of_getElem? (i := 14) rfl)) (fun _ h9 => h9) rfl dX1_copyFrom_114 ?_
  refine lv_iconst (v := 0) hx hb dX1_copyFrom_117 (by decide) ?_
  refine lv_aload_n hx hb dX1_copyFrom_118 rfl (lv_at hl 0 rfl) ?_
  refine va_get (D := D) (ci := 1) (v := .ref (a 7)) (C := RX1) (T := TX1) (N := 15) hx hb hu (fun _ h => h) hown hE.1 hP 0 rfl rfl 9 (Nat.le_of_ble_eq_true rfl) (hts (.fieldLink RX1 31 "CoverMeter$State" "absentees" "[I") (List.mem_of_getElem? (i := 14) rfl)) (fun _ h9 => h9) rfl dX1_copyFrom_119 ?_
  refine lv_iconst (v := 0) hx hb dX1_copyFrom_122 (by decide) ?_
  refine lv_bipush (v := 30) hx hb dX1_copyFrom_123 (by decide) ?_
  refine va_copyi hx hb (hml.trans hl.1.symm) hown (hts (.methodLink RX1 52 arraycopyName) (List.mem_of_getElem? (i := 2) rfl)) (hts (.native arraycopyName) (List.mem_of_getElem? (i := 3) rfl)) (hts (.static arraycopyName) (List.mem_of_getElem? (i := 4) rfl)) (hts (.initialized "java/lang/System") (List.mem_of_getElem? (i := 5) rfl)) hE.1 hP hD hS 20 7 0 0 rfl rfl rfl rfl rfl (by decide) (by decide) (by decide) (by decide) (by decide) (fun _ _ => rfl) (Nat.le_of_ble_eq_true rfl) (Nat.le_of_ble_eq_true rfl) dX1_copyFrom_125 (fun H locs hP hD hS => ?_)
  obtain ⟨S10, eS10⟩ : ∃ z, z = (sST_absentees S9 (va_cpy (ST_absentees O) (ST_absentees S9) (0 : Int32).toNatClampNeg (0 : Int32).toNatClampNeg (30 : Int32).toNatClampNeg)) := ⟨_, rfl⟩
  have hP : va_P D vwCl (wST cI cJ a (sST_absentees S9 (va_cpy (ST_absentees O) (ST_absentees S9) (0 : Int32).toNatClampNeg (0 : Int32).toNatClampNeg (30 : Int32).toNatClampNeg)) ++ wST cI cJ b O) H := hP
  have hD : va_D (va_A (wST cI cJ a S ++ wST cI cJ b O) s.heap.size) (wST cI cJ a (sST_absentees S9 (va_cpy (ST_absentees O) (ST_absentees S9) (0 : Int32).toNatClampNeg (0 : Int32).toNatClampNeg (30 : Int32).toNatClampNeg)) ++ wST cI cJ b O) := hD
  rw [← eS10] at hP hD
  refine lv_aload_n hx hb dX1_copyFrom_128 rfl (lv_at hl 1 rfl) ?_
  refine va_get (D := D) (ci := 1) (v := .ref (b 8)) (C := RX1) (T := TX1) (N := 15) hx hb hu (fun _ h => h) hown hE.1 hP 13 rfl rfl 10 (Nat.le_of_ble_eq_true rfl) (hts (.fieldLink RX1 34 "CoverMeter$State" "shifts" "[I") (List.mem_of_getElem? (i := 15) rfl)) (fun _ h9 => h9) rfl dX1_copyFrom_129 ?_
  refine lv_iconst (v := 0) hx hb dX1_copyFrom_132 (by decide) ?_
  refine lv_aload_n hx hb dX1_copyFrom_133 rfl (lv_at hl 0 rfl) ?_
  refine va_get (D := D) (ci := 1) (v := .ref (a 8)) (C := RX1) (T := TX1) (N := 15) hx hb hu (fun _ h => h) hown hE.1 hP 0 rfl rfl 10 (Nat.le_of_ble_eq_true rfl) (hts (.fieldLink RX1 34 "CoverMeter$State" "shifts" "[I") (List.mem_of_getElem? (i := 15) rfl)) (fun _ h9 => h9) rfl dX1_copyFrom_134 ?_
  refine lv_iconst (v := 0) hx hb dX1_copyFrom_137 (by decide) ?_
  refine lv_bipush (v := 30) hx hb dX1_copyFrom_138 (by decide) ?_
  refine va_copyi hx hb (hml.trans hl.1.symm) hown (hts (.methodLink RX1 52 arraycopyName) (List.mem_of_getElem? (i := 2) rfl)) (hts (.native arraycopyName) (List.mem_of_getElem? (i := 3) rfl)) (hts (.static arraycopyName) (List.mem_of_getElem? (i := 4) rfl)) (hts (.initialized "java/lang/System") (List.mem_of_getElem? (i := 5) rfl)) hE.1 hP hD hS 21 8 0 0 rfl rfl rfl rfl rfl (by decide) (by decide) (by decide) (by decide) (by decide) (fun _ _ => rfl) (Nat.le_of_ble_eq_true rfl) (Nat.le_of_ble_eq_true rfl) dX1_copyFrom_140 (fun H locs hP hD hS => ?_)
  obtain ⟨S11, eS11⟩ : ∃ z, z = (sST_shifts S10 (va_cpy (ST_shifts O) (ST_shifts S10) (0 : Int32).toNatClampNeg (0 : Int32).toNatClampNeg (30 : Int32).toNatClampNeg)) := ⟨_, rfl⟩
  have hP : va_P D vwCl (wST cI cJ a (sST_shifts S10 (va_cpy (ST_shifts O) (ST_shifts S10) (0 : Int32).toNatClampNeg (0 : Int32).toNatClampNeg (30 : Int32).toNatClampNeg)) ++ wST cI cJ b O) H := hP
  have hD : va_D (va_A (wST cI cJ a S ++ wST cI cJ b O) s.heap.size) (wST cI cJ a (sST_shifts S10 (va_cpy (ST_shifts O) (ST_shifts S10) (0 : Int32).toNatClampNeg (0 : Int32).toNatClampNeg (30 : Int32).toNatClampNeg)) ++ wST cI cJ b O) := hD
  rw [← eS11] at hP hD
  refine lv_aload_n hx hb dX1_copyFrom_143 rfl (lv_at hl 1 rfl) ?_
  refine va_get (D := D) (ci := 1) (v := .ref (b 9)) (C := RX1) (T := TX1) (N := 15) hx hb hu (fun _ h => h) hown hE.1 hP 13 rfl rfl 11 (Nat.le_of_ble_eq_true rfl) (hts (.fieldLink RX1 37 "CoverMeter$State" "statuses" "[I") (List.mem_of_getElem? (i := 16) rfl)) (fun _ h9 => h9) rfl dX1_copyFrom_144 ?_
  refine lv_iconst (v := 0) hx hb dX1_copyFrom_147 (by decide) ?_
  refine lv_aload_n hx hb dX1_copyFrom_148 rfl (lv_at hl 0 rfl) ?_
  refine va_get (D := D) (ci := 1) (v := .ref (a 9)) (C := RX1) (T := TX1) (N := 15) hx hb hu (fun _ h => h) hown hE.1 hP 0 rfl rfl 11 (Nat.le_of_ble_eq_true rfl) (hts (.fieldLink RX1 37 "CoverMeter$State" "statuses" "[I") (List.mem_of_getElem? (i := 16) rfl)) (fun _ h9 => h9) rfl dX1_copyFrom_149 ?_
  refine lv_iconst (v := 0) hx hb dX1_copyFrom_152 (by decide) ?_
  refine lv_bipush (v := 30) hx hb dX1_copyFrom_153 (by decide) ?_
  refine va_copyi hx hb (hml.trans hl.1.symm) hown (hts (.methodLink RX1 52 arraycopyName) (List.mem_of_getElem? (i := 2) rfl)) (hts (.native arraycopyName) (List.mem_of_getElem? (i := 3) rfl)) (hts (.static arraycopyName) (List.mem_of_getElem? (i := 4) rfl)) (hts (.initialized "java/lang/System") (List.mem_of_getElem? (i := 5) rfl)) hE.1 hP hD hS 22 9 0 0 rfl rfl rfl rfl rfl (by decide) (by decide) (by decide) (by decide) (by decide) (fun _ _ => rfl) (Nat.le_of_ble_eq_true rfl) (Nat.le_of_ble_eq_true rfl) dX1_copyFrom_155 (fun H locs hP hD hS => ?_)
  obtain ⟨S12, eS12⟩ : ∃ z, z = (sST_statuses S11 (va_cpy (ST_statuses O) (ST_statuses S11) (0 : Int32).toNatClampNeg (0 : Int32).toNatClampNeg (30 : Int32).toNatClampNeg)) := ⟨_, rfl⟩
  have hP : va_P D vwCl (wST cI cJ a (sST_statuses S11 (va_cpy (ST_statuses O) (ST_statuses S11) (0 : Int32).toNatClampNeg (0 : Int32).toNatClampNeg (30 : Int32).toNatClampNeg)) ++ wST cI cJ b O) H := hP
  have hD : va_D (va_A (wST cI cJ a S ++ wST cI cJ b O) s.heap.size) (wST cI cJ a (sST_statuses S11 (va_cpy (ST_statuses O) (ST_statuses S11) (0 : Int32).toNatClampNeg (0 : Int32).toNatClampNeg (30 : Int32).toNatClampNeg)) ++ wST cI cJ b O) := hD
  rw [← eS12] at hP hD
  refine lv_aload_n hx hb dX1_copyFrom_158 rfl (lv_at hl 1 rfl) ?_
  refine va_get (D := D) (ci := 1) (v := .ref (b 10)) (C := RX1) (T := TX1) (N := 15) hx hb hu (fun _ h => h) hown hE.1 hP 13 rfl rfl 12 (Nat.le_of_ble_eq_true rfl) (hts (.fieldLink RX1 40 "CoverMeter$State" "coverers" "[I") (List.mem_of_getElem? (i := 17) rfl)) (fun _ h9 => h9) rfl dX1_copyFrom_159 ?_
  refine lv_iconst (v := 0) hx hb dX1_copyFrom_162 (by decide) ?_
  refine lv_aload_n hx hb dX1_copyFrom_163 rfl (lv_at hl 0 rfl) ?_
  refine va_get (D := D) (ci := 1) (v := .ref (a 10)) (C := RX1) (T := TX1) (N := 15) hx hb hu (fun _ h => h) hown hE.1 hP 0 rfl rfl 12 (Nat.le_of_ble_eq_true rfl) (hts (.fieldLink RX1 40 "CoverMeter$State" "coverers" "[I") (List.mem_of_getElem? (i := 17) rfl)) (fun _ h9 => h9) rfl dX1_copyFrom_164 ?_
  refine lv_iconst (v := 0) hx hb dX1_copyFrom_167 (by decide) ?_
  refine lv_bipush (v := 30) hx hb dX1_copyFrom_168 (by decide) ?_
  refine va_copyi hx hb (hml.trans hl.1.symm) hown (hts (.methodLink RX1 52 arraycopyName) (List.mem_of_getElem? (i := 2) rfl)) (hts (.native arraycopyName) (List.mem_of_getElem? (i := 3) rfl)) (hts (.static arraycopyName) (List.mem_of_getElem? (i := 4) rfl)) (hts (.initialized "java/lang/System") (List.mem_of_getElem? (i := 5) rfl)) hE.1 hP hD hS 23 10 0 0 rfl rfl rfl rfl rfl (by decide) (by decide) (by decide) (by decide) (by decide) (fun _ _ => rfl) (Nat.le_of_ble_eq_true rfl) (Nat.le_of_ble_eq_true rfl) dX1_copyFrom_170 (fun H locs hP hD hS => ?_)
  obtain ⟨S13, eS13⟩ : ∃ z, z = (sST_coverers S12 (va_cpy (ST_coverers O) (ST_coverers S12) (0 : Int32).toNatClampNeg (0 : Int32).toNatClampNeg (30 : Int32).toNatClampNeg)) := ⟨_, rfl⟩
  have hP : va_P D vwCl (wST cI cJ a (sST_coverers S12 (va_cpy (ST_coverers O) (ST_coverers S12) (0 : Int32).toNatClampNeg (0 : Int32).toNatClampNeg (30 : Int32).toNatClampNeg)) ++ wST cI cJ b O) H := hP
  have hD : va_D (va_A (wST cI cJ a S ++ wST cI cJ b O) s.heap.size) (wST cI cJ a (sST_coverers S12 (va_cpy (ST_coverers O) (ST_coverers S12) (0 : Int32).toNatClampNeg (0 : Int32).toNatClampNeg (30 : Int32).toNatClampNeg)) ++ wST cI cJ b O) := hD
  rw [← eS13] at hP hD
  refine lv_aload_n hx hb dX1_copyFrom_173 rfl (lv_at hl 1 rfl) ?_
  refine va_get (D := D) (ci := 1) (v := .ref (b 11)) (C := RX1) (T := TX1) (N := 15) hx hb hu (fun _ h => h) hown hE.1 hP 13 rfl rfl 13 (Nat.le_of_ble_eq_true rfl) (hts (.fieldLink RX1 43 "CoverMeter$State" "points" "[I") (List.mem_of_getElem? (i := 18) rfl)) (fun _ h9 => h9) rfl dX1_copyFrom_174 ?_
  refine lv_iconst (v := 0) hx hb dX1_copyFrom_177 (by decide) ?_
  refine lv_aload_n hx hb dX1_copyFrom_178 rfl (lv_at hl 0 rfl) ?_
  refine va_get (D := D) (ci := 1) (v := .ref (a 11)) (C := RX1) (T := TX1) (N := 15) hx hb hu (fun _ h => h) hown hE.1 hP 0 rfl rfl 13 (Nat.le_of_ble_eq_true rfl) (hts (.fieldLink RX1 43 "CoverMeter$State" "points" "[I") (List.mem_of_getElem? (i := 18) rfl)) (fun _ h9 => h9) rfl dX1_copyFrom_179 ?_
  refine lv_iconst (v := 0) hx hb dX1_copyFrom_182 (by decide) ?_
  refine lv_bipush (v := 30) hx hb dX1_copyFrom_183 (by decide) ?_
  refine va_copyi hx hb (hml.trans hl.1.symm) hown (hts (.methodLink RX1 52 arraycopyName) (List.mem_of_getElem? (i := 2) rfl)) (hts (.native arraycopyName) (List.mem_of_getElem? (i := 3) rfl)) (hts (.static arraycopyName) (List.mem_of_getElem? (i := 4) rfl)) (hts (.initialized "java/lang/System") (List.mem_of_getElem? (i := 5) rfl)) hE.1 hP hD hS 24 11 0 0 rfl rfl rfl rfl rfl (by decide) (by decide) (by decide) (by decide) (by decide) (fun _ _ => rfl) (Nat.le_of_ble_eq_true rfl) (Nat.le_of_ble_eq_true rfl) dX1_copyFrom_185 (fun H locs hP hD hS => ?_)
  obtain ⟨S14, eS14⟩ : ∃ z, z = (sST_points S13 (va_cpy (ST_points O) (ST_points S13) (0 : Int32).toNatClampNeg (0 : Int32).toNatClampNeg (30 : Int32).toNatClampNeg)) := ⟨_, rfl⟩
  have hP : va_P D vwCl (wST cI cJ a (sST_points S13 (va_cpy (ST_points O) (ST_points S13) (0 : Int32).toNatClampNeg (0 : Int32).toNatClampNeg (30 : Int32).toNatClampNeg)) ++ wST cI cJ b O) H := hP
  have hD : va_D (va_A (wST cI cJ a S ++ wST cI cJ b O) s.heap.size) (wST cI cJ a (sST_points S13 (va_cpy (ST_points O) (ST_points S13) (0 : Int32).toNatClampNeg (0 : Int32).toNatClampNeg (30 : Int32).toNatClampNeg)) ++ wST cI cJ b O) := hD
  rw [← eS14] at hP hD
  refine lv_aload_n hx hb dX1_copyFrom_188 rfl (lv_at hl 1 rfl) ?_
  refine va_get (D := D) (ci := 1) (v := .ref (b 12)) (C := RX1) (T := TX1) (N := 15) hx hb hu (fun _ h => h) hown hE.1 hP 13 rfl rfl 14 (Nat.le_of_ble_eq_true rfl) (hts (.fieldLink RX1 46 "CoverMeter$State" "bids" "[I") (List.mem_of_getElem? (i := 19) rfl)) (fun _ h9 => h9) rfl dX1_copyFrom_189 ?_
  refine lv_iconst (v := 0) hx hb dX1_copyFrom_192 (by decide) ?_
  refine lv_aload_n hx hb dX1_copyFrom_193 rfl (lv_at hl 0 rfl) ?_
  refine va_get (D := D) (ci := 1) (v := .ref (a 12)) (C := RX1) (T := TX1) (N := 15) hx hb hu (fun _ h => h) hown hE.1 hP 0 rfl rfl 14 (Nat.le_of_ble_eq_true rfl) (hts (.fieldLink RX1 46 "CoverMeter$State" "bids" "[I") (List.mem_of_getElem? (i := 19) rfl)) (fun _ h9 => h9) rfl dX1_copyFrom_194 ?_
  refine lv_iconst (v := 0) hx hb dX1_copyFrom_197 (by decide) ?_
  refine lv_sipush (v := 240) hx hb dX1_copyFrom_198 (by decide) ?_
  refine va_copyi hx hb (hml.trans hl.1.symm) hown (hts (.methodLink RX1 52 arraycopyName) (List.mem_of_getElem? (i := 2) rfl)) (hts (.native arraycopyName) (List.mem_of_getElem? (i := 3) rfl)) (hts (.static arraycopyName) (List.mem_of_getElem? (i := 4) rfl)) (hts (.initialized "java/lang/System") (List.mem_of_getElem? (i := 5) rfl)) hE.1 hP hD hS 25 12 0 0 rfl rfl rfl rfl rfl (by decide) (by decide) (by decide) (by decide) (by decide) (fun _ _ => rfl) (Nat.le_of_ble_eq_true rfl) (Nat.le_of_ble_eq_true rfl) dX1_copyFrom_201 (fun H locs hP hD hS => ?_)
  obtain ⟨S15, eS15⟩ : ∃ z, z = (sST_bids S14 (va_cpy (ST_bids O) (ST_bids S14) (0 : Int32).toNatClampNeg (0 : Int32).toNatClampNeg (240 : Int32).toNatClampNeg)) := ⟨_, rfl⟩
  have hP : va_P D vwCl (wST cI cJ a (sST_bids S14 (va_cpy (ST_bids O) (ST_bids S14) (0 : Int32).toNatClampNeg (0 : Int32).toNatClampNeg (240 : Int32).toNatClampNeg)) ++ wST cI cJ b O) H := hP
  have hD : va_D (va_A (wST cI cJ a S ++ wST cI cJ b O) s.heap.size) (wST cI cJ a (sST_bids S14 (va_cpy (ST_bids O) (ST_bids S14) (0 : Int32).toNatClampNeg (0 : Int32).toNatClampNeg (240 : Int32).toNatClampNeg)) ++ wST cI cJ b O) := hD
  rw [← eS15] at hP hD
  have eC : S15 = cp_ST S O := by rw [eS15, eS14, eS13, eS12, eS11, eS10, eS9, eS8, eS7, eS6, eS5, eS4, eS3, eS2, eS1]; rfl
  rw [eC] at hP hD
  exact W.vret hx hb hr (fun t ht hW => ⟨rfl, ⟨by rw [ht]; exact hP, hD⟩, hS.F ht⟩) hS.2.2 dX1_copyFrom_204
