def f_X3_carryOut_44 : Nat → MD → Int32 → Int32 → Option (Int32 × MD)
  | 0, _, _, _ => none
  | n+1, Sz, l2, l3 => if l3 = 0 then
 (some (l2, Sz))
 else ((f_X3_passesOrder Sz).bind fun r8 =>
 if r8.1 = 0 then
 (if (0 : Int32) = 0 then
 (q_let ((l2 + 0)) fun v11 =>
 if (0 : Int32) = 0 then
 (f_X3_carryOut_44 n r8.2 v11 0)
 else (if (MD_length r8.2) ≤ (MD_at r8.2) then
 (f_X3_carryOut_44 n r8.2 v11 0)
 else (f_X3_carryOut_44 n r8.2 v11 1)))
 else (q_let ((l2 + 1)) fun v14 =>
 if (0 : Int32) = 0 then
 (f_X3_carryOut_44 n r8.2 v14 0)
 else (if (MD_length r8.2) ≤ (MD_at r8.2) then
 (f_X3_carryOut_44 n r8.2 v14 0)
 else (f_X3_carryOut_44 n r8.2 v14 1))))
 else ((f_X3_does r8.2).bind fun r17 =>
 if r17.1 = 0 then
 (if (0 : Int32) = 0 then
 (q_let ((l2 + 0)) fun v20 =>
 if (0 : Int32) = 0 then
 (f_X3_carryOut_44 n r17.2 v20 0)
 else (if (MD_length r17.2) ≤ (MD_at r17.2) then
 (f_X3_carryOut_44 n r17.2 v20 0)
 else (f_X3_carryOut_44 n r17.2 v20 1)))
 else (q_let ((l2 + 1)) fun v23 =>
 if (0 : Int32) = 0 then
 (f_X3_carryOut_44 n r17.2 v23 0)
 else (if (MD_length r17.2) ≤ (MD_at r17.2) then
 (f_X3_carryOut_44 n r17.2 v23 0)
 else (f_X3_carryOut_44 n r17.2 v23 1))))
 else (if (1 : Int32) = 0 then
 (q_let ((l2 + 0)) fun v27 =>
 if (1 : Int32) = 0 then
 (f_X3_carryOut_44 n r17.2 v27 0)
 else (if (MD_length r17.2) ≤ (MD_at r17.2) then
 (f_X3_carryOut_44 n r17.2 v27 0)
 else (f_X3_carryOut_44 n r17.2 v27 1)))
 else (q_let ((l2 + 1)) fun v30 =>
 if (1 : Int32) = 0 then
 (f_X3_carryOut_44 n r17.2 v30 0)
 else (if (MD_length r17.2) ≤ (MD_at r17.2) then
 (f_X3_carryOut_44 n r17.2 v30 0)
 else (f_X3_carryOut_44 n r17.2 v30 1))))))
def f_X3_carryOut (S : MD) : Option (Int32 × MD) := q_let (sMD_thrown S 0) fun S1 =>
 (f_X3_faultOf S1).bind fun r2 =>
 if r2.1 = (-1) then
 ((f_X3_records r2.2).bind fun r4 =>
 q_let (sMD_at r4 0) fun S5 =>
 if (MD_length S5) ≤ 0 then
 (f_X3_carryOut_44 2000 S5 0 0)
 else (f_X3_carryOut_44 2000 S5 0 1))
 else (some (((-10) - r2.1), r2.2))
abbrev rX3_carryOut : Room := { frames := 11, cells := 0, slots := 0, locals := 247 }
set_option maxRecDepth 100000 in
set_option maxHeartbeats 4000000 in
theorem c_X3_carryOut (l : Launch) (D : va_G) (cI cJ cS : ClassId) (a : Nat → Nat) (S : MD) (sz : Nat) (o : (Int32 × MD)) (hf : f_X3_carryOut S = some o) : Met l yX3_carryOut wsX3_carryOut rX3_carryOut (va_Pc [.ref (a 0)] (q_BW D cI cJ cS (wMD cI cJ a S) sz)) (q_Wo (some (.int o.1)) D (wMD cI cJ a S) (wMD cI cJ a o.2) sz) 0 0 (va_A (wMD cI cJ a S) sz) := by
  refine Met.ofW (cc := cX3_carryOut) (maxL := 4) (ret := some .int) (by decide) rfl ?_
  intro p e s m args below meth c s₁ B hml hv
  obtain ⟨rfl, hsz, hP, hE, hD0⟩ := hv
  have hx := B.exec
  have hb := B.bytes
  have hr := B.returns
  have hts := atoms_spec (ws := wsX3_carryOut) B.pre
  have hown : s.vm.findClass RX3 = some m.cls := findClass_of_methodNamed B.named
  have hlocks := B.notSynchronized
  have hu : ∀ z ∈ wsX30, z.before _ s = true := fun z h => hts z (List.mem_cons_of_mem _ (List.mem_append_right _ h))
  subst hsz
  have hD := hD0.self (sz := s.heap.size)
  have hS : va_S (va_A (wMD cI cJ a S) s.heap.size) s.heap s.heap [] := va_S.rf
  have L_44 : ∀ (n : Nat) (Sz : MD) (H : Heap) (locs : List Loc) (hP : va_P D vwCl (wMD cI cJ a Sz) H) (hD : va_D (va_A (wMD cI cJ a S) s.heap.size) (wMD cI cJ a Sz)) (hS : va_S (va_A (wMD cI cJ a S) s.heap.size) s.heap H locs) (l2 : Int32) (l3 : Int32) (ls : Array Slot), lv_has ls 4 [(0, .ref (a 0)), (2, .int l2), (3, .int l3)] → f_X3_carryOut_44 n Sz l2 l3 = some o → W p l e (headSpec wsX3_carryOut rX3_carryOut).room s m (([.ref (a 0)] : List Value).toArray) below meth c H locs 0 0 (MQ below (q_Wo (some (.int o.1)) D (wMD cI cJ a S) (wMD cI cJ a o.2) s.heap.size) (([.ref (a 0)] : List Value).toArray) s 0 0 (va_A (wMD cI cJ a S) s.heap.size)) (F0 m 44 ls []) := by
    intro n
    induction n with
    | zero => intro Sz H locs hP hD hS l2 l3 ls hl hf; cases hf
    | succ n ih =>
      intro Sz H locs hP hD hS l2 l3 ls hl hf
      rw [f_X3_carryOut_44] at hf
      refine lv_iload_n hx hb dX3_carryOut_44 rfl (lv_at hl 2 rfl) ?_
      refine lv_if_eq (tgt := 104) hx hb dX3_carryOut_45 (by decide) (fun c7 => ?_) (fun c7 => ?_)
      · have hf := q_ite_t c7 hf
        refine lv_iload_n hx hb dX3_carryOut_104 rfl (lv_at hl 1 rfl) ?_
        have ho := q_some hf
        subst ho
        exact W.iret hx hb hr (fun t ht hW => ⟨rfl, ⟨by rw [ht]; exact hP, hD⟩, hS.F ht⟩) hS.2.2 dX3_carryOut_105
      · have hf := q_ite_f c7 hf
        refine lv_aload_n hx hb dX3_carryOut_48 rfl (lv_at hl 0 rfl) ?_
        obtain ⟨r8, hr8, hf⟩ := q_bd_go hf
        refine q_wrVi (ci := 3) (As := []) (rest := []) hx hb hml hown hts (c_X3_passesOrder l D cI cJ cS a Sz _  _ hr8) (cwV 0 hts gX3_carryOut_X3_passesOrder rfl rfl rfl (by decide +kernel) ⟨(Nat.le_of_ble_eq_true rfl), (Nat.le_of_ble_eq_true rfl)⟩) hE hP hD hS (fun q h => Or.inr h) rfl rfl rfl hl.1 rfl (Nat.le_of_ble_eq_true rfl) dX3_carryOut_49 ⟨Nat.zero_le _, Nat.zero_le _⟩ (fun H locs hP hD hS => ?_)
        refine lv_if_eq (tgt := 66) hx hb dX3_carryOut_52 (by decide) (fun c9 => ?_) (fun c9 => ?_)
        · have hf := q_ite_t c9 hf
          refine lv_iconst (v := 0) hx hb dX3_carryOut_66 (by decide) ?_
          refine lv_istore_n (lv' := [(3, .int 0), (0, .ref (a 0)), (2, .int l2)]) hx hb dX3_carryOut_67 rfl hl (by decide) rfl (fun ls hl => ?_)
          refine lv_iload_n hx hb dX3_carryOut_68 rfl (lv_at hl 2 rfl) ?_
          refine lv_iload_n hx hb dX3_carryOut_69 rfl (lv_at hl 0 rfl) ?_
          refine lv_if_eq (tgt := 77) hx hb dX3_carryOut_70 (by decide) (fun c10 => ?_) (fun c10 => ?_)
          · have hf := q_ite_t c10 hf
            refine lv_iconst (v := 0) hx hb dX3_carryOut_77 (by decide) ?_
            refine lv_iadd hx hb dX3_carryOut_78 ?_
            obtain ⟨v11, ev11, hf⟩ := q_let_go hf
            refine q_nmi ev11 ?_
            refine lv_istore_n (lv' := [(2, .int v11), (3, .int 0), (0, .ref (a 0))]) hx hb dX3_carryOut_79 rfl hl (by decide) rfl (fun ls hl => ?_)
            refine lv_iload_n hx hb dX3_carryOut_80 rfl (lv_at hl 1 rfl) ?_
            refine lv_if_eq (tgt := 99) hx hb dX3_carryOut_81 (by decide) (fun c12 => ?_) (fun c12 => ?_)
            · have hf := q_ite_t c12 hf
              refine lv_iconst (v := 0) hx hb dX3_carryOut_99 (by decide) ?_
              refine lv_istore_n (lv' := [(3, .int 0), (2, .int v11), (0, .ref (a 0))]) hx hb dX3_carryOut_100 rfl hl (by decide) rfl (fun ls hl => ?_)
              refine lv_goto (tgt := 44) hx hb dX3_carryOut_101 (by decide) ?_
              exact ih r8.2 _ _ hP hD hS v11 0 _ (lv_sub hl [2, 1, 0] rfl) hf
            · have hf := q_ite_f c12 hf
              refine lv_aload_n hx hb dX3_carryOut_84 rfl (lv_at hl 2 rfl) ?_
              refine va_get (D := D) (ci := 3) (v := .int (MD_at r8.2)) (C := RX3) (T := TX3) (N := 15) hx hb hu (fun _ h => h) hown hE.1 hP 0 rfl rfl 6 (Nat.le_of_ble_eq_true rfl) (hts (.fieldLink RX3 200 "CoverMeterModel" "at" "I") (List.mem_of_getElem? (i := 2) rfl)) (fun _ h9 => h9) rfl dX3_carryOut_85 ?_
              refine lv_aload_n hx hb dX3_carryOut_88 rfl (lv_at hl 2 rfl) ?_
              refine va_get (D := D) (ci := 3) (v := .int (MD_length r8.2)) (C := RX3) (T := TX3) (N := 15) hx hb hu (fun _ h => h) hown hE.1 hP 0 rfl rfl 5 (Nat.le_of_ble_eq_true rfl) (hts (.fieldLink RX3 197 "CoverMeterModel" "length" "I") (List.mem_of_getElem? (i := 3) rfl)) (fun _ h9 => h9) rfl dX3_carryOut_89 ?_
              refine lv_icmp_ge (tgt := 99) hx hb dX3_carryOut_92 (by decide) (fun c13 => ?_) (fun c13 => ?_)
              · have hf := q_ite_t c13 hf
                refine lv_iconst (v := 0) hx hb dX3_carryOut_99 (by decide) ?_
                refine lv_istore_n (lv' := [(3, .int 0), (2, .int v11), (0, .ref (a 0))]) hx hb dX3_carryOut_100 rfl hl (by decide) rfl (fun ls hl => ?_)
                refine lv_goto (tgt := 44) hx hb dX3_carryOut_101 (by decide) ?_
                exact ih r8.2 _ _ hP hD hS v11 0 _ (lv_sub hl [2, 1, 0] rfl) hf
              · have hf := q_ite_f c13 hf
                refine lv_iconst (v := 1) hx hb dX3_carryOut_95 (by decide) ?_
                refine lv_goto (tgt := 100) hx hb dX3_carryOut_96 (by decide) ?_
                refine lv_istore_n (lv' := [(3, .int 1), (2, .int v11), (0, .ref (a 0))]) hx hb dX3_carryOut_100 rfl hl (by decide) rfl (fun ls hl => ?_)
                refine lv_goto (tgt := 44) hx hb dX3_carryOut_101 (by decide) ?_
                exact ih r8.2 _ _ hP hD hS v11 1 _ (lv_sub hl [2, 1, 0] rfl) hf
          · have hf := q_ite_f c10 hf
            refine lv_iconst (v := 1) hx hb dX3_carryOut_73 (by decide) ?_
            refine lv_goto (tgt := 78) hx hb dX3_carryOut_74 (by decide) ?_
            refine lv_iadd hx hb dX3_carryOut_78 ?_
            obtain ⟨v14, ev14, hf⟩ := q_let_go hf
            refine q_nmi ev14 ?_
            refine lv_istore_n (lv' := [(2, .int v14), (3, .int 0), (0, .ref (a 0))]) hx hb dX3_carryOut_79 rfl hl (by decide) rfl (fun ls hl => ?_)
            refine lv_iload_n hx hb dX3_carryOut_80 rfl (lv_at hl 1 rfl) ?_
            refine lv_if_eq (tgt := 99) hx hb dX3_carryOut_81 (by decide) (fun c15 => ?_) (fun c15 => ?_)
            · have hf := q_ite_t c15 hf
              refine lv_iconst (v := 0) hx hb dX3_carryOut_99 (by decide) ?_
              refine lv_istore_n (lv' := [(3, .int 0), (2, .int v14), (0, .ref (a 0))]) hx hb dX3_carryOut_100 rfl hl (by decide) rfl (fun ls hl => ?_)
              refine lv_goto (tgt := 44) hx hb dX3_carryOut_101 (by decide) ?_
              exact ih r8.2 _ _ hP hD hS v14 0 _ (lv_sub hl [2, 1, 0] rfl) hf
            · have hf := q_ite_f c15 hf
              refine lv_aload_n hx hb dX3_carryOut_84 rfl (lv_at hl 2 rfl) ?_
              refine va_get (D := D) (ci := 3) (v := .int (MD_at r8.2)) (C := RX3) (T := TX3) (N := 15) hx hb hu (fun _ h => h) hown hE.1 hP 0 rfl rfl 6 (Nat.le_of_ble_eq_true rfl) (hts (.fieldLink RX3 200 "CoverMeterModel" "at" "I") (List.mem_of_getElem? (i := 2) rfl)) (fun _ h9 => h9) rfl dX3_carryOut_85 ?_
              refine lv_aload_n hx hb dX3_carryOut_88 rfl (lv_at hl 2 rfl) ?_
              refine va_get (D := D) (ci := 3) (v := .int (MD_length r8.2)) (C := RX3) (T := TX3) (N := 15) hx hb hu (fun _ h => h) hown hE.1 hP 0 rfl rfl 5 (Nat.le_of_ble_eq_true rfl) (hts (.fieldLink RX3 197 "CoverMeterModel" "length" "I") (List.mem_of_getElem? (i := 3) rfl)) (fun _ h9 => h9) rfl dX3_carryOut_89 ?_
              refine lv_icmp_ge (tgt := 99) hx hb dX3_carryOut_92 (by decide) (fun c16 => ?_) (fun c16 => ?_)
              · have hf := q_ite_t c16 hf
                refine lv_iconst (v := 0) hx hb dX3_carryOut_99 (by decide) ?_
                refine lv_istore_n (lv' := [(3, .int 0), (2, .int v14), (0, .ref (a 0))]) hx hb dX3_carryOut_100 rfl hl (by decide) rfl (fun ls hl => ?_)
                refine lv_goto (tgt := 44) hx hb dX3_carryOut_101 (by decide) ?_
                exact ih r8.2 _ _ hP hD hS v14 0 _ (lv_sub hl [2, 1, 0] rfl) hf
              · have hf := q_ite_f c16 hf
                refine lv_iconst (v := 1) hx hb dX3_carryOut_95 (by decide) ?_
                refine lv_goto (tgt := 100) hx hb dX3_carryOut_96 (by decide) ?_
                refine lv_istore_n (lv' := [(3, .int 1), (2, .int v14), (0, .ref (a 0))]) hx hb dX3_carryOut_100 rfl hl (by decide) rfl (fun ls hl => ?_)
                refine lv_goto (tgt := 44) hx hb dX3_carryOut_101 (by decide) ?_
                exact ih r8.2 _ _ hP hD hS v14 1 _ (lv_sub hl [2, 1, 0] rfl) hf
        · have hf := q_ite_f c9 hf
          refine lv_aload_n hx hb dX3_carryOut_55 rfl (lv_at hl 0 rfl) ?_
          obtain ⟨r17, hr17, hf⟩ := q_bd_go hf
          refine q_wrVi (ci := 3) (As := []) (rest := []) hx hb hml hown hts (c_X3_does l D cI cJ cS a r8.2 _  _ hr17) (cwV 0 hts gX3_carryOut_X3_does rfl rfl rfl (by decide +kernel) ⟨(Nat.le_of_ble_eq_true rfl), (Nat.le_of_ble_eq_true rfl)⟩) hE hP hD hS (fun q h => Or.inr h) rfl rfl rfl hl.1 rfl (Nat.le_of_ble_eq_true rfl) dX3_carryOut_56 ⟨Nat.zero_le _, Nat.zero_le _⟩ (fun H locs hP hD hS => ?_)
          refine lv_if_eq (tgt := 66) hx hb dX3_carryOut_59 (by decide) (fun c18 => ?_) (fun c18 => ?_)
          · have hf := q_ite_t c18 hf
            refine lv_iconst (v := 0) hx hb dX3_carryOut_66 (by decide) ?_
            refine lv_istore_n (lv' := [(3, .int 0), (0, .ref (a 0)), (2, .int l2)]) hx hb dX3_carryOut_67 rfl hl (by decide) rfl (fun ls hl => ?_)
            refine lv_iload_n hx hb dX3_carryOut_68 rfl (lv_at hl 2 rfl) ?_
            refine lv_iload_n hx hb dX3_carryOut_69 rfl (lv_at hl 0 rfl) ?_
            refine lv_if_eq (tgt := 77) hx hb dX3_carryOut_70 (by decide) (fun c19 => ?_) (fun c19 => ?_)
            · have hf := q_ite_t c19 hf
              refine lv_iconst (v := 0) hx hb dX3_carryOut_77 (by decide) ?_
              refine lv_iadd hx hb dX3_carryOut_78 ?_
              obtain ⟨v20, ev20, hf⟩ := q_let_go hf
              refine q_nmi ev20 ?_
              refine lv_istore_n (lv' := [(2, .int v20), (3, .int 0), (0, .ref (a 0))]) hx hb dX3_carryOut_79 rfl hl (by decide) rfl (fun ls hl => ?_)
              refine lv_iload_n hx hb dX3_carryOut_80 rfl (lv_at hl 1 rfl) ?_
              refine lv_if_eq (tgt := 99) hx hb dX3_carryOut_81 (by decide) (fun c21 => ?_) (fun c21 => ?_)
              · have hf := q_ite_t c21 hf
                refine lv_iconst (v := 0) hx hb dX3_carryOut_99 (by decide) ?_
                refine lv_istore_n (lv' := [(3, .int 0), (2, .int v20), (0, .ref (a 0))]) hx hb dX3_carryOut_100 rfl hl (by decide) rfl (fun ls hl => ?_)
                refine lv_goto (tgt := 44) hx hb dX3_carryOut_101 (by decide) ?_
                exact ih r17.2 _ _ hP hD hS v20 0 _ (lv_sub hl [2, 1, 0] rfl) hf
              · have hf := q_ite_f c21 hf
                refine lv_aload_n hx hb dX3_carryOut_84 rfl (lv_at hl 2 rfl) ?_
                refine va_get (D := D) (ci := 3) (v := .int (MD_at r17.2)) (C := RX3) (T := TX3) (N := 15) hx hb hu (fun _ h => h) hown hE.1 hP 0 rfl rfl 6 (Nat.le_of_ble_eq_true rfl) (hts (.fieldLink RX3 200 "CoverMeterModel" "at" "I") (List.mem_of_getElem? (i := 2) rfl)) (fun _ h9 => h9) rfl dX3_carryOut_85 ?_
                refine lv_aload_n hx hb dX3_carryOut_88 rfl (lv_at hl 2 rfl) ?_
                refine va_get (D := D) (ci := 3) (v := .int (MD_length r17.2)) (C := RX3) (T := TX3) (N := 15) hx hb hu (fun _ h => h) hown hE.1 hP 0 rfl rfl 5 (Nat.le_of_ble_eq_true rfl) (hts (.fieldLink RX3 197 "CoverMeterModel" "length" "I") (List.mem_of_getElem? (i := 3) rfl)) (fun _ h9 => h9) rfl dX3_carryOut_89 ?_
                refine lv_icmp_ge (tgt := 99) hx hb dX3_carryOut_92 (by decide) (fun c22 => ?_) (fun c22 => ?_)
                · have hf := q_ite_t c22 hf
                  refine lv_iconst (v := 0) hx hb dX3_carryOut_99 (by decide) ?_
                  refine lv_istore_n (lv' := [(3, .int 0), (2, .int v20), (0, .ref (a 0))]) hx hb dX3_carryOut_100 rfl hl (by decide) rfl (fun ls hl => ?_)
                  refine lv_goto (tgt := 44) hx hb dX3_carryOut_101 (by decide) ?_
                  exact ih r17.2 _ _ hP hD hS v20 0 _ (lv_sub hl [2, 1, 0] rfl) hf
                · have hf := q_ite_f c22 hf
                  refine lv_iconst (v := 1) hx hb dX3_carryOut_95 (by decide) ?_
                  refine lv_goto (tgt := 100) hx hb dX3_carryOut_96 (by decide) ?_
                  refine lv_istore_n (lv' := [(3, .int 1), (2, .int v20), (0, .ref (a 0))]) hx hb dX3_carryOut_100 rfl hl (by decide) rfl (fun ls hl => ?_)
                  refine lv_goto (tgt := 44) hx hb dX3_carryOut_101 (by decide) ?_
                  exact ih r17.2 _ _ hP hD hS v20 1 _ (lv_sub hl [2, 1, 0] rfl) hf
            · have hf := q_ite_f c19 hf
              refine lv_iconst (v := 1) hx hb dX3_carryOut_73 (by decide) ?_
              refine lv_goto (tgt := 78) hx hb dX3_carryOut_74 (by decide) ?_
              refine lv_iadd hx hb dX3_carryOut_78 ?_
              obtain ⟨v23, ev23, hf⟩ := q_let_go hf
              refine q_nmi ev23 ?_
              refine lv_istore_n (lv' := [(2, .int v23), (3, .int 0), (0, .ref (a 0))]) hx hb dX3_carryOut_79 rfl hl (by decide) rfl (fun ls hl => ?_)
              refine lv_iload_n hx hb dX3_carryOut_80 rfl (lv_at hl 1 rfl) ?_
              refine lv_if_eq (tgt := 99) hx hb dX3_carryOut_81 (by decide) (fun c24 => ?_) (fun c24 => ?_)
              · have hf := q_ite_t c24 hf
                refine lv_iconst (v := 0) hx hb dX3_carryOut_99 (by decide) ?_
                refine lv_istore_n (lv' := [(3, .int 0), (2, .int v23), (0, .ref (a 0))]) hx hb dX3_carryOut_100 rfl hl (by decide) rfl (fun ls hl => ?_)
                refine lv_goto (tgt := 44) hx hb dX3_carryOut_101 (by decide) ?_
                exact ih r17.2 _ _ hP hD hS v23 0 _ (lv_sub hl [2, 1, 0] rfl) hf
              · have hf := q_ite_f c24 hf
                refine lv_aload_n hx hb dX3_carryOut_84 rfl (lv_at hl 2 rfl) ?_
                refine va_get (D := D) (ci := 3) (v := .int (MD_at r17.2)) (C := RX3) (T := TX3) (N := 15) hx hb hu (fun _ h => h) hown hE.1 hP 0 rfl rfl 6 (Nat.le_of_ble_eq_true rfl) (hts (.fieldLink RX3 200 "CoverMeterModel" "at" "I") (List.mem_of_getElem? (i := 2) rfl)) (fun _ h9 => h9) rfl dX3_carryOut_85 ?_
                refine lv_aload_n hx hb dX3_carryOut_88 rfl (lv_at hl 2 rfl) ?_
                refine va_get (D := D) (ci := 3) (v := .int (MD_length r17.2)) (C := RX3) (T := TX3) (N := 15) hx hb hu (fun _ h => h) hown hE.1 hP 0 rfl rfl 5 (Nat.le_of_ble_eq_true rfl) (hts (.fieldLink RX3 197 "CoverMeterModel" "length" "I") (List.mem_of_getElem? (i := 3) rfl)) (fun _ h9 => h9) rfl dX3_carryOut_89 ?_
                refine lv_icmp_ge (tgt := 99) hx hb dX3_carryOut_92 (by decide) (fun c25 => ?_) (fun c25 => ?_)
                · have hf := q_ite_t c25 hf
                  refine lv_iconst (v := 0) hx hb dX3_carryOut_99 (by decide) ?_
                  refine lv_istore_n (lv' := [(3, .int 0), (2, .int v23), (0, .ref (a 0))]) hx hb dX3_carryOut_100 rfl hl (by decide) rfl (fun ls hl => ?_)
                  refine lv_goto (tgt := 44) hx hb dX3_carryOut_101 (by decide) ?_
                  exact ih r17.2 _ _ hP hD hS v23 0 _ (lv_sub hl [2, 1, 0] rfl) hf
                · have hf := q_ite_f c25 hf
                  refine lv_iconst (v := 1) hx hb dX3_carryOut_95 (by decide) ?_
                  refine lv_goto (tgt := 100) hx hb dX3_carryOut_96 (by decide) ?_
                  refine lv_istore_n (lv' := [(3, .int 1), (2, .int v23), (0, .ref (a 0))]) hx hb dX3_carryOut_100 rfl hl (by decide) rfl (fun ls hl => ?_)
                  refine lv_goto (tgt := 44) hx hb dX3_carryOut_101 (by decide) ?_
                  exact ih r17.2 _ _ hP hD hS v23 1 _ (lv_sub hl [2, 1, 0] rfl) hf
          · have hf := q_ite_f c18 hf
            refine lv_iconst (v := 1) hx hb dX3_carryOut_62 (by decide) ?_
            refine lv_goto (tgt := 67) hx hb dX3_carryOut_63 (by decide) ?_
            refine lv_istore_n (lv' := [(3, .int 1), (0, .ref (a 0)), (2, .int l2)]) hx hb dX3_carryOut_67 rfl hl (by decide) rfl (fun ls hl => ?_)
            refine lv_iload_n hx hb dX3_carryOut_68 rfl (lv_at hl 2 rfl) ?_
            refine lv_iload_n hx hb dX3_carryOut_69 rfl (lv_at hl 0 rfl) ?_
            refine lv_if_eq (tgt := 77) hx hb dX3_carryOut_70 (by decide) (fun c26 => ?_) (fun c26 => ?_)
            · have hf := q_ite_t c26 hf
              refine lv_iconst (v := 0) hx hb dX3_carryOut_77 (by decide) ?_
              refine lv_iadd hx hb dX3_carryOut_78 ?_
              obtain ⟨v27, ev27, hf⟩ := q_let_go hf
              refine q_nmi ev27 ?_
              refine lv_istore_n (lv' := [(2, .int v27), (3, .int 1), (0, .ref (a 0))]) hx hb dX3_carryOut_79 rfl hl (by decide) rfl (fun ls hl => ?_)
              refine lv_iload_n hx hb dX3_carryOut_80 rfl (lv_at hl 1 rfl) ?_
              refine lv_if_eq (tgt := 99) hx hb dX3_carryOut_81 (by decide) (fun c28 => ?_) (fun c28 => ?_)
              · have hf := q_ite_t c28 hf
                refine lv_iconst (v := 0) hx hb dX3_carryOut_99 (by decide) ?_
                refine lv_istore_n (lv' := [(3, .int 0), (2, .int v27), (0, .ref (a 0))]) hx hb dX3_carryOut_100 rfl hl (by decide) rfl (fun ls hl => ?_)
                refine lv_goto (tgt := 44) hx hb dX3_carryOut_101 (by decide) ?_
                exact ih r17.2 _ _ hP hD hS v27 0 _ (lv_sub hl [2, 1, 0] rfl) hf
              · have hf := q_ite_f c28 hf
                refine lv_aload_n hx hb dX3_carryOut_84 rfl (lv_at hl 2 rfl) ?_
                refine va_get (D := D) (ci := 3) (v := .int (MD_at r17.2)) (C := RX3) (T := TX3) (N := 15) hx hb hu (fun _ h => h) hown hE.1 hP 0 rfl rfl 6 (Nat.le_of_ble_eq_true rfl) (hts (.fieldLink RX3 200 "CoverMeterModel" "at" "I") (List.mem_of_getElem? (i := 2) rfl)) (fun _ h9 => h9) rfl dX3_carryOut_85 ?_
                refine lv_aload_n hx hb dX3_carryOut_88 rfl (lv_at hl 2 rfl) ?_
                refine va_get (D := D) (ci := 3) (v := .int (MD_length r17.2)) (C := RX3) (T := TX3) (N := 15) hx hb hu (fun _ h => h) hown hE.1 hP 0 rfl rfl 5 (Nat.le_of_ble_eq_true rfl) (hts (.fieldLink RX3 197 "CoverMeterModel" "length" "I") (List.mem_of_getElem? (i := 3) rfl)) (fun _ h9 => h9) rfl dX3_carryOut_89 ?_
                refine lv_icmp_ge (tgt := 99) hx hb dX3_carryOut_92 (by decide) (fun c29 => ?_) (fun c29 => ?_)
                · have hf := q_ite_t c29 hf
                  refine lv_iconst (v := 0) hx hb dX3_carryOut_99 (by decide) ?_
                  refine lv_istore_n (lv' := [(3, .int 0), (2, .int v27), (0, .ref (a 0))]) hx hb dX3_carryOut_100 rfl hl (by decide) rfl (fun ls hl => ?_)
                  refine lv_goto (tgt := 44) hx hb dX3_carryOut_101 (by decide) ?_
                  exact ih r17.2 _ _ hP hD hS v27 0 _ (lv_sub hl [2, 1, 0] rfl) hf
                · have hf := q_ite_f c29 hf
                  refine lv_iconst (v := 1) hx hb dX3_carryOut_95 (by decide) ?_
                  refine lv_goto (tgt := 100) hx hb dX3_carryOut_96 (by decide) ?_
                  refine lv_istore_n (lv' := [(3, .int 1), (2, .int v27), (0, .ref (a 0))]) hx hb dX3_carryOut_100 rfl hl (by decide) rfl (fun ls hl => ?_)
                  refine lv_goto (tgt := 44) hx hb dX3_carryOut_101 (by decide) ?_
                  exact ih r17.2 _ _ hP hD hS v27 1 _ (lv_sub hl [2, 1, 0] rfl) hf
            · have hf := q_ite_f c26 hf
              refine lv_iconst (v := 1) hx hb dX3_carryOut_73 (by decide) ?_
              refine lv_goto (tgt := 78) hx hb dX3_carryOut_74 (by decide) ?_
              refine lv_iadd hx hb dX3_carryOut_78 ?_
              obtain ⟨v30, ev30, hf⟩ := q_let_go hf
              refine q_nmi ev30 ?_
              refine lv_istore_n (lv' := [(2, .int v30), (3, .int 1), (0, .ref (a 0))]) hx hb dX3_carryOut_79 rfl hl (by decide) rfl (fun ls hl => ?_)
              refine lv_iload_n hx hb dX3_carryOut_80 rfl (lv_at hl 1 rfl) ?_
              refine lv_if_eq (tgt := 99) hx hb dX3_carryOut_81 (by decide) (fun c31 => ?_) (fun c31 => ?_)
              · have hf := q_ite_t c31 hf
                refine lv_iconst (v := 0) hx hb dX3_carryOut_99 (by decide) ?_
                refine lv_istore_n (lv' := [(3, .int 0), (2, .int v30), (0, .ref (a 0))]) hx hb dX3_carryOut_100 rfl hl (by decide) rfl (fun ls hl => ?_)
                refine lv_goto (tgt := 44) hx hb dX3_carryOut_101 (by decide) ?_
                exact ih r17.2 _ _ hP hD hS v30 0 _ (lv_sub hl [2, 1, 0] rfl) hf
              · have hf := q_ite_f c31 hf
                refine lv_aload_n hx hb dX3_carryOut_84 rfl (lv_at hl 2 rfl) ?_
                refine va_get (D := D) (ci := 3) (v := .int (MD_at r17.2)) (C := RX3) (T := TX3) (N := 15) hx hb hu (fun _ h => h) hown hE.1 hP 0 rfl rfl 6 (Nat.le_of_ble_eq_true rfl) (hts (.fieldLink RX3 200 "CoverMeterModel" "at" "I") (List.mem_of_getElem? (i := 2) rfl)) (fun _ h9 => h9) rfl dX3_carryOut_85 ?_
                refine lv_aload_n hx hb dX3_carryOut_88 rfl (lv_at hl 2 rfl) ?_
                refine va_get (D := D) (ci := 3) (v := .int (MD_length r17.2)) (C := RX3) (T := TX3) (N := 15) hx hb hu (fun _ h => h) hown hE.1 hP 0 rfl rfl 5 (Nat.le_of_ble_eq_true rfl) (hts (.fieldLink RX3 197 "CoverMeterModel" "length" "I") (List.mem_of_getElem? (i := 3) rfl)) (fun _ h9 => h9) rfl dX3_carryOut_89 ?_
                refine lv_icmp_ge (tgt := 99) hx hb dX3_carryOut_92 (by decide) (fun c32 => ?_) (fun c32 => ?_)
                · have hf := q_ite_t c32 hf
                  refine lv_iconst (v := 0) hx hb dX3_carryOut_99 (by decide) ?_
                  refine lv_istore_n (lv' := [(3, .int 0), (2, .int v30), (0, .ref (a 0))]) hx hb dX3_carryOut_100 rfl hl (by decide) rfl (fun ls hl => ?_)
                  refine lv_goto (tgt := 44) hx hb dX3_carryOut_101 (by decide) ?_
                  exact ih r17.2 _ _ hP hD hS v30 0 _ (lv_sub hl [2, 1, 0] rfl) hf
                · have hf := q_ite_f c32 hf
                  refine lv_iconst (v := 1) hx hb dX3_carryOut_95 (by decide) ?_
                  refine lv_goto (tgt := 100) hx hb dX3_carryOut_96 (by decide) ?_
                  refine lv_istore_n (lv' := [(3, .int 1), (2, .int v30), (0, .ref (a 0))]) hx hb dX3_carryOut_100 rfl hl (by decide) rfl (fun ls hl => ?_)
                  refine lv_goto (tgt := 44) hx hb dX3_carryOut_101 (by decide) ?_
                  exact ih r17.2 _ _ hP hD hS v30 1 _ (lv_sub hl [2, 1, 0] rfl) hf
  have hl := lv_entry ([.ref (a 0)]) (n := 4) (Nat.le_of_ble_eq_true rfl)
  rw [lg_entry_eq]
  generalize (lg_sl ([.ref (a 0)]) ++ List.replicate (4 - (lg_sl ([.ref (a 0)])).length) Slot.unset).toArray = ls at hl ⊢
  have hl : lv_has ls 4 [(0, .ref (a 0))] := hl
  unfold f_X3_carryOut at hf
  refine lv_aload_n hx hb dX3_carryOut_0 rfl (lv_at hl 0 rfl) ?_
  refine lv_iconst (v := 0) hx hb dX3_carryOut_1 (by decide) ?_
  obtain ⟨S1, eS1, hf⟩ := q_let_go hf
  refine va_put (D := D) (ci := 3) (v := .int 0) (ty := .int) (C := RX3) (T := TX3) (N := 15) hx hb hu (fun _ h => h) tyX3 tyX3_ok nmX3 hown hE.1 hP hD hS 0 rfl rfl 3 (Nat.le_of_ble_eq_true rfl) (hts (.fieldLink RX3 30 "CoverMeterModel" "thrown" "I") (List.mem_of_getElem? (i := 1) rfl)) (fun _ h9 => h9) rfl (by decide +kernel) rfl rfl (Nat.le_of_ble_eq_true rfl) dX3_carryOut_2 (fun H locs hP hD hS => ?_)
  have hP : va_P D vwCl (wMD cI cJ a (sMD_thrown S 0)) H := hP
  have hD : va_D (va_A (wMD cI cJ a S) s.heap.size) (wMD cI cJ a (sMD_thrown S 0)) := hD
  rw [eS1] at hP hD
  refine lv_aload_n hx hb dX3_carryOut_5 rfl (lv_at hl 0 rfl) ?_
  obtain ⟨r2, hr2, hf⟩ := q_bd_go hf
  refine q_wrVi (ci := 3) (As := []) (rest := []) hx hb hml hown hts (c_X3_faultOf l D cI cJ cS a S1 _  _ hr2) (cwV 0 hts gX3_carryOut_X3_faultOf rfl rfl rfl (by decide +kernel) ⟨(Nat.le_of_ble_eq_true rfl), (Nat.le_of_ble_eq_true rfl)⟩) hE hP hD hS (fun q h => Or.inr h) rfl rfl rfl hl.1 rfl (Nat.le_of_ble_eq_true rfl) dX3_carryOut_6 ⟨Nat.zero_le _, Nat.zero_le _⟩ (fun H locs hP hD hS => ?_)
  refine lv_istore_n (lv' := [(1, .int r2.1), (0, .ref (a 0))]) hx hb dX3_carryOut_9 rfl hl (by decide) rfl (fun ls hl => ?_)
  refine lv_iload_n hx hb dX3_carryOut_10 rfl (lv_at hl 0 rfl) ?_
  refine lv_iconst (v := (-1)) hx hb dX3_carryOut_11 (by decide) ?_
  refine lv_icmp_eq (tgt := 20) hx hb dX3_carryOut_12 (by decide) (fun c3 => ?_) (fun c3 => ?_)
  · have hf := q_ite_t c3 hf
    refine lv_aload_n hx hb dX3_carryOut_20 rfl (lv_at hl 1 rfl) ?_
    obtain ⟨r4, hr4, hf⟩ := q_bd_go hf
    refine q_wrVv (ci := 3) (As := []) (rest := []) hx hb hml hown hts (c_X3_records l D cI cJ cS a r2.2 _  _ hr4) (cwV 0 hts gX3_carryOut_X3_records rfl rfl rfl (by decide +kernel) ⟨(Nat.le_of_ble_eq_true rfl), (Nat.le_of_ble_eq_true rfl)⟩) hE hP hD hS (fun q h => Or.inr h) rfl rfl rfl hl.1 rfl (Nat.le_of_ble_eq_true rfl) dX3_carryOut_21 ⟨Nat.zero_le _, Nat.zero_le _⟩ (fun H locs hP hD hS => ?_)
    refine lv_iconst (v := 0) hx hb dX3_carryOut_24 (by decide) ?_
    refine lv_istore_n (lv' := [(2, .int 0), (1, .int r2.1), (0, .ref (a 0))]) hx hb dX3_carryOut_25 rfl hl (by decide) rfl (fun ls hl => ?_)
    refine lv_aload_n hx hb dX3_carryOut_26 rfl (lv_at hl 2 rfl) ?_
    refine lv_iconst (v := 0) hx hb dX3_carryOut_27 (by decide) ?_
    obtain ⟨S5, eS5, hf⟩ := q_let_go hf
    refine va_put (D := D) (ci := 3) (v := .int 0) (ty := .int) (C := RX3) (T := TX3) (N := 15) hx hb hu (fun _ h => h) tyX3 tyX3_ok nmX3 hown hE.1 hP hD hS 0 rfl rfl 6 (Nat.le_of_ble_eq_true rfl) (hts (.fieldLink RX3 200 "CoverMeterModel" "at" "I") (List.mem_of_getElem? (i := 2) rfl)) (fun _ h9 => h9) rfl (by decide +kernel) rfl rfl (Nat.le_of_ble_eq_true rfl) dX3_carryOut_28 (fun H locs hP hD hS => ?_)
    have hP : va_P D vwCl (wMD cI cJ a (sMD_at r4 0)) H := hP
    have hD : va_D (va_A (wMD cI cJ a S) s.heap.size) (wMD cI cJ a (sMD_at r4 0)) := hD
    rw [eS5] at hP hD
    refine lv_aload_n hx hb dX3_carryOut_31 rfl (lv_at hl 2 rfl) ?_
    refine va_get (D := D) (ci := 3) (v := .int (MD_length S5)) (C := RX3) (T := TX3) (N := 15) hx hb hu (fun _ h => h) hown hE.1 hP 0 rfl rfl 5 (Nat.le_of_ble_eq_true rfl) (hts (.fieldLink RX3 197 "CoverMeterModel" "length" "I") (List.mem_of_getElem? (i := 3) rfl)) (fun _ h9 => h9) rfl dX3_carryOut_32 ?_
    refine lv_if_le (tgt := 42) hx hb dX3_carryOut_35 (by decide) (fun c6 => ?_) (fun c6 => ?_)
    · have hf := q_ite_t c6 hf
      refine lv_iconst (v := 0) hx hb dX3_carryOut_42 (by decide) ?_
      refine lv_istore_n (lv' := [(3, .int 0), (2, .int 0), (1, .int r2.1), (0, .ref (a 0))]) hx hb dX3_carryOut_43 rfl hl (by decide) rfl (fun ls hl => ?_)
      exact L_44 2000 S5 _ _ hP hD hS 0 0 _ (lv_sub hl [3, 1, 0] rfl) hf
    · have hf := q_ite_f c6 hf
      refine lv_iconst (v := 1) hx hb dX3_carryOut_38 (by decide) ?_
      refine lv_goto (tgt := 43) hx hb dX3_carryOut_39 (by decide) ?_
      refine lv_istore_n (lv' := [(3, .int 1), (2, .int 0), (1, .int r2.1), (0, .ref (a 0))]) hx hb dX3_carryOut_43 rfl hl (by decide) rfl (fun ls hl => ?_)
      exact L_44 2000 S5 _ _ hP hD hS 0 1 _ (lv_sub hl [3, 1, 0] rfl) hf
  · have hf := q_ite_f c3 hf
    refine lv_bipush (v := (-10)) hx hb dX3_carryOut_15 (by decide) ?_
    refine lv_iload_n hx hb dX3_carryOut_17 rfl (lv_at hl 0 rfl) ?_
    refine lv_isub hx hb dX3_carryOut_18 ?_
    have ho := q_some hf
    subst ho
    exact W.iret hx hb hr (fun t ht hW => ⟨rfl, ⟨by rw [ht]; exact hP, hD⟩, hS.F ht⟩) hS.2.2 dX3_carryOut_19
def f_X3_digestPerson_6 (S : MD) : Nat → Int32 → Int64 → Int32 → Option Int64
  | 0, _, _, _ => none
  | n+1, l3, l4, l6 => if 7 ≤ l6 then
 ((f_X3_workOf S l3).bind fun r2 =>
 some ((31 * l4) + r2))
 else ((f_X3_tellsPerson S l3 l6).bind fun r3 =>
 q_let (((31 * l4) + ((r3 : Int32).toInt64))) fun v4 =>
 q_let (l6 + 1) fun v5 =>
 f_X3_digestPerson_6 S n l3 v4 v5)
def f_X3_digestPerson (S : MD) (p1 : Int64) (p2 : Int32) : Option Int64 := f_X3_digestPerson_6 S 2000 p2 p1 0
abbrev rX3_digestPerson : Room := { frames := 6, cells := 0, slots := 0, locals := 134 }
set_option maxRecDepth 100000 in
set_option maxHeartbeats 4000000 in
theorem c_X3_digestPerson (l : Launch) (D : va_G) (cI cJ cS : ClassId) (a : Nat → Nat) (S : MD) (p1 : Int64) (p2 : Int32) (o : Int64) (hf : f_X3_digestPerson S p1 p2 = some o) : Met l yX3_digestPerson wsX3_digestPerson rX3_digestPerson (va_Pc [.ref (a 0), .long p1, .int p2] (q_B D cI cJ cS (wMD cI cJ a S))) (q_Rl o) 0 0 (fun _ => False) := by
  refine Met.ofW (cc := cX3_digestPerson) (maxL := 7) (ret := some .long) (by decide) rfl ?_
  intro p e s m args below meth c s₁ B hml hv
  obtain ⟨rfl, hP, hE⟩ := hv
  have hx := B.exec
  have hb := B.bytes
  have hr := B.returns
  have hts := atoms_spec (ws := wsX3_digestPerson) B.pre
  have hown : s.vm.findClass RX3 = some m.cls := findClass_of_methodNamed B.named
  have hlocks := B.notSynchronized
  have L_6 : ∀ (n : Nat) (l3 : Int32) (l4 : Int64) (l6 : Int32) (ls : Array Slot), lv_has ls 7 [(0, .ref (a 0)), (3, .int l3), (4, .long l4), (6, .int l6)] → f_X3_digestPerson_6 S n l3 l4 l6 = some o → W p l e (headSpec wsX3_digestPerson rX3_digestPerson).room s m (([.ref (a 0), .long p1, .int p2] : List Value).toArray) below meth c s.heap [] 0 0 (MQ below (q_Rl o) (([.ref (a 0), .long p1, .int p2] : List Value).toArray) s 0 0 (fun _ => False)) (F0 m 6 ls []) := by
    intro n
    induction n with
    | zero => intro l3 l4 l6 ls hl hf; cases hf
    | succ n ih =>
      intro l3 l4 l6 ls hl hf
      rw [f_X3_digestPerson_6] at hf
      refine lv_iload hx hb dX3_digestPerson_6 (lv_at hl 3 rfl) ?_
      refine lv_bipush (v := 7) hx hb dX3_digestPerson_8 (by decide) ?_
      refine lv_icmp_ge (tgt := 36) hx hb dX3_digestPerson_10 (by decide) (fun c1 => ?_) (fun c1 => ?_)
      · have hf := q_ite_t c1 hf
        refine lv_ldc2 (v := 31) hx hb hown (hts (.constantLong RX3 246 (31)) (List.mem_of_getElem? (i := 1) rfl)) dX3_digestPerson_36 ?_
        refine lv_lload hx hb dX3_digestPerson_39 (lv_at hl 2 rfl) ?_
        refine lv_lmul hx hb dX3_digestPerson_41 ?_
        refine lv_aload_n hx hb dX3_digestPerson_42 rfl (lv_at hl 0 rfl) ?_
        refine lv_iload_n hx hb dX3_digestPerson_43 rfl (lv_at hl 1 rfl) ?_
        obtain ⟨r2, hr2, hf⟩ := q_bd_go hf
        refine q_rdVl (ci := 3) (As := [.int l3]) (rest := [.long (31 * l4)]) hx hb hml hown hts (c_X3_workOf l D cI cJ cS a S l3 _ hr2) (cwV 1 hts gX3_digestPerson_X3_workOf rfl rfl rfl (by decide +kernel) ⟨(Nat.le_of_ble_eq_true rfl), (Nat.le_of_ble_eq_true rfl)⟩) hE hP rfl rfl rfl hl.1 rfl (Nat.le_of_ble_eq_true rfl) dX3_digestPerson_44 ⟨Nat.zero_le _, Nat.zero_le _⟩ ?_
        refine lv_ladd hx hb dX3_digestPerson_47 ?_
        have ho := q_some hf
        subst ho
        exact W.lret hx hb hr (fun t ht hW => ⟨rfl, ht⟩) t_nil dX3_digestPerson_48
      · have hf := q_ite_f c1 hf
        refine lv_ldc2 (v := 31) hx hb hown (hts (.constantLong RX3 246 (31)) (List.mem_of_getElem? (i := 1) rfl)) dX3_digestPerson_13 ?_
        refine lv_lload hx hb dX3_digestPerson_16 (lv_at hl 2 rfl) ?_
        refine lv_lmul hx hb dX3_digestPerson_18 ?_
        refine lv_aload_n hx hb dX3_digestPerson_19 rfl (lv_at hl 0 rfl) ?_
        refine lv_iload_n hx hb dX3_digestPerson_20 rfl (lv_at hl 1 rfl) ?_
        refine lv_iload hx hb dX3_digestPerson_21 (lv_at hl 3 rfl) ?_
        obtain ⟨r3, hr3, hf⟩ := q_bd_go hf
        refine q_rdVi (ci := 3) (As := [.int l3, .int l6]) (rest := [.long (31 * l4)]) hx hb hml hown hts (c_X3_tellsPerson l D cI cJ cS a S l3 l6 _ hr3) (cwV 2 hts gX3_digestPerson_X3_tellsPerson rfl rfl rfl (by decide +kernel) ⟨(Nat.le_of_ble_eq_true rfl), (Nat.le_of_ble_eq_true rfl)⟩) hE hP rfl rfl rfl hl.1 rfl (Nat.le_of_ble_eq_true rfl) dX3_digestPerson_23 ⟨Nat.zero_le _, Nat.zero_le _⟩ ?_
        refine lv_i2l (v := ((r3 : Int32).toInt64)) hx hb dX3_digestPerson_26 rfl ?_
        refine lv_ladd hx hb dX3_digestPerson_27 ?_
        obtain ⟨v4, ev4, hf⟩ := q_let_go hf
        refine q_nml ev4 ?_
        refine lv_lstore (lv' := [(4, .long v4), (0, .ref (a 0)), (3, .int l3), (6, .int l6)]) hx hb dX3_digestPerson_28 hl (by decide) rfl (fun ls hl => ?_)
        obtain ⟨v5, ev5, hf⟩ := q_let_go hf
        refine lv_iinc (v := v5) (lv' := [(6, .int v5), (4, .long v4), (0, .ref (a 0)), (3, .int l3)]) hx hb dX3_digestPerson_30 hl (k := 3) rfl (by rw [← ev5]; rfl) (by decide) rfl (fun ls hl => ?_)
        refine lv_goto (tgt := 6) hx hb dX3_digestPerson_33 (by decide) ?_
        exact ih l3 v4 v5 _ (lv_sub hl [2, 3, 1, 0] rfl) hf
  have hl := lv_entry ([.ref (a 0), .long p1, .int p2]) (n := 7) (Nat.le_of_ble_eq_true rfl)
  rw [lg_entry_eq]
  generalize (lg_sl ([.ref (a 0), .long p1, .int p2]) ++ List.replicate (7 - (lg_sl ([.ref (a 0), .long p1, .int p2])).length) Slot.unset).toArray = ls at hl ⊢
  have hl : lv_has ls 7 [(0, .ref (a 0)), (1, .long p1), (3, .int p2)] := hl
  unfold f_X3_digestPerson at hf
  refine lv_lload_n hx hb dX3_digestPerson_0 rfl (lv_at hl 1 rfl) ?_
  refine lv_lstore (lv' := [(4, .long p1), (0, .ref (a 0)), (1, .long p1), (3, .int p2)]) hx hb dX3_digestPerson_1 hl (by decide) rfl (fun ls hl => ?_)
  refine lv_iconst (v := 0) hx hb dX3_digestPerson_3 (by decide) ?_
  refine lv_istore (lv' := [(6, .int 0), (4, .long p1), (0, .ref (a 0)), (1, .long p1), (3, .int p2)]) hx hb dX3_digestPerson_4 hl (by decide) rfl (fun ls hl => ?_)
  exact L_6 2000 p2 p1 0 _ (lv_sub hl [2, 4, 1, 0] rfl) hf
def f_X3_digestAbsence_39 (S : MD) : Nat → Int32 → Int64 → Int32 → Option Int64
  | 0, _, _, _ => none
  | n+1, l3, l4, l6 => if q_in 3 420 = true then
 (if 0 ≤ (lg_cmp ((l6 : Int32).toInt64) (MD_now S (3 : Int32).toNatClampNeg)) then
 (some l4)
 else ((f_X3_ofA S l3 (5 + l6)).bind fun r4 =>
 q_let (((31 * l4) + ((r4 : Int32).toInt64))) fun v5 =>
 q_let (l6 + 1) fun v6 =>
 f_X3_digestAbsence_39 S n l3 v5 v6)) else none
def f_X3_digestAbsence_6 (S : MD) : Nat → Int32 → Int64 → Int32 → Option Int64
  | 0, _, _, _ => none
  | n+1, l3, l4, l6 => if 7 ≤ l6 then
 (f_X3_digestAbsence_39 S 2000 l3 l4 0)
 else ((f_X3_tellsAbsence S l3 l6).bind fun r7 =>
 q_let (((31 * l4) + ((r7 : Int32).toInt64))) fun v8 =>
 q_let (l6 + 1) fun v9 =>
 f_X3_digestAbsence_6 S n l3 v8 v9)
def f_X3_digestAbsence (S : MD) (p1 : Int64) (p2 : Int32) : Option Int64 := f_X3_digestAbsence_6 S 2000 p2 p1 0
abbrev rX3_digestAbsence : Room := { frames := 8, cells := 0, slots := 0, locals := 179 }
set_option maxRecDepth 100000 in
set_option maxHeartbeats 4000000 in
theorem c_X3_digestAbsence (l : Launch) (D : va_G) (cI cJ cS : ClassId) (a : Nat → Nat) (S : MD) (p1 : Int64) (p2 : Int32) (o : Int64) (hf : f_X3_digestAbsence S p1 p2 = some o) : Met l yX3_digestAbsence wsX3_digestAbsence rX3_digestAbsence (va_Pc [.ref (a 0), .long p1, .int p2] (q_B D cI cJ cS (wMD cI cJ a S))) (q_Rl o) 0 0 (fun _ => False) := by
  refine Met.ofW (cc := cX3_digestAbsence) (maxL := 7) (ret := some .long) (by decide) rfl ?_
  intro p e s m args below meth c s₁ B hml hv
  obtain ⟨rfl, hP, hE⟩ := hv
  have hx := B.exec
  have hb := B.bytes
  have hr := B.returns
  have hts := atoms_spec (ws := wsX3_digestAbsence) B.pre
  have hown : s.vm.findClass RX3 = some m.cls := findClass_of_methodNamed B.named
  have hlocks := B.notSynchronized
  have hu : ∀ z ∈ wsX30, z.before _ s = true := fun z h => hts z (List.mem_cons_of_mem _ (List.mem_append_right _ h))
  have L_39 : ∀ (n : Nat) (l3 : Int32) (l4 : Int64) (l6 : Int32) (ls : Array Slot), lv_has ls 7 [(0, .ref (a 0)), (3, .int l3), (4, .long l4), (6, .int l6)] → f_X3_digestAbsence_39 S n l3 l4 l6 = some o → W p l e (headSpec wsX3_digestAbsence rX3_digestAbsence).room s m (([.ref (a 0), .long p1, .int p2] : List Value).toArray) below meth c s.heap [] 0 0 (MQ below (q_Rl o) (([.ref (a 0), .long p1, .int p2] : List Value).toArray) s 0 0 (fun _ => False)) (F0 m 39 ls []) := by
    intro n
    induction n with
    | zero => intro l3 l4 l6 ls hl hf; cases hf
    | succ n ih =>
      intro l3 l4 l6 ls hl hf
      rw [f_X3_digestAbsence_39] at hf
      refine lv_iload hx hb dX3_digestAbsence_39 (lv_at hl 3 rfl) ?_
      refine lv_i2l (v := ((l6 : Int32).toInt64)) hx hb dX3_digestAbsence_41 rfl ?_
      refine lv_aload_n hx hb dX3_digestAbsence_42 rfl (lv_at hl 0 rfl) ?_
      refine va_get (D := D) (ci := 3) (v := .ref (a 1)) (C := RX3) (T := TX3) (N := 15) hx hb hu (fun _ h => h) hown hE.1 hP 0 rfl rfl 0 (Nat.le_of_ble_eq_true rfl) (hts (.fieldLink RX3 7 "CoverMeterModel" "now" "[J") (List.mem_of_getElem? (i := 2) rfl)) (fun _ h9 => h9) rfl dX3_digestAbsence_43 ?_
      refine lv_iconst (v := 3) hx hb dX3_digestAbsence_46 (by decide) ?_
      have hi2 := q_gd_in hf
      have hf := q_gd_go hf
      refine va_lald hx hb hE.1 hP 1 1 rfl rfl hi2 dX3_digestAbsence_47 ?_
      refine W.lcmp hx hb dX3_digestAbsence_48 ?_
      refine lv_if_ge (tgt := 77) hx hb dX3_digestAbsence_49 (by decide) (fun c3 => ?_) (fun c3 => ?_)
      · have hf := q_ite_t c3 hf
        refine lv_lload hx hb dX3_digestAbsence_77 (lv_at hl 2 rfl) ?_
        have ho := q_some hf
        subst ho
        exact W.lret hx hb hr (fun t ht hW => ⟨rfl, ht⟩) t_nil dX3_digestAbsence_79
      · have hf := q_ite_f c3 hf
        refine lv_ldc2 (v := 31) hx hb hown (hts (.constantLong RX3 246 (31)) (List.mem_of_getElem? (i := 1) rfl)) dX3_digestAbsence_52 ?_
        refine lv_lload hx hb dX3_digestAbsence_55 (lv_at hl 2 rfl) ?_
        refine lv_lmul hx hb dX3_digestAbsence_57 ?_
        refine lv_aload_n hx hb dX3_digestAbsence_58 rfl (lv_at hl 0 rfl) ?_
        refine lv_iload_n hx hb dX3_digestAbsence_59 rfl (lv_at hl 1 rfl) ?_
        refine lv_iconst (v := 5) hx hb dX3_digestAbsence_60 (by decide) ?_
        refine lv_iload hx hb dX3_digestAbsence_61 (lv_at hl 3 rfl) ?_
        refine lv_iadd hx hb dX3_digestAbsence_63 ?_
        obtain ⟨r4, hr4, hf⟩ := q_bd_go hf
        refine q_rdVi (ci := 3) (As := [.int l3, .int (5 + l6)]) (rest := [.long (31 * l4)]) hx hb hml hown hts (c_X3_ofA l D cI cJ cS a S l3 (5 + l6) _ hr4) (cwV 2 hts gX3_digestAbsence_X3_ofA rfl rfl rfl (by decide +kernel) ⟨(Nat.le_of_ble_eq_true rfl), (Nat.le_of_ble_eq_true rfl)⟩) hE hP rfl rfl rfl hl.1 rfl (Nat.le_of_ble_eq_true rfl) dX3_digestAbsence_64 ⟨Nat.zero_le _, Nat.zero_le _⟩ ?_
        refine lv_i2l (v := ((r4 : Int32).toInt64)) hx hb dX3_digestAbsence_67 rfl ?_
        refine lv_ladd hx hb dX3_digestAbsence_68 ?_
        obtain ⟨v5, ev5, hf⟩ := q_let_go hf
        refine q_nml ev5 ?_
        refine lv_lstore (lv' := [(4, .long v5), (0, .ref (a 0)), (3, .int l3), (6, .int l6)]) hx hb dX3_digestAbsence_69 hl (by decide) rfl (fun ls hl => ?_)
        obtain ⟨v6, ev6, hf⟩ := q_let_go hf
        refine lv_iinc (v := v6) (lv' := [(6, .int v6), (4, .long v5), (0, .ref (a 0)), (3, .int l3)]) hx hb dX3_digestAbsence_71 hl (k := 3) rfl (by rw [← ev6]; rfl) (by decide) rfl (fun ls hl => ?_)
        refine lv_goto (tgt := 39) hx hb dX3_digestAbsence_74 (by decide) ?_
        exact ih l3 v5 v6 _ (lv_sub hl [2, 3, 1, 0] rfl) hf
  have L_6 : ∀ (n : Nat) (l3 : Int32) (l4 : Int64) (l6 : Int32) (ls : Array Slot), lv_has ls 7 [(0, .ref (a 0)), (3, .int l3), (4, .long l4), (6, .int l6)] → f_X3_digestAbsence_6 S n l3 l4 l6 = some o → W p l e (headSpec wsX3_digestAbsence rX3_digestAbsence).room s m (([.ref (a 0), .long p1, .int p2] : List Value).toArray) below meth c s.heap [] 0 0 (MQ below (q_Rl o) (([.ref (a 0), .long p1, .int p2] : List Value).toArray) s 0 0 (fun _ => False)) (F0 m 6 ls []) := by
    intro n
    induction n with
    | zero => intro l3 l4 l6 ls hl hf; cases hf
    | succ n ih =>
      intro l3 l4 l6 ls hl hf
      rw [f_X3_digestAbsence_6] at hf
      refine lv_iload hx hb dX3_digestAbsence_6 (lv_at hl 3 rfl) ?_
      refine lv_bipush (v := 7) hx hb dX3_digestAbsence_8 (by decide) ?_
      refine lv_icmp_ge (tgt := 36) hx hb dX3_digestAbsence_10 (by decide) (fun c1 => ?_) (fun c1 => ?_)
      · have hf := q_ite_t c1 hf
        refine lv_iconst (v := 0) hx hb dX3_digestAbsence_36 (by decide) ?_
        refine lv_istore (lv' := [(6, .int 0), (0, .ref (a 0)), (3, .int l3), (4, .long l4)]) hx hb dX3_digestAbsence_37 hl (by decide) rfl (fun ls hl => ?_)
        exact L_39 2000 l3 l4 0 _ (lv_sub hl [1, 2, 3, 0] rfl) hf
      · have hf := q_ite_f c1 hf
        refine lv_ldc2 (v := 31) hx hb hown (hts (.constantLong RX3 246 (31)) (List.mem_of_getElem? (i := 1) rfl)) dX3_digestAbsence_13 ?_
        refine lv_lload hx hb dX3_digestAbsence_16 (lv_at hl 2 rfl) ?_
        refine lv_lmul hx hb dX3_digestAbsence_18 ?_
        refine lv_aload_n hx hb dX3_digestAbsence_19 rfl (lv_at hl 0 rfl) ?_
        refine lv_iload_n hx hb dX3_digestAbsence_20 rfl (lv_at hl 1 rfl) ?_
        refine lv_iload hx hb dX3_digestAbsence_21 (lv_at hl 3 rfl) ?_
        obtain ⟨r7, hr7, hf⟩ := q_bd_go hf
        refine q_rdVi (ci := 3) (As := [.int l3, .int l6]) (rest := [.long (31 * l4)]) hx hb hml hown hts (c_X3_tellsAbsence l D cI cJ cS a S l3 l6 _ hr7) (cwV 2 hts gX3_digestAbsence_X3_tellsAbsence rfl rfl rfl (by decide +kernel) ⟨(Nat.le_of_ble_eq_true rfl), (Nat.le_of_ble_eq_true rfl)⟩) hE hP rfl rfl rfl hl.1 rfl (Nat.le_of_ble_eq_true rfl) dX3_digestAbsence_23 ⟨Nat.zero_le _, Nat.zero_le _⟩ ?_
        refine lv_i2l (v := ((r7 : Int32).toInt64)) hx hb dX3_digestAbsence_26 rfl ?_
        refine lv_ladd hx hb dX3_digestAbsence_27 ?_
        obtain ⟨v8, ev8, hf⟩ := q_let_go hf
        refine q_nml ev8 ?_
        refine lv_lstore (lv' := [(4, .long v8), (0, .ref (a 0)), (3, .int l3), (6, .int l6)]) hx hb dX3_digestAbsence_28 hl (by decide) rfl (fun ls hl => ?_)
        obtain ⟨v9, ev9, hf⟩ := q_let_go hf
        refine lv_iinc (v := v9) (lv' := [(6, .int v9), (4, .long v8), (0, .ref (a 0)), (3, .int l3)]) hx hb dX3_digestAbsence_30 hl (k := 3) rfl (by rw [← ev9]; rfl) (by decide) rfl (fun ls hl => ?_)
        refine lv_goto (tgt := 6) hx hb dX3_digestAbsence_33 (by decide) ?_
        exact ih l3 v8 v9 _ (lv_sub hl [2, 3, 1, 0] rfl) hf
  have hl := lv_entry ([.ref (a 0), .long p1, .int p2]) (n := 7) (Nat.le_of_ble_eq_true rfl)
  rw [lg_entry_eq]
  generalize (lg_sl ([.ref (a 0), .long p1, .int p2]) ++ List.replicate (7 - (lg_sl ([.ref (a 0), .long p1, .int p2])).length) Slot.unset).toArray = ls at hl ⊢
  have hl : lv_has ls 7 [(0, .ref (a 0)), (1, .long p1), (3, .int p2)] := hl
  unfold f_X3_digestAbsence at hf
  refine lv_lload_n hx hb dX3_digestAbsence_0 rfl (lv_at hl 1 rfl) ?_
  refine lv_lstore (lv' := [(4, .long p1), (0, .ref (a 0)), (1, .long p1), (3, .int p2)]) hx hb dX3_digestAbsence_1 hl (by decide) rfl (fun ls hl => ?_)
  refine lv_iconst (v := 0) hx hb dX3_digestAbsence_3 (by decide) ?_
  refine lv_istore (lv' := [(6, .int 0), (4, .long p1), (0, .ref (a 0)), (1, .long p1), (3, .int p2)]) hx hb dX3_digestAbsence_4 hl (by decide) rfl (fun ls hl => ?_)
  exact L_6 2000 p2 p1 0 _ (lv_sub hl [2, 4, 1, 0] rfl) hf
def f_X3_digest_97 : Nat → MD → Int64 → Int32 → Option (Int64 × MD)
  | 0, _, _, _ => none
  | n+1, Sz, l1, l3 => if q_in 4 420 = true then
 (if 0 ≤ (lg_cmp ((l3 : Int32).toInt64) (MD_now Sz (4 : Int32).toNatClampNeg)) then
 (some (((31 * l1) + (((MD_states Sz) : Int32).toInt64)), Sz))
 else ((f_X3_digestAbsence Sz l1 l3).bind fun r9 =>
 q_let (l3 + 1) fun v10 =>
 f_X3_digest_97 n Sz r9 v10)) else none
def f_X3_digest_70 : Nat → MD → Int64 → Int32 → Option (Int64 × MD)
  | 0, _, _, _ => none
  | n+1, Sz, l1, l3 => if q_in 3 420 = true then
 (if 0 ≤ (lg_cmp ((l3 : Int32).toInt64) (MD_now Sz (3 : Int32).toNatClampNeg)) then
 (f_X3_digest_97 2000 Sz l1 0)
 else ((f_X3_digestPerson Sz l1 l3).bind fun r11 =>
 q_let (l3 + 1) fun v12 =>
 f_X3_digest_70 n Sz r11 v12)) else none
def f_X3_digest_44 : Nat → MD → Int64 → Int32 → Option (Int64 × MD)
  | 0, _, _, _ => none
  | n+1, Sz, l1, l3 => if 3 ≤ l3 then
 (f_X3_digest_70 2000 Sz l1 0)
 else (if q_in l3 420 = true then
 (q_let (((31 * l1) + (MD_now Sz (l3 : Int32).toNatClampNeg))) fun v14 =>
 q_let (l3 + 1) fun v15 =>
 f_X3_digest_44 n Sz v14 v15) else none)
def f_X3_digest_17 : Nat → MD → Int64 → Int32 → Option (Int64 × MD)
  | 0, _, _, _ => none
  | n+1, Sz, l1, l3 => if 11 ≤ l3 then
 (f_X3_digest_44 2000 Sz l1 0)
 else ((f_X3_tellsAll Sz l3).bind fun r16 =>
 q_let (((31 * l1) + ((r16 : Int32).toInt64))) fun v17 =>
 q_let (l3 + 1) fun v18 =>
 f_X3_digest_17 n Sz v17 v18)
def f_X3_digest (S : MD) : Option (Int64 × MD) := q_let (sMD_thrown S 0) fun S1 =>
 q_let ((115537 + (((MD_length S1) : Int32).toInt64))) fun v2 =>
 f_X3_digest_17 2000 S1 v2 0
abbrev rX3_digest : Room := { frames := 9, cells := 0, slots := 0, locals := 205 }
set_option maxRecDepth 100000 in
set_option maxHeartbeats 4000000 in
theorem c_X3_digest (l : Launch) (D : va_G) (cI cJ cS : ClassId) (a : Nat → Nat) (S : MD) (sz : Nat) (o : (Int64 × MD)) (hf : f_X3_digest S = some o) : Met l yX3_digest wsX3_digest rX3_digest (va_Pc [.ref (a 0)] (q_BW D cI cJ cS (wMD cI cJ a S) sz)) (q_Wo (some (.long o.1)) D (wMD cI cJ a S) (wMD cI cJ a o.2) sz) 0 0 (va_A (wMD cI cJ a S) sz) := by
  refine Met.ofW (cc := cX3_digest) (maxL := 4) (ret := some .long) (by decide) rfl ?_
  intro p e s m args below meth c s₁ B hml hv
  obtain ⟨rfl, hsz, hP, hE, hD0⟩ := hv
  have hx := B.exec
  have hb := B.bytes
  have hr := B.returns
  have hts := atoms_spec (ws := wsX3_digest) B.pre
  have hown : s.vm.findClass RX3 = some m.cls := findClass_of_methodNamed B.named
  have hlocks := B.notSynchronized
  have hu : ∀ z ∈ wsX30, z.before _ s = true := fun z h => hts z (List.mem_cons_of_mem _ (List.mem_append_right _ h))
  subst hsz
  have hD := hD0.self (sz := s.heap.size)
  have hS : va_S (va_A (wMD cI cJ a S) s.heap.size) s.heap s.heap [] := va_S.rf
  have L_97 : ∀ (n : Nat) (Sz : MD) (H : Heap) (locs : List Loc) (hP : va_P D vwCl (wMD cI cJ a Sz) H) (hD : va_D (va_A (wMD cI cJ a S) s.heap.size) (wMD cI cJ a Sz)) (hS : va_S (va_A (wMD cI cJ a S) s.heap.size) s.heap H locs) (l1 : Int64) (l3 : Int32) (ls : Array Slot), lv_has ls 4 [(0, .ref (a 0)), (1, .long l1), (3, .int l3)] → f_X3_digest_97 n Sz l1 l3 = some o → W p l e (headSpec wsX3_digest rX3_digest).room s m (([.ref (a 0)] : List Value).toArray) below meth c H locs 0 0 (MQ below (q_Wo (some (.long o.1)) D (wMD cI cJ a S) (wMD cI cJ a o.2) s.heap.size) (([.ref (a 0)] : List Value).toArray) s 0 0 (va_A (wMD cI cJ a S) s.heap.size)) (F0 m 97 ls []) := by
    intro n
    induction n with
    | zero => intro Sz H locs hP hD hS l1 l3 ls hl hf; cases hf
    | succ n ih =>
      intro Sz H locs hP hD hS l1 l3 ls hl hf
      rw [f_X3_digest_97] at hf
      refine lv_iload_n hx hb dX3_digest_97 rfl (lv_at hl 2 rfl) ?_
      refine lv_i2l (v := ((l3 : Int32).toInt64)) hx hb dX3_digest_98 rfl ?_
      refine lv_aload_n hx hb dX3_digest_99 rfl (lv_at hl 0 rfl) ?_
      refine va_get (D := D) (ci := 3) (v := .ref (a 1)) (C := RX3) (T := TX3) (N := 15) hx hb hu (fun _ h => h) hown hE.1 hP 0 rfl rfl 0 (Nat.le_of_ble_eq_true rfl) (hts (.fieldLink RX3 7 "CoverMeterModel" "now" "[J") (List.mem_of_getElem? (i := 5) rfl)) (fun _ h9 => h9) rfl dX3_digest_100 ?_
      refine lv_iconst (v := 4) hx hb dX3_digest_103 (by decide) ?_
      have hi7 := q_gd_in hf
      have hf := q_gd_go hf
      refine va_lald hx hb hE.1 hP 1 1 rfl rfl hi7 dX3_digest_104 ?_
      refine W.lcmp hx hb dX3_digest_105 ?_
      refine lv_if_ge (tgt := 122) hx hb dX3_digest_106 (by decide) (fun c8 => ?_) (fun c8 => ?_)
      · have hf := q_ite_t c8 hf
        refine lv_ldc2 (v := 31) hx hb hown (hts (.constantLong RX3 246 (31)) (List.mem_of_getElem? (i := 4) rfl)) dX3_digest_122 ?_
        refine lv_lload_n hx hb dX3_digest_125 rfl (lv_at hl 1 rfl) ?_
        refine lv_lmul hx hb dX3_digest_126 ?_
        refine lv_aload_n hx hb dX3_digest_127 rfl (lv_at hl 0 rfl) ?_
        refine va_get (D := D) (ci := 3) (v := .int (MD_states Sz)) (C := RX3) (T := TX3) (N := 15) hx hb hu (fun _ h => h) hown hE.1 hP 0 rfl rfl 2 (Nat.le_of_ble_eq_true rfl) (hts (.fieldLink RX3 45 "CoverMeterModel" "states" "I") (List.mem_of_getElem? (i := 6) rfl)) (fun _ h9 => h9) rfl dX3_digest_128 ?_
        refine lv_i2l (v := (((MD_states Sz) : Int32).toInt64)) hx hb dX3_digest_131 rfl ?_
        refine lv_ladd hx hb dX3_digest_132 ?_
        have ho := q_some hf
        subst ho
        exact W.lret hx hb hr (fun t ht hW => ⟨rfl, ⟨by rw [ht]; exact hP, hD⟩, hS.F ht⟩) hS.2.2 dX3_digest_133
      · have hf := q_ite_f c8 hf
        refine lv_aload_n hx hb dX3_digest_109 rfl (lv_at hl 0 rfl) ?_
        refine lv_lload_n hx hb dX3_digest_110 rfl (lv_at hl 1 rfl) ?_
        refine lv_iload_n hx hb dX3_digest_111 rfl (lv_at hl 2 rfl) ?_
        obtain ⟨r9, hr9, hf⟩ := q_bd_go hf
        refine q_rdVl (ci := 3) (As := [.long l1, .int l3]) (rest := []) hx hb hml hown hts (c_X3_digestAbsence l D cI cJ cS a Sz l1 l3 _ hr9) (cwV 2 hts gX3_digest_X3_digestAbsence rfl rfl rfl (by decide +kernel) ⟨(Nat.le_of_ble_eq_true rfl), (Nat.le_of_ble_eq_true rfl)⟩) hE hP rfl rfl rfl hl.1 rfl (Nat.le_of_ble_eq_true rfl) dX3_digest_112 ⟨Nat.zero_le _, Nat.zero_le _⟩ ?_
        refine lv_lstore_n (lv' := [(1, .long r9), (0, .ref (a 0)), (3, .int l3)]) hx hb dX3_digest_115 rfl hl (by decide) rfl (fun ls hl => ?_)
        obtain ⟨v10, ev10, hf⟩ := q_let_go hf
        refine lv_iinc (v := v10) (lv' := [(3, .int v10), (1, .long r9), (0, .ref (a 0))]) hx hb dX3_digest_116 hl (k := 2) rfl (by rw [← ev10]; rfl) (by decide) rfl (fun ls hl => ?_)
        refine lv_goto (tgt := 97) hx hb dX3_digest_119 (by decide) ?_
        exact ih Sz _ _ hP hD hS r9 v10 _ (lv_sub hl [2, 1, 0] rfl) hf
  have L_70 : ∀ (n : Nat) (Sz : MD) (H : Heap) (locs : List Loc) (hP : va_P D vwCl (wMD cI cJ a Sz) H) (hD : va_D (va_A (wMD cI cJ a S) s.heap.size) (wMD cI cJ a Sz)) (hS : va_S (va_A (wMD cI cJ a S) s.heap.size) s.heap H locs) (l1 : Int64) (l3 : Int32) (ls : Array Slot), lv_has ls 4 [(0, .ref (a 0)), (1, .long l1), (3, .int l3)] → f_X3_digest_70 n Sz l1 l3 = some o → W p l e (headSpec wsX3_digest rX3_digest).room s m (([.ref (a 0)] : List Value).toArray) below meth c H locs 0 0 (MQ below (q_Wo (some (.long o.1)) D (wMD cI cJ a S) (wMD cI cJ a o.2) s.heap.size) (([.ref (a 0)] : List Value).toArray) s 0 0 (va_A (wMD cI cJ a S) s.heap.size)) (F0 m 70 ls []) := by
    intro n
    induction n with
    | zero => intro Sz H locs hP hD hS l1 l3 ls hl hf; cases hf
    | succ n ih =>
      intro Sz H locs hP hD hS l1 l3 ls hl hf
      rw [f_X3_digest_70] at hf
      refine lv_iload_n hx hb dX3_digest_70 rfl (lv_at hl 2 rfl) ?_
      refine lv_i2l (v := ((l3 : Int32).toInt64)) hx hb dX3_digest_71 rfl ?_
      refine lv_aload_n hx hb dX3_digest_72 rfl (lv_at hl 0 rfl) ?_
      refine va_get (D := D) (ci := 3) (v := .ref (a 1)) (C := RX3) (T := TX3) (N := 15) hx hb hu (fun _ h => h) hown hE.1 hP 0 rfl rfl 0 (Nat.le_of_ble_eq_true rfl) (hts (.fieldLink RX3 7 "CoverMeterModel" "now" "[J") (List.mem_of_getElem? (i := 5) rfl)) (fun _ h9 => h9) rfl dX3_digest_73 ?_
      refine lv_iconst (v := 3) hx hb dX3_digest_76 (by decide) ?_
      have hi5 := q_gd_in hf
      have hf := q_gd_go hf
      refine va_lald hx hb hE.1 hP 1 1 rfl rfl hi5 dX3_digest_77 ?_
      refine W.lcmp hx hb dX3_digest_78 ?_
      refine lv_if_ge (tgt := 95) hx hb dX3_digest_79 (by decide) (fun c6 => ?_) (fun c6 => ?_)
      · have hf := q_ite_t c6 hf
        refine lv_iconst (v := 0) hx hb dX3_digest_95 (by decide) ?_
        refine lv_istore_n (lv' := [(3, .int 0), (0, .ref (a 0)), (1, .long l1)]) hx hb dX3_digest_96 rfl hl (by decide) rfl (fun ls hl => ?_)
        exact L_97 2000 Sz _ _ hP hD hS l1 0 _ (lv_sub hl [1, 2, 0] rfl) hf
      · have hf := q_ite_f c6 hf
        refine lv_aload_n hx hb dX3_digest_82 rfl (lv_at hl 0 rfl) ?_
        refine lv_lload_n hx hb dX3_digest_83 rfl (lv_at hl 1 rfl) ?_
        refine lv_iload_n hx hb dX3_digest_84 rfl (lv_at hl 2 rfl) ?_
        obtain ⟨r11, hr11, hf⟩ := q_bd_go hf
        refine q_rdVl (ci := 3) (As := [.long l1, .int l3]) (rest := []) hx hb hml hown hts (c_X3_digestPerson l D cI cJ cS a Sz l1 l3 _ hr11) (cwV 2 hts gX3_digest_X3_digestPerson rfl rfl rfl (by decide +kernel) ⟨(Nat.le_of_ble_eq_true rfl), (Nat.le_of_ble_eq_true rfl)⟩) hE hP rfl rfl rfl hl.1 rfl (Nat.le_of_ble_eq_true rfl) dX3_digest_85 ⟨Nat.zero_le _, Nat.zero_le _⟩ ?_
        refine lv_lstore_n (lv' := [(1, .long r11), (0, .ref (a 0)), (3, .int l3)]) hx hb dX3_digest_88 rfl hl (by decide) rfl (fun ls hl => ?_)
        obtain ⟨v12, ev12, hf⟩ := q_let_go hf
        refine lv_iinc (v := v12) (lv' := [(3, .int v12), (1, .long r11), (0, .ref (a 0))]) hx hb dX3_digest_89 hl (k := 2) rfl (by rw [← ev12]; rfl) (by decide) rfl (fun ls hl => ?_)
        refine lv_goto (tgt := 70) hx hb dX3_digest_92 (by decide) ?_
        exact ih Sz _ _ hP hD hS r11 v12 _ (lv_sub hl [2, 1, 0] rfl) hf
  have L_44 : ∀ (n : Nat) (Sz : MD) (H : Heap) (locs : List Loc) (hP : va_P D vwCl (wMD cI cJ a Sz) H) (hD : va_D (va_A (wMD cI cJ a S) s.heap.size) (wMD cI cJ a Sz)) (hS : va_S (va_A (wMD cI cJ a S) s.heap.size) s.heap H locs) (l1 : Int64) (l3 : Int32) (ls : Array Slot), lv_has ls 4 [(0, .ref (a 0)), (1, .long l1), (3, .int l3)] → f_X3_digest_44 n Sz l1 l3 = some o → W p l e (headSpec wsX3_digest rX3_digest).room s m (([.ref (a 0)] : List Value).toArray) below meth c H locs 0 0 (MQ below (q_Wo (some (.long o.1)) D (wMD cI cJ a S) (wMD cI cJ a o.2) s.heap.size) (([.ref (a 0)] : List Value).toArray) s 0 0 (va_A (wMD cI cJ a S) s.heap.size)) (F0 m 44 ls []) := by
    intro n
    induction n with
    | zero => intro Sz H locs hP hD hS l1 l3 ls hl hf; cases hf
    | succ n ih =>
      intro Sz H locs hP hD hS l1 l3 ls hl hf
      rw [f_X3_digest_44] at hf
      refine lv_iload_n hx hb dX3_digest_44 rfl (lv_at hl 2 rfl) ?_
      refine lv_iconst (v := 3) hx hb dX3_digest_45 (by decide) ?_
      refine lv_icmp_ge (tgt := 68) hx hb dX3_digest_46 (by decide) (fun c4 => ?_) (fun c4 => ?_)
      · have hf := q_ite_t c4 hf
        refine lv_iconst (v := 0) hx hb dX3_digest_68 (by decide) ?_
        refine lv_istore_n (lv' := [(3, .int 0), (0, .ref (a 0)), (1, .long l1)]) hx hb dX3_digest_69 rfl hl (by decide) rfl (fun ls hl => ?_)
        exact L_70 2000 Sz _ _ hP hD hS l1 0 _ (lv_sub hl [1, 2, 0] rfl) hf
      · have hf := q_ite_f c4 hf
        refine lv_ldc2 (v := 31) hx hb hown (hts (.constantLong RX3 246 (31)) (List.mem_of_getElem? (i := 4) rfl)) dX3_digest_49 ?_
        refine lv_lload_n hx hb dX3_digest_52 rfl (lv_at hl 1 rfl) ?_
        refine lv_lmul hx hb dX3_digest_53 ?_
        refine lv_aload_n hx hb dX3_digest_54 rfl (lv_at hl 0 rfl) ?_
        refine va_get (D := D) (ci := 3) (v := .ref (a 1)) (C := RX3) (T := TX3) (N := 15) hx hb hu (fun _ h => h) hown hE.1 hP 0 rfl rfl 0 (Nat.le_of_ble_eq_true rfl) (hts (.fieldLink RX3 7 "CoverMeterModel" "now" "[J") (List.mem_of_getElem? (i := 5) rfl)) (fun _ h9 => h9) rfl dX3_digest_55 ?_
        refine lv_iload_n hx hb dX3_digest_58 rfl (lv_at hl 2 rfl) ?_
        have hi13 := q_gd_in hf
        have hf := q_gd_go hf
        refine va_lald hx hb hE.1 hP 1 1 rfl rfl hi13 dX3_digest_59 ?_
        refine lv_ladd hx hb dX3_digest_60 ?_
        obtain ⟨v14, ev14, hf⟩ := q_let_go hf
        refine q_nml ev14 ?_
        refine lv_lstore_n (lv' := [(1, .long v14), (0, .ref (a 0)), (3, .int l3)]) hx hb dX3_digest_61 rfl hl (by decide) rfl (fun ls hl => ?_)
        obtain ⟨v15, ev15, hf⟩ := q_let_go hf
        refine lv_iinc (v := v15) (lv' := [(3, .int v15), (1, .long v14), (0, .ref (a 0))]) hx hb dX3_digest_62 hl (k := 2) rfl (by rw [← ev15]; rfl) (by decide) rfl (fun ls hl => ?_)
        refine lv_goto (tgt := 44) hx hb dX3_digest_65 (by decide) ?_
        exact ih Sz _ _ hP hD hS v14 v15 _ (lv_sub hl [2, 1, 0] rfl) hf
  have L_17 : ∀ (n : Nat) (Sz : MD) (H : Heap) (locs : List Loc) (hP : va_P D vwCl (wMD cI cJ a Sz) H) (hD : va_D (va_A (wMD cI cJ a S) s.heap.size) (wMD cI cJ a Sz)) (hS : va_S (va_A (wMD cI cJ a S) s.heap.size) s.heap H locs) (l1 : Int64) (l3 : Int32) (ls : Array Slot), lv_has ls 4 [(0, .ref (a 0)), (1, .long l1), (3, .int l3)] → f_X3_digest_17 n Sz l1 l3 = some o → W p l e (headSpec wsX3_digest rX3_digest).room s m (([.ref (a 0)] : List Value).toArray) below meth c H locs 0 0 (MQ below (q_Wo (some (.long o.1)) D (wMD cI cJ a S) (wMD cI cJ a o.2) s.heap.size) (([.ref (a 0)] : List Value).toArray) s 0 0 (va_A (wMD cI cJ a S) s.heap.size)) (F0 m 17 ls []) := by
    intro n
    induction n with
    | zero => intro Sz H locs hP hD hS l1 l3 ls hl hf; cases hf
    | succ n ih =>
      intro Sz H locs hP hD hS l1 l3 ls hl hf
      rw [f_X3_digest_17] at hf
      refine lv_iload_n hx hb dX3_digest_17 rfl (lv_at hl 2 rfl) ?_
      refine lv_bipush (v := 11) hx hb dX3_digest_18 (by decide) ?_
      refine lv_icmp_ge (tgt := 42) hx hb dX3_digest_20 (by decide) (fun c3 => ?_) (fun c3 => ?_)
      · have hf := q_ite_t c3 hf
        refine lv_iconst (v := 0) hx hb dX3_digest_42 (by decide) ?_
        refine lv_istore_n (lv' := [(3, .int 0), (0, .ref (a 0)), (1, .long l1)]) hx hb dX3_digest_43 rfl hl (by decide) rfl (fun ls hl => ?_)
        exact L_44 2000 Sz _ _ hP hD hS l1 0 _ (lv_sub hl [1, 2, 0] rfl) hf
      · have hf := q_ite_f c3 hf
        refine lv_ldc2 (v := 31) hx hb hown (hts (.constantLong RX3 246 (31)) (List.mem_of_getElem? (i := 4) rfl)) dX3_digest_23 ?_
        refine lv_lload_n hx hb dX3_digest_26 rfl (lv_at hl 1 rfl) ?_
        refine lv_lmul hx hb dX3_digest_27 ?_
        refine lv_aload_n hx hb dX3_digest_28 rfl (lv_at hl 0 rfl) ?_
        refine lv_iload_n hx hb dX3_digest_29 rfl (lv_at hl 2 rfl) ?_
        obtain ⟨r16, hr16, hf⟩ := q_bd_go hf
        refine q_rdVi (ci := 3) (As := [.int l3]) (rest := [.long (31 * l1)]) hx hb hml hown hts (c_X3_tellsAll l D cI cJ cS a Sz l3 _ hr16) (cwV 1 hts gX3_digest_X3_tellsAll rfl rfl rfl (by decide +kernel) ⟨(Nat.le_of_ble_eq_true rfl), (Nat.le_of_ble_eq_true rfl)⟩) hE hP rfl rfl rfl hl.1 rfl (Nat.le_of_ble_eq_true rfl) dX3_digest_30 ⟨Nat.zero_le _, Nat.zero_le _⟩ ?_
        refine lv_i2l (v := ((r16 : Int32).toInt64)) hx hb dX3_digest_33 rfl ?_
        refine lv_ladd hx hb dX3_digest_34 ?_
        obtain ⟨v17, ev17, hf⟩ := q_let_go hf
        refine q_nml ev17 ?_
        refine lv_lstore_n (lv' := [(1, .long v17), (0, .ref (a 0)), (3, .int l3)]) hx hb dX3_digest_35 rfl hl (by decide) rfl (fun ls hl => ?_)
        obtain ⟨v18, ev18, hf⟩ := q_let_go hf
        refine lv_iinc (v := v18) (lv' := [(3, .int v18), (1, .long v17), (0, .ref (a 0))]) hx hb dX3_digest_36 hl (k := 2) rfl (by rw [← ev18]; rfl) (by decide) rfl (fun ls hl => ?_)
        refine lv_goto (tgt := 17) hx hb dX3_digest_39 (by decide) ?_
        exact ih Sz _ _ hP hD hS v17 v18 _ (lv_sub hl [2, 1, 0] rfl) hf
  have hl := lv_entry ([.ref (a 0)]) (n := 4) (Nat.le_of_ble_eq_true rfl)
  rw [lg_entry_eq]
  generalize (lg_sl ([.ref (a 0)]) ++ List.replicate (4 - (lg_sl ([.ref (a 0)])).length) Slot.unset).toArray = ls at hl ⊢
  have hl : lv_has ls 4 [(0, .ref (a 0))] := hl
  unfold f_X3_digest at hf
  refine lv_aload_n hx hb dX3_digest_0 rfl (lv_at hl 0 rfl) ?_
  refine lv_iconst (v := 0) hx hb dX3_digest_1 (by decide) ?_
  obtain ⟨S1, eS1, hf⟩ := q_let_go hf
  refine va_put (D := D) (ci := 3) (v := .int 0) (ty := .int) (C := RX3) (T := TX3) (N := 15) hx hb hu (fun _ h => h) tyX3 tyX3_ok nmX3 hown hE.1 hP hD hS 0 rfl rfl 3 (Nat.le_of_ble_eq_true rfl) (hts (.fieldLink RX3 30 "CoverMeterModel" "thrown" "I") (List.mem_of_getElem? (i := 1) rfl)) (fun _ h9 => h9) rfl (by decide +kernel) rfl rfl (Nat.le_of_ble_eq_true rfl) dX3_digest_2 (fun H locs hP hD hS => ?_)
  have hP : va_P D vwCl (wMD cI cJ a (sMD_thrown S 0)) H := hP
  have hD : va_D (va_A (wMD cI cJ a S) s.heap.size) (wMD cI cJ a (sMD_thrown S 0)) := hD
  rw [eS1] at hP hD
  refine lv_ldc2 (v := 115537) hx hb hown (hts (.constantLong RX3 248 (115537)) (List.mem_of_getElem? (i := 2) rfl)) dX3_digest_5 ?_
  refine lv_aload_n hx hb dX3_digest_8 rfl (lv_at hl 0 rfl) ?_
  refine va_get (D := D) (ci := 3) (v := .int (MD_length S1)) (C := RX3) (T := TX3) (N := 15) hx hb hu (fun _ h => h) hown hE.1 hP 0 rfl rfl 5 (Nat.le_of_ble_eq_true rfl) (hts (.fieldLink RX3 197 "CoverMeterModel" "length" "I") (List.mem_of_getElem? (i := 3) rfl)) (fun _ h9 => h9) rfl dX3_digest_9 ?_
  refine lv_i2l (v := (((MD_length S1) : Int32).toInt64)) hx hb dX3_digest_12 rfl ?_
  refine lv_ladd hx hb dX3_digest_13 ?_
  obtain ⟨v2, ev2, hf⟩ := q_let_go hf
  refine q_nml ev2 ?_
  refine lv_lstore_n (lv' := [(1, .long v2), (0, .ref (a 0))]) hx hb dX3_digest_14 rfl hl (by decide) rfl (fun ls hl => ?_)
  refine lv_iconst (v := 0) hx hb dX3_digest_15 (by decide) ?_
  refine lv_istore_n (lv' := [(3, .int 0), (1, .long v2), (0, .ref (a 0))]) hx hb dX3_digest_16 rfl hl (by decide) rfl (fun ls hl => ?_)
  exact L_17 2000 S1 _ _ hP hD hS v2 0 _ (lv_sub hl [2, 1, 0] rfl) hf
