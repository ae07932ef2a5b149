def f_X3_absencesOf_5 (S : MD) : Nat → Int32 → Int32 → Int32 → Int32 → Option Int32
  | 0, _, _, _, _ => none
  | n+1, l1, l2, l3, l4 => if q_in 4 420 = true then
 (if 0 ≤ (lg_cmp ((l4 : Int32).toInt64) (MD_now S (4 : Int32).toNatClampNeg)) then
 (some l3)
 else (if ¬ l2 = 5 then
 ((f_X3_ofA S l4 l2).bind fun r4 =>
 if ¬ r4 = l1 then
 (if (0 : Int32) = 0 then
 (q_let ((l3 + 0)) fun v7 =>
 q_let (l4 + 1) fun v8 =>
 f_X3_absencesOf_5 S n l1 l2 v7 v8)
 else (q_let ((l3 + 1)) fun v9 =>
 q_let (l4 + 1) fun v10 =>
 f_X3_absencesOf_5 S n l1 l2 v9 v10))
 else (if (1 : Int32) = 0 then
 (q_let ((l3 + 0)) fun v12 =>
 q_let (l4 + 1) fun v13 =>
 f_X3_absencesOf_5 S n l1 l2 v12 v13)
 else (q_let ((l3 + 1)) fun v14 =>
 q_let (l4 + 1) fun v15 =>
 f_X3_absencesOf_5 S n l1 l2 v14 v15)))
 else ((f_X3_ofA S l4 (5 + l1)).bind fun r16 =>
 if r16 = (-1) then
 (if (0 : Int32) = 0 then
 (q_let ((l3 + 0)) fun v19 =>
 q_let (l4 + 1) fun v20 =>
 f_X3_absencesOf_5 S n l1 l2 v19 v20)
 else (q_let ((l3 + 1)) fun v21 =>
 q_let (l4 + 1) fun v22 =>
 f_X3_absencesOf_5 S n l1 l2 v21 v22))
 else (if (1 : Int32) = 0 then
 (q_let ((l3 + 0)) fun v24 =>
 q_let (l4 + 1) fun v25 =>
 f_X3_absencesOf_5 S n l1 l2 v24 v25)
 else (q_let ((l3 + 1)) fun v26 =>
 q_let (l4 + 1) fun v27 =>
 f_X3_absencesOf_5 S n l1 l2 v26 v27))))) else none
def f_X3_absencesOf (S : MD) (p1 : Int32) (p2 : Int32) : Option Int32 := f_X3_absencesOf_5 S 2000 p1 p2 0 0
abbrev rX3_absencesOf : Room := { frames := 1, cells := 0, slots := 0, locals := 22 }
set_option maxRecDepth 100000 in
set_option maxHeartbeats 4000000 in
theorem c_X3_absencesOf (l : Launch) (D : va_G) (cI cJ cS : ClassId) (a : Nat → Nat) (S : MD) (p1 : Int32) (p2 : Int32) (o : Int32) (hf : f_X3_absencesOf S p1 p2 = some o) : Met l yX3_absencesOf wsX3_absencesOf rX3_absencesOf (va_Pc [.ref (a 0), .int p1, .int p2] (q_B D cI cJ cS (wMD cI cJ a S))) (q_Ri o) 0 0 (fun _ => False) := by
  refine Met.ofW (cc := cX3_absencesOf) (maxL := 6) (ret := some .int) (by decide) rfl ?_
  intro p e s m args below meth c s₁ B hml hv
  obtain ⟨rfl, hP, hE⟩ := hv
  have hx := B.exec
  have hb := B.bytes
  have hr := B.returns
  have hts := atoms_spec (ws := wsX3_absencesOf) B.pre
  have hown : s.vm.findClass RX3 = some m.cls := findClass_of_methodNamed B.named
  have hlocks := B.notSynchronized
  have hu : ∀ z ∈ wsX30, z.before _ s = true := fun z h => hts z (List.mem_cons_of_mem _ (List.mem_append_right _ h))
  have L_5 : ∀ (n : Nat) (l1 : Int32) (l2 : Int32) (l3 : Int32) (l4 : Int32) (ls : Array Slot), lv_has ls 6 [(0, .ref (a 0)), (1, .int l1), (2, .int l2), (3, .int l3), (4, .int l4)] → f_X3_absencesOf_5 S n l1 l2 l3 l4 = some o → W p l e (headSpec wsX3_absencesOf rX3_absencesOf).room s m (([.ref (a 0), .int p1, .int p2] : List Value).toArray) below meth c s.heap [] 0 0 (MQ below (q_Ri o) (([.ref (a 0), .int p1, .int p2] : List Value).toArray) s 0 0 (fun _ => False)) (F0 m 5 ls []) := by
    intro n
    induction n with
    | zero => intro l1 l2 l3 l4 ls hl hf; cases hf
    | succ n ih =>
      intro l1 l2 l3 l4 ls hl hf
      rw [f_X3_absencesOf_5] at hf
      refine lv_iload hx hb dX3_absencesOf_5 (lv_at hl 4 rfl) ?_
      refine lv_i2l (v := ((l4 : Int32).toInt64)) hx hb dX3_absencesOf_7 rfl ?_
      refine lv_aload_n hx hb dX3_absencesOf_8 rfl (lv_at hl 0 rfl) ?_
      refine va_get (D := D) (ci := 3) (v := .ref (a 1)) (C := RX3) (T := TX3) (N := 15) hx hb hu (fun _ h => h) hown hE.1 hP 0 rfl rfl 0 (Nat.le_of_ble_eq_true rfl) (hts (.fieldLink RX3 7 "CoverMeterModel" "now" "[J") (List.mem_of_getElem? (i := 1) rfl)) (fun _ h9 => h9) rfl dX3_absencesOf_9 ?_
      refine lv_iconst (v := 4) hx hb dX3_absencesOf_12 (by decide) ?_
      have hi1 := q_gd_in hf
      have hf := q_gd_go hf
      refine va_lald hx hb hE.1 hP 1 1 rfl rfl hi1 dX3_absencesOf_13 ?_
      refine W.lcmp hx hb dX3_absencesOf_14 ?_
      refine lv_if_ge (tgt := 81) hx hb dX3_absencesOf_15 (by decide) (fun c2 => ?_) (fun c2 => ?_)
      · have hf := q_ite_t c2 hf
        refine lv_iload_n hx hb dX3_absencesOf_81 rfl (lv_at hl 3 rfl) ?_
        have ho := q_some hf
        subst ho
        exact W.iret hx hb hr (fun t ht hW => ⟨rfl, ht⟩) t_nil dX3_absencesOf_82
      · have hf := q_ite_f c2 hf
        refine lv_iload_n hx hb dX3_absencesOf_18 rfl (lv_at hl 2 rfl) ?_
        refine lv_iconst (v := 5) hx hb dX3_absencesOf_19 (by decide) ?_
        refine lv_icmp_ne (tgt := 44) hx hb dX3_absencesOf_20 (by decide) (fun c3 => ?_) (fun c3 => ?_)
        · have hf := q_ite_t c3 hf
          refine lv_aload_n hx hb dX3_absencesOf_44 rfl (lv_at hl 0 rfl) ?_
          refine lv_iload hx hb dX3_absencesOf_45 (lv_at hl 4 rfl) ?_
          refine lv_iload_n hx hb dX3_absencesOf_47 rfl (lv_at hl 2 rfl) ?_
          obtain ⟨r4, hr4, hf⟩ := q_bd_go hf
          refine q_rdVi (ci := 3) (As := [.int l4, .int l2]) (rest := []) hx hb hml hown hts (c_X3_ofA l D cI cJ cS a S l4 l2 _ hr4) (cwV 2 hts gX3_absencesOf_X3_ofA rfl rfl rfl (by decide +kernel) ⟨(Nat.le_of_ble_eq_true rfl), (Nat.le_of_ble_eq_true rfl)⟩) hE hP rfl rfl rfl hl.1 rfl (Nat.le_of_ble_eq_true rfl) dX3_absencesOf_48 ⟨Nat.zero_le _, Nat.zero_le _⟩ ?_
          refine lv_iload_n hx hb dX3_absencesOf_51 rfl (lv_at hl 1 rfl) ?_
          refine lv_icmp_ne (tgt := 59) hx hb dX3_absencesOf_52 (by decide) (fun c5 => ?_) (fun c5 => ?_)
          · have hf := q_ite_t c5 hf
            refine lv_iconst (v := 0) hx hb dX3_absencesOf_59 (by decide) ?_
            refine lv_istore (lv' := [(5, .int 0), (0, .ref (a 0)), (1, .int l1), (2, .int l2), (3, .int l3), (4, .int l4)]) hx hb dX3_absencesOf_60 hl (by decide) rfl (fun ls hl => ?_)
            refine lv_iload_n hx hb dX3_absencesOf_62 rfl (lv_at hl 4 rfl) ?_
            refine lv_iload hx hb dX3_absencesOf_63 (lv_at hl 0 rfl) ?_
            refine lv_if_eq (tgt := 72) hx hb dX3_absencesOf_65 (by decide) (fun c6 => ?_) (fun c6 => ?_)
            · have hf := q_ite_t c6 hf
              refine lv_iconst (v := 0) hx hb dX3_absencesOf_72 (by decide) ?_
              refine lv_iadd hx hb dX3_absencesOf_73 ?_
              obtain ⟨v7, ev7, hf⟩ := q_let_go hf
              refine q_nmi ev7 ?_
              refine lv_istore_n (lv' := [(3, .int v7), (5, .int 0), (0, .ref (a 0)), (1, .int l1), (2, .int l2), (4, .int l4)]) hx hb dX3_absencesOf_74 rfl hl (by decide) rfl (fun ls hl => ?_)
              obtain ⟨v8, ev8, hf⟩ := q_let_go hf
              refine lv_iinc (v := v8) (lv' := [(4, .int v8), (3, .int v7), (5, .int 0), (0, .ref (a 0)), (1, .int l1), (2, .int l2)]) hx hb dX3_absencesOf_75 hl (k := 5) rfl (by rw [← ev8]; rfl) (by decide) rfl (fun ls hl => ?_)
              refine lv_goto (tgt := 5) hx hb dX3_absencesOf_78 (by decide) ?_
              exact ih l1 l2 v7 v8 _ (lv_sub hl [3, 4, 5, 1, 0] rfl) hf
            · have hf := q_ite_f c6 hf
              refine lv_iconst (v := 1) hx hb dX3_absencesOf_68 (by decide) ?_
              refine lv_goto (tgt := 73) hx hb dX3_absencesOf_69 (by decide) ?_
              refine lv_iadd hx hb dX3_absencesOf_73 ?_
              obtain ⟨v9, ev9, hf⟩ := q_let_go hf
              refine q_nmi ev9 ?_
              refine lv_istore_n (lv' := [(3, .int v9), (5, .int 0), (0, .ref (a 0)), (1, .int l1), (2, .int l2), (4, .int l4)]) hx hb dX3_absencesOf_74 rfl hl (by decide) rfl (fun ls hl => ?_)
              obtain ⟨v10, ev10, hf⟩ := q_let_go hf
              refine lv_iinc (v := v10) (lv' := [(4, .int v10), (3, .int v9), (5, .int 0), (0, .ref (a 0)), (1, .int l1), (2, .int l2)]) hx hb dX3_absencesOf_75 hl (k := 5) rfl (by rw [← ev10]; rfl) (by decide) rfl (fun ls hl => ?_)
              refine lv_goto (tgt := 5) hx hb dX3_absencesOf_78 (by decide) ?_
              exact ih l1 l2 v9 v10 _ (lv_sub hl [3, 4, 5, 1, 0] rfl) hf
          · have hf := q_ite_n c5 hf
            refine lv_iconst (v := 1) hx hb dX3_absencesOf_55 (by decide) ?_
            refine lv_goto (tgt := 60) hx hb dX3_absencesOf_56 (by decide) ?_
            refine lv_istore (lv' := [(5, .int 1), (0, .ref (a 0)), (1, .int l1), (2, .int l2), (3, .int l3), (4, .int l4)]) hx hb dX3_absencesOf_60 hl (by decide) rfl (fun ls hl => ?_)
            refine lv_iload_n hx hb dX3_absencesOf_62 rfl (lv_at hl 4 rfl) ?_
            refine lv_iload hx hb dX3_absencesOf_63 (lv_at hl 0 rfl) ?_
            refine lv_if_eq (tgt := 72) hx hb dX3_absencesOf_65 (by decide) (fun c11 => ?_) (fun c11 => ?_)
            · have hf := q_ite_t c11 hf
              refine lv_iconst (v := 0) hx hb dX3_absencesOf_72 (by decide) ?_
              refine lv_iadd hx hb dX3_absencesOf_73 ?_
              obtain ⟨v12, ev12, hf⟩ := q_let_go hf
              refine q_nmi ev12 ?_
              refine lv_istore_n (lv' := [(3, .int v12), (5, .int 1), (0, .ref (a 0)), (1, .int l1), (2, .int l2), (4, .int l4)]) hx hb dX3_absencesOf_74 rfl hl (by decide) rfl (fun ls hl => ?_)
              obtain ⟨v13, ev13, hf⟩ := q_let_go hf
              refine lv_iinc (v := v13) (lv' := [(4, .int v13), (3, .int v12), (5, .int 1), (0, .ref (a 0)), (1, .int l1), (2, .int l2)]) hx hb dX3_absencesOf_75 hl (k := 5) rfl (by rw [← ev13]; rfl) (by decide) rfl (fun ls hl => ?_)
              refine lv_goto (tgt := 5) hx hb dX3_absencesOf_78 (by decide) ?_
              exact ih l1 l2 v12 v13 _ (lv_sub hl [3, 4, 5, 1, 0] rfl) hf
            · have hf := q_ite_f c11 hf
              refine lv_iconst (v := 1) hx hb dX3_absencesOf_68 (by decide) ?_
              refine lv_goto (tgt := 73) hx hb dX3_absencesOf_69 (by decide) ?_
              refine lv_iadd hx hb dX3_absencesOf_73 ?_
              obtain ⟨v14, ev14, hf⟩ := q_let_go hf
              refine q_nmi ev14 ?_
              refine lv_istore_n (lv' := [(3, .int v14), (5, .int 1), (0, .ref (a 0)), (1, .int l1), (2, .int l2), (4, .int l4)]) hx hb dX3_absencesOf_74 rfl hl (by decide) rfl (fun ls hl => ?_)
              obtain ⟨v15, ev15, hf⟩ := q_let_go hf
              refine lv_iinc (v := v15) (lv' := [(4, .int v15), (3, .int v14), (5, .int 1), (0, .ref (a 0)), (1, .int l1), (2, .int l2)]) hx hb dX3_absencesOf_75 hl (k := 5) rfl (by rw [← ev15]; rfl) (by decide) rfl (fun ls hl => ?_)
              refine lv_goto (tgt := 5) hx hb dX3_absencesOf_78 (by decide) ?_
              exact ih l1 l2 v14 v15 _ (lv_sub hl [3, 4, 5, 1, 0] rfl) hf
        · have hf := q_ite_n c3 hf
          refine lv_aload_n hx hb dX3_absencesOf_23 rfl (lv_at hl 0 rfl) ?_
          refine lv_iload hx hb dX3_absencesOf_24 (lv_at hl 4 rfl) ?_
          refine lv_iconst (v := 5) hx hb dX3_absencesOf_26 (by decide) ?_
          refine lv_iload_n hx hb dX3_absencesOf_27 rfl (lv_at hl 1 rfl) ?_
          refine lv_iadd hx hb dX3_absencesOf_28 ?_
          obtain ⟨r16, hr16, hf⟩ := q_bd_go hf
          refine q_rdVi (ci := 3) (As := [.int l4, .int (5 + l1)]) (rest := []) hx hb hml hown hts (c_X3_ofA l D cI cJ cS a S l4 (5 + l1) _ hr16) (cwV 2 hts gX3_absencesOf_X3_ofA rfl rfl rfl (by decide +kernel) ⟨(Nat.le_of_ble_eq_true rfl), (Nat.le_of_ble_eq_true rfl)⟩) hE hP rfl rfl rfl hl.1 rfl (Nat.le_of_ble_eq_true rfl) dX3_absencesOf_29 ⟨Nat.zero_le _, Nat.zero_le _⟩ ?_
          refine lv_iconst (v := (-1)) hx hb dX3_absencesOf_32 (by decide) ?_
          refine lv_icmp_eq (tgt := 40) hx hb dX3_absencesOf_33 (by decide) (fun c17 => ?_) (fun c17 => ?_)
          · have hf := q_ite_t c17 hf
            refine lv_iconst (v := 0) hx hb dX3_absencesOf_40 (by decide) ?_
            refine lv_goto (tgt := 60) hx hb dX3_absencesOf_41 (by decide) ?_
            refine lv_istore (lv' := [(5, .int 0), (0, .ref (a 0)), (1, .int l1), (2, .int l2), (3, .int l3), (4, .int l4)]) hx hb dX3_absencesOf_60 hl (by decide) rfl (fun ls hl => ?_)
            refine lv_iload_n hx hb dX3_absencesOf_62 rfl (lv_at hl 4 rfl) ?_
            refine lv_iload hx hb dX3_absencesOf_63 (lv_at hl 0 rfl) ?_
            refine lv_if_eq (tgt := 72) hx hb dX3_absencesOf_65 (by decide) (fun c18 => ?_) (fun c18 => ?_)
            · have hf := q_ite_t c18 hf
              refine lv_iconst (v := 0) hx hb dX3_absencesOf_72 (by decide) ?_
              refine lv_iadd hx hb dX3_absencesOf_73 ?_
              obtain ⟨v19, ev19, hf⟩ := q_let_go hf
              refine q_nmi ev19 ?_
              refine lv_istore_n (lv' := [(3, .int v19), (5, .int 0), (0, .ref (a 0)), (1, .int l1), (2, .int l2), (4, .int l4)]) hx hb dX3_absencesOf_74 rfl hl (by decide) rfl (fun ls hl => ?_)
              obtain ⟨v20, ev20, hf⟩ := q_let_go hf
              refine lv_iinc (v := v20) (lv' := [(4, .int v20), (3, .int v19), (5, .int 0), (0, .ref (a 0)), (1, .int l1), (2, .int l2)]) hx hb dX3_absencesOf_75 hl (k := 5) rfl (by rw [← ev20]; rfl) (by decide) rfl (fun ls hl => ?_)
              refine lv_goto (tgt := 5) hx hb dX3_absencesOf_78 (by decide) ?_
              exact ih l1 l2 v19 v20 _ (lv_sub hl [3, 4, 5, 1, 0] rfl) hf
            · have hf := q_ite_f c18 hf
              refine lv_iconst (v := 1) hx hb dX3_absencesOf_68 (by decide) ?_
              refine lv_goto (tgt := 73) hx hb dX3_absencesOf_69 (by decide) ?_
              refine lv_iadd hx hb dX3_absencesOf_73 ?_
              obtain ⟨v21, ev21, hf⟩ := q_let_go hf
              refine q_nmi ev21 ?_
              refine lv_istore_n (lv' := [(3, .int v21), (5, .int 0), (0, .ref (a 0)), (1, .int l1), (2, .int l2), (4, .int l4)]) hx hb dX3_absencesOf_74 rfl hl (by decide) rfl (fun ls hl => ?_)
              obtain ⟨v22, ev22, hf⟩ := q_let_go hf
              refine lv_iinc (v := v22) (lv' := [(4, .int v22), (3, .int v21), (5, .int 0), (0, .ref (a 0)), (1, .int l1), (2, .int l2)]) hx hb dX3_absencesOf_75 hl (k := 5) rfl (by rw [← ev22]; rfl) (by decide) rfl (fun ls hl => ?_)
              refine lv_goto (tgt := 5) hx hb dX3_absencesOf_78 (by decide) ?_
              exact ih l1 l2 v21 v22 _ (lv_sub hl [3, 4, 5, 1, 0] rfl) hf
          · have hf := q_ite_f c17 hf
            refine lv_iconst (v := 1) hx hb dX3_absencesOf_36 (by decide) ?_
            refine lv_goto (tgt := 60) hx hb dX3_absencesOf_37 (by decide) ?_
            refine lv_istore (lv' := [(5, .int 1), (0, .ref (a 0)), (1, .int l1), (2, .int l2), (3, .int l3), (4, .int l4)]) hx hb dX3_absencesOf_60 hl (by decide) rfl (fun ls hl => ?_)
            refine lv_iload_n hx hb dX3_absencesOf_62 rfl (lv_at hl 4 rfl) ?_
            refine lv_iload hx hb dX3_absencesOf_63 (lv_at hl 0 rfl) ?_
            refine lv_if_eq (tgt := 72) hx hb dX3_absencesOf_65 (by decide) (fun c23 => ?_) (fun c23 => ?_)
            · have hf := q_ite_t c23 hf
              refine lv_iconst (v := 0) hx hb dX3_absencesOf_72 (by decide) ?_
              refine lv_iadd hx hb dX3_absencesOf_73 ?_
              obtain ⟨v24, ev24, hf⟩ := q_let_go hf
              refine q_nmi ev24 ?_
              refine lv_istore_n (lv' := [(3, .int v24), (5, .int 1), (0, .ref (a 0)), (1, .int l1), (2, .int l2), (4, .int l4)]) hx hb dX3_absencesOf_74 rfl hl (by decide) rfl (fun ls hl => ?_)
              obtain ⟨v25, ev25, hf⟩ := q_let_go hf
              refine lv_iinc (v := v25) (lv' := [(4, .int v25), (3, .int v24), (5, .int 1), (0, .ref (a 0)), (1, .int l1), (2, .int l2)]) hx hb dX3_absencesOf_75 hl (k := 5) rfl (by rw [← ev25]; rfl) (by decide) rfl (fun ls hl => ?_)
              refine lv_goto (tgt := 5) hx hb dX3_absencesOf_78 (by decide) ?_
              exact ih l1 l2 v24 v25 _ (lv_sub hl [3, 4, 5, 1, 0] rfl) hf
            · have hf := q_ite_f c23 hf
              refine lv_iconst (v := 1) hx hb dX3_absencesOf_68 (by decide) ?_
              refine lv_goto (tgt := 73) hx hb dX3_absencesOf_69 (by decide) ?_
              refine lv_iadd hx hb dX3_absencesOf_73 ?_
              obtain ⟨v26, ev26, hf⟩ := q_let_go hf
              refine q_nmi ev26 ?_
              refine lv_istore_n (lv' := [(3, .int v26), (5, .int 1), (0, .ref (a 0)), (1, .int l1), (2, .int l2), (4, .int l4)]) hx hb dX3_absencesOf_74 rfl hl (by decide) rfl (fun ls hl => ?_)
              obtain ⟨v27, ev27, hf⟩ := q_let_go hf
              refine lv_iinc (v := v27) (lv' := [(4, .int v27), (3, .int v26), (5, .int 1), (0, .ref (a 0)), (1, .int l1), (2, .int l2)]) hx hb dX3_absencesOf_75 hl (k := 5) rfl (by rw [← ev27]; rfl) (by decide) rfl (fun ls hl => ?_)
              refine lv_goto (tgt := 5) hx hb dX3_absencesOf_78 (by decide) ?_
              exact ih l1 l2 v26 v27 _ (lv_sub hl [3, 4, 5, 1, 0] rfl) hf
  have hl := lv_entry ([.ref (a 0), .int p1, .int p2]) (n := 6) (Nat.le_of_ble_eq_true rfl)
  rw [lg_entry_eq]
  generalize (lg_sl ([.ref (a 0), .int p1, .int p2]) ++ List.replicate (6 - (lg_sl ([.ref (a 0), .int p1, .int p2])).length) Slot.unset).toArray = ls at hl ⊢
  have hl : lv_has ls 6 [(0, .ref (a 0)), (1, .int p1), (2, .int p2)] := hl
  unfold f_X3_absencesOf at hf
  refine lv_iconst (v := 0) hx hb dX3_absencesOf_0 (by decide) ?_
  refine lv_istore_n (lv' := [(3, .int 0), (0, .ref (a 0)), (1, .int p1), (2, .int p2)]) hx hb dX3_absencesOf_1 rfl hl (by decide) rfl (fun ls hl => ?_)
  refine lv_iconst (v := 0) hx hb dX3_absencesOf_2 (by decide) ?_
  refine lv_istore (lv' := [(4, .int 0), (3, .int 0), (0, .ref (a 0)), (1, .int p1), (2, .int p2)]) hx hb dX3_absencesOf_3 hl (by decide) rfl (fun ls hl => ?_)
  exact L_5 2000 p1 p2 0 0 _ (lv_sub hl [2, 3, 4, 1, 0] rfl) hf
def f_X3_worksMany_4 (S : MD) : Nat → Int32 → Int32 → Int32 → Option Int32
  | 0, _, _, _ => none
  | n+1, l1, l2, l3 => if 42 ≤ l3 then
 (some l2)
 else ((f_X3_worksIn S l1 l3).bind fun r2 =>
 if r2 = 0 then
 (q_let ((l2 + 0)) fun v4 =>
 q_let (l3 + 1) fun v5 =>
 f_X3_worksMany_4 S n l1 v4 v5)
 else (q_let ((l2 + 1)) fun v6 =>
 q_let (l3 + 1) fun v7 =>
 f_X3_worksMany_4 S n l1 v6 v7))
def f_X3_worksMany (S : MD) (p1 : Int32) : Option Int32 := f_X3_worksMany_4 S 2000 p1 0 0
abbrev rX3_worksMany : Room := { frames := 4, cells := 0, slots := 0, locals := 89 }
set_option maxRecDepth 100000 in
set_option maxHeartbeats 4000000 in
theorem c_X3_worksMany (l : Launch) (D : va_G) (cI cJ cS : ClassId) (a : Nat → Nat) (S : MD) (p1 : Int32) (o : Int32) (hf : f_X3_worksMany S p1 = some o) : Met l yX3_worksMany wsX3_worksMany rX3_worksMany (va_Pc [.ref (a 0), .int p1] (q_B D cI cJ cS (wMD cI cJ a S))) (q_Ri o) 0 0 (fun _ => False) := by
  refine Met.ofW (cc := cX3_worksMany) (maxL := 4) (ret := some .int) (by decide) rfl ?_
  intro p e s m args below meth c s₁ B hml hv
  obtain ⟨rfl, hP, hE⟩ := hv
  have hx := B.exec
  have hb := B.bytes
  have hr := B.returns
  have hts := atoms_spec (ws := wsX3_worksMany) B.pre
  have hown : s.vm.findClass RX3 = some m.cls := findClass_of_methodNamed B.named
  have hlocks := B.notSynchronized
  have L_4 : ∀ (n : Nat) (l1 : Int32) (l2 : Int32) (l3 : Int32) (ls : Array Slot), lv_has ls 4 [(0, .ref (a 0)), (1, .int l1), (2, .int l2), (3, .int l3)] → f_X3_worksMany_4 S n l1 l2 l3 = some o → W p l e (headSpec wsX3_worksMany rX3_worksMany).room s m (([.ref (a 0), .int p1] : List Value).toArray) below meth c s.heap [] 0 0 (MQ below (q_Ri o) (([.ref (a 0), .int p1] : List Value).toArray) s 0 0 (fun _ => False)) (F0 m 4 ls []) := by
    intro n
    induction n with
    | zero => intro l1 l2 l3 ls hl hf; cases hf
    | succ n ih =>
      intro l1 l2 l3 ls hl hf
      rw [f_X3_worksMany_4] at hf
      refine lv_iload_n hx hb dX3_worksMany_4 rfl (lv_at hl 3 rfl) ?_
      refine lv_bipush (v := 42) hx hb dX3_worksMany_5 (by decide) ?_
      refine lv_icmp_ge (tgt := 33) hx hb dX3_worksMany_7 (by decide) (fun c1 => ?_) (fun c1 => ?_)
      · have hf := q_ite_t c1 hf
        refine lv_iload_n hx hb dX3_worksMany_33 rfl (lv_at hl 2 rfl) ?_
        have ho := q_some hf
        subst ho
        exact W.iret hx hb hr (fun t ht hW => ⟨rfl, ht⟩) t_nil dX3_worksMany_34
      · have hf := q_ite_f c1 hf
        refine lv_iload_n hx hb dX3_worksMany_10 rfl (lv_at hl 2 rfl) ?_
        refine lv_aload_n hx hb dX3_worksMany_11 rfl (lv_at hl 0 rfl) ?_
        refine lv_iload_n hx hb dX3_worksMany_12 rfl (lv_at hl 1 rfl) ?_
        refine lv_iload_n hx hb dX3_worksMany_13 rfl (lv_at hl 3 rfl) ?_
        obtain ⟨r2, hr2, hf⟩ := q_bd_go hf
        refine q_rdVi (ci := 3) (As := [.int l1, .int l3]) (rest := [.int l2]) hx hb hml hown hts (c_X3_worksIn l D cI cJ cS a S l1 l3 _ hr2) (cwV 2 hts gX3_worksMany_X3_worksIn rfl rfl rfl (by decide +kernel) ⟨(Nat.le_of_ble_eq_true rfl), (Nat.le_of_ble_eq_true rfl)⟩) hE hP rfl rfl rfl hl.1 rfl (Nat.le_of_ble_eq_true rfl) dX3_worksMany_14 ⟨Nat.zero_le _, Nat.zero_le _⟩ ?_
        refine lv_if_eq (tgt := 24) hx hb dX3_worksMany_17 (by decide) (fun c3 => ?_) (fun c3 => ?_)
        · have hf := q_ite_t c3 hf
          refine lv_iconst (v := 0) hx hb dX3_worksMany_24 (by decide) ?_
          refine lv_iadd hx hb dX3_worksMany_25 ?_
          obtain ⟨v4, ev4, hf⟩ := q_let_go hf
          refine q_nmi ev4 ?_
          refine lv_istore_n (lv' := [(2, .int v4), (0, .ref (a 0)), (1, .int l1), (3, .int l3)]) hx hb dX3_worksMany_26 rfl hl (by decide) rfl (fun ls hl => ?_)
          obtain ⟨v5, ev5, hf⟩ := q_let_go hf
          refine lv_iinc (v := v5) (lv' := [(3, .int v5), (2, .int v4), (0, .ref (a 0)), (1, .int l1)]) hx hb dX3_worksMany_27 hl (k := 3) rfl (by rw [← ev5]; rfl) (by decide) rfl (fun ls hl => ?_)
          refine lv_goto (tgt := 4) hx hb dX3_worksMany_30 (by decide) ?_
          exact ih l1 v4 v5 _ (lv_sub hl [2, 3, 1, 0] rfl) hf
        · have hf := q_ite_f c3 hf
          refine lv_iconst (v := 1) hx hb dX3_worksMany_20 (by decide) ?_
          refine lv_goto (tgt := 25) hx hb dX3_worksMany_21 (by decide) ?_
          refine lv_iadd hx hb dX3_worksMany_25 ?_
          obtain ⟨v6, ev6, hf⟩ := q_let_go hf
          refine q_nmi ev6 ?_
          refine lv_istore_n (lv' := [(2, .int v6), (0, .ref (a 0)), (1, .int l1), (3, .int l3)]) hx hb dX3_worksMany_26 rfl hl (by decide) rfl (fun ls hl => ?_)
          obtain ⟨v7, ev7, hf⟩ := q_let_go hf
          refine lv_iinc (v := v7) (lv' := [(3, .int v7), (2, .int v6), (0, .ref (a 0)), (1, .int l1)]) hx hb dX3_worksMany_27 hl (k := 3) rfl (by rw [← ev7]; rfl) (by decide) rfl (fun ls hl => ?_)
          refine lv_goto (tgt := 4) hx hb dX3_worksMany_30 (by decide) ?_
          exact ih l1 v6 v7 _ (lv_sub hl [2, 3, 1, 0] rfl) hf
  have hl := lv_entry ([.ref (a 0), .int p1]) (n := 4) (Nat.le_of_ble_eq_true rfl)
  rw [lg_entry_eq]
  generalize (lg_sl ([.ref (a 0), .int p1]) ++ List.replicate (4 - (lg_sl ([.ref (a 0), .int p1])).length) Slot.unset).toArray = ls at hl ⊢
  have hl : lv_has ls 4 [(0, .ref (a 0)), (1, .int p1)] := hl
  unfold f_X3_worksMany at hf
  refine lv_iconst (v := 0) hx hb dX3_worksMany_0 (by decide) ?_
  refine lv_istore_n (lv' := [(2, .int 0), (0, .ref (a 0)), (1, .int p1)]) hx hb dX3_worksMany_1 rfl hl (by decide) rfl (fun ls hl => ?_)
  refine lv_iconst (v := 0) hx hb dX3_worksMany_2 (by decide) ?_
  refine lv_istore_n (lv' := [(3, .int 0), (2, .int 0), (0, .ref (a 0)), (1, .int p1)]) hx hb dX3_worksMany_3 rfl hl (by decide) rfl (fun ls hl => ?_)
  exact L_4 2000 p1 0 0 _ (lv_sub hl [2, 3, 1, 0] rfl) hf
def f_X3_tellsPerson (S : MD) (p1 : Int32) (p2 : Int32) : Option Int32 := if p2 = 0 then
 ((f_X3_rostered S p1).bind fun r2 =>
 some r2)
 else (if p2 = 1 then
 ((f_X3_absencesOf S p1 0).bind fun r3 =>
 some r3)
 else (if p2 = 2 then
 ((f_X3_absencesOf S p1 3).bind fun r4 =>
 some r4)
 else (if p2 = 3 then
 ((f_X3_ofP S p1 1).bind fun r5 =>
 some ((r5 : Int64).toInt32))
 else (if p2 = 4 then
 ((f_X3_ofP S p1 2).bind fun r6 =>
 some ((r6 : Int64).toInt32))
 else (if p2 = 5 then
 ((f_X3_worksMany S p1).bind fun r7 =>
 some r7)
 else ((f_X3_absencesOf S p1 5).bind fun r8 =>
 some r8))))))
abbrev rX3_tellsPerson : Room := { frames := 5, cells := 0, slots := 0, locals := 112 }
set_option maxRecDepth 100000 in
set_option maxHeartbeats 4000000 in
theorem c_X3_tellsPerson (l : Launch) (D : va_G) (cI cJ cS : ClassId) (a : Nat → Nat) (S : MD) (p1 : Int32) (p2 : Int32) (o : Int32) (hf : f_X3_tellsPerson S p1 p2 = some o) : Met l yX3_tellsPerson wsX3_tellsPerson rX3_tellsPerson (va_Pc [.ref (a 0), .int p1, .int p2] (q_B D cI cJ cS (wMD cI cJ a S))) (q_Ri o) 0 0 (fun _ => False) := by
  refine Met.ofW (cc := cX3_tellsPerson) (maxL := 3) (ret := some .int) (by decide) rfl ?_
  intro p e s m args below meth c s₁ B hml hv
  obtain ⟨rfl, hP, hE⟩ := hv
  have hx := B.exec
  have hb := B.bytes
  have hr := B.returns
  have hts := atoms_spec (ws := wsX3_tellsPerson) B.pre
  have hown : s.vm.findClass RX3 = some m.cls := findClass_of_methodNamed B.named
  have hlocks := B.notSynchronized
  have hl := lv_entry ([.ref (a 0), .int p1, .int p2]) (n := 3) (Nat.le_of_ble_eq_true rfl)
  rw [lg_entry_eq]
  generalize (lg_sl ([.ref (a 0), .int p1, .int p2]) ++ List.replicate (3 - (lg_sl ([.ref (a 0), .int p1, .int p2])).length) Slot.unset).toArray = ls at hl ⊢
  have hl : lv_has ls 3 [(0, .ref (a 0)), (1, .int p1), (2, .int p2)] := hl
  unfold f_X3_tellsPerson at hf
  refine lv_iload_n hx hb dX3_tellsPerson_0 rfl (lv_at hl 2 rfl) ?_
  by_cases c1_0 : p2 = 0
  · have hf := q_ite_t c1_0 hf
    refine lv_tableIn (tgt := 40) hx hb dX3_tellsPerson_1 (by rw [c1_0]; decide) (by rw [c1_0]; decide) (by rw [c1_0]; rfl) (by decide) ?_
    refine lv_aload_n hx hb dX3_tellsPerson_40 rfl (lv_at hl 0 rfl) ?_
    refine lv_iload_n hx hb dX3_tellsPerson_41 rfl (lv_at hl 1 rfl) ?_
    obtain ⟨r2, hr2, hf⟩ := q_bd_go hf
    refine q_rdVi (ci := 3) (As := [.int p1]) (rest := []) hx hb hml hown hts (c_X3_rostered l D cI cJ cS a S p1 _ hr2) (cwV 1 hts gX3_tellsPerson_X3_rostered rfl rfl rfl (by decide +kernel) ⟨(Nat.le_of_ble_eq_true rfl), (Nat.le_of_ble_eq_true rfl)⟩) hE hP rfl rfl rfl hl.1 rfl (Nat.le_of_ble_eq_true rfl) dX3_tellsPerson_42 ⟨Nat.zero_le _, Nat.zero_le _⟩ ?_
    have ho := q_some hf
    subst ho
    exact W.iret hx hb hr (fun t ht hW => ⟨rfl, ht⟩) t_nil dX3_tellsPerson_45
  have hf := q_ite_f c1_0 hf
  by_cases c1_1 : p2 = 1
  · have hf := q_ite_t c1_1 hf
    refine lv_tableIn (tgt := 46) hx hb dX3_tellsPerson_1 (by rw [c1_1]; decide) (by rw [c1_1]; decide) (by rw [c1_1]; rfl) (by decide) ?_
    refine lv_aload_n hx hb dX3_tellsPerson_46 rfl (lv_at hl 0 rfl) ?_
    refine lv_iload_n hx hb dX3_tellsPerson_47 rfl (lv_at hl 1 rfl) ?_
    refine lv_iconst (v := 0) hx hb dX3_tellsPerson_48 (by decide) ?_
    obtain ⟨r3, hr3, hf⟩ := q_bd_go hf
    refine q_rdVi (ci := 3) (As := [.int p1, .int 0]) (rest := []) hx hb hml hown hts (c_X3_absencesOf l D cI cJ cS a S p1 0 _ hr3) (cwV 2 hts gX3_tellsPerson_X3_absencesOf rfl rfl rfl (by decide +kernel) ⟨(Nat.le_of_ble_eq_true rfl), (Nat.le_of_ble_eq_true rfl)⟩) hE hP rfl rfl rfl hl.1 rfl (Nat.le_of_ble_eq_true rfl) dX3_tellsPerson_49 ⟨Nat.zero_le _, Nat.zero_le _⟩ ?_
    have ho := q_some hf
    subst ho
    exact W.iret hx hb hr (fun t ht hW => ⟨rfl, ht⟩) t_nil dX3_tellsPerson_52
  have hf := q_ite_f c1_1 hf
  by_cases c1_2 : p2 = 2
  · have hf := q_ite_t c1_2 hf
    refine lv_tableIn (tgt := 53) hx hb dX3_tellsPerson_1 (by rw [c1_2]; decide) (by rw [c1_2]; decide) (by rw [c1_2]; rfl) (by decide) ?_
    refine lv_aload_n hx hb dX3_tellsPerson_53 rfl (lv_at hl 0 rfl) ?_
    refine lv_iload_n hx hb dX3_tellsPerson_54 rfl (lv_at hl 1 rfl) ?_
    refine lv_iconst (v := 3) hx hb dX3_tellsPerson_55 (by decide) ?_
    obtain ⟨r4, hr4, hf⟩ := q_bd_go hf
    refine q_rdVi (ci := 3) (As := [.int p1, .int 3]) (rest := []) hx hb hml hown hts (c_X3_absencesOf l D cI cJ cS a S p1 3 _ hr4) (cwV 2 hts gX3_tellsPerson_X3_absencesOf rfl rfl rfl (by decide +kernel) ⟨(Nat.le_of_ble_eq_true rfl), (Nat.le_of_ble_eq_true rfl)⟩) hE hP rfl rfl rfl hl.1 rfl (Nat.le_of_ble_eq_true rfl) dX3_tellsPerson_56 ⟨Nat.zero_le _, Nat.zero_le _⟩ ?_
    have ho := q_some hf
    subst ho
    exact W.iret hx hb hr (fun t ht hW => ⟨rfl, ht⟩) t_nil dX3_tellsPerson_59
  have hf := q_ite_f c1_2 hf
  by_cases c1_3 : p2 = 3
  · have hf := q_ite_t c1_3 hf
    refine lv_tableIn (tgt := 60) hx hb dX3_tellsPerson_1 (by rw [c1_3]; decide) (by rw [c1_3]; decide) (by rw [c1_3]; rfl) (by decide) ?_
    refine lv_aload_n hx hb dX3_tellsPerson_60 rfl (lv_at hl 0 rfl) ?_
    refine lv_iload_n hx hb dX3_tellsPerson_61 rfl (lv_at hl 1 rfl) ?_
    refine lv_iconst (v := 1) hx hb dX3_tellsPerson_62 (by decide) ?_
    obtain ⟨r5, hr5, hf⟩ := q_bd_go hf
    refine q_rdVl (ci := 3) (As := [.int p1, .int 1]) (rest := []) hx hb hml hown hts (c_X3_ofP l D cI cJ cS a S p1 1 _ hr5) (cwV 2 hts gX3_tellsPerson_X3_ofP rfl rfl rfl (by decide +kernel) ⟨(Nat.le_of_ble_eq_true rfl), (Nat.le_of_ble_eq_true rfl)⟩) hE hP rfl rfl rfl hl.1 rfl (Nat.le_of_ble_eq_true rfl) dX3_tellsPerson_63 ⟨Nat.zero_le _, Nat.zero_le _⟩ ?_
    refine lv_l2i (v := ((r5 : Int64).toInt32)) hx hb dX3_tellsPerson_66 rfl ?_
    have ho := q_some hf
    subst ho
    exact W.iret hx hb hr (fun t ht hW => ⟨rfl, ht⟩) t_nil dX3_tellsPerson_67
  have hf := q_ite_f c1_3 hf
  by_cases c1_4 : p2 = 4
  · have hf := q_ite_t c1_4 hf
    refine lv_tableIn (tgt := 68) hx hb dX3_tellsPerson_1 (by rw [c1_4]; decide) (by rw [c1_4]; decide) (by rw [c1_4]; rfl) (by decide) ?_
    refine lv_aload_n hx hb dX3_tellsPerson_68 rfl (lv_at hl 0 rfl) ?_
    refine lv_iload_n hx hb dX3_tellsPerson_69 rfl (lv_at hl 1 rfl) ?_
    refine lv_iconst (v := 2) hx hb dX3_tellsPerson_70 (by decide) ?_
    obtain ⟨r6, hr6, hf⟩ := q_bd_go hf
    refine q_rdVl (ci := 3) (As := [.int p1, .int 2]) (rest := []) hx hb hml hown hts (c_X3_ofP l D cI cJ cS a S p1 2 _ hr6) (cwV 2 hts gX3_tellsPerson_X3_ofP rfl rfl rfl (by decide +kernel) ⟨(Nat.le_of_ble_eq_true rfl), (Nat.le_of_ble_eq_true rfl)⟩) hE hP rfl rfl rfl hl.1 rfl (Nat.le_of_ble_eq_true rfl) dX3_tellsPerson_71 ⟨Nat.zero_le _, Nat.zero_le _⟩ ?_
    refine lv_l2i (v := ((r6 : Int64).toInt32)) hx hb dX3_tellsPerson_74 rfl ?_
    have ho := q_some hf
    subst ho
    exact W.iret hx hb hr (fun t ht hW => ⟨rfl, ht⟩) t_nil dX3_tellsPerson_75
  have hf := q_ite_f c1_4 hf
  by_cases c1_5 : p2 = 5
  · have hf := q_ite_t c1_5 hf
    refine lv_tableIn (tgt := 76) hx hb dX3_tellsPerson_1 (by rw [c1_5]; decide) (by rw [c1_5]; decide) (by rw [c1_5]; rfl) (by decide) ?_
    refine lv_aload_n hx hb dX3_tellsPerson_76 rfl (lv_at hl 0 rfl) ?_
    refine lv_iload_n hx hb dX3_tellsPerson_77 rfl (lv_at hl 1 rfl) ?_
    obtain ⟨r7, hr7, hf⟩ := q_bd_go hf
    refine q_rdVi (ci := 3) (As := [.int p1]) (rest := []) hx hb hml hown hts (c_X3_worksMany l D cI cJ cS a S p1 _ hr7) (cwV 1 hts gX3_tellsPerson_X3_worksMany rfl rfl rfl (by decide +kernel) ⟨(Nat.le_of_ble_eq_true rfl), (Nat.le_of_ble_eq_true rfl)⟩) hE hP rfl rfl rfl hl.1 rfl (Nat.le_of_ble_eq_true rfl) dX3_tellsPerson_78 ⟨Nat.zero_le _, Nat.zero_le _⟩ ?_
    have ho := q_some hf
    subst ho
    exact W.iret hx hb hr (fun t ht hW => ⟨rfl, ht⟩) t_nil dX3_tellsPerson_81
  have hf := q_ite_f c1_5 hf
  have zc1_0 := lv_neT (a := 0) c1_0 (by decide)
  have zc1_1 := lv_neT (a := 1) c1_1 (by decide)
  have zc1_2 := lv_neT (a := 2) c1_2 (by decide)
  have zc1_3 := lv_neT (a := 3) c1_3 (by decide)
  have zc1_4 := lv_neT (a := 4) c1_4 (by decide)
  have zc1_5 := lv_neT (a := 5) c1_5 (by decide)
  refine lv_tableOut (tgt := 82) hx hb dX3_tellsPerson_1 (by omega) (by decide) ?_
  refine lv_aload_n hx hb dX3_tellsPerson_82 rfl (lv_at hl 0 rfl) ?_
  refine lv_iload_n hx hb dX3_tellsPerson_83 rfl (lv_at hl 1 rfl) ?_
  refine lv_iconst (v := 5) hx hb dX3_tellsPerson_84 (by decide) ?_
  obtain ⟨r8, hr8, hf⟩ := q_bd_go hf
  refine q_rdVi (ci := 3) (As := [.int p1, .int 5]) (rest := []) hx hb hml hown hts (c_X3_absencesOf l D cI cJ cS a S p1 5 _ hr8) (cwV 2 hts gX3_tellsPerson_X3_absencesOf rfl rfl rfl (by decide +kernel) ⟨(Nat.le_of_ble_eq_true rfl), (Nat.le_of_ble_eq_true rfl)⟩) hE hP rfl rfl rfl hl.1 rfl (Nat.le_of_ble_eq_true rfl) dX3_tellsPerson_85 ⟨Nat.zero_le _, Nat.zero_le _⟩ ?_
  have ho := q_some hf
  subst ho
  exact W.iret hx hb hr (fun t ht hW => ⟨rfl, ht⟩) t_nil dX3_tellsPerson_88
def f_X3_person_30 (Sz : MD) (l1 : Int32) (l2 : Int32) (t0 : Int32) : Option (Int32 × MD) := q_let (sMD_thrown Sz t0) fun S5 =>
 if ¬ (MD_thrown S5) = 0 then
 (some (0, S5))
 else ((f_X3_tellsPerson S5 l1 l2).bind fun r7 =>
 some (r7, S5))
def f_X3_person (S : MD) (p1 : Int32) (p2 : Int32) : Option (Int32 × MD) := (f_X3_isPerson S p1).bind fun r1 =>
 if ¬ r1 = 0 then
 ((f_X3_isIn ((p2 : Int32).toInt64) 0 6).bind fun r3 =>
 if r3 = 0 then
 (f_X3_person_30 S p1 p2 2)
 else (f_X3_person_30 S p1 p2 0))
 else (f_X3_person_30 S p1 p2 1)
abbrev rX3_person : Room := { frames := 6, cells := 0, slots := 0, locals := 134 }
set_option maxRecDepth 100000 in
set_option maxHeartbeats 4000000 in
theorem c_X3_person (l : Launch) (D : va_G) (cI cJ cS : ClassId) (a : Nat → Nat) (S : MD) (sz : Nat) (p1 : Int32) (p2 : Int32) (o : (Int32 × MD)) (hf : f_X3_person S p1 p2 = some o) : Met l yX3_person wsX3_person rX3_person (va_Pc [.ref (a 0), .int p1, .int p2] (q_BW D cI cJ cS (wMD cI cJ a S) sz)) (q_Wo (some (.int o.1)) D (wMD cI cJ a S) (wMD cI cJ a o.2) sz) 0 0 (va_A (wMD cI cJ a S) sz) := by
  refine Met.ofW (cc := cX3_person) (maxL := 3) (ret := some .int) (by decide) rfl ?_
  intro p e s m args below meth c s₁ B hml hv
  obtain ⟨rfl, hsz, hP, hE, hD0⟩ := hv
  have hx := B.exec
  have hb := B.bytes
  have hr := B.returns
  have hts := atoms_spec (ws := wsX3_person) B.pre
  have hown : s.vm.findClass RX3 = some m.cls := findClass_of_methodNamed B.named
  have hlocks := B.notSynchronized
  have hu : ∀ z ∈ wsX30, z.before _ s = true := fun z h => hts z (List.mem_cons_of_mem _ (List.mem_append_right _ h))
  subst hsz
  have hD := hD0.self (sz := s.heap.size)
  have hS : va_S (va_A (wMD cI cJ a S) s.heap.size) s.heap s.heap [] := va_S.rf
  have B_30 : ∀ (Sz : MD) (H : Heap) (locs : List Loc) (hP : va_P D vwCl (wMD cI cJ a Sz) H) (hD : va_D (va_A (wMD cI cJ a S) s.heap.size) (wMD cI cJ a Sz)) (hS : va_S (va_A (wMD cI cJ a S) s.heap.size) s.heap H locs) (l1 : Int32) (l2 : Int32) (t0 : Int32) (ls : Array Slot), lv_has ls 3 [(0, .ref (a 0)), (1, .int l1), (2, .int l2)] → f_X3_person_30 Sz l1 l2 t0 = some o → W p l e (headSpec wsX3_person rX3_person).room s m (([.ref (a 0), .int p1, .int p2] : List Value).toArray) below meth c H locs 0 0 (MQ below (q_Wo (some (.int o.1)) D (wMD cI cJ a S) (wMD cI cJ a o.2) s.heap.size) (([.ref (a 0), .int p1, .int p2] : List Value).toArray) s 0 0 (va_A (wMD cI cJ a S) s.heap.size)) (F0 m 30 ls [.int t0, .ref (a 0)]) := by
    intro Sz H locs hP hD hS l1 l2 t0 ls hl hf
    unfold f_X3_person_30 at hf
    obtain ⟨S5, eS5, hf⟩ := q_let_go hf
    refine va_put (D := D) (ci := 3) (v := .int t0) (ty := .int) (C := RX3) (T := TX3) (N := 15) hx hb hu (fun _ h => h) tyX3 tyX3_ok nmX3 hown hE.1 hP hD hS 0 rfl rfl 3 (Nat.le_of_ble_eq_true rfl) (hts (.fieldLink RX3 30 "CoverMeterModel" "thrown" "I") (List.mem_of_getElem? (i := 2) rfl)) (fun _ h9 => h9) rfl (by decide +kernel) rfl rfl (Nat.le_of_ble_eq_true rfl) dX3_person_30 (fun H locs hP hD hS => ?_)
    have hP : va_P D vwCl (wMD cI cJ a (sMD_thrown Sz t0)) H := hP
    have hD : va_D (va_A (wMD cI cJ a S) s.heap.size) (wMD cI cJ a (sMD_thrown Sz t0)) := hD
    rw [eS5] at hP hD
    refine lv_aload_n hx hb dX3_person_33 rfl (lv_at hl 0 rfl) ?_
    refine va_get (D := D) (ci := 3) (v := .int (MD_thrown S5)) (C := RX3) (T := TX3) (N := 15) hx hb hu (fun _ h => h) hown hE.1 hP 0 rfl rfl 3 (Nat.le_of_ble_eq_true rfl) (hts (.fieldLink RX3 30 "CoverMeterModel" "thrown" "I") (List.mem_of_getElem? (i := 2) rfl)) (fun _ h9 => h9) rfl dX3_person_34 ?_
    refine lv_if_ne (tgt := 49) hx hb dX3_person_37 (by decide) (fun c6 => ?_) (fun c6 => ?_)
    · have hf := q_ite_t c6 hf
      refine lv_iconst (v := 0) hx hb dX3_person_49 (by decide) ?_
      have ho := q_some hf
      subst ho
      exact W.iret hx hb hr (fun t ht hW => ⟨rfl, ⟨by rw [ht]; exact hP, hD⟩, hS.F ht⟩) hS.2.2 dX3_person_50
    · have hf := q_ite_n c6 hf
      refine lv_aload_n hx hb dX3_person_40 rfl (lv_at hl 0 rfl) ?_
      refine lv_iload_n hx hb dX3_person_41 rfl (lv_at hl 1 rfl) ?_
      refine lv_iload_n hx hb dX3_person_42 rfl (lv_at hl 2 rfl) ?_
      obtain ⟨r7, hr7, hf⟩ := q_bd_go hf
      refine q_rdVi (ci := 3) (As := [.int l1, .int l2]) (rest := []) hx hb hml hown hts (c_X3_tellsPerson l D cI cJ cS a S5 l1 l2 _ hr7) (cwV 2 hts gX3_person_X3_tellsPerson rfl rfl rfl (by decide +kernel) ⟨(Nat.le_of_ble_eq_true rfl), (Nat.le_of_ble_eq_true rfl)⟩) hE hP rfl rfl rfl hl.1 rfl (Nat.le_of_ble_eq_true rfl) dX3_person_43 ⟨Nat.zero_le _, Nat.zero_le _⟩ ?_
      refine lv_goto (tgt := 50) hx hb dX3_person_46 (by decide) ?_
      have ho := q_some hf
      subst ho
      exact W.iret hx hb hr (fun t ht hW => ⟨rfl, ⟨by rw [ht]; exact hP, hD⟩, hS.F ht⟩) hS.2.2 dX3_person_50
  have hl := lv_entry ([.ref (a 0), .int p1, .int p2]) (n := 3) (Nat.le_of_ble_eq_true rfl)
  rw [lg_entry_eq]
  generalize (lg_sl ([.ref (a 0), .int p1, .int p2]) ++ List.replicate (3 - (lg_sl ([.ref (a 0), .int p1, .int p2])).length) Slot.unset).toArray = ls at hl ⊢
  have hl : lv_has ls 3 [(0, .ref (a 0)), (1, .int p1), (2, .int p2)] := hl
  unfold f_X3_person at hf
  refine lv_aload_n hx hb dX3_person_0 rfl (lv_at hl 0 rfl) ?_
  refine lv_aload_n hx hb dX3_person_1 rfl (lv_at hl 0 rfl) ?_
  refine lv_iload_n hx hb dX3_person_2 rfl (lv_at hl 1 rfl) ?_
  obtain ⟨r1, hr1, hf⟩ := q_bd_go hf
  refine q_rdVi (ci := 3) (As := [.int p1]) (rest := [.ref (a 0)]) hx hb hml hown hts (c_X3_isPerson l D cI cJ cS a S p1 _ hr1) (cwV 1 hts gX3_person_X3_isPerson rfl rfl rfl (by decide +kernel) ⟨(Nat.le_of_ble_eq_true rfl), (Nat.le_of_ble_eq_true rfl)⟩) hE hP rfl rfl rfl hl.1 rfl (Nat.le_of_ble_eq_true rfl) dX3_person_3 ⟨Nat.zero_le _, Nat.zero_le _⟩ ?_
  refine lv_if_ne (tgt := 13) hx hb dX3_person_6 (by decide) (fun c2 => ?_) (fun c2 => ?_)
  · have hf := q_ite_t c2 hf
    refine lv_iload_n hx hb dX3_person_13 rfl (lv_at hl 2 rfl) ?_
    refine lv_i2l (v := ((p2 : Int32).toInt64)) hx hb dX3_person_14 rfl ?_
    refine lv_lconst (v := 0) hx hb dX3_person_15 (by decide) ?_
    refine lv_ldc2 (v := 6) hx hb hown (hts (.constantLong RX3 158 (6)) (List.mem_of_getElem? (i := 1) rfl)) dX3_person_16 ?_
    obtain ⟨r3, hr3, hf⟩ := q_bd_go hf
    refine q_rdSi (As := [.long ((p2 : Int32).toInt64), .long 0, .long 6]) (rest := [.ref (a 0)]) hx hb hml hown hts (c_X3_isIn l D cI cJ cS ((p2 : Int32).toInt64) 0 6 _ hr3) (va_cwS 3 hts gX3_person_X3_isIn rfl rfl rfl (by decide +kernel) ⟨(Nat.le_of_ble_eq_true rfl), (Nat.le_of_ble_eq_true rfl)⟩) hE rfl hl.1 rfl (Nat.le_of_ble_eq_true rfl) dX3_person_19 ⟨Nat.zero_le _, Nat.zero_le _⟩ ?_
    refine lv_if_eq (tgt := 29) hx hb dX3_person_22 (by decide) (fun c4 => ?_) (fun c4 => ?_)
    · have hf := q_ite_t c4 hf
      refine lv_iconst (v := 2) hx hb dX3_person_29 (by decide) ?_
      exact B_30 S _ _ hP hD hS p1 p2 2 _ (lv_sub hl [0, 1, 2] rfl) hf
    · have hf := q_ite_f c4 hf
      refine lv_iconst (v := 0) hx hb dX3_person_25 (by decide) ?_
      refine lv_goto (tgt := 30) hx hb dX3_person_26 (by decide) ?_
      exact B_30 S _ _ hP hD hS p1 p2 0 _ (lv_sub hl [0, 1, 2] rfl) hf
  · have hf := q_ite_n c2 hf
    refine lv_iconst (v := 1) hx hb dX3_person_9 (by decide) ?_
    refine lv_goto (tgt := 30) hx hb dX3_person_10 (by decide) ?_
    exact B_30 S _ _ hP hD hS p1 p2 1 _ (lv_sub hl [0, 1, 2] rfl) hf
def f_X3_workOf_5 (S : MD) : Nat → Int32 → Int64 → Int32 → Option Int64
  | 0, _, _, _ => none
  | n+1, l1, l2, l4 => if 42 ≤ l4 then
 (some l2)
 else ((f_X3_worksIn S l1 l4).bind fun r2 =>
 if r2 = 0 then
 (q_let ((l2 + 0)) fun v4 =>
 q_let (l4 + 1) fun v5 =>
 f_X3_workOf_5 S n l1 v4 v5)
 else (q_let ((l2 + ((1 : Int64) <<< ((l4 : Int32).toInt64 &&& 63)))) fun v6 =>
 q_let (l4 + 1) fun v7 =>
 f_X3_workOf_5 S n l1 v6 v7))
def f_X3_workOf (S : MD) (p1 : Int32) : Option Int64 := f_X3_workOf_5 S 2000 p1 0 0
abbrev rX3_workOf : Room := { frames := 4, cells := 0, slots := 0, locals := 89 }
set_option maxRecDepth 100000 in
set_option maxHeartbeats 4000000 in
theorem c_X3_workOf (l : Launch) (D : va_G) (cI cJ cS : ClassId) (a : Nat → Nat) (S : MD) (p1 : Int32) (o : Int64) (hf : f_X3_workOf S p1 = some o) : Met l yX3_workOf wsX3_workOf rX3_workOf (va_Pc [.ref (a 0), .int p1] (q_B D cI cJ cS (wMD cI cJ a S))) (q_Rl o) 0 0 (fun _ => False) := by
  refine Met.ofW (cc := cX3_workOf) (maxL := 5) (ret := some .long) (by decide) rfl ?_
  intro p e s m args below meth c s₁ B hml hv
  obtain ⟨rfl, hP, hE⟩ := hv
  have hx := B.exec
  have hb := B.bytes
  have hr := B.returns
  have hts := atoms_spec (ws := wsX3_workOf) B.pre
  have hown : s.vm.findClass RX3 = some m.cls := findClass_of_methodNamed B.named
  have hlocks := B.notSynchronized
  have L_5 : ∀ (n : Nat) (l1 : Int32) (l2 : Int64) (l4 : Int32) (ls : Array Slot), lv_has ls 5 [(0, .ref (a 0)), (1, .int l1), (2, .long l2), (4, .int l4)] → f_X3_workOf_5 S n l1 l2 l4 = some o → W p l e (headSpec wsX3_workOf rX3_workOf).room s m (([.ref (a 0), .int p1] : List Value).toArray) below meth c s.heap [] 0 0 (MQ below (q_Rl o) (([.ref (a 0), .int p1] : List Value).toArray) s 0 0 (fun _ => False)) (F0 m 5 ls []) := by
    intro n
    induction n with
    | zero => intro l1 l2 l4 ls hl hf; cases hf
    | succ n ih =>
      intro l1 l2 l4 ls hl hf
      rw [f_X3_workOf_5] at hf
      refine lv_iload hx hb dX3_workOf_5 (lv_at hl 3 rfl) ?_
      refine lv_bipush (v := 42) hx hb dX3_workOf_7 (by decide) ?_
      refine lv_icmp_ge (tgt := 39) hx hb dX3_workOf_9 (by decide) (fun c1 => ?_) (fun c1 => ?_)
      · have hf := q_ite_t c1 hf
        refine lv_lload_n hx hb dX3_workOf_39 rfl (lv_at hl 2 rfl) ?_
        have ho := q_some hf
        subst ho
        exact W.lret hx hb hr (fun t ht hW => ⟨rfl, ht⟩) t_nil dX3_workOf_40
      · have hf := q_ite_f c1 hf
        refine lv_lload_n hx hb dX3_workOf_12 rfl (lv_at hl 2 rfl) ?_
        refine lv_aload_n hx hb dX3_workOf_13 rfl (lv_at hl 0 rfl) ?_
        refine lv_iload_n hx hb dX3_workOf_14 rfl (lv_at hl 1 rfl) ?_
        refine lv_iload hx hb dX3_workOf_15 (lv_at hl 3 rfl) ?_
        obtain ⟨r2, hr2, hf⟩ := q_bd_go hf
        refine q_rdVi (ci := 3) (As := [.int l1, .int l4]) (rest := [.long l2]) hx hb hml hown hts (c_X3_worksIn l D cI cJ cS a S l1 l4 _ hr2) (cwV 2 hts gX3_workOf_X3_worksIn rfl rfl rfl (by decide +kernel) ⟨(Nat.le_of_ble_eq_true rfl), (Nat.le_of_ble_eq_true rfl)⟩) hE hP rfl rfl rfl hl.1 rfl (Nat.le_of_ble_eq_true rfl) dX3_workOf_17 ⟨Nat.zero_le _, Nat.zero_le _⟩ ?_
        refine lv_if_eq (tgt := 30) hx hb dX3_workOf_20 (by decide) (fun c3 => ?_) (fun c3 => ?_)
        · have hf := q_ite_t c3 hf
          refine lv_lconst (v := 0) hx hb dX3_workOf_30 (by decide) ?_
          refine lv_ladd hx hb dX3_workOf_31 ?_
          obtain ⟨v4, ev4, hf⟩ := q_let_go hf
          refine q_nml ev4 ?_
          refine lv_lstore_n (lv' := [(2, .long v4), (0, .ref (a 0)), (1, .int l1), (4, .int l4)]) hx hb dX3_workOf_32 rfl hl (by decide) rfl (fun ls hl => ?_)
          obtain ⟨v5, ev5, hf⟩ := q_let_go hf
          refine lv_iinc (v := v5) (lv' := [(4, .int v5), (2, .long v4), (0, .ref (a 0)), (1, .int l1)]) hx hb dX3_workOf_33 hl (k := 3) rfl (by rw [← ev5]; rfl) (by decide) rfl (fun ls hl => ?_)
          refine lv_goto (tgt := 5) hx hb dX3_workOf_36 (by decide) ?_
          exact ih l1 v4 v5 _ (lv_sub hl [2, 3, 1, 0] rfl) hf
        · have hf := q_ite_f c3 hf
          refine lv_lconst (v := 1) hx hb dX3_workOf_23 (by decide) ?_
          refine lv_iload hx hb dX3_workOf_24 (lv_at hl 3 rfl) ?_
          refine lv_lshl (v := ((1 : Int64) <<< ((l4 : Int32).toInt64 &&& 63))) hx hb dX3_workOf_26 rfl ?_
          refine lv_goto (tgt := 31) hx hb dX3_workOf_27 (by decide) ?_
          refine lv_ladd hx hb dX3_workOf_31 ?_
          obtain ⟨v6, ev6, hf⟩ := q_let_go hf
          refine q_nml ev6 ?_
          refine lv_lstore_n (lv' := [(2, .long v6), (0, .ref (a 0)), (1, .int l1), (4, .int l4)]) hx hb dX3_workOf_32 rfl hl (by decide) rfl (fun ls hl => ?_)
          obtain ⟨v7, ev7, hf⟩ := q_let_go hf
          refine lv_iinc (v := v7) (lv' := [(4, .int v7), (2, .long v6), (0, .ref (a 0)), (1, .int l1)]) hx hb dX3_workOf_33 hl (k := 3) rfl (by rw [← ev7]; rfl) (by decide) rfl (fun ls hl => ?_)
          refine lv_goto (tgt := 5) hx hb dX3_workOf_36 (by decide) ?_
          exact ih l1 v6 v7 _ (lv_sub hl [2, 3, 1, 0] rfl) hf
  have hl := lv_entry ([.ref (a 0), .int p1]) (n := 5) (Nat.le_of_ble_eq_true rfl)
  rw [lg_entry_eq]
  generalize (lg_sl ([.ref (a 0), .int p1]) ++ List.replicate (5 - (lg_sl ([.ref (a 0), .int p1])).length) Slot.unset).toArray = ls at hl ⊢
  have hl : lv_has ls 5 [(0, .ref (a 0)), (1, .int p1)] := hl
  unfold f_X3_workOf at hf
  refine lv_lconst (v := 0) hx hb dX3_workOf_0 (by decide) ?_
  refine lv_lstore_n (lv' := [(2, .long 0), (0, .ref (a 0)), (1, .int p1)]) hx hb dX3_workOf_1 rfl hl (by decide) rfl (fun ls hl => ?_)
  refine lv_iconst (v := 0) hx hb dX3_workOf_2 (by decide) ?_
  refine lv_istore (lv' := [(4, .int 0), (2, .long 0), (0, .ref (a 0)), (1, .int p1)]) hx hb dX3_workOf_3 hl (by decide) rfl (fun ls hl => ?_)
  exact L_5 2000 p1 0 0 _ (lv_sub hl [2, 3, 1, 0] rfl) hf
def f_X3_work (S : MD) (p1 : Int32) : Option (Int64 × MD) := (f_X3_isPerson S p1).bind fun r1 =>
 if r1 = 0 then
 (q_let (sMD_thrown S 1) fun S3 =>
 if ¬ (MD_thrown S3) = 0 then
 (some (0, S3))
 else ((f_X3_workOf S3 p1).bind fun r5 =>
 some (r5, S3)))
 else (q_let (sMD_thrown S 0) fun S6 =>
 if ¬ (MD_thrown S6) = 0 then
 (some (0, S6))
 else ((f_X3_workOf S6 p1).bind fun r8 =>
 some (r8, S6)))
abbrev rX3_work : Room := { frames := 5, cells := 0, slots := 0, locals := 113 }
set_option maxRecDepth 100000 in
set_option maxHeartbeats 4000000 in
theorem c_X3_work (l : Launch) (D : va_G) (cI cJ cS : ClassId) (a : Nat → Nat) (S : MD) (sz : Nat) (p1 : Int32) (o : (Int64 × MD)) (hf : f_X3_work S p1 = some o) : Met l yX3_work wsX3_work rX3_work (va_Pc [.ref (a 0), .int p1] (q_BW D cI cJ cS (wMD cI cJ a S) sz)) (q_Wo (some (.long o.1)) D (wMD cI cJ a S) (wMD cI cJ a o.2) sz) 0 0 (va_A (wMD cI cJ a S) sz) := by
  refine Met.ofW (cc := cX3_work) (maxL := 2) (ret := some .long) (by decide) rfl ?_
  intro p e s m args below meth c s₁ B hml hv
  obtain ⟨rfl, hsz, hP, hE, hD0⟩ := hv
  have hx := B.exec
  have hb := B.bytes
  have hr := B.returns
  have hts := atoms_spec (ws := wsX3_work) B.pre
  have hown : s.vm.findClass RX3 = some m.cls := findClass_of_methodNamed B.named
  have hlocks := B.notSynchronized
  have hu : ∀ z ∈ wsX30, z.before _ s = true := fun z h => hts z (List.mem_cons_of_mem _ (List.mem_append_right _ h))
  subst hsz
  have hD := hD0.self (sz := s.heap.size)
  have hS : va_S (va_A (wMD cI cJ a S) s.heap.size) s.heap s.heap [] := va_S.rf
  have hl := lv_entry ([.ref (a 0), .int p1]) (n := 2) (Nat.le_of_ble_eq_true rfl)
  rw [lg_entry_eq]
  generalize (lg_sl ([.ref (a 0), .int p1]) ++ List.replicate (2 - (lg_sl ([.ref (a 0), .int p1])).length) Slot.unset).toArray = ls at hl ⊢
  have hl : lv_has ls 2 [(0, .ref (a 0)), (1, .int p1)] := hl
  unfold f_X3_work at hf
  refine lv_aload_n hx hb dX3_work_0 rfl (lv_at hl 0 rfl) ?_
  refine lv_aload_n hx hb dX3_work_1 rfl (lv_at hl 0 rfl) ?_
  refine lv_iload_n hx hb dX3_work_2 rfl (lv_at hl 1 rfl) ?_
  obtain ⟨r1, hr1, hf⟩ := q_bd_go hf
  refine q_rdVi (ci := 3) (As := [.int p1]) (rest := [.ref (a 0)]) hx hb hml hown hts (c_X3_isPerson l D cI cJ cS a S p1 _ hr1) (cwV 1 hts gX3_work_X3_isPerson rfl rfl rfl (by decide +kernel) ⟨(Nat.le_of_ble_eq_true rfl), (Nat.le_of_ble_eq_true rfl)⟩) hE hP rfl rfl rfl hl.1 rfl (Nat.le_of_ble_eq_true rfl) dX3_work_3 ⟨Nat.zero_le _, Nat.zero_le _⟩ ?_
  refine lv_if_eq (tgt := 13) hx hb dX3_work_6 (by decide) (fun c2 => ?_) (fun c2 => ?_)
  · have hf := q_ite_t c2 hf
    refine lv_iconst (v := 1) hx hb dX3_work_13 (by decide) ?_
    obtain ⟨S3, eS3, hf⟩ := q_let_go hf
    refine va_put (D := D) (ci := 3) (v := .int 1) (ty := .int) (C := RX3) (T := TX3) (N := 15) hx hb hu (fun _ h => h) tyX3 tyX3_ok nmX3 hown hE.1 hP hD hS 0 rfl rfl 3 (Nat.le_of_ble_eq_true rfl) (hts (.fieldLink RX3 30 "CoverMeterModel" "thrown" "I") (List.mem_of_getElem? (i := 1) rfl)) (fun _ h9 => h9) rfl (by decide +kernel) rfl rfl (Nat.le_of_ble_eq_true rfl) dX3_work_14 (fun H locs hP hD hS => ?_)
    have hP : va_P D vwCl (wMD cI cJ a (sMD_thrown S 1)) H := hP
    have hD : va_D (va_A (wMD cI cJ a S) s.heap.size) (wMD cI cJ a (sMD_thrown S 1)) := hD
    rw [eS3] at hP hD
    refine lv_aload_n hx hb dX3_work_17 rfl (lv_at hl 0 rfl) ?_
    refine va_get (D := D) (ci := 3) (v := .int (MD_thrown S3)) (C := RX3) (T := TX3) (N := 15) hx hb hu (fun _ h => h) hown hE.1 hP 0 rfl rfl 3 (Nat.le_of_ble_eq_true rfl) (hts (.fieldLink RX3 30 "CoverMeterModel" "thrown" "I") (List.mem_of_getElem? (i := 1) rfl)) (fun _ h9 => h9) rfl dX3_work_18 ?_
    refine lv_if_ne (tgt := 32) hx hb dX3_work_21 (by decide) (fun c4 => ?_) (fun c4 => ?_)
    · have hf := q_ite_t c4 hf
      refine lv_lconst (v := 0) hx hb dX3_work_32 (by decide) ?_
      have ho := q_some hf
      subst ho
      exact W.lret hx hb hr (fun t ht hW => ⟨rfl, ⟨by rw [ht]; exact hP, hD⟩, hS.F ht⟩) hS.2.2 dX3_work_33
    · have hf := q_ite_n c4 hf
      refine lv_aload_n hx hb dX3_work_24 rfl (lv_at hl 0 rfl) ?_
      refine lv_iload_n hx hb dX3_work_25 rfl (lv_at hl 1 rfl) ?_
      obtain ⟨r5, hr5, hf⟩ := q_bd_go hf
      refine q_rdVl (ci := 3) (As := [.int p1]) (rest := []) hx hb hml hown hts (c_X3_workOf l D cI cJ cS a S3 p1 _ hr5) (cwV 1 hts gX3_work_X3_workOf rfl rfl rfl (by decide +kernel) ⟨(Nat.le_of_ble_eq_true rfl), (Nat.le_of_ble_eq_true rfl)⟩) hE hP rfl rfl rfl hl.1 rfl (Nat.le_of_ble_eq_true rfl) dX3_work_26 ⟨Nat.zero_le _, Nat.zero_le _⟩ ?_
      refine lv_goto (tgt := 33) hx hb dX3_work_29 (by decide) ?_
      have ho := q_some hf
      subst ho
      exact W.lret hx hb hr (fun t ht hW => ⟨rfl, ⟨by rw [ht]; exact hP, hD⟩, hS.F ht⟩) hS.2.2 dX3_work_33
  · have hf := q_ite_f c2 hf
    refine lv_iconst (v := 0) hx hb dX3_work_9 (by decide) ?_
    refine lv_goto (tgt := 14) hx hb dX3_work_10 (by decide) ?_
    obtain ⟨S6, eS6, hf⟩ := q_let_go hf
    refine va_put (D := D) (ci := 3) (v := .int 0) (ty := .int) (C := RX3) (T := TX3) (N := 15) hx hb hu (fun _ h => h) tyX3 tyX3_ok nmX3 hown hE.1 hP hD hS 0 rfl rfl 3 (Nat.le_of_ble_eq_true rfl) (hts (.fieldLink RX3 30 "CoverMeterModel" "thrown" "I") (List.mem_of_getElem? (i := 1) rfl)) (fun _ h9 => h9) rfl (by decide +kernel) rfl rfl (Nat.le_of_ble_eq_true rfl) dX3_work_14 (fun H locs hP hD hS => ?_)
    have hP : va_P D vwCl (wMD cI cJ a (sMD_thrown S 0)) H := hP
    have hD : va_D (va_A (wMD cI cJ a S) s.heap.size) (wMD cI cJ a (sMD_thrown S 0)) := hD
    rw [eS6] at hP hD
    refine lv_aload_n hx hb dX3_work_17 rfl (lv_at hl 0 rfl) ?_
    refine va_get (D := D) (ci := 3) (v := .int (MD_thrown S6)) (C := RX3) (T := TX3) (N := 15) hx hb hu (fun _ h => h) hown hE.1 hP 0 rfl rfl 3 (Nat.le_of_ble_eq_true rfl) (hts (.fieldLink RX3 30 "CoverMeterModel" "thrown" "I") (List.mem_of_getElem? (i := 1) rfl)) (fun _ h9 => h9) rfl dX3_work_18 ?_
    refine lv_if_ne (tgt := 32) hx hb dX3_work_21 (by decide) (fun c7 => ?_) (fun c7 => ?_)
    · have hf := q_ite_t c7 hf
      refine lv_lconst (v := 0) hx hb dX3_work_32 (by decide) ?_
      have ho := q_some hf
      subst ho
      exact W.lret hx hb hr (fun t ht hW => ⟨rfl, ⟨by rw [ht]; exact hP, hD⟩, hS.F ht⟩) hS.2.2 dX3_work_33
    · have hf := q_ite_n c7 hf
      refine lv_aload_n hx hb dX3_work_24 rfl (lv_at hl 0 rfl) ?_
      refine lv_iload_n hx hb dX3_work_25 rfl (lv_at hl 1 rfl) ?_
      obtain ⟨r8, hr8, hf⟩ := q_bd_go hf
      refine q_rdVl (ci := 3) (As := [.int p1]) (rest := []) hx hb hml hown hts (c_X3_workOf l D cI cJ cS a S6 p1 _ hr8) (cwV 1 hts gX3_work_X3_workOf rfl rfl rfl (by decide +kernel) ⟨(Nat.le_of_ble_eq_true rfl), (Nat.le_of_ble_eq_true rfl)⟩) hE hP rfl rfl rfl hl.1 rfl (Nat.le_of_ble_eq_true rfl) dX3_work_26 ⟨Nat.zero_le _, Nat.zero_le _⟩ ?_
      refine lv_goto (tgt := 33) hx hb dX3_work_29 (by decide) ?_
      have ho := q_some hf
      subst ho
      exact W.lret hx hb hr (fun t ht hW => ⟨rfl, ⟨by rw [ht]; exact hP, hD⟩, hS.F ht⟩) hS.2.2 dX3_work_33
def f_X3_ableFor_4 (S : MD) : Nat → Int32 → Int32 → Int32 → Option Int32
  | 0, _, _, _ => none
  | n+1, l1, l2, l3 => if q_in 3 420 = true then
 (if 0 ≤ (lg_cmp ((l3 : Int32).toInt64) (MD_now S (3 : Int32).toNatClampNeg)) then
 (some l2)
 else ((f_X3_whyNotFor S l3 l1).bind fun r3 =>
 if ¬ r3 = 0 then
 (q_let ((l2 ||| 0)) fun v5 =>
 q_let (l3 + 1) fun v6 =>
 f_X3_ableFor_4 S n l1 v5 v6)
 else (q_let ((l2 ||| ((1 : Int32) <<< (l3 &&& 31)))) fun v7 =>
 q_let (l3 + 1) fun v8 =>
 f_X3_ableFor_4 S n l1 v7 v8))) else none
def f_X3_ableFor (S : MD) (p1 : Int32) : Option Int32 := f_X3_ableFor_4 S 2000 p1 0 0
abbrev rX3_ableFor : Room := { frames := 6, cells := 0, slots := 0, locals := 134 }
set_option maxRecDepth 100000 in
set_option maxHeartbeats 4000000 in
theorem c_X3_ableFor (l : Launch) (D : va_G) (cI cJ cS : ClassId) (a : Nat → Nat) (S : MD) (p1 : Int32) (o : Int32) (hf : f_X3_ableFor S p1 = some o) : Met l yX3_ableFor wsX3_ableFor rX3_ableFor (va_Pc [.ref (a 0), .int p1] (q_B D cI cJ cS (wMD cI cJ a S))) (q_Ri o) 0 0 (fun _ => False) := by
  refine Met.ofW (cc := cX3_ableFor) (maxL := 4) (ret := some .int) (by decide) rfl ?_
  intro p e s m args below meth c s₁ B hml hv
  obtain ⟨rfl, hP, hE⟩ := hv
  have hx := B.exec
  have hb := B.bytes
  have hr := B.returns
  have hts := atoms_spec (ws := wsX3_ableFor) B.pre
  have hown : s.vm.findClass RX3 = some m.cls := findClass_of_methodNamed B.named
  have hlocks := B.notSynchronized
  have hu : ∀ z ∈ wsX30, z.before _ s = true := fun z h => hts z (List.mem_cons_of_mem _ (List.mem_append_right _ h))
  have L_4 : ∀ (n : Nat) (l1 : Int32) (l2 : Int32) (l3 : Int32) (ls : Array Slot), lv_has ls 4 [(0, .ref (a 0)), (1, .int l1), (2, .int l2), (3, .int l3)] → f_X3_ableFor_4 S n l1 l2 l3 = some o → W p l e (headSpec wsX3_ableFor rX3_ableFor).room s m (([.ref (a 0), .int p1] : List Value).toArray) below meth c s.heap [] 0 0 (MQ below (q_Ri o) (([.ref (a 0), .int p1] : List Value).toArray) s 0 0 (fun _ => False)) (F0 m 4 ls []) := by
    intro n
    induction n with
    | zero => intro l1 l2 l3 ls hl hf; cases hf
    | succ n ih =>
      intro l1 l2 l3 ls hl hf
      rw [f_X3_ableFor_4] at hf
      refine lv_iload_n hx hb dX3_ableFor_4 rfl (lv_at hl 3 rfl) ?_
      refine lv_i2l (v := ((l3 : Int32).toInt64)) hx hb dX3_ableFor_5 rfl ?_
      refine lv_aload_n hx hb dX3_ableFor_6 rfl (lv_at hl 0 rfl) ?_
      refine va_get (D := D) (ci := 3) (v := .ref (a 1)) (C := RX3) (T := TX3) (N := 15) hx hb hu (fun _ h => h) hown hE.1 hP 0 rfl rfl 0 (Nat.le_of_ble_eq_true rfl) (hts (.fieldLink RX3 7 "CoverMeterModel" "now" "[J") (List.mem_of_getElem? (i := 1) rfl)) (fun _ h9 => h9) rfl dX3_ableFor_7 ?_
      refine lv_iconst (v := 3) hx hb dX3_ableFor_10 (by decide) ?_
      have hi1 := q_gd_in hf
      have hf := q_gd_go hf
      refine va_lald hx hb hE.1 hP 1 1 rfl rfl hi1 dX3_ableFor_11 ?_
      refine W.lcmp hx hb dX3_ableFor_12 ?_
      refine lv_if_ge (tgt := 41) hx hb dX3_ableFor_13 (by decide) (fun c2 => ?_) (fun c2 => ?_)
      · have hf := q_ite_t c2 hf
        refine lv_iload_n hx hb dX3_ableFor_41 rfl (lv_at hl 2 rfl) ?_
        have ho := q_some hf
        subst ho
        exact W.iret hx hb hr (fun t ht hW => ⟨rfl, ht⟩) t_nil dX3_ableFor_42
      · have hf := q_ite_f c2 hf
        refine lv_iload_n hx hb dX3_ableFor_16 rfl (lv_at hl 2 rfl) ?_
        refine lv_aload_n hx hb dX3_ableFor_17 rfl (lv_at hl 0 rfl) ?_
        refine lv_iload_n hx hb dX3_ableFor_18 rfl (lv_at hl 3 rfl) ?_
        refine lv_iload_n hx hb dX3_ableFor_19 rfl (lv_at hl 1 rfl) ?_
        obtain ⟨r3, hr3, hf⟩ := q_bd_go hf
        refine q_rdVi (ci := 3) (As := [.int l3, .int l1]) (rest := [.int l2]) hx hb hml hown hts (c_X3_whyNotFor l D cI cJ cS a S l3 l1 _ hr3) (cwV 2 hts gX3_ableFor_X3_whyNotFor rfl rfl rfl (by decide +kernel) ⟨(Nat.le_of_ble_eq_true rfl), (Nat.le_of_ble_eq_true rfl)⟩) hE hP rfl rfl rfl hl.1 rfl (Nat.le_of_ble_eq_true rfl) dX3_ableFor_20 ⟨Nat.zero_le _, Nat.zero_le _⟩ ?_
        refine lv_if_ne (tgt := 32) hx hb dX3_ableFor_23 (by decide) (fun c4 => ?_) (fun c4 => ?_)
        · have hf := q_ite_t c4 hf
          refine lv_iconst (v := 0) hx hb dX3_ableFor_32 (by decide) ?_
          refine lv_ior hx hb dX3_ableFor_33 ?_
          obtain ⟨v5, ev5, hf⟩ := q_let_go hf
          refine q_nmi ev5 ?_
          refine lv_istore_n (lv' := [(2, .int v5), (0, .ref (a 0)), (1, .int l1), (3, .int l3)]) hx hb dX3_ableFor_34 rfl hl (by decide) rfl (fun ls hl => ?_)
          obtain ⟨v6, ev6, hf⟩ := q_let_go hf
          refine lv_iinc (v := v6) (lv' := [(3, .int v6), (2, .int v5), (0, .ref (a 0)), (1, .int l1)]) hx hb dX3_ableFor_35 hl (k := 3) rfl (by rw [← ev6]; rfl) (by decide) rfl (fun ls hl => ?_)
          refine lv_goto (tgt := 4) hx hb dX3_ableFor_38 (by decide) ?_
          exact ih l1 v5 v6 _ (lv_sub hl [2, 3, 1, 0] rfl) hf
        · have hf := q_ite_n c4 hf
          refine lv_iconst (v := 1) hx hb dX3_ableFor_26 (by decide) ?_
          refine lv_iload_n hx hb dX3_ableFor_27 rfl (lv_at hl 3 rfl) ?_
          refine lv_ishl hx hb dX3_ableFor_28 ?_
          refine lv_goto (tgt := 33) hx hb dX3_ableFor_29 (by decide) ?_
          refine lv_ior hx hb dX3_ableFor_33 ?_
          obtain ⟨v7, ev7, hf⟩ := q_let_go hf
          refine q_nmi ev7 ?_
          refine lv_istore_n (lv' := [(2, .int v7), (0, .ref (a 0)), (1, .int l1), (3, .int l3)]) hx hb dX3_ableFor_34 rfl hl (by decide) rfl (fun ls hl => ?_)
          obtain ⟨v8, ev8, hf⟩ := q_let_go hf
          refine lv_iinc (v := v8) (lv' := [(3, .int v8), (2, .int v7), (0, .ref (a 0)), (1, .int l1)]) hx hb dX3_ableFor_35 hl (k := 3) rfl (by rw [← ev8]; rfl) (by decide) rfl (fun ls hl => ?_)
          refine lv_goto (tgt := 4) hx hb dX3_ableFor_38 (by decide) ?_
          exact ih l1 v7 v8 _ (lv_sub hl [2, 3, 1, 0] rfl) hf
  have hl := lv_entry ([.ref (a 0), .int p1]) (n := 4) (Nat.le_of_ble_eq_true rfl)
  rw [lg_entry_eq]
  generalize (lg_sl ([.ref (a 0), .int p1]) ++ List.replicate (4 - (lg_sl ([.ref (a 0), .int p1])).length) Slot.unset).toArray = ls at hl ⊢
  have hl : lv_has ls 4 [(0, .ref (a 0)), (1, .int p1)] := hl
  unfold f_X3_ableFor at hf
  refine lv_iconst (v := 0) hx hb dX3_ableFor_0 (by decide) ?_
  refine lv_istore_n (lv' := [(2, .int 0), (0, .ref (a 0)), (1, .int p1)]) hx hb dX3_ableFor_1 rfl hl (by decide) rfl (fun ls hl => ?_)
  refine lv_iconst (v := 0) hx hb dX3_ableFor_2 (by decide) ?_
  refine lv_istore_n (lv' := [(3, .int 0), (2, .int 0), (0, .ref (a 0)), (1, .int p1)]) hx hb dX3_ableFor_3 rfl hl (by decide) rfl (fun ls hl => ?_)
  exact L_4 2000 p1 0 0 _ (lv_sub hl [2, 3, 1, 0] rfl) hf
def f_X3_tellsAbsence (S : MD) (p1 : Int32) (p2 : Int32) : Option Int32 := if 5 ≤ p2 then
 (if ¬ p2 = 5 then
 ((f_X3_ableFor S p1).bind fun r3 =>
 some r3)
 else ((f_X3_bids S p1).bind fun r4 =>
 some r4))
 else ((f_X3_ofA S p1 p2).bind fun r5 =>
 some r5)
abbrev rX3_tellsAbsence : Room := { frames := 7, cells := 0, slots := 0, locals := 157 }
set_option maxRecDepth 100000 in
set_option maxHeartbeats 4000000 in
theorem c_X3_tellsAbsence (l : Launch) (D : va_G) (cI cJ cS : ClassId) (a : Nat → Nat) (S : MD) (p1 : Int32) (p2 : Int32) (o : Int32) (hf : f_X3_tellsAbsence S p1 p2 = some o) : Met l yX3_tellsAbsence wsX3_tellsAbsence rX3_tellsAbsence (va_Pc [.ref (a 0), .int p1, .int p2] (q_B D cI cJ cS (wMD cI cJ a S))) (q_Ri o) 0 0 (fun _ => False) := by
  refine Met.ofW (cc := cX3_tellsAbsence) (maxL := 3) (ret := some .int) (by decide) rfl ?_
  intro p e s m args below meth c s₁ B hml hv
  obtain ⟨rfl, hP, hE⟩ := hv
  have hx := B.exec
  have hb := B.bytes
  have hr := B.returns
  have hts := atoms_spec (ws := wsX3_tellsAbsence) B.pre
  have hown : s.vm.findClass RX3 = some m.cls := findClass_of_methodNamed B.named
  have hlocks := B.notSynchronized
  have hl := lv_entry ([.ref (a 0), .int p1, .int p2]) (n := 3) (Nat.le_of_ble_eq_true rfl)
  rw [lg_entry_eq]
  generalize (lg_sl ([.ref (a 0), .int p1, .int p2]) ++ List.replicate (3 - (lg_sl ([.ref (a 0), .int p1, .int p2])).length) Slot.unset).toArray = ls at hl ⊢
  have hl : lv_has ls 3 [(0, .ref (a 0)), (1, .int p1), (2, .int p2)] := hl
  unfold f_X3_tellsAbsence at hf
  refine lv_iload_n hx hb dX3_tellsAbsence_0 rfl (lv_at hl 2 rfl) ?_
  refine lv_iconst (v := 5) hx hb dX3_tellsAbsence_1 (by decide) ?_
  refine lv_icmp_ge (tgt := 12) hx hb dX3_tellsAbsence_2 (by decide) (fun c1 => ?_) (fun c1 => ?_)
  · have hf := q_ite_t c1 hf
    refine lv_iload_n hx hb dX3_tellsAbsence_12 rfl (lv_at hl 2 rfl) ?_
    refine lv_iconst (v := 5) hx hb dX3_tellsAbsence_13 (by decide) ?_
    refine lv_icmp_ne (tgt := 25) hx hb dX3_tellsAbsence_14 (by decide) (fun c2 => ?_) (fun c2 => ?_)
    · have hf := q_ite_t c2 hf
      refine lv_aload_n hx hb dX3_tellsAbsence_25 rfl (lv_at hl 0 rfl) ?_
      refine lv_iload_n hx hb dX3_tellsAbsence_26 rfl (lv_at hl 1 rfl) ?_
      obtain ⟨r3, hr3, hf⟩ := q_bd_go hf
      refine q_rdVi (ci := 3) (As := [.int p1]) (rest := []) hx hb hml hown hts (c_X3_ableFor l D cI cJ cS a S p1 _ hr3) (cwV 1 hts gX3_tellsAbsence_X3_ableFor rfl rfl rfl (by decide +kernel) ⟨(Nat.le_of_ble_eq_true rfl), (Nat.le_of_ble_eq_true rfl)⟩) hE hP rfl rfl rfl hl.1 rfl (Nat.le_of_ble_eq_true rfl) dX3_tellsAbsence_27 ⟨Nat.zero_le _, Nat.zero_le _⟩ ?_
      have ho := q_some hf
      subst ho
      exact W.iret hx hb hr (fun t ht hW => ⟨rfl, ht⟩) t_nil dX3_tellsAbsence_30
    · have hf := q_ite_n c2 hf
      refine lv_aload_n hx hb dX3_tellsAbsence_17 rfl (lv_at hl 0 rfl) ?_
      refine lv_iload_n hx hb dX3_tellsAbsence_18 rfl (lv_at hl 1 rfl) ?_
      obtain ⟨r4, hr4, hf⟩ := q_bd_go hf
      refine q_rdVi (ci := 3) (As := [.int p1]) (rest := []) hx hb hml hown hts (c_X3_bids l D cI cJ cS a S p1 _ hr4) (cwV 1 hts gX3_tellsAbsence_X3_bids rfl rfl rfl (by decide +kernel) ⟨(Nat.le_of_ble_eq_true rfl), (Nat.le_of_ble_eq_true rfl)⟩) hE hP rfl rfl rfl hl.1 rfl (Nat.le_of_ble_eq_true rfl) dX3_tellsAbsence_19 ⟨Nat.zero_le _, Nat.zero_le _⟩ ?_
      refine lv_goto (tgt := 30) hx hb dX3_tellsAbsence_22 (by decide) ?_
      have ho := q_some hf
      subst ho
      exact W.iret hx hb hr (fun t ht hW => ⟨rfl, ht⟩) t_nil dX3_tellsAbsence_30
  · have hf := q_ite_f c1 hf
    refine lv_aload_n hx hb dX3_tellsAbsence_5 rfl (lv_at hl 0 rfl) ?_
    refine lv_iload_n hx hb dX3_tellsAbsence_6 rfl (lv_at hl 1 rfl) ?_
    refine lv_iload_n hx hb dX3_tellsAbsence_7 rfl (lv_at hl 2 rfl) ?_
    obtain ⟨r5, hr5, hf⟩ := q_bd_go hf
    refine q_rdVi (ci := 3) (As := [.int p1, .int p2]) (rest := []) hx hb hml hown hts (c_X3_ofA l D cI cJ cS a S p1 p2 _ hr5) (cwV 2 hts gX3_tellsAbsence_X3_ofA rfl rfl rfl (by decide +kernel) ⟨(Nat.le_of_ble_eq_true rfl), (Nat.le_of_ble_eq_true rfl)⟩) hE hP rfl rfl rfl hl.1 rfl (Nat.le_of_ble_eq_true rfl) dX3_tellsAbsence_8 ⟨Nat.zero_le _, Nat.zero_le _⟩ ?_
    have ho := q_some hf
    subst ho
    exact W.iret hx hb hr (fun t ht hW => ⟨rfl, ht⟩) t_nil dX3_tellsAbsence_11
def f_X3_absence_30 (Sz : MD) (l1 : Int32) (l2 : Int32) (t0 : Int32) : Option (Int32 × MD) := q_let (sMD_thrown Sz t0) fun S5 =>
 if ¬ (MD_thrown S5) = 0 then
 (some (0, S5))
 else ((f_X3_tellsAbsence S5 l1 l2).bind fun r7 =>
 some (r7, S5))
def f_X3_absence (S : MD) (p1 : Int32) (p2 : Int32) : Option (Int32 × MD) := (f_X3_isAbsence S p1).bind fun r1 =>
 if ¬ r1 = 0 then
 ((f_X3_isIn ((p2 : Int32).toInt64) 0 6).bind fun r3 =>
 if r3 = 0 then
 (f_X3_absence_30 S p1 p2 2)
 else (f_X3_absence_30 S p1 p2 0))
 else (f_X3_absence_30 S p1 p2 1)
abbrev rX3_absence : Room := { frames := 8, cells := 0, slots := 0, locals := 179 }
set_option maxRecDepth 100000 in
set_option maxHeartbeats 4000000 in
theorem c_X3_absence (l : Launch) (D : va_G) (cI cJ cS : ClassId) (a : Nat → Nat) (S : MD) (sz : Nat) (p1 : Int32) (p2 : Int32) (o : (Int32 × MD)) (hf : f_X3_absence S p1 p2 = some o) : Met l yX3_absence wsX3_absence rX3_absence (va_Pc [.ref (a 0), .int p1, .int p2] (q_BW D cI cJ cS (wMD cI cJ a S) sz)) (q_Wo (some (.int o.1)) D (wMD cI cJ a S) (wMD cI cJ a o.2) sz) 0 0 (va_A (wMD cI cJ a S) sz) := by
  refine Met.ofW (cc := cX3_absence) (maxL := 3) (ret := some .int) (by decide) rfl ?_
  intro p e s m args below meth c s₁ B hml hv
  obtain ⟨rfl, hsz, hP, hE, hD0⟩ := hv
  have hx := B.exec
  have hb := B.bytes
  have hr := B.returns
  have hts := atoms_spec (ws := wsX3_absence) B.pre
  have hown : s.vm.findClass RX3 = some m.cls := findClass_of_methodNamed B.named
  have hlocks := B.notSynchronized
  have hu : ∀ z ∈ wsX30, z.before _ s = true := fun z h => hts z (List.mem_cons_of_mem _ (List.mem_append_right _ h))
  subst hsz
  have hD := hD0.self (sz := s.heap.size)
  have hS : va_S (va_A (wMD cI cJ a S) s.heap.size) s.heap s.heap [] := va_S.rf
  have B_30 : ∀ (Sz : MD) (H : Heap) (locs : List Loc) (hP : va_P D vwCl (wMD cI cJ a Sz) H) (hD : va_D (va_A (wMD cI cJ a S) s.heap.size) (wMD cI cJ a Sz)) (hS : va_S (va_A (wMD cI cJ a S) s.heap.size) s.heap H locs) (l1 : Int32) (l2 : Int32) (t0 : Int32) (ls : Array Slot), lv_has ls 3 [(0, .ref (a 0)), (1, .int l1), (2, .int l2)] → f_X3_absence_30 Sz l1 l2 t0 = some o → W p l e (headSpec wsX3_absence rX3_absence).room s m (([.ref (a 0), .int p1, .int p2] : List Value).toArray) below meth c H locs 0 0 (MQ below (q_Wo (some (.int o.1)) D (wMD cI cJ a S) (wMD cI cJ a o.2) s.heap.size) (([.ref (a 0), .int p1, .int p2] : List Value).toArray) s 0 0 (va_A (wMD cI cJ a S) s.heap.size)) (F0 m 30 ls [.int t0, .ref (a 0)]) := by
    intro Sz H locs hP hD hS l1 l2 t0 ls hl hf
    unfold f_X3_absence_30 at hf
    obtain ⟨S5, eS5, hf⟩ := q_let_go hf
    refine va_put (D := D) (ci := 3) (v := .int t0) (ty := .int) (C := RX3) (T := TX3) (N := 15) hx hb hu (fun _ h => h) tyX3 tyX3_ok nmX3 hown hE.1 hP hD hS 0 rfl rfl 3 (Nat.le_of_ble_eq_true rfl) (hts (.fieldLink RX3 30 "CoverMeterModel" "thrown" "I") (List.mem_of_getElem? (i := 2) rfl)) (fun _ h9 => h9) rfl (by decide +kernel) rfl rfl (Nat.le_of_ble_eq_true rfl) dX3_absence_30 (fun H locs hP hD hS => ?_)
    have hP : va_P D vwCl (wMD cI cJ a (sMD_thrown Sz t0)) H := hP
    have hD : va_D (va_A (wMD cI cJ a S) s.heap.size) (wMD cI cJ a (sMD_thrown Sz t0)) := hD
    rw [eS5] at hP hD
    refine lv_aload_n hx hb dX3_absence_33 rfl (lv_at hl 0 rfl) ?_
    refine va_get (D := D) (ci := 3) (v := .int (MD_thrown S5)) (C := RX3) (T := TX3) (N := 15) hx hb hu (fun _ h => h) hown hE.1 hP 0 rfl rfl 3 (Nat.le_of_ble_eq_true rfl) (hts (.fieldLink RX3 30 "CoverMeterModel" "thrown" "I") (List.mem_of_getElem? (i := 2) rfl)) (fun _ h9 => h9) rfl dX3_absence_34 ?_
    refine lv_if_ne (tgt := 49) hx hb dX3_absence_37 (by decide) (fun c6 => ?_) (fun c6 => ?_)
    · have hf := q_ite_t c6 hf
      refine lv_iconst (v := 0) hx hb dX3_absence_49 (by decide) ?_
      have ho := q_some hf
      subst ho
      exact W.iret hx hb hr (fun t ht hW => ⟨rfl, ⟨by rw [ht]; exact hP, hD⟩, hS.F ht⟩) hS.2.2 dX3_absence_50
    · have hf := q_ite_n c6 hf
      refine lv_aload_n hx hb dX3_absence_40 rfl (lv_at hl 0 rfl) ?_
      refine lv_iload_n hx hb dX3_absence_41 rfl (lv_at hl 1 rfl) ?_
      refine lv_iload_n hx hb dX3_absence_42 rfl (lv_at hl 2 rfl) ?_
      obtain ⟨r7, hr7, hf⟩ := q_bd_go hf
      refine q_rdVi (ci := 3) (As := [.int l1, .int l2]) (rest := []) hx hb hml hown hts (c_X3_tellsAbsence l D cI cJ cS a S5 l1 l2 _ hr7) (cwV 2 hts gX3_absence_X3_tellsAbsence rfl rfl rfl (by decide +kernel) ⟨(Nat.le_of_ble_eq_true rfl), (Nat.le_of_ble_eq_true rfl)⟩) hE hP rfl rfl rfl hl.1 rfl (Nat.le_of_ble_eq_true rfl) dX3_absence_43 ⟨Nat.zero_le _, Nat.zero_le _⟩ ?_
      refine lv_goto (tgt := 50) hx hb dX3_absence_46 (by decide) ?_
      have ho := q_some hf
      subst ho
      exact W.iret hx hb hr (fun t ht hW => ⟨rfl, ⟨by rw [ht]; exact hP, hD⟩, hS.F ht⟩) hS.2.2 dX3_absence_50
  have hl := lv_entry ([.ref (a 0), .int p1, .int p2]) (n := 3) (Nat.le_of_ble_eq_true rfl)
  rw [lg_entry_eq]
  generalize (lg_sl ([.ref (a 0), .int p1, .int p2]) ++ List.replicate (3 - (lg_sl ([.ref (a 0), .int p1, .int p2])).length) Slot.unset).toArray = ls at hl ⊢
  have hl : lv_has ls 3 [(0, .ref (a 0)), (1, .int p1), (2, .int p2)] := hl
  unfold f_X3_absence at hf
  refine lv_aload_n hx hb dX3_absence_0 rfl (lv_at hl 0 rfl) ?_
  refine lv_aload_n hx hb dX3_absence_1 rfl (lv_at hl 0 rfl) ?_
  refine lv_iload_n hx hb dX3_absence_2 rfl (lv_at hl 1 rfl) ?_
  obtain ⟨r1, hr1, hf⟩ := q_bd_go hf
  refine q_rdVi (ci := 3) (As := [.int p1]) (rest := [.ref (a 0)]) hx hb hml hown hts (c_X3_isAbsence l D cI cJ cS a S p1 _ hr1) (cwV 1 hts gX3_absence_X3_isAbsence rfl rfl rfl (by decide +kernel) ⟨(Nat.le_of_ble_eq_true rfl), (Nat.le_of_ble_eq_true rfl)⟩) hE hP rfl rfl rfl hl.1 rfl (Nat.le_of_ble_eq_true rfl) dX3_absence_3 ⟨Nat.zero_le _, Nat.zero_le _⟩ ?_
  refine lv_if_ne (tgt := 13) hx hb dX3_absence_6 (by decide) (fun c2 => ?_) (fun c2 => ?_)
  · have hf := q_ite_t c2 hf
    refine lv_iload_n hx hb dX3_absence_13 rfl (lv_at hl 2 rfl) ?_
    refine lv_i2l (v := ((p2 : Int32).toInt64)) hx hb dX3_absence_14 rfl ?_
    refine lv_lconst (v := 0) hx hb dX3_absence_15 (by decide) ?_
    refine lv_ldc2 (v := 6) hx hb hown (hts (.constantLong RX3 158 (6)) (List.mem_of_getElem? (i := 1) rfl)) dX3_absence_16 ?_
    obtain ⟨r3, hr3, hf⟩ := q_bd_go hf
    refine q_rdSi (As := [.long ((p2 : Int32).toInt64), .long 0, .long 6]) (rest := [.ref (a 0)]) hx hb hml hown hts (c_X3_isIn l D cI cJ cS ((p2 : Int32).toInt64) 0 6 _ hr3) (va_cwS 3 hts gX3_absence_X3_isIn rfl rfl rfl (by decide +kernel) ⟨(Nat.le_of_ble_eq_true rfl), (Nat.le_of_ble_eq_true rfl)⟩) hE rfl hl.1 rfl (Nat.le_of_ble_eq_true rfl) dX3_absence_19 ⟨Nat.zero_le _, Nat.zero_le _⟩ ?_
    refine lv_if_eq (tgt := 29) hx hb dX3_absence_22 (by decide) (fun c4 => ?_) (fun c4 => ?_)
    · have hf := q_ite_t c4 hf
      refine lv_iconst (v := 2) hx hb dX3_absence_29 (by decide) ?_
      exact B_30 S _ _ hP hD hS p1 p2 2 _ (lv_sub hl [0, 1, 2] rfl) hf
    · have hf := q_ite_f c4 hf
      refine lv_iconst (v := 0) hx hb dX3_absence_25 (by decide) ?_
      refine lv_goto (tgt := 30) hx hb dX3_absence_26 (by decide) ?_
      exact B_30 S _ _ hP hD hS p1 p2 0 _ (lv_sub hl [0, 1, 2] rfl) hf
  · have hf := q_ite_n c2 hf
    refine lv_iconst (v := 1) hx hb dX3_absence_9 (by decide) ?_
    refine lv_goto (tgt := 30) hx hb dX3_absence_10 (by decide) ?_
    exact B_30 S _ _ hP hD hS p1 p2 1 _ (lv_sub hl [0, 1, 2] rfl) hf
