def f_X3_nextTurn_4 (S : MD) : Nat → Int32 → Int32 → Int32 → Option Int32
  | 0, _, _, _ => none
  | n+1, l1, l2, l3 => if q_in 3 420 = true then
 (if 0 ≤ (lg_cmp ((l3 : Int32).toInt64) (MD_now S (3 : Int32).toNatClampNeg)) then
 (some l2)
 else ((f_X3_whyNotFor S l3 l1).bind fun r3 =>
 if ¬ r3 = 0 then
 (q_let (l3 + 1) fun v5 =>
 f_X3_nextTurn_4 S n l1 l2 v5)
 else (if l2 = (-1) then
 (q_let (l3 + 1) fun v7 =>
 f_X3_nextTurn_4 S n l1 l3 v7)
 else ((f_X3_ofP S l3 2).bind fun r8 =>
 (f_X3_ofP S l2 2).bind fun r9 =>
 (f_X3_isAhead S l3 r8 l2 r9).bind fun r10 =>
 if r10 = 0 then
 (q_let (l3 + 1) fun v12 =>
 f_X3_nextTurn_4 S n l1 l2 v12)
 else (q_let (l3 + 1) fun v13 =>
 f_X3_nextTurn_4 S n l1 l3 v13))))) else none
def f_X3_nextTurn (S : MD) (p1 : Int32) : Option Int32 := f_X3_nextTurn_4 S 2000 p1 (-1) 0
abbrev rX3_nextTurn : Room := { frames := 6, cells := 0, slots := 0, locals := 134 }
set_option maxRecDepth 100000 in
set_option maxHeartbeats 4000000 in
theorem c_X3_nextTurn (l : Launch) (D : va_G) (cI cJ cS : ClassId) (a : Nat → Nat) (S : MD) (p1 : Int32) (o : Int32) (hf : f_X3_nextTurn S p1 = some o) : Met l yX3_nextTurn wsX3_nextTurn rX3_nextTurn (va_Pc [.ref (a 0), .int p1] (q_B D cI cJ cS (wMD cI cJ a S))) (q_Ri o) 0 0 (fun _ => False) := by
  refine Met.ofW (cc := cX3_nextTurn) (maxL := 4) (ret := some .int) (by decide) rfl ?_
  intro p e s m args below meth c s₁ B hml hv
  obtain ⟨rfl, hP, hE⟩ := hv
  have hx := B.exec
  have hb := B.bytes
  have hr := B.returns
  have hts := atoms_spec (ws := wsX3_nextTurn) B.pre
  have hown : s.vm.findClass RX3 = some m.cls := findClass_of_methodNamed B.named
  have hlocks := B.notSynchronized
  have hu : ∀ z ∈ wsX30, z.before _ s = true := fun z h => hts z (List.mem_cons_of_mem _ (List.mem_append_right _ h))
  have L_4 : ∀ (n : Nat) (l1 : Int32) (l2 : Int32) (l3 : Int32) (ls : Array Slot), lv_has ls 4 [(0, .ref (a 0)), (1, .int l1), (2, .int l2), (3, .int l3)] → f_X3_nextTurn_4 S n l1 l2 l3 = some o → W p l e (headSpec wsX3_nextTurn rX3_nextTurn).room s m (([.ref (a 0), .int p1] : List Value).toArray) below meth c s.heap [] 0 0 (MQ below (q_Ri o) (([.ref (a 0), .int p1] : List Value).toArray) s 0 0 (fun _ => False)) (F0 m 4 ls []) := by
    intro n
    induction n with
    | zero => intro l1 l2 l3 ls hl hf; cases hf
    | succ n ih =>
      intro l1 l2 l3 ls hl hf
      rw [f_X3_nextTurn_4] at hf
      refine lv_iload_n hx hb dX3_nextTurn_4 rfl (lv_at hl 3 rfl) ?_
      refine lv_i2l (v := ((l3 : Int32).toInt64)) hx hb dX3_nextTurn_5 rfl ?_
      refine lv_aload_n hx hb dX3_nextTurn_6 rfl (lv_at hl 0 rfl) ?_
      refine va_get (D := D) (ci := 3) (v := .ref (a 1)) (C := RX3) (T := TX3) (N := 15) hx hb hu (fun _ h => h) hown hE.1 hP 0 rfl rfl 0 (Nat.le_of_ble_eq_true rfl) (hts (.fieldLink RX3 7 "CoverMeterModel" "now" "[J") (List.mem_of_getElem? (i := 1) rfl)) (fun _ h9 => h9) rfl dX3_nextTurn_7 ?_
      refine lv_iconst (v := 3) hx hb dX3_nextTurn_10 (by decide) ?_
      have hi1 := q_gd_in hf
      have hf := q_gd_go hf
      refine va_lald hx hb hE.1 hP 1 1 rfl rfl hi1 dX3_nextTurn_11 ?_
      refine W.lcmp hx hb dX3_nextTurn_12 ?_
      refine lv_if_ge (tgt := 59) hx hb dX3_nextTurn_13 (by decide) (fun c2 => ?_) (fun c2 => ?_)
      · have hf := q_ite_t c2 hf
        refine lv_iload_n hx hb dX3_nextTurn_59 rfl (lv_at hl 2 rfl) ?_
        have ho := q_some hf
        subst ho
        exact W.iret hx hb hr (fun t ht hW => ⟨rfl, ht⟩) t_nil dX3_nextTurn_60
      · have hf := q_ite_f c2 hf
        refine lv_aload_n hx hb dX3_nextTurn_16 rfl (lv_at hl 0 rfl) ?_
        refine lv_iload_n hx hb dX3_nextTurn_17 rfl (lv_at hl 3 rfl) ?_
        refine lv_iload_n hx hb dX3_nextTurn_18 rfl (lv_at hl 1 rfl) ?_
        obtain ⟨r3, hr3, hf⟩ := q_bd_go hf
        refine q_rdVi (ci := 3) (As := [.int l3, .int l1]) (rest := []) hx hb hml hown hts (c_X3_whyNotFor l D cI cJ cS a S l3 l1 _ hr3) (cwV 2 hts gX3_nextTurn_X3_whyNotFor rfl rfl rfl (by decide +kernel) ⟨(Nat.le_of_ble_eq_true rfl), (Nat.le_of_ble_eq_true rfl)⟩) hE hP rfl rfl rfl hl.1 rfl (Nat.le_of_ble_eq_true rfl) dX3_nextTurn_19 ⟨Nat.zero_le _, Nat.zero_le _⟩ ?_
        refine lv_if_ne (tgt := 53) hx hb dX3_nextTurn_22 (by decide) (fun c4 => ?_) (fun c4 => ?_)
        · have hf := q_ite_t c4 hf
          obtain ⟨v5, ev5, hf⟩ := q_let_go hf
          refine lv_iinc (v := v5) (lv' := [(3, .int v5), (0, .ref (a 0)), (1, .int l1), (2, .int l2)]) hx hb dX3_nextTurn_53 hl (k := 3) rfl (by rw [← ev5]; rfl) (by decide) rfl (fun ls hl => ?_)
          refine lv_goto (tgt := 4) hx hb dX3_nextTurn_56 (by decide) ?_
          exact ih l1 l2 v5 _ (lv_sub hl [1, 2, 3, 0] rfl) hf
        · have hf := q_ite_n c4 hf
          refine lv_iload_n hx hb dX3_nextTurn_25 rfl (lv_at hl 2 rfl) ?_
          refine lv_iconst (v := (-1)) hx hb dX3_nextTurn_26 (by decide) ?_
          refine lv_icmp_eq (tgt := 51) hx hb dX3_nextTurn_27 (by decide) (fun c6 => ?_) (fun c6 => ?_)
          · have hf := q_ite_t c6 hf
            refine lv_iload_n hx hb dX3_nextTurn_51 rfl (lv_at hl 3 rfl) ?_
            refine lv_istore_n (lv' := [(2, .int l3), (0, .ref (a 0)), (1, .int l1), (3, .int l3)]) hx hb dX3_nextTurn_52 rfl hl (by decide) rfl (fun ls hl => ?_)
            obtain ⟨v7, ev7, hf⟩ := q_let_go hf
            refine lv_iinc (v := v7) (lv' := [(3, .int v7), (2, .int l3), (0, .ref (a 0)), (1, .int l1)]) hx hb dX3_nextTurn_53 hl (k := 3) rfl (by rw [← ev7]; rfl) (by decide) rfl (fun ls hl => ?_)
            refine lv_goto (tgt := 4) hx hb dX3_nextTurn_56 (by decide) ?_
            exact ih l1 l3 v7 _ (lv_sub hl [2, 3, 1, 0] rfl) hf
          · have hf := q_ite_f c6 hf
            refine lv_aload_n hx hb dX3_nextTurn_30 rfl (lv_at hl 0 rfl) ?_
            refine lv_iload_n hx hb dX3_nextTurn_31 rfl (lv_at hl 3 rfl) ?_
            refine lv_aload_n hx hb dX3_nextTurn_32 rfl (lv_at hl 0 rfl) ?_
            refine lv_iload_n hx hb dX3_nextTurn_33 rfl (lv_at hl 3 rfl) ?_
            refine lv_iconst (v := 2) hx hb dX3_nextTurn_34 (by decide) ?_
            obtain ⟨r8, hr8, hf⟩ := q_bd_go hf
            refine q_rdVl (ci := 3) (As := [.int l3, .int 2]) (rest := [.int l3, .ref (a 0)]) hx hb hml hown hts (c_X3_ofP l D cI cJ cS a S l3 2 _ hr8) (cwV 2 hts gX3_nextTurn_X3_ofP rfl rfl rfl (by decide +kernel) ⟨(Nat.le_of_ble_eq_true rfl), (Nat.le_of_ble_eq_true rfl)⟩) hE hP rfl rfl rfl hl.1 rfl (Nat.le_of_ble_eq_true rfl) dX3_nextTurn_35 ⟨Nat.zero_le _, Nat.zero_le _⟩ ?_
            refine lv_iload_n hx hb dX3_nextTurn_38 rfl (lv_at hl 2 rfl) ?_
            refine lv_aload_n hx hb dX3_nextTurn_39 rfl (lv_at hl 0 rfl) ?_
            refine lv_iload_n hx hb dX3_nextTurn_40 rfl (lv_at hl 2 rfl) ?_
            refine lv_iconst (v := 2) hx hb dX3_nextTurn_41 (by decide) ?_
            obtain ⟨r9, hr9, hf⟩ := q_bd_go hf
            refine q_rdVl (ci := 3) (As := [.int l2, .int 2]) (rest := [.int l2, .long r8, .int l3, .ref (a 0)]) hx hb hml hown hts (c_X3_ofP l D cI cJ cS a S l2 2 _ hr9) (cwV 2 hts gX3_nextTurn_X3_ofP rfl rfl rfl (by decide +kernel) ⟨(Nat.le_of_ble_eq_true rfl), (Nat.le_of_ble_eq_true rfl)⟩) hE hP rfl rfl rfl hl.1 rfl (Nat.le_of_ble_eq_true rfl) dX3_nextTurn_42 ⟨Nat.zero_le _, Nat.zero_le _⟩ ?_
            obtain ⟨r10, hr10, hf⟩ := q_bd_go hf
            refine q_rdVi (ci := 3) (As := [.int l3, .long r8, .int l2, .long r9]) (rest := []) hx hb hml hown hts (c_X3_isAhead l D cI cJ cS a S l3 r8 l2 r9 _ hr10) (cwV 4 hts gX3_nextTurn_X3_isAhead rfl rfl rfl (by decide +kernel) ⟨(Nat.le_of_ble_eq_true rfl), (Nat.le_of_ble_eq_true rfl)⟩) hE hP rfl rfl rfl hl.1 rfl (Nat.le_of_ble_eq_true rfl) dX3_nextTurn_45 ⟨Nat.zero_le _, Nat.zero_le _⟩ ?_
            refine lv_if_eq (tgt := 53) hx hb dX3_nextTurn_48 (by decide) (fun c11 => ?_) (fun c11 => ?_)
            · have hf := q_ite_t c11 hf
              obtain ⟨v12, ev12, hf⟩ := q_let_go hf
              refine lv_iinc (v := v12) (lv' := [(3, .int v12), (0, .ref (a 0)), (1, .int l1), (2, .int l2)]) hx hb dX3_nextTurn_53 hl (k := 3) rfl (by rw [← ev12]; rfl) (by decide) rfl (fun ls hl => ?_)
              refine lv_goto (tgt := 4) hx hb dX3_nextTurn_56 (by decide) ?_
              exact ih l1 l2 v12 _ (lv_sub hl [1, 2, 3, 0] rfl) hf
            · have hf := q_ite_f c11 hf
              refine lv_iload_n hx hb dX3_nextTurn_51 rfl (lv_at hl 3 rfl) ?_
              refine lv_istore_n (lv' := [(2, .int l3), (0, .ref (a 0)), (1, .int l1), (3, .int l3)]) hx hb dX3_nextTurn_52 rfl hl (by decide) rfl (fun ls hl => ?_)
              obtain ⟨v13, ev13, hf⟩ := q_let_go hf
              refine lv_iinc (v := v13) (lv' := [(3, .int v13), (2, .int l3), (0, .ref (a 0)), (1, .int l1)]) hx hb dX3_nextTurn_53 hl (k := 3) rfl (by rw [← ev13]; rfl) (by decide) rfl (fun ls hl => ?_)
              refine lv_goto (tgt := 4) hx hb dX3_nextTurn_56 (by decide) ?_
              exact ih l1 l3 v13 _ (lv_sub hl [2, 3, 1, 0] rfl) hf
  have hl := lv_entry ([.ref (a 0), .int p1]) (n := 4) (Nat.le_of_ble_eq_true rfl)
  rw [lg_entry_eq]
  generalize (lg_sl ([.ref (a 0), .int p1]) ++ List.replicate (4 - (lg_sl ([.ref (a 0), .int p1])).length) Slot.unset).toArray = ls at hl ⊢
  have hl : lv_has ls 4 [(0, .ref (a 0)), (1, .int p1)] := hl
  unfold f_X3_nextTurn at hf
  refine lv_iconst (v := (-1)) hx hb dX3_nextTurn_0 (by decide) ?_
  refine lv_istore_n (lv' := [(2, .int (-1)), (0, .ref (a 0)), (1, .int p1)]) hx hb dX3_nextTurn_1 rfl hl (by decide) rfl (fun ls hl => ?_)
  refine lv_iconst (v := 0) hx hb dX3_nextTurn_2 (by decide) ?_
  refine lv_istore_n (lv' := [(3, .int 0), (2, .int (-1)), (0, .ref (a 0)), (1, .int p1)]) hx hb dX3_nextTurn_3 rfl hl (by decide) rfl (fun ls hl => ?_)
  exact L_4 2000 p1 (-1) 0 _ (lv_sub hl [2, 3, 1, 0] rfl) hf
def f_X3_covererOf (S : MD) (p1 : Int32) : Option Int32 := (f_X3_ofA S p1 2).bind fun r1 =>
 if r1 = 0 then
 ((f_X3_bestBidder S p1).bind fun r3 =>
 if r3 = (-1) then
 ((f_X3_nextTurn S p1).bind fun r5 =>
 some r5)
 else (some r3))
 else (some (-1))
abbrev rX3_covererOf : Room := { frames := 7, cells := 0, slots := 0, locals := 158 }
set_option maxRecDepth 100000 in
set_option maxHeartbeats 4000000 in
theorem c_X3_covererOf (l : Launch) (D : va_G) (cI cJ cS : ClassId) (a : Nat → Nat) (S : MD) (p1 : Int32) (o : Int32) (hf : f_X3_covererOf S p1 = some o) : Met l yX3_covererOf wsX3_covererOf rX3_covererOf (va_Pc [.ref (a 0), .int p1] (q_B D cI cJ cS (wMD cI cJ a S))) (q_Ri o) 0 0 (fun _ => False) := by
  refine Met.ofW (cc := cX3_covererOf) (maxL := 3) (ret := some .int) (by decide) rfl ?_
  intro p e s m args below meth c s₁ B hml hv
  obtain ⟨rfl, hP, hE⟩ := hv
  have hx := B.exec
  have hb := B.bytes
  have hr := B.returns
  have hts := atoms_spec (ws := wsX3_covererOf) B.pre
  have hown : s.vm.findClass RX3 = some m.cls := findClass_of_methodNamed B.named
  have hlocks := B.notSynchronized
  have hl := lv_entry ([.ref (a 0), .int p1]) (n := 3) (Nat.le_of_ble_eq_true rfl)
  rw [lg_entry_eq]
  generalize (lg_sl ([.ref (a 0), .int p1]) ++ List.replicate (3 - (lg_sl ([.ref (a 0), .int p1])).length) Slot.unset).toArray = ls at hl ⊢
  have hl : lv_has ls 3 [(0, .ref (a 0)), (1, .int p1)] := hl
  unfold f_X3_covererOf at hf
  refine lv_aload_n hx hb dX3_covererOf_0 rfl (lv_at hl 0 rfl) ?_
  refine lv_iload_n hx hb dX3_covererOf_1 rfl (lv_at hl 1 rfl) ?_
  refine lv_iconst (v := 2) hx hb dX3_covererOf_2 (by decide) ?_
  obtain ⟨r1, hr1, hf⟩ := q_bd_go hf
  refine q_rdVi (ci := 3) (As := [.int p1, .int 2]) (rest := []) hx hb hml hown hts (c_X3_ofA l D cI cJ cS a S p1 2 _ hr1) (cwV 2 hts gX3_covererOf_X3_ofA rfl rfl rfl (by decide +kernel) ⟨(Nat.le_of_ble_eq_true rfl), (Nat.le_of_ble_eq_true rfl)⟩) hE hP rfl rfl rfl hl.1 rfl (Nat.le_of_ble_eq_true rfl) dX3_covererOf_3 ⟨Nat.zero_le _, Nat.zero_le _⟩ ?_
  refine lv_if_eq (tgt := 11) hx hb dX3_covererOf_6 (by decide) (fun c2 => ?_) (fun c2 => ?_)
  · have hf := q_ite_t c2 hf
    refine lv_aload_n hx hb dX3_covererOf_11 rfl (lv_at hl 0 rfl) ?_
    refine lv_iload_n hx hb dX3_covererOf_12 rfl (lv_at hl 1 rfl) ?_
    obtain ⟨r3, hr3, hf⟩ := q_bd_go hf
    refine q_rdVi (ci := 3) (As := [.int p1]) (rest := []) hx hb hml hown hts (c_X3_bestBidder l D cI cJ cS a S p1 _ hr3) (cwV 1 hts gX3_covererOf_X3_bestBidder rfl rfl rfl (by decide +kernel) ⟨(Nat.le_of_ble_eq_true rfl), (Nat.le_of_ble_eq_true rfl)⟩) hE hP rfl rfl rfl hl.1 rfl (Nat.le_of_ble_eq_true rfl) dX3_covererOf_13 ⟨Nat.zero_le _, Nat.zero_le _⟩ ?_
    refine lv_istore_n (lv' := [(2, .int r3), (0, .ref (a 0)), (1, .int p1)]) hx hb dX3_covererOf_16 rfl hl (by decide) rfl (fun ls hl => ?_)
    refine lv_iload_n hx hb dX3_covererOf_17 rfl (lv_at hl 0 rfl) ?_
    refine lv_iconst (v := (-1)) hx hb dX3_covererOf_18 (by decide) ?_
    refine lv_icmp_eq (tgt := 26) hx hb dX3_covererOf_19 (by decide) (fun c4 => ?_) (fun c4 => ?_)
    · have hf := q_ite_t c4 hf
      refine lv_aload_n hx hb dX3_covererOf_26 rfl (lv_at hl 1 rfl) ?_
      refine lv_iload_n hx hb dX3_covererOf_27 rfl (lv_at hl 2 rfl) ?_
      obtain ⟨r5, hr5, hf⟩ := q_bd_go hf
      refine q_rdVi (ci := 3) (As := [.int p1]) (rest := []) hx hb hml hown hts (c_X3_nextTurn l D cI cJ cS a S p1 _ hr5) (cwV 1 hts gX3_covererOf_X3_nextTurn rfl rfl rfl (by decide +kernel) ⟨(Nat.le_of_ble_eq_true rfl), (Nat.le_of_ble_eq_true rfl)⟩) hE hP rfl rfl rfl hl.1 rfl (Nat.le_of_ble_eq_true rfl) dX3_covererOf_28 ⟨Nat.zero_le _, Nat.zero_le _⟩ ?_
      have ho := q_some hf
      subst ho
      exact W.iret hx hb hr (fun t ht hW => ⟨rfl, ht⟩) t_nil dX3_covererOf_31
    · have hf := q_ite_f c4 hf
      refine lv_iload_n hx hb dX3_covererOf_22 rfl (lv_at hl 0 rfl) ?_
      refine lv_goto (tgt := 31) hx hb dX3_covererOf_23 (by decide) ?_
      have ho := q_some hf
      subst ho
      exact W.iret hx hb hr (fun t ht hW => ⟨rfl, ht⟩) t_nil dX3_covererOf_31
  · have hf := q_ite_f c2 hf
    refine lv_iconst (v := (-1)) hx hb dX3_covererOf_9 (by decide) ?_
    have ho := q_some hf
    subst ho
    exact W.iret hx hb hr (fun t ht hW => ⟨rfl, ht⟩) t_nil dX3_covererOf_10
def f_X3_covers_64 (Sz : MD) (l1 : Int32) (l2 : Int32) (l3 : Int32) (l4 : Int32) (t0 : Int32) (t1 : Int32) (t2 : Int32) : Option (Int32 × MD) := (f_X3_becomes Sz t2 t1 t0).bind fun r9 =>
 (f_X3_becomes r9 l1 3 l2).bind fun r10 =>
 (f_X3_becomes r10 l1 4 l4).bind fun r11 =>
 (f_X3_clearsBids r11 l1).bind fun r12 =>
 if q_in ((6 + (3 * l2)) + 1) 420 = true then
 (if q_in ((6 + (3 * l2)) + 1) 420 = true then
 (q_let (sMD_now r12 (vp_updL (MD_now r12) (((6 + (3 * l2)) + 1) : Int32).toNatClampNeg ((MD_now r12 (((6 + (3 * l2)) + 1) : Int32).toNatClampNeg) + ((l4 : Int32).toInt64)))) fun S15 =>
 (f_X3_ofA S15 l1 0).bind fun r16 =>
 if q_in ((6 + (3 * r16)) + 1) 420 = true then
 (if q_in ((6 + (3 * r16)) + 1) 420 = true then
 (q_let (sMD_now S15 (vp_updL (MD_now S15) (((6 + (3 * r16)) + 1) : Int32).toNatClampNeg ((MD_now S15 (((6 + (3 * r16)) + 1) : Int32).toNatClampNeg) - ((l4 : Int32).toInt64)))) fun S19 =>
 if q_in ((6 + (3 * l2)) + 2) 420 = true then
 (if l3 = 0 then
 (if q_in ((6 + (3 * l2)) + 2) 420 = true then
 (q_let (sMD_now S19 (vp_updL (MD_now S19) (((6 + (3 * l2)) + 2) : Int32).toNatClampNeg ((MD_now S19 (((6 + (3 * l2)) + 2) : Int32).toNatClampNeg) + 1))) fun S23 =>
 some (l2, S23)) else none)
 else (if q_in ((6 + (3 * l2)) + 2) 420 = true then
 (q_let (sMD_now S19 (vp_updL (MD_now S19) (((6 + (3 * l2)) + 2) : Int32).toNatClampNeg ((MD_now S19 (((6 + (3 * l2)) + 2) : Int32).toNatClampNeg) + 0))) fun S25 =>
 some (l2, S25)) else none)) else none) else none) else none) else none) else none
def f_X3_covers_27 (Sz : MD) (l1 : Int32) (l2 : Int32) (t0 : Int32) : Option (Int32 × MD) := if t0 = 0 then
 (if q_in 1 420 = true then
 (q_let ((((MD_now Sz (1 : Int32).toNatClampNeg) : Int64).toInt32)) fun v7 =>
 if t0 = 0 then
 (f_X3_covers_64 Sz l1 l2 t0 v7 2 2 l1)
 else (f_X3_covers_64 Sz l1 l2 t0 v7 1 2 l1)) else none)
 else ((f_X3_ofA Sz l1 (5 + l2)).bind fun r26 =>
 if t0 = 0 then
 (f_X3_covers_64 Sz l1 l2 t0 r26 2 2 l1)
 else (f_X3_covers_64 Sz l1 l2 t0 r26 1 2 l1))
def f_X3_covers (S : MD) (p1 : Int32) : Option (Int32 × MD) := (f_X3_covererOf S p1).bind fun r1 =>
 if ¬ r1 = (-1) then
 ((f_X3_bestBidder S p1).bind fun r3 =>
 if r3 = (-1) then
 (f_X3_covers_27 S p1 r1 0)
 else (f_X3_covers_27 S p1 r1 1))
 else (some ((-1), S))
abbrev rX3_covers : Room := { frames := 8, cells := 0, slots := 0, locals := 180 }
set_option maxRecDepth 100000 in
set_option maxHeartbeats 4000000 in
theorem c_X3_covers (l : Launch) (D : va_G) (cI cJ cS : ClassId) (a : Nat → Nat) (S : MD) (sz : Nat) (p1 : Int32) (o : (Int32 × MD)) (hf : f_X3_covers S p1 = some o) : Met l yX3_covers wsX3_covers rX3_covers (va_Pc [.ref (a 0), .int p1] (q_BW D cI cJ cS (wMD cI cJ a S) sz)) (q_Wo (some (.int o.1)) D (wMD cI cJ a S) (wMD cI cJ a o.2) sz) 0 0 (va_A (wMD cI cJ a S) sz) := by
  refine Met.ofW (cc := cX3_covers) (maxL := 5) (ret := some .int) (by decide) rfl ?_
  intro p e s m args below meth c s₁ B hml hv
  obtain ⟨rfl, hsz, hP, hE, hD0⟩ := hv
  have hx := B.exec
  have hb := B.bytes
  have hr := B.returns
  have hts := atoms_spec (ws := wsX3_covers) B.pre
  have hown : s.vm.findClass RX3 = some m.cls := findClass_of_methodNamed B.named
  have hlocks := B.notSynchronized
  have hu : ∀ z ∈ wsX30, z.before _ s = true := fun z h => hts z (List.mem_cons_of_mem _ (List.mem_append_right _ h))
  subst hsz
  have hD := hD0.self (sz := s.heap.size)
  have hS : va_S (va_A (wMD cI cJ a S) s.heap.size) s.heap s.heap [] := va_S.rf
  have B_64 : ∀ (Sz : MD) (H : Heap) (locs : List Loc) (hP : va_P D vwCl (wMD cI cJ a Sz) H) (hD : va_D (va_A (wMD cI cJ a S) s.heap.size) (wMD cI cJ a Sz)) (hS : va_S (va_A (wMD cI cJ a S) s.heap.size) s.heap H locs) (l1 : Int32) (l2 : Int32) (l3 : Int32) (l4 : Int32) (t0 : Int32) (t1 : Int32) (t2 : Int32) (ls : Array Slot), lv_has ls 5 [(0, .ref (a 0)), (1, .int l1), (2, .int l2), (3, .int l3), (4, .int l4)] → f_X3_covers_64 Sz l1 l2 l3 l4 t0 t1 t2 = some o → W p l e (headSpec wsX3_covers rX3_covers).room s m (([.ref (a 0), .int p1] : List Value).toArray) below meth c H locs 0 0 (MQ below (q_Wo (some (.int o.1)) D (wMD cI cJ a S) (wMD cI cJ a o.2) s.heap.size) (([.ref (a 0), .int p1] : List Value).toArray) s 0 0 (va_A (wMD cI cJ a S) s.heap.size)) (F0 m 64 ls [.int t0, .int t1, .int t2, .ref (a 0)]) := by
    intro Sz H locs hP hD hS l1 l2 l3 l4 t0 t1 t2 ls hl hf
    unfold f_X3_covers_64 at hf
    obtain ⟨r9, hr9, hf⟩ := q_bd_go hf
    refine q_wrVv (ci := 3) (As := [.int t2, .int t1, .int t0]) (rest := []) hx hb hml hown hts (c_X3_becomes l D cI cJ cS a Sz _ t2 t1 t0 _ hr9) (cwV 3 hts gX3_covers_X3_becomes rfl rfl rfl (by decide +kernel) ⟨(Nat.le_of_ble_eq_true rfl), (Nat.le_of_ble_eq_true rfl)⟩) hE hP hD hS (fun q h => Or.inr h) rfl rfl rfl hl.1 rfl (Nat.le_of_ble_eq_true rfl) dX3_covers_64 ⟨Nat.zero_le _, Nat.zero_le _⟩ (fun H locs hP hD hS => ?_)
    refine lv_aload_n hx hb dX3_covers_67 rfl (lv_at hl 0 rfl) ?_
    refine lv_iload_n hx hb dX3_covers_68 rfl (lv_at hl 1 rfl) ?_
    refine lv_iconst (v := 3) hx hb dX3_covers_69 (by decide) ?_
    refine lv_iload_n hx hb dX3_covers_70 rfl (lv_at hl 2 rfl) ?_
    obtain ⟨r10, hr10, hf⟩ := q_bd_go hf
    refine q_wrVv (ci := 3) (As := [.int l1, .int 3, .int l2]) (rest := []) hx hb hml hown hts (c_X3_becomes l D cI cJ cS a r9 _ l1 3 l2 _ hr10) (cwV 3 hts gX3_covers_X3_becomes rfl rfl rfl (by decide +kernel) ⟨(Nat.le_of_ble_eq_true rfl), (Nat.le_of_ble_eq_true rfl)⟩) hE hP hD hS (fun q h => Or.inr h) rfl rfl rfl hl.1 rfl (Nat.le_of_ble_eq_true rfl) dX3_covers_71 ⟨Nat.zero_le _, Nat.zero_le _⟩ (fun H locs hP hD hS => ?_)
    refine lv_aload_n hx hb dX3_covers_74 rfl (lv_at hl 0 rfl) ?_
    refine lv_iload_n hx hb dX3_covers_75 rfl (lv_at hl 1 rfl) ?_
    refine lv_iconst (v := 4) hx hb dX3_covers_76 (by decide) ?_
    refine lv_iload hx hb dX3_covers_77 (lv_at hl 4 rfl) ?_
    obtain ⟨r11, hr11, hf⟩ := q_bd_go hf
    refine q_wrVv (ci := 3) (As := [.int l1, .int 4, .int l4]) (rest := []) hx hb hml hown hts (c_X3_becomes l D cI cJ cS a r10 _ l1 4 l4 _ hr11) (cwV 3 hts gX3_covers_X3_becomes rfl rfl rfl (by decide +kernel) ⟨(Nat.le_of_ble_eq_true rfl), (Nat.le_of_ble_eq_true rfl)⟩) hE hP hD hS (fun q h => Or.inr h) rfl rfl rfl hl.1 rfl (Nat.le_of_ble_eq_true rfl) dX3_covers_79 ⟨Nat.zero_le _, Nat.zero_le _⟩ (fun H locs hP hD hS => ?_)
    refine lv_aload_n hx hb dX3_covers_82 rfl (lv_at hl 0 rfl) ?_
    refine lv_iload_n hx hb dX3_covers_83 rfl (lv_at hl 1 rfl) ?_
    obtain ⟨r12, hr12, hf⟩ := q_bd_go hf
    refine q_wrVv (ci := 3) (As := [.int l1]) (rest := []) hx hb hml hown hts (c_X3_clearsBids l D cI cJ cS a r11 _ l1 _ hr12) (cwV 1 hts gX3_covers_X3_clearsBids rfl rfl rfl (by decide +kernel) ⟨(Nat.le_of_ble_eq_true rfl), (Nat.le_of_ble_eq_true rfl)⟩) hE hP hD hS (fun q h => Or.inr h) rfl rfl rfl hl.1 rfl (Nat.le_of_ble_eq_true rfl) dX3_covers_84 ⟨Nat.zero_le _, Nat.zero_le _⟩ (fun H locs hP hD hS => ?_)
    refine lv_aload_n hx hb dX3_covers_87 rfl (lv_at hl 0 rfl) ?_
    refine va_get (D := D) (ci := 3) (v := .ref (a 1)) (C := RX3) (T := TX3) (N := 15) hx hb hu (fun _ h => h) hown hE.1 hP 0 rfl rfl 0 (Nat.le_of_ble_eq_true rfl) (hts (.fieldLink RX3 7 "CoverMeterModel" "now" "[J") (List.mem_of_getElem? (i := 1) rfl)) (fun _ h9 => h9) rfl dX3_covers_88 ?_
    refine lv_bipush (v := 6) hx hb dX3_covers_91 (by decide) ?_
    refine lv_iconst (v := 3) hx hb dX3_covers_93 (by decide) ?_
    refine lv_iload_n hx hb dX3_covers_94 rfl (lv_at hl 2 rfl) ?_
    refine lv_imul hx hb dX3_covers_95 ?_
    refine lv_iadd hx hb dX3_covers_96 ?_
    refine lv_iconst (v := 1) hx hb dX3_covers_97 (by decide) ?_
    refine lv_iadd hx hb dX3_covers_98 ?_
    refine lv_dup2_11 hx hb dX3_covers_99 rfl rfl ?_
    have hi13 := q_gd_in hf
    have hf := q_gd_go hf
    refine va_lald hx hb hE.1 hP 1 1 rfl rfl hi13 dX3_covers_100 ?_
    refine lv_iload hx hb dX3_covers_101 (lv_at hl 4 rfl) ?_
    refine lv_i2l (v := ((l4 : Int32).toInt64)) hx hb dX3_covers_103 rfl ?_
    refine lv_ladd hx hb dX3_covers_104 ?_
    have hi14 := q_gd_in hf
    have hf := q_gd_go hf
    obtain ⟨S15, eS15, hf⟩ := q_let_go hf
    refine va_last hx hb hE.1 hP hD hS 1 1 rfl rfl hi14 dX3_covers_105 (fun H locs hP hD hS => ?_)
    have hP : va_P D vwCl (wMD cI cJ a (sMD_now r12 (vp_updL (MD_now r12) (((6 + (3 * l2)) + 1) : Int32).toNatClampNeg ((MD_now r12 (((6 + (3 * l2)) + 1) : Int32).toNatClampNeg) + ((l4 : Int32).toInt64))))) H := hP
    have hD : va_D (va_A (wMD cI cJ a S) s.heap.size) (wMD cI cJ a (sMD_now r12 (vp_updL (MD_now r12) (((6 + (3 * l2)) + 1) : Int32).toNatClampNeg ((MD_now r12 (((6 + (3 * l2)) + 1) : Int32).toNatClampNeg) + ((l4 : Int32).toInt64))))) := hD
    rw [eS15] at hP hD
    refine lv_aload_n hx hb dX3_covers_106 rfl (lv_at hl 0 rfl) ?_
    refine va_get (D := D) (ci := 3) (v := .ref (a 1)) (C := RX3) (T := TX3) (N := 15) hx hb hu (fun _ h => h) hown hE.1 hP 0 rfl rfl 0 (Nat.le_of_ble_eq_true rfl) (hts (.fieldLink RX3 7 "CoverMeterModel" "now" "[J") (List.mem_of_getElem? (i := 1) rfl)) (fun _ h9 => h9) rfl dX3_covers_107 ?_
    refine lv_bipush (v := 6) hx hb dX3_covers_110 (by decide) ?_
    refine lv_iconst (v := 3) hx hb dX3_covers_112 (by decide) ?_
    refine lv_aload_n hx hb dX3_covers_113 rfl (lv_at hl 0 rfl) ?_
    refine lv_iload_n hx hb dX3_covers_114 rfl (lv_at hl 1 rfl) ?_
    refine lv_iconst (v := 0) hx hb dX3_covers_115 (by decide) ?_
    obtain ⟨r16, hr16, hf⟩ := q_bd_go hf
    refine q_rdVi (ci := 3) (As := [.int l1, .int 0]) (rest := [.int 3, .int 6, .ref (a 1)]) hx hb hml hown hts (c_X3_ofA l D cI cJ cS a S15 l1 0 _ hr16) (cwV 2 hts gX3_covers_X3_ofA rfl rfl rfl (by decide +kernel) ⟨(Nat.le_of_ble_eq_true rfl), (Nat.le_of_ble_eq_true rfl)⟩) hE hP rfl rfl rfl hl.1 rfl (Nat.le_of_ble_eq_true rfl) dX3_covers_116 ⟨Nat.zero_le _, Nat.zero_le _⟩ ?_
    refine lv_imul hx hb dX3_covers_119 ?_
    refine lv_iadd hx hb dX3_covers_120 ?_
    refine lv_iconst (v := 1) hx hb dX3_covers_121 (by decide) ?_
    refine lv_iadd hx hb dX3_covers_122 ?_
    refine lv_dup2_11 hx hb dX3_covers_123 rfl rfl ?_
    have hi17 := q_gd_in hf
    have hf := q_gd_go hf
    refine va_lald hx hb hE.1 hP 1 1 rfl rfl hi17 dX3_covers_124 ?_
    refine lv_iload hx hb dX3_covers_125 (lv_at hl 4 rfl) ?_
    refine lv_i2l (v := ((l4 : Int32).toInt64)) hx hb dX3_covers_127 rfl ?_
    refine lv_lsub hx hb dX3_covers_128 ?_
    have hi18 := q_gd_in hf
    have hf := q_gd_go hf
    obtain ⟨S19, eS19, hf⟩ := q_let_go hf
    refine va_last hx hb hE.1 hP hD hS 1 1 rfl rfl hi18 dX3_covers_129 (fun H locs hP hD hS => ?_)
    have hP : va_P D vwCl (wMD cI cJ a (sMD_now S15 (vp_updL (MD_now S15) (((6 + (3 * r16)) + 1) : Int32).toNatClampNeg ((MD_now S15 (((6 + (3 * r16)) + 1) : Int32).toNatClampNeg) - ((l4 : Int32).toInt64))))) H := hP
    have hD : va_D (va_A (wMD cI cJ a S) s.heap.size) (wMD cI cJ a (sMD_now S15 (vp_updL (MD_now S15) (((6 + (3 * r16)) + 1) : Int32).toNatClampNeg ((MD_now S15 (((6 + (3 * r16)) + 1) : Int32).toNatClampNeg) - ((l4 : Int32).toInt64))))) := hD
    rw [eS19] at hP hD
    refine lv_aload_n hx hb dX3_covers_130 rfl (lv_at hl 0 rfl) ?_
    refine va_get (D := D) (ci := 3) (v := .ref (a 1)) (C := RX3) (T := TX3) (N := 15) hx hb hu (fun _ h => h) hown hE.1 hP 0 rfl rfl 0 (Nat.le_of_ble_eq_true rfl) (hts (.fieldLink RX3 7 "CoverMeterModel" "now" "[J") (List.mem_of_getElem? (i := 1) rfl)) (fun _ h9 => h9) rfl dX3_covers_131 ?_
    refine lv_bipush (v := 6) hx hb dX3_covers_134 (by decide) ?_
    refine lv_iconst (v := 3) hx hb dX3_covers_136 (by decide) ?_
    refine lv_iload_n hx hb dX3_covers_137 rfl (lv_at hl 2 rfl) ?_
    refine lv_imul hx hb dX3_covers_138 ?_
    refine lv_iadd hx hb dX3_covers_139 ?_
    refine lv_iconst (v := 2) hx hb dX3_covers_140 (by decide) ?_
    refine lv_iadd hx hb dX3_covers_141 ?_
    refine lv_dup2_11 hx hb dX3_covers_142 rfl rfl ?_
    have hi20 := q_gd_in hf
    have hf := q_gd_go hf
    refine va_lald hx hb hE.1 hP 1 1 rfl rfl hi20 dX3_covers_143 ?_
    refine lv_iload_n hx hb dX3_covers_144 rfl (lv_at hl 3 rfl) ?_
    refine lv_if_eq (tgt := 152) hx hb dX3_covers_145 (by decide) (fun c21 => ?_) (fun c21 => ?_)
    · have hf := q_ite_t c21 hf
      refine lv_lconst (v := 1) hx hb dX3_covers_152 (by decide) ?_
      refine lv_ladd hx hb dX3_covers_153 ?_
      have hi22 := q_gd_in hf
      have hf := q_gd_go hf
      obtain ⟨S23, eS23, hf⟩ := q_let_go hf
      refine va_last hx hb hE.1 hP hD hS 1 1 rfl rfl hi22 dX3_covers_154 (fun H locs hP hD hS => ?_)
      have hP : va_P D vwCl (wMD cI cJ a (sMD_now S19 (vp_updL (MD_now S19) (((6 + (3 * l2)) + 2) : Int32).toNatClampNeg ((MD_now S19 (((6 + (3 * l2)) + 2) : Int32).toNatClampNeg) + 1)))) H := hP
      have hD : va_D (va_A (wMD cI cJ a S) s.heap.size) (wMD cI cJ a (sMD_now S19 (vp_updL (MD_now S19) (((6 + (3 * l2)) + 2) : Int32).toNatClampNeg ((MD_now S19 (((6 + (3 * l2)) + 2) : Int32).toNatClampNeg) + 1)))) := hD
      rw [eS23] at hP hD
      refine lv_iload_n hx hb dX3_covers_155 rfl (lv_at hl 2 rfl) ?_
      have ho := q_some hf
      subst ho
      exact W.iret hx hb hr (fun t ht hW => ⟨rfl, ⟨by rw [ht]; exact hP, hD⟩, hS.F ht⟩) hS.2.2 dX3_covers_156
    · have hf := q_ite_f c21 hf
      refine lv_lconst (v := 0) hx hb dX3_covers_148 (by decide) ?_
      refine lv_goto (tgt := 153) hx hb dX3_covers_149 (by decide) ?_
      refine lv_ladd hx hb dX3_covers_153 ?_
      have hi24 := q_gd_in hf
      have hf := q_gd_go hf
      obtain ⟨S25, eS25, hf⟩ := q_let_go hf
      refine va_last hx hb hE.1 hP hD hS 1 1 rfl rfl hi24 dX3_covers_154 (fun H locs hP hD hS => ?_)
      have hP : va_P D vwCl (wMD cI cJ a (sMD_now S19 (vp_updL (MD_now S19) (((6 + (3 * l2)) + 2) : Int32).toNatClampNeg ((MD_now S19 (((6 + (3 * l2)) + 2) : Int32).toNatClampNeg) + 0)))) H := hP
      have hD : va_D (va_A (wMD cI cJ a S) s.heap.size) (wMD cI cJ a (sMD_now S19 (vp_updL (MD_now S19) (((6 + (3 * l2)) + 2) : Int32).toNatClampNeg ((MD_now S19 (((6 + (3 * l2)) + 2) : Int32).toNatClampNeg) + 0)))) := hD
      rw [eS25] at hP hD
      refine lv_iload_n hx hb dX3_covers_155 rfl (lv_at hl 2 rfl) ?_
      have ho := q_some hf
      subst ho
      exact W.iret hx hb hr (fun t ht hW => ⟨rfl, ⟨by rw [ht]; exact hP, hD⟩, hS.F ht⟩) hS.2.2 dX3_covers_156
  have B_27 : ∀ (Sz : MD) (H : Heap) (locs : List Loc) (hP : va_P D vwCl (wMD cI cJ a Sz) H) (hD : va_D (va_A (wMD cI cJ a S) s.heap.size) (wMD cI cJ a Sz)) (hS : va_S (va_A (wMD cI cJ a S) s.heap.size) s.heap H locs) (l1 : Int32) (l2 : Int32) (t0 : Int32) (ls : Array Slot), lv_has ls 5 [(0, .ref (a 0)), (1, .int l1), (2, .int l2)] → f_X3_covers_27 Sz l1 l2 t0 = some o → W p l e (headSpec wsX3_covers rX3_covers).room s m (([.ref (a 0), .int p1] : List Value).toArray) below meth c H locs 0 0 (MQ below (q_Wo (some (.int o.1)) D (wMD cI cJ a S) (wMD cI cJ a o.2) s.heap.size) (([.ref (a 0), .int p1] : List Value).toArray) s 0 0 (va_A (wMD cI cJ a S) s.heap.size)) (F0 m 27 ls [.int t0]) := by
    intro Sz H locs hP hD hS l1 l2 t0 ls hl hf
    unfold f_X3_covers_27 at hf
    refine lv_istore_n (lv' := [(3, .int t0), (0, .ref (a 0)), (1, .int l1), (2, .int l2)]) hx hb dX3_covers_27 rfl hl (by decide) rfl (fun ls hl => ?_)
    refine lv_iload_n hx hb dX3_covers_28 rfl (lv_at hl 0 rfl) ?_
    refine lv_if_eq (tgt := 43) hx hb dX3_covers_29 (by decide) (fun c5 => ?_) (fun c5 => ?_)
    · have hf := q_ite_t c5 hf
      refine lv_aload_n hx hb dX3_covers_43 rfl (lv_at hl 1 rfl) ?_
      refine va_get (D := D) (ci := 3) (v := .ref (a 1)) (C := RX3) (T := TX3) (N := 15) hx hb hu (fun _ h => h) hown hE.1 hP 0 rfl rfl 0 (Nat.le_of_ble_eq_true rfl) (hts (.fieldLink RX3 7 "CoverMeterModel" "now" "[J") (List.mem_of_getElem? (i := 1) rfl)) (fun _ h9 => h9) rfl dX3_covers_44 ?_
      refine lv_iconst (v := 1) hx hb dX3_covers_47 (by decide) ?_
      have hi6 := q_gd_in hf
      have hf := q_gd_go hf
      refine va_lald hx hb hE.1 hP 1 1 rfl rfl hi6 dX3_covers_48 ?_
      refine lv_l2i (v := (((MD_now Sz (1 : Int32).toNatClampNeg) : Int64).toInt32)) hx hb dX3_covers_49 rfl ?_
      obtain ⟨v7, ev7, hf⟩ := q_let_go hf
      refine q_nmi ev7 ?_
      refine lv_istore (lv' := [(4, .int v7), (3, .int t0), (0, .ref (a 0)), (1, .int l1), (2, .int l2)]) hx hb dX3_covers_50 hl (by decide) rfl (fun ls hl => ?_)
      refine lv_aload_n hx hb dX3_covers_52 rfl (lv_at hl 2 rfl) ?_
      refine lv_iload_n hx hb dX3_covers_53 rfl (lv_at hl 3 rfl) ?_
      refine lv_iconst (v := 2) hx hb dX3_covers_54 (by decide) ?_
      refine lv_iload_n hx hb dX3_covers_55 rfl (lv_at hl 1 rfl) ?_
      refine lv_if_eq (tgt := 63) hx hb dX3_covers_56 (by decide) (fun c8 => ?_) (fun c8 => ?_)
      · have hf := q_ite_t c8 hf
        refine lv_iconst (v := 2) hx hb dX3_covers_63 (by decide) ?_
        exact B_64 Sz _ _ hP hD hS l1 l2 t0 v7 2 2 l1 _ (lv_sub hl [2, 3, 4, 1, 0] rfl) hf
      · have hf := q_ite_f c8 hf
        refine lv_iconst (v := 1) hx hb dX3_covers_59 (by decide) ?_
        refine lv_goto (tgt := 64) hx hb dX3_covers_60 (by decide) ?_
        exact B_64 Sz _ _ hP hD hS l1 l2 t0 v7 1 2 l1 _ (lv_sub hl [2, 3, 4, 1, 0] rfl) hf
    · have hf := q_ite_f c5 hf
      refine lv_aload_n hx hb dX3_covers_32 rfl (lv_at hl 1 rfl) ?_
      refine lv_iload_n hx hb dX3_covers_33 rfl (lv_at hl 2 rfl) ?_
      refine lv_iconst (v := 5) hx hb dX3_covers_34 (by decide) ?_
      refine lv_iload_n hx hb dX3_covers_35 rfl (lv_at hl 3 rfl) ?_
      refine lv_iadd hx hb dX3_covers_36 ?_
      obtain ⟨r26, hr26, hf⟩ := q_bd_go hf
      refine q_rdVi (ci := 3) (As := [.int l1, .int (5 + l2)]) (rest := []) hx hb hml hown hts (c_X3_ofA l D cI cJ cS a Sz l1 (5 + l2) _ hr26) (cwV 2 hts gX3_covers_X3_ofA rfl rfl rfl (by decide +kernel) ⟨(Nat.le_of_ble_eq_true rfl), (Nat.le_of_ble_eq_true rfl)⟩) hE hP rfl rfl rfl hl.1 rfl (Nat.le_of_ble_eq_true rfl) dX3_covers_37 ⟨Nat.zero_le _, Nat.zero_le _⟩ ?_
      refine lv_goto (tgt := 50) hx hb dX3_covers_40 (by decide) ?_
      refine lv_istore (lv' := [(4, .int r26), (3, .int t0), (0, .ref (a 0)), (1, .int l1), (2, .int l2)]) hx hb dX3_covers_50 hl (by decide) rfl (fun ls hl => ?_)
      refine lv_aload_n hx hb dX3_covers_52 rfl (lv_at hl 2 rfl) ?_
      refine lv_iload_n hx hb dX3_covers_53 rfl (lv_at hl 3 rfl) ?_
      refine lv_iconst (v := 2) hx hb dX3_covers_54 (by decide) ?_
      refine lv_iload_n hx hb dX3_covers_55 rfl (lv_at hl 1 rfl) ?_
      refine lv_if_eq (tgt := 63) hx hb dX3_covers_56 (by decide) (fun c27 => ?_) (fun c27 => ?_)
      · have hf := q_ite_t c27 hf
        refine lv_iconst (v := 2) hx hb dX3_covers_63 (by decide) ?_
        exact B_64 Sz _ _ hP hD hS l1 l2 t0 r26 2 2 l1 _ (lv_sub hl [2, 3, 4, 1, 0] rfl) hf
      · have hf := q_ite_f c27 hf
        refine lv_iconst (v := 1) hx hb dX3_covers_59 (by decide) ?_
        refine lv_goto (tgt := 64) hx hb dX3_covers_60 (by decide) ?_
        exact B_64 Sz _ _ hP hD hS l1 l2 t0 r26 1 2 l1 _ (lv_sub hl [2, 3, 4, 1, 0] rfl) hf
  have hl := lv_entry ([.ref (a 0), .int p1]) (n := 5) (Nat.le_of_ble_eq_true rfl)
  rw [lg_entry_eq]
  generalize (lg_sl ([.ref (a 0), .int p1]) ++ List.replicate (5 - (lg_sl ([.ref (a 0), .int p1])).length) Slot.unset).toArray = ls at hl ⊢
  have hl : lv_has ls 5 [(0, .ref (a 0)), (1, .int p1)] := hl
  unfold f_X3_covers at hf
  refine lv_aload_n hx hb dX3_covers_0 rfl (lv_at hl 0 rfl) ?_
  refine lv_iload_n hx hb dX3_covers_1 rfl (lv_at hl 1 rfl) ?_
  obtain ⟨r1, hr1, hf⟩ := q_bd_go hf
  refine q_rdVi (ci := 3) (As := [.int p1]) (rest := []) hx hb hml hown hts (c_X3_covererOf l D cI cJ cS a S p1 _ hr1) (cwV 1 hts gX3_covers_X3_covererOf rfl rfl rfl (by decide +kernel) ⟨(Nat.le_of_ble_eq_true rfl), (Nat.le_of_ble_eq_true rfl)⟩) hE hP rfl rfl rfl hl.1 rfl (Nat.le_of_ble_eq_true rfl) dX3_covers_2 ⟨Nat.zero_le _, Nat.zero_le _⟩ ?_
  refine lv_istore_n (lv' := [(2, .int r1), (0, .ref (a 0)), (1, .int p1)]) hx hb dX3_covers_5 rfl hl (by decide) rfl (fun ls hl => ?_)
  refine lv_iload_n hx hb dX3_covers_6 rfl (lv_at hl 0 rfl) ?_
  refine lv_iconst (v := (-1)) hx hb dX3_covers_7 (by decide) ?_
  refine lv_icmp_ne (tgt := 13) hx hb dX3_covers_8 (by decide) (fun c2 => ?_) (fun c2 => ?_)
  · have hf := q_ite_t c2 hf
    refine lv_aload_n hx hb dX3_covers_13 rfl (lv_at hl 1 rfl) ?_
    refine lv_iload_n hx hb dX3_covers_14 rfl (lv_at hl 2 rfl) ?_
    obtain ⟨r3, hr3, hf⟩ := q_bd_go hf
    refine q_rdVi (ci := 3) (As := [.int p1]) (rest := []) hx hb hml hown hts (c_X3_bestBidder l D cI cJ cS a S p1 _ hr3) (cwV 1 hts gX3_covers_X3_bestBidder rfl rfl rfl (by decide +kernel) ⟨(Nat.le_of_ble_eq_true rfl), (Nat.le_of_ble_eq_true rfl)⟩) hE hP rfl rfl rfl hl.1 rfl (Nat.le_of_ble_eq_true rfl) dX3_covers_15 ⟨Nat.zero_le _, Nat.zero_le _⟩ ?_
    refine lv_iconst (v := (-1)) hx hb dX3_covers_18 (by decide) ?_
    refine lv_icmp_eq (tgt := 26) hx hb dX3_covers_19 (by decide) (fun c4 => ?_) (fun c4 => ?_)
    · have hf := q_ite_t c4 hf
      refine lv_iconst (v := 0) hx hb dX3_covers_26 (by decide) ?_
      exact B_27 S _ _ hP hD hS p1 r1 0 _ (lv_sub hl [1, 2, 0] rfl) hf
    · have hf := q_ite_f c4 hf
      refine lv_iconst (v := 1) hx hb dX3_covers_22 (by decide) ?_
      refine lv_goto (tgt := 27) hx hb dX3_covers_23 (by decide) ?_
      exact B_27 S _ _ hP hD hS p1 r1 1 _ (lv_sub hl [1, 2, 0] rfl) hf
  · have hf := q_ite_n c2 hf
    refine lv_iconst (v := (-1)) hx hb dX3_covers_11 (by decide) ?_
    have ho := q_some hf
    subst ho
    exact W.iret hx hb hr (fun t ht hW => ⟨rfl, ⟨by rw [ht]; exact hP, hD⟩, hS.F ht⟩) hS.2.2 dX3_covers_12
def f_X3_coversAll_4 : Nat → MD → Int32 → Int32 → Option (Int32 × MD)
  | 0, _, _, _ => none
  | n+1, Sz, l1, l2 => if q_in 4 420 = true then
 (if 0 ≤ (lg_cmp ((l2 : Int32).toInt64) (MD_now Sz (4 : Int32).toNatClampNeg)) then
 (some (l1, Sz))
 else ((f_X3_ofA Sz l2 2).bind fun r3 =>
 if ¬ r3 = 0 then
 (q_let ((l1 + 0)) fun v5 =>
 q_let (l2 + 1) fun v6 =>
 f_X3_coversAll_4 n Sz v5 v6)
 else ((f_X3_covers Sz l2).bind fun r7 =>
 if r7.1 = (-1) then
 (q_let ((l1 + 0)) fun v9 =>
 q_let (l2 + 1) fun v10 =>
 f_X3_coversAll_4 n r7.2 v9 v10)
 else (q_let ((l1 + 1)) fun v11 =>
 q_let (l2 + 1) fun v12 =>
 f_X3_coversAll_4 n r7.2 v11 v12)))) else none
def f_X3_coversAll (S : MD) : Option (Int32 × MD) := f_X3_coversAll_4 2000 S 0 0
abbrev rX3_coversAll : Room := { frames := 9, cells := 0, slots := 0, locals := 204 }
set_option maxRecDepth 100000 in
set_option maxHeartbeats 4000000 in
theorem c_X3_coversAll (l : Launch) (D : va_G) (cI cJ cS : ClassId) (a : Nat → Nat) (S : MD) (sz : Nat) (o : (Int32 × MD)) (hf : f_X3_coversAll S = some o) : Met l yX3_coversAll wsX3_coversAll rX3_coversAll (va_Pc [.ref (a 0)] (q_BW D cI cJ cS (wMD cI cJ a S) sz)) (q_Wo (some (.int o.1)) D (wMD cI cJ a S) (wMD cI cJ a o.2) sz) 0 0 (va_A (wMD cI cJ a S) sz) := by
  refine Met.ofW (cc := cX3_coversAll) (maxL := 3) (ret := some .int) (by decide) rfl ?_
  intro p e s m args below meth c s₁ B hml hv
  obtain ⟨rfl, hsz, hP, hE, hD0⟩ := hv
  have hx := B.exec
  have hb := B.bytes
  have hr := B.returns
  have hts := atoms_spec (ws := wsX3_coversAll) B.pre
  have hown : s.vm.findClass RX3 = some m.cls := findClass_of_methodNamed B.named
  have hlocks := B.notSynchronized
  have hu : ∀ z ∈ wsX30, z.before _ s = true := fun z h => hts z (List.mem_cons_of_mem _ (List.mem_append_right _ h))
  subst hsz
  have hD := hD0.self (sz := s.heap.size)
  have hS : va_S (va_A (wMD cI cJ a S) s.heap.size) s.heap s.heap [] := va_S.rf
  have L_4 : ∀ (n : Nat) (Sz : MD) (H : Heap) (locs : List Loc) (hP : va_P D vwCl (wMD cI cJ a Sz) H) (hD : va_D (va_A (wMD cI cJ a S) s.heap.size) (wMD cI cJ a Sz)) (hS : va_S (va_A (wMD cI cJ a S) s.heap.size) s.heap H locs) (l1 : Int32) (l2 : Int32) (ls : Array Slot), lv_has ls 3 [(0, .ref (a 0)), (1, .int l1), (2, .int l2)] → f_X3_coversAll_4 n Sz l1 l2 = some o → W p l e (headSpec wsX3_coversAll rX3_coversAll).room s m (([.ref (a 0)] : List Value).toArray) below meth c H locs 0 0 (MQ below (q_Wo (some (.int o.1)) D (wMD cI cJ a S) (wMD cI cJ a o.2) s.heap.size) (([.ref (a 0)] : List Value).toArray) s 0 0 (va_A (wMD cI cJ a S) s.heap.size)) (F0 m 4 ls []) := by
    intro n
    induction n with
    | zero => intro Sz H locs hP hD hS l1 l2 ls hl hf; cases hf
    | succ n ih =>
      intro Sz H locs hP hD hS l1 l2 ls hl hf
      rw [f_X3_coversAll_4] at hf
      refine lv_iload_n hx hb dX3_coversAll_4 rfl (lv_at hl 2 rfl) ?_
      refine lv_i2l (v := ((l2 : Int32).toInt64)) hx hb dX3_coversAll_5 rfl ?_
      refine lv_aload_n hx hb dX3_coversAll_6 rfl (lv_at hl 0 rfl) ?_
      refine va_get (D := D) (ci := 3) (v := .ref (a 1)) (C := RX3) (T := TX3) (N := 15) hx hb hu (fun _ h => h) hown hE.1 hP 0 rfl rfl 0 (Nat.le_of_ble_eq_true rfl) (hts (.fieldLink RX3 7 "CoverMeterModel" "now" "[J") (List.mem_of_getElem? (i := 1) rfl)) (fun _ h9 => h9) rfl dX3_coversAll_7 ?_
      refine lv_iconst (v := 4) hx hb dX3_coversAll_10 (by decide) ?_
      have hi1 := q_gd_in hf
      have hf := q_gd_go hf
      refine va_lald hx hb hE.1 hP 1 1 rfl rfl hi1 dX3_coversAll_11 ?_
      refine W.lcmp hx hb dX3_coversAll_12 ?_
      refine lv_if_ge (tgt := 48) hx hb dX3_coversAll_13 (by decide) (fun c2 => ?_) (fun c2 => ?_)
      · have hf := q_ite_t c2 hf
        refine lv_iload_n hx hb dX3_coversAll_48 rfl (lv_at hl 1 rfl) ?_
        have ho := q_some hf
        subst ho
        exact W.iret hx hb hr (fun t ht hW => ⟨rfl, ⟨by rw [ht]; exact hP, hD⟩, hS.F ht⟩) hS.2.2 dX3_coversAll_49
      · have hf := q_ite_f c2 hf
        refine lv_iload_n hx hb dX3_coversAll_16 rfl (lv_at hl 1 rfl) ?_
        refine lv_aload_n hx hb dX3_coversAll_17 rfl (lv_at hl 0 rfl) ?_
        refine lv_iload_n hx hb dX3_coversAll_18 rfl (lv_at hl 2 rfl) ?_
        refine lv_iconst (v := 2) hx hb dX3_coversAll_19 (by decide) ?_
        obtain ⟨r3, hr3, hf⟩ := q_bd_go hf
        refine q_rdVi (ci := 3) (As := [.int l2, .int 2]) (rest := [.int l1]) hx hb hml hown hts (c_X3_ofA l D cI cJ cS a Sz l2 2 _ hr3) (cwV 2 hts gX3_coversAll_X3_ofA rfl rfl rfl (by decide +kernel) ⟨(Nat.le_of_ble_eq_true rfl), (Nat.le_of_ble_eq_true rfl)⟩) hE hP rfl rfl rfl hl.1 rfl (Nat.le_of_ble_eq_true rfl) dX3_coversAll_20 ⟨Nat.zero_le _, Nat.zero_le _⟩ ?_
        refine lv_if_ne (tgt := 39) hx hb dX3_coversAll_23 (by decide) (fun c4 => ?_) (fun c4 => ?_)
        · have hf := q_ite_t c4 hf
          refine lv_iconst (v := 0) hx hb dX3_coversAll_39 (by decide) ?_
          refine lv_iadd hx hb dX3_coversAll_40 ?_
          obtain ⟨v5, ev5, hf⟩ := q_let_go hf
          refine q_nmi ev5 ?_
          refine lv_istore_n (lv' := [(1, .int v5), (0, .ref (a 0)), (2, .int l2)]) hx hb dX3_coversAll_41 rfl hl (by decide) rfl (fun ls hl => ?_)
          obtain ⟨v6, ev6, hf⟩ := q_let_go hf
          refine lv_iinc (v := v6) (lv' := [(2, .int v6), (1, .int v5), (0, .ref (a 0))]) hx hb dX3_coversAll_42 hl (k := 2) rfl (by rw [← ev6]; rfl) (by decide) rfl (fun ls hl => ?_)
          refine lv_goto (tgt := 4) hx hb dX3_coversAll_45 (by decide) ?_
          exact ih Sz _ _ hP hD hS v5 v6 _ (lv_sub hl [2, 1, 0] rfl) hf
        · have hf := q_ite_n c4 hf
          refine lv_aload_n hx hb dX3_coversAll_26 rfl (lv_at hl 0 rfl) ?_
          refine lv_iload_n hx hb dX3_coversAll_27 rfl (lv_at hl 2 rfl) ?_
          obtain ⟨r7, hr7, hf⟩ := q_bd_go hf
          refine q_wrVi (ci := 3) (As := [.int l2]) (rest := [.int l1]) hx hb hml hown hts (c_X3_covers l D cI cJ cS a Sz _ l2 _ hr7) (cwV 1 hts gX3_coversAll_X3_covers rfl rfl rfl (by decide +kernel) ⟨(Nat.le_of_ble_eq_true rfl), (Nat.le_of_ble_eq_true rfl)⟩) hE hP hD hS (fun q h => Or.inr h) rfl rfl rfl hl.1 rfl (Nat.le_of_ble_eq_true rfl) dX3_coversAll_28 ⟨Nat.zero_le _, Nat.zero_le _⟩ (fun H locs hP hD hS => ?_)
          refine lv_iconst (v := (-1)) hx hb dX3_coversAll_31 (by decide) ?_
          refine lv_icmp_eq (tgt := 39) hx hb dX3_coversAll_32 (by decide) (fun c8 => ?_) (fun c8 => ?_)
          · have hf := q_ite_t c8 hf
            refine lv_iconst (v := 0) hx hb dX3_coversAll_39 (by decide) ?_
            refine lv_iadd hx hb dX3_coversAll_40 ?_
            obtain ⟨v9, ev9, hf⟩ := q_let_go hf
            refine q_nmi ev9 ?_
            refine lv_istore_n (lv' := [(1, .int v9), (0, .ref (a 0)), (2, .int l2)]) hx hb dX3_coversAll_41 rfl hl (by decide) rfl (fun ls hl => ?_)
            obtain ⟨v10, ev10, hf⟩ := q_let_go hf
            refine lv_iinc (v := v10) (lv' := [(2, .int v10), (1, .int v9), (0, .ref (a 0))]) hx hb dX3_coversAll_42 hl (k := 2) rfl (by rw [← ev10]; rfl) (by decide) rfl (fun ls hl => ?_)
            refine lv_goto (tgt := 4) hx hb dX3_coversAll_45 (by decide) ?_
            exact ih r7.2 _ _ hP hD hS v9 v10 _ (lv_sub hl [2, 1, 0] rfl) hf
          · have hf := q_ite_f c8 hf
            refine lv_iconst (v := 1) hx hb dX3_coversAll_35 (by decide) ?_
            refine lv_goto (tgt := 40) hx hb dX3_coversAll_36 (by decide) ?_
            refine lv_iadd hx hb dX3_coversAll_40 ?_
            obtain ⟨v11, ev11, hf⟩ := q_let_go hf
            refine q_nmi ev11 ?_
            refine lv_istore_n (lv' := [(1, .int v11), (0, .ref (a 0)), (2, .int l2)]) hx hb dX3_coversAll_41 rfl hl (by decide) rfl (fun ls hl => ?_)
            obtain ⟨v12, ev12, hf⟩ := q_let_go hf
            refine lv_iinc (v := v12) (lv' := [(2, .int v12), (1, .int v11), (0, .ref (a 0))]) hx hb dX3_coversAll_42 hl (k := 2) rfl (by rw [← ev12]; rfl) (by decide) rfl (fun ls hl => ?_)
            refine lv_goto (tgt := 4) hx hb dX3_coversAll_45 (by decide) ?_
            exact ih r7.2 _ _ hP hD hS v11 v12 _ (lv_sub hl [2, 1, 0] rfl) hf
  have hl := lv_entry ([.ref (a 0)]) (n := 3) (Nat.le_of_ble_eq_true rfl)
  rw [lg_entry_eq]
  generalize (lg_sl ([.ref (a 0)]) ++ List.replicate (3 - (lg_sl ([.ref (a 0)])).length) Slot.unset).toArray = ls at hl ⊢
  have hl : lv_has ls 3 [(0, .ref (a 0))] := hl
  unfold f_X3_coversAll at hf
  refine lv_iconst (v := 0) hx hb dX3_coversAll_0 (by decide) ?_
  refine lv_istore_n (lv' := [(1, .int 0), (0, .ref (a 0))]) hx hb dX3_coversAll_1 rfl hl (by decide) rfl (fun ls hl => ?_)
  refine lv_iconst (v := 0) hx hb dX3_coversAll_2 (by decide) ?_
  refine lv_istore_n (lv' := [(2, .int 0), (1, .int 0), (0, .ref (a 0))]) hx hb dX3_coversAll_3 rfl hl (by decide) rfl (fun ls hl => ?_)
  exact L_4 2000 S _ _ hP hD hS 0 0 _ (lv_sub hl [2, 1, 0] rfl) hf
def f_X3_cover_27 (Sz : MD) (l1 : Int32) (t0 : Int32) : Option (Int32 × MD) := q_let (sMD_thrown Sz t0) fun S5 =>
 if (MD_thrown S5) = 0 then
 ((f_X3_records S5).bind fun r7 =>
 (f_X3_covers r7 l1).bind fun r8 =>
 some (r8.1, r8.2))
 else (some (0, S5))
def f_X3_cover (S : MD) (p1 : Int32) : Option (Int32 × MD) := (f_X3_isAbsence S p1).bind fun r1 =>
 if ¬ r1 = 0 then
 ((f_X3_covererOf S p1).bind fun r3 =>
 if r3 = (-1) then
 (f_X3_cover_27 S p1 2)
 else (f_X3_cover_27 S p1 0))
 else (f_X3_cover_27 S p1 1)
abbrev rX3_cover : Room := { frames := 9, cells := 0, slots := 0, locals := 204 }
set_option maxRecDepth 100000 in
set_option maxHeartbeats 4000000 in
theorem c_X3_cover (l : Launch) (D : va_G) (cI cJ cS : ClassId) (a : Nat → Nat) (S : MD) (sz : Nat) (p1 : Int32) (o : (Int32 × MD)) (hf : f_X3_cover S p1 = some o) : Met l yX3_cover wsX3_cover rX3_cover (va_Pc [.ref (a 0), .int p1] (q_BW D cI cJ cS (wMD cI cJ a S) sz)) (q_Wo (some (.int o.1)) D (wMD cI cJ a S) (wMD cI cJ a o.2) sz) 0 0 (va_A (wMD cI cJ a S) sz) := by
  refine Met.ofW (cc := cX3_cover) (maxL := 2) (ret := some .int) (by decide) rfl ?_
  intro p e s m args below meth c s₁ B hml hv
  obtain ⟨rfl, hsz, hP, hE, hD0⟩ := hv
  have hx := B.exec
  have hb := B.bytes
  have hr := B.returns
  have hts := atoms_spec (ws := wsX3_cover) B.pre
  have hown : s.vm.findClass RX3 = some m.cls := findClass_of_methodNamed B.named
  have hlocks := B.notSynchronized
  have hu : ∀ z ∈ wsX30, z.before _ s = true := fun z h => hts z (List.mem_cons_of_mem _ (List.mem_append_right _ h))
  subst hsz
  have hD := hD0.self (sz := s.heap.size)
  have hS : va_S (va_A (wMD cI cJ a S) s.heap.size) s.heap s.heap [] := va_S.rf
  have B_27 : ∀ (Sz : MD) (H : Heap) (locs : List Loc) (hP : va_P D vwCl (wMD cI cJ a Sz) H) (hD : va_D (va_A (wMD cI cJ a S) s.heap.size) (wMD cI cJ a Sz)) (hS : va_S (va_A (wMD cI cJ a S) s.heap.size) s.heap H locs) (l1 : Int32) (t0 : Int32) (ls : Array Slot), lv_has ls 2 [(0, .ref (a 0)), (1, .int l1)] → f_X3_cover_27 Sz l1 t0 = some o → W p l e (headSpec wsX3_cover rX3_cover).room s m (([.ref (a 0), .int p1] : List Value).toArray) below meth c H locs 0 0 (MQ below (q_Wo (some (.int o.1)) D (wMD cI cJ a S) (wMD cI cJ a o.2) s.heap.size) (([.ref (a 0), .int p1] : List Value).toArray) s 0 0 (va_A (wMD cI cJ a S) s.heap.size)) (F0 m 27 ls [.int t0, .ref (a 0)]) := by
    intro Sz H locs hP hD hS l1 t0 ls hl hf
    unfold f_X3_cover_27 at hf
    obtain ⟨S5, eS5, hf⟩ := q_let_go hf
    refine va_put (D := D) (ci := 3) (v := .int t0) (ty := .int) (C := RX3) (T := TX3) (N := 15) hx hb hu (fun _ h => h) tyX3 tyX3_ok nmX3 hown hE.1 hP hD hS 0 rfl rfl 3 (Nat.le_of_ble_eq_true rfl) (hts (.fieldLink RX3 30 "CoverMeterModel" "thrown" "I") (List.mem_of_getElem? (i := 1) rfl)) (fun _ h9 => h9) rfl (by decide +kernel) rfl rfl (Nat.le_of_ble_eq_true rfl) dX3_cover_27 (fun H locs hP hD hS => ?_)
    have hP : va_P D vwCl (wMD cI cJ a (sMD_thrown Sz t0)) H := hP
    have hD : va_D (va_A (wMD cI cJ a S) s.heap.size) (wMD cI cJ a (sMD_thrown Sz t0)) := hD
    rw [eS5] at hP hD
    refine lv_aload_n hx hb dX3_cover_30 rfl (lv_at hl 0 rfl) ?_
    refine va_get (D := D) (ci := 3) (v := .int (MD_thrown S5)) (C := RX3) (T := TX3) (N := 15) hx hb hu (fun _ h => h) hown hE.1 hP 0 rfl rfl 3 (Nat.le_of_ble_eq_true rfl) (hts (.fieldLink RX3 30 "CoverMeterModel" "thrown" "I") (List.mem_of_getElem? (i := 1) rfl)) (fun _ h9 => h9) rfl dX3_cover_31 ?_
    refine lv_if_eq (tgt := 39) hx hb dX3_cover_34 (by decide) (fun c6 => ?_) (fun c6 => ?_)
    · have hf := q_ite_t c6 hf
      refine lv_aload_n hx hb dX3_cover_39 rfl (lv_at hl 0 rfl) ?_
      obtain ⟨r7, hr7, hf⟩ := q_bd_go hf
      refine q_wrVv (ci := 3) (As := []) (rest := []) hx hb hml hown hts (c_X3_records l D cI cJ cS a S5 _  _ hr7) (cwV 0 hts gX3_cover_X3_records rfl rfl rfl (by decide +kernel) ⟨(Nat.le_of_ble_eq_true rfl), (Nat.le_of_ble_eq_true rfl)⟩) hE hP hD hS (fun q h => Or.inr h) rfl rfl rfl hl.1 rfl (Nat.le_of_ble_eq_true rfl) dX3_cover_40 ⟨Nat.zero_le _, Nat.zero_le _⟩ (fun H locs hP hD hS => ?_)
      refine lv_aload_n hx hb dX3_cover_43 rfl (lv_at hl 0 rfl) ?_
      refine lv_iload_n hx hb dX3_cover_44 rfl (lv_at hl 1 rfl) ?_
      obtain ⟨r8, hr8, hf⟩ := q_bd_go hf
      refine q_wrVi (ci := 3) (As := [.int l1]) (rest := []) hx hb hml hown hts (c_X3_covers l D cI cJ cS a r7 _ l1 _ hr8) (cwV 1 hts gX3_cover_X3_covers rfl rfl rfl (by decide +kernel) ⟨(Nat.le_of_ble_eq_true rfl), (Nat.le_of_ble_eq_true rfl)⟩) hE hP hD hS (fun q h => Or.inr h) rfl rfl rfl hl.1 rfl (Nat.le_of_ble_eq_true rfl) dX3_cover_45 ⟨Nat.zero_le _, Nat.zero_le _⟩ (fun H locs hP hD hS => ?_)
      have ho := q_some hf
      subst ho
      exact W.iret hx hb hr (fun t ht hW => ⟨rfl, ⟨by rw [ht]; exact hP, hD⟩, hS.F ht⟩) hS.2.2 dX3_cover_48
    · have hf := q_ite_f c6 hf
      refine lv_iconst (v := 0) hx hb dX3_cover_37 (by decide) ?_
      have ho := q_some hf
      subst ho
      exact W.iret hx hb hr (fun t ht hW => ⟨rfl, ⟨by rw [ht]; exact hP, hD⟩, hS.F ht⟩) hS.2.2 dX3_cover_38
  have hl := lv_entry ([.ref (a 0), .int p1]) (n := 2) (Nat.le_of_ble_eq_true rfl)
  rw [lg_entry_eq]
  generalize (lg_sl ([.ref (a 0), .int p1]) ++ List.replicate (2 - (lg_sl ([.ref (a 0), .int p1])).length) Slot.unset).toArray = ls at hl ⊢
  have hl : lv_has ls 2 [(0, .ref (a 0)), (1, .int p1)] := hl
  unfold f_X3_cover at hf
  refine lv_aload_n hx hb dX3_cover_0 rfl (lv_at hl 0 rfl) ?_
  refine lv_aload_n hx hb dX3_cover_1 rfl (lv_at hl 0 rfl) ?_
  refine lv_iload_n hx hb dX3_cover_2 rfl (lv_at hl 1 rfl) ?_
  obtain ⟨r1, hr1, hf⟩ := q_bd_go hf
  refine q_rdVi (ci := 3) (As := [.int p1]) (rest := [.ref (a 0)]) hx hb hml hown hts (c_X3_isAbsence l D cI cJ cS a S p1 _ hr1) (cwV 1 hts gX3_cover_X3_isAbsence rfl rfl rfl (by decide +kernel) ⟨(Nat.le_of_ble_eq_true rfl), (Nat.le_of_ble_eq_true rfl)⟩) hE hP rfl rfl rfl hl.1 rfl (Nat.le_of_ble_eq_true rfl) dX3_cover_3 ⟨Nat.zero_le _, Nat.zero_le _⟩ ?_
  refine lv_if_ne (tgt := 13) hx hb dX3_cover_6 (by decide) (fun c2 => ?_) (fun c2 => ?_)
  · have hf := q_ite_t c2 hf
    refine lv_aload_n hx hb dX3_cover_13 rfl (lv_at hl 0 rfl) ?_
    refine lv_iload_n hx hb dX3_cover_14 rfl (lv_at hl 1 rfl) ?_
    obtain ⟨r3, hr3, hf⟩ := q_bd_go hf
    refine q_rdVi (ci := 3) (As := [.int p1]) (rest := [.ref (a 0)]) hx hb hml hown hts (c_X3_covererOf l D cI cJ cS a S p1 _ hr3) (cwV 1 hts gX3_cover_X3_covererOf rfl rfl rfl (by decide +kernel) ⟨(Nat.le_of_ble_eq_true rfl), (Nat.le_of_ble_eq_true rfl)⟩) hE hP rfl rfl rfl hl.1 rfl (Nat.le_of_ble_eq_true rfl) dX3_cover_15 ⟨Nat.zero_le _, Nat.zero_le _⟩ ?_
    refine lv_iconst (v := (-1)) hx hb dX3_cover_18 (by decide) ?_
    refine lv_icmp_eq (tgt := 26) hx hb dX3_cover_19 (by decide) (fun c4 => ?_) (fun c4 => ?_)
    · have hf := q_ite_t c4 hf
      refine lv_iconst (v := 2) hx hb dX3_cover_26 (by decide) ?_
      exact B_27 S _ _ hP hD hS p1 2 _ (lv_sub hl [0, 1] rfl) hf
    · have hf := q_ite_f c4 hf
      refine lv_iconst (v := 0) hx hb dX3_cover_22 (by decide) ?_
      refine lv_goto (tgt := 27) hx hb dX3_cover_23 (by decide) ?_
      exact B_27 S _ _ hP hD hS p1 0 _ (lv_sub hl [0, 1] rfl) hf
  · have hf := q_ite_n c2 hf
    refine lv_iconst (v := 1) hx hb dX3_cover_9 (by decide) ?_
    refine lv_goto (tgt := 27) hx hb dX3_cover_10 (by decide) ?_
    exact B_27 S _ _ hP hD hS p1 1 _ (lv_sub hl [0, 1] rfl) hf
def f_X3_coverAll (S : MD) : Option (Int32 × MD) := q_let (sMD_thrown S 0) fun S1 =>
 (f_X3_records S1).bind fun r2 =>
 (f_X3_coversAll r2).bind fun r3 =>
 some (r3.1, r3.2)
abbrev rX3_coverAll : Room := { frames := 10, cells := 0, slots := 0, locals := 226 }
set_option maxRecDepth 100000 in
set_option maxHeartbeats 4000000 in
theorem c_X3_coverAll (l : Launch) (D : va_G) (cI cJ cS : ClassId) (a : Nat → Nat) (S : MD) (sz : Nat) (o : (Int32 × MD)) (hf : f_X3_coverAll S = some o) : Met l yX3_coverAll wsX3_coverAll rX3_coverAll (va_Pc [.ref (a 0)] (q_BW D cI cJ cS (wMD cI cJ a S) sz)) (q_Wo (some (.int o.1)) D (wMD cI cJ a S) (wMD cI cJ a o.2) sz) 0 0 (va_A (wMD cI cJ a S) sz) := by
  refine Met.ofW (cc := cX3_coverAll) (maxL := 1) (ret := some .int) (by decide) rfl ?_
  intro p e s m args below meth c s₁ B hml hv
  obtain ⟨rfl, hsz, hP, hE, hD0⟩ := hv
  have hx := B.exec
  have hb := B.bytes
  have hr := B.returns
  have hts := atoms_spec (ws := wsX3_coverAll) B.pre
  have hown : s.vm.findClass RX3 = some m.cls := findClass_of_methodNamed B.named
  have hlocks := B.notSynchronized
  have hu : ∀ z ∈ wsX30, z.before _ s = true := fun z h => hts z (List.mem_cons_of_mem _ (List.mem_append_right _ h))
  subst hsz
  have hD := hD0.self (sz := s.heap.size)
  have hS : va_S (va_A (wMD cI cJ a S) s.heap.size) s.heap s.heap [] := va_S.rf
  have hl := lv_entry ([.ref (a 0)]) (n := 1) (Nat.le_of_ble_eq_true rfl)
  rw [lg_entry_eq]
  generalize (lg_sl ([.ref (a 0)]) ++ List.replicate (1 - (lg_sl ([.ref (a 0)])).length) Slot.unset).toArray = ls at hl ⊢
  have hl : lv_has ls 1 [(0, .ref (a 0))] := hl
  unfold f_X3_coverAll at hf
  refine lv_aload_n hx hb dX3_coverAll_0 rfl (lv_at hl 0 rfl) ?_
  refine lv_iconst (v := 0) hx hb dX3_coverAll_1 (by decide) ?_
  obtain ⟨S1, eS1, hf⟩ := q_let_go hf
  refine va_put (D := D) (ci := 3) (v := .int 0) (ty := .int) (C := RX3) (T := TX3) (N := 15) hx hb hu (fun _ h => h) tyX3 tyX3_ok nmX3 hown hE.1 hP hD hS 0 rfl rfl 3 (Nat.le_of_ble_eq_true rfl) (hts (.fieldLink RX3 30 "CoverMeterModel" "thrown" "I") (List.mem_of_getElem? (i := 1) rfl)) (fun _ h9 => h9) rfl (by decide +kernel) rfl rfl (Nat.le_of_ble_eq_true rfl) dX3_coverAll_2 (fun H locs hP hD hS => ?_)
  have hP : va_P D vwCl (wMD cI cJ a (sMD_thrown S 0)) H := hP
  have hD : va_D (va_A (wMD cI cJ a S) s.heap.size) (wMD cI cJ a (sMD_thrown S 0)) := hD
  rw [eS1] at hP hD
  refine lv_aload_n hx hb dX3_coverAll_5 rfl (lv_at hl 0 rfl) ?_
  obtain ⟨r2, hr2, hf⟩ := q_bd_go hf
  refine q_wrVv (ci := 3) (As := []) (rest := []) hx hb hml hown hts (c_X3_records l D cI cJ cS a S1 _  _ hr2) (cwV 0 hts gX3_coverAll_X3_records rfl rfl rfl (by decide +kernel) ⟨(Nat.le_of_ble_eq_true rfl), (Nat.le_of_ble_eq_true rfl)⟩) hE hP hD hS (fun q h => Or.inr h) rfl rfl rfl hl.1 rfl (Nat.le_of_ble_eq_true rfl) dX3_coverAll_6 ⟨Nat.zero_le _, Nat.zero_le _⟩ (fun H locs hP hD hS => ?_)
  refine lv_aload_n hx hb dX3_coverAll_9 rfl (lv_at hl 0 rfl) ?_
  obtain ⟨r3, hr3, hf⟩ := q_bd_go hf
  refine q_wrVi (ci := 3) (As := []) (rest := []) hx hb hml hown hts (c_X3_coversAll l D cI cJ cS a r2 _  _ hr3) (cwV 0 hts gX3_coverAll_X3_coversAll rfl rfl rfl (by decide +kernel) ⟨(Nat.le_of_ble_eq_true rfl), (Nat.le_of_ble_eq_true rfl)⟩) hE hP hD hS (fun q h => Or.inr h) rfl rfl rfl hl.1 rfl (Nat.le_of_ble_eq_true rfl) dX3_coverAll_10 ⟨Nat.zero_le _, Nat.zero_le _⟩ (fun H locs hP hD hS => ?_)
  have ho := q_some hf
  subst ho
  exact W.iret hx hb hr (fun t ht hW => ⟨rfl, ⟨by rw [ht]; exact hP, hD⟩, hS.F ht⟩) hS.2.2 dX3_coverAll_13
def f_X3_handOver_46 (Sz : MD) (l1 : Int32) (l2 : Int32) (t0 : Int32) : Option (Int32 × MD) := q_let (sMD_thrown Sz t0) fun S5 =>
 if (MD_thrown S5) = 0 then
 ((f_X3_ofA S5 l1 3).bind fun r7 =>
 (f_X3_records S5).bind fun r8 =>
 (f_X3_ofA r8 l1 4).bind fun r9 =>
 if q_in ((6 + (3 * r7)) + 1) 420 = true then
 (if q_in ((6 + (3 * r7)) + 1) 420 = true then
 (q_let (sMD_now r8 (vp_updL (MD_now r8) (((6 + (3 * r7)) + 1) : Int32).toNatClampNeg ((MD_now r8 (((6 + (3 * r7)) + 1) : Int32).toNatClampNeg) - ((r9 : Int32).toInt64)))) fun S12 =>
 if q_in ((6 + (3 * l2)) + 1) 420 = true then
 (if q_in ((6 + (3 * l2)) + 1) 420 = true then
 (q_let (sMD_now S12 (vp_updL (MD_now S12) (((6 + (3 * l2)) + 1) : Int32).toNatClampNeg ((MD_now S12 (((6 + (3 * l2)) + 1) : Int32).toNatClampNeg) + ((r9 : Int32).toInt64)))) fun S15 =>
 (f_X3_becomes S15 l1 3 l2).bind fun r16 =>
 if q_in 5 420 = true then
 (if q_in 5 420 = true then
 (q_let (sMD_now r16 (vp_updL (MD_now r16) (5 : Int32).toNatClampNeg ((MD_now r16 (5 : Int32).toNatClampNeg) + 1))) fun S19 =>
 some (r7, S19)) else none) else none) else none) else none) else none) else none)
 else (some (0, S5))
def f_X3_handOver (S : MD) (p1 : Int32) (p2 : Int32) : Option (Int32 × MD) := (f_X3_areThere S p2 p1).bind fun r1 =>
 if ¬ r1 = 0 then
 ((f_X3_isCovered S p1).bind fun r3 =>
 if r3 = 0 then
 (f_X3_handOver_46 S p1 p2 2)
 else ((f_X3_ofA S p1 3).bind fun r20 =>
 if r20 = p2 then
 (f_X3_handOver_46 S p1 p2 2)
 else ((f_X3_whyNotFor S p2 p1).bind fun r22 =>
 if ¬ r22 = 0 then
 (f_X3_handOver_46 S p1 p2 2)
 else (f_X3_handOver_46 S p1 p2 0))))
 else (f_X3_handOver_46 S p1 p2 1)
abbrev rX3_handOver : Room := { frames := 6, cells := 0, slots := 0, locals := 134 }
set_option maxRecDepth 100000 in
set_option maxHeartbeats 4000000 in
theorem c_X3_handOver (l : Launch) (D : va_G) (cI cJ cS : ClassId) (a : Nat → Nat) (S : MD) (sz : Nat) (p1 : Int32) (p2 : Int32) (o : (Int32 × MD)) (hf : f_X3_handOver S p1 p2 = some o) : Met l yX3_handOver wsX3_handOver rX3_handOver (va_Pc [.ref (a 0), .int p1, .int p2] (q_BW D cI cJ cS (wMD cI cJ a S) sz)) (q_Wo (some (.int o.1)) D (wMD cI cJ a S) (wMD cI cJ a o.2) sz) 0 0 (va_A (wMD cI cJ a S) sz) := by
  refine Met.ofW (cc := cX3_handOver) (maxL := 5) (ret := some .int) (by decide) rfl ?_
  intro p e s m args below meth c s₁ B hml hv
  obtain ⟨rfl, hsz, hP, hE, hD0⟩ := hv
  have hx := B.exec
  have hb := B.bytes
  have hr := B.returns
  have hts := atoms_spec (ws := wsX3_handOver) B.pre
  have hown : s.vm.findClass RX3 = some m.cls := findClass_of_methodNamed B.named
  have hlocks := B.notSynchronized
  have hu : ∀ z ∈ wsX30, z.before _ s = true := fun z h => hts z (List.mem_cons_of_mem _ (List.mem_append_right _ h))
  subst hsz
  have hD := hD0.self (sz := s.heap.size)
  have hS : va_S (va_A (wMD cI cJ a S) s.heap.size) s.heap s.heap [] := va_S.rf
  have B_46 : ∀ (Sz : MD) (H : Heap) (locs : List Loc) (hP : va_P D vwCl (wMD cI cJ a Sz) H) (hD : va_D (va_A (wMD cI cJ a S) s.heap.size) (wMD cI cJ a Sz)) (hS : va_S (va_A (wMD cI cJ a S) s.heap.size) s.heap H locs) (l1 : Int32) (l2 : Int32) (t0 : Int32) (ls : Array Slot), lv_has ls 5 [(0, .ref (a 0)), (1, .int l1), (2, .int l2)] → f_X3_handOver_46 Sz l1 l2 t0 = some o → W p l e (headSpec wsX3_handOver rX3_handOver).room s m (([.ref (a 0), .int p1, .int p2] : List Value).toArray) below meth c H locs 0 0 (MQ below (q_Wo (some (.int o.1)) D (wMD cI cJ a S) (wMD cI cJ a o.2) s.heap.size) (([.ref (a 0), .int p1, .int p2] : List Value).toArray) s 0 0 (va_A (wMD cI cJ a S) s.heap.size)) (F0 m 46 ls [.int t0, .ref (a 0)]) := by
    intro Sz H locs hP hD hS l1 l2 t0 ls hl hf
    unfold f_X3_handOver_46 at hf
    obtain ⟨S5, eS5, hf⟩ := q_let_go hf
    refine va_put (D := D) (ci := 3) (v := .int t0) (ty := .int) (C := RX3) (T := TX3) (N := 15) hx hb hu (fun _ h => h) tyX3 tyX3_ok nmX3 hown hE.1 hP hD hS 0 rfl rfl 3 (Nat.le_of_ble_eq_true rfl) (hts (.fieldLink RX3 30 "CoverMeterModel" "thrown" "I") (List.mem_of_getElem? (i := 1) rfl)) (fun _ h9 => h9) rfl (by decide +kernel) rfl rfl (Nat.le_of_ble_eq_true rfl) dX3_handOver_46 (fun H locs hP hD hS => ?_)
    have hP : va_P D vwCl (wMD cI cJ a (sMD_thrown Sz t0)) H := hP
    have hD : va_D (va_A (wMD cI cJ a S) s.heap.size) (wMD cI cJ a (sMD_thrown Sz t0)) := hD
    rw [eS5] at hP hD
    refine lv_aload_n hx hb dX3_handOver_49 rfl (lv_at hl 0 rfl) ?_
    refine va_get (D := D) (ci := 3) (v := .int (MD_thrown S5)) (C := RX3) (T := TX3) (N := 15) hx hb hu (fun _ h => h) hown hE.1 hP 0 rfl rfl 3 (Nat.le_of_ble_eq_true rfl) (hts (.fieldLink RX3 30 "CoverMeterModel" "thrown" "I") (List.mem_of_getElem? (i := 1) rfl)) (fun _ h9 => h9) rfl dX3_handOver_50 ?_
    refine lv_if_eq (tgt := 58) hx hb dX3_handOver_53 (by decide) (fun c6 => ?_) (fun c6 => ?_)
    · have hf := q_ite_t c6 hf
      refine lv_aload_n hx hb dX3_handOver_58 rfl (lv_at hl 0 rfl) ?_
      refine lv_iload_n hx hb dX3_handOver_59 rfl (lv_at hl 1 rfl) ?_
      refine lv_iconst (v := 3) hx hb dX3_handOver_60 (by decide) ?_
      obtain ⟨r7, hr7, hf⟩ := q_bd_go hf
      refine q_rdVi (ci := 3) (As := [.int l1, .int 3]) (rest := []) hx hb hml hown hts (c_X3_ofA l D cI cJ cS a S5 l1 3 _ hr7) (cwV 2 hts gX3_handOver_X3_ofA rfl rfl rfl (by decide +kernel) ⟨(Nat.le_of_ble_eq_true rfl), (Nat.le_of_ble_eq_true rfl)⟩) hE hP rfl rfl rfl hl.1 rfl (Nat.le_of_ble_eq_true rfl) dX3_handOver_61 ⟨Nat.zero_le _, Nat.zero_le _⟩ ?_
      refine lv_istore_n (lv' := [(3, .int r7), (0, .ref (a 0)), (1, .int l1), (2, .int l2)]) hx hb dX3_handOver_64 rfl hl (by decide) rfl (fun ls hl => ?_)
      refine lv_aload_n hx hb dX3_handOver_65 rfl (lv_at hl 1 rfl) ?_
      obtain ⟨r8, hr8, hf⟩ := q_bd_go hf
      refine q_wrVv (ci := 3) (As := []) (rest := []) hx hb hml hown hts (c_X3_records l D cI cJ cS a S5 _  _ hr8) (cwV 0 hts gX3_handOver_X3_records rfl rfl rfl (by decide +kernel) ⟨(Nat.le_of_ble_eq_true rfl), (Nat.le_of_ble_eq_true rfl)⟩) hE hP hD hS (fun q h => Or.inr h) rfl rfl rfl hl.1 rfl (Nat.le_of_ble_eq_true rfl) dX3_handOver_66 ⟨Nat.zero_le _, Nat.zero_le _⟩ (fun H locs hP hD hS => ?_)
      refine lv_aload_n hx hb dX3_handOver_69 rfl (lv_at hl 1 rfl) ?_
      refine lv_iload_n hx hb dX3_handOver_70 rfl (lv_at hl 2 rfl) ?_
      refine lv_iconst (v := 4) hx hb dX3_handOver_71 (by decide) ?_
      obtain ⟨r9, hr9, hf⟩ := q_bd_go hf
      refine q_rdVi (ci := 3) (As := [.int l1, .int 4]) (rest := []) hx hb hml hown hts (c_X3_ofA l D cI cJ cS a r8 l1 4 _ hr9) (cwV 2 hts gX3_handOver_X3_ofA rfl rfl rfl (by decide +kernel) ⟨(Nat.le_of_ble_eq_true rfl), (Nat.le_of_ble_eq_true rfl)⟩) hE hP rfl rfl rfl hl.1 rfl (Nat.le_of_ble_eq_true rfl) dX3_handOver_72 ⟨Nat.zero_le _, Nat.zero_le _⟩ ?_
      refine lv_istore (lv' := [(4, .int r9), (3, .int r7), (0, .ref (a 0)), (1, .int l1), (2, .int l2)]) hx hb dX3_handOver_75 hl (by decide) rfl (fun ls hl => ?_)
      refine lv_aload_n hx hb dX3_handOver_77 rfl (lv_at hl 2 rfl) ?_
      refine va_get (D := D) (ci := 3) (v := .ref (a 1)) (C := RX3) (T := TX3) (N := 15) hx hb hu (fun _ h => h) hown hE.1 hP 0 rfl rfl 0 (Nat.le_of_ble_eq_true rfl) (hts (.fieldLink RX3 7 "CoverMeterModel" "now" "[J") (List.mem_of_getElem? (i := 2) rfl)) (fun _ h9 => h9) rfl dX3_handOver_78 ?_
      refine lv_bipush (v := 6) hx hb dX3_handOver_81 (by decide) ?_
      refine lv_iconst (v := 3) hx hb dX3_handOver_83 (by decide) ?_
      refine lv_iload_n hx hb dX3_handOver_84 rfl (lv_at hl 1 rfl) ?_
      refine lv_imul hx hb dX3_handOver_85 ?_
      refine lv_iadd hx hb dX3_handOver_86 ?_
      refine lv_iconst (v := 1) hx hb dX3_handOver_87 (by decide) ?_
      refine lv_iadd hx hb dX3_handOver_88 ?_
      refine lv_dup2_11 hx hb dX3_handOver_89 rfl rfl ?_
      have hi10 := q_gd_in hf
      have hf := q_gd_go hf
      refine va_lald hx hb hE.1 hP 1 1 rfl rfl hi10 dX3_handOver_90 ?_
      refine lv_iload hx hb dX3_handOver_91 (lv_at hl 0 rfl) ?_
      refine lv_i2l (v := ((r9 : Int32).toInt64)) hx hb dX3_handOver_93 rfl ?_
      refine lv_lsub hx hb dX3_handOver_94 ?_
      have hi11 := q_gd_in hf
      have hf := q_gd_go hf
      obtain ⟨S12, eS12, hf⟩ := q_let_go hf
      refine va_last hx hb hE.1 hP hD hS 1 1 rfl rfl hi11 dX3_handOver_95 (fun H locs hP hD hS => ?_)
      have hP : va_P D vwCl (wMD cI cJ a (sMD_now r8 (vp_updL (MD_now r8) (((6 + (3 * r7)) + 1) : Int32).toNatClampNeg ((MD_now r8 (((6 + (3 * r7)) + 1) : Int32).toNatClampNeg) - ((r9 : Int32).toInt64))))) H := hP
      have hD : va_D (va_A (wMD cI cJ a S) s.heap.size) (wMD cI cJ a (sMD_now r8 (vp_updL (MD_now r8) (((6 + (3 * r7)) + 1) : Int32).toNatClampNeg ((MD_now r8 (((6 + (3 * r7)) + 1) : Int32).toNatClampNeg) - ((r9 : Int32).toInt64))))) := hD
      rw [eS12] at hP hD
      refine lv_aload_n hx hb dX3_handOver_96 rfl (lv_at hl 2 rfl) ?_
      refine va_get (D := D) (ci := 3) (v := .ref (a 1)) (C := RX3) (T := TX3) (N := 15) hx hb hu (fun _ h => h) hown hE.1 hP 0 rfl rfl 0 (Nat.le_of_ble_eq_true rfl) (hts (.fieldLink RX3 7 "CoverMeterModel" "now" "[J") (List.mem_of_getElem? (i := 2) rfl)) (fun _ h9 => h9) rfl dX3_handOver_97 ?_
      refine lv_bipush (v := 6) hx hb dX3_handOver_100 (by decide) ?_
      refine lv_iconst (v := 3) hx hb dX3_handOver_102 (by decide) ?_
      refine lv_iload_n hx hb dX3_handOver_103 rfl (lv_at hl 4 rfl) ?_
      refine lv_imul hx hb dX3_handOver_104 ?_
      refine lv_iadd hx hb dX3_handOver_105 ?_
      refine lv_iconst (v := 1) hx hb dX3_handOver_106 (by decide) ?_
      refine lv_iadd hx hb dX3_handOver_107 ?_
      refine lv_dup2_11 hx hb dX3_handOver_108 rfl rfl ?_
      have hi13 := q_gd_in hf
      have hf := q_gd_go hf
      refine va_lald hx hb hE.1 hP 1 1 rfl rfl hi13 dX3_handOver_109 ?_
      refine lv_iload hx hb dX3_handOver_110 (lv_at hl 0 rfl) ?_
      refine lv_i2l (v := ((r9 : Int32).toInt64)) hx hb dX3_handOver_112 rfl ?_
      refine lv_ladd hx hb dX3_handOver_113 ?_
      have hi14 := q_gd_in hf
      have hf := q_gd_go hf
      obtain ⟨S15, eS15, hf⟩ := q_let_go hf
      refine va_last hx hb hE.1 hP hD hS 1 1 rfl rfl hi14 dX3_handOver_114 (fun H locs hP hD hS => ?_)
      have hP : va_P D vwCl (wMD cI cJ a (sMD_now S12 (vp_updL (MD_now S12) (((6 + (3 * l2)) + 1) : Int32).toNatClampNeg ((MD_now S12 (((6 + (3 * l2)) + 1) : Int32).toNatClampNeg) + ((r9 : Int32).toInt64))))) H := hP
      have hD : va_D (va_A (wMD cI cJ a S) s.heap.size) (wMD cI cJ a (sMD_now S12 (vp_updL (MD_now S12) (((6 + (3 * l2)) + 1) : Int32).toNatClampNeg ((MD_now S12 (((6 + (3 * l2)) + 1) : Int32).toNatClampNeg) + ((r9 : Int32).toInt64))))) := hD
      rw [eS15] at hP hD
      refine lv_aload_n hx hb dX3_handOver_115 rfl (lv_at hl 2 rfl) ?_
      refine lv_iload_n hx hb dX3_handOver_116 rfl (lv_at hl 3 rfl) ?_
      refine lv_iconst (v := 3) hx hb dX3_handOver_117 (by decide) ?_
      refine lv_iload_n hx hb dX3_handOver_118 rfl (lv_at hl 4 rfl) ?_
      obtain ⟨r16, hr16, hf⟩ := q_bd_go hf
      refine q_wrVv (ci := 3) (As := [.int l1, .int 3, .int l2]) (rest := []) hx hb hml hown hts (c_X3_becomes l D cI cJ cS a S15 _ l1 3 l2 _ hr16) (cwV 3 hts gX3_handOver_X3_becomes rfl rfl rfl (by decide +kernel) ⟨(Nat.le_of_ble_eq_true rfl), (Nat.le_of_ble_eq_true rfl)⟩) hE hP hD hS (fun q h => Or.inr h) rfl rfl rfl hl.1 rfl (Nat.le_of_ble_eq_true rfl) dX3_handOver_119 ⟨Nat.zero_le _, Nat.zero_le _⟩ (fun H locs hP hD hS => ?_)
      refine lv_aload_n hx hb dX3_handOver_122 rfl (lv_at hl 2 rfl) ?_
      refine va_get (D := D) (ci := 3) (v := .ref (a 1)) (C := RX3) (T := TX3) (N := 15) hx hb hu (fun _ h => h) hown hE.1 hP 0 rfl rfl 0 (Nat.le_of_ble_eq_true rfl) (hts (.fieldLink RX3 7 "CoverMeterModel" "now" "[J") (List.mem_of_getElem? (i := 2) rfl)) (fun _ h9 => h9) rfl dX3_handOver_123 ?_
      refine lv_iconst (v := 5) hx hb dX3_handOver_126 (by decide) ?_
      refine lv_dup2_11 hx hb dX3_handOver_127 rfl rfl ?_
      have hi17 := q_gd_in hf
      have hf := q_gd_go hf
      refine va_lald hx hb hE.1 hP 1 1 rfl rfl hi17 dX3_handOver_128 ?_
      refine lv_lconst (v := 1) hx hb dX3_handOver_129 (by decide) ?_
      refine lv_ladd hx hb dX3_handOver_130 ?_
      have hi18 := q_gd_in hf
      have hf := q_gd_go hf
      obtain ⟨S19, eS19, hf⟩ := q_let_go hf
      refine va_last hx hb hE.1 hP hD hS 1 1 rfl rfl hi18 dX3_handOver_131 (fun H locs hP hD hS => ?_)
      have hP : va_P D vwCl (wMD cI cJ a (sMD_now r16 (vp_updL (MD_now r16) (5 : Int32).toNatClampNeg ((MD_now r16 (5 : Int32).toNatClampNeg) + 1)))) H := hP
      have hD : va_D (va_A (wMD cI cJ a S) s.heap.size) (wMD cI cJ a (sMD_now r16 (vp_updL (MD_now r16) (5 : Int32).toNatClampNeg ((MD_now r16 (5 : Int32).toNatClampNeg) + 1)))) := hD
      rw [eS19] at hP hD
      refine lv_iload_n hx hb dX3_handOver_132 rfl (lv_at hl 1 rfl) ?_
      have ho := q_some hf
      subst ho
      exact W.iret hx hb hr (fun t ht hW => ⟨rfl, ⟨by rw [ht]; exact hP, hD⟩, hS.F ht⟩) hS.2.2 dX3_handOver_133
    · have hf := q_ite_f c6 hf
      refine lv_iconst (v := 0) hx hb dX3_handOver_56 (by decide) ?_
      have ho := q_some hf
      subst ho
      exact W.iret hx hb hr (fun t ht hW => ⟨rfl, ⟨by rw [ht]; exact hP, hD⟩, hS.F ht⟩) hS.2.2 dX3_handOver_57
  have hl := lv_entry ([.ref (a 0), .int p1, .int p2]) (n := 5) (Nat.le_of_ble_eq_true rfl)
  rw [lg_entry_eq]
  generalize (lg_sl ([.ref (a 0), .int p1, .int p2]) ++ List.replicate (5 - (lg_sl ([.ref (a 0), .int p1, .int p2])).length) Slot.unset).toArray = ls at hl ⊢
  have hl : lv_has ls 5 [(0, .ref (a 0)), (1, .int p1), (2, .int p2)] := hl
  unfold f_X3_handOver at hf
  refine lv_aload_n hx hb dX3_handOver_0 rfl (lv_at hl 0 rfl) ?_
  refine lv_aload_n hx hb dX3_handOver_1 rfl (lv_at hl 0 rfl) ?_
  refine lv_iload_n hx hb dX3_handOver_2 rfl (lv_at hl 2 rfl) ?_
  refine lv_iload_n hx hb dX3_handOver_3 rfl (lv_at hl 1 rfl) ?_
  obtain ⟨r1, hr1, hf⟩ := q_bd_go hf
  refine q_rdVi (ci := 3) (As := [.int p2, .int p1]) (rest := [.ref (a 0)]) hx hb hml hown hts (c_X3_areThere l D cI cJ cS a S p2 p1 _ hr1) (cwV 2 hts gX3_handOver_X3_areThere rfl rfl rfl (by decide +kernel) ⟨(Nat.le_of_ble_eq_true rfl), (Nat.le_of_ble_eq_true rfl)⟩) hE hP rfl rfl rfl hl.1 rfl (Nat.le_of_ble_eq_true rfl) dX3_handOver_4 ⟨Nat.zero_le _, Nat.zero_le _⟩ ?_
  refine lv_if_ne (tgt := 14) hx hb dX3_handOver_7 (by decide) (fun c2 => ?_) (fun c2 => ?_)
  · have hf := q_ite_t c2 hf
    refine lv_aload_n hx hb dX3_handOver_14 rfl (lv_at hl 0 rfl) ?_
    refine lv_iload_n hx hb dX3_handOver_15 rfl (lv_at hl 1 rfl) ?_
    obtain ⟨r3, hr3, hf⟩ := q_bd_go hf
    refine q_rdVi (ci := 3) (As := [.int p1]) (rest := [.ref (a 0)]) hx hb hml hown hts (c_X3_isCovered l D cI cJ cS a S p1 _ hr3) (cwV 1 hts gX3_handOver_X3_isCovered rfl rfl rfl (by decide +kernel) ⟨(Nat.le_of_ble_eq_true rfl), (Nat.le_of_ble_eq_true rfl)⟩) hE hP rfl rfl rfl hl.1 rfl (Nat.le_of_ble_eq_true rfl) dX3_handOver_16 ⟨Nat.zero_le _, Nat.zero_le _⟩ ?_
    refine lv_if_eq (tgt := 45) hx hb dX3_handOver_19 (by decide) (fun c4 => ?_) (fun c4 => ?_)
    · have hf := q_ite_t c4 hf
      refine lv_iconst (v := 2) hx hb dX3_handOver_45 (by decide) ?_
      exact B_46 S _ _ hP hD hS p1 p2 2 _ (lv_sub hl [0, 1, 2] rfl) hf
    · have hf := q_ite_f c4 hf
      refine lv_aload_n hx hb dX3_handOver_22 rfl (lv_at hl 0 rfl) ?_
      refine lv_iload_n hx hb dX3_handOver_23 rfl (lv_at hl 1 rfl) ?_
      refine lv_iconst (v := 3) hx hb dX3_handOver_24 (by decide) ?_
      obtain ⟨r20, hr20, hf⟩ := q_bd_go hf
      refine q_rdVi (ci := 3) (As := [.int p1, .int 3]) (rest := [.ref (a 0)]) hx hb hml hown hts (c_X3_ofA l D cI cJ cS a S p1 3 _ hr20) (cwV 2 hts gX3_handOver_X3_ofA rfl rfl rfl (by decide +kernel) ⟨(Nat.le_of_ble_eq_true rfl), (Nat.le_of_ble_eq_true rfl)⟩) hE hP rfl rfl rfl hl.1 rfl (Nat.le_of_ble_eq_true rfl) dX3_handOver_25 ⟨Nat.zero_le _, Nat.zero_le _⟩ ?_
      refine lv_iload_n hx hb dX3_handOver_28 rfl (lv_at hl 2 rfl) ?_
      refine lv_icmp_eq (tgt := 45) hx hb dX3_handOver_29 (by decide) (fun c21 => ?_) (fun c21 => ?_)
      · have hf := q_ite_t c21 hf
        refine lv_iconst (v := 2) hx hb dX3_handOver_45 (by decide) ?_
        exact B_46 S _ _ hP hD hS p1 p2 2 _ (lv_sub hl [0, 1, 2] rfl) hf
      · have hf := q_ite_f c21 hf
        refine lv_aload_n hx hb dX3_handOver_32 rfl (lv_at hl 0 rfl) ?_
        refine lv_iload_n hx hb dX3_handOver_33 rfl (lv_at hl 2 rfl) ?_
        refine lv_iload_n hx hb dX3_handOver_34 rfl (lv_at hl 1 rfl) ?_
        obtain ⟨r22, hr22, hf⟩ := q_bd_go hf
        refine q_rdVi (ci := 3) (As := [.int p2, .int p1]) (rest := [.ref (a 0)]) hx hb hml hown hts (c_X3_whyNotFor l D cI cJ cS a S p2 p1 _ hr22) (cwV 2 hts gX3_handOver_X3_whyNotFor rfl rfl rfl (by decide +kernel) ⟨(Nat.le_of_ble_eq_true rfl), (Nat.le_of_ble_eq_true rfl)⟩) hE hP rfl rfl rfl hl.1 rfl (Nat.le_of_ble_eq_true rfl) dX3_handOver_35 ⟨Nat.zero_le _, Nat.zero_le _⟩ ?_
        refine lv_if_ne (tgt := 45) hx hb dX3_handOver_38 (by decide) (fun c23 => ?_) (fun c23 => ?_)
        · have hf := q_ite_t c23 hf
          refine lv_iconst (v := 2) hx hb dX3_handOver_45 (by decide) ?_
          exact B_46 S _ _ hP hD hS p1 p2 2 _ (lv_sub hl [0, 1, 2] rfl) hf
        · have hf := q_ite_n c23 hf
          refine lv_iconst (v := 0) hx hb dX3_handOver_41 (by decide) ?_
          refine lv_goto (tgt := 46) hx hb dX3_handOver_42 (by decide) ?_
          exact B_46 S _ _ hP hD hS p1 p2 0 _ (lv_sub hl [0, 1, 2] rfl) hf
  · have hf := q_ite_n c2 hf
    refine lv_iconst (v := 1) hx hb dX3_handOver_10 (by decide) ?_
    refine lv_goto (tgt := 46) hx hb dX3_handOver_11 (by decide) ?_
    exact B_46 S _ _ hP hD hS p1 p2 1 _ (lv_sub hl [0, 1, 2] rfl) hf
def f_X3_giveUp_27 (Sz : MD) (l1 : Int32) (t0 : Int32) : Option (Int32 × MD) := q_let (sMD_thrown Sz t0) fun S5 =>
 if (MD_thrown S5) = 0 then
 ((f_X3_records S5).bind fun r7 =>
 (f_X3_bids r7 l1).bind fun r8 =>
 (f_X3_becomes r7 l1 2 3).bind fun r9 =>
 (f_X3_clearsBids r9 l1).bind fun r10 =>
 some (r8, r10))
 else (some (0, S5))
def f_X3_giveUp (S : MD) (p1 : Int32) : Option (Int32 × MD) := (f_X3_isAbsence S p1).bind fun r1 =>
 if ¬ r1 = 0 then
 ((f_X3_ofA S p1 2).bind fun r3 =>
 if ¬ r3 = 0 then
 (f_X3_giveUp_27 S p1 2)
 else (f_X3_giveUp_27 S p1 0))
 else (f_X3_giveUp_27 S p1 1)
abbrev rX3_giveUp : Room := { frames := 2, cells := 0, slots := 0, locals := 46 }
set_option maxRecDepth 100000 in
set_option maxHeartbeats 4000000 in
theorem c_X3_giveUp (l : Launch) (D : va_G) (cI cJ cS : ClassId) (a : Nat → Nat) (S : MD) (sz : Nat) (p1 : Int32) (o : (Int32 × MD)) (hf : f_X3_giveUp S p1 = some o) : Met l yX3_giveUp wsX3_giveUp rX3_giveUp (va_Pc [.ref (a 0), .int p1] (q_BW D cI cJ cS (wMD cI cJ a S) sz)) (q_Wo (some (.int o.1)) D (wMD cI cJ a S) (wMD cI cJ a o.2) sz) 0 0 (va_A (wMD cI cJ a S) sz) := by
  refine Met.ofW (cc := cX3_giveUp) (maxL := 3) (ret := some .int) (by decide) rfl ?_
  intro p e s m args below meth c s₁ B hml hv
  obtain ⟨rfl, hsz, hP, hE, hD0⟩ := hv
  have hx := B.exec
  have hb := B.bytes
  have hr := B.returns
  have hts := atoms_spec (ws := wsX3_giveUp) B.pre
  have hown : s.vm.findClass RX3 = some m.cls := findClass_of_methodNamed B.named
  have hlocks := B.notSynchronized
  have hu : ∀ z ∈ wsX30, z.before _ s = true := fun z h => hts z (List.mem_cons_of_mem _ (List.mem_append_right _ h))
  subst hsz
  have hD := hD0.self (sz := s.heap.size)
  have hS : va_S (va_A (wMD cI cJ a S) s.heap.size) s.heap s.heap [] := va_S.rf
  have B_27 : ∀ (Sz : MD) (H : Heap) (locs : List Loc) (hP : va_P D vwCl (wMD cI cJ a Sz) H) (hD : va_D (va_A (wMD cI cJ a S) s.heap.size) (wMD cI cJ a Sz)) (hS : va_S (va_A (wMD cI cJ a S) s.heap.size) s.heap H locs) (l1 : Int32) (t0 : Int32) (ls : Array Slot), lv_has ls 3 [(0, .ref (a 0)), (1, .int l1)] → f_X3_giveUp_27 Sz l1 t0 = some o → W p l e (headSpec wsX3_giveUp rX3_giveUp).room s m (([.ref (a 0), .int p1] : List Value).toArray) below meth c H locs 0 0 (MQ below (q_Wo (some (.int o.1)) D (wMD cI cJ a S) (wMD cI cJ a o.2) s.heap.size) (([.ref (a 0), .int p1] : List Value).toArray) s 0 0 (va_A (wMD cI cJ a S) s.heap.size)) (F0 m 27 ls [.int t0, .ref (a 0)]) := by
    intro Sz H locs hP hD hS l1 t0 ls hl hf
    unfold f_X3_giveUp_27 at hf
    obtain ⟨S5, eS5, hf⟩ := q_let_go hf
    refine va_put (D := D) (ci := 3) (v := .int t0) (ty := .int) (C := RX3) (T := TX3) (N := 15) hx hb hu (fun _ h => h) tyX3 tyX3_ok nmX3 hown hE.1 hP hD hS 0 rfl rfl 3 (Nat.le_of_ble_eq_true rfl) (hts (.fieldLink RX3 30 "CoverMeterModel" "thrown" "I") (List.mem_of_getElem? (i := 1) rfl)) (fun _ h9 => h9) rfl (by decide +kernel) rfl rfl (Nat.le_of_ble_eq_true rfl) dX3_giveUp_27 (fun H locs hP hD hS => ?_)
    have hP : va_P D vwCl (wMD cI cJ a (sMD_thrown Sz t0)) H := hP
    have hD : va_D (va_A (wMD cI cJ a S) s.heap.size) (wMD cI cJ a (sMD_thrown Sz t0)) := hD
    rw [eS5] at hP hD
    refine lv_aload_n hx hb dX3_giveUp_30 rfl (lv_at hl 0 rfl) ?_
    refine va_get (D := D) (ci := 3) (v := .int (MD_thrown S5)) (C := RX3) (T := TX3) (N := 15) hx hb hu (fun _ h => h) hown hE.1 hP 0 rfl rfl 3 (Nat.le_of_ble_eq_true rfl) (hts (.fieldLink RX3 30 "CoverMeterModel" "thrown" "I") (List.mem_of_getElem? (i := 1) rfl)) (fun _ h9 => h9) rfl dX3_giveUp_31 ?_
    refine lv_if_eq (tgt := 39) hx hb dX3_giveUp_34 (by decide) (fun c6 => ?_) (fun c6 => ?_)
    · have hf := q_ite_t c6 hf
      refine lv_aload_n hx hb dX3_giveUp_39 rfl (lv_at hl 0 rfl) ?_
      obtain ⟨r7, hr7, hf⟩ := q_bd_go hf
      refine q_wrVv (ci := 3) (As := []) (rest := []) hx hb hml hown hts (c_X3_records l D cI cJ cS a S5 _  _ hr7) (cwV 0 hts gX3_giveUp_X3_records rfl rfl rfl (by decide +kernel) ⟨(Nat.le_of_ble_eq_true rfl), (Nat.le_of_ble_eq_true rfl)⟩) hE hP hD hS (fun q h => Or.inr h) rfl rfl rfl hl.1 rfl (Nat.le_of_ble_eq_true rfl) dX3_giveUp_40 ⟨Nat.zero_le _, Nat.zero_le _⟩ (fun H locs hP hD hS => ?_)
      refine lv_aload_n hx hb dX3_giveUp_43 rfl (lv_at hl 0 rfl) ?_
      refine lv_iload_n hx hb dX3_giveUp_44 rfl (lv_at hl 1 rfl) ?_
      obtain ⟨r8, hr8, hf⟩ := q_bd_go hf
      refine q_rdVi (ci := 3) (As := [.int l1]) (rest := []) hx hb hml hown hts (c_X3_bids l D cI cJ cS a r7 l1 _ hr8) (cwV 1 hts gX3_giveUp_X3_bids rfl rfl rfl (by decide +kernel) ⟨(Nat.le_of_ble_eq_true rfl), (Nat.le_of_ble_eq_true rfl)⟩) hE hP rfl rfl rfl hl.1 rfl (Nat.le_of_ble_eq_true rfl) dX3_giveUp_45 ⟨Nat.zero_le _, Nat.zero_le _⟩ ?_
      refine lv_istore_n (lv' := [(2, .int r8), (0, .ref (a 0)), (1, .int l1)]) hx hb dX3_giveUp_48 rfl hl (by decide) rfl (fun ls hl => ?_)
      refine lv_aload_n hx hb dX3_giveUp_49 rfl (lv_at hl 1 rfl) ?_
      refine lv_iload_n hx hb dX3_giveUp_50 rfl (lv_at hl 2 rfl) ?_
      refine lv_iconst (v := 2) hx hb dX3_giveUp_51 (by decide) ?_
      refine lv_iconst (v := 3) hx hb dX3_giveUp_52 (by decide) ?_
      obtain ⟨r9, hr9, hf⟩ := q_bd_go hf
      refine q_wrVv (ci := 3) (As := [.int l1, .int 2, .int 3]) (rest := []) hx hb hml hown hts (c_X3_becomes l D cI cJ cS a r7 _ l1 2 3 _ hr9) (cwV 3 hts gX3_giveUp_X3_becomes rfl rfl rfl (by decide +kernel) ⟨(Nat.le_of_ble_eq_true rfl), (Nat.le_of_ble_eq_true rfl)⟩) hE hP hD hS (fun q h => Or.inr h) rfl rfl rfl hl.1 rfl (Nat.le_of_ble_eq_true rfl) dX3_giveUp_53 ⟨Nat.zero_le _, Nat.zero_le _⟩ (fun H locs hP hD hS => ?_)
      refine lv_aload_n hx hb dX3_giveUp_56 rfl (lv_at hl 1 rfl) ?_
      refine lv_iload_n hx hb dX3_giveUp_57 rfl (lv_at hl 2 rfl) ?_
      obtain ⟨r10, hr10, hf⟩ := q_bd_go hf
      refine q_wrVv (ci := 3) (As := [.int l1]) (rest := []) hx hb hml hown hts (c_X3_clearsBids l D cI cJ cS a r9 _ l1 _ hr10) (cwV 1 hts gX3_giveUp_X3_clearsBids rfl rfl rfl (by decide +kernel) ⟨(Nat.le_of_ble_eq_true rfl), (Nat.le_of_ble_eq_true rfl)⟩) hE hP hD hS (fun q h => Or.inr h) rfl rfl rfl hl.1 rfl (Nat.le_of_ble_eq_true rfl) dX3_giveUp_58 ⟨Nat.zero_le _, Nat.zero_le _⟩ (fun H locs hP hD hS => ?_)
      refine lv_iload_n hx hb dX3_giveUp_61 rfl (lv_at hl 0 rfl) ?_
      have ho := q_some hf
      subst ho
      exact W.iret hx hb hr (fun t ht hW => ⟨rfl, ⟨by rw [ht]; exact hP, hD⟩, hS.F ht⟩) hS.2.2 dX3_giveUp_62
    · have hf := q_ite_f c6 hf
      refine lv_iconst (v := 0) hx hb dX3_giveUp_37 (by decide) ?_
      have ho := q_some hf
      subst ho
      exact W.iret hx hb hr (fun t ht hW => ⟨rfl, ⟨by rw [ht]; exact hP, hD⟩, hS.F ht⟩) hS.2.2 dX3_giveUp_38
  have hl := lv_entry ([.ref (a 0), .int p1]) (n := 3) (Nat.le_of_ble_eq_true rfl)
  rw [lg_entry_eq]
  generalize (lg_sl ([.ref (a 0), .int p1]) ++ List.replicate (3 - (lg_sl ([.ref (a 0), .int p1])).length) Slot.unset).toArray = ls at hl ⊢
  have hl : lv_has ls 3 [(0, .ref (a 0)), (1, .int p1)] := hl
  unfold f_X3_giveUp at hf
  refine lv_aload_n hx hb dX3_giveUp_0 rfl (lv_at hl 0 rfl) ?_
  refine lv_aload_n hx hb dX3_giveUp_1 rfl (lv_at hl 0 rfl) ?_
  refine lv_iload_n hx hb dX3_giveUp_2 rfl (lv_at hl 1 rfl) ?_
  obtain ⟨r1, hr1, hf⟩ := q_bd_go hf
  refine q_rdVi (ci := 3) (As := [.int p1]) (rest := [.ref (a 0)]) hx hb hml hown hts (c_X3_isAbsence l D cI cJ cS a S p1 _ hr1) (cwV 1 hts gX3_giveUp_X3_isAbsence rfl rfl rfl (by decide +kernel) ⟨(Nat.le_of_ble_eq_true rfl), (Nat.le_of_ble_eq_true rfl)⟩) hE hP rfl rfl rfl hl.1 rfl (Nat.le_of_ble_eq_true rfl) dX3_giveUp_3 ⟨Nat.zero_le _, Nat.zero_le _⟩ ?_
  refine lv_if_ne (tgt := 13) hx hb dX3_giveUp_6 (by decide) (fun c2 => ?_) (fun c2 => ?_)
  · have hf := q_ite_t c2 hf
    refine lv_aload_n hx hb dX3_giveUp_13 rfl (lv_at hl 0 rfl) ?_
    refine lv_iload_n hx hb dX3_giveUp_14 rfl (lv_at hl 1 rfl) ?_
    refine lv_iconst (v := 2) hx hb dX3_giveUp_15 (by decide) ?_
    obtain ⟨r3, hr3, hf⟩ := q_bd_go hf
    refine q_rdVi (ci := 3) (As := [.int p1, .int 2]) (rest := [.ref (a 0)]) hx hb hml hown hts (c_X3_ofA l D cI cJ cS a S p1 2 _ hr3) (cwV 2 hts gX3_giveUp_X3_ofA rfl rfl rfl (by decide +kernel) ⟨(Nat.le_of_ble_eq_true rfl), (Nat.le_of_ble_eq_true rfl)⟩) hE hP rfl rfl rfl hl.1 rfl (Nat.le_of_ble_eq_true rfl) dX3_giveUp_16 ⟨Nat.zero_le _, Nat.zero_le _⟩ ?_
    refine lv_if_ne (tgt := 26) hx hb dX3_giveUp_19 (by decide) (fun c4 => ?_) (fun c4 => ?_)
    · have hf := q_ite_t c4 hf
      refine lv_iconst (v := 2) hx hb dX3_giveUp_26 (by decide) ?_
      exact B_27 S _ _ hP hD hS p1 2 _ (lv_sub hl [0, 1] rfl) hf
    · have hf := q_ite_n c4 hf
      refine lv_iconst (v := 0) hx hb dX3_giveUp_22 (by decide) ?_
      refine lv_goto (tgt := 27) hx hb dX3_giveUp_23 (by decide) ?_
      exact B_27 S _ _ hP hD hS p1 0 _ (lv_sub hl [0, 1] rfl) hf
  · have hf := q_ite_n c2 hf
    refine lv_iconst (v := 1) hx hb dX3_giveUp_9 (by decide) ?_
    refine lv_goto (tgt := 27) hx hb dX3_giveUp_10 (by decide) ?_
    exact B_27 S _ _ hP hD hS p1 1 _ (lv_sub hl [0, 1] rfl) hf
