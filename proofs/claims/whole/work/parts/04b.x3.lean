def f_X3_worksIn (S : MD) (p1 : Int32) (p2 : Int32) : Option Int32 := (f_X3_isIn ((p2 : Int32).toInt64) 0 41).bind fun r1 =>
 if r1 = 0 then
 (some 0)
 else ((f_X3_isRostered S p1 p2).bind fun r3 =>
 if r3 = 0 then
 ((f_X3_coversIn S p1 p2).bind fun r5 =>
 if r5 = 0 then
 (some 0)
 else (some 1))
 else ((f_X3_isAbsent S p1 p2).bind fun r7 =>
 if r7 = 0 then
 (some 1)
 else ((f_X3_coversIn S p1 p2).bind fun r9 =>
 if r9 = 0 then
 (some 0)
 else (some 1))))
abbrev rX3_worksIn : Room := { frames := 3, cells := 0, slots := 0, locals := 67 }
set_option maxRecDepth 100000 in
set_option maxHeartbeats 4000000 in
theorem c_X3_worksIn (l : Launch) (D : va_G) (cI cJ cS : ClassId) (a : Nat → Nat) (S : MD) (p1 : Int32) (p2 : Int32) (o : Int32) (hf : f_X3_worksIn S p1 p2 = some o) : Met l yX3_worksIn wsX3_worksIn rX3_worksIn (va_Pc [.ref (a 0), .int p1, .int p2] (q_B D cI cJ cS (wMD cI cJ a S))) (q_Ri o) 0 0 (fun _ => False) := by
  refine Met.ofW (cc := cX3_worksIn) (maxL := 3) (ret := some .boolean) (by decide) rfl ?_
  intro p e s m args below meth c s₁ B hml hv
  obtain ⟨rfl, hP, hE⟩ := hv
  have hx := B.exec
  have hb := B.bytes
  have hr := B.returns
  have hts := atoms_spec (ws := wsX3_worksIn) B.pre
  have hown : s.vm.findClass RX3 = some m.cls := findClass_of_methodNamed B.named
  have hlocks := B.notSynchronized
  have hl := lv_entry ([.ref (a 0), .int p1, .int p2]) (n := 3) (Nat.le_of_ble_eq_true rfl)
  rw [lg_entry_eq]
  generalize (lg_sl ([.ref (a 0), .int p1, .int p2]) ++ List.replicate (3 - (lg_sl ([.ref (a 0), .int p1, .int p2])).length) Slot.unset).toArray = ls at hl ⊢
  have hl : lv_has ls 3 [(0, .ref (a 0)), (1, .int p1), (2, .int p2)] := hl
  unfold f_X3_worksIn at hf
  refine lv_iload_n hx hb dX3_worksIn_0 rfl (lv_at hl 2 rfl) ?_
  refine lv_i2l (v := ((p2 : Int32).toInt64)) hx hb dX3_worksIn_1 rfl ?_
  refine lv_lconst (v := 0) hx hb dX3_worksIn_2 (by decide) ?_
  refine lv_ldc2 (v := 41) hx hb hown (hts (.constantLong RX3 66 (41)) (List.mem_of_getElem? (i := 1) rfl)) dX3_worksIn_3 ?_
  obtain ⟨r1, hr1, hf⟩ := q_bd_go hf
  refine q_rdSi (As := [.long ((p2 : Int32).toInt64), .long 0, .long 41]) (rest := []) hx hb hml hown hts (c_X3_isIn l D cI cJ cS ((p2 : Int32).toInt64) 0 41 _ hr1) (va_cwS 3 hts gX3_worksIn_X3_isIn rfl rfl rfl (by decide +kernel) ⟨(Nat.le_of_ble_eq_true rfl), (Nat.le_of_ble_eq_true rfl)⟩) hE rfl hl.1 rfl (Nat.le_of_ble_eq_true rfl) dX3_worksIn_6 ⟨Nat.zero_le _, Nat.zero_le _⟩ ?_
  refine lv_if_eq (tgt := 43) hx hb dX3_worksIn_9 (by decide) (fun c2 => ?_) (fun c2 => ?_)
  · have hf := q_ite_t c2 hf
    refine lv_iconst (v := 0) hx hb dX3_worksIn_43 (by decide) ?_
    have ho := q_some hf
    subst ho
    exact W.zret hx hb hr rfl (fun t ht hW => ⟨rfl, ht⟩) t_nil dX3_worksIn_44
  · have hf := q_ite_f c2 hf
    refine lv_aload_n hx hb dX3_worksIn_12 rfl (lv_at hl 0 rfl) ?_
    refine lv_iload_n hx hb dX3_worksIn_13 rfl (lv_at hl 1 rfl) ?_
    refine lv_iload_n hx hb dX3_worksIn_14 rfl (lv_at hl 2 rfl) ?_
    obtain ⟨r3, hr3, hf⟩ := q_bd_go hf
    refine q_rdVi (ci := 3) (As := [.int p1, .int p2]) (rest := []) hx hb hml hown hts (c_X3_isRostered l D cI cJ cS a S p1 p2 _ hr3) (cwV 2 hts gX3_worksIn_X3_isRostered rfl rfl rfl (by decide +kernel) ⟨(Nat.le_of_ble_eq_true rfl), (Nat.le_of_ble_eq_true rfl)⟩) hE hP rfl rfl rfl hl.1 rfl (Nat.le_of_ble_eq_true rfl) dX3_worksIn_15 ⟨Nat.zero_le _, Nat.zero_le _⟩ ?_
    refine lv_if_eq (tgt := 30) hx hb dX3_worksIn_18 (by decide) (fun c4 => ?_) (fun c4 => ?_)
    · have hf := q_ite_t c4 hf
      refine lv_aload_n hx hb dX3_worksIn_30 rfl (lv_at hl 0 rfl) ?_
      refine lv_iload_n hx hb dX3_worksIn_31 rfl (lv_at hl 1 rfl) ?_
      refine lv_iload_n hx hb dX3_worksIn_32 rfl (lv_at hl 2 rfl) ?_
      obtain ⟨r5, hr5, hf⟩ := q_bd_go hf
      refine q_rdVi (ci := 3) (As := [.int p1, .int p2]) (rest := []) hx hb hml hown hts (c_X3_coversIn l D cI cJ cS a S p1 p2 _ hr5) (cwV 2 hts gX3_worksIn_X3_coversIn rfl rfl rfl (by decide +kernel) ⟨(Nat.le_of_ble_eq_true rfl), (Nat.le_of_ble_eq_true rfl)⟩) hE hP rfl rfl rfl hl.1 rfl (Nat.le_of_ble_eq_true rfl) dX3_worksIn_33 ⟨Nat.zero_le _, Nat.zero_le _⟩ ?_
      refine lv_if_eq (tgt := 43) hx hb dX3_worksIn_36 (by decide) (fun c6 => ?_) (fun c6 => ?_)
      · have hf := q_ite_t c6 hf
        refine lv_iconst (v := 0) hx hb dX3_worksIn_43 (by decide) ?_
        have ho := q_some hf
        subst ho
        exact W.zret hx hb hr rfl (fun t ht hW => ⟨rfl, ht⟩) t_nil dX3_worksIn_44
      · have hf := q_ite_f c6 hf
        refine lv_iconst (v := 1) hx hb dX3_worksIn_39 (by decide) ?_
        refine lv_goto (tgt := 44) hx hb dX3_worksIn_40 (by decide) ?_
        have ho := q_some hf
        subst ho
        exact W.zret hx hb hr rfl (fun t ht hW => ⟨rfl, ht⟩) t_nil dX3_worksIn_44
    · have hf := q_ite_f c4 hf
      refine lv_aload_n hx hb dX3_worksIn_21 rfl (lv_at hl 0 rfl) ?_
      refine lv_iload_n hx hb dX3_worksIn_22 rfl (lv_at hl 1 rfl) ?_
      refine lv_iload_n hx hb dX3_worksIn_23 rfl (lv_at hl 2 rfl) ?_
      obtain ⟨r7, hr7, hf⟩ := q_bd_go hf
      refine q_rdVi (ci := 3) (As := [.int p1, .int p2]) (rest := []) hx hb hml hown hts (c_X3_isAbsent l D cI cJ cS a S p1 p2 _ hr7) (cwV 2 hts gX3_worksIn_X3_isAbsent rfl rfl rfl (by decide +kernel) ⟨(Nat.le_of_ble_eq_true rfl), (Nat.le_of_ble_eq_true rfl)⟩) hE hP rfl rfl rfl hl.1 rfl (Nat.le_of_ble_eq_true rfl) dX3_worksIn_24 ⟨Nat.zero_le _, Nat.zero_le _⟩ ?_
      refine lv_if_eq (tgt := 39) hx hb dX3_worksIn_27 (by decide) (fun c8 => ?_) (fun c8 => ?_)
      · have hf := q_ite_t c8 hf
        refine lv_iconst (v := 1) hx hb dX3_worksIn_39 (by decide) ?_
        refine lv_goto (tgt := 44) hx hb dX3_worksIn_40 (by decide) ?_
        have ho := q_some hf
        subst ho
        exact W.zret hx hb hr rfl (fun t ht hW => ⟨rfl, ht⟩) t_nil dX3_worksIn_44
      · have hf := q_ite_f c8 hf
        refine lv_aload_n hx hb dX3_worksIn_30 rfl (lv_at hl 0 rfl) ?_
        refine lv_iload_n hx hb dX3_worksIn_31 rfl (lv_at hl 1 rfl) ?_
        refine lv_iload_n hx hb dX3_worksIn_32 rfl (lv_at hl 2 rfl) ?_
        obtain ⟨r9, hr9, hf⟩ := q_bd_go hf
        refine q_rdVi (ci := 3) (As := [.int p1, .int p2]) (rest := []) hx hb hml hown hts (c_X3_coversIn l D cI cJ cS a S p1 p2 _ hr9) (cwV 2 hts gX3_worksIn_X3_coversIn rfl rfl rfl (by decide +kernel) ⟨(Nat.le_of_ble_eq_true rfl), (Nat.le_of_ble_eq_true rfl)⟩) hE hP rfl rfl rfl hl.1 rfl (Nat.le_of_ble_eq_true rfl) dX3_worksIn_33 ⟨Nat.zero_le _, Nat.zero_le _⟩ ?_
        refine lv_if_eq (tgt := 43) hx hb dX3_worksIn_36 (by decide) (fun c10 => ?_) (fun c10 => ?_)
        · have hf := q_ite_t c10 hf
          refine lv_iconst (v := 0) hx hb dX3_worksIn_43 (by decide) ?_
          have ho := q_some hf
          subst ho
          exact W.zret hx hb hr rfl (fun t ht hW => ⟨rfl, ht⟩) t_nil dX3_worksIn_44
        · have hf := q_ite_f c10 hf
          refine lv_iconst (v := 1) hx hb dX3_worksIn_39 (by decide) ?_
          refine lv_goto (tgt := 44) hx hb dX3_worksIn_40 (by decide) ?_
          have ho := q_some hf
          subst ho
          exact W.zret hx hb hr rfl (fun t ht hW => ⟨rfl, ht⟩) t_nil dX3_worksIn_44
def f_X3_whyNot_57 (S : MD) : Nat → Int32 → Int32 → Int32 → Option Int32
  | 0, _, _, _ => none
  | n+1, l1, l2, l3 => if q_in 0 420 = true then
 (if 0 < (lg_cmp ((l3 : Int32).toInt64) (MD_now S (0 : Int32).toNatClampNeg)) then
 (some 0)
 else ((f_X3_worksIn S l1 (l2 + l3)).bind fun r9 =>
 if r9 = 0 then
 (q_let (l3 + 1) fun v11 =>
 f_X3_whyNot_57 S n l1 l2 v11)
 else (some 5))) else none
def f_X3_whyNot_24 (S : MD) : Nat → Int32 → Int32 → Int32 → Option Int32
  | 0, _, _, _ => none
  | n+1, l1, l2, l3 => if q_in 0 420 = true then
 (if 0 < (lg_cmp ((l3 : Int32).toInt64) (MD_now S (0 : Int32).toNatClampNeg)) then
 (f_X3_whyNot_57 S 2000 l1 l2 1)
 else ((f_X3_worksIn S l1 (l2 - l3)).bind fun r12 =>
 if r12 = 0 then
 (q_let (l3 + 1) fun v14 =>
 f_X3_whyNot_24 S n l1 l2 v14)
 else (some 4))) else none
def f_X3_whyNot (S : MD) (p1 : Int32) (p2 : Int32) : Option Int32 := (f_X3_isAbsent S p1 p2).bind fun r1 =>
 if r1 = 0 then
 ((f_X3_worksIn S p1 p2).bind fun r3 =>
 if r3 = 0 then
 (f_X3_whyNot_24 S 2000 p1 p2 1)
 else (some 3))
 else (some 2)
abbrev rX3_whyNot : Room := { frames := 4, cells := 0, slots := 0, locals := 89 }
set_option maxRecDepth 100000 in
set_option maxHeartbeats 4000000 in
theorem c_X3_whyNot (l : Launch) (D : va_G) (cI cJ cS : ClassId) (a : Nat → Nat) (S : MD) (p1 : Int32) (p2 : Int32) (o : Int32) (hf : f_X3_whyNot S p1 p2 = some o) : Met l yX3_whyNot wsX3_whyNot rX3_whyNot (va_Pc [.ref (a 0), .int p1, .int p2] (q_B D cI cJ cS (wMD cI cJ a S))) (q_Ri o) 0 0 (fun _ => False) := by
  refine Met.ofW (cc := cX3_whyNot) (maxL := 4) (ret := some .int) (by decide) rfl ?_
  intro p e s m args below meth c s₁ B hml hv
  obtain ⟨rfl, hP, hE⟩ := hv
  have hx := B.exec
  have hb := B.bytes
  have hr := B.returns
  have hts := atoms_spec (ws := wsX3_whyNot) B.pre
  have hown : s.vm.findClass RX3 = some m.cls := findClass_of_methodNamed B.named
  have hlocks := B.notSynchronized
  have hu : ∀ z ∈ wsX30, z.before _ s = true := fun z h => hts z (List.mem_cons_of_mem _ (List.mem_append_right _ h))
  have L_57 : ∀ (n : Nat) (l1 : Int32) (l2 : Int32) (l3 : Int32) (ls : Array Slot), lv_has ls 4 [(0, .ref (a 0)), (1, .int l1), (2, .int l2), (3, .int l3)] → f_X3_whyNot_57 S n l1 l2 l3 = some o → W p l e (headSpec wsX3_whyNot rX3_whyNot).room s m (([.ref (a 0), .int p1, .int p2] : List Value).toArray) below meth c s.heap [] 0 0 (MQ below (q_Ri o) (([.ref (a 0), .int p1, .int p2] : List Value).toArray) s 0 0 (fun _ => False)) (F0 m 57 ls []) := by
    intro n
    induction n with
    | zero => intro l1 l2 l3 ls hl hf; cases hf
    | succ n ih =>
      intro l1 l2 l3 ls hl hf
      rw [f_X3_whyNot_57] at hf
      refine lv_iload_n hx hb dX3_whyNot_57 rfl (lv_at hl 3 rfl) ?_
      refine lv_i2l (v := ((l3 : Int32).toInt64)) hx hb dX3_whyNot_58 rfl ?_
      refine lv_aload_n hx hb dX3_whyNot_59 rfl (lv_at hl 0 rfl) ?_
      refine va_get (D := D) (ci := 3) (v := .ref (a 1)) (C := RX3) (T := TX3) (N := 15) hx hb hu (fun _ h => h) hown hE.1 hP 0 rfl rfl 0 (Nat.le_of_ble_eq_true rfl) (hts (.fieldLink RX3 7 "CoverMeterModel" "now" "[J") (List.mem_of_getElem? (i := 1) rfl)) (fun _ h9 => h9) rfl dX3_whyNot_60 ?_
      refine lv_iconst (v := 0) hx hb dX3_whyNot_63 (by decide) ?_
      have hi7 := q_gd_in hf
      have hf := q_gd_go hf
      refine va_lald hx hb hE.1 hP 1 1 rfl rfl hi7 dX3_whyNot_64 ?_
      refine W.lcmp hx hb dX3_whyNot_65 ?_
      refine lv_if_gt (tgt := 88) hx hb dX3_whyNot_66 (by decide) (fun c8 => ?_) (fun c8 => ?_)
      · have hf := q_ite_t c8 hf
        refine lv_iconst (v := 0) hx hb dX3_whyNot_88 (by decide) ?_
        have ho := q_some hf
        subst ho
        exact W.iret hx hb hr (fun t ht hW => ⟨rfl, ht⟩) t_nil dX3_whyNot_89
      · have hf := q_ite_f c8 hf
        refine lv_aload_n hx hb dX3_whyNot_69 rfl (lv_at hl 0 rfl) ?_
        refine lv_iload_n hx hb dX3_whyNot_70 rfl (lv_at hl 1 rfl) ?_
        refine lv_iload_n hx hb dX3_whyNot_71 rfl (lv_at hl 2 rfl) ?_
        refine lv_iload_n hx hb dX3_whyNot_72 rfl (lv_at hl 3 rfl) ?_
        refine lv_iadd hx hb dX3_whyNot_73 ?_
        obtain ⟨r9, hr9, hf⟩ := q_bd_go hf
        refine q_rdVi (ci := 3) (As := [.int l1, .int (l2 + l3)]) (rest := []) hx hb hml hown hts (c_X3_worksIn l D cI cJ cS a S l1 (l2 + l3) _ hr9) (cwV 2 hts gX3_whyNot_X3_worksIn rfl rfl rfl (by decide +kernel) ⟨(Nat.le_of_ble_eq_true rfl), (Nat.le_of_ble_eq_true rfl)⟩) hE hP rfl rfl rfl hl.1 rfl (Nat.le_of_ble_eq_true rfl) dX3_whyNot_74 ⟨Nat.zero_le _, Nat.zero_le _⟩ ?_
        refine lv_if_eq (tgt := 82) hx hb dX3_whyNot_77 (by decide) (fun c10 => ?_) (fun c10 => ?_)
        · have hf := q_ite_t c10 hf
          obtain ⟨v11, ev11, hf⟩ := q_let_go hf
          refine lv_iinc (v := v11) (lv' := [(3, .int v11), (0, .ref (a 0)), (1, .int l1), (2, .int l2)]) hx hb dX3_whyNot_82 hl (k := 3) rfl (by rw [← ev11]; rfl) (by decide) rfl (fun ls hl => ?_)
          refine lv_goto (tgt := 57) hx hb dX3_whyNot_85 (by decide) ?_
          exact ih l1 l2 v11 _ (lv_sub hl [1, 2, 3, 0] rfl) hf
        · have hf := q_ite_f c10 hf
          refine lv_iconst (v := 5) hx hb dX3_whyNot_80 (by decide) ?_
          have ho := q_some hf
          subst ho
          exact W.iret hx hb hr (fun t ht hW => ⟨rfl, ht⟩) t_nil dX3_whyNot_81
  have L_24 : ∀ (n : Nat) (l1 : Int32) (l2 : Int32) (l3 : Int32) (ls : Array Slot), lv_has ls 4 [(0, .ref (a 0)), (1, .int l1), (2, .int l2), (3, .int l3)] → f_X3_whyNot_24 S n l1 l2 l3 = some o → W p l e (headSpec wsX3_whyNot rX3_whyNot).room s m (([.ref (a 0), .int p1, .int p2] : List Value).toArray) below meth c s.heap [] 0 0 (MQ below (q_Ri o) (([.ref (a 0), .int p1, .int p2] : List Value).toArray) s 0 0 (fun _ => False)) (F0 m 24 ls []) := by
    intro n
    induction n with
    | zero => intro l1 l2 l3 ls hl hf; cases hf
    | succ n ih =>
      intro l1 l2 l3 ls hl hf
      rw [f_X3_whyNot_24] at hf
      refine lv_iload_n hx hb dX3_whyNot_24 rfl (lv_at hl 3 rfl) ?_
      refine lv_i2l (v := ((l3 : Int32).toInt64)) hx hb dX3_whyNot_25 rfl ?_
      refine lv_aload_n hx hb dX3_whyNot_26 rfl (lv_at hl 0 rfl) ?_
      refine va_get (D := D) (ci := 3) (v := .ref (a 1)) (C := RX3) (T := TX3) (N := 15) hx hb hu (fun _ h => h) hown hE.1 hP 0 rfl rfl 0 (Nat.le_of_ble_eq_true rfl) (hts (.fieldLink RX3 7 "CoverMeterModel" "now" "[J") (List.mem_of_getElem? (i := 1) rfl)) (fun _ h9 => h9) rfl dX3_whyNot_27 ?_
      refine lv_iconst (v := 0) hx hb dX3_whyNot_30 (by decide) ?_
      have hi5 := q_gd_in hf
      have hf := q_gd_go hf
      refine va_lald hx hb hE.1 hP 1 1 rfl rfl hi5 dX3_whyNot_31 ?_
      refine W.lcmp hx hb dX3_whyNot_32 ?_
      refine lv_if_gt (tgt := 55) hx hb dX3_whyNot_33 (by decide) (fun c6 => ?_) (fun c6 => ?_)
      · have hf := q_ite_t c6 hf
        refine lv_iconst (v := 1) hx hb dX3_whyNot_55 (by decide) ?_
        refine lv_istore_n (lv' := [(3, .int 1), (0, .ref (a 0)), (1, .int l1), (2, .int l2)]) hx hb dX3_whyNot_56 rfl hl (by decide) rfl (fun ls hl => ?_)
        exact L_57 2000 l1 l2 1 _ (lv_sub hl [1, 2, 3, 0] rfl) hf
      · have hf := q_ite_f c6 hf
        refine lv_aload_n hx hb dX3_whyNot_36 rfl (lv_at hl 0 rfl) ?_
        refine lv_iload_n hx hb dX3_whyNot_37 rfl (lv_at hl 1 rfl) ?_
        refine lv_iload_n hx hb dX3_whyNot_38 rfl (lv_at hl 2 rfl) ?_
        refine lv_iload_n hx hb dX3_whyNot_39 rfl (lv_at hl 3 rfl) ?_
        refine lv_isub hx hb dX3_whyNot_40 ?_
        obtain ⟨r12, hr12, hf⟩ := q_bd_go hf
        refine q_rdVi (ci := 3) (As := [.int l1, .int (l2 - l3)]) (rest := []) hx hb hml hown hts (c_X3_worksIn l D cI cJ cS a S l1 (l2 - l3) _ hr12) (cwV 2 hts gX3_whyNot_X3_worksIn rfl rfl rfl (by decide +kernel) ⟨(Nat.le_of_ble_eq_true rfl), (Nat.le_of_ble_eq_true rfl)⟩) hE hP rfl rfl rfl hl.1 rfl (Nat.le_of_ble_eq_true rfl) dX3_whyNot_41 ⟨Nat.zero_le _, Nat.zero_le _⟩ ?_
        refine lv_if_eq (tgt := 49) hx hb dX3_whyNot_44 (by decide) (fun c13 => ?_) (fun c13 => ?_)
        · have hf := q_ite_t c13 hf
          obtain ⟨v14, ev14, hf⟩ := q_let_go hf
          refine lv_iinc (v := v14) (lv' := [(3, .int v14), (0, .ref (a 0)), (1, .int l1), (2, .int l2)]) hx hb dX3_whyNot_49 hl (k := 3) rfl (by rw [← ev14]; rfl) (by decide) rfl (fun ls hl => ?_)
          refine lv_goto (tgt := 24) hx hb dX3_whyNot_52 (by decide) ?_
          exact ih l1 l2 v14 _ (lv_sub hl [1, 2, 3, 0] rfl) hf
        · have hf := q_ite_f c13 hf
          refine lv_iconst (v := 4) hx hb dX3_whyNot_47 (by decide) ?_
          have ho := q_some hf
          subst ho
          exact W.iret hx hb hr (fun t ht hW => ⟨rfl, ht⟩) t_nil dX3_whyNot_48
  have hl := lv_entry ([.ref (a 0), .int p1, .int p2]) (n := 4) (Nat.le_of_ble_eq_true rfl)
  rw [lg_entry_eq]
  generalize (lg_sl ([.ref (a 0), .int p1, .int p2]) ++ List.replicate (4 - (lg_sl ([.ref (a 0), .int p1, .int p2])).length) Slot.unset).toArray = ls at hl ⊢
  have hl : lv_has ls 4 [(0, .ref (a 0)), (1, .int p1), (2, .int p2)] := hl
  unfold f_X3_whyNot at hf
  refine lv_aload_n hx hb dX3_whyNot_0 rfl (lv_at hl 0 rfl) ?_
  refine lv_iload_n hx hb dX3_whyNot_1 rfl (lv_at hl 1 rfl) ?_
  refine lv_iload_n hx hb dX3_whyNot_2 rfl (lv_at hl 2 rfl) ?_
  obtain ⟨r1, hr1, hf⟩ := q_bd_go hf
  refine q_rdVi (ci := 3) (As := [.int p1, .int p2]) (rest := []) hx hb hml hown hts (c_X3_isAbsent l D cI cJ cS a S p1 p2 _ hr1) (cwV 2 hts gX3_whyNot_X3_isAbsent rfl rfl rfl (by decide +kernel) ⟨(Nat.le_of_ble_eq_true rfl), (Nat.le_of_ble_eq_true rfl)⟩) hE hP rfl rfl rfl hl.1 rfl (Nat.le_of_ble_eq_true rfl) dX3_whyNot_3 ⟨Nat.zero_le _, Nat.zero_le _⟩ ?_
  refine lv_if_eq (tgt := 11) hx hb dX3_whyNot_6 (by decide) (fun c2 => ?_) (fun c2 => ?_)
  · have hf := q_ite_t c2 hf
    refine lv_aload_n hx hb dX3_whyNot_11 rfl (lv_at hl 0 rfl) ?_
    refine lv_iload_n hx hb dX3_whyNot_12 rfl (lv_at hl 1 rfl) ?_
    refine lv_iload_n hx hb dX3_whyNot_13 rfl (lv_at hl 2 rfl) ?_
    obtain ⟨r3, hr3, hf⟩ := q_bd_go hf
    refine q_rdVi (ci := 3) (As := [.int p1, .int p2]) (rest := []) hx hb hml hown hts (c_X3_worksIn l D cI cJ cS a S p1 p2 _ hr3) (cwV 2 hts gX3_whyNot_X3_worksIn rfl rfl rfl (by decide +kernel) ⟨(Nat.le_of_ble_eq_true rfl), (Nat.le_of_ble_eq_true rfl)⟩) hE hP rfl rfl rfl hl.1 rfl (Nat.le_of_ble_eq_true rfl) dX3_whyNot_14 ⟨Nat.zero_le _, Nat.zero_le _⟩ ?_
    refine lv_if_eq (tgt := 22) hx hb dX3_whyNot_17 (by decide) (fun c4 => ?_) (fun c4 => ?_)
    · have hf := q_ite_t c4 hf
      refine lv_iconst (v := 1) hx hb dX3_whyNot_22 (by decide) ?_
      refine lv_istore_n (lv' := [(3, .int 1), (0, .ref (a 0)), (1, .int p1), (2, .int p2)]) hx hb dX3_whyNot_23 rfl hl (by decide) rfl (fun ls hl => ?_)
      exact L_24 2000 p1 p2 1 _ (lv_sub hl [1, 2, 3, 0] rfl) hf
    · have hf := q_ite_f c4 hf
      refine lv_iconst (v := 3) hx hb dX3_whyNot_20 (by decide) ?_
      have ho := q_some hf
      subst ho
      exact W.iret hx hb hr (fun t ht hW => ⟨rfl, ht⟩) t_nil dX3_whyNot_21
  · have hf := q_ite_f c2 hf
    refine lv_iconst (v := 2) hx hb dX3_whyNot_9 (by decide) ?_
    have ho := q_some hf
    subst ho
    exact W.iret hx hb hr (fun t ht hW => ⟨rfl, ht⟩) t_nil dX3_whyNot_10
def f_X3_whyNotFor (S : MD) (p1 : Int32) (p2 : Int32) : Option Int32 := (f_X3_ofA S p2 0).bind fun r1 =>
 if ¬ r1 = p1 then
 ((f_X3_ofA S p2 1).bind fun r3 =>
 (f_X3_whyNot S p1 r3).bind fun r4 =>
 some r4)
 else (some 1)
abbrev rX3_whyNotFor : Room := { frames := 5, cells := 0, slots := 0, locals := 112 }
set_option maxRecDepth 100000 in
set_option maxHeartbeats 4000000 in
theorem c_X3_whyNotFor (l : Launch) (D : va_G) (cI cJ cS : ClassId) (a : Nat → Nat) (S : MD) (p1 : Int32) (p2 : Int32) (o : Int32) (hf : f_X3_whyNotFor S p1 p2 = some o) : Met l yX3_whyNotFor wsX3_whyNotFor rX3_whyNotFor (va_Pc [.ref (a 0), .int p1, .int p2] (q_B D cI cJ cS (wMD cI cJ a S))) (q_Ri o) 0 0 (fun _ => False) := by
  refine Met.ofW (cc := cX3_whyNotFor) (maxL := 3) (ret := some .int) (by decide) rfl ?_
  intro p e s m args below meth c s₁ B hml hv
  obtain ⟨rfl, hP, hE⟩ := hv
  have hx := B.exec
  have hb := B.bytes
  have hr := B.returns
  have hts := atoms_spec (ws := wsX3_whyNotFor) B.pre
  have hown : s.vm.findClass RX3 = some m.cls := findClass_of_methodNamed B.named
  have hlocks := B.notSynchronized
  have hl := lv_entry ([.ref (a 0), .int p1, .int p2]) (n := 3) (Nat.le_of_ble_eq_true rfl)
  rw [lg_entry_eq]
  generalize (lg_sl ([.ref (a 0), .int p1, .int p2]) ++ List.replicate (3 - (lg_sl ([.ref (a 0), .int p1, .int p2])).length) Slot.unset).toArray = ls at hl ⊢
  have hl : lv_has ls 3 [(0, .ref (a 0)), (1, .int p1), (2, .int p2)] := hl
  unfold f_X3_whyNotFor at hf
  refine lv_aload_n hx hb dX3_whyNotFor_0 rfl (lv_at hl 0 rfl) ?_
  refine lv_iload_n hx hb dX3_whyNotFor_1 rfl (lv_at hl 2 rfl) ?_
  refine lv_iconst (v := 0) hx hb dX3_whyNotFor_2 (by decide) ?_
  obtain ⟨r1, hr1, hf⟩ := q_bd_go hf
  refine q_rdVi (ci := 3) (As := [.int p2, .int 0]) (rest := []) hx hb hml hown hts (c_X3_ofA l D cI cJ cS a S p2 0 _ hr1) (cwV 2 hts gX3_whyNotFor_X3_ofA rfl rfl rfl (by decide +kernel) ⟨(Nat.le_of_ble_eq_true rfl), (Nat.le_of_ble_eq_true rfl)⟩) hE hP rfl rfl rfl hl.1 rfl (Nat.le_of_ble_eq_true rfl) dX3_whyNotFor_3 ⟨Nat.zero_le _, Nat.zero_le _⟩ ?_
  refine lv_iload_n hx hb dX3_whyNotFor_6 rfl (lv_at hl 1 rfl) ?_
  refine lv_icmp_ne (tgt := 14) hx hb dX3_whyNotFor_7 (by decide) (fun c2 => ?_) (fun c2 => ?_)
  · have hf := q_ite_t c2 hf
    refine lv_aload_n hx hb dX3_whyNotFor_14 rfl (lv_at hl 0 rfl) ?_
    refine lv_iload_n hx hb dX3_whyNotFor_15 rfl (lv_at hl 1 rfl) ?_
    refine lv_aload_n hx hb dX3_whyNotFor_16 rfl (lv_at hl 0 rfl) ?_
    refine lv_iload_n hx hb dX3_whyNotFor_17 rfl (lv_at hl 2 rfl) ?_
    refine lv_iconst (v := 1) hx hb dX3_whyNotFor_18 (by decide) ?_
    obtain ⟨r3, hr3, hf⟩ := q_bd_go hf
    refine q_rdVi (ci := 3) (As := [.int p2, .int 1]) (rest := [.int p1, .ref (a 0)]) hx hb hml hown hts (c_X3_ofA l D cI cJ cS a S p2 1 _ hr3) (cwV 2 hts gX3_whyNotFor_X3_ofA rfl rfl rfl (by decide +kernel) ⟨(Nat.le_of_ble_eq_true rfl), (Nat.le_of_ble_eq_true rfl)⟩) hE hP rfl rfl rfl hl.1 rfl (Nat.le_of_ble_eq_true rfl) dX3_whyNotFor_19 ⟨Nat.zero_le _, Nat.zero_le _⟩ ?_
    obtain ⟨r4, hr4, hf⟩ := q_bd_go hf
    refine q_rdVi (ci := 3) (As := [.int p1, .int r3]) (rest := []) hx hb hml hown hts (c_X3_whyNot l D cI cJ cS a S p1 r3 _ hr4) (cwV 2 hts gX3_whyNotFor_X3_whyNot rfl rfl rfl (by decide +kernel) ⟨(Nat.le_of_ble_eq_true rfl), (Nat.le_of_ble_eq_true rfl)⟩) hE hP rfl rfl rfl hl.1 rfl (Nat.le_of_ble_eq_true rfl) dX3_whyNotFor_22 ⟨Nat.zero_le _, Nat.zero_le _⟩ ?_
    have ho := q_some hf
    subst ho
    exact W.iret hx hb hr (fun t ht hW => ⟨rfl, ht⟩) t_nil dX3_whyNotFor_25
  · have hf := q_ite_n c2 hf
    refine lv_iconst (v := 1) hx hb dX3_whyNotFor_10 (by decide) ?_
    refine lv_goto (tgt := 25) hx hb dX3_whyNotFor_11 (by decide) ?_
    have ho := q_some hf
    subst ho
    exact W.iret hx hb hr (fun t ht hW => ⟨rfl, ht⟩) t_nil dX3_whyNotFor_25
def f_X3_why_22 (Sz : MD) (l1 : Int32) (l2 : Int32) (t0 : Int32) : Option (Int32 × MD) := q_let (sMD_thrown Sz t0) fun S3 =>
 if ¬ (MD_thrown S3) = 0 then
 (some (0, S3))
 else ((f_X3_whyNotFor S3 l1 l2).bind fun r5 =>
 some (r5, S3))
def f_X3_why (S : MD) (p1 : Int32) (p2 : Int32) : Option (Int32 × MD) := (f_X3_isPerson S p1).bind fun r1 =>
 if r1 = 0 then
 (f_X3_why_22 S p1 p2 1)
 else ((f_X3_isAbsence S p2).bind fun r6 =>
 if r6 = 0 then
 (f_X3_why_22 S p1 p2 1)
 else (f_X3_why_22 S p1 p2 0))
abbrev rX3_why : Room := { frames := 6, cells := 0, slots := 0, locals := 134 }
set_option maxRecDepth 100000 in
set_option maxHeartbeats 4000000 in
theorem c_X3_why (l : Launch) (D : va_G) (cI cJ cS : ClassId) (a : Nat → Nat) (S : MD) (sz : Nat) (p1 : Int32) (p2 : Int32) (o : (Int32 × MD)) (hf : f_X3_why S p1 p2 = some o) : Met l yX3_why wsX3_why rX3_why (va_Pc [.ref (a 0), .int p1, .int p2] (q_BW D cI cJ cS (wMD cI cJ a S) sz)) (q_Wo (some (.int o.1)) D (wMD cI cJ a S) (wMD cI cJ a o.2) sz) 0 0 (va_A (wMD cI cJ a S) sz) := by
  refine Met.ofW (cc := cX3_why) (maxL := 3) (ret := some .int) (by decide) rfl ?_
  intro p e s m args below meth c s₁ B hml hv
  obtain ⟨rfl, hsz, hP, hE, hD0⟩ := hv
  have hx := B.exec
  have hb := B.bytes
  have hr := B.returns
  have hts := atoms_spec (ws := wsX3_why) B.pre
  have hown : s.vm.findClass RX3 = some m.cls := findClass_of_methodNamed B.named
  have hlocks := B.notSynchronized
  have hu : ∀ z ∈ wsX30, z.before _ s = true := fun z h => hts z (List.mem_cons_of_mem _ (List.mem_append_right _ h))
  subst hsz
  have hD := hD0.self (sz := s.heap.size)
  have hS : va_S (va_A (wMD cI cJ a S) s.heap.size) s.heap s.heap [] := va_S.rf
  have B_22 : ∀ (Sz : MD) (H : Heap) (locs : List Loc) (hP : va_P D vwCl (wMD cI cJ a Sz) H) (hD : va_D (va_A (wMD cI cJ a S) s.heap.size) (wMD cI cJ a Sz)) (hS : va_S (va_A (wMD cI cJ a S) s.heap.size) s.heap H locs) (l1 : Int32) (l2 : Int32) (t0 : Int32) (ls : Array Slot), lv_has ls 3 [(0, .ref (a 0)), (1, .int l1), (2, .int l2)] → f_X3_why_22 Sz l1 l2 t0 = some o → W p l e (headSpec wsX3_why rX3_why).room s m (([.ref (a 0), .int p1, .int p2] : List Value).toArray) below meth c H locs 0 0 (MQ below (q_Wo (some (.int o.1)) D (wMD cI cJ a S) (wMD cI cJ a o.2) s.heap.size) (([.ref (a 0), .int p1, .int p2] : List Value).toArray) s 0 0 (va_A (wMD cI cJ a S) s.heap.size)) (F0 m 22 ls [.int t0, .ref (a 0)]) := by
    intro Sz H locs hP hD hS l1 l2 t0 ls hl hf
    unfold f_X3_why_22 at hf
    obtain ⟨S3, eS3, hf⟩ := q_let_go hf
    refine va_put (D := D) (ci := 3) (v := .int t0) (ty := .int) (C := RX3) (T := TX3) (N := 15) hx hb hu (fun _ h => h) tyX3 tyX3_ok nmX3 hown hE.1 hP hD hS 0 rfl rfl 3 (Nat.le_of_ble_eq_true rfl) (hts (.fieldLink RX3 30 "CoverMeterModel" "thrown" "I") (List.mem_of_getElem? (i := 1) rfl)) (fun _ h9 => h9) rfl (by decide +kernel) rfl rfl (Nat.le_of_ble_eq_true rfl) dX3_why_22 (fun H locs hP hD hS => ?_)
    have hP : va_P D vwCl (wMD cI cJ a (sMD_thrown Sz t0)) H := hP
    have hD : va_D (va_A (wMD cI cJ a S) s.heap.size) (wMD cI cJ a (sMD_thrown Sz t0)) := hD
    rw [eS3] at hP hD
    refine lv_aload_n hx hb dX3_why_25 rfl (lv_at hl 0 rfl) ?_
    refine va_get (D := D) (ci := 3) (v := .int (MD_thrown S3)) (C := RX3) (T := TX3) (N := 15) hx hb hu (fun _ h => h) hown hE.1 hP 0 rfl rfl 3 (Nat.le_of_ble_eq_true rfl) (hts (.fieldLink RX3 30 "CoverMeterModel" "thrown" "I") (List.mem_of_getElem? (i := 1) rfl)) (fun _ h9 => h9) rfl dX3_why_26 ?_
    refine lv_if_ne (tgt := 41) hx hb dX3_why_29 (by decide) (fun c4 => ?_) (fun c4 => ?_)
    · have hf := q_ite_t c4 hf
      refine lv_iconst (v := 0) hx hb dX3_why_41 (by decide) ?_
      have ho := q_some hf
      subst ho
      exact W.iret hx hb hr (fun t ht hW => ⟨rfl, ⟨by rw [ht]; exact hP, hD⟩, hS.F ht⟩) hS.2.2 dX3_why_42
    · have hf := q_ite_n c4 hf
      refine lv_aload_n hx hb dX3_why_32 rfl (lv_at hl 0 rfl) ?_
      refine lv_iload_n hx hb dX3_why_33 rfl (lv_at hl 1 rfl) ?_
      refine lv_iload_n hx hb dX3_why_34 rfl (lv_at hl 2 rfl) ?_
      obtain ⟨r5, hr5, hf⟩ := q_bd_go hf
      refine q_rdVi (ci := 3) (As := [.int l1, .int l2]) (rest := []) hx hb hml hown hts (c_X3_whyNotFor l D cI cJ cS a S3 l1 l2 _ hr5) (cwV 2 hts gX3_why_X3_whyNotFor rfl rfl rfl (by decide +kernel) ⟨(Nat.le_of_ble_eq_true rfl), (Nat.le_of_ble_eq_true rfl)⟩) hE hP rfl rfl rfl hl.1 rfl (Nat.le_of_ble_eq_true rfl) dX3_why_35 ⟨Nat.zero_le _, Nat.zero_le _⟩ ?_
      refine lv_goto (tgt := 42) hx hb dX3_why_38 (by decide) ?_
      have ho := q_some hf
      subst ho
      exact W.iret hx hb hr (fun t ht hW => ⟨rfl, ⟨by rw [ht]; exact hP, hD⟩, hS.F ht⟩) hS.2.2 dX3_why_42
  have hl := lv_entry ([.ref (a 0), .int p1, .int p2]) (n := 3) (Nat.le_of_ble_eq_true rfl)
  rw [lg_entry_eq]
  generalize (lg_sl ([.ref (a 0), .int p1, .int p2]) ++ List.replicate (3 - (lg_sl ([.ref (a 0), .int p1, .int p2])).length) Slot.unset).toArray = ls at hl ⊢
  have hl : lv_has ls 3 [(0, .ref (a 0)), (1, .int p1), (2, .int p2)] := hl
  unfold f_X3_why at hf
  refine lv_aload_n hx hb dX3_why_0 rfl (lv_at hl 0 rfl) ?_
  refine lv_aload_n hx hb dX3_why_1 rfl (lv_at hl 0 rfl) ?_
  refine lv_iload_n hx hb dX3_why_2 rfl (lv_at hl 1 rfl) ?_
  obtain ⟨r1, hr1, hf⟩ := q_bd_go hf
  refine q_rdVi (ci := 3) (As := [.int p1]) (rest := [.ref (a 0)]) hx hb hml hown hts (c_X3_isPerson l D cI cJ cS a S p1 _ hr1) (cwV 1 hts gX3_why_X3_isPerson rfl rfl rfl (by decide +kernel) ⟨(Nat.le_of_ble_eq_true rfl), (Nat.le_of_ble_eq_true rfl)⟩) hE hP rfl rfl rfl hl.1 rfl (Nat.le_of_ble_eq_true rfl) dX3_why_3 ⟨Nat.zero_le _, Nat.zero_le _⟩ ?_
  refine lv_if_eq (tgt := 21) hx hb dX3_why_6 (by decide) (fun c2 => ?_) (fun c2 => ?_)
  · have hf := q_ite_t c2 hf
    refine lv_iconst (v := 1) hx hb dX3_why_21 (by decide) ?_
    exact B_22 S _ _ hP hD hS p1 p2 1 _ (lv_sub hl [0, 1, 2] rfl) hf
  · have hf := q_ite_f c2 hf
    refine lv_aload_n hx hb dX3_why_9 rfl (lv_at hl 0 rfl) ?_
    refine lv_iload_n hx hb dX3_why_10 rfl (lv_at hl 2 rfl) ?_
    obtain ⟨r6, hr6, hf⟩ := q_bd_go hf
    refine q_rdVi (ci := 3) (As := [.int p2]) (rest := [.ref (a 0)]) hx hb hml hown hts (c_X3_isAbsence l D cI cJ cS a S p2 _ hr6) (cwV 1 hts gX3_why_X3_isAbsence rfl rfl rfl (by decide +kernel) ⟨(Nat.le_of_ble_eq_true rfl), (Nat.le_of_ble_eq_true rfl)⟩) hE hP rfl rfl rfl hl.1 rfl (Nat.le_of_ble_eq_true rfl) dX3_why_11 ⟨Nat.zero_le _, Nat.zero_le _⟩ ?_
    refine lv_if_eq (tgt := 21) hx hb dX3_why_14 (by decide) (fun c7 => ?_) (fun c7 => ?_)
    · have hf := q_ite_t c7 hf
      refine lv_iconst (v := 1) hx hb dX3_why_21 (by decide) ?_
      exact B_22 S _ _ hP hD hS p1 p2 1 _ (lv_sub hl [0, 1, 2] rfl) hf
    · have hf := q_ite_f c7 hf
      refine lv_iconst (v := 0) hx hb dX3_why_17 (by decide) ?_
      refine lv_goto (tgt := 22) hx hb dX3_why_18 (by decide) ?_
      exact B_22 S _ _ hP hD hS p1 p2 0 _ (lv_sub hl [0, 1, 2] rfl) hf
def f_X3_set_49 (Sz : MD) (l1 : Int32) (l2 : Int32) (t0 : Int32) : Option (Int32 × MD) := q_let (sMD_thrown Sz t0) fun S3 =>
 if (MD_thrown S3) = 0 then
 ((f_X3_records S3).bind fun r5 =>
 if q_in l1 420 = true then
 (q_let ((((MD_now r5 (l1 : Int32).toNatClampNeg) : Int64).toInt32)) fun v7 =>
 if q_in l1 420 = true then
 (q_let (sMD_now r5 (vp_updL (MD_now r5) (l1 : Int32).toNatClampNeg ((l2 : Int32).toInt64))) fun S9 =>
 some (v7, S9)) else none) else none)
 else (some (0, S3))
def f_X3_set_25 (Sz : MD) (l1 : Int32) (l2 : Int32) (t0 : Int64) (t1 : Int64) : Option (Int32 × MD) := if ¬ l1 = 0 then
 ((f_X3_isIn t1 t0 50).bind fun r12 =>
 if r12 = 0 then
 (f_X3_set_49 Sz l1 l2 1)
 else (f_X3_set_49 Sz l1 l2 0))
 else ((f_X3_isIn t1 t0 5).bind fun r14 =>
 if r14 = 0 then
 (f_X3_set_49 Sz l1 l2 1)
 else (f_X3_set_49 Sz l1 l2 0))
def f_X3_set (S : MD) (p1 : Int32) (p2 : Int32) : Option (Int32 × MD) := (f_X3_isIn ((p1 : Int32).toInt64) 0 2).bind fun r1 =>
 if r1 = 0 then
 (f_X3_set_49 S p1 p2 1)
 else (if ¬ p1 = 1 then
 (f_X3_set_25 S p1 p2 0 (((p2 : Int32).toInt64)))
 else (f_X3_set_25 S p1 p2 1 (((p2 : Int32).toInt64))))
abbrev rX3_set : Room := { frames := 2, cells := 0, slots := 0, locals := 43 }
set_option maxRecDepth 100000 in
set_option maxHeartbeats 4000000 in
theorem c_X3_set (l : Launch) (D : va_G) (cI cJ cS : ClassId) (a : Nat → Nat) (S : MD) (sz : Nat) (p1 : Int32) (p2 : Int32) (o : (Int32 × MD)) (hf : f_X3_set S p1 p2 = some o) : Met l yX3_set wsX3_set rX3_set (va_Pc [.ref (a 0), .int p1, .int p2] (q_BW D cI cJ cS (wMD cI cJ a S) sz)) (q_Wo (some (.int o.1)) D (wMD cI cJ a S) (wMD cI cJ a o.2) sz) 0 0 (va_A (wMD cI cJ a S) sz) := by
  refine Met.ofW (cc := cX3_set) (maxL := 4) (ret := some .int) (by decide) rfl ?_
  intro p e s m args below meth c s₁ B hml hv
  obtain ⟨rfl, hsz, hP, hE, hD0⟩ := hv
  have hx := B.exec
  have hb := B.bytes
  have hr := B.returns
  have hts := atoms_spec (ws := wsX3_set) B.pre
  have hown : s.vm.findClass RX3 = some m.cls := findClass_of_methodNamed B.named
  have hlocks := B.notSynchronized
  have hu : ∀ z ∈ wsX30, z.before _ s = true := fun z h => hts z (List.mem_cons_of_mem _ (List.mem_append_right _ h))
  subst hsz
  have hD := hD0.self (sz := s.heap.size)
  have hS : va_S (va_A (wMD cI cJ a S) s.heap.size) s.heap s.heap [] := va_S.rf
  have B_49 : ∀ (Sz : MD) (H : Heap) (locs : List Loc) (hP : va_P D vwCl (wMD cI cJ a Sz) H) (hD : va_D (va_A (wMD cI cJ a S) s.heap.size) (wMD cI cJ a Sz)) (hS : va_S (va_A (wMD cI cJ a S) s.heap.size) s.heap H locs) (l1 : Int32) (l2 : Int32) (t0 : Int32) (ls : Array Slot), lv_has ls 4 [(0, .ref (a 0)), (1, .int l1), (2, .int l2)] → f_X3_set_49 Sz l1 l2 t0 = some o → W p l e (headSpec wsX3_set rX3_set).room s m (([.ref (a 0), .int p1, .int p2] : List Value).toArray) below meth c H locs 0 0 (MQ below (q_Wo (some (.int o.1)) D (wMD cI cJ a S) (wMD cI cJ a o.2) s.heap.size) (([.ref (a 0), .int p1, .int p2] : List Value).toArray) s 0 0 (va_A (wMD cI cJ a S) s.heap.size)) (F0 m 49 ls [.int t0, .ref (a 0)]) := by
    intro Sz H locs hP hD hS l1 l2 t0 ls hl hf
    unfold f_X3_set_49 at hf
    obtain ⟨S3, eS3, hf⟩ := q_let_go hf
    refine va_put (D := D) (ci := 3) (v := .int t0) (ty := .int) (C := RX3) (T := TX3) (N := 15) hx hb hu (fun _ h => h) tyX3 tyX3_ok nmX3 hown hE.1 hP hD hS 0 rfl rfl 3 (Nat.le_of_ble_eq_true rfl) (hts (.fieldLink RX3 30 "CoverMeterModel" "thrown" "I") (List.mem_of_getElem? (i := 4) rfl)) (fun _ h9 => h9) rfl (by decide +kernel) rfl rfl (Nat.le_of_ble_eq_true rfl) dX3_set_49 (fun H locs hP hD hS => ?_)
    have hP : va_P D vwCl (wMD cI cJ a (sMD_thrown Sz t0)) H := hP
    have hD : va_D (va_A (wMD cI cJ a S) s.heap.size) (wMD cI cJ a (sMD_thrown Sz t0)) := hD
    rw [eS3] at hP hD
    refine lv_aload_n hx hb dX3_set_52 rfl (lv_at hl 0 rfl) ?_
    refine va_get (D := D) (ci := 3) (v := .int (MD_thrown S3)) (C := RX3) (T := TX3) (N := 15) hx hb hu (fun _ h => h) hown hE.1 hP 0 rfl rfl 3 (Nat.le_of_ble_eq_true rfl) (hts (.fieldLink RX3 30 "CoverMeterModel" "thrown" "I") (List.mem_of_getElem? (i := 4) rfl)) (fun _ h9 => h9) rfl dX3_set_53 ?_
    refine lv_if_eq (tgt := 61) hx hb dX3_set_56 (by decide) (fun c4 => ?_) (fun c4 => ?_)
    · have hf := q_ite_t c4 hf
      refine lv_aload_n hx hb dX3_set_61 rfl (lv_at hl 0 rfl) ?_
      obtain ⟨r5, hr5, hf⟩ := q_bd_go hf
      refine q_wrVv (ci := 3) (As := []) (rest := []) hx hb hml hown hts (c_X3_records l D cI cJ cS a S3 _  _ hr5) (cwV 0 hts gX3_set_X3_records rfl rfl rfl (by decide +kernel) ⟨(Nat.le_of_ble_eq_true rfl), (Nat.le_of_ble_eq_true rfl)⟩) hE hP hD hS (fun q h => Or.inr h) rfl rfl rfl hl.1 rfl (Nat.le_of_ble_eq_true rfl) dX3_set_62 ⟨Nat.zero_le _, Nat.zero_le _⟩ (fun H locs hP hD hS => ?_)
      refine lv_aload_n hx hb dX3_set_65 rfl (lv_at hl 0 rfl) ?_
      refine va_get (D := D) (ci := 3) (v := .ref (a 1)) (C := RX3) (T := TX3) (N := 15) hx hb hu (fun _ h => h) hown hE.1 hP 0 rfl rfl 0 (Nat.le_of_ble_eq_true rfl) (hts (.fieldLink RX3 7 "CoverMeterModel" "now" "[J") (List.mem_of_getElem? (i := 5) rfl)) (fun _ h9 => h9) rfl dX3_set_66 ?_
      refine lv_iload_n hx hb dX3_set_69 rfl (lv_at hl 1 rfl) ?_
      have hi6 := q_gd_in hf
      have hf := q_gd_go hf
      refine va_lald hx hb hE.1 hP 1 1 rfl rfl hi6 dX3_set_70 ?_
      refine lv_l2i (v := (((MD_now r5 (l1 : Int32).toNatClampNeg) : Int64).toInt32)) hx hb dX3_set_71 rfl ?_
      obtain ⟨v7, ev7, hf⟩ := q_let_go hf
      refine q_nmi ev7 ?_
      refine lv_istore_n (lv' := [(3, .int v7), (0, .ref (a 0)), (1, .int l1), (2, .int l2)]) hx hb dX3_set_72 rfl hl (by decide) rfl (fun ls hl => ?_)
      refine lv_aload_n hx hb dX3_set_73 rfl (lv_at hl 1 rfl) ?_
      refine va_get (D := D) (ci := 3) (v := .ref (a 1)) (C := RX3) (T := TX3) (N := 15) hx hb hu (fun _ h => h) hown hE.1 hP 0 rfl rfl 0 (Nat.le_of_ble_eq_true rfl) (hts (.fieldLink RX3 7 "CoverMeterModel" "now" "[J") (List.mem_of_getElem? (i := 5) rfl)) (fun _ h9 => h9) rfl dX3_set_74 ?_
      refine lv_iload_n hx hb dX3_set_77 rfl (lv_at hl 2 rfl) ?_
      refine lv_iload_n hx hb dX3_set_78 rfl (lv_at hl 3 rfl) ?_
      refine lv_i2l (v := ((l2 : Int32).toInt64)) hx hb dX3_set_79 rfl ?_
      have hi8 := q_gd_in hf
      have hf := q_gd_go hf
      obtain ⟨S9, eS9, hf⟩ := q_let_go hf
      refine va_last hx hb hE.1 hP hD hS 1 1 rfl rfl hi8 dX3_set_80 (fun H locs hP hD hS => ?_)
      have hP : va_P D vwCl (wMD cI cJ a (sMD_now r5 (vp_updL (MD_now r5) (l1 : Int32).toNatClampNeg ((l2 : Int32).toInt64)))) H := hP
      have hD : va_D (va_A (wMD cI cJ a S) s.heap.size) (wMD cI cJ a (sMD_now r5 (vp_updL (MD_now r5) (l1 : Int32).toNatClampNeg ((l2 : Int32).toInt64)))) := hD
      rw [eS9] at hP hD
      refine lv_iload_n hx hb dX3_set_81 rfl (lv_at hl 0 rfl) ?_
      have ho := q_some hf
      subst ho
      exact W.iret hx hb hr (fun t ht hW => ⟨rfl, ⟨by rw [ht]; exact hP, hD⟩, hS.F ht⟩) hS.2.2 dX3_set_82
    · have hf := q_ite_f c4 hf
      refine lv_iconst (v := 0) hx hb dX3_set_59 (by decide) ?_
      have ho := q_some hf
      subst ho
      exact W.iret hx hb hr (fun t ht hW => ⟨rfl, ⟨by rw [ht]; exact hP, hD⟩, hS.F ht⟩) hS.2.2 dX3_set_60
  have B_25 : ∀ (Sz : MD) (H : Heap) (locs : List Loc) (hP : va_P D vwCl (wMD cI cJ a Sz) H) (hD : va_D (va_A (wMD cI cJ a S) s.heap.size) (wMD cI cJ a Sz)) (hS : va_S (va_A (wMD cI cJ a S) s.heap.size) s.heap H locs) (l1 : Int32) (l2 : Int32) (t0 : Int64) (t1 : Int64) (ls : Array Slot), lv_has ls 4 [(0, .ref (a 0)), (1, .int l1), (2, .int l2)] → f_X3_set_25 Sz l1 l2 t0 t1 = some o → W p l e (headSpec wsX3_set rX3_set).room s m (([.ref (a 0), .int p1, .int p2] : List Value).toArray) below meth c H locs 0 0 (MQ below (q_Wo (some (.int o.1)) D (wMD cI cJ a S) (wMD cI cJ a o.2) s.heap.size) (([.ref (a 0), .int p1, .int p2] : List Value).toArray) s 0 0 (va_A (wMD cI cJ a S) s.heap.size)) (F0 m 25 ls [.long t0, .long t1, .ref (a 0)]) := by
    intro Sz H locs hP hD hS l1 l2 t0 t1 ls hl hf
    unfold f_X3_set_25 at hf
    refine lv_iload_n hx hb dX3_set_25 rfl (lv_at hl 1 rfl) ?_
    refine lv_if_ne (tgt := 35) hx hb dX3_set_26 (by decide) (fun c11 => ?_) (fun c11 => ?_)
    · have hf := q_ite_t c11 hf
      refine lv_ldc2 (v := 50) hx hb hown (hts (.constantLong RX3 91 (50)) (List.mem_of_getElem? (i := 3) rfl)) dX3_set_35 ?_
      obtain ⟨r12, hr12, hf⟩ := q_bd_go hf
      refine q_rdSi (As := [.long t1, .long t0, .long 50]) (rest := [.ref (a 0)]) hx hb hml hown hts (c_X3_isIn l D cI cJ cS t1 t0 50 _ hr12) (va_cwS 3 hts gX3_set_X3_isIn rfl rfl rfl (by decide +kernel) ⟨(Nat.le_of_ble_eq_true rfl), (Nat.le_of_ble_eq_true rfl)⟩) hE rfl hl.1 rfl (Nat.le_of_ble_eq_true rfl) dX3_set_38 ⟨Nat.zero_le _, Nat.zero_le _⟩ ?_
      refine lv_if_eq (tgt := 48) hx hb dX3_set_41 (by decide) (fun c13 => ?_) (fun c13 => ?_)
      · have hf := q_ite_t c13 hf
        refine lv_iconst (v := 1) hx hb dX3_set_48 (by decide) ?_
        exact B_49 Sz _ _ hP hD hS l1 l2 1 _ (lv_sub hl [0, 1, 2] rfl) hf
      · have hf := q_ite_f c13 hf
        refine lv_iconst (v := 0) hx hb dX3_set_44 (by decide) ?_
        refine lv_goto (tgt := 49) hx hb dX3_set_45 (by decide) ?_
        exact B_49 Sz _ _ hP hD hS l1 l2 0 _ (lv_sub hl [0, 1, 2] rfl) hf
    · have hf := q_ite_n c11 hf
      refine lv_ldc2 (v := 5) hx hb hown (hts (.constantLong RX3 89 (5)) (List.mem_of_getElem? (i := 2) rfl)) dX3_set_29 ?_
      refine lv_goto (tgt := 38) hx hb dX3_set_32 (by decide) ?_
      obtain ⟨r14, hr14, hf⟩ := q_bd_go hf
      refine q_rdSi (As := [.long t1, .long t0, .long 5]) (rest := [.ref (a 0)]) hx hb hml hown hts (c_X3_isIn l D cI cJ cS t1 t0 5 _ hr14) (va_cwS 3 hts gX3_set_X3_isIn rfl rfl rfl (by decide +kernel) ⟨(Nat.le_of_ble_eq_true rfl), (Nat.le_of_ble_eq_true rfl)⟩) hE rfl hl.1 rfl (Nat.le_of_ble_eq_true rfl) dX3_set_38 ⟨Nat.zero_le _, Nat.zero_le _⟩ ?_
      refine lv_if_eq (tgt := 48) hx hb dX3_set_41 (by decide) (fun c15 => ?_) (fun c15 => ?_)
      · have hf := q_ite_t c15 hf
        refine lv_iconst (v := 1) hx hb dX3_set_48 (by decide) ?_
        exact B_49 Sz _ _ hP hD hS l1 l2 1 _ (lv_sub hl [0, 1, 2] rfl) hf
      · have hf := q_ite_f c15 hf
        refine lv_iconst (v := 0) hx hb dX3_set_44 (by decide) ?_
        refine lv_goto (tgt := 49) hx hb dX3_set_45 (by decide) ?_
        exact B_49 Sz _ _ hP hD hS l1 l2 0 _ (lv_sub hl [0, 1, 2] rfl) hf
  have hl := lv_entry ([.ref (a 0), .int p1, .int p2]) (n := 4) (Nat.le_of_ble_eq_true rfl)
  rw [lg_entry_eq]
  generalize (lg_sl ([.ref (a 0), .int p1, .int p2]) ++ List.replicate (4 - (lg_sl ([.ref (a 0), .int p1, .int p2])).length) Slot.unset).toArray = ls at hl ⊢
  have hl : lv_has ls 4 [(0, .ref (a 0)), (1, .int p1), (2, .int p2)] := hl
  unfold f_X3_set at hf
  refine lv_aload_n hx hb dX3_set_0 rfl (lv_at hl 0 rfl) ?_
  refine lv_iload_n hx hb dX3_set_1 rfl (lv_at hl 1 rfl) ?_
  refine lv_i2l (v := ((p1 : Int32).toInt64)) hx hb dX3_set_2 rfl ?_
  refine lv_lconst (v := 0) hx hb dX3_set_3 (by decide) ?_
  refine lv_ldc2 (v := 2) hx hb hown (hts (.constantLong RX3 87 (2)) (List.mem_of_getElem? (i := 1) rfl)) dX3_set_4 ?_
  obtain ⟨r1, hr1, hf⟩ := q_bd_go hf
  refine q_rdSi (As := [.long ((p1 : Int32).toInt64), .long 0, .long 2]) (rest := [.ref (a 0)]) hx hb hml hown hts (c_X3_isIn l D cI cJ cS ((p1 : Int32).toInt64) 0 2 _ hr1) (va_cwS 3 hts gX3_set_X3_isIn rfl rfl rfl (by decide +kernel) ⟨(Nat.le_of_ble_eq_true rfl), (Nat.le_of_ble_eq_true rfl)⟩) hE rfl hl.1 rfl (Nat.le_of_ble_eq_true rfl) dX3_set_7 ⟨Nat.zero_le _, Nat.zero_le _⟩ ?_
  refine lv_if_eq (tgt := 48) hx hb dX3_set_10 (by decide) (fun c2 => ?_) (fun c2 => ?_)
  · have hf := q_ite_t c2 hf
    refine lv_iconst (v := 1) hx hb dX3_set_48 (by decide) ?_
    exact B_49 S _ _ hP hD hS p1 p2 1 _ (lv_sub hl [0, 1, 2] rfl) hf
  · have hf := q_ite_f c2 hf
    refine lv_iload_n hx hb dX3_set_13 rfl (lv_at hl 2 rfl) ?_
    refine lv_i2l (v := ((p2 : Int32).toInt64)) hx hb dX3_set_14 rfl ?_
    refine lv_iload_n hx hb dX3_set_15 rfl (lv_at hl 1 rfl) ?_
    refine lv_iconst (v := 1) hx hb dX3_set_16 (by decide) ?_
    refine lv_icmp_ne (tgt := 24) hx hb dX3_set_17 (by decide) (fun c10 => ?_) (fun c10 => ?_)
    · have hf := q_ite_t c10 hf
      refine lv_lconst (v := 0) hx hb dX3_set_24 (by decide) ?_
      exact B_25 S _ _ hP hD hS p1 p2 0 (((p2 : Int32).toInt64)) _ (lv_sub hl [0, 1, 2] rfl) hf
    · have hf := q_ite_n c10 hf
      refine lv_lconst (v := 1) hx hb dX3_set_20 (by decide) ?_
      refine lv_goto (tgt := 25) hx hb dX3_set_21 (by decide) ?_
      exact B_25 S _ _ hP hD hS p1 p2 1 (((p2 : Int32).toInt64)) _ (lv_sub hl [0, 1, 2] rfl) hf
def f_X3_addPerson_34 (Sz : MD) (l1 : Int64) (t0 : Int32) : Option (Int32 × MD) := q_let (sMD_thrown Sz t0) fun S5 =>
 if (MD_thrown S5) = 0 then
 ((f_X3_records S5).bind fun r7 =>
 if q_in 3 420 = true then
 (q_let ((((MD_now r7 (3 : Int32).toNatClampNeg) : Int64).toInt32)) fun v9 =>
 if q_in ((6 + (3 * v9)) + 0) 420 = true then
 (q_let (sMD_now r7 (vp_updL (MD_now r7) (((6 + (3 * v9)) + 0) : Int32).toNatClampNeg l1)) fun S11 =>
 if q_in ((6 + (3 * v9)) + 1) 420 = true then
 (q_let (sMD_now S11 (vp_updL (MD_now S11) (((6 + (3 * v9)) + 1) : Int32).toNatClampNeg 0)) fun S13 =>
 if q_in ((6 + (3 * v9)) + 2) 420 = true then
 (q_let (sMD_now S13 (vp_updL (MD_now S13) (((6 + (3 * v9)) + 2) : Int32).toNatClampNeg 0)) fun S15 =>
 if q_in 3 420 = true then
 (if q_in 3 420 = true then
 (q_let (sMD_now S15 (vp_updL (MD_now S15) (3 : Int32).toNatClampNeg ((MD_now S15 (3 : Int32).toNatClampNeg) + 1))) fun S18 =>
 some (v9, S18)) else none) else none) else none) else none) else none) else none)
 else (some (0, S5))
def f_X3_addPerson (S : MD) (p1 : Int64) : Option (Int32 × MD) := (f_X3_isIn p1 0 4398046511103).bind fun r1 =>
 if ¬ r1 = 0 then
 (if q_in 3 420 = true then
 (if 0 ≤ (lg_cmp (MD_now S (3 : Int32).toNatClampNeg) 8) then
 (f_X3_addPerson_34 S p1 2)
 else (f_X3_addPerson_34 S p1 0)) else none)
 else (f_X3_addPerson_34 S p1 1)
abbrev rX3_addPerson : Room := { frames := 2, cells := 0, slots := 0, locals := 43 }
set_option maxRecDepth 100000 in
set_option maxHeartbeats 4000000 in
theorem c_X3_addPerson (l : Launch) (D : va_G) (cI cJ cS : ClassId) (a : Nat → Nat) (S : MD) (sz : Nat) (p1 : Int64) (o : (Int32 × MD)) (hf : f_X3_addPerson S p1 = some o) : Met l yX3_addPerson wsX3_addPerson rX3_addPerson (va_Pc [.ref (a 0), .long p1] (q_BW D cI cJ cS (wMD cI cJ a S) sz)) (q_Wo (some (.int o.1)) D (wMD cI cJ a S) (wMD cI cJ a o.2) sz) 0 0 (va_A (wMD cI cJ a S) sz) := by
  refine Met.ofW (cc := cX3_addPerson) (maxL := 4) (ret := some .int) (by decide) rfl ?_
  intro p e s m args below meth c s₁ B hml hv
  obtain ⟨rfl, hsz, hP, hE, hD0⟩ := hv
  have hx := B.exec
  have hb := B.bytes
  have hr := B.returns
  have hts := atoms_spec (ws := wsX3_addPerson) B.pre
  have hown : s.vm.findClass RX3 = some m.cls := findClass_of_methodNamed B.named
  have hlocks := B.notSynchronized
  have hu : ∀ z ∈ wsX30, z.before _ s = true := fun z h => hts z (List.mem_cons_of_mem _ (List.mem_append_right _ h))
  subst hsz
  have hD := hD0.self (sz := s.heap.size)
  have hS : va_S (va_A (wMD cI cJ a S) s.heap.size) s.heap s.heap [] := va_S.rf
  have B_34 : ∀ (Sz : MD) (H : Heap) (locs : List Loc) (hP : va_P D vwCl (wMD cI cJ a Sz) H) (hD : va_D (va_A (wMD cI cJ a S) s.heap.size) (wMD cI cJ a Sz)) (hS : va_S (va_A (wMD cI cJ a S) s.heap.size) s.heap H locs) (l1 : Int64) (t0 : Int32) (ls : Array Slot), lv_has ls 4 [(0, .ref (a 0)), (1, .long l1)] → f_X3_addPerson_34 Sz l1 t0 = some o → W p l e (headSpec wsX3_addPerson rX3_addPerson).room s m (([.ref (a 0), .long p1] : List Value).toArray) below meth c H locs 0 0 (MQ below (q_Wo (some (.int o.1)) D (wMD cI cJ a S) (wMD cI cJ a o.2) s.heap.size) (([.ref (a 0), .long p1] : List Value).toArray) s 0 0 (va_A (wMD cI cJ a S) s.heap.size)) (F0 m 34 ls [.int t0, .ref (a 0)]) := by
    intro Sz H locs hP hD hS l1 t0 ls hl hf
    unfold f_X3_addPerson_34 at hf
    obtain ⟨S5, eS5, hf⟩ := q_let_go hf
    refine va_put (D := D) (ci := 3) (v := .int t0) (ty := .int) (C := RX3) (T := TX3) (N := 15) hx hb hu (fun _ h => h) tyX3 tyX3_ok nmX3 hown hE.1 hP hD hS 0 rfl rfl 3 (Nat.le_of_ble_eq_true rfl) (hts (.fieldLink RX3 30 "CoverMeterModel" "thrown" "I") (List.mem_of_getElem? (i := 4) rfl)) (fun _ h9 => h9) rfl (by decide +kernel) rfl rfl (Nat.le_of_ble_eq_true rfl) dX3_addPerson_34 (fun H locs hP hD hS => ?_)
    have hP : va_P D vwCl (wMD cI cJ a (sMD_thrown Sz t0)) H := hP
    have hD : va_D (va_A (wMD cI cJ a S) s.heap.size) (wMD cI cJ a (sMD_thrown Sz t0)) := hD
    rw [eS5] at hP hD
    refine lv_aload_n hx hb dX3_addPerson_37 rfl (lv_at hl 0 rfl) ?_
    refine va_get (D := D) (ci := 3) (v := .int (MD_thrown S5)) (C := RX3) (T := TX3) (N := 15) hx hb hu (fun _ h => h) hown hE.1 hP 0 rfl rfl 3 (Nat.le_of_ble_eq_true rfl) (hts (.fieldLink RX3 30 "CoverMeterModel" "thrown" "I") (List.mem_of_getElem? (i := 4) rfl)) (fun _ h9 => h9) rfl dX3_addPerson_38 ?_
    refine lv_if_eq (tgt := 46) hx hb dX3_addPerson_41 (by decide) (fun c6 => ?_) (fun c6 => ?_)
    · have hf := q_ite_t c6 hf
      refine lv_aload_n hx hb dX3_addPerson_46 rfl (lv_at hl 0 rfl) ?_
      obtain ⟨r7, hr7, hf⟩ := q_bd_go hf
      refine q_wrVv (ci := 3) (As := []) (rest := []) hx hb hml hown hts (c_X3_records l D cI cJ cS a S5 _  _ hr7) (cwV 0 hts gX3_addPerson_X3_records rfl rfl rfl (by decide +kernel) ⟨(Nat.le_of_ble_eq_true rfl), (Nat.le_of_ble_eq_true rfl)⟩) hE hP hD hS (fun q h => Or.inr h) rfl rfl rfl hl.1 rfl (Nat.le_of_ble_eq_true rfl) dX3_addPerson_47 ⟨Nat.zero_le _, Nat.zero_le _⟩ (fun H locs hP hD hS => ?_)
      refine lv_aload_n hx hb dX3_addPerson_50 rfl (lv_at hl 0 rfl) ?_
      refine va_get (D := D) (ci := 3) (v := .ref (a 1)) (C := RX3) (T := TX3) (N := 15) hx hb hu (fun _ h => h) hown hE.1 hP 0 rfl rfl 0 (Nat.le_of_ble_eq_true rfl) (hts (.fieldLink RX3 7 "CoverMeterModel" "now" "[J") (List.mem_of_getElem? (i := 2) rfl)) (fun _ h9 => h9) rfl dX3_addPerson_51 ?_
      refine lv_iconst (v := 3) hx hb dX3_addPerson_54 (by decide) ?_
      have hi8 := q_gd_in hf
      have hf := q_gd_go hf
      refine va_lald hx hb hE.1 hP 1 1 rfl rfl hi8 dX3_addPerson_55 ?_
      refine lv_l2i (v := (((MD_now r7 (3 : Int32).toNatClampNeg) : Int64).toInt32)) hx hb dX3_addPerson_56 rfl ?_
      obtain ⟨v9, ev9, hf⟩ := q_let_go hf
      refine q_nmi ev9 ?_
      refine lv_istore_n (lv' := [(3, .int v9), (0, .ref (a 0)), (1, .long l1)]) hx hb dX3_addPerson_57 rfl hl (by decide) rfl (fun ls hl => ?_)
      refine lv_aload_n hx hb dX3_addPerson_58 rfl (lv_at hl 1 rfl) ?_
      refine va_get (D := D) (ci := 3) (v := .ref (a 1)) (C := RX3) (T := TX3) (N := 15) hx hb hu (fun _ h => h) hown hE.1 hP 0 rfl rfl 0 (Nat.le_of_ble_eq_true rfl) (hts (.fieldLink RX3 7 "CoverMeterModel" "now" "[J") (List.mem_of_getElem? (i := 2) rfl)) (fun _ h9 => h9) rfl dX3_addPerson_59 ?_
      refine lv_bipush (v := 6) hx hb dX3_addPerson_62 (by decide) ?_
      refine lv_iconst (v := 3) hx hb dX3_addPerson_64 (by decide) ?_
      refine lv_iload_n hx hb dX3_addPerson_65 rfl (lv_at hl 0 rfl) ?_
      refine lv_imul hx hb dX3_addPerson_66 ?_
      refine lv_iadd hx hb dX3_addPerson_67 ?_
      refine lv_iconst (v := 0) hx hb dX3_addPerson_68 (by decide) ?_
      refine lv_iadd hx hb dX3_addPerson_69 ?_
      refine lv_lload_n hx hb dX3_addPerson_70 rfl (lv_at hl 2 rfl) ?_
      have hi10 := q_gd_in hf
      have hf := q_gd_go hf
      obtain ⟨S11, eS11, hf⟩ := q_let_go hf
      refine va_last hx hb hE.1 hP hD hS 1 1 rfl rfl hi10 dX3_addPerson_71 (fun H locs hP hD hS => ?_)
      have hP : va_P D vwCl (wMD cI cJ a (sMD_now r7 (vp_updL (MD_now r7) (((6 + (3 * v9)) + 0) : Int32).toNatClampNeg l1))) H := hP
      have hD : va_D (va_A (wMD cI cJ a S) s.heap.size) (wMD cI cJ a (sMD_now r7 (vp_updL (MD_now r7) (((6 + (3 * v9)) + 0) : Int32).toNatClampNeg l1))) := hD
      rw [eS11] at hP hD
      refine lv_aload_n hx hb dX3_addPerson_72 rfl (lv_at hl 1 rfl) ?_
      refine va_get (D := D) (ci := 3) (v := .ref (a 1)) (C := RX3) (T := TX3) (N := 15) hx hb hu (fun _ h => h) hown hE.1 hP 0 rfl rfl 0 (Nat.le_of_ble_eq_true rfl) (hts (.fieldLink RX3 7 "CoverMeterModel" "now" "[J") (List.mem_of_getElem? (i := 2) rfl)) (fun _ h9 => h9) rfl dX3_addPerson_73 ?_
      refine lv_bipush (v := 6) hx hb dX3_addPerson_76 (by decide) ?_
      refine lv_iconst (v := 3) hx hb dX3_addPerson_78 (by decide) ?_
      refine lv_iload_n hx hb dX3_addPerson_79 rfl (lv_at hl 0 rfl) ?_
      refine lv_imul hx hb dX3_addPerson_80 ?_
      refine lv_iadd hx hb dX3_addPerson_81 ?_
      refine lv_iconst (v := 1) hx hb dX3_addPerson_82 (by decide) ?_
      refine lv_iadd hx hb dX3_addPerson_83 ?_
      refine lv_lconst (v := 0) hx hb dX3_addPerson_84 (by decide) ?_
      have hi12 := q_gd_in hf
      have hf := q_gd_go hf
      obtain ⟨S13, eS13, hf⟩ := q_let_go hf
      refine va_last hx hb hE.1 hP hD hS 1 1 rfl rfl hi12 dX3_addPerson_85 (fun H locs hP hD hS => ?_)
      have hP : va_P D vwCl (wMD cI cJ a (sMD_now S11 (vp_updL (MD_now S11) (((6 + (3 * v9)) + 1) : Int32).toNatClampNeg 0))) H := hP
      have hD : va_D (va_A (wMD cI cJ a S) s.heap.size) (wMD cI cJ a (sMD_now S11 (vp_updL (MD_now S11) (((6 + (3 * v9)) + 1) : Int32).toNatClampNeg 0))) := hD
      rw [eS13] at hP hD
      refine lv_aload_n hx hb dX3_addPerson_86 rfl (lv_at hl 1 rfl) ?_
      refine va_get (D := D) (ci := 3) (v := .ref (a 1)) (C := RX3) (T := TX3) (N := 15) hx hb hu (fun _ h => h) hown hE.1 hP 0 rfl rfl 0 (Nat.le_of_ble_eq_true rfl) (hts (.fieldLink RX3 7 "CoverMeterModel" "now" "[J") (List.mem_of_getElem? (i := 2) rfl)) (fun _ h9 => h9) rfl dX3_addPerson_87 ?_
      refine lv_bipush (v := 6) hx hb dX3_addPerson_90 (by decide) ?_
      refine lv_iconst (v := 3) hx hb dX3_addPerson_92 (by decide) ?_
      refine lv_iload_n hx hb dX3_addPerson_93 rfl (lv_at hl 0 rfl) ?_
      refine lv_imul hx hb dX3_addPerson_94 ?_
      refine lv_iadd hx hb dX3_addPerson_95 ?_
      refine lv_iconst (v := 2) hx hb dX3_addPerson_96 (by decide) ?_
      refine lv_iadd hx hb dX3_addPerson_97 ?_
      refine lv_lconst (v := 0) hx hb dX3_addPerson_98 (by decide) ?_
      have hi14 := q_gd_in hf
      have hf := q_gd_go hf
      obtain ⟨S15, eS15, hf⟩ := q_let_go hf
      refine va_last hx hb hE.1 hP hD hS 1 1 rfl rfl hi14 dX3_addPerson_99 (fun H locs hP hD hS => ?_)
      have hP : va_P D vwCl (wMD cI cJ a (sMD_now S13 (vp_updL (MD_now S13) (((6 + (3 * v9)) + 2) : Int32).toNatClampNeg 0))) H := hP
      have hD : va_D (va_A (wMD cI cJ a S) s.heap.size) (wMD cI cJ a (sMD_now S13 (vp_updL (MD_now S13) (((6 + (3 * v9)) + 2) : Int32).toNatClampNeg 0))) := hD
      rw [eS15] at hP hD
      refine lv_aload_n hx hb dX3_addPerson_100 rfl (lv_at hl 1 rfl) ?_
      refine va_get (D := D) (ci := 3) (v := .ref (a 1)) (C := RX3) (T := TX3) (N := 15) hx hb hu (fun _ h => h) hown hE.1 hP 0 rfl rfl 0 (Nat.le_of_ble_eq_true rfl) (hts (.fieldLink RX3 7 "CoverMeterModel" "now" "[J") (List.mem_of_getElem? (i := 2) rfl)) (fun _ h9 => h9) rfl dX3_addPerson_101 ?_
      refine lv_iconst (v := 3) hx hb dX3_addPerson_104 (by decide) ?_
      refine lv_dup2_11 hx hb dX3_addPerson_105 rfl rfl ?_
      have hi16 := q_gd_in hf
      have hf := q_gd_go hf
      refine va_lald hx hb hE.1 hP 1 1 rfl rfl hi16 dX3_addPerson_106 ?_
      refine lv_lconst (v := 1) hx hb dX3_addPerson_107 (by decide) ?_
      refine lv_ladd hx hb dX3_addPerson_108 ?_
      have hi17 := q_gd_in hf
      have hf := q_gd_go hf
      obtain ⟨S18, eS18, hf⟩ := q_let_go hf
      refine va_last hx hb hE.1 hP hD hS 1 1 rfl rfl hi17 dX3_addPerson_109 (fun H locs hP hD hS => ?_)
      have hP : va_P D vwCl (wMD cI cJ a (sMD_now S15 (vp_updL (MD_now S15) (3 : Int32).toNatClampNeg ((MD_now S15 (3 : Int32).toNatClampNeg) + 1)))) H := hP
      have hD : va_D (va_A (wMD cI cJ a S) s.heap.size) (wMD cI cJ a (sMD_now S15 (vp_updL (MD_now S15) (3 : Int32).toNatClampNeg ((MD_now S15 (3 : Int32).toNatClampNeg) + 1)))) := hD
      rw [eS18] at hP hD
      refine lv_iload_n hx hb dX3_addPerson_110 rfl (lv_at hl 0 rfl) ?_
      have ho := q_some hf
      subst ho
      exact W.iret hx hb hr (fun t ht hW => ⟨rfl, ⟨by rw [ht]; exact hP, hD⟩, hS.F ht⟩) hS.2.2 dX3_addPerson_111
    · have hf := q_ite_f c6 hf
      refine lv_iconst (v := 0) hx hb dX3_addPerson_44 (by decide) ?_
      have ho := q_some hf
      subst ho
      exact W.iret hx hb hr (fun t ht hW => ⟨rfl, ⟨by rw [ht]; exact hP, hD⟩, hS.F ht⟩) hS.2.2 dX3_addPerson_45
  have hl := lv_entry ([.ref (a 0), .long p1]) (n := 4) (Nat.le_of_ble_eq_true rfl)
  rw [lg_entry_eq]
  generalize (lg_sl ([.ref (a 0), .long p1]) ++ List.replicate (4 - (lg_sl ([.ref (a 0), .long p1])).length) Slot.unset).toArray = ls at hl ⊢
  have hl : lv_has ls 4 [(0, .ref (a 0)), (1, .long p1)] := hl
  unfold f_X3_addPerson at hf
  refine lv_aload_n hx hb dX3_addPerson_0 rfl (lv_at hl 0 rfl) ?_
  refine lv_lload_n hx hb dX3_addPerson_1 rfl (lv_at hl 1 rfl) ?_
  refine lv_lconst (v := 0) hx hb dX3_addPerson_2 (by decide) ?_
  refine lv_ldc2 (v := 4398046511103) hx hb hown (hts (.constantLong RX3 96 (4398046511103)) (List.mem_of_getElem? (i := 1) rfl)) dX3_addPerson_3 ?_
  obtain ⟨r1, hr1, hf⟩ := q_bd_go hf
  refine q_rdSi (As := [.long p1, .long 0, .long 4398046511103]) (rest := [.ref (a 0)]) hx hb hml hown hts (c_X3_isIn l D cI cJ cS p1 0 4398046511103 _ hr1) (va_cwS 3 hts gX3_addPerson_X3_isIn rfl rfl rfl (by decide +kernel) ⟨(Nat.le_of_ble_eq_true rfl), (Nat.le_of_ble_eq_true rfl)⟩) hE rfl hl.1 rfl (Nat.le_of_ble_eq_true rfl) dX3_addPerson_6 ⟨Nat.zero_le _, Nat.zero_le _⟩ ?_
  refine lv_if_ne (tgt := 16) hx hb dX3_addPerson_9 (by decide) (fun c2 => ?_) (fun c2 => ?_)
  · have hf := q_ite_t c2 hf
    refine lv_aload_n hx hb dX3_addPerson_16 rfl (lv_at hl 0 rfl) ?_
    refine va_get (D := D) (ci := 3) (v := .ref (a 1)) (C := RX3) (T := TX3) (N := 15) hx hb hu (fun _ h => h) hown hE.1 hP 0 rfl rfl 0 (Nat.le_of_ble_eq_true rfl) (hts (.fieldLink RX3 7 "CoverMeterModel" "now" "[J") (List.mem_of_getElem? (i := 2) rfl)) (fun _ h9 => h9) rfl dX3_addPerson_17 ?_
    refine lv_iconst (v := 3) hx hb dX3_addPerson_20 (by decide) ?_
    have hi3 := q_gd_in hf
    have hf := q_gd_go hf
    refine va_lald hx hb hE.1 hP 1 1 rfl rfl hi3 dX3_addPerson_21 ?_
    refine lv_ldc2 (v := 8) hx hb hown (hts (.constantLong RX3 98 (8)) (List.mem_of_getElem? (i := 3) rfl)) dX3_addPerson_22 ?_
    refine W.lcmp hx hb dX3_addPerson_25 ?_
    refine lv_if_ge (tgt := 33) hx hb dX3_addPerson_26 (by decide) (fun c4 => ?_) (fun c4 => ?_)
    · have hf := q_ite_t c4 hf
      refine lv_iconst (v := 2) hx hb dX3_addPerson_33 (by decide) ?_
      exact B_34 S _ _ hP hD hS p1 2 _ (lv_sub hl [0, 1] rfl) hf
    · have hf := q_ite_f c4 hf
      refine lv_iconst (v := 0) hx hb dX3_addPerson_29 (by decide) ?_
      refine lv_goto (tgt := 34) hx hb dX3_addPerson_30 (by decide) ?_
      exact B_34 S _ _ hP hD hS p1 0 _ (lv_sub hl [0, 1] rfl) hf
  · have hf := q_ite_n c2 hf
    refine lv_iconst (v := 1) hx hb dX3_addPerson_12 (by decide) ?_
    refine lv_goto (tgt := 34) hx hb dX3_addPerson_13 (by decide) ?_
    exact B_34 S _ _ hP hD hS p1 1 _ (lv_sub hl [0, 1] rfl) hf
def f_X3_rostered_4 (S : MD) : Nat → Int32 → Int32 → Int32 → Option Int32
  | 0, _, _, _ => none
  | n+1, l1, l2, l3 => if 42 ≤ l3 then
 (some l2)
 else ((f_X3_isRostered S l1 l3).bind fun r2 =>
 if r2 = 0 then
 (q_let ((l2 + 0)) fun v4 =>
 q_let (l3 + 1) fun v5 =>
 f_X3_rostered_4 S n l1 v4 v5)
 else (q_let ((l2 + 1)) fun v6 =>
 q_let (l3 + 1) fun v7 =>
 f_X3_rostered_4 S n l1 v6 v7))
def f_X3_rostered (S : MD) (p1 : Int32) : Option Int32 := f_X3_rostered_4 S 2000 p1 0 0
abbrev rX3_rostered : Room := { frames := 2, cells := 0, slots := 0, locals := 44 }
set_option maxRecDepth 100000 in
set_option maxHeartbeats 4000000 in
theorem c_X3_rostered (l : Launch) (D : va_G) (cI cJ cS : ClassId) (a : Nat → Nat) (S : MD) (p1 : Int32) (o : Int32) (hf : f_X3_rostered S p1 = some o) : Met l yX3_rostered wsX3_rostered rX3_rostered (va_Pc [.ref (a 0), .int p1] (q_B D cI cJ cS (wMD cI cJ a S))) (q_Ri o) 0 0 (fun _ => False) := by
  refine Met.ofW (cc := cX3_rostered) (maxL := 4) (ret := some .int) (by decide) rfl ?_
  intro p e s m args below meth c s₁ B hml hv
  obtain ⟨rfl, hP, hE⟩ := hv
  have hx := B.exec
  have hb := B.bytes
  have hr := B.returns
  have hts := atoms_spec (ws := wsX3_rostered) B.pre
  have hown : s.vm.findClass RX3 = some m.cls := findClass_of_methodNamed B.named
  have hlocks := B.notSynchronized
  have L_4 : ∀ (n : Nat) (l1 : Int32) (l2 : Int32) (l3 : Int32) (ls : Array Slot), lv_has ls 4 [(0, .ref (a 0)), (1, .int l1), (2, .int l2), (3, .int l3)] → f_X3_rostered_4 S n l1 l2 l3 = some o → W p l e (headSpec wsX3_rostered rX3_rostered).room s m (([.ref (a 0), .int p1] : List Value).toArray) below meth c s.heap [] 0 0 (MQ below (q_Ri o) (([.ref (a 0), .int p1] : List Value).toArray) s 0 0 (fun _ => False)) (F0 m 4 ls []) := by
    intro n
    induction n with
    | zero => intro l1 l2 l3 ls hl hf; cases hf
    | succ n ih =>
      intro l1 l2 l3 ls hl hf
      rw [f_X3_rostered_4] at hf
      refine lv_iload_n hx hb dX3_rostered_4 rfl (lv_at hl 3 rfl) ?_
      refine lv_bipush (v := 42) hx hb dX3_rostered_5 (by decide) ?_
      refine lv_icmp_ge (tgt := 33) hx hb dX3_rostered_7 (by decide) (fun c1 => ?_) (fun c1 => ?_)
      · have hf := q_ite_t c1 hf
        refine lv_iload_n hx hb dX3_rostered_33 rfl (lv_at hl 2 rfl) ?_
        have ho := q_some hf
        subst ho
        exact W.iret hx hb hr (fun t ht hW => ⟨rfl, ht⟩) t_nil dX3_rostered_34
      · have hf := q_ite_f c1 hf
        refine lv_iload_n hx hb dX3_rostered_10 rfl (lv_at hl 2 rfl) ?_
        refine lv_aload_n hx hb dX3_rostered_11 rfl (lv_at hl 0 rfl) ?_
        refine lv_iload_n hx hb dX3_rostered_12 rfl (lv_at hl 1 rfl) ?_
        refine lv_iload_n hx hb dX3_rostered_13 rfl (lv_at hl 3 rfl) ?_
        obtain ⟨r2, hr2, hf⟩ := q_bd_go hf
        refine q_rdVi (ci := 3) (As := [.int l1, .int l3]) (rest := [.int l2]) hx hb hml hown hts (c_X3_isRostered l D cI cJ cS a S l1 l3 _ hr2) (cwV 2 hts gX3_rostered_X3_isRostered rfl rfl rfl (by decide +kernel) ⟨(Nat.le_of_ble_eq_true rfl), (Nat.le_of_ble_eq_true rfl)⟩) hE hP rfl rfl rfl hl.1 rfl (Nat.le_of_ble_eq_true rfl) dX3_rostered_14 ⟨Nat.zero_le _, Nat.zero_le _⟩ ?_
        refine lv_if_eq (tgt := 24) hx hb dX3_rostered_17 (by decide) (fun c3 => ?_) (fun c3 => ?_)
        · have hf := q_ite_t c3 hf
          refine lv_iconst (v := 0) hx hb dX3_rostered_24 (by decide) ?_
          refine lv_iadd hx hb dX3_rostered_25 ?_
          obtain ⟨v4, ev4, hf⟩ := q_let_go hf
          refine q_nmi ev4 ?_
          refine lv_istore_n (lv' := [(2, .int v4), (0, .ref (a 0)), (1, .int l1), (3, .int l3)]) hx hb dX3_rostered_26 rfl hl (by decide) rfl (fun ls hl => ?_)
          obtain ⟨v5, ev5, hf⟩ := q_let_go hf
          refine lv_iinc (v := v5) (lv' := [(3, .int v5), (2, .int v4), (0, .ref (a 0)), (1, .int l1)]) hx hb dX3_rostered_27 hl (k := 3) rfl (by rw [← ev5]; rfl) (by decide) rfl (fun ls hl => ?_)
          refine lv_goto (tgt := 4) hx hb dX3_rostered_30 (by decide) ?_
          exact ih l1 v4 v5 _ (lv_sub hl [2, 3, 1, 0] rfl) hf
        · have hf := q_ite_f c3 hf
          refine lv_iconst (v := 1) hx hb dX3_rostered_20 (by decide) ?_
          refine lv_goto (tgt := 25) hx hb dX3_rostered_21 (by decide) ?_
          refine lv_iadd hx hb dX3_rostered_25 ?_
          obtain ⟨v6, ev6, hf⟩ := q_let_go hf
          refine q_nmi ev6 ?_
          refine lv_istore_n (lv' := [(2, .int v6), (0, .ref (a 0)), (1, .int l1), (3, .int l3)]) hx hb dX3_rostered_26 rfl hl (by decide) rfl (fun ls hl => ?_)
          obtain ⟨v7, ev7, hf⟩ := q_let_go hf
          refine lv_iinc (v := v7) (lv' := [(3, .int v7), (2, .int v6), (0, .ref (a 0)), (1, .int l1)]) hx hb dX3_rostered_27 hl (k := 3) rfl (by rw [← ev7]; rfl) (by decide) rfl (fun ls hl => ?_)
          refine lv_goto (tgt := 4) hx hb dX3_rostered_30 (by decide) ?_
          exact ih l1 v6 v7 _ (lv_sub hl [2, 3, 1, 0] rfl) hf
  have hl := lv_entry ([.ref (a 0), .int p1]) (n := 4) (Nat.le_of_ble_eq_true rfl)
  rw [lg_entry_eq]
  generalize (lg_sl ([.ref (a 0), .int p1]) ++ List.replicate (4 - (lg_sl ([.ref (a 0), .int p1])).length) Slot.unset).toArray = ls at hl ⊢
  have hl : lv_has ls 4 [(0, .ref (a 0)), (1, .int p1)] := hl
  unfold f_X3_rostered at hf
  refine lv_iconst (v := 0) hx hb dX3_rostered_0 (by decide) ?_
  refine lv_istore_n (lv' := [(2, .int 0), (0, .ref (a 0)), (1, .int p1)]) hx hb dX3_rostered_1 rfl hl (by decide) rfl (fun ls hl => ?_)
  refine lv_iconst (v := 0) hx hb dX3_rostered_2 (by decide) ?_
  refine lv_istore_n (lv' := [(3, .int 0), (2, .int 0), (0, .ref (a 0)), (1, .int p1)]) hx hb dX3_rostered_3 rfl hl (by decide) rfl (fun ls hl => ?_)
  exact L_4 2000 p1 0 0 _ (lv_sub hl [2, 3, 1, 0] rfl) hf
def f_X3_mayBeAbsent (S : MD) (p1 : Int32) (p2 : Int32) : Option Int32 := (f_X3_isRostered S p1 p2).bind fun r1 =>
 if r1 = 0 then
 (some 0)
 else ((f_X3_isAbsent S p1 p2).bind fun r3 =>
 if ¬ r3 = 0 then
 (some 0)
 else (if q_in 4 420 = true then
 (if 0 ≤ (lg_cmp (MD_now S (4 : Int32).toNatClampNeg) 30) then
 (some 0)
 else (some 1)) else none))
abbrev rX3_mayBeAbsent : Room := { frames := 2, cells := 0, slots := 0, locals := 46 }
set_option maxRecDepth 100000 in
set_option maxHeartbeats 4000000 in
theorem c_X3_mayBeAbsent (l : Launch) (D : va_G) (cI cJ cS : ClassId) (a : Nat → Nat) (S : MD) (p1 : Int32) (p2 : Int32) (o : Int32) (hf : f_X3_mayBeAbsent S p1 p2 = some o) : Met l yX3_mayBeAbsent wsX3_mayBeAbsent rX3_mayBeAbsent (va_Pc [.ref (a 0), .int p1, .int p2] (q_B D cI cJ cS (wMD cI cJ a S))) (q_Ri o) 0 0 (fun _ => False) := by
  refine Met.ofW (cc := cX3_mayBeAbsent) (maxL := 3) (ret := some .boolean) (by decide) rfl ?_
  intro p e s m args below meth c s₁ B hml hv
  obtain ⟨rfl, hP, hE⟩ := hv
  have hx := B.exec
  have hb := B.bytes
  have hr := B.returns
  have hts := atoms_spec (ws := wsX3_mayBeAbsent) B.pre
  have hown : s.vm.findClass RX3 = some m.cls := findClass_of_methodNamed B.named
  have hlocks := B.notSynchronized
  have hu : ∀ z ∈ wsX30, z.before _ s = true := fun z h => hts z (List.mem_cons_of_mem _ (List.mem_append_right _ h))
  have hl := lv_entry ([.ref (a 0), .int p1, .int p2]) (n := 3) (Nat.le_of_ble_eq_true rfl)
  rw [lg_entry_eq]
  generalize (lg_sl ([.ref (a 0), .int p1, .int p2]) ++ List.replicate (3 - (lg_sl ([.ref (a 0), .int p1, .int p2])).length) Slot.unset).toArray = ls at hl ⊢
  have hl : lv_has ls 3 [(0, .ref (a 0)), (1, .int p1), (2, .int p2)] := hl
  unfold f_X3_mayBeAbsent at hf
  refine lv_aload_n hx hb dX3_mayBeAbsent_0 rfl (lv_at hl 0 rfl) ?_
  refine lv_iload_n hx hb dX3_mayBeAbsent_1 rfl (lv_at hl 1 rfl) ?_
  refine lv_iload_n hx hb dX3_mayBeAbsent_2 rfl (lv_at hl 2 rfl) ?_
  obtain ⟨r1, hr1, hf⟩ := q_bd_go hf
  refine q_rdVi (ci := 3) (As := [.int p1, .int p2]) (rest := []) hx hb hml hown hts (c_X3_isRostered l D cI cJ cS a S p1 p2 _ hr1) (cwV 2 hts gX3_mayBeAbsent_X3_isRostered rfl rfl rfl (by decide +kernel) ⟨(Nat.le_of_ble_eq_true rfl), (Nat.le_of_ble_eq_true rfl)⟩) hE hP rfl rfl rfl hl.1 rfl (Nat.le_of_ble_eq_true rfl) dX3_mayBeAbsent_3 ⟨Nat.zero_le _, Nat.zero_le _⟩ ?_
  refine lv_if_eq (tgt := 35) hx hb dX3_mayBeAbsent_6 (by decide) (fun c2 => ?_) (fun c2 => ?_)
  · have hf := q_ite_t c2 hf
    refine lv_iconst (v := 0) hx hb dX3_mayBeAbsent_35 (by decide) ?_
    have ho := q_some hf
    subst ho
    exact W.zret hx hb hr rfl (fun t ht hW => ⟨rfl, ht⟩) t_nil dX3_mayBeAbsent_36
  · have hf := q_ite_f c2 hf
    refine lv_aload_n hx hb dX3_mayBeAbsent_9 rfl (lv_at hl 0 rfl) ?_
    refine lv_iload_n hx hb dX3_mayBeAbsent_10 rfl (lv_at hl 1 rfl) ?_
    refine lv_iload_n hx hb dX3_mayBeAbsent_11 rfl (lv_at hl 2 rfl) ?_
    obtain ⟨r3, hr3, hf⟩ := q_bd_go hf
    refine q_rdVi (ci := 3) (As := [.int p1, .int p2]) (rest := []) hx hb hml hown hts (c_X3_isAbsent l D cI cJ cS a S p1 p2 _ hr3) (cwV 2 hts gX3_mayBeAbsent_X3_isAbsent rfl rfl rfl (by decide +kernel) ⟨(Nat.le_of_ble_eq_true rfl), (Nat.le_of_ble_eq_true rfl)⟩) hE hP rfl rfl rfl hl.1 rfl (Nat.le_of_ble_eq_true rfl) dX3_mayBeAbsent_12 ⟨Nat.zero_le _, Nat.zero_le _⟩ ?_
    refine lv_if_ne (tgt := 35) hx hb dX3_mayBeAbsent_15 (by decide) (fun c4 => ?_) (fun c4 => ?_)
    · have hf := q_ite_t c4 hf
      refine lv_iconst (v := 0) hx hb dX3_mayBeAbsent_35 (by decide) ?_
      have ho := q_some hf
      subst ho
      exact W.zret hx hb hr rfl (fun t ht hW => ⟨rfl, ht⟩) t_nil dX3_mayBeAbsent_36
    · have hf := q_ite_n c4 hf
      refine lv_aload_n hx hb dX3_mayBeAbsent_18 rfl (lv_at hl 0 rfl) ?_
      refine va_get (D := D) (ci := 3) (v := .ref (a 1)) (C := RX3) (T := TX3) (N := 15) hx hb hu (fun _ h => h) hown hE.1 hP 0 rfl rfl 0 (Nat.le_of_ble_eq_true rfl) (hts (.fieldLink RX3 7 "CoverMeterModel" "now" "[J") (List.mem_of_getElem? (i := 1) rfl)) (fun _ h9 => h9) rfl dX3_mayBeAbsent_19 ?_
      refine lv_iconst (v := 4) hx hb dX3_mayBeAbsent_22 (by decide) ?_
      have hi5 := q_gd_in hf
      have hf := q_gd_go hf
      refine va_lald hx hb hE.1 hP 1 1 rfl rfl hi5 dX3_mayBeAbsent_23 ?_
      refine lv_ldc2 (v := 30) hx hb hown (hts (.constantLong RX3 111 (30)) (List.mem_of_getElem? (i := 2) rfl)) dX3_mayBeAbsent_24 ?_
      refine W.lcmp hx hb dX3_mayBeAbsent_27 ?_
      refine lv_if_ge (tgt := 35) hx hb dX3_mayBeAbsent_28 (by decide) (fun c6 => ?_) (fun c6 => ?_)
      · have hf := q_ite_t c6 hf
        refine lv_iconst (v := 0) hx hb dX3_mayBeAbsent_35 (by decide) ?_
        have ho := q_some hf
        subst ho
        exact W.zret hx hb hr rfl (fun t ht hW => ⟨rfl, ht⟩) t_nil dX3_mayBeAbsent_36
      · have hf := q_ite_f c6 hf
        refine lv_iconst (v := 1) hx hb dX3_mayBeAbsent_31 (by decide) ?_
        refine lv_goto (tgt := 36) hx hb dX3_mayBeAbsent_32 (by decide) ?_
        have ho := q_some hf
        subst ho
        exact W.zret hx hb hr rfl (fun t ht hW => ⟨rfl, ht⟩) t_nil dX3_mayBeAbsent_36
def f_X3_shiftError (S : MD) (p1 : Int32) (p2 : Int32) (p3 : Int32) : Option Int32 := (f_X3_isPerson S p1).bind fun r1 =>
 if ¬ r1 = 0 then
 ((f_X3_isIn ((p2 : Int32).toInt64) 0 41).bind fun r3 =>
 if ¬ r3 = 0 then
 (if ¬ p3 = 0 then
 (some 0)
 else ((f_X3_mayBeAbsent S p1 p2).bind fun r6 =>
 if r6 = 0 then
 (some 3)
 else (some 0)))
 else (some 2))
 else (some 1)
abbrev rX3_shiftError : Room := { frames := 3, cells := 0, slots := 0, locals := 68 }
set_option maxRecDepth 100000 in
set_option maxHeartbeats 4000000 in
theorem c_X3_shiftError (l : Launch) (D : va_G) (cI cJ cS : ClassId) (a : Nat → Nat) (S : MD) (p1 : Int32) (p2 : Int32) (p3 : Int32) (o : Int32) (hf : f_X3_shiftError S p1 p2 p3 = some o) : Met l yX3_shiftError wsX3_shiftError rX3_shiftError (va_Pc [.ref (a 0), .int p1, .int p2, .int p3] (q_B D cI cJ cS (wMD cI cJ a S))) (q_Ri o) 0 0 (fun _ => False) := by
  refine Met.ofW (cc := cX3_shiftError) (maxL := 4) (ret := some .int) (by decide) rfl ?_
  intro p e s m args below meth c s₁ B hml hv
  obtain ⟨rfl, hP, hE⟩ := hv
  have hx := B.exec
  have hb := B.bytes
  have hr := B.returns
  have hts := atoms_spec (ws := wsX3_shiftError) B.pre
  have hown : s.vm.findClass RX3 = some m.cls := findClass_of_methodNamed B.named
  have hlocks := B.notSynchronized
  have hl := lv_entry ([.ref (a 0), .int p1, .int p2, .int p3]) (n := 4) (Nat.le_of_ble_eq_true rfl)
  rw [lg_entry_eq]
  generalize (lg_sl ([.ref (a 0), .int p1, .int p2, .int p3]) ++ List.replicate (4 - (lg_sl ([.ref (a 0), .int p1, .int p2, .int p3])).length) Slot.unset).toArray = ls at hl ⊢
  have hl : lv_has ls 4 [(0, .ref (a 0)), (1, .int p1), (2, .int p2), (3, .int p3)] := hl
  unfold f_X3_shiftError at hf
  refine lv_aload_n hx hb dX3_shiftError_0 rfl (lv_at hl 0 rfl) ?_
  refine lv_iload_n hx hb dX3_shiftError_1 rfl (lv_at hl 1 rfl) ?_
  obtain ⟨r1, hr1, hf⟩ := q_bd_go hf
  refine q_rdVi (ci := 3) (As := [.int p1]) (rest := []) hx hb hml hown hts (c_X3_isPerson l D cI cJ cS a S p1 _ hr1) (cwV 1 hts gX3_shiftError_X3_isPerson rfl rfl rfl (by decide +kernel) ⟨(Nat.le_of_ble_eq_true rfl), (Nat.le_of_ble_eq_true rfl)⟩) hE hP rfl rfl rfl hl.1 rfl (Nat.le_of_ble_eq_true rfl) dX3_shiftError_2 ⟨Nat.zero_le _, Nat.zero_le _⟩ ?_
  refine lv_if_ne (tgt := 10) hx hb dX3_shiftError_5 (by decide) (fun c2 => ?_) (fun c2 => ?_)
  · have hf := q_ite_t c2 hf
    refine lv_iload_n hx hb dX3_shiftError_10 rfl (lv_at hl 2 rfl) ?_
    refine lv_i2l (v := ((p2 : Int32).toInt64)) hx hb dX3_shiftError_11 rfl ?_
    refine lv_lconst (v := 0) hx hb dX3_shiftError_12 (by decide) ?_
    refine lv_ldc2 (v := 41) hx hb hown (hts (.constantLong RX3 66 (41)) (List.mem_of_getElem? (i := 1) rfl)) dX3_shiftError_13 ?_
    obtain ⟨r3, hr3, hf⟩ := q_bd_go hf
    refine q_rdSi (As := [.long ((p2 : Int32).toInt64), .long 0, .long 41]) (rest := []) hx hb hml hown hts (c_X3_isIn l D cI cJ cS ((p2 : Int32).toInt64) 0 41 _ hr3) (va_cwS 3 hts gX3_shiftError_X3_isIn rfl rfl rfl (by decide +kernel) ⟨(Nat.le_of_ble_eq_true rfl), (Nat.le_of_ble_eq_true rfl)⟩) hE rfl hl.1 rfl (Nat.le_of_ble_eq_true rfl) dX3_shiftError_16 ⟨Nat.zero_le _, Nat.zero_le _⟩ ?_
    refine lv_if_ne (tgt := 24) hx hb dX3_shiftError_19 (by decide) (fun c4 => ?_) (fun c4 => ?_)
    · have hf := q_ite_t c4 hf
      refine lv_iload_n hx hb dX3_shiftError_24 rfl (lv_at hl 3 rfl) ?_
      refine lv_if_ne (tgt := 37) hx hb dX3_shiftError_25 (by decide) (fun c5 => ?_) (fun c5 => ?_)
      · have hf := q_ite_t c5 hf
        refine lv_iconst (v := 0) hx hb dX3_shiftError_37 (by decide) ?_
        refine lv_goto (tgt := 42) hx hb dX3_shiftError_38 (by decide) ?_
        have ho := q_some hf
        subst ho
        exact W.iret hx hb hr (fun t ht hW => ⟨rfl, ht⟩) t_nil dX3_shiftError_42
      · have hf := q_ite_n c5 hf
        refine lv_aload_n hx hb dX3_shiftError_28 rfl (lv_at hl 0 rfl) ?_
        refine lv_iload_n hx hb dX3_shiftError_29 rfl (lv_at hl 1 rfl) ?_
        refine lv_iload_n hx hb dX3_shiftError_30 rfl (lv_at hl 2 rfl) ?_
        obtain ⟨r6, hr6, hf⟩ := q_bd_go hf
        refine q_rdVi (ci := 3) (As := [.int p1, .int p2]) (rest := []) hx hb hml hown hts (c_X3_mayBeAbsent l D cI cJ cS a S p1 p2 _ hr6) (cwV 2 hts gX3_shiftError_X3_mayBeAbsent rfl rfl rfl (by decide +kernel) ⟨(Nat.le_of_ble_eq_true rfl), (Nat.le_of_ble_eq_true rfl)⟩) hE hP rfl rfl rfl hl.1 rfl (Nat.le_of_ble_eq_true rfl) dX3_shiftError_31 ⟨Nat.zero_le _, Nat.zero_le _⟩ ?_
        refine lv_if_eq (tgt := 41) hx hb dX3_shiftError_34 (by decide) (fun c7 => ?_) (fun c7 => ?_)
        · have hf := q_ite_t c7 hf
          refine lv_iconst (v := 3) hx hb dX3_shiftError_41 (by decide) ?_
          have ho := q_some hf
          subst ho
          exact W.iret hx hb hr (fun t ht hW => ⟨rfl, ht⟩) t_nil dX3_shiftError_42
        · have hf := q_ite_f c7 hf
          refine lv_iconst (v := 0) hx hb dX3_shiftError_37 (by decide) ?_
          refine lv_goto (tgt := 42) hx hb dX3_shiftError_38 (by decide) ?_
          have ho := q_some hf
          subst ho
          exact W.iret hx hb hr (fun t ht hW => ⟨rfl, ht⟩) t_nil dX3_shiftError_42
    · have hf := q_ite_n c4 hf
      refine lv_iconst (v := 2) hx hb dX3_shiftError_22 (by decide) ?_
      have ho := q_some hf
      subst ho
      exact W.iret hx hb hr (fun t ht hW => ⟨rfl, ht⟩) t_nil dX3_shiftError_23
  · have hf := q_ite_n c2 hf
    refine lv_iconst (v := 1) hx hb dX3_shiftError_8 (by decide) ?_
    have ho := q_some hf
    subst ho
    exact W.iret hx hb hr (fun t ht hW => ⟨rfl, ht⟩) t_nil dX3_shiftError_9
