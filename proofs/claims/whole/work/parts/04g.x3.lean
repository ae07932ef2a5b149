def f_X3_takes_5 : Nat → Int32 → Int32 → Int32 → Int32 → Option Int32
  | 0, _, _, _, _ => none
  | n+1, l1, l2, l3, l4 => if l1 ≤ l4 then
 (if ¬ l2 = 0 then
 (some ((l3 - l3 / l2 * l2) - 1)) else none)
 else (if ¬ l2 = 0 then
 (q_let ((l3 / l2)) fun v2 =>
 q_let (l4 + 1) fun v3 =>
 f_X3_takes_5 n l1 l2 v2 v3) else none)
def f_X3_takes (p1 : Int32) (p2 : Int32) (p3 : Int32) : Option Int32 := f_X3_takes_5 2000 p2 p3 p1 0
abbrev rX3_takes : Room := { frames := 0, cells := 0, slots := 0, locals := 0 }
set_option maxRecDepth 100000 in
set_option maxHeartbeats 4000000 in
theorem c_X3_takes (l : Launch) (D : va_G) (cI cJ cS : ClassId) (p1 : Int32) (p2 : Int32) (p3 : Int32) (o : Int32) (hf : f_X3_takes p1 p2 p3 = some o) : Met l yX3_takes wsX3_takes rX3_takes (va_Pc [.int p1, .int p2, .int p3] (q_B D cI cJ cS [])) (q_Ri o) 0 0 (fun _ => False) := by
  refine Met.ofW (cc := cX3_takes) (maxL := 5) (ret := some .int) (by decide) rfl ?_
  intro p e s m args below meth c s₁ B hml hv
  obtain ⟨rfl, hP, hE⟩ := hv
  have hx := B.exec
  have hb := B.bytes
  have hr := B.returns
  have hts := atoms_spec (ws := wsX3_takes) B.pre
  have hown : s.vm.findClass RX3 = some m.cls := findClass_of_methodNamed B.named
  have hlocks := B.notSynchronized
  have L_5 : ∀ (n : Nat) (l1 : Int32) (l2 : Int32) (l3 : Int32) (l4 : Int32) (ls : Array Slot), lv_has ls 5 [(1, .int l1), (2, .int l2), (3, .int l3), (4, .int l4)] → f_X3_takes_5 n l1 l2 l3 l4 = some o → W p l e (headSpec wsX3_takes rX3_takes).room s m (([.int p1, .int p2, .int p3] : List Value).toArray) below meth c s.heap [] 0 0 (MQ below (q_Ri o) (([.int p1, .int p2, .int p3] : List Value).toArray) s 0 0 (fun _ => False)) (F0 m 5 ls []) := by
    intro n
    induction n with
    | zero => intro l1 l2 l3 l4 ls hl hf; cases hf
    | succ n ih =>
      intro l1 l2 l3 l4 ls hl hf
      rw [f_X3_takes_5] at hf
      refine lv_iload hx hb dX3_takes_5 (lv_at hl 3 rfl) ?_
      refine lv_iload_n hx hb dX3_takes_7 rfl (lv_at hl 0 rfl) ?_
      refine lv_icmp_ge (tgt := 21) hx hb dX3_takes_8 (by decide) (fun c1 => ?_) (fun c1 => ?_)
      · have hf := q_ite_t c1 hf
        refine lv_iload_n hx hb dX3_takes_21 rfl (lv_at hl 2 rfl) ?_
        refine lv_iload_n hx hb dX3_takes_22 rfl (lv_at hl 1 rfl) ?_
        have hnz := q_gc_in hf
        have hf := q_ite_t hnz hf
        refine lv_irem hx hb dX3_takes_23 hnz ?_
        refine lv_iconst (v := 1) hx hb dX3_takes_24 (by decide) ?_
        refine lv_isub hx hb dX3_takes_25 ?_
        have ho := q_some hf
        subst ho
        exact W.iret hx hb hr (fun t ht hW => ⟨rfl, ht⟩) t_nil dX3_takes_26
      · have hf := q_ite_f c1 hf
        refine lv_iload_n hx hb dX3_takes_11 rfl (lv_at hl 2 rfl) ?_
        refine lv_iload_n hx hb dX3_takes_12 rfl (lv_at hl 1 rfl) ?_
        have hnz := q_gc_in hf
        have hf := q_ite_t hnz hf
        refine lv_idiv hx hb dX3_takes_13 hnz ?_
        obtain ⟨v2, ev2, hf⟩ := q_let_go hf
        refine q_nmi ev2 ?_
        refine lv_istore_n (lv' := [(3, .int v2), (1, .int l1), (2, .int l2), (4, .int l4)]) hx hb dX3_takes_14 rfl hl (by decide) rfl (fun ls hl => ?_)
        obtain ⟨v3, ev3, hf⟩ := q_let_go hf
        refine lv_iinc (v := v3) (lv' := [(4, .int v3), (3, .int v2), (1, .int l1), (2, .int l2)]) hx hb dX3_takes_15 hl (k := 3) rfl (by rw [← ev3]; rfl) (by decide) rfl (fun ls hl => ?_)
        refine lv_goto (tgt := 5) hx hb dX3_takes_18 (by decide) ?_
        exact ih l1 l2 v2 v3 _ (lv_sub hl [2, 3, 1, 0] rfl) hf
  have hl := lv_entry ([.int p1, .int p2, .int p3]) (n := 5) (Nat.le_of_ble_eq_true rfl)
  rw [lg_entry_eq]
  generalize (lg_sl ([.int p1, .int p2, .int p3]) ++ List.replicate (5 - (lg_sl ([.int p1, .int p2, .int p3])).length) Slot.unset).toArray = ls at hl ⊢
  have hl : lv_has ls 5 [(0, .int p1), (1, .int p2), (2, .int p3)] := hl
  unfold f_X3_takes at hf
  refine lv_iload_n hx hb dX3_takes_0 rfl (lv_at hl 0 rfl) ?_
  refine lv_istore_n (lv' := [(3, .int p1), (0, .int p1), (1, .int p2), (2, .int p3)]) hx hb dX3_takes_1 rfl hl (by decide) rfl (fun ls hl => ?_)
  refine lv_iconst (v := 0) hx hb dX3_takes_2 (by decide) ?_
  refine lv_istore (lv' := [(4, .int 0), (3, .int p1), (0, .int p1), (1, .int p2), (2, .int p3)]) hx hb dX3_takes_3 hl (by decide) rfl (fun ls hl => ?_)
  exact L_5 2000 p2 p3 p1 0 _ (lv_sub hl [3, 4, 1, 0] rfl) hf
def f_X3_coveredBy_50 (S : MD) : Nat → Int32 → Int32 → Int32 → Int32 → Int32 → Int32 → Int32 → Option (Int32 ⊕ (Int32 × Int32 × Int32 × Int32 × Int32))
  | 0, _, _, _, _, _, _, _ => none
  | n+1, l1, l2, l3, l4, l5, l6, l7 => if l5 ≤ l7 then
 (some (.inr (l1, l2, l3, l4, l5)))
 else (if q_in l5 30 = true then
 ((f_X3_ofA S (MD_open S (l5 : Int32).toNatClampNeg) 1).bind fun r10 =>
 if q_in l7 30 = true then
 ((f_X3_ofA S (MD_open S (l7 : Int32).toNatClampNeg) 1).bind fun r12 =>
 q_let ((r10 - r12)) fun v13 =>
 (f_X3_takes l1 l7 l3).bind fun r14 =>
 if ¬ r14 = l6 then
 (q_let (l7 + 1) fun v16 =>
 f_X3_coveredBy_50 S n l1 l2 l3 l4 l5 l6 v16)
 else (if q_in 0 420 = true then
 (if q_in 0 420 = true then
 ((f_X3_isIn ((v13 : Int32).toInt64) (-(MD_now S (0 : Int32).toNatClampNeg)) (MD_now S (0 : Int32).toNatClampNeg)).bind fun r19 =>
 if r19 = 0 then
 (q_let (l7 + 1) fun v21 =>
 f_X3_coveredBy_50 S n l1 l2 l3 l4 l5 l6 v21)
 else (some (.inl (-1)))) else none) else none)) else none) else none)
def f_X3_coveredBy_6 (S : MD) : Nat → Int32 → Int32 → Int32 → Int32 → Int32 → Option Int32
  | 0, _, _, _, _, _ => none
  | n+1, l1, l2, l3, l4, l5 => if l2 ≤ l5 then
 (some l4)
 else ((f_X3_takes l1 l5 l3).bind fun r2 =>
 if r2 = (-1) then
 (q_let (l5 + 1) fun v4 =>
 f_X3_coveredBy_6 S n l1 l2 l3 l4 v4)
 else (q_let (l4 + 1) fun v5 =>
 if q_in l5 30 = true then
 (if ¬ (((MD_able S (l5 : Int32).toNatClampNeg) >>> (r2 &&& 31)) &&& 1) = 0 then
 ((f_X3_coveredBy_50 S 2000 l1 l2 l3 v5 l5 r2 0).bind fun x22 =>
 q_sum x22 fun yx22 =>
 q_let (yx22.2.2.2.2 + 1) fun v23 =>
 f_X3_coveredBy_6 S n yx22.1 yx22.2.1 yx22.2.2.1 yx22.2.2.2.1 v23)
 else (some (-1))) else none))
def f_X3_coveredBy (S : MD) (p1 : Int32) (p2 : Int32) (p3 : Int32) : Option Int32 := f_X3_coveredBy_6 S 2000 p1 p2 p3 0 0
abbrev rX3_coveredBy : Room := { frames := 1, cells := 0, slots := 0, locals := 25 }
set_option maxRecDepth 100000 in
set_option maxHeartbeats 4000000 in
theorem c_X3_coveredBy (l : Launch) (D : va_G) (cI cJ cS : ClassId) (a : Nat → Nat) (S : MD) (p1 : Int32) (p2 : Int32) (p3 : Int32) (o : Int32) (hf : f_X3_coveredBy S p1 p2 p3 = some o) : Met l yX3_coveredBy wsX3_coveredBy rX3_coveredBy (va_Pc [.ref (a 0), .int p1, .int p2, .int p3] (q_B D cI cJ cS (wMD cI cJ a S))) (q_Ri o) 0 0 (fun _ => False) := by
  refine Met.ofW (cc := cX3_coveredBy) (maxL := 9) (ret := some .int) (by decide) rfl ?_
  intro p e s m args below meth c s₁ B hml hv
  obtain ⟨rfl, hP, hE⟩ := hv
  have hx := B.exec
  have hb := B.bytes
  have hr := B.returns
  have hts := atoms_spec (ws := wsX3_coveredBy) B.pre
  have hown : s.vm.findClass RX3 = some m.cls := findClass_of_methodNamed B.named
  have hlocks := B.notSynchronized
  have hu : ∀ z ∈ wsX30, z.before _ s = true := fun z h => hts z (List.mem_cons_of_mem _ (List.mem_append_right _ h))
  have L_50 : ∀ (n : Nat) (l1 : Int32) (l2 : Int32) (l3 : Int32) (l4 : Int32) (l5 : Int32) (l6 : Int32) (l7 : Int32) (ls : Array Slot), lv_has ls 9 [(0, .ref (a 0)), (1, .int l1), (2, .int l2), (3, .int l3), (4, .int l4), (5, .int l5), (6, .int l6), (7, .int l7)] → ∀ (z : (Int32 ⊕ (Int32 × Int32 × Int32 × Int32 × Int32))), f_X3_coveredBy_50 S n l1 l2 l3 l4 l5 l6 l7 = some z → ∀ (K : (Int32 × Int32 × Int32 × Int32 × Int32) → Option Int32), q_sum z K = some o → (∀ (y : (Int32 × Int32 × Int32 × Int32 × Int32)) (ls : Array Slot), lv_has ls 9 [(0, .ref (a 0)), (1, .int y.1), (2, .int y.2.1), (3, .int y.2.2.1), (4, .int y.2.2.2.1), (5, .int y.2.2.2.2)] → K y = some o → W p l e (headSpec wsX3_coveredBy rX3_coveredBy).room s m (([.ref (a 0), .int p1, .int p2, .int p3] : List Value).toArray) below meth c s.heap [] 0 0 (MQ below (q_Ri o) (([.ref (a 0), .int p1, .int p2, .int p3] : List Value).toArray) s 0 0 (fun _ => False)) (F0 m 126 ls [])) → W p l e (headSpec wsX3_coveredBy rX3_coveredBy).room s m (([.ref (a 0), .int p1, .int p2, .int p3] : List Value).toArray) below meth c s.heap [] 0 0 (MQ below (q_Ri o) (([.ref (a 0), .int p1, .int p2, .int p3] : List Value).toArray) s 0 0 (fun _ => False)) (F0 m 50 ls []) := by
    intro n
    induction n with
    | zero => intro l1 l2 l3 l4 l5 l6 l7 ls hl z hf K hk hK; cases hf
    | succ n ih =>
      intro l1 l2 l3 l4 l5 l6 l7 ls hl z hf K hk hK
      rw [f_X3_coveredBy_50] at hf
      refine lv_iload hx hb dX3_coveredBy_50 (lv_at hl 7 rfl) ?_
      refine lv_iload hx hb dX3_coveredBy_52 (lv_at hl 5 rfl) ?_
      refine lv_icmp_ge (tgt := 126) hx hb dX3_coveredBy_54 (by decide) (fun c8 => ?_) (fun c8 => ?_)
      · have hf := q_ite_t c8 hf
        have ho := q_some hf
        subst ho
        exact hK _ _ (lv_sub hl [0, 1, 2, 3, 4, 5] rfl) hk
      · have hf := q_ite_f c8 hf
        refine lv_aload_n hx hb dX3_coveredBy_57 rfl (lv_at hl 0 rfl) ?_
        refine lv_aload_n hx hb dX3_coveredBy_58 rfl (lv_at hl 0 rfl) ?_
        refine va_get (D := D) (ci := 3) (v := .ref (a 4)) (C := RX3) (T := TX3) (N := 15) hx hb hu (fun _ h => h) hown hE.1 hP 0 rfl rfl 13 (Nat.le_of_ble_eq_true rfl) (hts (.fieldLink RX3 20 "CoverMeterModel" "open" "[I") (List.mem_of_getElem? (i := 2) rfl)) (fun _ h9 => h9) rfl dX3_coveredBy_59 ?_
        refine lv_iload hx hb dX3_coveredBy_62 (lv_at hl 5 rfl) ?_
        have hi9 := q_gd_in hf
        have hf := q_gd_go hf
        refine va_iald hx hb hE.1 hP 4 0 rfl rfl hi9 dX3_coveredBy_64 ?_
        refine lv_iconst (v := 1) hx hb dX3_coveredBy_65 (by decide) ?_
        obtain ⟨r10, hr10, hf⟩ := q_bd_go hf
        refine q_rdVi (ci := 3) (As := [.int (MD_open S (l5 : Int32).toNatClampNeg), .int 1]) (rest := []) hx hb hml hown hts (c_X3_ofA l D cI cJ cS a S (MD_open S (l5 : Int32).toNatClampNeg) 1 _ hr10) (cwV 2 hts gX3_coveredBy_X3_ofA rfl rfl rfl (by decide +kernel) ⟨(Nat.le_of_ble_eq_true rfl), (Nat.le_of_ble_eq_true rfl)⟩) hE hP rfl rfl rfl hl.1 rfl (Nat.le_of_ble_eq_true rfl) dX3_coveredBy_66 ⟨Nat.zero_le _, Nat.zero_le _⟩ ?_
        refine lv_aload_n hx hb dX3_coveredBy_69 rfl (lv_at hl 0 rfl) ?_
        refine lv_aload_n hx hb dX3_coveredBy_70 rfl (lv_at hl 0 rfl) ?_
        refine va_get (D := D) (ci := 3) (v := .ref (a 4)) (C := RX3) (T := TX3) (N := 15) hx hb hu (fun _ h => h) hown hE.1 hP 0 rfl rfl 13 (Nat.le_of_ble_eq_true rfl) (hts (.fieldLink RX3 20 "CoverMeterModel" "open" "[I") (List.mem_of_getElem? (i := 2) rfl)) (fun _ h9 => h9) rfl dX3_coveredBy_71 ?_
        refine lv_iload hx hb dX3_coveredBy_74 (lv_at hl 7 rfl) ?_
        have hi11 := q_gd_in hf
        have hf := q_gd_go hf
        refine va_iald hx hb hE.1 hP 4 0 rfl rfl hi11 dX3_coveredBy_76 ?_
        refine lv_iconst (v := 1) hx hb dX3_coveredBy_77 (by decide) ?_
        obtain ⟨r12, hr12, hf⟩ := q_bd_go hf
        refine q_rdVi (ci := 3) (As := [.int (MD_open S (l7 : Int32).toNatClampNeg), .int 1]) (rest := [.int r10]) hx hb hml hown hts (c_X3_ofA l D cI cJ cS a S (MD_open S (l7 : Int32).toNatClampNeg) 1 _ hr12) (cwV 2 hts gX3_coveredBy_X3_ofA rfl rfl rfl (by decide +kernel) ⟨(Nat.le_of_ble_eq_true rfl), (Nat.le_of_ble_eq_true rfl)⟩) hE hP rfl rfl rfl hl.1 rfl (Nat.le_of_ble_eq_true rfl) dX3_coveredBy_78 ⟨Nat.zero_le _, Nat.zero_le _⟩ ?_
        refine lv_isub hx hb dX3_coveredBy_81 ?_
        obtain ⟨v13, ev13, hf⟩ := q_let_go hf
        refine q_nmi ev13 ?_
        refine lv_istore (lv' := [(8, .int v13), (0, .ref (a 0)), (1, .int l1), (2, .int l2), (3, .int l3), (4, .int l4), (5, .int l5), (6, .int l6), (7, .int l7)]) hx hb dX3_coveredBy_82 hl (by decide) rfl (fun ls hl => ?_)
        refine lv_iload_n hx hb dX3_coveredBy_84 rfl (lv_at hl 2 rfl) ?_
        refine lv_iload hx hb dX3_coveredBy_85 (lv_at hl 8 rfl) ?_
        refine lv_iload_n hx hb dX3_coveredBy_87 rfl (lv_at hl 4 rfl) ?_
        obtain ⟨r14, hr14, hf⟩ := q_bd_go hf
        refine q_rdSi (As := [.int l1, .int l7, .int l3]) (rest := []) hx hb hml hown hts (c_X3_takes l D cI cJ cS l1 l7 l3 _ hr14) (va_cwS 3 hts gX3_coveredBy_X3_takes rfl rfl rfl (by decide +kernel) ⟨(Nat.le_of_ble_eq_true rfl), (Nat.le_of_ble_eq_true rfl)⟩) hE rfl hl.1 rfl (Nat.le_of_ble_eq_true rfl) dX3_coveredBy_88 ⟨Nat.zero_le _, Nat.zero_le _⟩ ?_
        refine lv_iload hx hb dX3_coveredBy_91 (lv_at hl 7 rfl) ?_
        refine lv_icmp_ne (tgt := 120) hx hb dX3_coveredBy_93 (by decide) (fun c15 => ?_) (fun c15 => ?_)
        · have hf := q_ite_t c15 hf
          obtain ⟨v16, ev16, hf⟩ := q_let_go hf
          refine lv_iinc (v := v16) (lv' := [(7, .int v16), (8, .int v13), (0, .ref (a 0)), (1, .int l1), (2, .int l2), (3, .int l3), (4, .int l4), (5, .int l5), (6, .int l6)]) hx hb dX3_coveredBy_120 hl (k := 8) rfl (by rw [← ev16]; rfl) (by decide) rfl (fun ls hl => ?_)
          refine lv_goto (tgt := 50) hx hb dX3_coveredBy_123 (by decide) ?_
          exact ih l1 l2 l3 l4 l5 l6 v16 _ (lv_sub hl [2, 3, 4, 5, 6, 7, 8, 0] rfl) _ hf _ hk hK
        · have hf := q_ite_n c15 hf
          refine lv_iload hx hb dX3_coveredBy_96 (lv_at hl 0 rfl) ?_
          refine lv_i2l (v := ((v13 : Int32).toInt64)) hx hb dX3_coveredBy_98 rfl ?_
          refine lv_aload_n hx hb dX3_coveredBy_99 rfl (lv_at hl 1 rfl) ?_
          refine va_get (D := D) (ci := 3) (v := .ref (a 1)) (C := RX3) (T := TX3) (N := 15) hx hb hu (fun _ h => h) hown hE.1 hP 0 rfl rfl 0 (Nat.le_of_ble_eq_true rfl) (hts (.fieldLink RX3 7 "CoverMeterModel" "now" "[J") (List.mem_of_getElem? (i := 3) rfl)) (fun _ h9 => h9) rfl dX3_coveredBy_100 ?_
          refine lv_iconst (v := 0) hx hb dX3_coveredBy_103 (by decide) ?_
          have hi17 := q_gd_in hf
          have hf := q_gd_go hf
          refine va_lald hx hb hE.1 hP 1 1 rfl rfl hi17 dX3_coveredBy_104 ?_
          refine lv_lneg hx hb dX3_coveredBy_105 ?_
          refine lv_aload_n hx hb dX3_coveredBy_106 rfl (lv_at hl 1 rfl) ?_
          refine va_get (D := D) (ci := 3) (v := .ref (a 1)) (C := RX3) (T := TX3) (N := 15) hx hb hu (fun _ h => h) hown hE.1 hP 0 rfl rfl 0 (Nat.le_of_ble_eq_true rfl) (hts (.fieldLink RX3 7 "CoverMeterModel" "now" "[J") (List.mem_of_getElem? (i := 3) rfl)) (fun _ h9 => h9) rfl dX3_coveredBy_107 ?_
          refine lv_iconst (v := 0) hx hb dX3_coveredBy_110 (by decide) ?_
          have hi18 := q_gd_in hf
          have hf := q_gd_go hf
          refine va_lald hx hb hE.1 hP 1 1 rfl rfl hi18 dX3_coveredBy_111 ?_
          obtain ⟨r19, hr19, hf⟩ := q_bd_go hf
          refine q_rdSi (As := [.long ((v13 : Int32).toInt64), .long (-(MD_now S (0 : Int32).toNatClampNeg)), .long (MD_now S (0 : Int32).toNatClampNeg)]) (rest := []) hx hb hml hown hts (c_X3_isIn l D cI cJ cS ((v13 : Int32).toInt64) (-(MD_now S (0 : Int32).toNatClampNeg)) (MD_now S (0 : Int32).toNatClampNeg) _ hr19) (va_cwS 3 hts gX3_coveredBy_X3_isIn rfl rfl rfl (by decide +kernel) ⟨(Nat.le_of_ble_eq_true rfl), (Nat.le_of_ble_eq_true rfl)⟩) hE rfl hl.1 rfl (Nat.le_of_ble_eq_true rfl) dX3_coveredBy_112 ⟨Nat.zero_le _, Nat.zero_le _⟩ ?_
          refine lv_if_eq (tgt := 120) hx hb dX3_coveredBy_115 (by decide) (fun c20 => ?_) (fun c20 => ?_)
          · have hf := q_ite_t c20 hf
            obtain ⟨v21, ev21, hf⟩ := q_let_go hf
            refine lv_iinc (v := v21) (lv' := [(7, .int v21), (8, .int v13), (0, .ref (a 0)), (1, .int l1), (2, .int l2), (3, .int l3), (4, .int l4), (5, .int l5), (6, .int l6)]) hx hb dX3_coveredBy_120 hl (k := 8) rfl (by rw [← ev21]; rfl) (by decide) rfl (fun ls hl => ?_)
            refine lv_goto (tgt := 50) hx hb dX3_coveredBy_123 (by decide) ?_
            exact ih l1 l2 l3 l4 l5 l6 v21 _ (lv_sub hl [2, 3, 4, 5, 6, 7, 8, 0] rfl) _ hf _ hk hK
          · have hf := q_ite_f c20 hf
            refine lv_iconst (v := (-1)) hx hb dX3_coveredBy_118 (by decide) ?_
            have ho := q_some hf
            subst ho
            have ho := q_some hk
            subst ho
            exact W.iret hx hb hr (fun t ht hW => ⟨rfl, ht⟩) t_nil dX3_coveredBy_119
  have L_6 : ∀ (n : Nat) (l1 : Int32) (l2 : Int32) (l3 : Int32) (l4 : Int32) (l5 : Int32) (ls : Array Slot), lv_has ls 9 [(0, .ref (a 0)), (1, .int l1), (2, .int l2), (3, .int l3), (4, .int l4), (5, .int l5)] → f_X3_coveredBy_6 S n l1 l2 l3 l4 l5 = some o → W p l e (headSpec wsX3_coveredBy rX3_coveredBy).room s m (([.ref (a 0), .int p1, .int p2, .int p3] : List Value).toArray) below meth c s.heap [] 0 0 (MQ below (q_Ri o) (([.ref (a 0), .int p1, .int p2, .int p3] : List Value).toArray) s 0 0 (fun _ => False)) (F0 m 6 ls []) := by
    intro n
    induction n with
    | zero => intro l1 l2 l3 l4 l5 ls hl hf; cases hf
    | succ n ih =>
      intro l1 l2 l3 l4 l5 ls hl hf
      rw [f_X3_coveredBy_6] at hf
      refine lv_iload hx hb dX3_coveredBy_6 (lv_at hl 5 rfl) ?_
      refine lv_iload_n hx hb dX3_coveredBy_8 rfl (lv_at hl 2 rfl) ?_
      refine lv_icmp_ge (tgt := 132) hx hb dX3_coveredBy_9 (by decide) (fun c1 => ?_) (fun c1 => ?_)
      · have hf := q_ite_t c1 hf
        refine lv_iload hx hb dX3_coveredBy_132 (lv_at hl 4 rfl) ?_
        have ho := q_some hf
        subst ho
        exact W.iret hx hb hr (fun t ht hW => ⟨rfl, ht⟩) t_nil dX3_coveredBy_134
      · have hf := q_ite_f c1 hf
        refine lv_iload_n hx hb dX3_coveredBy_12 rfl (lv_at hl 1 rfl) ?_
        refine lv_iload hx hb dX3_coveredBy_13 (lv_at hl 5 rfl) ?_
        refine lv_iload_n hx hb dX3_coveredBy_15 rfl (lv_at hl 3 rfl) ?_
        obtain ⟨r2, hr2, hf⟩ := q_bd_go hf
        refine q_rdSi (As := [.int l1, .int l5, .int l3]) (rest := []) hx hb hml hown hts (c_X3_takes l D cI cJ cS l1 l5 l3 _ hr2) (va_cwS 3 hts gX3_coveredBy_X3_takes rfl rfl rfl (by decide +kernel) ⟨(Nat.le_of_ble_eq_true rfl), (Nat.le_of_ble_eq_true rfl)⟩) hE rfl hl.1 rfl (Nat.le_of_ble_eq_true rfl) dX3_coveredBy_16 ⟨Nat.zero_le _, Nat.zero_le _⟩ ?_
        refine lv_istore (lv' := [(6, .int r2), (0, .ref (a 0)), (1, .int l1), (2, .int l2), (3, .int l3), (4, .int l4), (5, .int l5)]) hx hb dX3_coveredBy_19 hl (by decide) rfl (fun ls hl => ?_)
        refine lv_iload hx hb dX3_coveredBy_21 (lv_at hl 0 rfl) ?_
        refine lv_iconst (v := (-1)) hx hb dX3_coveredBy_23 (by decide) ?_
        refine lv_icmp_eq (tgt := 126) hx hb dX3_coveredBy_24 (by decide) (fun c3 => ?_) (fun c3 => ?_)
        · have hf := q_ite_t c3 hf
          obtain ⟨v4, ev4, hf⟩ := q_let_go hf
          refine lv_iinc (v := v4) (lv' := [(5, .int v4), (6, .int r2), (0, .ref (a 0)), (1, .int l1), (2, .int l2), (3, .int l3), (4, .int l4)]) hx hb dX3_coveredBy_126 hl (k := 6) rfl (by rw [← ev4]; rfl) (by decide) rfl (fun ls hl => ?_)
          refine lv_goto (tgt := 6) hx hb dX3_coveredBy_129 (by decide) ?_
          exact ih l1 l2 l3 l4 v4 _ (lv_sub hl [2, 3, 4, 5, 6, 0] rfl) hf
        · have hf := q_ite_f c3 hf
          obtain ⟨v5, ev5, hf⟩ := q_let_go hf
          refine lv_iinc (v := v5) (lv' := [(4, .int v5), (6, .int r2), (0, .ref (a 0)), (1, .int l1), (2, .int l2), (3, .int l3), (5, .int l5)]) hx hb dX3_coveredBy_27 hl (k := 5) rfl (by rw [← ev5]; rfl) (by decide) rfl (fun ls hl => ?_)
          refine lv_aload_n hx hb dX3_coveredBy_30 rfl (lv_at hl 2 rfl) ?_
          refine va_get (D := D) (ci := 3) (v := .ref (a 5)) (C := RX3) (T := TX3) (N := 15) hx hb hu (fun _ h => h) hown hE.1 hP 0 rfl rfl 14 (Nat.le_of_ble_eq_true rfl) (hts (.fieldLink RX3 23 "CoverMeterModel" "able" "[I") (List.mem_of_getElem? (i := 1) rfl)) (fun _ h9 => h9) rfl dX3_coveredBy_31 ?_
          refine lv_iload hx hb dX3_coveredBy_34 (lv_at hl 6 rfl) ?_
          have hi6 := q_gd_in hf
          have hf := q_gd_go hf
          refine va_iald hx hb hE.1 hP 5 0 rfl rfl hi6 dX3_coveredBy_36 ?_
          refine lv_iload hx hb dX3_coveredBy_37 (lv_at hl 1 rfl) ?_
          refine lv_ishr hx hb dX3_coveredBy_39 ?_
          refine lv_iconst (v := 1) hx hb dX3_coveredBy_40 (by decide) ?_
          refine lv_iand hx hb dX3_coveredBy_41 ?_
          refine lv_if_ne (tgt := 47) hx hb dX3_coveredBy_42 (by decide) (fun c7 => ?_) (fun c7 => ?_)
          · have hf := q_ite_t c7 hf
            refine lv_iconst (v := 0) hx hb dX3_coveredBy_47 (by decide) ?_
            refine lv_istore (lv' := [(7, .int 0), (4, .int v5), (6, .int r2), (0, .ref (a 0)), (1, .int l1), (2, .int l2), (3, .int l3), (5, .int l5)]) hx hb dX3_coveredBy_48 hl (by decide) rfl (fun ls hl => ?_)
            obtain ⟨x22, hx22, hf⟩ := q_bd_go hf
            refine L_50 2000 l1 l2 l3 v5 l5 r2 0 _ (lv_sub hl [3, 4, 5, 6, 1, 7, 2, 0] rfl) _ hx22 _ hf (fun yx22 ls hl hf => ?_)
            obtain ⟨v23, ev23, hf⟩ := q_let_go hf
            refine lv_iinc (v := v23) (lv' := [(5, .int v23), (0, .ref (a 0)), (1, .int yx22.1), (2, .int yx22.2.1), (3, .int yx22.2.2.1), (4, .int yx22.2.2.2.1)]) hx hb dX3_coveredBy_126 hl (k := 5) rfl (by rw [← ev23]; rfl) (by decide) rfl (fun ls hl => ?_)
            refine lv_goto (tgt := 6) hx hb dX3_coveredBy_129 (by decide) ?_
            exact ih yx22.1 yx22.2.1 yx22.2.2.1 yx22.2.2.2.1 v23 _ (lv_sub hl [1, 2, 3, 4, 5, 0] rfl) hf
          · have hf := q_ite_n c7 hf
            refine lv_iconst (v := (-1)) hx hb dX3_coveredBy_45 (by decide) ?_
            have ho := q_some hf
            subst ho
            exact W.iret hx hb hr (fun t ht hW => ⟨rfl, ht⟩) t_nil dX3_coveredBy_46
  have hl := lv_entry ([.ref (a 0), .int p1, .int p2, .int p3]) (n := 9) (Nat.le_of_ble_eq_true rfl)
  rw [lg_entry_eq]
  generalize (lg_sl ([.ref (a 0), .int p1, .int p2, .int p3]) ++ List.replicate (9 - (lg_sl ([.ref (a 0), .int p1, .int p2, .int p3])).length) Slot.unset).toArray = ls at hl ⊢
  have hl : lv_has ls 9 [(0, .ref (a 0)), (1, .int p1), (2, .int p2), (3, .int p3)] := hl
  unfold f_X3_coveredBy at hf
  refine lv_iconst (v := 0) hx hb dX3_coveredBy_0 (by decide) ?_
  refine lv_istore (lv' := [(4, .int 0), (0, .ref (a 0)), (1, .int p1), (2, .int p2), (3, .int p3)]) hx hb dX3_coveredBy_1 hl (by decide) rfl (fun ls hl => ?_)
  refine lv_iconst (v := 0) hx hb dX3_coveredBy_3 (by decide) ?_
  refine lv_istore (lv' := [(5, .int 0), (4, .int 0), (0, .ref (a 0)), (1, .int p1), (2, .int p2), (3, .int p3)]) hx hb dX3_coveredBy_4 hl (by decide) rfl (fun ls hl => ?_)
  exact L_6 2000 p1 p2 p3 0 0 _ (lv_sub hl [2, 3, 4, 5, 1, 0] rfl) hf
def f_X3_mostCovered_101 : Nat → MD → Int32 → Int32 → Int32 → Int32 → Int32 → Option (Int32 × MD)
  | 0, _, _, _, _, _, _ => none
  | n+1, Sz, l1, l2, l3, l4, l5 => if l3 ≤ l5 then
 (some (l4, Sz))
 else ((f_X3_coveredBy Sz l5 l1 l2).bind fun r9 =>
 if r9 ≤ l4 then
 (q_let (l5 + 1) fun v11 =>
 f_X3_mostCovered_101 n Sz l1 l2 l3 l4 v11)
 else (q_let (l5 + 1) fun v12 =>
 f_X3_mostCovered_101 n Sz l1 l2 l3 r9 v12))
def f_X3_mostCovered_79 : Nat → MD → Int32 → Int32 → Int32 → Int32 → Option (Int32 × MD)
  | 0, _, _, _, _, _ => none
  | n+1, Sz, l1, l2, l3, l4 => if l1 ≤ l4 then
 (f_X3_mostCovered_101 60000 Sz l1 l2 l3 0 0)
 else (q_let ((l3 * l2)) fun v13 =>
 q_let (l4 + 1) fun v14 =>
 f_X3_mostCovered_79 n Sz l1 l2 v13 v14)
def f_X3_mostCovered_9 : Nat → MD → Int32 → Int32 → Option (Int32 × MD)
  | 0, _, _, _ => none
  | n+1, Sz, l1, l2 => if q_in 4 420 = true then
 (if 0 ≤ (lg_cmp ((l2 : Int32).toInt64) (MD_now Sz (4 : Int32).toNatClampNeg)) then
 (if l1 ≤ 5 then
 (if q_in 3 420 = true then
 (q_let (((((MD_now Sz (3 : Int32).toNatClampNeg) : Int64).toInt32) + 1)) fun v6 =>
 f_X3_mostCovered_79 2000 Sz l1 v6 1 0) else none)
 else (some ((-1), Sz)))
 else ((f_X3_ofA Sz l2 2).bind fun r15 =>
 if ¬ r15 = 0 then
 (q_let (l2 + 1) fun v17 =>
 f_X3_mostCovered_9 n Sz l1 v17)
 else (if q_in l1 30 = true then
 (q_let (sMD_open Sz (upd (MD_open Sz) (l1 : Int32).toNatClampNeg l2)) fun S19 =>
 (f_X3_ableFor S19 l2).bind fun r20 =>
 if q_in l1 30 = true then
 (q_let (sMD_able S19 (upd (MD_able S19) (l1 : Int32).toNatClampNeg r20)) fun S22 =>
 q_let (l1 + 1) fun v23 =>
 q_let (l2 + 1) fun v24 =>
 f_X3_mostCovered_9 n S22 v23 v24) else none) else none))) else none
def f_X3_mostCovered (S : MD) : Option (Int32 × MD) := q_let (sMD_thrown S 0) fun S1 =>
 f_X3_mostCovered_9 2000 S1 0 0
abbrev rX3_mostCovered : Room := { frames := 7, cells := 0, slots := 0, locals := 157 }
set_option maxRecDepth 100000 in
set_option maxHeartbeats 4000000 in
theorem c_X3_mostCovered (l : Launch) (D : va_G) (cI cJ cS : ClassId) (a : Nat → Nat) (S : MD) (sz : Nat) (o : (Int32 × MD)) (hf : f_X3_mostCovered S = some o) : Met l yX3_mostCovered wsX3_mostCovered rX3_mostCovered (va_Pc [.ref (a 0)] (q_BW D cI cJ cS (wMD cI cJ a S) sz)) (q_Wo (some (.int o.1)) D (wMD cI cJ a S) (wMD cI cJ a o.2) sz) 0 0 (va_A (wMD cI cJ a S) sz) := by
  refine Met.ofW (cc := cX3_mostCovered) (maxL := 7) (ret := some .int) (by decide) rfl ?_
  intro p e s m args below meth c s₁ B hml hv
  obtain ⟨rfl, hsz, hP, hE, hD0⟩ := hv
  have hx := B.exec
  have hb := B.bytes
  have hr := B.returns
  have hts := atoms_spec (ws := wsX3_mostCovered) B.pre
  have hown : s.vm.findClass RX3 = some m.cls := findClass_of_methodNamed B.named
  have hlocks := B.notSynchronized
  have hu : ∀ z ∈ wsX30, z.before _ s = true := fun z h => hts z (List.mem_cons_of_mem _ (List.mem_append_right _ h))
  subst hsz
  have hD := hD0.self (sz := s.heap.size)
  have hS : va_S (va_A (wMD cI cJ a S) s.heap.size) s.heap s.heap [] := va_S.rf
  have L_101 : ∀ (n : Nat) (Sz : MD) (H : Heap) (locs : List Loc) (hP : va_P D vwCl (wMD cI cJ a Sz) H) (hD : va_D (va_A (wMD cI cJ a S) s.heap.size) (wMD cI cJ a Sz)) (hS : va_S (va_A (wMD cI cJ a S) s.heap.size) s.heap H locs) (l1 : Int32) (l2 : Int32) (l3 : Int32) (l4 : Int32) (l5 : Int32) (ls : Array Slot), lv_has ls 7 [(0, .ref (a 0)), (1, .int l1), (2, .int l2), (3, .int l3), (4, .int l4), (5, .int l5)] → f_X3_mostCovered_101 n Sz l1 l2 l3 l4 l5 = some o → W p l e (headSpec wsX3_mostCovered rX3_mostCovered).room s m (([.ref (a 0)] : List Value).toArray) below meth c H locs 0 0 (MQ below (q_Wo (some (.int o.1)) D (wMD cI cJ a S) (wMD cI cJ a o.2) s.heap.size) (([.ref (a 0)] : List Value).toArray) s 0 0 (va_A (wMD cI cJ a S) s.heap.size)) (F0 m 101 ls []) := by
    intro n
    induction n with
    | zero => intro Sz H locs hP hD hS l1 l2 l3 l4 l5 ls hl hf; cases hf
    | succ n ih =>
      intro Sz H locs hP hD hS l1 l2 l3 l4 l5 ls hl hf
      rw [f_X3_mostCovered_101] at hf
      refine lv_iload hx hb dX3_mostCovered_101 (lv_at hl 5 rfl) ?_
      refine lv_iload_n hx hb dX3_mostCovered_103 rfl (lv_at hl 3 rfl) ?_
      refine lv_icmp_ge (tgt := 139) hx hb dX3_mostCovered_104 (by decide) (fun c8 => ?_) (fun c8 => ?_)
      · have hf := q_ite_t c8 hf
        refine lv_iload hx hb dX3_mostCovered_139 (lv_at hl 4 rfl) ?_
        have ho := q_some hf
        subst ho
        exact W.iret hx hb hr (fun t ht hW => ⟨rfl, ⟨by rw [ht]; exact hP, hD⟩, hS.F ht⟩) hS.2.2 dX3_mostCovered_141
      · have hf := q_ite_f c8 hf
        refine lv_aload_n hx hb dX3_mostCovered_107 rfl (lv_at hl 0 rfl) ?_
        refine lv_iload hx hb dX3_mostCovered_108 (lv_at hl 5 rfl) ?_
        refine lv_iload_n hx hb dX3_mostCovered_110 rfl (lv_at hl 1 rfl) ?_
        refine lv_iload_n hx hb dX3_mostCovered_111 rfl (lv_at hl 2 rfl) ?_
        obtain ⟨r9, hr9, hf⟩ := q_bd_go hf
        refine q_rdVi (ci := 3) (As := [.int l5, .int l1, .int l2]) (rest := []) hx hb hml hown hts (c_X3_coveredBy l D cI cJ cS a Sz l5 l1 l2 _ hr9) (cwV 3 hts gX3_mostCovered_X3_coveredBy rfl rfl rfl (by decide +kernel) ⟨(Nat.le_of_ble_eq_true rfl), (Nat.le_of_ble_eq_true rfl)⟩) hE hP rfl rfl rfl hl.1 rfl (Nat.le_of_ble_eq_true rfl) dX3_mostCovered_112 ⟨Nat.zero_le _, Nat.zero_le _⟩ ?_
        refine lv_istore (lv' := [(6, .int r9), (0, .ref (a 0)), (1, .int l1), (2, .int l2), (3, .int l3), (4, .int l4), (5, .int l5)]) hx hb dX3_mostCovered_115 hl (by decide) rfl (fun ls hl => ?_)
        refine lv_iload hx hb dX3_mostCovered_117 (lv_at hl 0 rfl) ?_
        refine lv_iload hx hb dX3_mostCovered_119 (lv_at hl 5 rfl) ?_
        refine lv_icmp_le (tgt := 129) hx hb dX3_mostCovered_121 (by decide) (fun c10 => ?_) (fun c10 => ?_)
        · have hf := q_ite_t c10 hf
          refine lv_iload hx hb dX3_mostCovered_129 (lv_at hl 5 rfl) ?_
          refine lv_istore (lv' := [(4, .int l4), (6, .int r9), (0, .ref (a 0)), (1, .int l1), (2, .int l2), (3, .int l3), (5, .int l5)]) hx hb dX3_mostCovered_131 hl (by decide) rfl (fun ls hl => ?_)
          obtain ⟨v11, ev11, hf⟩ := q_let_go hf
          refine lv_iinc (v := v11) (lv' := [(5, .int v11), (4, .int l4), (6, .int r9), (0, .ref (a 0)), (1, .int l1), (2, .int l2), (3, .int l3)]) hx hb dX3_mostCovered_133 hl (k := 6) rfl (by rw [← ev11]; rfl) (by decide) rfl (fun ls hl => ?_)
          refine lv_goto (tgt := 101) hx hb dX3_mostCovered_136 (by decide) ?_
          exact ih Sz _ _ hP hD hS l1 l2 l3 l4 v11 _ (lv_sub hl [3, 4, 5, 6, 1, 0] rfl) hf
        · have hf := q_ite_f c10 hf
          refine lv_iload hx hb dX3_mostCovered_124 (lv_at hl 0 rfl) ?_
          refine lv_goto (tgt := 131) hx hb dX3_mostCovered_126 (by decide) ?_
          refine lv_istore (lv' := [(4, .int r9), (6, .int r9), (0, .ref (a 0)), (1, .int l1), (2, .int l2), (3, .int l3), (5, .int l5)]) hx hb dX3_mostCovered_131 hl (by decide) rfl (fun ls hl => ?_)
          obtain ⟨v12, ev12, hf⟩ := q_let_go hf
          refine lv_iinc (v := v12) (lv' := [(5, .int v12), (4, .int r9), (6, .int r9), (0, .ref (a 0)), (1, .int l1), (2, .int l2), (3, .int l3)]) hx hb dX3_mostCovered_133 hl (k := 6) rfl (by rw [← ev12]; rfl) (by decide) rfl (fun ls hl => ?_)
          refine lv_goto (tgt := 101) hx hb dX3_mostCovered_136 (by decide) ?_
          exact ih Sz _ _ hP hD hS l1 l2 l3 r9 v12 _ (lv_sub hl [3, 4, 5, 6, 1, 0] rfl) hf
  have L_79 : ∀ (n : Nat) (Sz : MD) (H : Heap) (locs : List Loc) (hP : va_P D vwCl (wMD cI cJ a Sz) H) (hD : va_D (va_A (wMD cI cJ a S) s.heap.size) (wMD cI cJ a Sz)) (hS : va_S (va_A (wMD cI cJ a S) s.heap.size) s.heap H locs) (l1 : Int32) (l2 : Int32) (l3 : Int32) (l4 : Int32) (ls : Array Slot), lv_has ls 7 [(0, .ref (a 0)), (1, .int l1), (2, .int l2), (3, .int l3), (4, .int l4)] → f_X3_mostCovered_79 n Sz l1 l2 l3 l4 = some o → W p l e (headSpec wsX3_mostCovered rX3_mostCovered).room s m (([.ref (a 0)] : List Value).toArray) below meth c H locs 0 0 (MQ below (q_Wo (some (.int o.1)) D (wMD cI cJ a S) (wMD cI cJ a o.2) s.heap.size) (([.ref (a 0)] : List Value).toArray) s 0 0 (va_A (wMD cI cJ a S) s.heap.size)) (F0 m 79 ls []) := by
    intro n
    induction n with
    | zero => intro Sz H locs hP hD hS l1 l2 l3 l4 ls hl hf; cases hf
    | succ n ih =>
      intro Sz H locs hP hD hS l1 l2 l3 l4 ls hl hf
      rw [f_X3_mostCovered_79] at hf
      refine lv_iload hx hb dX3_mostCovered_79 (lv_at hl 4 rfl) ?_
      refine lv_iload_n hx hb dX3_mostCovered_81 rfl (lv_at hl 1 rfl) ?_
      refine lv_icmp_ge (tgt := 95) hx hb dX3_mostCovered_82 (by decide) (fun c7 => ?_) (fun c7 => ?_)
      · have hf := q_ite_t c7 hf
        refine lv_iconst (v := 0) hx hb dX3_mostCovered_95 (by decide) ?_
        refine lv_istore (lv' := [(4, .int 0), (0, .ref (a 0)), (1, .int l1), (2, .int l2), (3, .int l3)]) hx hb dX3_mostCovered_96 hl (by decide) rfl (fun ls hl => ?_)
        refine lv_iconst (v := 0) hx hb dX3_mostCovered_98 (by decide) ?_
        refine lv_istore (lv' := [(5, .int 0), (4, .int 0), (0, .ref (a 0)), (1, .int l1), (2, .int l2), (3, .int l3)]) hx hb dX3_mostCovered_99 hl (by decide) rfl (fun ls hl => ?_)
        exact L_101 60000 Sz _ _ hP hD hS l1 l2 l3 0 0 _ (lv_sub hl [2, 3, 4, 5, 1, 0] rfl) hf
      · have hf := q_ite_f c7 hf
        refine lv_iload_n hx hb dX3_mostCovered_85 rfl (lv_at hl 3 rfl) ?_
        refine lv_iload_n hx hb dX3_mostCovered_86 rfl (lv_at hl 2 rfl) ?_
        refine lv_imul hx hb dX3_mostCovered_87 ?_
        obtain ⟨v13, ev13, hf⟩ := q_let_go hf
        refine q_nmi ev13 ?_
        refine lv_istore_n (lv' := [(3, .int v13), (0, .ref (a 0)), (1, .int l1), (2, .int l2), (4, .int l4)]) hx hb dX3_mostCovered_88 rfl hl (by decide) rfl (fun ls hl => ?_)
        obtain ⟨v14, ev14, hf⟩ := q_let_go hf
        refine lv_iinc (v := v14) (lv' := [(4, .int v14), (3, .int v13), (0, .ref (a 0)), (1, .int l1), (2, .int l2)]) hx hb dX3_mostCovered_89 hl (k := 4) rfl (by rw [← ev14]; rfl) (by decide) rfl (fun ls hl => ?_)
        refine lv_goto (tgt := 79) hx hb dX3_mostCovered_92 (by decide) ?_
        exact ih Sz _ _ hP hD hS l1 l2 v13 v14 _ (lv_sub hl [2, 3, 4, 1, 0] rfl) hf
  have L_9 : ∀ (n : Nat) (Sz : MD) (H : Heap) (locs : List Loc) (hP : va_P D vwCl (wMD cI cJ a Sz) H) (hD : va_D (va_A (wMD cI cJ a S) s.heap.size) (wMD cI cJ a Sz)) (hS : va_S (va_A (wMD cI cJ a S) s.heap.size) s.heap H locs) (l1 : Int32) (l2 : Int32) (ls : Array Slot), lv_has ls 7 [(0, .ref (a 0)), (1, .int l1), (2, .int l2)] → f_X3_mostCovered_9 n Sz l1 l2 = some o → W p l e (headSpec wsX3_mostCovered rX3_mostCovered).room s m (([.ref (a 0)] : List Value).toArray) below meth c H locs 0 0 (MQ below (q_Wo (some (.int o.1)) D (wMD cI cJ a S) (wMD cI cJ a o.2) s.heap.size) (([.ref (a 0)] : List Value).toArray) s 0 0 (va_A (wMD cI cJ a S) s.heap.size)) (F0 m 9 ls []) := by
    intro n
    induction n with
    | zero => intro Sz H locs hP hD hS l1 l2 ls hl hf; cases hf
    | succ n ih =>
      intro Sz H locs hP hD hS l1 l2 ls hl hf
      rw [f_X3_mostCovered_9] at hf
      refine lv_iload_n hx hb dX3_mostCovered_9 rfl (lv_at hl 2 rfl) ?_
      refine lv_i2l (v := ((l2 : Int32).toInt64)) hx hb dX3_mostCovered_10 rfl ?_
      refine lv_aload_n hx hb dX3_mostCovered_11 rfl (lv_at hl 0 rfl) ?_
      refine va_get (D := D) (ci := 3) (v := .ref (a 1)) (C := RX3) (T := TX3) (N := 15) hx hb hu (fun _ h => h) hown hE.1 hP 0 rfl rfl 0 (Nat.le_of_ble_eq_true rfl) (hts (.fieldLink RX3 7 "CoverMeterModel" "now" "[J") (List.mem_of_getElem? (i := 2) rfl)) (fun _ h9 => h9) rfl dX3_mostCovered_12 ?_
      refine lv_iconst (v := 4) hx hb dX3_mostCovered_15 (by decide) ?_
      have hi2 := q_gd_in hf
      have hf := q_gd_go hf
      refine va_lald hx hb hE.1 hP 1 1 rfl rfl hi2 dX3_mostCovered_16 ?_
      refine W.lcmp hx hb dX3_mostCovered_17 ?_
      refine lv_if_ge (tgt := 57) hx hb dX3_mostCovered_18 (by decide) (fun c3 => ?_) (fun c3 => ?_)
      · have hf := q_ite_t c3 hf
        refine lv_iload_n hx hb dX3_mostCovered_57 rfl (lv_at hl 1 rfl) ?_
        refine lv_iconst (v := 5) hx hb dX3_mostCovered_58 (by decide) ?_
        refine lv_icmp_le (tgt := 64) hx hb dX3_mostCovered_59 (by decide) (fun c4 => ?_) (fun c4 => ?_)
        · have hf := q_ite_t c4 hf
          refine lv_aload_n hx hb dX3_mostCovered_64 rfl (lv_at hl 0 rfl) ?_
          refine va_get (D := D) (ci := 3) (v := .ref (a 1)) (C := RX3) (T := TX3) (N := 15) hx hb hu (fun _ h => h) hown hE.1 hP 0 rfl rfl 0 (Nat.le_of_ble_eq_true rfl) (hts (.fieldLink RX3 7 "CoverMeterModel" "now" "[J") (List.mem_of_getElem? (i := 2) rfl)) (fun _ h9 => h9) rfl dX3_mostCovered_65 ?_
          refine lv_iconst (v := 3) hx hb dX3_mostCovered_68 (by decide) ?_
          have hi5 := q_gd_in hf
          have hf := q_gd_go hf
          refine va_lald hx hb hE.1 hP 1 1 rfl rfl hi5 dX3_mostCovered_69 ?_
          refine lv_l2i (v := (((MD_now Sz (3 : Int32).toNatClampNeg) : Int64).toInt32)) hx hb dX3_mostCovered_70 rfl ?_
          refine lv_iconst (v := 1) hx hb dX3_mostCovered_71 (by decide) ?_
          refine lv_iadd hx hb dX3_mostCovered_72 ?_
          obtain ⟨v6, ev6, hf⟩ := q_let_go hf
          refine q_nmi ev6 ?_
          refine lv_istore_n (lv' := [(2, .int v6), (0, .ref (a 0)), (1, .int l1)]) hx hb dX3_mostCovered_73 rfl hl (by decide) rfl (fun ls hl => ?_)
          refine lv_iconst (v := 1) hx hb dX3_mostCovered_74 (by decide) ?_
          refine lv_istore_n (lv' := [(3, .int 1), (2, .int v6), (0, .ref (a 0)), (1, .int l1)]) hx hb dX3_mostCovered_75 rfl hl (by decide) rfl (fun ls hl => ?_)
          refine lv_iconst (v := 0) hx hb dX3_mostCovered_76 (by decide) ?_
          refine lv_istore (lv' := [(4, .int 0), (3, .int 1), (2, .int v6), (0, .ref (a 0)), (1, .int l1)]) hx hb dX3_mostCovered_77 hl (by decide) rfl (fun ls hl => ?_)
          exact L_79 2000 Sz _ _ hP hD hS l1 v6 1 0 _ (lv_sub hl [3, 4, 2, 1, 0] rfl) hf
        · have hf := q_ite_f c4 hf
          refine lv_iconst (v := (-1)) hx hb dX3_mostCovered_62 (by decide) ?_
          have ho := q_some hf
          subst ho
          exact W.iret hx hb hr (fun t ht hW => ⟨rfl, ⟨by rw [ht]; exact hP, hD⟩, hS.F ht⟩) hS.2.2 dX3_mostCovered_63
      · have hf := q_ite_f c3 hf
        refine lv_aload_n hx hb dX3_mostCovered_21 rfl (lv_at hl 0 rfl) ?_
        refine lv_iload_n hx hb dX3_mostCovered_22 rfl (lv_at hl 2 rfl) ?_
        refine lv_iconst (v := 2) hx hb dX3_mostCovered_23 (by decide) ?_
        obtain ⟨r15, hr15, hf⟩ := q_bd_go hf
        refine q_rdVi (ci := 3) (As := [.int l2, .int 2]) (rest := []) hx hb hml hown hts (c_X3_ofA l D cI cJ cS a Sz l2 2 _ hr15) (cwV 2 hts gX3_mostCovered_X3_ofA rfl rfl rfl (by decide +kernel) ⟨(Nat.le_of_ble_eq_true rfl), (Nat.le_of_ble_eq_true rfl)⟩) hE hP rfl rfl rfl hl.1 rfl (Nat.le_of_ble_eq_true rfl) dX3_mostCovered_24 ⟨Nat.zero_le _, Nat.zero_le _⟩ ?_
        refine lv_if_ne (tgt := 51) hx hb dX3_mostCovered_27 (by decide) (fun c16 => ?_) (fun c16 => ?_)
        · have hf := q_ite_t c16 hf
          obtain ⟨v17, ev17, hf⟩ := q_let_go hf
          refine lv_iinc (v := v17) (lv' := [(2, .int v17), (0, .ref (a 0)), (1, .int l1)]) hx hb dX3_mostCovered_51 hl (k := 2) rfl (by rw [← ev17]; rfl) (by decide) rfl (fun ls hl => ?_)
          refine lv_goto (tgt := 9) hx hb dX3_mostCovered_54 (by decide) ?_
          exact ih Sz _ _ hP hD hS l1 v17 _ (lv_sub hl [1, 2, 0] rfl) hf
        · have hf := q_ite_n c16 hf
          refine lv_aload_n hx hb dX3_mostCovered_30 rfl (lv_at hl 0 rfl) ?_
          refine va_get (D := D) (ci := 3) (v := .ref (a 4)) (C := RX3) (T := TX3) (N := 15) hx hb hu (fun _ h => h) hown hE.1 hP 0 rfl rfl 13 (Nat.le_of_ble_eq_true rfl) (hts (.fieldLink RX3 20 "CoverMeterModel" "open" "[I") (List.mem_of_getElem? (i := 3) rfl)) (fun _ h9 => h9) rfl dX3_mostCovered_31 ?_
          refine lv_iload_n hx hb dX3_mostCovered_34 rfl (lv_at hl 1 rfl) ?_
          refine lv_iload_n hx hb dX3_mostCovered_35 rfl (lv_at hl 2 rfl) ?_
          have hi18 := q_gd_in hf
          have hf := q_gd_go hf
          obtain ⟨S19, eS19, hf⟩ := q_let_go hf
          refine va_iast hx hb hE.1 hP hD hS 4 0 rfl rfl hi18 dX3_mostCovered_36 (fun H locs hP hD hS => ?_)
          have hP : va_P D vwCl (wMD cI cJ a (sMD_open Sz (upd (MD_open Sz) (l1 : Int32).toNatClampNeg l2))) H := hP
          have hD : va_D (va_A (wMD cI cJ a S) s.heap.size) (wMD cI cJ a (sMD_open Sz (upd (MD_open Sz) (l1 : Int32).toNatClampNeg l2))) := hD
          rw [eS19] at hP hD
          refine lv_aload_n hx hb dX3_mostCovered_37 rfl (lv_at hl 0 rfl) ?_
          refine va_get (D := D) (ci := 3) (v := .ref (a 5)) (C := RX3) (T := TX3) (N := 15) hx hb hu (fun _ h => h) hown hE.1 hP 0 rfl rfl 14 (Nat.le_of_ble_eq_true rfl) (hts (.fieldLink RX3 23 "CoverMeterModel" "able" "[I") (List.mem_of_getElem? (i := 4) rfl)) (fun _ h9 => h9) rfl dX3_mostCovered_38 ?_
          refine lv_iload_n hx hb dX3_mostCovered_41 rfl (lv_at hl 1 rfl) ?_
          refine lv_aload_n hx hb dX3_mostCovered_42 rfl (lv_at hl 0 rfl) ?_
          refine lv_iload_n hx hb dX3_mostCovered_43 rfl (lv_at hl 2 rfl) ?_
          obtain ⟨r20, hr20, hf⟩ := q_bd_go hf
          refine q_rdVi (ci := 3) (As := [.int l2]) (rest := [.int l1, .ref (a 5)]) hx hb hml hown hts (c_X3_ableFor l D cI cJ cS a S19 l2 _ hr20) (cwV 1 hts gX3_mostCovered_X3_ableFor rfl rfl rfl (by decide +kernel) ⟨(Nat.le_of_ble_eq_true rfl), (Nat.le_of_ble_eq_true rfl)⟩) hE hP rfl rfl rfl hl.1 rfl (Nat.le_of_ble_eq_true rfl) dX3_mostCovered_44 ⟨Nat.zero_le _, Nat.zero_le _⟩ ?_
          have hi21 := q_gd_in hf
          have hf := q_gd_go hf
          obtain ⟨S22, eS22, hf⟩ := q_let_go hf
          refine va_iast hx hb hE.1 hP hD hS 5 0 rfl rfl hi21 dX3_mostCovered_47 (fun H locs hP hD hS => ?_)
          have hP : va_P D vwCl (wMD cI cJ a (sMD_able S19 (upd (MD_able S19) (l1 : Int32).toNatClampNeg r20))) H := hP
          have hD : va_D (va_A (wMD cI cJ a S) s.heap.size) (wMD cI cJ a (sMD_able S19 (upd (MD_able S19) (l1 : Int32).toNatClampNeg r20))) := hD
          rw [eS22] at hP hD
          obtain ⟨v23, ev23, hf⟩ := q_let_go hf
          refine lv_iinc (v := v23) (lv' := [(1, .int v23), (0, .ref (a 0)), (2, .int l2)]) hx hb dX3_mostCovered_48 hl (k := 1) rfl (by rw [← ev23]; rfl) (by decide) rfl (fun ls hl => ?_)
          obtain ⟨v24, ev24, hf⟩ := q_let_go hf
          refine lv_iinc (v := v24) (lv' := [(2, .int v24), (1, .int v23), (0, .ref (a 0))]) hx hb dX3_mostCovered_51 hl (k := 2) rfl (by rw [← ev24]; rfl) (by decide) rfl (fun ls hl => ?_)
          refine lv_goto (tgt := 9) hx hb dX3_mostCovered_54 (by decide) ?_
          exact ih S22 _ _ hP hD hS v23 v24 _ (lv_sub hl [2, 1, 0] rfl) hf
  have hl := lv_entry ([.ref (a 0)]) (n := 7) (Nat.le_of_ble_eq_true rfl)
  rw [lg_entry_eq]
  generalize (lg_sl ([.ref (a 0)]) ++ List.replicate (7 - (lg_sl ([.ref (a 0)])).length) Slot.unset).toArray = ls at hl ⊢
  have hl : lv_has ls 7 [(0, .ref (a 0))] := hl
  unfold f_X3_mostCovered at hf
  refine lv_aload_n hx hb dX3_mostCovered_0 rfl (lv_at hl 0 rfl) ?_
  refine lv_iconst (v := 0) hx hb dX3_mostCovered_1 (by decide) ?_
  obtain ⟨S1, eS1, hf⟩ := q_let_go hf
  refine va_put (D := D) (ci := 3) (v := .int 0) (ty := .int) (C := RX3) (T := TX3) (N := 15) hx hb hu (fun _ h => h) tyX3 tyX3_ok nmX3 hown hE.1 hP hD hS 0 rfl rfl 3 (Nat.le_of_ble_eq_true rfl) (hts (.fieldLink RX3 30 "CoverMeterModel" "thrown" "I") (List.mem_of_getElem? (i := 1) rfl)) (fun _ h9 => h9) rfl (by decide +kernel) rfl rfl (Nat.le_of_ble_eq_true rfl) dX3_mostCovered_2 (fun H locs hP hD hS => ?_)
  have hP : va_P D vwCl (wMD cI cJ a (sMD_thrown S 0)) H := hP
  have hD : va_D (va_A (wMD cI cJ a S) s.heap.size) (wMD cI cJ a (sMD_thrown S 0)) := hD
  rw [eS1] at hP hD
  refine lv_iconst (v := 0) hx hb dX3_mostCovered_5 (by decide) ?_
  refine lv_istore_n (lv' := [(1, .int 0), (0, .ref (a 0))]) hx hb dX3_mostCovered_6 rfl hl (by decide) rfl (fun ls hl => ?_)
  refine lv_iconst (v := 0) hx hb dX3_mostCovered_7 (by decide) ?_
  refine lv_istore_n (lv' := [(2, .int 0), (1, .int 0), (0, .ref (a 0))]) hx hb dX3_mostCovered_8 rfl hl (by decide) rfl (fun ls hl => ?_)
  exact L_9 2000 S1 _ _ hP hD hS 0 0 _ (lv_sub hl [2, 1, 0] rfl) hf
def f_X3_freeShifts_30 : Nat → MD → Int32 → Int32 → Int32 → Option (Int32 × MD)
  | 0, _, _, _, _ => none
  | n+1, Sz, l1, l2, l3 => if 42 ≤ l3 then
 (some (l2, Sz))
 else ((f_X3_whyNot Sz l1 l3).bind fun r6 =>
 if ¬ r6 = 0 then
 (q_let ((l2 + 0)) fun v8 =>
 q_let (l3 + 1) fun v9 =>
 f_X3_freeShifts_30 n Sz l1 v8 v9)
 else (q_let ((l2 + 1)) fun v10 =>
 q_let (l3 + 1) fun v11 =>
 f_X3_freeShifts_30 n Sz l1 v10 v11))
def f_X3_freeShifts (S : MD) (p1 : Int32) : Option (Int32 × MD) := (f_X3_isPerson S p1).bind fun r1 =>
 if r1 = 0 then
 (q_let (sMD_thrown S 1) fun S3 =>
 if (MD_thrown S3) = 0 then
 (f_X3_freeShifts_30 2000 S3 p1 0 0)
 else (some (0, S3)))
 else (q_let (sMD_thrown S 0) fun S12 =>
 if (MD_thrown S12) = 0 then
 (f_X3_freeShifts_30 2000 S12 p1 0 0)
 else (some (0, S12)))
abbrev rX3_freeShifts : Room := { frames := 5, cells := 0, slots := 0, locals := 112 }
set_option maxRecDepth 100000 in
set_option maxHeartbeats 4000000 in
theorem c_X3_freeShifts (l : Launch) (D : va_G) (cI cJ cS : ClassId) (a : Nat → Nat) (S : MD) (sz : Nat) (p1 : Int32) (o : (Int32 × MD)) (hf : f_X3_freeShifts S p1 = some o) : Met l yX3_freeShifts wsX3_freeShifts rX3_freeShifts (va_Pc [.ref (a 0), .int p1] (q_BW D cI cJ cS (wMD cI cJ a S) sz)) (q_Wo (some (.int o.1)) D (wMD cI cJ a S) (wMD cI cJ a o.2) sz) 0 0 (va_A (wMD cI cJ a S) sz) := by
  refine Met.ofW (cc := cX3_freeShifts) (maxL := 4) (ret := some .int) (by decide) rfl ?_
  intro p e s m args below meth c s₁ B hml hv
  obtain ⟨rfl, hsz, hP, hE, hD0⟩ := hv
  have hx := B.exec
  have hb := B.bytes
  have hr := B.returns
  have hts := atoms_spec (ws := wsX3_freeShifts) B.pre
  have hown : s.vm.findClass RX3 = some m.cls := findClass_of_methodNamed B.named
  have hlocks := B.notSynchronized
  have hu : ∀ z ∈ wsX30, z.before _ s = true := fun z h => hts z (List.mem_cons_of_mem _ (List.mem_append_right _ h))
  subst hsz
  have hD := hD0.self (sz := s.heap.size)
  have hS : va_S (va_A (wMD cI cJ a S) s.heap.size) s.heap s.heap [] := va_S.rf
  have L_30 : ∀ (n : Nat) (Sz : MD) (H : Heap) (locs : List Loc) (hP : va_P D vwCl (wMD cI cJ a Sz) H) (hD : va_D (va_A (wMD cI cJ a S) s.heap.size) (wMD cI cJ a Sz)) (hS : va_S (va_A (wMD cI cJ a S) s.heap.size) s.heap H locs) (l1 : Int32) (l2 : Int32) (l3 : Int32) (ls : Array Slot), lv_has ls 4 [(0, .ref (a 0)), (1, .int l1), (2, .int l2), (3, .int l3)] → f_X3_freeShifts_30 n Sz l1 l2 l3 = some o → W p l e (headSpec wsX3_freeShifts rX3_freeShifts).room s m (([.ref (a 0), .int p1] : List Value).toArray) below meth c H locs 0 0 (MQ below (q_Wo (some (.int o.1)) D (wMD cI cJ a S) (wMD cI cJ a o.2) s.heap.size) (([.ref (a 0), .int p1] : List Value).toArray) s 0 0 (va_A (wMD cI cJ a S) s.heap.size)) (F0 m 30 ls []) := by
    intro n
    induction n with
    | zero => intro Sz H locs hP hD hS l1 l2 l3 ls hl hf; cases hf
    | succ n ih =>
      intro Sz H locs hP hD hS l1 l2 l3 ls hl hf
      rw [f_X3_freeShifts_30] at hf
      refine lv_iload_n hx hb dX3_freeShifts_30 rfl (lv_at hl 3 rfl) ?_
      refine lv_bipush (v := 42) hx hb dX3_freeShifts_31 (by decide) ?_
      refine lv_icmp_ge (tgt := 59) hx hb dX3_freeShifts_33 (by decide) (fun c5 => ?_) (fun c5 => ?_)
      · have hf := q_ite_t c5 hf
        refine lv_iload_n hx hb dX3_freeShifts_59 rfl (lv_at hl 2 rfl) ?_
        have ho := q_some hf
        subst ho
        exact W.iret hx hb hr (fun t ht hW => ⟨rfl, ⟨by rw [ht]; exact hP, hD⟩, hS.F ht⟩) hS.2.2 dX3_freeShifts_60
      · have hf := q_ite_f c5 hf
        refine lv_iload_n hx hb dX3_freeShifts_36 rfl (lv_at hl 2 rfl) ?_
        refine lv_aload_n hx hb dX3_freeShifts_37 rfl (lv_at hl 0 rfl) ?_
        refine lv_iload_n hx hb dX3_freeShifts_38 rfl (lv_at hl 1 rfl) ?_
        refine lv_iload_n hx hb dX3_freeShifts_39 rfl (lv_at hl 3 rfl) ?_
        obtain ⟨r6, hr6, hf⟩ := q_bd_go hf
        refine q_rdVi (ci := 3) (As := [.int l1, .int l3]) (rest := [.int l2]) hx hb hml hown hts (c_X3_whyNot l D cI cJ cS a Sz l1 l3 _ hr6) (cwV 2 hts gX3_freeShifts_X3_whyNot rfl rfl rfl (by decide +kernel) ⟨(Nat.le_of_ble_eq_true rfl), (Nat.le_of_ble_eq_true rfl)⟩) hE hP rfl rfl rfl hl.1 rfl (Nat.le_of_ble_eq_true rfl) dX3_freeShifts_40 ⟨Nat.zero_le _, Nat.zero_le _⟩ ?_
        refine lv_if_ne (tgt := 50) hx hb dX3_freeShifts_43 (by decide) (fun c7 => ?_) (fun c7 => ?_)
        · have hf := q_ite_t c7 hf
          refine lv_iconst (v := 0) hx hb dX3_freeShifts_50 (by decide) ?_
          refine lv_iadd hx hb dX3_freeShifts_51 ?_
          obtain ⟨v8, ev8, hf⟩ := q_let_go hf
          refine q_nmi ev8 ?_
          refine lv_istore_n (lv' := [(2, .int v8), (0, .ref (a 0)), (1, .int l1), (3, .int l3)]) hx hb dX3_freeShifts_52 rfl hl (by decide) rfl (fun ls hl => ?_)
          obtain ⟨v9, ev9, hf⟩ := q_let_go hf
          refine lv_iinc (v := v9) (lv' := [(3, .int v9), (2, .int v8), (0, .ref (a 0)), (1, .int l1)]) hx hb dX3_freeShifts_53 hl (k := 3) rfl (by rw [← ev9]; rfl) (by decide) rfl (fun ls hl => ?_)
          refine lv_goto (tgt := 30) hx hb dX3_freeShifts_56 (by decide) ?_
          exact ih Sz _ _ hP hD hS l1 v8 v9 _ (lv_sub hl [2, 3, 1, 0] rfl) hf
        · have hf := q_ite_n c7 hf
          refine lv_iconst (v := 1) hx hb dX3_freeShifts_46 (by decide) ?_
          refine lv_goto (tgt := 51) hx hb dX3_freeShifts_47 (by decide) ?_
          refine lv_iadd hx hb dX3_freeShifts_51 ?_
          obtain ⟨v10, ev10, hf⟩ := q_let_go hf
          refine q_nmi ev10 ?_
          refine lv_istore_n (lv' := [(2, .int v10), (0, .ref (a 0)), (1, .int l1), (3, .int l3)]) hx hb dX3_freeShifts_52 rfl hl (by decide) rfl (fun ls hl => ?_)
          obtain ⟨v11, ev11, hf⟩ := q_let_go hf
          refine lv_iinc (v := v11) (lv' := [(3, .int v11), (2, .int v10), (0, .ref (a 0)), (1, .int l1)]) hx hb dX3_freeShifts_53 hl (k := 3) rfl (by rw [← ev11]; rfl) (by decide) rfl (fun ls hl => ?_)
          refine lv_goto (tgt := 30) hx hb dX3_freeShifts_56 (by decide) ?_
          exact ih Sz _ _ hP hD hS l1 v10 v11 _ (lv_sub hl [2, 3, 1, 0] rfl) hf
  have hl := lv_entry ([.ref (a 0), .int p1]) (n := 4) (Nat.le_of_ble_eq_true rfl)
  rw [lg_entry_eq]
  generalize (lg_sl ([.ref (a 0), .int p1]) ++ List.replicate (4 - (lg_sl ([.ref (a 0), .int p1])).length) Slot.unset).toArray = ls at hl ⊢
  have hl : lv_has ls 4 [(0, .ref (a 0)), (1, .int p1)] := hl
  unfold f_X3_freeShifts at hf
  refine lv_aload_n hx hb dX3_freeShifts_0 rfl (lv_at hl 0 rfl) ?_
  refine lv_aload_n hx hb dX3_freeShifts_1 rfl (lv_at hl 0 rfl) ?_
  refine lv_iload_n hx hb dX3_freeShifts_2 rfl (lv_at hl 1 rfl) ?_
  obtain ⟨r1, hr1, hf⟩ := q_bd_go hf
  refine q_rdVi (ci := 3) (As := [.int p1]) (rest := [.ref (a 0)]) hx hb hml hown hts (c_X3_isPerson l D cI cJ cS a S p1 _ hr1) (cwV 1 hts gX3_freeShifts_X3_isPerson rfl rfl rfl (by decide +kernel) ⟨(Nat.le_of_ble_eq_true rfl), (Nat.le_of_ble_eq_true rfl)⟩) hE hP rfl rfl rfl hl.1 rfl (Nat.le_of_ble_eq_true rfl) dX3_freeShifts_3 ⟨Nat.zero_le _, Nat.zero_le _⟩ ?_
  refine lv_if_eq (tgt := 13) hx hb dX3_freeShifts_6 (by decide) (fun c2 => ?_) (fun c2 => ?_)
  · have hf := q_ite_t c2 hf
    refine lv_iconst (v := 1) hx hb dX3_freeShifts_13 (by decide) ?_
    obtain ⟨S3, eS3, hf⟩ := q_let_go hf
    refine va_put (D := D) (ci := 3) (v := .int 1) (ty := .int) (C := RX3) (T := TX3) (N := 15) hx hb hu (fun _ h => h) tyX3 tyX3_ok nmX3 hown hE.1 hP hD hS 0 rfl rfl 3 (Nat.le_of_ble_eq_true rfl) (hts (.fieldLink RX3 30 "CoverMeterModel" "thrown" "I") (List.mem_of_getElem? (i := 1) rfl)) (fun _ h9 => h9) rfl (by decide +kernel) rfl rfl (Nat.le_of_ble_eq_true rfl) dX3_freeShifts_14 (fun H locs hP hD hS => ?_)
    have hP : va_P D vwCl (wMD cI cJ a (sMD_thrown S 1)) H := hP
    have hD : va_D (va_A (wMD cI cJ a S) s.heap.size) (wMD cI cJ a (sMD_thrown S 1)) := hD
    rw [eS3] at hP hD
    refine lv_aload_n hx hb dX3_freeShifts_17 rfl (lv_at hl 0 rfl) ?_
    refine va_get (D := D) (ci := 3) (v := .int (MD_thrown S3)) (C := RX3) (T := TX3) (N := 15) hx hb hu (fun _ h => h) hown hE.1 hP 0 rfl rfl 3 (Nat.le_of_ble_eq_true rfl) (hts (.fieldLink RX3 30 "CoverMeterModel" "thrown" "I") (List.mem_of_getElem? (i := 1) rfl)) (fun _ h9 => h9) rfl dX3_freeShifts_18 ?_
    refine lv_if_eq (tgt := 26) hx hb dX3_freeShifts_21 (by decide) (fun c4 => ?_) (fun c4 => ?_)
    · have hf := q_ite_t c4 hf
      refine lv_iconst (v := 0) hx hb dX3_freeShifts_26 (by decide) ?_
      refine lv_istore_n (lv' := [(2, .int 0), (0, .ref (a 0)), (1, .int p1)]) hx hb dX3_freeShifts_27 rfl hl (by decide) rfl (fun ls hl => ?_)
      refine lv_iconst (v := 0) hx hb dX3_freeShifts_28 (by decide) ?_
      refine lv_istore_n (lv' := [(3, .int 0), (2, .int 0), (0, .ref (a 0)), (1, .int p1)]) hx hb dX3_freeShifts_29 rfl hl (by decide) rfl (fun ls hl => ?_)
      exact L_30 2000 S3 _ _ hP hD hS p1 0 0 _ (lv_sub hl [2, 3, 1, 0] rfl) hf
    · have hf := q_ite_f c4 hf
      refine lv_iconst (v := 0) hx hb dX3_freeShifts_24 (by decide) ?_
      have ho := q_some hf
      subst ho
      exact W.iret hx hb hr (fun t ht hW => ⟨rfl, ⟨by rw [ht]; exact hP, hD⟩, hS.F ht⟩) hS.2.2 dX3_freeShifts_25
  · have hf := q_ite_f c2 hf
    refine lv_iconst (v := 0) hx hb dX3_freeShifts_9 (by decide) ?_
    refine lv_goto (tgt := 14) hx hb dX3_freeShifts_10 (by decide) ?_
    obtain ⟨S12, eS12, hf⟩ := q_let_go hf
    refine va_put (D := D) (ci := 3) (v := .int 0) (ty := .int) (C := RX3) (T := TX3) (N := 15) hx hb hu (fun _ h => h) tyX3 tyX3_ok nmX3 hown hE.1 hP hD hS 0 rfl rfl 3 (Nat.le_of_ble_eq_true rfl) (hts (.fieldLink RX3 30 "CoverMeterModel" "thrown" "I") (List.mem_of_getElem? (i := 1) rfl)) (fun _ h9 => h9) rfl (by decide +kernel) rfl rfl (Nat.le_of_ble_eq_true rfl) dX3_freeShifts_14 (fun H locs hP hD hS => ?_)
    have hP : va_P D vwCl (wMD cI cJ a (sMD_thrown S 0)) H := hP
    have hD : va_D (va_A (wMD cI cJ a S) s.heap.size) (wMD cI cJ a (sMD_thrown S 0)) := hD
    rw [eS12] at hP hD
    refine lv_aload_n hx hb dX3_freeShifts_17 rfl (lv_at hl 0 rfl) ?_
    refine va_get (D := D) (ci := 3) (v := .int (MD_thrown S12)) (C := RX3) (T := TX3) (N := 15) hx hb hu (fun _ h => h) hown hE.1 hP 0 rfl rfl 3 (Nat.le_of_ble_eq_true rfl) (hts (.fieldLink RX3 30 "CoverMeterModel" "thrown" "I") (List.mem_of_getElem? (i := 1) rfl)) (fun _ h9 => h9) rfl dX3_freeShifts_18 ?_
    refine lv_if_eq (tgt := 26) hx hb dX3_freeShifts_21 (by decide) (fun c13 => ?_) (fun c13 => ?_)
    · have hf := q_ite_t c13 hf
      refine lv_iconst (v := 0) hx hb dX3_freeShifts_26 (by decide) ?_
      refine lv_istore_n (lv' := [(2, .int 0), (0, .ref (a 0)), (1, .int p1)]) hx hb dX3_freeShifts_27 rfl hl (by decide) rfl (fun ls hl => ?_)
      refine lv_iconst (v := 0) hx hb dX3_freeShifts_28 (by decide) ?_
      refine lv_istore_n (lv' := [(3, .int 0), (2, .int 0), (0, .ref (a 0)), (1, .int p1)]) hx hb dX3_freeShifts_29 rfl hl (by decide) rfl (fun ls hl => ?_)
      exact L_30 2000 S12 _ _ hP hD hS p1 0 0 _ (lv_sub hl [2, 3, 1, 0] rfl) hf
    · have hf := q_ite_f c13 hf
      refine lv_iconst (v := 0) hx hb dX3_freeShifts_24 (by decide) ?_
      have ho := q_some hf
      subst ho
      exact W.iret hx hb hr (fun t ht hW => ⟨rfl, ⟨by rw [ht]; exact hP, hD⟩, hS.F ht⟩) hS.2.2 dX3_freeShifts_25
def f_X3_spread_9 : Nat → MD → Int64 → Int32 → Option (UInt64 × MD)
  | 0, _, _, _ => none
  | n+1, Sz, l1, l3 => if q_in 3 420 = true then
 (if 0 ≤ (lg_cmp ((l3 : Int32).toInt64) (MD_now Sz (3 : Int32).toNatClampNeg)) then
 (if q_in 3 420 = true then
 (if ¬ (lg_cmp (MD_now Sz (3 : Int32).toNatClampNeg) 0) = 0 then
 (if q_in 3 420 = true then
 (if q_num (FP.ddiv (FP.l2d l1) (FP.l2d (MD_now Sz (3 : Int32).toNatClampNeg))) = true then
 (some ((FP.ddiv (FP.l2d l1) (FP.l2d (MD_now Sz (3 : Int32).toNatClampNeg))), Sz)) else none) else none)
 else (some (FP.dconst0, Sz))) else none)
 else ((f_X3_ofP Sz l3 1).bind fun r7 =>
 if 0 ≤ (lg_cmp r7 0) then
 (q_let ((l1 + r7)) fun v9 =>
 q_let (l3 + 1) fun v10 =>
 f_X3_spread_9 n Sz v9 v10)
 else (q_let ((l1 + (-r7))) fun v11 =>
 q_let (l3 + 1) fun v12 =>
 f_X3_spread_9 n Sz v11 v12))) else none
def f_X3_spread (S : MD) : Option (UInt64 × MD) := q_let (sMD_thrown S 0) fun S1 =>
 f_X3_spread_9 2000 S1 0 0
abbrev rX3_spread : Room := { frames := 1, cells := 0, slots := 0, locals := 22 }
set_option maxRecDepth 100000 in
set_option maxHeartbeats 4000000 in
theorem c_X3_spread (l : Launch) (D : va_G) (cI cJ cS : ClassId) (a : Nat → Nat) (S : MD) (sz : Nat) (o : (UInt64 × MD)) (hf : f_X3_spread S = some o) : Met l yX3_spread wsX3_spread rX3_spread (va_Pc [.ref (a 0)] (q_BW D cI cJ cS (wMD cI cJ a S) sz)) (q_Wo (some (.double o.1)) D (wMD cI cJ a S) (wMD cI cJ a o.2) sz) 0 0 (va_A (wMD cI cJ a S) sz) := by
  refine Met.ofW (cc := cX3_spread) (maxL := 6) (ret := some .double) (by decide) rfl ?_
  intro p e s m args below meth c s₁ B hml hv
  obtain ⟨rfl, hsz, hP, hE, hD0⟩ := hv
  have hx := B.exec
  have hb := B.bytes
  have hr := B.returns
  have hts := atoms_spec (ws := wsX3_spread) B.pre
  have hown : s.vm.findClass RX3 = some m.cls := findClass_of_methodNamed B.named
  have hlocks := B.notSynchronized
  have hu : ∀ z ∈ wsX30, z.before _ s = true := fun z h => hts z (List.mem_cons_of_mem _ (List.mem_append_right _ h))
  subst hsz
  have hD := hD0.self (sz := s.heap.size)
  have hS : va_S (va_A (wMD cI cJ a S) s.heap.size) s.heap s.heap [] := va_S.rf
  have L_9 : ∀ (n : Nat) (Sz : MD) (H : Heap) (locs : List Loc) (hP : va_P D vwCl (wMD cI cJ a Sz) H) (hD : va_D (va_A (wMD cI cJ a S) s.heap.size) (wMD cI cJ a Sz)) (hS : va_S (va_A (wMD cI cJ a S) s.heap.size) s.heap H locs) (l1 : Int64) (l3 : Int32) (ls : Array Slot), lv_has ls 6 [(0, .ref (a 0)), (1, .long l1), (3, .int l3)] → f_X3_spread_9 n Sz l1 l3 = some o → W p l e (headSpec wsX3_spread rX3_spread).room s m (([.ref (a 0)] : List Value).toArray) below meth c H locs 0 0 (MQ below (q_Wo (some (.double o.1)) D (wMD cI cJ a S) (wMD cI cJ a o.2) s.heap.size) (([.ref (a 0)] : List Value).toArray) s 0 0 (va_A (wMD cI cJ a S) s.heap.size)) (F0 m 9 ls []) := by
    intro n
    induction n with
    | zero => intro Sz H locs hP hD hS l1 l3 ls hl hf; cases hf
    | succ n ih =>
      intro Sz H locs hP hD hS l1 l3 ls hl hf
      rw [f_X3_spread_9] at hf
      refine lv_iload_n hx hb dX3_spread_9 rfl (lv_at hl 2 rfl) ?_
      refine lv_i2l (v := ((l3 : Int32).toInt64)) hx hb dX3_spread_10 rfl ?_
      refine lv_aload_n hx hb dX3_spread_11 rfl (lv_at hl 0 rfl) ?_
      refine va_get (D := D) (ci := 3) (v := .ref (a 1)) (C := RX3) (T := TX3) (N := 15) hx hb hu (fun _ h => h) hown hE.1 hP 0 rfl rfl 0 (Nat.le_of_ble_eq_true rfl) (hts (.fieldLink RX3 7 "CoverMeterModel" "now" "[J") (List.mem_of_getElem? (i := 2) rfl)) (fun _ h9 => h9) rfl dX3_spread_12 ?_
      refine lv_iconst (v := 3) hx hb dX3_spread_15 (by decide) ?_
      have hi2 := q_gd_in hf
      have hf := q_gd_go hf
      refine va_lald hx hb hE.1 hP 1 1 rfl rfl hi2 dX3_spread_16 ?_
      refine W.lcmp hx hb dX3_spread_17 ?_
      refine lv_if_ge (tgt := 53) hx hb dX3_spread_18 (by decide) (fun c3 => ?_) (fun c3 => ?_)
      · have hf := q_ite_t c3 hf
        refine lv_aload_n hx hb dX3_spread_53 rfl (lv_at hl 0 rfl) ?_
        refine va_get (D := D) (ci := 3) (v := .ref (a 1)) (C := RX3) (T := TX3) (N := 15) hx hb hu (fun _ h => h) hown hE.1 hP 0 rfl rfl 0 (Nat.le_of_ble_eq_true rfl) (hts (.fieldLink RX3 7 "CoverMeterModel" "now" "[J") (List.mem_of_getElem? (i := 2) rfl)) (fun _ h9 => h9) rfl dX3_spread_54 ?_
        refine lv_iconst (v := 3) hx hb dX3_spread_57 (by decide) ?_
        have hi4 := q_gd_in hf
        have hf := q_gd_go hf
        refine va_lald hx hb hE.1 hP 1 1 rfl rfl hi4 dX3_spread_58 ?_
        refine lv_lconst (v := 0) hx hb dX3_spread_59 (by decide) ?_
        refine W.lcmp hx hb dX3_spread_60 ?_
        refine lv_if_ne (tgt := 68) hx hb dX3_spread_61 (by decide) (fun c5 => ?_) (fun c5 => ?_)
        · have hf := q_ite_t c5 hf
          refine lv_lload_n hx hb dX3_spread_68 rfl (lv_at hl 1 rfl) ?_
          refine lv_l2d hx hb dX3_spread_69 ?_
          refine lv_aload_n hx hb dX3_spread_70 rfl (lv_at hl 0 rfl) ?_
          refine va_get (D := D) (ci := 3) (v := .ref (a 1)) (C := RX3) (T := TX3) (N := 15) hx hb hu (fun _ h => h) hown hE.1 hP 0 rfl rfl 0 (Nat.le_of_ble_eq_true rfl) (hts (.fieldLink RX3 7 "CoverMeterModel" "now" "[J") (List.mem_of_getElem? (i := 2) rfl)) (fun _ h9 => h9) rfl dX3_spread_71 ?_
          refine lv_iconst (v := 3) hx hb dX3_spread_74 (by decide) ?_
          have hi6 := q_gd_in hf
          have hf := q_gd_go hf
          refine va_lald hx hb hE.1 hP 1 1 rfl rfl hi6 dX3_spread_75 ?_
          refine lv_l2d hx hb dX3_spread_76 ?_
          have hnn := q_gc_in hf
          have hf := q_ite_t hnn hf
          refine lv_ddiv hx hb dX3_spread_77 (q_num_n hnn) ?_
          have ho := q_some hf
          subst ho
          exact W.dret hx hb hr (fun t ht hW => ⟨rfl, ⟨by rw [ht]; exact hP, hD⟩, hS.F ht⟩) hS.2.2 dX3_spread_78
        · have hf := q_ite_n c5 hf
          refine lv_dconst0 hx hb dX3_spread_64 ?_
          refine lv_goto (tgt := 78) hx hb dX3_spread_65 (by decide) ?_
          have ho := q_some hf
          subst ho
          exact W.dret hx hb hr (fun t ht hW => ⟨rfl, ⟨by rw [ht]; exact hP, hD⟩, hS.F ht⟩) hS.2.2 dX3_spread_78
      · have hf := q_ite_f c3 hf
        refine lv_aload_n hx hb dX3_spread_21 rfl (lv_at hl 0 rfl) ?_
        refine lv_iload_n hx hb dX3_spread_22 rfl (lv_at hl 2 rfl) ?_
        refine lv_iconst (v := 1) hx hb dX3_spread_23 (by decide) ?_
        obtain ⟨r7, hr7, hf⟩ := q_bd_go hf
        refine q_rdVl (ci := 3) (As := [.int l3, .int 1]) (rest := []) hx hb hml hown hts (c_X3_ofP l D cI cJ cS a Sz l3 1 _ hr7) (cwV 2 hts gX3_spread_X3_ofP rfl rfl rfl (by decide +kernel) ⟨(Nat.le_of_ble_eq_true rfl), (Nat.le_of_ble_eq_true rfl)⟩) hE hP rfl rfl rfl hl.1 rfl (Nat.le_of_ble_eq_true rfl) dX3_spread_24 ⟨Nat.zero_le _, Nat.zero_le _⟩ ?_
        refine lv_lstore (lv' := [(4, .long r7), (0, .ref (a 0)), (1, .long l1), (3, .int l3)]) hx hb dX3_spread_27 hl (by decide) rfl (fun ls hl => ?_)
        refine lv_lload_n hx hb dX3_spread_29 rfl (lv_at hl 2 rfl) ?_
        refine lv_lload hx hb dX3_spread_30 (lv_at hl 0 rfl) ?_
        refine lv_lconst (v := 0) hx hb dX3_spread_32 (by decide) ?_
        refine W.lcmp hx hb dX3_spread_33 ?_
        refine lv_if_ge (tgt := 43) hx hb dX3_spread_34 (by decide) (fun c8 => ?_) (fun c8 => ?_)
        · have hf := q_ite_t c8 hf
          refine lv_lload hx hb dX3_spread_43 (lv_at hl 0 rfl) ?_
          refine lv_ladd hx hb dX3_spread_45 ?_
          obtain ⟨v9, ev9, hf⟩ := q_let_go hf
          refine q_nml ev9 ?_
          refine lv_lstore_n (lv' := [(1, .long v9), (4, .long r7), (0, .ref (a 0)), (3, .int l3)]) hx hb dX3_spread_46 rfl hl (by decide) rfl (fun ls hl => ?_)
          obtain ⟨v10, ev10, hf⟩ := q_let_go hf
          refine lv_iinc (v := v10) (lv' := [(3, .int v10), (1, .long v9), (4, .long r7), (0, .ref (a 0))]) hx hb dX3_spread_47 hl (k := 3) rfl (by rw [← ev10]; rfl) (by decide) rfl (fun ls hl => ?_)
          refine lv_goto (tgt := 9) hx hb dX3_spread_50 (by decide) ?_
          exact ih Sz _ _ hP hD hS v9 v10 _ (lv_sub hl [3, 1, 0] rfl) hf
        · have hf := q_ite_f c8 hf
          refine lv_lload hx hb dX3_spread_37 (lv_at hl 0 rfl) ?_
          refine lv_lneg hx hb dX3_spread_39 ?_
          refine lv_goto (tgt := 45) hx hb dX3_spread_40 (by decide) ?_
          refine lv_ladd hx hb dX3_spread_45 ?_
          obtain ⟨v11, ev11, hf⟩ := q_let_go hf
          refine q_nml ev11 ?_
          refine lv_lstore_n (lv' := [(1, .long v11), (4, .long r7), (0, .ref (a 0)), (3, .int l3)]) hx hb dX3_spread_46 rfl hl (by decide) rfl (fun ls hl => ?_)
          obtain ⟨v12, ev12, hf⟩ := q_let_go hf
          refine lv_iinc (v := v12) (lv' := [(3, .int v12), (1, .long v11), (4, .long r7), (0, .ref (a 0))]) hx hb dX3_spread_47 hl (k := 3) rfl (by rw [← ev12]; rfl) (by decide) rfl (fun ls hl => ?_)
          refine lv_goto (tgt := 9) hx hb dX3_spread_50 (by decide) ?_
          exact ih Sz _ _ hP hD hS v11 v12 _ (lv_sub hl [3, 1, 0] rfl) hf
  have hl := lv_entry ([.ref (a 0)]) (n := 6) (Nat.le_of_ble_eq_true rfl)
  rw [lg_entry_eq]
  generalize (lg_sl ([.ref (a 0)]) ++ List.replicate (6 - (lg_sl ([.ref (a 0)])).length) Slot.unset).toArray = ls at hl ⊢
  have hl : lv_has ls 6 [(0, .ref (a 0))] := hl
  unfold f_X3_spread at hf
  refine lv_aload_n hx hb dX3_spread_0 rfl (lv_at hl 0 rfl) ?_
  refine lv_iconst (v := 0) hx hb dX3_spread_1 (by decide) ?_
  obtain ⟨S1, eS1, hf⟩ := q_let_go hf
  refine va_put (D := D) (ci := 3) (v := .int 0) (ty := .int) (C := RX3) (T := TX3) (N := 15) hx hb hu (fun _ h => h) tyX3 tyX3_ok nmX3 hown hE.1 hP hD hS 0 rfl rfl 3 (Nat.le_of_ble_eq_true rfl) (hts (.fieldLink RX3 30 "CoverMeterModel" "thrown" "I") (List.mem_of_getElem? (i := 1) rfl)) (fun _ h9 => h9) rfl (by decide +kernel) rfl rfl (Nat.le_of_ble_eq_true rfl) dX3_spread_2 (fun H locs hP hD hS => ?_)
  have hP : va_P D vwCl (wMD cI cJ a (sMD_thrown S 0)) H := hP
  have hD : va_D (va_A (wMD cI cJ a S) s.heap.size) (wMD cI cJ a (sMD_thrown S 0)) := hD
  rw [eS1] at hP hD
  refine lv_lconst (v := 0) hx hb dX3_spread_5 (by decide) ?_
  refine lv_lstore_n (lv' := [(1, .long 0), (0, .ref (a 0))]) hx hb dX3_spread_6 rfl hl (by decide) rfl (fun ls hl => ?_)
  refine lv_iconst (v := 0) hx hb dX3_spread_7 (by decide) ?_
  refine lv_istore_n (lv' := [(3, .int 0), (1, .long 0), (0, .ref (a 0))]) hx hb dX3_spread_8 rfl hl (by decide) rfl (fun ls hl => ?_)
  exact L_9 2000 S1 _ _ hP hD hS 0 0 _ (lv_sub hl [2, 1, 0] rfl) hf
def f_X3_append_31 (Sz : MD) (l1 : Int32) (t0 : Int32) : Option (Int32 × MD) := q_let (sMD_thrown Sz t0) fun S4 =>
 if (MD_thrown S4) = 0 then
 (if q_in (MD_length S4) 100 = true then
 (q_let (sMD_text S4 (upd (MD_text S4) ((MD_length S4) : Int32).toNatClampNeg l1)) fun S7 =>
 q_let (sMD_length S7 ((MD_length S7) + 1)) fun S8 =>
 some ((MD_length S8), S8)) else none)
 else (some (0, S4))
def f_X3_append (S : MD) (p1 : Int32) : Option (Int32 × MD) := (f_X3_isIn ((p1 : Int32).toInt64) 0 127).bind fun r1 =>
 if ¬ r1 = 0 then
 (if 100 ≤ (MD_length S) then
 (f_X3_append_31 S p1 2)
 else (f_X3_append_31 S p1 0))
 else (f_X3_append_31 S p1 1)
abbrev rX3_append : Room := { frames := 1, cells := 0, slots := 0, locals := 25 }
set_option maxRecDepth 100000 in
set_option maxHeartbeats 4000000 in
theorem c_X3_append (l : Launch) (D : va_G) (cI cJ cS : ClassId) (a : Nat → Nat) (S : MD) (sz : Nat) (p1 : Int32) (o : (Int32 × MD)) (hf : f_X3_append S p1 = some o) : Met l yX3_append wsX3_append rX3_append (va_Pc [.ref (a 0), .int p1] (q_BW D cI cJ cS (wMD cI cJ a S) sz)) (q_Wo (some (.int o.1)) D (wMD cI cJ a S) (wMD cI cJ a o.2) sz) 0 0 (va_A (wMD cI cJ a S) sz) := by
  refine Met.ofW (cc := cX3_append) (maxL := 2) (ret := some .int) (by decide) rfl ?_
  intro p e s m args below meth c s₁ B hml hv
  obtain ⟨rfl, hsz, hP, hE, hD0⟩ := hv
  have hx := B.exec
  have hb := B.bytes
  have hr := B.returns
  have hts := atoms_spec (ws := wsX3_append) B.pre
  have hown : s.vm.findClass RX3 = some m.cls := findClass_of_methodNamed B.named
  have hlocks := B.notSynchronized
  have hu : ∀ z ∈ wsX30, z.before _ s = true := fun z h => hts z (List.mem_cons_of_mem _ (List.mem_append_right _ h))
  subst hsz
  have hD := hD0.self (sz := s.heap.size)
  have hS : va_S (va_A (wMD cI cJ a S) s.heap.size) s.heap s.heap [] := va_S.rf
  have B_31 : ∀ (Sz : MD) (H : Heap) (locs : List Loc) (hP : va_P D vwCl (wMD cI cJ a Sz) H) (hD : va_D (va_A (wMD cI cJ a S) s.heap.size) (wMD cI cJ a Sz)) (hS : va_S (va_A (wMD cI cJ a S) s.heap.size) s.heap H locs) (l1 : Int32) (t0 : Int32) (ls : Array Slot), lv_has ls 2 [(0, .ref (a 0)), (1, .int l1)] → f_X3_append_31 Sz l1 t0 = some o → W p l e (headSpec wsX3_append rX3_append).room s m (([.ref (a 0), .int p1] : List Value).toArray) below meth c H locs 0 0 (MQ below (q_Wo (some (.int o.1)) D (wMD cI cJ a S) (wMD cI cJ a o.2) s.heap.size) (([.ref (a 0), .int p1] : List Value).toArray) s 0 0 (va_A (wMD cI cJ a S) s.heap.size)) (F0 m 31 ls [.int t0, .ref (a 0)]) := by
    intro Sz H locs hP hD hS l1 t0 ls hl hf
    unfold f_X3_append_31 at hf
    obtain ⟨S4, eS4, hf⟩ := q_let_go hf
    refine va_put (D := D) (ci := 3) (v := .int t0) (ty := .int) (C := RX3) (T := TX3) (N := 15) hx hb hu (fun _ h => h) tyX3 tyX3_ok nmX3 hown hE.1 hP hD hS 0 rfl rfl 3 (Nat.le_of_ble_eq_true rfl) (hts (.fieldLink RX3 30 "CoverMeterModel" "thrown" "I") (List.mem_of_getElem? (i := 3) rfl)) (fun _ h9 => h9) rfl (by decide +kernel) rfl rfl (Nat.le_of_ble_eq_true rfl) dX3_append_31 (fun H locs hP hD hS => ?_)
    have hP : va_P D vwCl (wMD cI cJ a (sMD_thrown Sz t0)) H := hP
    have hD : va_D (va_A (wMD cI cJ a S) s.heap.size) (wMD cI cJ a (sMD_thrown Sz t0)) := hD
    rw [eS4] at hP hD
    refine lv_aload_n hx hb dX3_append_34 rfl (lv_at hl 0 rfl) ?_
    refine va_get (D := D) (ci := 3) (v := .int (MD_thrown S4)) (C := RX3) (T := TX3) (N := 15) hx hb hu (fun _ h => h) hown hE.1 hP 0 rfl rfl 3 (Nat.le_of_ble_eq_true rfl) (hts (.fieldLink RX3 30 "CoverMeterModel" "thrown" "I") (List.mem_of_getElem? (i := 3) rfl)) (fun _ h9 => h9) rfl dX3_append_35 ?_
    refine lv_if_eq (tgt := 43) hx hb dX3_append_38 (by decide) (fun c5 => ?_) (fun c5 => ?_)
    · have hf := q_ite_t c5 hf
      refine lv_aload_n hx hb dX3_append_43 rfl (lv_at hl 0 rfl) ?_
      refine va_get (D := D) (ci := 3) (v := .ref (a 3)) (C := RX3) (T := TX3) (N := 15) hx hb hu (fun _ h => h) hown hE.1 hP 0 rfl rfl 4 (Nat.le_of_ble_eq_true rfl) (hts (.fieldLink RX3 16 "CoverMeterModel" "text" "[I") (List.mem_of_getElem? (i := 4) rfl)) (fun _ h9 => h9) rfl dX3_append_44 ?_
      refine lv_aload_n hx hb dX3_append_47 rfl (lv_at hl 0 rfl) ?_
      refine va_get (D := D) (ci := 3) (v := .int (MD_length S4)) (C := RX3) (T := TX3) (N := 15) hx hb hu (fun _ h => h) hown hE.1 hP 0 rfl rfl 5 (Nat.le_of_ble_eq_true rfl) (hts (.fieldLink RX3 197 "CoverMeterModel" "length" "I") (List.mem_of_getElem? (i := 2) rfl)) (fun _ h9 => h9) rfl dX3_append_48 ?_
      refine lv_iload_n hx hb dX3_append_51 rfl (lv_at hl 1 rfl) ?_
      have hi6 := q_gd_in hf
      have hf := q_gd_go hf
      obtain ⟨S7, eS7, hf⟩ := q_let_go hf
      refine va_iast hx hb hE.1 hP hD hS 3 0 rfl rfl hi6 dX3_append_52 (fun H locs hP hD hS => ?_)
      have hP : va_P D vwCl (wMD cI cJ a (sMD_text S4 (upd (MD_text S4) ((MD_length S4) : Int32).toNatClampNeg l1))) H := hP
      have hD : va_D (va_A (wMD cI cJ a S) s.heap.size) (wMD cI cJ a (sMD_text S4 (upd (MD_text S4) ((MD_length S4) : Int32).toNatClampNeg l1))) := hD
      rw [eS7] at hP hD
      refine lv_aload_n hx hb dX3_append_53 rfl (lv_at hl 0 rfl) ?_
      refine lv_dup hx hb dX3_append_54 rfl ?_
      refine va_get (D := D) (ci := 3) (v := .int (MD_length S7)) (C := RX3) (T := TX3) (N := 15) hx hb hu (fun _ h => h) hown hE.1 hP 0 rfl rfl 5 (Nat.le_of_ble_eq_true rfl) (hts (.fieldLink RX3 197 "CoverMeterModel" "length" "I") (List.mem_of_getElem? (i := 2) rfl)) (fun _ h9 => h9) rfl dX3_append_55 ?_
      refine lv_iconst (v := 1) hx hb dX3_append_58 (by decide) ?_
      refine lv_iadd hx hb dX3_append_59 ?_
      obtain ⟨S8, eS8, hf⟩ := q_let_go hf
      refine va_put (D := D) (ci := 3) (v := .int ((MD_length S7) + 1)) (ty := .int) (C := RX3) (T := TX3) (N := 15) hx hb hu (fun _ h => h) tyX3 tyX3_ok nmX3 hown hE.1 hP hD hS 0 rfl rfl 5 (Nat.le_of_ble_eq_true rfl) (hts (.fieldLink RX3 197 "CoverMeterModel" "length" "I") (List.mem_of_getElem? (i := 2) rfl)) (fun _ h9 => h9) rfl (by decide +kernel) rfl rfl (Nat.le_of_ble_eq_true rfl) dX3_append_60 (fun H locs hP hD hS => ?_)
      have hP : va_P D vwCl (wMD cI cJ a (sMD_length S7 ((MD_length S7) + 1))) H := hP
      have hD : va_D (va_A (wMD cI cJ a S) s.heap.size) (wMD cI cJ a (sMD_length S7 ((MD_length S7) + 1))) := hD
      rw [eS8] at hP hD
      refine lv_aload_n hx hb dX3_append_63 rfl (lv_at hl 0 rfl) ?_
      refine va_get (D := D) (ci := 3) (v := .int (MD_length S8)) (C := RX3) (T := TX3) (N := 15) hx hb hu (fun _ h => h) hown hE.1 hP 0 rfl rfl 5 (Nat.le_of_ble_eq_true rfl) (hts (.fieldLink RX3 197 "CoverMeterModel" "length" "I") (List.mem_of_getElem? (i := 2) rfl)) (fun _ h9 => h9) rfl dX3_append_64 ?_
      have ho := q_some hf
      subst ho
      exact W.iret hx hb hr (fun t ht hW => ⟨rfl, ⟨by rw [ht]; exact hP, hD⟩, hS.F ht⟩) hS.2.2 dX3_append_67
    · have hf := q_ite_f c5 hf
      refine lv_iconst (v := 0) hx hb dX3_append_41 (by decide) ?_
      have ho := q_some hf
      subst ho
      exact W.iret hx hb hr (fun t ht hW => ⟨rfl, ⟨by rw [ht]; exact hP, hD⟩, hS.F ht⟩) hS.2.2 dX3_append_42
  have hl := lv_entry ([.ref (a 0), .int p1]) (n := 2) (Nat.le_of_ble_eq_true rfl)
  rw [lg_entry_eq]
  generalize (lg_sl ([.ref (a 0), .int p1]) ++ List.replicate (2 - (lg_sl ([.ref (a 0), .int p1])).length) Slot.unset).toArray = ls at hl ⊢
  have hl : lv_has ls 2 [(0, .ref (a 0)), (1, .int p1)] := hl
  unfold f_X3_append at hf
  refine lv_aload_n hx hb dX3_append_0 rfl (lv_at hl 0 rfl) ?_
  refine lv_iload_n hx hb dX3_append_1 rfl (lv_at hl 1 rfl) ?_
  refine lv_i2l (v := ((p1 : Int32).toInt64)) hx hb dX3_append_2 rfl ?_
  refine lv_lconst (v := 0) hx hb dX3_append_3 (by decide) ?_
  refine lv_ldc2 (v := 127) hx hb hown (hts (.constantLong RX3 195 (127)) (List.mem_of_getElem? (i := 1) rfl)) dX3_append_4 ?_
  obtain ⟨r1, hr1, hf⟩ := q_bd_go hf
  refine q_rdSi (As := [.long ((p1 : Int32).toInt64), .long 0, .long 127]) (rest := [.ref (a 0)]) hx hb hml hown hts (c_X3_isIn l D cI cJ cS ((p1 : Int32).toInt64) 0 127 _ hr1) (va_cwS 3 hts gX3_append_X3_isIn rfl rfl rfl (by decide +kernel) ⟨(Nat.le_of_ble_eq_true rfl), (Nat.le_of_ble_eq_true rfl)⟩) hE rfl hl.1 rfl (Nat.le_of_ble_eq_true rfl) dX3_append_7 ⟨Nat.zero_le _, Nat.zero_le _⟩ ?_
  refine lv_if_ne (tgt := 17) hx hb dX3_append_10 (by decide) (fun c2 => ?_) (fun c2 => ?_)
  · have hf := q_ite_t c2 hf
    refine lv_aload_n hx hb dX3_append_17 rfl (lv_at hl 0 rfl) ?_
    refine va_get (D := D) (ci := 3) (v := .int (MD_length S)) (C := RX3) (T := TX3) (N := 15) hx hb hu (fun _ h => h) hown hE.1 hP 0 rfl rfl 5 (Nat.le_of_ble_eq_true rfl) (hts (.fieldLink RX3 197 "CoverMeterModel" "length" "I") (List.mem_of_getElem? (i := 2) rfl)) (fun _ h9 => h9) rfl dX3_append_18 ?_
    refine lv_bipush (v := 100) hx hb dX3_append_21 (by decide) ?_
    refine lv_icmp_ge (tgt := 30) hx hb dX3_append_23 (by decide) (fun c3 => ?_) (fun c3 => ?_)
    · have hf := q_ite_t c3 hf
      refine lv_iconst (v := 2) hx hb dX3_append_30 (by decide) ?_
      exact B_31 S _ _ hP hD hS p1 2 _ (lv_sub hl [0, 1] rfl) hf
    · have hf := q_ite_f c3 hf
      refine lv_iconst (v := 0) hx hb dX3_append_26 (by decide) ?_
      refine lv_goto (tgt := 31) hx hb dX3_append_27 (by decide) ?_
      exact B_31 S _ _ hP hD hS p1 0 _ (lv_sub hl [0, 1] rfl) hf
  · have hf := q_ite_n c2 hf
    refine lv_iconst (v := 1) hx hb dX3_append_13 (by decide) ?_
    refine lv_goto (tgt := 31) hx hb dX3_append_14 (by decide) ?_
    exact B_31 S _ _ hP hD hS p1 1 _ (lv_sub hl [0, 1] rfl) hf
def f_X3_clearText (S : MD) : Option (Int32 × MD) := q_let (sMD_thrown S 0) fun S1 =>
 q_let ((MD_length S1)) fun v2 =>
 q_let (sMD_length S1 0) fun S3 =>
 some (v2, S3)
abbrev rX3_clearText : Room := { frames := 0, cells := 0, slots := 0, locals := 0 }
set_option maxRecDepth 100000 in
set_option maxHeartbeats 4000000 in
theorem c_X3_clearText (l : Launch) (D : va_G) (cI cJ cS : ClassId) (a : Nat → Nat) (S : MD) (sz : Nat) (o : (Int32 × MD)) (hf : f_X3_clearText S = some o) : Met l yX3_clearText wsX3_clearText rX3_clearText (va_Pc [.ref (a 0)] (q_BW D cI cJ cS (wMD cI cJ a S) sz)) (q_Wo (some (.int o.1)) D (wMD cI cJ a S) (wMD cI cJ a o.2) sz) 0 0 (va_A (wMD cI cJ a S) sz) := by
  refine Met.ofW (cc := cX3_clearText) (maxL := 2) (ret := some .int) (by decide) rfl ?_
  intro p e s m args below meth c s₁ B hml hv
  obtain ⟨rfl, hsz, hP, hE, hD0⟩ := hv
  have hx := B.exec
  have hb := B.bytes
  have hr := B.returns
  have hts := atoms_spec (ws := wsX3_clearText) B.pre
  have hown : s.vm.findClass RX3 = some m.cls := findClass_of_methodNamed B.named
  have hlocks := B.notSynchronized
  have hu : ∀ z ∈ wsX30, z.before _ s = true := fun z h => hts z (List.mem_cons_of_mem _ (List.mem_append_right _ h))
  subst hsz
  have hD := hD0.self (sz := s.heap.size)
  have hS : va_S (va_A (wMD cI cJ a S) s.heap.size) s.heap s.heap [] := va_S.rf
  have hl := lv_entry ([.ref (a 0)]) (n := 2) (Nat.le_of_ble_eq_true rfl)
  rw [lg_entry_eq]
  generalize (lg_sl ([.ref (a 0)]) ++ List.replicate (2 - (lg_sl ([.ref (a 0)])).length) Slot.unset).toArray = ls at hl ⊢
  have hl : lv_has ls 2 [(0, .ref (a 0))] := hl
  unfold f_X3_clearText at hf
  refine lv_aload_n hx hb dX3_clearText_0 rfl (lv_at hl 0 rfl) ?_
  refine lv_iconst (v := 0) hx hb dX3_clearText_1 (by decide) ?_
  obtain ⟨S1, eS1, hf⟩ := q_let_go hf
  refine va_put (D := D) (ci := 3) (v := .int 0) (ty := .int) (C := RX3) (T := TX3) (N := 15) hx hb hu (fun _ h => h) tyX3 tyX3_ok nmX3 hown hE.1 hP hD hS 0 rfl rfl 3 (Nat.le_of_ble_eq_true rfl) (hts (.fieldLink RX3 30 "CoverMeterModel" "thrown" "I") (List.mem_of_getElem? (i := 1) rfl)) (fun _ h9 => h9) rfl (by decide +kernel) rfl rfl (Nat.le_of_ble_eq_true rfl) dX3_clearText_2 (fun H locs hP hD hS => ?_)
  have hP : va_P D vwCl (wMD cI cJ a (sMD_thrown S 0)) H := hP
  have hD : va_D (va_A (wMD cI cJ a S) s.heap.size) (wMD cI cJ a (sMD_thrown S 0)) := hD
  rw [eS1] at hP hD
  refine lv_aload_n hx hb dX3_clearText_5 rfl (lv_at hl 0 rfl) ?_
  refine va_get (D := D) (ci := 3) (v := .int (MD_length S1)) (C := RX3) (T := TX3) (N := 15) hx hb hu (fun _ h => h) hown hE.1 hP 0 rfl rfl 5 (Nat.le_of_ble_eq_true rfl) (hts (.fieldLink RX3 197 "CoverMeterModel" "length" "I") (List.mem_of_getElem? (i := 2) rfl)) (fun _ h9 => h9) rfl dX3_clearText_6 ?_
  obtain ⟨v2, ev2, hf⟩ := q_let_go hf
  refine q_nmi ev2 ?_
  refine lv_istore_n (lv' := [(1, .int v2), (0, .ref (a 0))]) hx hb dX3_clearText_9 rfl hl (by decide) rfl (fun ls hl => ?_)
  refine lv_aload_n hx hb dX3_clearText_10 rfl (lv_at hl 1 rfl) ?_
  refine lv_iconst (v := 0) hx hb dX3_clearText_11 (by decide) ?_
  obtain ⟨S3, eS3, hf⟩ := q_let_go hf
  refine va_put (D := D) (ci := 3) (v := .int 0) (ty := .int) (C := RX3) (T := TX3) (N := 15) hx hb hu (fun _ h => h) tyX3 tyX3_ok nmX3 hown hE.1 hP hD hS 0 rfl rfl 5 (Nat.le_of_ble_eq_true rfl) (hts (.fieldLink RX3 197 "CoverMeterModel" "length" "I") (List.mem_of_getElem? (i := 2) rfl)) (fun _ h9 => h9) rfl (by decide +kernel) rfl rfl (Nat.le_of_ble_eq_true rfl) dX3_clearText_12 (fun H locs hP hD hS => ?_)
  have hP : va_P D vwCl (wMD cI cJ a (sMD_length S1 0)) H := hP
  have hD : va_D (va_A (wMD cI cJ a S) s.heap.size) (wMD cI cJ a (sMD_length S1 0)) := hD
  rw [eS3] at hP hD
  refine lv_iload_n hx hb dX3_clearText_15 rfl (lv_at hl 0 rfl) ?_
  have ho := q_some hf
  subst ho
  exact W.iret hx hb hr (fun t ht hW => ⟨rfl, ⟨by rw [ht]; exact hP, hD⟩, hS.F ht⟩) hS.2.2 dX3_clearText_16
