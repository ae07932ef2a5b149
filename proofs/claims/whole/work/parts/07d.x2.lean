def f_X2_carryOut_33 : Nat → CM → Int32 → Int32 → Option (Int32 × CM)
  | 0, _, _, _ => none
  | n+1, Sz, l2, l3 => if (OR_length (CM_or Sz)) ≤ l3 then
 (some (l2, Sz))
 else ((f_X0_hasMore (CM_or Sz) ).bind fun r10 =>
 if r10 = 0 then
 (some (l2, Sz))
 else ((f_X0_read (CM_or Sz) ).bind fun r12 =>
 q_let (sCM_or Sz r12) fun S13 =>
 (f_X2_obey S13 ).bind fun r14 =>
 if ¬ r14.1 = 0 then
 (q_let (l2 + 1) fun v18 =>
 q_let (l3 + 1) fun v19 =>
 f_X2_carryOut_33 n r14.2 v18 v19)
 else (some (l2, r14.2))))
def f_X2_carryOut (S : CM) : Option (Int32 × CM) := (f_X0_errorPosition (CM_or S) ).bind fun r1 =>
 q_let (sCM_or S r1.2) fun S2 =>
 if r1.1 = (-1) then
 ((f_X2_save S2 ).bind fun r4 =>
 (f_X0_start (CM_or r4) ).bind fun r7 =>
 q_let (sCM_or r4 r7) fun S8 =>
 f_X2_carryOut_33 2000 S8 0 0)
 else (some (((-10) - r1.1), S2))
abbrev rX2_carryOut : Room := { frames := 6, cells := 0, slots := 0, locals := 139 }
set_option maxRecDepth 100000 in
set_option maxHeartbeats 4000000 in
theorem c_X2_carryOut (l : Launch) (hlt : l.stackTraces = false) (D : va_G) (cI cJ cS : ClassId) (sa : Nat → Nat) (A : Nat → Nat → Nat) (g : Nat → Option Nat) (B : Nat → Nat → Nat) (hg : ∀ i, i < 4 → g i = some (B i 0)) (S : CM) (sz : Nat) (o : (Int32 × CM)) (hf : f_X2_carryOut S = some o) : Met l yX2_carryOut wsX2_carryOut rX2_carryOut (va_Pc [.ref (A 3 0)] (q_BWX D cI cJ cS sa (wCM cI cJ cS A g B S) sz)) (q_WE (some (.int o.1)) D cI cJ cS A o.2 (wCM cI cJ cS A g B S) sz) 0 0 (va_A (wCM cI cJ cS A g B S) sz) := by
  refine Met.ofW (cc := cX2_carryOut) (maxL := 4) (ret := some .int) (by decide) rfl ?_
  intro p e s m args below meth c s₁ B9 hml hv
  obtain ⟨rfl, hsz, hP, hE, hD0, hES, hZ⟩ := hv
  have hx := B9.exec
  have hb := B9.bytes
  have hr := B9.returns
  have hts := atoms_spec (ws := wsX2_carryOut) B9.pre
  have hown : s.vm.findClass RX2 = some m.cls := findClass_of_methodNamed B9.named
  have hlocks := B9.notSynchronized
  have hu0 : ∀ z ∈ wsX00, z.before _ s = true := fun z h => hts z (List.mem_cons_of_mem _ (List.mem_append_left _ (List.mem_append_right _ h)))
  have hu1 : ∀ z ∈ wsX10, z.before _ s = true := fun z h => hts z (List.mem_cons_of_mem _ (List.mem_append_right _ h))
  have hu2 : ∀ z ∈ wsX20, z.before _ s = true := fun z h => hts z (List.mem_cons_of_mem _ (List.mem_append_left _ (List.mem_append_left _ (List.mem_append_right _ h))))
  subst hsz
  have hD := hD0.self (sz := s.heap.size)
  have hS : va_S (va_A (wCM cI cJ cS A g B S) s.heap.size) s.heap s.heap [] := va_S.rf
  have L_33 : ∀ (n : Nat) (Sz : CM) (gz : Nat → Option Nat) (Bz : Nat → Nat → Nat) (hg : ∀ i, i < 4 → gz i = some (Bz i 0)) (H : Heap) (locs : List Loc) (hP : va_P D vwCl (wCM cI cJ cS A gz Bz Sz) H) (hD : va_D (va_A (wCM cI cJ cS A g B S) s.heap.size) (wCM cI cJ cS A gz Bz Sz)) (hS : va_S (va_A (wCM cI cJ cS A g B S) s.heap.size) s.heap H locs) (l2 : Int32) (l3 : Int32) (ls : Array Slot), lv_has ls 4 [(0, .ref (A 3 0)), (2, .int l2), (3, .int l3)] → f_X2_carryOut_33 n Sz l2 l3 = some o → W p l e (headSpec wsX2_carryOut rX2_carryOut).room s m (([.ref (A 3 0)] : List Value).toArray) below meth c H locs 0 0 (MQ below (q_WE (some (.int o.1)) D cI cJ cS A o.2 (wCM cI cJ cS A g B S) s.heap.size) (([.ref (A 3 0)] : List Value).toArray) s 0 0 (va_A (wCM cI cJ cS A g B S) s.heap.size)) (F0 m 33 ls []) := by
    intro n
    induction n with
    | zero => intro Sz gz Bz hg H locs hP hD hS l2 l3 ls hl hf; cases hf
    | succ n ih =>
      intro Sz gz Bz hg H locs hP hD hS l2 l3 ls hl hf
      rw [f_X2_carryOut_33] at hf
      refine lv_iload_n hx hb dX2_carryOut_33 rfl (lv_at hl 2 rfl) ?_
      refine lv_aload_n hx hb dX2_carryOut_34 rfl (lv_at hl 0 rfl) ?_
      refine va_get (D := D) (ci := 2) (v := .ref (A 2 0)) (C := RX2) (T := TX2) (N := 5) hx hb hu2 (fun _ h => h) hown hE.1 hP 0 rfl rfl 4 (Nat.le_of_ble_eq_true rfl) (hts (.fieldLink RX2 26 "CoverMeter" "orders" "LCoverMeter$Orders;") (List.mem_of_getElem? (i := 1) rfl)) (fun _ h9 => h9) rfl dX2_carryOut_35 ?_
      refine va_get (D := D) (ci := 0) (v := .int (OR_length (CM_or Sz))) (C := RX0) (T := TX0) (N := 8) hx hb hu0 (fun _ h => h) hown hE.1 hP 80 rfl rfl 1 (Nat.le_of_ble_eq_true rfl) (hts (.fieldLink RX2 174 "CoverMeter$Orders" "length" "I") (List.mem_of_getElem? (i := 2) rfl)) (fun _ h9 => h9) rfl dX2_carryOut_38 ?_
      refine lv_icmp_ge (tgt := 79) hx hb dX2_carryOut_41 (by decide) (fun c9 => ?_) (fun c9 => ?_)
      · have hf := q_ite_t c9 hf
        refine lv_iload_n hx hb dX2_carryOut_79 rfl (lv_at hl 1 rfl) ?_
        have ho := q_some hf
        subst ho
        refine W.widen (k := 0) (n := 0) (Nat.le_of_ble_eq_true rfl) (Nat.le_of_ble_eq_true rfl) ?_
        exact W.iret hx hb hr (fun t ht hW => ⟨rfl, ⟨_, ⟨gz, Bz, hg, rfl⟩, by rw [ht]; exact hP, hD⟩, hS.F ht⟩) hS.2.2 dX2_carryOut_80
      · have hf := q_ite_f c9 hf
        refine lv_aload_n hx hb dX2_carryOut_44 rfl (lv_at hl 0 rfl) ?_
        refine va_get (D := D) (ci := 2) (v := .ref (A 2 0)) (C := RX2) (T := TX2) (N := 5) hx hb hu2 (fun _ h => h) hown hE.1 hP 0 rfl rfl 4 (Nat.le_of_ble_eq_true rfl) (hts (.fieldLink RX2 26 "CoverMeter" "orders" "LCoverMeter$Orders;") (List.mem_of_getElem? (i := 1) rfl)) (fun _ h9 => h9) rfl dX2_carryOut_45 ?_
        obtain ⟨r10, hr10, hf⟩ := q_bd_go hf
        refine q_rdVi (w := (wOR cI cJ (A 2) (CM_or Sz))) (ci := 0) (As := []) (rest := []) hx hb hml hown hts (c_X0_hasMore l D cI cJ cS (A 2) (CM_or Sz)  _ hr10) (cwV 0 hts gX2_carryOut_X0_hasMore rfl rfl rfl (by decide +kernel) ⟨(Nat.le_of_ble_eq_true rfl), (Nat.le_of_ble_eq_true rfl)⟩) hE (qp_or hP) rfl rfl rfl hl.1 rfl (Nat.le_of_ble_eq_true rfl) dX2_carryOut_48 ⟨(Nat.le_of_ble_eq_true rfl), (Nat.le_of_ble_eq_true rfl)⟩ ?_
        refine lv_if_eq (tgt := 79) hx hb dX2_carryOut_51 (by decide) (fun c11 => ?_) (fun c11 => ?_)
        · have hf := q_ite_t c11 hf
          refine lv_iload_n hx hb dX2_carryOut_79 rfl (lv_at hl 1 rfl) ?_
          have ho := q_some hf
          subst ho
          refine W.widen (k := 0) (n := 0) (Nat.le_of_ble_eq_true rfl) (Nat.le_of_ble_eq_true rfl) ?_
          exact W.iret hx hb hr (fun t ht hW => ⟨rfl, ⟨_, ⟨gz, Bz, hg, rfl⟩, by rw [ht]; exact hP, hD⟩, hS.F ht⟩) hS.2.2 dX2_carryOut_80
        · have hf := q_ite_f c11 hf
          refine lv_aload_n hx hb dX2_carryOut_54 rfl (lv_at hl 0 rfl) ?_
          refine va_get (D := D) (ci := 2) (v := .ref (A 2 0)) (C := RX2) (T := TX2) (N := 5) hx hb hu2 (fun _ h => h) hown hE.1 hP 0 rfl rfl 4 (Nat.le_of_ble_eq_true rfl) (hts (.fieldLink RX2 26 "CoverMeter" "orders" "LCoverMeter$Orders;") (List.mem_of_getElem? (i := 1) rfl)) (fun _ h9 => h9) rfl dX2_carryOut_55 ?_
          obtain ⟨r12, hr12, hf⟩ := q_bd_go hf
          obtain ⟨S13, eS13, hf⟩ := q_let_go hf
          refine q_wrC (v := none) (w := wOR cI cJ (A 2) (CM_or Sz)) (ci := 0) (As := []) (rest := []) hx hb hml hown hts (c_X0_read l D cI cJ cS (A 2) (CM_or Sz) _  _ hr12) (cwV 0 hts gX2_carryOut_X0_read rfl rfl rfl (by decide +kernel) ⟨(Nat.le_of_ble_eq_true rfl), (Nat.le_of_ble_eq_true rfl)⟩) hE (qp_or hP) (qd_or hD) hS (fun q h => Or.inr h) (fun H1 hF hk h1 h2 => qs_or (z := r12) hP hD hF hk h1 h2) rfl rfl rfl hl.1 rfl (Nat.le_of_ble_eq_true rfl) dX2_carryOut_58 ⟨(Nat.le_of_ble_eq_true rfl), (Nat.le_of_ble_eq_true rfl)⟩ (fun H locs hP hD hS => ?_)
          rw [eS13] at hP hD
          refine lv_aload_n hx hb dX2_carryOut_61 rfl (lv_at hl 0 rfl) ?_
          obtain ⟨r14, hr14, hf⟩ := q_bd_go hf
          refine q_wrE (ci := 2) (As := []) (rest := []) hx hb hml hown hts (c_X2_obey l hlt D cI cJ cS sa A gz Bz hg S13 _  _ hr14) (cwV 0 hts gX2_carryOut_X2_obey rfl rfl rfl (by decide +kernel) ⟨(Nat.le_of_ble_eq_true rfl), (Nat.le_of_ble_eq_true rfl)⟩) hE hES hZ hP hD hS (fun q h => Or.inr h) rfl rfl rfl hl.1 rfl (Nat.le_of_ble_eq_true rfl) dX2_carryOut_62 ⟨(Nat.le_of_ble_eq_true rfl), (Nat.le_of_ble_eq_true rfl)⟩ (fun g15 B16 H locs hg hP hD hS => ?_)
          refine lv_if_ne (tgt := 70) hx hb dX2_carryOut_65 (by decide) (fun c17 => ?_) (fun c17 => ?_)
          · have hf := q_ite_t c17 hf
            obtain ⟨v18, ev18, hf⟩ := q_let_go hf
            refine lv_iinc (v := v18) (lv' := [(2, .int v18), (0, .ref (A 3 0)), (3, .int l3)]) hx hb dX2_carryOut_70 hl (k := 1) rfl (by rw [← ev18]; rfl) (by decide) rfl (fun ls hl => ?_)
            obtain ⟨v19, ev19, hf⟩ := q_let_go hf
            refine lv_iinc (v := v19) (lv' := [(3, .int v19), (2, .int v18), (0, .ref (A 3 0))]) hx hb dX2_carryOut_73 hl (k := 2) rfl (by rw [← ev19]; rfl) (by decide) rfl (fun ls hl => ?_)
            refine lv_goto (tgt := 33) hx hb dX2_carryOut_76 (by decide) ?_
            exact ih r14.2 g15 B16 hg _ _ hP hD hS v18 v19 _ (lv_sub hl [2, 1, 0] rfl) hf
          · have hf := q_ite_n c17 hf
            refine lv_iload_n hx hb dX2_carryOut_68 rfl (lv_at hl 1 rfl) ?_
            have ho := q_some hf
            subst ho
            refine W.widen (k := 0) (n := 0) (Nat.le_of_ble_eq_true rfl) (Nat.le_of_ble_eq_true rfl) ?_
            exact W.iret hx hb hr (fun t ht hW => ⟨rfl, ⟨_, ⟨g15, B16, hg, rfl⟩, by rw [ht]; exact hP, hD⟩, hS.F ht⟩) hS.2.2 dX2_carryOut_69
  have hl := lv_entry ([.ref (A 3 0)]) (n := 4) (Nat.le_of_ble_eq_true rfl)
  rw [lg_entry_eq]
  generalize (lg_sl ([.ref (A 3 0)]) ++ List.replicate (4 - (lg_sl ([.ref (A 3 0)])).length) Slot.unset).toArray = ls at hl ⊢
  have hl : lv_has ls 4 [(0, .ref (A 3 0))] := hl
  unfold f_X2_carryOut at hf
  refine lv_aload_n hx hb dX2_carryOut_0 rfl (lv_at hl 0 rfl) ?_
  refine va_get (D := D) (ci := 2) (v := .ref (A 2 0)) (C := RX2) (T := TX2) (N := 5) hx hb hu2 (fun _ h => h) hown hE.1 hP 0 rfl rfl 4 (Nat.le_of_ble_eq_true rfl) (hts (.fieldLink RX2 26 "CoverMeter" "orders" "LCoverMeter$Orders;") (List.mem_of_getElem? (i := 1) rfl)) (fun _ h9 => h9) rfl dX2_carryOut_1 ?_
  obtain ⟨r1, hr1, hf⟩ := q_bd_go hf
  obtain ⟨S2, eS2, hf⟩ := q_let_go hf
  refine q_wrC (v := (some (.int r1.1))) (w := wOR cI cJ (A 2) (CM_or S)) (ci := 0) (As := []) (rest := []) hx hb hml hown hts (c_X0_errorPosition l D cI cJ cS (A 2) (CM_or S) _  _ hr1) (cwV 0 hts gX2_carryOut_X0_errorPosition rfl rfl rfl (by decide +kernel) ⟨(Nat.le_of_ble_eq_true rfl), (Nat.le_of_ble_eq_true rfl)⟩) hE (qp_or hP) (qd_or hD) hS (fun q h => Or.inr h) (fun H1 hF hk h1 h2 => qs_or (z := r1.2) hP hD hF hk h1 h2) rfl rfl rfl hl.1 rfl (Nat.le_of_ble_eq_true rfl) dX2_carryOut_4 ⟨(Nat.le_of_ble_eq_true rfl), (Nat.le_of_ble_eq_true rfl)⟩ (fun H locs hP hD hS => ?_)
  rw [eS2] at hP hD
  refine lv_istore_n (lv' := [(1, .int r1.1), (0, .ref (A 3 0))]) hx hb dX2_carryOut_7 rfl hl (by decide) rfl (fun ls hl => ?_)
  refine lv_iload_n hx hb dX2_carryOut_8 rfl (lv_at hl 0 rfl) ?_
  refine lv_iconst (v := (-1)) hx hb dX2_carryOut_9 (by decide) ?_
  refine lv_icmp_eq (tgt := 18) hx hb dX2_carryOut_10 (by decide) (fun c3 => ?_) (fun c3 => ?_)
  · have hf := q_ite_t c3 hf
    refine lv_aload_n hx hb dX2_carryOut_18 rfl (lv_at hl 1 rfl) ?_
    obtain ⟨r4, hr4, hf⟩ := q_bd_go hf
    refine q_wrE (ci := 2) (As := []) (rest := []) hx hb hml hown hts (c_X2_save l hlt D cI cJ cS sa A g B hg S2 _  _ hr4) (cwV 0 hts gX2_carryOut_X2_save rfl rfl rfl (by decide +kernel) ⟨(Nat.le_of_ble_eq_true rfl), (Nat.le_of_ble_eq_true rfl)⟩) hE hES hZ hP hD hS (fun q h => Or.inr h) rfl rfl rfl hl.1 rfl (Nat.le_of_ble_eq_true rfl) dX2_carryOut_19 ⟨(Nat.le_of_ble_eq_true rfl), (Nat.le_of_ble_eq_true rfl)⟩ (fun g5 B6 H locs hg hP hD hS => ?_)
    refine lv_iconst (v := 0) hx hb dX2_carryOut_22 (by decide) ?_
    refine lv_istore_n (lv' := [(2, .int 0), (1, .int r1.1), (0, .ref (A 3 0))]) hx hb dX2_carryOut_23 rfl hl (by decide) rfl (fun ls hl => ?_)
    refine lv_aload_n hx hb dX2_carryOut_24 rfl (lv_at hl 2 rfl) ?_
    refine va_get (D := D) (ci := 2) (v := .ref (A 2 0)) (C := RX2) (T := TX2) (N := 5) hx hb hu2 (fun _ h => h) hown hE.1 hP 0 rfl rfl 4 (Nat.le_of_ble_eq_true rfl) (hts (.fieldLink RX2 26 "CoverMeter" "orders" "LCoverMeter$Orders;") (List.mem_of_getElem? (i := 1) rfl)) (fun _ h9 => h9) rfl dX2_carryOut_25 ?_
    obtain ⟨r7, hr7, hf⟩ := q_bd_go hf
    obtain ⟨S8, eS8, hf⟩ := q_let_go hf
    refine q_wrC (v := none) (w := wOR cI cJ (A 2) (CM_or r4)) (ci := 0) (As := []) (rest := []) hx hb hml hown hts (c_X0_start l D cI cJ cS (A 2) (CM_or r4) _  _ hr7) (cwV 0 hts gX2_carryOut_X0_start rfl rfl rfl (by decide +kernel) ⟨(Nat.le_of_ble_eq_true rfl), (Nat.le_of_ble_eq_true rfl)⟩) hE (qp_or hP) (qd_or hD) hS (fun q h => Or.inr h) (fun H1 hF hk h1 h2 => qs_or (z := r7) hP hD hF hk h1 h2) rfl rfl rfl hl.1 rfl (Nat.le_of_ble_eq_true rfl) dX2_carryOut_28 ⟨(Nat.le_of_ble_eq_true rfl), (Nat.le_of_ble_eq_true rfl)⟩ (fun H locs hP hD hS => ?_)
    rw [eS8] at hP hD
    refine lv_iconst (v := 0) hx hb dX2_carryOut_31 (by decide) ?_
    refine lv_istore_n (lv' := [(3, .int 0), (2, .int 0), (1, .int r1.1), (0, .ref (A 3 0))]) hx hb dX2_carryOut_32 rfl hl (by decide) rfl (fun ls hl => ?_)
    exact L_33 2000 S8 g5 B6 hg _ _ hP hD hS 0 0 _ (lv_sub hl [3, 1, 0] rfl) hf
  · have hf := q_ite_f c3 hf
    refine lv_bipush (v := (-10)) hx hb dX2_carryOut_13 (by decide) ?_
    refine lv_iload_n hx hb dX2_carryOut_15 rfl (lv_at hl 0 rfl) ?_
    refine lv_isub hx hb dX2_carryOut_16 ?_
    have ho := q_some hf
    subst ho
    refine W.widen (k := 0) (n := 0) (Nat.le_of_ble_eq_true rfl) (Nat.le_of_ble_eq_true rfl) ?_
    exact W.iret hx hb hr (fun t ht hW => ⟨rfl, ⟨_, ⟨g, B, hg, rfl⟩, by rw [ht]; exact hP, hD⟩, hS.F ht⟩) hS.2.2 dX2_carryOut_17
def f_X2_digestPerson_6 (S : CM) : Nat → Int32 → Int64 → Int32 → Option Int64
  | 0, _, _, _ => none
  | n+1, l3, l4, l6 => if 7 ≤ l6 then
 ((f_X1_worked (CM_now S) l3).bind fun r2 =>
 some ((31 * l4) + r2))
 else ((f_X1_aboutPerson (CM_now S) l3 l6).bind fun r3 =>
 q_let (((31 * l4) + ((r3 : Int32).toInt64))) fun v4 =>
 q_let (l6 + 1) fun v5 =>
 f_X2_digestPerson_6 S n l3 v4 v5)
def f_X2_digestPerson (S : CM) (p1 : Int64) (p2 : Int32) : Option Int64 := f_X2_digestPerson_6 S 2000 p2 p1 0
abbrev rX2_digestPerson : Room := { frames := 3, cells := 0, slots := 0, locals := 66 }
set_option maxRecDepth 100000 in
set_option maxHeartbeats 4000000 in
theorem c_X2_digestPerson (l : Launch) (D : va_G) (cI cJ cS : ClassId) (A : Nat → Nat → Nat) (S : CM) (p1 : Int64) (p2 : Int32) (o : Int64) (hf : f_X2_digestPerson S p1 p2 = some o) : Met l yX2_digestPerson wsX2_digestPerson rX2_digestPerson (va_Pc [.ref (A 3 0), .long p1, .int p2] (q_B D cI cJ cS (wCR cI cJ A S))) (q_Rl o) 0 0 (fun _ => False) := by
  refine Met.ofW (cc := cX2_digestPerson) (maxL := 7) (ret := some .long) (by decide) rfl ?_
  intro p e s m args below meth c s₁ B9 hml hv
  obtain ⟨rfl, hP, hE⟩ := hv
  have hx := B9.exec
  have hb := B9.bytes
  have hr := B9.returns
  have hts := atoms_spec (ws := wsX2_digestPerson) B9.pre
  have hown : s.vm.findClass RX2 = some m.cls := findClass_of_methodNamed B9.named
  have hlocks := B9.notSynchronized
  have hu1 : ∀ z ∈ wsX10, z.before _ s = true := fun z h => hts z (List.mem_cons_of_mem _ (List.mem_append_right _ h))
  have hu2 : ∀ z ∈ wsX20, z.before _ s = true := fun z h => hts z (List.mem_cons_of_mem _ (List.mem_append_left _ (List.mem_append_right _ h)))
  have L_6 : ∀ (n : Nat) (l3 : Int32) (l4 : Int64) (l6 : Int32) (ls : Array Slot), lv_has ls 7 [(0, .ref (A 3 0)), (3, .int l3), (4, .long l4), (6, .int l6)] → f_X2_digestPerson_6 S n l3 l4 l6 = some o → W p l e (headSpec wsX2_digestPerson rX2_digestPerson).room s m (([.ref (A 3 0), .long p1, .int p2] : List Value).toArray) below meth c s.heap [] 0 0 (MQ below (q_Rl o) (([.ref (A 3 0), .long p1, .int p2] : List Value).toArray) s 0 0 (fun _ => False)) (F0 m 6 ls []) := by
    intro n
    induction n with
    | zero => intro l3 l4 l6 ls hl hf; cases hf
    | succ n ih =>
      intro l3 l4 l6 ls hl hf
      rw [f_X2_digestPerson_6] at hf
      refine lv_iload hx hb dX2_digestPerson_6 (lv_at hl 3 rfl) ?_
      refine lv_bipush (v := 7) hx hb dX2_digestPerson_8 (by decide) ?_
      refine lv_icmp_ge (tgt := 39) hx hb dX2_digestPerson_10 (by decide) (fun c1 => ?_) (fun c1 => ?_)
      · have hf := q_ite_t c1 hf
        refine lv_ldc2 (v := 31) hx hb hown (hts (.constantLong RX2 201 (31)) (List.mem_of_getElem? (i := 1) rfl)) dX2_digestPerson_39 ?_
        refine lv_lload hx hb dX2_digestPerson_42 (lv_at hl 2 rfl) ?_
        refine lv_lmul hx hb dX2_digestPerson_44 ?_
        refine lv_aload_n hx hb dX2_digestPerson_45 rfl (lv_at hl 0 rfl) ?_
        refine va_get (D := D) (ci := 2) (v := .ref (A 0 0)) (C := RX2) (T := TX2) (N := 5) hx hb hu2 (fun _ h => h) hown hE.1 hP 0 rfl rfl 0 (Nat.le_of_ble_eq_true rfl) (hts (.fieldLink RX2 12 "CoverMeter" "now" "LCoverMeter$State;") (List.mem_of_getElem? (i := 2) rfl)) (fun _ h9 => h9) rfl dX2_digestPerson_46 ?_
        refine lv_iload_n hx hb dX2_digestPerson_49 rfl (lv_at hl 1 rfl) ?_
        obtain ⟨r2, hr2, hf⟩ := q_bd_go hf
        refine q_rdVl (w := (wST cI cJ (A 0) (CM_now S))) (ci := 1) (As := [.int l3]) (rest := [.long (31 * l4)]) hx hb hml hown hts (c_X1_worked l D cI cJ cS (A 0) (CM_now S) l3 _ hr2) (cwV 1 hts gX2_digestPerson_X1_worked rfl rfl rfl (by decide +kernel) ⟨(Nat.le_of_ble_eq_true rfl), (Nat.le_of_ble_eq_true rfl)⟩) hE (qr_now hP) rfl rfl rfl hl.1 rfl (Nat.le_of_ble_eq_true rfl) dX2_digestPerson_50 ⟨(Nat.le_of_ble_eq_true rfl), (Nat.le_of_ble_eq_true rfl)⟩ ?_
        refine lv_ladd hx hb dX2_digestPerson_53 ?_
        have ho := q_some hf
        subst ho
        refine W.widen (k := 0) (n := 0) (Nat.le_of_ble_eq_true rfl) (Nat.le_of_ble_eq_true rfl) ?_
        exact W.lret hx hb hr (fun t ht hW => ⟨rfl, ht⟩) t_nil dX2_digestPerson_54
      · have hf := q_ite_f c1 hf
        refine lv_ldc2 (v := 31) hx hb hown (hts (.constantLong RX2 201 (31)) (List.mem_of_getElem? (i := 1) rfl)) dX2_digestPerson_13 ?_
        refine lv_lload hx hb dX2_digestPerson_16 (lv_at hl 2 rfl) ?_
        refine lv_lmul hx hb dX2_digestPerson_18 ?_
        refine lv_aload_n hx hb dX2_digestPerson_19 rfl (lv_at hl 0 rfl) ?_
        refine va_get (D := D) (ci := 2) (v := .ref (A 0 0)) (C := RX2) (T := TX2) (N := 5) hx hb hu2 (fun _ h => h) hown hE.1 hP 0 rfl rfl 0 (Nat.le_of_ble_eq_true rfl) (hts (.fieldLink RX2 12 "CoverMeter" "now" "LCoverMeter$State;") (List.mem_of_getElem? (i := 2) rfl)) (fun _ h9 => h9) rfl dX2_digestPerson_20 ?_
        refine lv_iload_n hx hb dX2_digestPerson_23 rfl (lv_at hl 1 rfl) ?_
        refine lv_iload hx hb dX2_digestPerson_24 (lv_at hl 3 rfl) ?_
        obtain ⟨r3, hr3, hf⟩ := q_bd_go hf
        refine q_rdVi (w := (wST cI cJ (A 0) (CM_now S))) (ci := 1) (As := [.int l3, .int l6]) (rest := [.long (31 * l4)]) hx hb hml hown hts (c_X1_aboutPerson l D cI cJ cS (A 0) (CM_now S) l3 l6 _ hr3) (cwV 2 hts gX2_digestPerson_X1_aboutPerson rfl rfl rfl (by decide +kernel) ⟨(Nat.le_of_ble_eq_true rfl), (Nat.le_of_ble_eq_true rfl)⟩) hE (qr_now hP) rfl rfl rfl hl.1 rfl (Nat.le_of_ble_eq_true rfl) dX2_digestPerson_26 ⟨(Nat.le_of_ble_eq_true rfl), (Nat.le_of_ble_eq_true rfl)⟩ ?_
        refine lv_i2l (v := ((r3 : Int32).toInt64)) hx hb dX2_digestPerson_29 rfl ?_
        refine lv_ladd hx hb dX2_digestPerson_30 ?_
        obtain ⟨v4, ev4, hf⟩ := q_let_go hf
        refine q_nml ev4 ?_
        refine lv_lstore (lv' := [(4, .long v4), (0, .ref (A 3 0)), (3, .int l3), (6, .int l6)]) hx hb dX2_digestPerson_31 hl (by decide) rfl (fun ls hl => ?_)
        obtain ⟨v5, ev5, hf⟩ := q_let_go hf
        refine lv_iinc (v := v5) (lv' := [(6, .int v5), (4, .long v4), (0, .ref (A 3 0)), (3, .int l3)]) hx hb dX2_digestPerson_33 hl (k := 3) rfl (by rw [← ev5]; rfl) (by decide) rfl (fun ls hl => ?_)
        refine lv_goto (tgt := 6) hx hb dX2_digestPerson_36 (by decide) ?_
        exact ih l3 v4 v5 _ (lv_sub hl [2, 3, 1, 0] rfl) hf
  have hl := lv_entry ([.ref (A 3 0), .long p1, .int p2]) (n := 7) (Nat.le_of_ble_eq_true rfl)
  rw [lg_entry_eq]
  generalize (lg_sl ([.ref (A 3 0), .long p1, .int p2]) ++ List.replicate (7 - (lg_sl ([.ref (A 3 0), .long p1, .int p2])).length) Slot.unset).toArray = ls at hl ⊢
  have hl : lv_has ls 7 [(0, .ref (A 3 0)), (1, .long p1), (3, .int p2)] := hl
  unfold f_X2_digestPerson at hf
  refine lv_lload_n hx hb dX2_digestPerson_0 rfl (lv_at hl 1 rfl) ?_
  refine lv_lstore (lv' := [(4, .long p1), (0, .ref (A 3 0)), (1, .long p1), (3, .int p2)]) hx hb dX2_digestPerson_1 hl (by decide) rfl (fun ls hl => ?_)
  refine lv_iconst (v := 0) hx hb dX2_digestPerson_3 (by decide) ?_
  refine lv_istore (lv' := [(6, .int 0), (4, .long p1), (0, .ref (A 3 0)), (1, .long p1), (3, .int p2)]) hx hb dX2_digestPerson_4 hl (by decide) rfl (fun ls hl => ?_)
  exact L_6 2000 p2 p1 0 _ (lv_sub hl [2, 4, 1, 0] rfl) hf
def f_X2_digestAbsence_42 (S : CM) : Nat → Int32 → Int64 → Int32 → Option Int64
  | 0, _, _, _ => none
  | n+1, l3, l4, l6 => if (ST_persons (CM_now S)) ≤ l6 then
 (some l4)
 else ((f_X2_bidIndex l6 l3).bind fun r3 =>
 if q_in r3 240 = true then
 (q_let (((31 * l4) + (((ST_bids (CM_now S) (r3 : Int32).toNatClampNeg) : Int32).toInt64))) fun v5 =>
 q_let (l6 + 1) fun v6 =>
 f_X2_digestAbsence_42 S n l3 v5 v6) else none)
def f_X2_digestAbsence_6 (S : CM) : Nat → Int32 → Int64 → Int32 → Option Int64
  | 0, _, _, _ => none
  | n+1, l3, l4, l6 => if 7 ≤ l6 then
 (f_X2_digestAbsence_42 S 2000 l3 l4 0)
 else ((f_X1_aboutAbsence (CM_now S) l3 l6).bind fun r7 =>
 q_let (((31 * l4) + ((r7 : Int32).toInt64))) fun v8 =>
 q_let (l6 + 1) fun v9 =>
 f_X2_digestAbsence_6 S n l3 v8 v9)
def f_X2_digestAbsence (S : CM) (p1 : Int64) (p2 : Int32) : Option Int64 := f_X2_digestAbsence_6 S 2000 p2 p1 0
abbrev rX2_digestAbsence : Room := { frames := 4, cells := 0, slots := 0, locals := 96 }
set_option maxRecDepth 100000 in
set_option maxHeartbeats 4000000 in
theorem c_X2_digestAbsence (l : Launch) (D : va_G) (cI cJ cS : ClassId) (A : Nat → Nat → Nat) (S : CM) (p1 : Int64) (p2 : Int32) (o : Int64) (hf : f_X2_digestAbsence S p1 p2 = some o) : Met l yX2_digestAbsence wsX2_digestAbsence rX2_digestAbsence (va_Pc [.ref (A 3 0), .long p1, .int p2] (q_B D cI cJ cS (wCR cI cJ A S))) (q_Rl o) 0 0 (fun _ => False) := by
  refine Met.ofW (cc := cX2_digestAbsence) (maxL := 7) (ret := some .long) (by decide) rfl ?_
  intro p e s m args below meth c s₁ B9 hml hv
  obtain ⟨rfl, hP, hE⟩ := hv
  have hx := B9.exec
  have hb := B9.bytes
  have hr := B9.returns
  have hts := atoms_spec (ws := wsX2_digestAbsence) B9.pre
  have hown : s.vm.findClass RX2 = some m.cls := findClass_of_methodNamed B9.named
  have hlocks := B9.notSynchronized
  have hu1 : ∀ z ∈ wsX10, z.before _ s = true := fun z h => hts z (List.mem_cons_of_mem _ (List.mem_append_right _ h))
  have hu2 : ∀ z ∈ wsX20, z.before _ s = true := fun z h => hts z (List.mem_cons_of_mem _ (List.mem_append_left _ (List.mem_append_right _ h)))
  have L_42 : ∀ (n : Nat) (l3 : Int32) (l4 : Int64) (l6 : Int32) (ls : Array Slot), lv_has ls 7 [(0, .ref (A 3 0)), (3, .int l3), (4, .long l4), (6, .int l6)] → f_X2_digestAbsence_42 S n l3 l4 l6 = some o → W p l e (headSpec wsX2_digestAbsence rX2_digestAbsence).room s m (([.ref (A 3 0), .long p1, .int p2] : List Value).toArray) below meth c s.heap [] 0 0 (MQ below (q_Rl o) (([.ref (A 3 0), .long p1, .int p2] : List Value).toArray) s 0 0 (fun _ => False)) (F0 m 42 ls []) := by
    intro n
    induction n with
    | zero => intro l3 l4 l6 ls hl hf; cases hf
    | succ n ih =>
      intro l3 l4 l6 ls hl hf
      rw [f_X2_digestAbsence_42] at hf
      refine lv_iload hx hb dX2_digestAbsence_42 (lv_at hl 3 rfl) ?_
      refine lv_aload_n hx hb dX2_digestAbsence_44 rfl (lv_at hl 0 rfl) ?_
      refine va_get (D := D) (ci := 2) (v := .ref (A 0 0)) (C := RX2) (T := TX2) (N := 5) hx hb hu2 (fun _ h => h) hown hE.1 hP 0 rfl rfl 0 (Nat.le_of_ble_eq_true rfl) (hts (.fieldLink RX2 12 "CoverMeter" "now" "LCoverMeter$State;") (List.mem_of_getElem? (i := 2) rfl)) (fun _ h9 => h9) rfl dX2_digestAbsence_45 ?_
      refine va_get (D := D) (ci := 1) (v := .int (ST_persons (CM_now S))) (C := RX1) (T := TX1) (N := 15) hx hb hu1 (fun _ h => h) hown hE.1 hP 1 rfl rfl 2 (Nat.le_of_ble_eq_true rfl) (hts (.fieldLink RX2 56 "CoverMeter$State" "persons" "I") (List.mem_of_getElem? (i := 3) rfl)) (fun _ h9 => h9) rfl dX2_digestAbsence_48 ?_
      refine lv_icmp_ge (tgt := 84) hx hb dX2_digestAbsence_51 (by decide) (fun c2 => ?_) (fun c2 => ?_)
      · have hf := q_ite_t c2 hf
        refine lv_lload hx hb dX2_digestAbsence_84 (lv_at hl 2 rfl) ?_
        have ho := q_some hf
        subst ho
        refine W.widen (k := 0) (n := 0) (Nat.le_of_ble_eq_true rfl) (Nat.le_of_ble_eq_true rfl) ?_
        exact W.lret hx hb hr (fun t ht hW => ⟨rfl, ht⟩) t_nil dX2_digestAbsence_86
      · have hf := q_ite_f c2 hf
        refine lv_ldc2 (v := 31) hx hb hown (hts (.constantLong RX2 201 (31)) (List.mem_of_getElem? (i := 1) rfl)) dX2_digestAbsence_54 ?_
        refine lv_lload hx hb dX2_digestAbsence_57 (lv_at hl 2 rfl) ?_
        refine lv_lmul hx hb dX2_digestAbsence_59 ?_
        refine lv_aload_n hx hb dX2_digestAbsence_60 rfl (lv_at hl 0 rfl) ?_
        refine va_get (D := D) (ci := 2) (v := .ref (A 0 0)) (C := RX2) (T := TX2) (N := 5) hx hb hu2 (fun _ h => h) hown hE.1 hP 0 rfl rfl 0 (Nat.le_of_ble_eq_true rfl) (hts (.fieldLink RX2 12 "CoverMeter" "now" "LCoverMeter$State;") (List.mem_of_getElem? (i := 2) rfl)) (fun _ h9 => h9) rfl dX2_digestAbsence_61 ?_
        refine va_get (D := D) (ci := 1) (v := .ref (A 0 12)) (C := RX1) (T := TX1) (N := 15) hx hb hu1 (fun _ h => h) hown hE.1 hP 1 rfl rfl 14 (Nat.le_of_ble_eq_true rfl) (hts (.fieldLink RX2 99 "CoverMeter$State" "bids" "[I") (List.mem_of_getElem? (i := 4) rfl)) (fun _ h9 => h9) rfl dX2_digestAbsence_64 ?_
        refine lv_iload hx hb dX2_digestAbsence_67 (lv_at hl 3 rfl) ?_
        refine lv_iload_n hx hb dX2_digestAbsence_69 rfl (lv_at hl 1 rfl) ?_
        obtain ⟨r3, hr3, hf⟩ := q_bd_go hf
        refine q_rdSi (As := [.int l6, .int l3]) (rest := [.ref (A 0 12), .long (31 * l4)]) hx hb hml hown hts (c_X2_bidIndex l D cI cJ cS l6 l3 _ hr3) (va_cwS 2 hts gX2_digestAbsence_X2_bidIndex rfl rfl rfl (by decide +kernel) ⟨(Nat.le_of_ble_eq_true rfl), (Nat.le_of_ble_eq_true rfl)⟩) hE rfl hl.1 rfl (Nat.le_of_ble_eq_true rfl) dX2_digestAbsence_70 ⟨(Nat.le_of_ble_eq_true rfl), (Nat.le_of_ble_eq_true rfl)⟩ ?_
        have hi4 := q_gd_in hf
        have hf := q_gd_go hf
        refine va_iald hx hb hE.1 hP 13 0 rfl rfl hi4 dX2_digestAbsence_73 ?_
        refine lv_i2l (v := (((ST_bids (CM_now S) (r3 : Int32).toNatClampNeg) : Int32).toInt64)) hx hb dX2_digestAbsence_74 rfl ?_
        refine lv_ladd hx hb dX2_digestAbsence_75 ?_
        obtain ⟨v5, ev5, hf⟩ := q_let_go hf
        refine q_nml ev5 ?_
        refine lv_lstore (lv' := [(4, .long v5), (0, .ref (A 3 0)), (3, .int l3), (6, .int l6)]) hx hb dX2_digestAbsence_76 hl (by decide) rfl (fun ls hl => ?_)
        obtain ⟨v6, ev6, hf⟩ := q_let_go hf
        refine lv_iinc (v := v6) (lv' := [(6, .int v6), (4, .long v5), (0, .ref (A 3 0)), (3, .int l3)]) hx hb dX2_digestAbsence_78 hl (k := 3) rfl (by rw [← ev6]; rfl) (by decide) rfl (fun ls hl => ?_)
        refine lv_goto (tgt := 42) hx hb dX2_digestAbsence_81 (by decide) ?_
        exact ih l3 v5 v6 _ (lv_sub hl [2, 3, 1, 0] rfl) hf
  have L_6 : ∀ (n : Nat) (l3 : Int32) (l4 : Int64) (l6 : Int32) (ls : Array Slot), lv_has ls 7 [(0, .ref (A 3 0)), (3, .int l3), (4, .long l4), (6, .int l6)] → f_X2_digestAbsence_6 S n l3 l4 l6 = some o → W p l e (headSpec wsX2_digestAbsence rX2_digestAbsence).room s m (([.ref (A 3 0), .long p1, .int p2] : List Value).toArray) below meth c s.heap [] 0 0 (MQ below (q_Rl o) (([.ref (A 3 0), .long p1, .int p2] : List Value).toArray) s 0 0 (fun _ => False)) (F0 m 6 ls []) := by
    intro n
    induction n with
    | zero => intro l3 l4 l6 ls hl hf; cases hf
    | succ n ih =>
      intro l3 l4 l6 ls hl hf
      rw [f_X2_digestAbsence_6] at hf
      refine lv_iload hx hb dX2_digestAbsence_6 (lv_at hl 3 rfl) ?_
      refine lv_bipush (v := 7) hx hb dX2_digestAbsence_8 (by decide) ?_
      refine lv_icmp_ge (tgt := 39) hx hb dX2_digestAbsence_10 (by decide) (fun c1 => ?_) (fun c1 => ?_)
      · have hf := q_ite_t c1 hf
        refine lv_iconst (v := 0) hx hb dX2_digestAbsence_39 (by decide) ?_
        refine lv_istore (lv' := [(6, .int 0), (0, .ref (A 3 0)), (3, .int l3), (4, .long l4)]) hx hb dX2_digestAbsence_40 hl (by decide) rfl (fun ls hl => ?_)
        exact L_42 2000 l3 l4 0 _ (lv_sub hl [1, 2, 3, 0] rfl) hf
      · have hf := q_ite_f c1 hf
        refine lv_ldc2 (v := 31) hx hb hown (hts (.constantLong RX2 201 (31)) (List.mem_of_getElem? (i := 1) rfl)) dX2_digestAbsence_13 ?_
        refine lv_lload hx hb dX2_digestAbsence_16 (lv_at hl 2 rfl) ?_
        refine lv_lmul hx hb dX2_digestAbsence_18 ?_
        refine lv_aload_n hx hb dX2_digestAbsence_19 rfl (lv_at hl 0 rfl) ?_
        refine va_get (D := D) (ci := 2) (v := .ref (A 0 0)) (C := RX2) (T := TX2) (N := 5) hx hb hu2 (fun _ h => h) hown hE.1 hP 0 rfl rfl 0 (Nat.le_of_ble_eq_true rfl) (hts (.fieldLink RX2 12 "CoverMeter" "now" "LCoverMeter$State;") (List.mem_of_getElem? (i := 2) rfl)) (fun _ h9 => h9) rfl dX2_digestAbsence_20 ?_
        refine lv_iload_n hx hb dX2_digestAbsence_23 rfl (lv_at hl 1 rfl) ?_
        refine lv_iload hx hb dX2_digestAbsence_24 (lv_at hl 3 rfl) ?_
        obtain ⟨r7, hr7, hf⟩ := q_bd_go hf
        refine q_rdVi (w := (wST cI cJ (A 0) (CM_now S))) (ci := 1) (As := [.int l3, .int l6]) (rest := [.long (31 * l4)]) hx hb hml hown hts (c_X1_aboutAbsence l D cI cJ cS (A 0) (CM_now S) l3 l6 _ hr7) (cwV 2 hts gX2_digestAbsence_X1_aboutAbsence rfl rfl rfl (by decide +kernel) ⟨(Nat.le_of_ble_eq_true rfl), (Nat.le_of_ble_eq_true rfl)⟩) hE (qr_now hP) rfl rfl rfl hl.1 rfl (Nat.le_of_ble_eq_true rfl) dX2_digestAbsence_26 ⟨(Nat.le_of_ble_eq_true rfl), (Nat.le_of_ble_eq_true rfl)⟩ ?_
        refine lv_i2l (v := ((r7 : Int32).toInt64)) hx hb dX2_digestAbsence_29 rfl ?_
        refine lv_ladd hx hb dX2_digestAbsence_30 ?_
        obtain ⟨v8, ev8, hf⟩ := q_let_go hf
        refine q_nml ev8 ?_
        refine lv_lstore (lv' := [(4, .long v8), (0, .ref (A 3 0)), (3, .int l3), (6, .int l6)]) hx hb dX2_digestAbsence_31 hl (by decide) rfl (fun ls hl => ?_)
        obtain ⟨v9, ev9, hf⟩ := q_let_go hf
        refine lv_iinc (v := v9) (lv' := [(6, .int v9), (4, .long v8), (0, .ref (A 3 0)), (3, .int l3)]) hx hb dX2_digestAbsence_33 hl (k := 3) rfl (by rw [← ev9]; rfl) (by decide) rfl (fun ls hl => ?_)
        refine lv_goto (tgt := 6) hx hb dX2_digestAbsence_36 (by decide) ?_
        exact ih l3 v8 v9 _ (lv_sub hl [2, 3, 1, 0] rfl) hf
  have hl := lv_entry ([.ref (A 3 0), .long p1, .int p2]) (n := 7) (Nat.le_of_ble_eq_true rfl)
  rw [lg_entry_eq]
  generalize (lg_sl ([.ref (A 3 0), .long p1, .int p2]) ++ List.replicate (7 - (lg_sl ([.ref (A 3 0), .long p1, .int p2])).length) Slot.unset).toArray = ls at hl ⊢
  have hl : lv_has ls 7 [(0, .ref (A 3 0)), (1, .long p1), (3, .int p2)] := hl
  unfold f_X2_digestAbsence at hf
  refine lv_lload_n hx hb dX2_digestAbsence_0 rfl (lv_at hl 1 rfl) ?_
  refine lv_lstore (lv' := [(4, .long p1), (0, .ref (A 3 0)), (1, .long p1), (3, .int p2)]) hx hb dX2_digestAbsence_1 hl (by decide) rfl (fun ls hl => ?_)
  refine lv_iconst (v := 0) hx hb dX2_digestAbsence_3 (by decide) ?_
  refine lv_istore (lv' := [(6, .int 0), (4, .long p1), (0, .ref (A 3 0)), (1, .long p1), (3, .int p2)]) hx hb dX2_digestAbsence_4 hl (by decide) rfl (fun ls hl => ?_)
  exact L_6 2000 p2 p1 0 _ (lv_sub hl [2, 4, 1, 0] rfl) hf
def f_X2_digest_101 (S : CM) : Nat → Int64 → Int32 → Option Int64
  | 0, _, _ => none
  | n+1, l1, l3 => if (ST_absences (CM_now S)) ≤ l3 then
 (some ((31 * l1) + (((CM_ss S) : Int32).toInt64)))
 else ((f_X2_digestAbsence S l1 l3).bind fun r6 =>
 q_let (l3 + 1) fun v7 =>
 f_X2_digest_101 S n r6 v7)
def f_X2_digest_75 (S : CM) : Nat → Int64 → Int32 → Option Int64
  | 0, _, _ => none
  | n+1, l1, l3 => if (ST_persons (CM_now S)) ≤ l3 then
 (f_X2_digest_101 S 2000 l1 0)
 else ((f_X2_digestPerson S l1 l3).bind fun r8 =>
 q_let (l3 + 1) fun v9 =>
 f_X2_digest_75 S n r8 v9)
def f_X2_digest_45 (S : CM) : Nat → Int64 → Int32 → Option Int64
  | 0, _, _ => none
  | n+1, l1, l3 => if 3 ≤ l3 then
 (f_X2_digest_75 S 2000 l1 0)
 else (if q_in l3 3 = true then
 (q_let (((31 * l1) + (((ST_settings (CM_now S) (l3 : Int32).toNatClampNeg) : Int32).toInt64))) fun v11 =>
 q_let (l3 + 1) fun v12 =>
 f_X2_digest_45 S n v11 v12) else none)
def f_X2_digest_15 (S : CM) : Nat → Int64 → Int32 → Option Int64
  | 0, _, _ => none
  | n+1, l1, l3 => if 11 ≤ l3 then
 (f_X2_digest_45 S 2000 l1 0)
 else ((f_X1_aboutAll (CM_now S) l3).bind fun r13 =>
 q_let (((31 * l1) + ((r13 : Int32).toInt64))) fun v14 =>
 q_let (l3 + 1) fun v15 =>
 f_X2_digest_15 S n v14 v15)
def f_X2_digest (S : CM) : Option Int64 := q_let ((115537 + (((OR_length (CM_or S)) : Int32).toInt64))) fun v1 =>
 f_X2_digest_15 S 2000 v1 0
abbrev rX2_digest : Room := { frames := 5, cells := 0, slots := 0, locals := 122 }
set_option maxRecDepth 100000 in
set_option maxHeartbeats 4000000 in
theorem c_X2_digest (l : Launch) (D : va_G) (cI cJ cS : ClassId) (A : Nat → Nat → Nat) (S : CM) (o : Int64) (hf : f_X2_digest S = some o) : Met l yX2_digest wsX2_digest rX2_digest (va_Pc [.ref (A 3 0)] (q_B D cI cJ cS (wCR cI cJ A S))) (q_Rl o) 0 0 (fun _ => False) := by
  refine Met.ofW (cc := cX2_digest) (maxL := 4) (ret := some .long) (by decide) rfl ?_
  intro p e s m args below meth c s₁ B9 hml hv
  obtain ⟨rfl, hP, hE⟩ := hv
  have hx := B9.exec
  have hb := B9.bytes
  have hr := B9.returns
  have hts := atoms_spec (ws := wsX2_digest) B9.pre
  have hown : s.vm.findClass RX2 = some m.cls := findClass_of_methodNamed B9.named
  have hlocks := B9.notSynchronized
  have hu0 : ∀ z ∈ wsX00, z.before _ s = true := fun z h => hts z (List.mem_cons_of_mem _ (List.mem_append_left _ (List.mem_append_right _ h)))
  have hu1 : ∀ z ∈ wsX10, z.before _ s = true := fun z h => hts z (List.mem_cons_of_mem _ (List.mem_append_right _ h))
  have hu2 : ∀ z ∈ wsX20, z.before _ s = true := fun z h => hts z (List.mem_cons_of_mem _ (List.mem_append_left _ (List.mem_append_left _ (List.mem_append_right _ h))))
  have L_101 : ∀ (n : Nat) (l1 : Int64) (l3 : Int32) (ls : Array Slot), lv_has ls 4 [(0, .ref (A 3 0)), (1, .long l1), (3, .int l3)] → f_X2_digest_101 S n l1 l3 = some o → W p l e (headSpec wsX2_digest rX2_digest).room s m (([.ref (A 3 0)] : List Value).toArray) below meth c s.heap [] 0 0 (MQ below (q_Rl o) (([.ref (A 3 0)] : List Value).toArray) s 0 0 (fun _ => False)) (F0 m 101 ls []) := by
    intro n
    induction n with
    | zero => intro l1 l3 ls hl hf; cases hf
    | succ n ih =>
      intro l1 l3 ls hl hf
      rw [f_X2_digest_101] at hf
      refine lv_iload_n hx hb dX2_digest_101 rfl (lv_at hl 2 rfl) ?_
      refine lv_aload_n hx hb dX2_digest_102 rfl (lv_at hl 0 rfl) ?_
      refine va_get (D := D) (ci := 2) (v := .ref (A 0 0)) (C := RX2) (T := TX2) (N := 5) hx hb hu2 (fun _ h => h) hown hE.1 hP 0 rfl rfl 0 (Nat.le_of_ble_eq_true rfl) (hts (.fieldLink RX2 12 "CoverMeter" "now" "LCoverMeter$State;") (List.mem_of_getElem? (i := 5) rfl)) (fun _ h9 => h9) rfl dX2_digest_103 ?_
      refine va_get (D := D) (ci := 1) (v := .int (ST_absences (CM_now S))) (C := RX1) (T := TX1) (N := 15) hx hb hu1 (fun _ h => h) hown hE.1 hP 1 rfl rfl 8 (Nat.le_of_ble_eq_true rfl) (hts (.fieldLink RX2 207 "CoverMeter$State" "absences" "I") (List.mem_of_getElem? (i := 8) rfl)) (fun _ h9 => h9) rfl dX2_digest_106 ?_
      refine lv_icmp_ge (tgt := 125) hx hb dX2_digest_109 (by decide) (fun c5 => ?_) (fun c5 => ?_)
      · have hf := q_ite_t c5 hf
        refine lv_ldc2 (v := 31) hx hb hown (hts (.constantLong RX2 201 (31)) (List.mem_of_getElem? (i := 4) rfl)) dX2_digest_125 ?_
        refine lv_lload_n hx hb dX2_digest_128 rfl (lv_at hl 1 rfl) ?_
        refine lv_lmul hx hb dX2_digest_129 ?_
        refine lv_aload_n hx hb dX2_digest_130 rfl (lv_at hl 0 rfl) ?_
        refine va_get (D := D) (ci := 2) (v := .int (CM_ss S)) (C := RX2) (T := TX2) (N := 5) hx hb hu2 (fun _ h => h) hown hE.1 hP 0 rfl rfl 3 (Nat.le_of_ble_eq_true rfl) (hts (.fieldLink RX2 196 "CoverMeter" "savedStates" "I") (List.mem_of_getElem? (i := 9) rfl)) (fun _ h9 => h9) rfl dX2_digest_131 ?_
        refine lv_i2l (v := (((CM_ss S) : Int32).toInt64)) hx hb dX2_digest_134 rfl ?_
        refine lv_ladd hx hb dX2_digest_135 ?_
        have ho := q_some hf
        subst ho
        refine W.widen (k := 0) (n := 0) (Nat.le_of_ble_eq_true rfl) (Nat.le_of_ble_eq_true rfl) ?_
        exact W.lret hx hb hr (fun t ht hW => ⟨rfl, ht⟩) t_nil dX2_digest_136
      · have hf := q_ite_f c5 hf
        refine lv_aload_n hx hb dX2_digest_112 rfl (lv_at hl 0 rfl) ?_
        refine lv_lload_n hx hb dX2_digest_113 rfl (lv_at hl 1 rfl) ?_
        refine lv_iload_n hx hb dX2_digest_114 rfl (lv_at hl 2 rfl) ?_
        obtain ⟨r6, hr6, hf⟩ := q_bd_go hf
        refine q_rdVl (w := wCR cI cJ A S) (ci := 2) (As := [.long l1, .int l3]) (rest := []) hx hb hml hown hts (c_X2_digestAbsence l D cI cJ cS A S l1 l3 _ hr6) (cwV 2 hts gX2_digest_X2_digestAbsence rfl rfl rfl (by decide +kernel) ⟨(Nat.le_of_ble_eq_true rfl), (Nat.le_of_ble_eq_true rfl)⟩) hE hP rfl rfl rfl hl.1 rfl (Nat.le_of_ble_eq_true rfl) dX2_digest_115 ⟨(Nat.le_of_ble_eq_true rfl), (Nat.le_of_ble_eq_true rfl)⟩ ?_
        refine lv_lstore_n (lv' := [(1, .long r6), (0, .ref (A 3 0)), (3, .int l3)]) hx hb dX2_digest_118 rfl hl (by decide) rfl (fun ls hl => ?_)
        obtain ⟨v7, ev7, hf⟩ := q_let_go hf
        refine lv_iinc (v := v7) (lv' := [(3, .int v7), (1, .long r6), (0, .ref (A 3 0))]) hx hb dX2_digest_119 hl (k := 2) rfl (by rw [← ev7]; rfl) (by decide) rfl (fun ls hl => ?_)
        refine lv_goto (tgt := 101) hx hb dX2_digest_122 (by decide) ?_
        exact ih r6 v7 _ (lv_sub hl [2, 1, 0] rfl) hf
  have L_75 : ∀ (n : Nat) (l1 : Int64) (l3 : Int32) (ls : Array Slot), lv_has ls 4 [(0, .ref (A 3 0)), (1, .long l1), (3, .int l3)] → f_X2_digest_75 S n l1 l3 = some o → W p l e (headSpec wsX2_digest rX2_digest).room s m (([.ref (A 3 0)] : List Value).toArray) below meth c s.heap [] 0 0 (MQ below (q_Rl o) (([.ref (A 3 0)] : List Value).toArray) s 0 0 (fun _ => False)) (F0 m 75 ls []) := by
    intro n
    induction n with
    | zero => intro l1 l3 ls hl hf; cases hf
    | succ n ih =>
      intro l1 l3 ls hl hf
      rw [f_X2_digest_75] at hf
      refine lv_iload_n hx hb dX2_digest_75 rfl (lv_at hl 2 rfl) ?_
      refine lv_aload_n hx hb dX2_digest_76 rfl (lv_at hl 0 rfl) ?_
      refine va_get (D := D) (ci := 2) (v := .ref (A 0 0)) (C := RX2) (T := TX2) (N := 5) hx hb hu2 (fun _ h => h) hown hE.1 hP 0 rfl rfl 0 (Nat.le_of_ble_eq_true rfl) (hts (.fieldLink RX2 12 "CoverMeter" "now" "LCoverMeter$State;") (List.mem_of_getElem? (i := 5) rfl)) (fun _ h9 => h9) rfl dX2_digest_77 ?_
      refine va_get (D := D) (ci := 1) (v := .int (ST_persons (CM_now S))) (C := RX1) (T := TX1) (N := 15) hx hb hu1 (fun _ h => h) hown hE.1 hP 1 rfl rfl 2 (Nat.le_of_ble_eq_true rfl) (hts (.fieldLink RX2 56 "CoverMeter$State" "persons" "I") (List.mem_of_getElem? (i := 7) rfl)) (fun _ h9 => h9) rfl dX2_digest_80 ?_
      refine lv_icmp_ge (tgt := 99) hx hb dX2_digest_83 (by decide) (fun c4 => ?_) (fun c4 => ?_)
      · have hf := q_ite_t c4 hf
        refine lv_iconst (v := 0) hx hb dX2_digest_99 (by decide) ?_
        refine lv_istore_n (lv' := [(3, .int 0), (0, .ref (A 3 0)), (1, .long l1)]) hx hb dX2_digest_100 rfl hl (by decide) rfl (fun ls hl => ?_)
        exact L_101 2000 l1 0 _ (lv_sub hl [1, 2, 0] rfl) hf
      · have hf := q_ite_f c4 hf
        refine lv_aload_n hx hb dX2_digest_86 rfl (lv_at hl 0 rfl) ?_
        refine lv_lload_n hx hb dX2_digest_87 rfl (lv_at hl 1 rfl) ?_
        refine lv_iload_n hx hb dX2_digest_88 rfl (lv_at hl 2 rfl) ?_
        obtain ⟨r8, hr8, hf⟩ := q_bd_go hf
        refine q_rdVl (w := wCR cI cJ A S) (ci := 2) (As := [.long l1, .int l3]) (rest := []) hx hb hml hown hts (c_X2_digestPerson l D cI cJ cS A S l1 l3 _ hr8) (cwV 2 hts gX2_digest_X2_digestPerson rfl rfl rfl (by decide +kernel) ⟨(Nat.le_of_ble_eq_true rfl), (Nat.le_of_ble_eq_true rfl)⟩) hE hP rfl rfl rfl hl.1 rfl (Nat.le_of_ble_eq_true rfl) dX2_digest_89 ⟨(Nat.le_of_ble_eq_true rfl), (Nat.le_of_ble_eq_true rfl)⟩ ?_
        refine lv_lstore_n (lv' := [(1, .long r8), (0, .ref (A 3 0)), (3, .int l3)]) hx hb dX2_digest_92 rfl hl (by decide) rfl (fun ls hl => ?_)
        obtain ⟨v9, ev9, hf⟩ := q_let_go hf
        refine lv_iinc (v := v9) (lv' := [(3, .int v9), (1, .long r8), (0, .ref (A 3 0))]) hx hb dX2_digest_93 hl (k := 2) rfl (by rw [← ev9]; rfl) (by decide) rfl (fun ls hl => ?_)
        refine lv_goto (tgt := 75) hx hb dX2_digest_96 (by decide) ?_
        exact ih r8 v9 _ (lv_sub hl [2, 1, 0] rfl) hf
  have L_45 : ∀ (n : Nat) (l1 : Int64) (l3 : Int32) (ls : Array Slot), lv_has ls 4 [(0, .ref (A 3 0)), (1, .long l1), (3, .int l3)] → f_X2_digest_45 S n l1 l3 = some o → W p l e (headSpec wsX2_digest rX2_digest).room s m (([.ref (A 3 0)] : List Value).toArray) below meth c s.heap [] 0 0 (MQ below (q_Rl o) (([.ref (A 3 0)] : List Value).toArray) s 0 0 (fun _ => False)) (F0 m 45 ls []) := by
    intro n
    induction n with
    | zero => intro l1 l3 ls hl hf; cases hf
    | succ n ih =>
      intro l1 l3 ls hl hf
      rw [f_X2_digest_45] at hf
      refine lv_iload_n hx hb dX2_digest_45 rfl (lv_at hl 2 rfl) ?_
      refine lv_iconst (v := 3) hx hb dX2_digest_46 (by decide) ?_
      refine lv_icmp_ge (tgt := 73) hx hb dX2_digest_47 (by decide) (fun c3 => ?_) (fun c3 => ?_)
      · have hf := q_ite_t c3 hf
        refine lv_iconst (v := 0) hx hb dX2_digest_73 (by decide) ?_
        refine lv_istore_n (lv' := [(3, .int 0), (0, .ref (A 3 0)), (1, .long l1)]) hx hb dX2_digest_74 rfl hl (by decide) rfl (fun ls hl => ?_)
        exact L_75 2000 l1 0 _ (lv_sub hl [1, 2, 0] rfl) hf
      · have hf := q_ite_f c3 hf
        refine lv_ldc2 (v := 31) hx hb hown (hts (.constantLong RX2 201 (31)) (List.mem_of_getElem? (i := 4) rfl)) dX2_digest_50 ?_
        refine lv_lload_n hx hb dX2_digest_53 rfl (lv_at hl 1 rfl) ?_
        refine lv_lmul hx hb dX2_digest_54 ?_
        refine lv_aload_n hx hb dX2_digest_55 rfl (lv_at hl 0 rfl) ?_
        refine va_get (D := D) (ci := 2) (v := .ref (A 0 0)) (C := RX2) (T := TX2) (N := 5) hx hb hu2 (fun _ h => h) hown hE.1 hP 0 rfl rfl 0 (Nat.le_of_ble_eq_true rfl) (hts (.fieldLink RX2 12 "CoverMeter" "now" "LCoverMeter$State;") (List.mem_of_getElem? (i := 5) rfl)) (fun _ h9 => h9) rfl dX2_digest_56 ?_
        refine va_get (D := D) (ci := 1) (v := .ref (A 0 1)) (C := RX1) (T := TX1) (N := 15) hx hb hu1 (fun _ h => h) hown hE.1 hP 1 rfl rfl 0 (Nat.le_of_ble_eq_true rfl) (hts (.fieldLink RX2 44 "CoverMeter$State" "settings" "[I") (List.mem_of_getElem? (i := 6) rfl)) (fun _ h9 => h9) rfl dX2_digest_59 ?_
        refine lv_iload_n hx hb dX2_digest_62 rfl (lv_at hl 2 rfl) ?_
        have hi10 := q_gd_in hf
        have hf := q_gd_go hf
        refine va_iald hx hb hE.1 hP 2 0 rfl rfl hi10 dX2_digest_63 ?_
        refine lv_i2l (v := (((ST_settings (CM_now S) (l3 : Int32).toNatClampNeg) : Int32).toInt64)) hx hb dX2_digest_64 rfl ?_
        refine lv_ladd hx hb dX2_digest_65 ?_
        obtain ⟨v11, ev11, hf⟩ := q_let_go hf
        refine q_nml ev11 ?_
        refine lv_lstore_n (lv' := [(1, .long v11), (0, .ref (A 3 0)), (3, .int l3)]) hx hb dX2_digest_66 rfl hl (by decide) rfl (fun ls hl => ?_)
        obtain ⟨v12, ev12, hf⟩ := q_let_go hf
        refine lv_iinc (v := v12) (lv' := [(3, .int v12), (1, .long v11), (0, .ref (A 3 0))]) hx hb dX2_digest_67 hl (k := 2) rfl (by rw [← ev12]; rfl) (by decide) rfl (fun ls hl => ?_)
        refine lv_goto (tgt := 45) hx hb dX2_digest_70 (by decide) ?_
        exact ih v11 v12 _ (lv_sub hl [2, 1, 0] rfl) hf
  have L_15 : ∀ (n : Nat) (l1 : Int64) (l3 : Int32) (ls : Array Slot), lv_has ls 4 [(0, .ref (A 3 0)), (1, .long l1), (3, .int l3)] → f_X2_digest_15 S n l1 l3 = some o → W p l e (headSpec wsX2_digest rX2_digest).room s m (([.ref (A 3 0)] : List Value).toArray) below meth c s.heap [] 0 0 (MQ below (q_Rl o) (([.ref (A 3 0)] : List Value).toArray) s 0 0 (fun _ => False)) (F0 m 15 ls []) := by
    intro n
    induction n with
    | zero => intro l1 l3 ls hl hf; cases hf
    | succ n ih =>
      intro l1 l3 ls hl hf
      rw [f_X2_digest_15] at hf
      refine lv_iload_n hx hb dX2_digest_15 rfl (lv_at hl 2 rfl) ?_
      refine lv_bipush (v := 11) hx hb dX2_digest_16 (by decide) ?_
      refine lv_icmp_ge (tgt := 43) hx hb dX2_digest_18 (by decide) (fun c2 => ?_) (fun c2 => ?_)
      · have hf := q_ite_t c2 hf
        refine lv_iconst (v := 0) hx hb dX2_digest_43 (by decide) ?_
        refine lv_istore_n (lv' := [(3, .int 0), (0, .ref (A 3 0)), (1, .long l1)]) hx hb dX2_digest_44 rfl hl (by decide) rfl (fun ls hl => ?_)
        exact L_45 2000 l1 0 _ (lv_sub hl [1, 2, 0] rfl) hf
      · have hf := q_ite_f c2 hf
        refine lv_ldc2 (v := 31) hx hb hown (hts (.constantLong RX2 201 (31)) (List.mem_of_getElem? (i := 4) rfl)) dX2_digest_21 ?_
        refine lv_lload_n hx hb dX2_digest_24 rfl (lv_at hl 1 rfl) ?_
        refine lv_lmul hx hb dX2_digest_25 ?_
        refine lv_aload_n hx hb dX2_digest_26 rfl (lv_at hl 0 rfl) ?_
        refine va_get (D := D) (ci := 2) (v := .ref (A 0 0)) (C := RX2) (T := TX2) (N := 5) hx hb hu2 (fun _ h => h) hown hE.1 hP 0 rfl rfl 0 (Nat.le_of_ble_eq_true rfl) (hts (.fieldLink RX2 12 "CoverMeter" "now" "LCoverMeter$State;") (List.mem_of_getElem? (i := 5) rfl)) (fun _ h9 => h9) rfl dX2_digest_27 ?_
        refine lv_iload_n hx hb dX2_digest_30 rfl (lv_at hl 2 rfl) ?_
        obtain ⟨r13, hr13, hf⟩ := q_bd_go hf
        refine q_rdVi (w := (wST cI cJ (A 0) (CM_now S))) (ci := 1) (As := [.int l3]) (rest := [.long (31 * l1)]) hx hb hml hown hts (c_X1_aboutAll l D cI cJ cS (A 0) (CM_now S) l3 _ hr13) (cwV 1 hts gX2_digest_X1_aboutAll rfl rfl rfl (by decide +kernel) ⟨(Nat.le_of_ble_eq_true rfl), (Nat.le_of_ble_eq_true rfl)⟩) hE (qr_now hP) rfl rfl rfl hl.1 rfl (Nat.le_of_ble_eq_true rfl) dX2_digest_31 ⟨(Nat.le_of_ble_eq_true rfl), (Nat.le_of_ble_eq_true rfl)⟩ ?_
        refine lv_i2l (v := ((r13 : Int32).toInt64)) hx hb dX2_digest_34 rfl ?_
        refine lv_ladd hx hb dX2_digest_35 ?_
        obtain ⟨v14, ev14, hf⟩ := q_let_go hf
        refine q_nml ev14 ?_
        refine lv_lstore_n (lv' := [(1, .long v14), (0, .ref (A 3 0)), (3, .int l3)]) hx hb dX2_digest_36 rfl hl (by decide) rfl (fun ls hl => ?_)
        obtain ⟨v15, ev15, hf⟩ := q_let_go hf
        refine lv_iinc (v := v15) (lv' := [(3, .int v15), (1, .long v14), (0, .ref (A 3 0))]) hx hb dX2_digest_37 hl (k := 2) rfl (by rw [← ev15]; rfl) (by decide) rfl (fun ls hl => ?_)
        refine lv_goto (tgt := 15) hx hb dX2_digest_40 (by decide) ?_
        exact ih v14 v15 _ (lv_sub hl [2, 1, 0] rfl) hf
  have hl := lv_entry ([.ref (A 3 0)]) (n := 4) (Nat.le_of_ble_eq_true rfl)
  rw [lg_entry_eq]
  generalize (lg_sl ([.ref (A 3 0)]) ++ List.replicate (4 - (lg_sl ([.ref (A 3 0)])).length) Slot.unset).toArray = ls at hl ⊢
  have hl : lv_has ls 4 [(0, .ref (A 3 0))] := hl
  unfold f_X2_digest at hf
  refine lv_ldc2 (v := 115537) hx hb hown (hts (.constantLong RX2 199 (115537)) (List.mem_of_getElem? (i := 1) rfl)) dX2_digest_0 ?_
  refine lv_aload_n hx hb dX2_digest_3 rfl (lv_at hl 0 rfl) ?_
  refine va_get (D := D) (ci := 2) (v := .ref (A 2 0)) (C := RX2) (T := TX2) (N := 5) hx hb hu2 (fun _ h => h) hown hE.1 hP 0 rfl rfl 4 (Nat.le_of_ble_eq_true rfl) (hts (.fieldLink RX2 26 "CoverMeter" "orders" "LCoverMeter$Orders;") (List.mem_of_getElem? (i := 2) rfl)) (fun _ h9 => h9) rfl dX2_digest_4 ?_
  refine va_get (D := D) (ci := 0) (v := .int (OR_length (CM_or S))) (C := RX0) (T := TX0) (N := 8) hx hb hu0 (fun _ h => h) hown hE.1 hP 14 rfl rfl 1 (Nat.le_of_ble_eq_true rfl) (hts (.fieldLink RX2 174 "CoverMeter$Orders" "length" "I") (List.mem_of_getElem? (i := 3) rfl)) (fun _ h9 => h9) rfl dX2_digest_7 ?_
  refine lv_i2l (v := (((OR_length (CM_or S)) : Int32).toInt64)) hx hb dX2_digest_10 rfl ?_
  refine lv_ladd hx hb dX2_digest_11 ?_
  obtain ⟨v1, ev1, hf⟩ := q_let_go hf
  refine q_nml ev1 ?_
  refine lv_lstore_n (lv' := [(1, .long v1), (0, .ref (A 3 0))]) hx hb dX2_digest_12 rfl hl (by decide) rfl (fun ls hl => ?_)
  refine lv_iconst (v := 0) hx hb dX2_digest_13 (by decide) ?_
  refine lv_istore_n (lv' := [(3, .int 0), (1, .long v1), (0, .ref (A 3 0))]) hx hb dX2_digest_14 rfl hl (by decide) rfl (fun ls hl => ?_)
  exact L_15 2000 v1 0 _ (lv_sub hl [2, 1, 0] rfl) hf
