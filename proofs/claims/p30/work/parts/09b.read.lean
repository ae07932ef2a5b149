def f_L_up (p1 : Int32) (p2 : Int32) : Option Int32 := if ¬ p2 = 0 then
 (some ((p1 &&& 2147483647) - (p1 &&& 2147483647) / p2 * p2)) else none
abbrev rL_up : Room := { frames := 0, cells := 0, slots := 0, locals := 0 }
set_option maxRecDepth 100000 in
set_option maxHeartbeats 4000000 in
theorem c_L_up (l : Launch) (D : va_G) (cI cJ cS : ClassId) (p1 : Int32) (p2 : Int32) (o : Int32) (hf : f_L_up p1 p2 = some o) : Met l yL_up wsL_up rL_up (va_Pc [.int p1, .int p2] (q_B D cI cJ cS [])) (q_Ri o) 0 0 (fun _ => False) := by
  refine Met.ofW (cc := cL_up) (maxL := 2) (ret := some .int) (by decide) rfl ?_
  intro p e s m args below meth c s₁ B hml hv
  obtain ⟨rfl, hP, hE⟩ := hv
  have hx := B.exec
  have hb := B.bytes
  have hr := B.returns
  have hts := atoms_spec (ws := wsL_up) B.pre
  have hown : s.vm.findClass RL = some m.cls := findClass_of_methodNamed B.named
  have hlocks := B.notSynchronized
  have hl := lv_entry ([.int p1, .int p2]) (n := 2) (Nat.le_of_ble_eq_true rfl)
  rw [lg_entry_eq]
  generalize (lg_sl ([.int p1, .int p2]) ++ List.replicate (2 - (lg_sl ([.int p1, .int p2])).length) Slot.unset).toArray = ls at hl ⊢
  have hl : lv_has ls 2 [(0, .int p1), (1, .int p2)] := hl
  unfold f_L_up at hf
  refine lv_iload_n hx hb dL_up_0 rfl (lv_at hl 0 rfl) ?_
  refine lv_ldc (v := 2147483647) hx hb hown (hts (.constant RL 8 (2147483647)) (List.mem_of_getElem? (i := 1) rfl)) dL_up_1 ?_
  refine lv_iand hx hb dL_up_3 ?_
  refine lv_iload_n hx hb dL_up_4 rfl (lv_at hl 1 rfl) ?_
  have hnz := q_gc_in hf
  have hf := q_ite_t hnz hf
  refine lv_irem hx hb dL_up_5 hnz ?_
  have ho := q_some hf
  subst ho
  exact W.iret hx hb hr (fun t ht hW => ⟨rfl, ht⟩) t_nil dL_up_6
def f_L_some (p1 : Int32) (p2 : Int32) : Option Int64 := some ((((((p1 : Int32).toInt64) <<< ((16 : Int32).toInt64 &&& 63)) ^^^ (((p2 : Int32).toInt64) &&& 65535)) &&& (((p2 : Int32).toInt64) * 65537)) &&& 4398046511103)
abbrev rL_some : Room := { frames := 0, cells := 0, slots := 0, locals := 0 }
set_option maxRecDepth 100000 in
set_option maxHeartbeats 4000000 in
theorem c_L_some (l : Launch) (D : va_G) (cI cJ cS : ClassId) (p1 : Int32) (p2 : Int32) (o : Int64) (hf : f_L_some p1 p2 = some o) : Met l yL_some wsL_some rL_some (va_Pc [.int p1, .int p2] (q_B D cI cJ cS [])) (q_Rl o) 0 0 (fun _ => False) := by
  refine Met.ofW (cc := cL_some) (maxL := 2) (ret := some .long) (by decide) rfl ?_
  intro p e s m args below meth c s₁ B hml hv
  obtain ⟨rfl, hP, hE⟩ := hv
  have hx := B.exec
  have hb := B.bytes
  have hr := B.returns
  have hts := atoms_spec (ws := wsL_some) B.pre
  have hown : s.vm.findClass RL = some m.cls := findClass_of_methodNamed B.named
  have hlocks := B.notSynchronized
  have hl := lv_entry ([.int p1, .int p2]) (n := 2) (Nat.le_of_ble_eq_true rfl)
  rw [lg_entry_eq]
  generalize (lg_sl ([.int p1, .int p2]) ++ List.replicate (2 - (lg_sl ([.int p1, .int p2])).length) Slot.unset).toArray = ls at hl ⊢
  have hl : lv_has ls 2 [(0, .int p1), (1, .int p2)] := hl
  unfold f_L_some at hf
  refine lv_iload_n hx hb dL_some_0 rfl (lv_at hl 0 rfl) ?_
  refine lv_i2l (v := ((p1 : Int32).toInt64)) hx hb dL_some_1 rfl ?_
  refine lv_bipush (v := 16) hx hb dL_some_2 (by decide) ?_
  refine lv_lshl (v := (((p1 : Int32).toInt64) <<< ((16 : Int32).toInt64 &&& 63))) hx hb dL_some_4 rfl ?_
  refine lv_iload_n hx hb dL_some_5 rfl (lv_at hl 1 rfl) ?_
  refine lv_i2l (v := ((p2 : Int32).toInt64)) hx hb dL_some_6 rfl ?_
  refine lv_ldc2 (v := 65535) hx hb hown (hts (.constantLong RL 9 (65535)) (List.mem_of_getElem? (i := 1) rfl)) dL_some_7 ?_
  refine lv_land hx hb dL_some_10 ?_
  refine lv_lxor hx hb dL_some_11 ?_
  refine lv_iload_n hx hb dL_some_12 rfl (lv_at hl 1 rfl) ?_
  refine lv_i2l (v := ((p2 : Int32).toInt64)) hx hb dL_some_13 rfl ?_
  refine lv_ldc2 (v := 65537) hx hb hown (hts (.constantLong RL 11 (65537)) (List.mem_of_getElem? (i := 2) rfl)) dL_some_14 ?_
  refine lv_lmul hx hb dL_some_17 ?_
  refine lv_land hx hb dL_some_18 ?_
  refine lv_ldc2 (v := 4398046511103) hx hb hown (hts (.constantLong RL 13 (4398046511103)) (List.mem_of_getElem? (i := 3) rfl)) dL_some_19 ?_
  refine lv_land hx hb dL_some_22 ?_
  have ho := q_some hf
  subst ho
  exact W.lret hx hb hr (fun t ht hW => ⟨rfl, ht⟩) t_nil dL_some_23
def f_L_ones_4 : Nat → Int64 → Int32 → Int32 → Option Int32
  | 0, _, _, _ => none
  | n+1, l0, l2, l3 => if 42 ≤ l3 then
 (some l2)
 else (q_let ((l2 + ((((l0 >>> ((l3 : Int32).toInt64 &&& 63)) &&& 1) : Int64).toInt32))) fun v2 =>
 q_let (l3 + 1) fun v3 =>
 f_L_ones_4 n l0 v2 v3)
def f_L_ones (p1 : Int64) : Option Int32 := f_L_ones_4 2000 p1 0 0
abbrev rL_ones : Room := { frames := 0, cells := 0, slots := 0, locals := 0 }
set_option maxRecDepth 100000 in
set_option maxHeartbeats 4000000 in
theorem c_L_ones (l : Launch) (D : va_G) (cI cJ cS : ClassId) (p1 : Int64) (o : Int32) (hf : f_L_ones p1 = some o) : Met l yL_ones wsL_ones rL_ones (va_Pc [.long p1] (q_B D cI cJ cS [])) (q_Ri o) 0 0 (fun _ => False) := by
  refine Met.ofW (cc := cL_ones) (maxL := 4) (ret := some .int) (by decide) rfl ?_
  intro p e s m args below meth c s₁ B hml hv
  obtain ⟨rfl, hP, hE⟩ := hv
  have hx := B.exec
  have hb := B.bytes
  have hr := B.returns
  have hts := atoms_spec (ws := wsL_ones) B.pre
  have hown : s.vm.findClass RL = some m.cls := findClass_of_methodNamed B.named
  have hlocks := B.notSynchronized
  have L_4 : ∀ (n : Nat) (l0 : Int64) (l2 : Int32) (l3 : Int32) (ls : Array Slot), lv_has ls 4 [(0, .long l0), (2, .int l2), (3, .int l3)] → f_L_ones_4 n l0 l2 l3 = some o → W p l e (headSpec wsL_ones rL_ones).room s m (([.long p1] : List Value).toArray) below meth c s.heap [] 0 0 (MQ below (q_Ri o) (([.long p1] : List Value).toArray) s 0 0 (fun _ => False)) (F0 m 4 ls []) := by
    intro n
    induction n with
    | zero => intro l0 l2 l3 ls hl hf; cases hf
    | succ n ih =>
      intro l0 l2 l3 ls hl hf
      rw [f_L_ones_4] at hf
      refine lv_iload_n hx hb dL_ones_4 rfl (lv_at hl 2 rfl) ?_
      refine lv_bipush (v := 42) hx hb dL_ones_5 (by decide) ?_
      refine lv_icmp_ge (tgt := 25) hx hb dL_ones_7 (by decide) (fun c1 => ?_) (fun c1 => ?_)
      · have hf := q_ite_t c1 hf
        refine lv_iload_n hx hb dL_ones_25 rfl (lv_at hl 1 rfl) ?_
        have ho := q_some hf
        subst ho
        exact W.iret hx hb hr (fun t ht hW => ⟨rfl, ht⟩) t_nil dL_ones_26
      · have hf := q_ite_f c1 hf
        refine lv_iload_n hx hb dL_ones_10 rfl (lv_at hl 1 rfl) ?_
        refine lv_lload_n hx hb dL_ones_11 rfl (lv_at hl 0 rfl) ?_
        refine lv_iload_n hx hb dL_ones_12 rfl (lv_at hl 2 rfl) ?_
        refine lv_lshr (v := (l0 >>> ((l3 : Int32).toInt64 &&& 63))) hx hb dL_ones_13 rfl ?_
        refine lv_lconst (v := 1) hx hb dL_ones_14 (by decide) ?_
        refine lv_land hx hb dL_ones_15 ?_
        refine lv_l2i (v := ((((l0 >>> ((l3 : Int32).toInt64 &&& 63)) &&& 1) : Int64).toInt32)) hx hb dL_ones_16 rfl ?_
        refine lv_iadd hx hb dL_ones_17 ?_
        obtain ⟨v2, ev2, hf⟩ := q_let_go hf
        refine q_nmi ev2 ?_
        refine lv_istore_n (lv' := [(2, .int v2), (0, .long l0), (3, .int l3)]) hx hb dL_ones_18 rfl hl (by decide) rfl (fun ls hl => ?_)
        obtain ⟨v3, ev3, hf⟩ := q_let_go hf
        refine lv_iinc (v := v3) (lv' := [(3, .int v3), (2, .int v2), (0, .long l0)]) hx hb dL_ones_19 hl (k := 2) rfl (by rw [← ev3]; rfl) (by decide) rfl (fun ls hl => ?_)
        refine lv_goto (tgt := 4) hx hb dL_ones_22 (by decide) ?_
        exact ih l0 v2 v3 _ (lv_sub hl [2, 1, 0] rfl) hf
  have hl := lv_entry ([.long p1]) (n := 4) (Nat.le_of_ble_eq_true rfl)
  rw [lg_entry_eq]
  generalize (lg_sl ([.long p1]) ++ List.replicate (4 - (lg_sl ([.long p1])).length) Slot.unset).toArray = ls at hl ⊢
  have hl : lv_has ls 4 [(0, .long p1)] := hl
  unfold f_L_ones at hf
  refine lv_iconst (v := 0) hx hb dL_ones_0 (by decide) ?_
  refine lv_istore_n (lv' := [(2, .int 0), (0, .long p1)]) hx hb dL_ones_1 rfl hl (by decide) rfl (fun ls hl => ?_)
  refine lv_iconst (v := 0) hx hb dL_ones_2 (by decide) ?_
  refine lv_istore_n (lv' := [(3, .int 0), (2, .int 0), (0, .long p1)]) hx hb dL_ones_3 rfl hl (by decide) rfl (fun ls hl => ?_)
  exact L_4 2000 p1 0 0 _ (lv_sub hl [2, 1, 0] rfl) hf
def f_O_needInRange (p1 : Int32) (p2 : Int32) (p3 : Int32) : Option Unit := if p1 < p2 then
 (none)
 else (if p1 ≤ p3 then
 (some ())
 else (none))
abbrev rO_needInRange : Room := { frames := 0, cells := 0, slots := 0, locals := 0 }
set_option maxRecDepth 100000 in
set_option maxHeartbeats 4000000 in
theorem c_O_needInRange (l : Launch) (D : va_G) (cI cJ cS : ClassId) (p1 : Int32) (p2 : Int32) (p3 : Int32) (o : Unit) (hf : f_O_needInRange p1 p2 p3 = some o) : Met l yX2_needInRange wsX2_needInRange rO_needInRange (va_Pc [.int p1, .int p2, .int p3] (q_B D cI cJ cS [])) q_Rv 0 0 (fun _ => False) := by
  refine Met.ofW (cc := cX2_needInRange) (maxL := 3) (ret := none) (by decide) rfl ?_
  intro p e s m args below meth c s₁ B9 hml hv
  obtain ⟨rfl, hP, hE⟩ := hv
  have hx := B9.exec
  have hb := B9.bytes
  have hr := B9.returns
  have hts := atoms_spec (ws := wsX2_needInRange) B9.pre
  have hown : s.vm.findClass RX2 = some m.cls := findClass_of_methodNamed B9.named
  have hlocks := B9.notSynchronized
  have hl := lv_entry ([.int p1, .int p2, .int p3]) (n := 3) (Nat.le_of_ble_eq_true rfl)
  rw [lg_entry_eq]
  generalize (lg_sl ([.int p1, .int p2, .int p3]) ++ List.replicate (3 - (lg_sl ([.int p1, .int p2, .int p3])).length) Slot.unset).toArray = ls at hl ⊢
  have hl : lv_has ls 3 [(0, .int p1), (1, .int p2), (2, .int p3)] := hl
  unfold f_O_needInRange at hf
  refine lv_iload_n hx hb dX2_needInRange_0 rfl (lv_at hl 0 rfl) ?_
  refine lv_iload_n hx hb dX2_needInRange_1 rfl (lv_at hl 1 rfl) ?_
  refine lv_icmp_lt (tgt := 10) hx hb dX2_needInRange_2 (by decide) (fun c1 => ?_) (fun c1 => ?_)
  · have hf := q_ite_t c1 hf
    cases hf
  · have hf := q_ite_f c1 hf
    refine lv_iload_n hx hb dX2_needInRange_5 rfl (lv_at hl 0 rfl) ?_
    refine lv_iload_n hx hb dX2_needInRange_6 rfl (lv_at hl 2 rfl) ?_
    refine lv_icmp_le (tgt := 20) hx hb dX2_needInRange_7 (by decide) (fun c2 => ?_) (fun c2 => ?_)
    · have hf := q_ite_t c2 hf
      have ho := q_some hf
      exact W.vret hx hb hr (fun t ht hW => ⟨rfl, ht⟩) t_nil dX2_needInRange_20
    · have hf := q_ite_f c2 hf
      cases hf
def f_O_needPerson (S : CM) (p1 : Int32) : Option Unit := (f_X1_hasPerson (CM_now S) p1).bind fun r1 =>
 if ¬ r1 = 0 then
 (some ())
 else (none)
abbrev rO_needPerson : Room := { frames := 1, cells := 0, slots := 0, locals := 21 }
set_option maxRecDepth 100000 in
set_option maxHeartbeats 4000000 in
theorem c_O_needPerson (l : Launch) (D : va_G) (cI cJ cS : ClassId) (A : Nat → Nat → Nat) (S : CM) (p1 : Int32) (o : Unit) (hf : f_O_needPerson S p1 = some o) : Met l yX2_needPerson wsX2_needPerson rO_needPerson (va_Pc [.ref (A 3 0), .int p1] (q_B D cI cJ cS (wCR cI cJ A S))) q_Rv 0 0 (fun _ => False) := by
  refine Met.ofW (cc := cX2_needPerson) (maxL := 2) (ret := none) (by decide) rfl ?_
  intro p e s m args below meth c s₁ B9 hml hv
  obtain ⟨rfl, hP, hE⟩ := hv
  have hx := B9.exec
  have hb := B9.bytes
  have hr := B9.returns
  have hts := atoms_spec (ws := wsX2_needPerson) B9.pre
  have hown : s.vm.findClass RX2 = some m.cls := findClass_of_methodNamed B9.named
  have hlocks := B9.notSynchronized
  have hu1 : ∀ z ∈ wsX10, z.before _ s = true := fun z h => hts z (List.mem_cons_of_mem _ (List.mem_append_left _ (List.mem_append_right _ h)))
  have hu2 : ∀ z ∈ wsX20, z.before _ s = true := fun z h => hts z (List.mem_cons_of_mem _ (List.mem_append_left _ (List.mem_append_left _ (List.mem_append_right _ h))))
  have hl := lv_entry ([.ref (A 3 0), .int p1]) (n := 2) (Nat.le_of_ble_eq_true rfl)
  rw [lg_entry_eq]
  generalize (lg_sl ([.ref (A 3 0), .int p1]) ++ List.replicate (2 - (lg_sl ([.ref (A 3 0), .int p1])).length) Slot.unset).toArray = ls at hl ⊢
  have hl : lv_has ls 2 [(0, .ref (A 3 0)), (1, .int p1)] := hl
  unfold f_O_needPerson at hf
  refine lv_aload_n hx hb dX2_needPerson_0 rfl (lv_at hl 0 rfl) ?_
  refine va_get (D := D) (ci := 2) (v := .ref (A 0 0)) (C := RX2) (T := TX2) (N := 5) hx hb hu2 (fun _ h => h) hown hE.1 hP 0 rfl rfl 0 (Nat.le_of_ble_eq_true rfl) (hts (.fieldLink RX2 12 "CoverMeter" "now" "LCoverMeter$State;") (List.mem_of_getElem? (i := 3) rfl)) (fun _ h9 => h9) rfl dX2_needPerson_1 ?_
  refine lv_iload_n hx hb dX2_needPerson_4 rfl (lv_at hl 1 rfl) ?_
  obtain ⟨r1, hr1, hf⟩ := q_bd_go hf
  refine q_rdVi (w := wST cI cJ (A 0) (CM_now S)) (ci := 1) (As := [.int p1]) (rest := []) hx hb hml hown hts (c_X1_hasPerson l D cI cJ cS (A 0) (CM_now S) p1 _ hr1) (cwV 1 hts gX2_needPerson_X1_hasPerson rfl rfl rfl (by decide +kernel) ⟨(Nat.le_of_ble_eq_true rfl), (Nat.le_of_ble_eq_true rfl)⟩) hE (qr_now hP) rfl rfl rfl hl.1 rfl (Nat.le_of_ble_eq_true rfl) dX2_needPerson_5 ⟨Nat.zero_le _, Nat.zero_le _⟩ ?_
  refine lv_if_ne (tgt := 21) hx hb dX2_needPerson_8 (by decide) (fun c2 => ?_) (fun c2 => ?_)
  · have hf := q_ite_t c2 hf
    have ho := q_some hf
    exact W.vret hx hb hr (fun t ht hW => ⟨rfl, ht⟩) t_nil dX2_needPerson_21
  · have hf := q_ite_n c2 hf
    cases hf
def f_O_needAbsence (S : CM) (p1 : Int32) : Option Unit := (f_X1_hasAbsence (CM_now S) p1).bind fun r1 =>
 if ¬ r1 = 0 then
 (some ())
 else (none)
abbrev rO_needAbsence : Room := { frames := 1, cells := 0, slots := 0, locals := 21 }
set_option maxRecDepth 100000 in
set_option maxHeartbeats 4000000 in
theorem c_O_needAbsence (l : Launch) (D : va_G) (cI cJ cS : ClassId) (A : Nat → Nat → Nat) (S : CM) (p1 : Int32) (o : Unit) (hf : f_O_needAbsence S p1 = some o) : Met l yX2_needAbsence wsX2_needAbsence rO_needAbsence (va_Pc [.ref (A 3 0), .int p1] (q_B D cI cJ cS (wCR cI cJ A S))) q_Rv 0 0 (fun _ => False) := by
  refine Met.ofW (cc := cX2_needAbsence) (maxL := 2) (ret := none) (by decide) rfl ?_
  intro p e s m args below meth c s₁ B9 hml hv
  obtain ⟨rfl, hP, hE⟩ := hv
  have hx := B9.exec
  have hb := B9.bytes
  have hr := B9.returns
  have hts := atoms_spec (ws := wsX2_needAbsence) B9.pre
  have hown : s.vm.findClass RX2 = some m.cls := findClass_of_methodNamed B9.named
  have hlocks := B9.notSynchronized
  have hu1 : ∀ z ∈ wsX10, z.before _ s = true := fun z h => hts z (List.mem_cons_of_mem _ (List.mem_append_left _ (List.mem_append_right _ h)))
  have hu2 : ∀ z ∈ wsX20, z.before _ s = true := fun z h => hts z (List.mem_cons_of_mem _ (List.mem_append_left _ (List.mem_append_left _ (List.mem_append_right _ h))))
  have hl := lv_entry ([.ref (A 3 0), .int p1]) (n := 2) (Nat.le_of_ble_eq_true rfl)
  rw [lg_entry_eq]
  generalize (lg_sl ([.ref (A 3 0), .int p1]) ++ List.replicate (2 - (lg_sl ([.ref (A 3 0), .int p1])).length) Slot.unset).toArray = ls at hl ⊢
  have hl : lv_has ls 2 [(0, .ref (A 3 0)), (1, .int p1)] := hl
  unfold f_O_needAbsence at hf
  refine lv_aload_n hx hb dX2_needAbsence_0 rfl (lv_at hl 0 rfl) ?_
  refine va_get (D := D) (ci := 2) (v := .ref (A 0 0)) (C := RX2) (T := TX2) (N := 5) hx hb hu2 (fun _ h => h) hown hE.1 hP 0 rfl rfl 0 (Nat.le_of_ble_eq_true rfl) (hts (.fieldLink RX2 12 "CoverMeter" "now" "LCoverMeter$State;") (List.mem_of_getElem? (i := 3) rfl)) (fun _ h9 => h9) rfl dX2_needAbsence_1 ?_
  refine lv_iload_n hx hb dX2_needAbsence_4 rfl (lv_at hl 1 rfl) ?_
  obtain ⟨r1, hr1, hf⟩ := q_bd_go hf
  refine q_rdVi (w := wST cI cJ (A 0) (CM_now S)) (ci := 1) (As := [.int p1]) (rest := []) hx hb hml hown hts (c_X1_hasAbsence l D cI cJ cS (A 0) (CM_now S) p1 _ hr1) (cwV 1 hts gX2_needAbsence_X1_hasAbsence rfl rfl rfl (by decide +kernel) ⟨(Nat.le_of_ble_eq_true rfl), (Nat.le_of_ble_eq_true rfl)⟩) hE (qr_now hP) rfl rfl rfl hl.1 rfl (Nat.le_of_ble_eq_true rfl) dX2_needAbsence_5 ⟨Nat.zero_le _, Nat.zero_le _⟩ ?_
  refine lv_if_ne (tgt := 21) hx hb dX2_needAbsence_8 (by decide) (fun c2 => ?_) (fun c2 => ?_)
  · have hf := q_ite_t c2 hf
    have ho := q_some hf
    exact W.vret hx hb hr (fun t ht hW => ⟨rfl, ht⟩) t_nil dX2_needAbsence_21
  · have hf := q_ite_n c2 hf
    cases hf
def f_O_setting (S : CM) (p1 : Int32) : Option Int32 := (f_O_needInRange p1 0 2).bind fun r1 =>
 if q_in p1 3 = true then
 (some (ST_settings (CM_now S) (p1 : Int32).toNatClampNeg)) else none
abbrev rO_setting : Room := { frames := 1, cells := 0, slots := 0, locals := 22 }
set_option maxRecDepth 100000 in
set_option maxHeartbeats 4000000 in
theorem c_O_setting (l : Launch) (D : va_G) (cI cJ cS : ClassId) (A : Nat → Nat → Nat) (S : CM) (p1 : Int32) (o : Int32) (hf : f_O_setting S p1 = some o) : Met l yX2_setting wsX2_setting rO_setting (va_Pc [.ref (A 3 0), .int p1] (q_B D cI cJ cS (wCR cI cJ A S))) (q_Ri o) 0 0 (fun _ => False) := by
  refine Met.ofW (cc := cX2_setting) (maxL := 2) (ret := some .int) (by decide) rfl ?_
  intro p e s m args below meth c s₁ B9 hml hv
  obtain ⟨rfl, hP, hE⟩ := hv
  have hx := B9.exec
  have hb := B9.bytes
  have hr := B9.returns
  have hts := atoms_spec (ws := wsX2_setting) B9.pre
  have hown : s.vm.findClass RX2 = some m.cls := findClass_of_methodNamed B9.named
  have hlocks := B9.notSynchronized
  have hu1 : ∀ z ∈ wsX10, z.before _ s = true := fun z h => hts z (List.mem_cons_of_mem _ (List.mem_append_left _ (List.mem_append_right _ h)))
  have hu2 : ∀ z ∈ wsX20, z.before _ s = true := fun z h => hts z (List.mem_cons_of_mem _ (List.mem_append_left _ (List.mem_append_left _ (List.mem_append_right _ h))))
  have hl := lv_entry ([.ref (A 3 0), .int p1]) (n := 2) (Nat.le_of_ble_eq_true rfl)
  rw [lg_entry_eq]
  generalize (lg_sl ([.ref (A 3 0), .int p1]) ++ List.replicate (2 - (lg_sl ([.ref (A 3 0), .int p1])).length) Slot.unset).toArray = ls at hl ⊢
  have hl : lv_has ls 2 [(0, .ref (A 3 0)), (1, .int p1)] := hl
  unfold f_O_setting at hf
  refine lv_iload_n hx hb dX2_setting_0 rfl (lv_at hl 1 rfl) ?_
  refine lv_iconst (v := 0) hx hb dX2_setting_1 (by decide) ?_
  refine lv_iconst (v := 2) hx hb dX2_setting_2 (by decide) ?_
  obtain ⟨r1, hr1, hf⟩ := q_bd_go hf
  refine q_rdSv (As := [.int p1, .int 0, .int 2]) (rest := []) hx hb hml hown hts (c_O_needInRange l D cI cJ cS p1 0 2 _ hr1) (va_cwS 3 hts gX2_setting_X2_needInRange rfl rfl rfl (by decide +kernel) ⟨(Nat.le_of_ble_eq_true rfl), (Nat.le_of_ble_eq_true rfl)⟩) hE rfl hl.1 rfl (Nat.le_of_ble_eq_true rfl) dX2_setting_3 ⟨Nat.zero_le _, Nat.zero_le _⟩ ?_
  refine lv_aload_n hx hb dX2_setting_6 rfl (lv_at hl 0 rfl) ?_
  refine va_get (D := D) (ci := 2) (v := .ref (A 0 0)) (C := RX2) (T := TX2) (N := 5) hx hb hu2 (fun _ h => h) hown hE.1 hP 0 rfl rfl 0 (Nat.le_of_ble_eq_true rfl) (hts (.fieldLink RX2 12 "CoverMeter" "now" "LCoverMeter$State;") (List.mem_of_getElem? (i := 1) rfl)) (fun _ h9 => h9) rfl dX2_setting_7 ?_
  refine va_get (D := D) (ci := 1) (v := .ref (A 0 1)) (C := RX1) (T := TX1) (N := 15) hx hb hu1 (fun _ h => h) hown hE.1 hP 1 rfl rfl 0 (Nat.le_of_ble_eq_true rfl) (hts (.fieldLink RX2 44 "CoverMeter$State" "settings" "[I") (List.mem_of_getElem? (i := 2) rfl)) (fun _ h9 => h9) rfl dX2_setting_10 ?_
  refine lv_iload_n hx hb dX2_setting_13 rfl (lv_at hl 1 rfl) ?_
  have hi2 := q_gd_in hf
  have hf := q_gd_go hf
  refine va_iald hx hb hE.1 hP 2 0 rfl rfl hi2 dX2_setting_14 ?_
  have ho := q_some hf
  subst ho
  exact W.iret hx hb hr (fun t ht hW => ⟨rfl, ht⟩) t_nil dX2_setting_15
def f_O_value (S : CM) (p1 : Int32) : Option Int32 := (f_O_needInRange p1 0 10).bind fun r1 =>
 (f_X1_aboutAll (CM_now S) p1).bind fun r2 =>
 some r2
abbrev rO_value : Room := { frames := 4, cells := 0, slots := 0, locals := 87 }
set_option maxRecDepth 100000 in
set_option maxHeartbeats 4000000 in
theorem c_O_value (l : Launch) (D : va_G) (cI cJ cS : ClassId) (A : Nat → Nat → Nat) (S : CM) (p1 : Int32) (o : Int32) (hf : f_O_value S p1 = some o) : Met l yX2_value wsX2_value rO_value (va_Pc [.ref (A 3 0), .int p1] (q_B D cI cJ cS (wCR cI cJ A S))) (q_Ri o) 0 0 (fun _ => False) := by
  refine Met.ofW (cc := cX2_value) (maxL := 2) (ret := some .int) (by decide) rfl ?_
  intro p e s m args below meth c s₁ B9 hml hv
  obtain ⟨rfl, hP, hE⟩ := hv
  have hx := B9.exec
  have hb := B9.bytes
  have hr := B9.returns
  have hts := atoms_spec (ws := wsX2_value) B9.pre
  have hown : s.vm.findClass RX2 = some m.cls := findClass_of_methodNamed B9.named
  have hlocks := B9.notSynchronized
  have hu1 : ∀ z ∈ wsX10, z.before _ s = true := fun z h => hts z (List.mem_cons_of_mem _ (List.mem_append_left _ (List.mem_append_right _ h)))
  have hu2 : ∀ z ∈ wsX20, z.before _ s = true := fun z h => hts z (List.mem_cons_of_mem _ (List.mem_append_left _ (List.mem_append_left _ (List.mem_append_right _ h))))
  have hl := lv_entry ([.ref (A 3 0), .int p1]) (n := 2) (Nat.le_of_ble_eq_true rfl)
  rw [lg_entry_eq]
  generalize (lg_sl ([.ref (A 3 0), .int p1]) ++ List.replicate (2 - (lg_sl ([.ref (A 3 0), .int p1])).length) Slot.unset).toArray = ls at hl ⊢
  have hl : lv_has ls 2 [(0, .ref (A 3 0)), (1, .int p1)] := hl
  unfold f_O_value at hf
  refine lv_iload_n hx hb dX2_value_0 rfl (lv_at hl 1 rfl) ?_
  refine lv_iconst (v := 0) hx hb dX2_value_1 (by decide) ?_
  refine lv_bipush (v := 10) hx hb dX2_value_2 (by decide) ?_
  obtain ⟨r1, hr1, hf⟩ := q_bd_go hf
  refine q_rdSv (As := [.int p1, .int 0, .int 10]) (rest := []) hx hb hml hown hts (c_O_needInRange l D cI cJ cS p1 0 10 _ hr1) (va_cwS 3 hts gX2_value_X2_needInRange rfl rfl rfl (by decide +kernel) ⟨(Nat.le_of_ble_eq_true rfl), (Nat.le_of_ble_eq_true rfl)⟩) hE rfl hl.1 rfl (Nat.le_of_ble_eq_true rfl) dX2_value_4 ⟨Nat.zero_le _, Nat.zero_le _⟩ ?_
  refine lv_aload_n hx hb dX2_value_7 rfl (lv_at hl 0 rfl) ?_
  refine va_get (D := D) (ci := 2) (v := .ref (A 0 0)) (C := RX2) (T := TX2) (N := 5) hx hb hu2 (fun _ h => h) hown hE.1 hP 0 rfl rfl 0 (Nat.le_of_ble_eq_true rfl) (hts (.fieldLink RX2 12 "CoverMeter" "now" "LCoverMeter$State;") (List.mem_of_getElem? (i := 1) rfl)) (fun _ h9 => h9) rfl dX2_value_8 ?_
  refine lv_iload_n hx hb dX2_value_11 rfl (lv_at hl 1 rfl) ?_
  obtain ⟨r2, hr2, hf⟩ := q_bd_go hf
  refine q_rdVi (w := wST cI cJ (A 0) (CM_now S)) (ci := 1) (As := [.int p1]) (rest := []) hx hb hml hown hts (c_X1_aboutAll l D cI cJ cS (A 0) (CM_now S) p1 _ hr2) (cwV 1 hts gX2_value_X1_aboutAll rfl rfl rfl (by decide +kernel) ⟨(Nat.le_of_ble_eq_true rfl), (Nat.le_of_ble_eq_true rfl)⟩) hE (qr_now hP) rfl rfl rfl hl.1 rfl (Nat.le_of_ble_eq_true rfl) dX2_value_12 ⟨Nat.zero_le _, Nat.zero_le _⟩ ?_
  have ho := q_some hf
  subst ho
  exact W.iret hx hb hr (fun t ht hW => ⟨rfl, ht⟩) t_nil dX2_value_15
def f_O_person (S : CM) (p1 : Int32) (p2 : Int32) : Option Int32 := (f_O_needPerson S p1).bind fun r1 =>
 (f_O_needInRange p2 0 6).bind fun r2 =>
 (f_X1_aboutPerson (CM_now S) p1 p2).bind fun r3 =>
 some r3
abbrev rO_person : Room := { frames := 3, cells := 0, slots := 0, locals := 66 }
set_option maxRecDepth 100000 in
set_option maxHeartbeats 4000000 in
theorem c_O_person (l : Launch) (D : va_G) (cI cJ cS : ClassId) (A : Nat → Nat → Nat) (S : CM) (p1 : Int32) (p2 : Int32) (o : Int32) (hf : f_O_person S p1 p2 = some o) : Met l yX2_person wsX2_person rO_person (va_Pc [.ref (A 3 0), .int p1, .int p2] (q_B D cI cJ cS (wCR cI cJ A S))) (q_Ri o) 0 0 (fun _ => False) := by
  refine Met.ofW (cc := cX2_person) (maxL := 3) (ret := some .int) (by decide) rfl ?_
  intro p e s m args below meth c s₁ B9 hml hv
  obtain ⟨rfl, hP, hE⟩ := hv
  have hx := B9.exec
  have hb := B9.bytes
  have hr := B9.returns
  have hts := atoms_spec (ws := wsX2_person) B9.pre
  have hown : s.vm.findClass RX2 = some m.cls := findClass_of_methodNamed B9.named
  have hlocks := B9.notSynchronized
  have hu1 : ∀ z ∈ wsX10, z.before _ s = true := fun z h => hts z (List.mem_cons_of_mem _ (List.mem_append_left _ (List.mem_append_left _ (List.mem_append_right _ h))))
  have hu2 : ∀ z ∈ wsX20, z.before _ s = true := fun z h => hts z (List.mem_cons_of_mem _ (List.mem_append_left _ (List.mem_append_left _ (List.mem_append_left _ (List.mem_append_right _ h)))))
  have hl := lv_entry ([.ref (A 3 0), .int p1, .int p2]) (n := 3) (Nat.le_of_ble_eq_true rfl)
  rw [lg_entry_eq]
  generalize (lg_sl ([.ref (A 3 0), .int p1, .int p2]) ++ List.replicate (3 - (lg_sl ([.ref (A 3 0), .int p1, .int p2])).length) Slot.unset).toArray = ls at hl ⊢
  have hl : lv_has ls 3 [(0, .ref (A 3 0)), (1, .int p1), (2, .int p2)] := hl
  unfold f_O_person at hf
  refine lv_aload_n hx hb dX2_person_0 rfl (lv_at hl 0 rfl) ?_
  refine lv_iload_n hx hb dX2_person_1 rfl (lv_at hl 1 rfl) ?_
  obtain ⟨r1, hr1, hf⟩ := q_bd_go hf
  refine q_rdVv (w := wCR cI cJ A S) (ci := 2) (As := [.int p1]) (rest := []) hx hb hml hown hts (c_O_needPerson l D cI cJ cS A S p1 _ hr1) (cwV 1 hts gX2_person_X2_needPerson rfl rfl rfl (by decide +kernel) ⟨(Nat.le_of_ble_eq_true rfl), (Nat.le_of_ble_eq_true rfl)⟩) hE hP rfl rfl rfl hl.1 rfl (Nat.le_of_ble_eq_true rfl) dX2_person_2 ⟨Nat.zero_le _, Nat.zero_le _⟩ ?_
  refine lv_iload_n hx hb dX2_person_5 rfl (lv_at hl 2 rfl) ?_
  refine lv_iconst (v := 0) hx hb dX2_person_6 (by decide) ?_
  refine lv_bipush (v := 6) hx hb dX2_person_7 (by decide) ?_
  obtain ⟨r2, hr2, hf⟩ := q_bd_go hf
  refine q_rdSv (As := [.int p2, .int 0, .int 6]) (rest := []) hx hb hml hown hts (c_O_needInRange l D cI cJ cS p2 0 6 _ hr2) (va_cwS 3 hts gX2_person_X2_needInRange rfl rfl rfl (by decide +kernel) ⟨(Nat.le_of_ble_eq_true rfl), (Nat.le_of_ble_eq_true rfl)⟩) hE rfl hl.1 rfl (Nat.le_of_ble_eq_true rfl) dX2_person_9 ⟨Nat.zero_le _, Nat.zero_le _⟩ ?_
  refine lv_aload_n hx hb dX2_person_12 rfl (lv_at hl 0 rfl) ?_
  refine va_get (D := D) (ci := 2) (v := .ref (A 0 0)) (C := RX2) (T := TX2) (N := 5) hx hb hu2 (fun _ h => h) hown hE.1 hP 0 rfl rfl 0 (Nat.le_of_ble_eq_true rfl) (hts (.fieldLink RX2 12 "CoverMeter" "now" "LCoverMeter$State;") (List.mem_of_getElem? (i := 1) rfl)) (fun _ h9 => h9) rfl dX2_person_13 ?_
  refine lv_iload_n hx hb dX2_person_16 rfl (lv_at hl 1 rfl) ?_
  refine lv_iload_n hx hb dX2_person_17 rfl (lv_at hl 2 rfl) ?_
  obtain ⟨r3, hr3, hf⟩ := q_bd_go hf
  refine q_rdVi (w := wST cI cJ (A 0) (CM_now S)) (ci := 1) (As := [.int p1, .int p2]) (rest := []) hx hb hml hown hts (c_X1_aboutPerson l D cI cJ cS (A 0) (CM_now S) p1 p2 _ hr3) (cwV 2 hts gX2_person_X1_aboutPerson rfl rfl rfl (by decide +kernel) ⟨(Nat.le_of_ble_eq_true rfl), (Nat.le_of_ble_eq_true rfl)⟩) hE (qr_now hP) rfl rfl rfl hl.1 rfl (Nat.le_of_ble_eq_true rfl) dX2_person_18 ⟨Nat.zero_le _, Nat.zero_le _⟩ ?_
  have ho := q_some hf
  subst ho
  exact W.iret hx hb hr (fun t ht hW => ⟨rfl, ht⟩) t_nil dX2_person_21
def f_O_work (S : CM) (p1 : Int32) : Option Int64 := (f_O_needPerson S p1).bind fun r1 =>
 (f_X1_worked (CM_now S) p1).bind fun r2 =>
 some r2
abbrev rO_work : Room := { frames := 2, cells := 0, slots := 0, locals := 42 }
set_option maxRecDepth 100000 in
set_option maxHeartbeats 4000000 in
theorem c_O_work (l : Launch) (D : va_G) (cI cJ cS : ClassId) (A : Nat → Nat → Nat) (S : CM) (p1 : Int32) (o : Int64) (hf : f_O_work S p1 = some o) : Met l yX2_work wsX2_work rO_work (va_Pc [.ref (A 3 0), .int p1] (q_B D cI cJ cS (wCR cI cJ A S))) (q_Rl o) 0 0 (fun _ => False) := by
  refine Met.ofW (cc := cX2_work) (maxL := 2) (ret := some .long) (by decide) rfl ?_
  intro p e s m args below meth c s₁ B9 hml hv
  obtain ⟨rfl, hP, hE⟩ := hv
  have hx := B9.exec
  have hb := B9.bytes
  have hr := B9.returns
  have hts := atoms_spec (ws := wsX2_work) B9.pre
  have hown : s.vm.findClass RX2 = some m.cls := findClass_of_methodNamed B9.named
  have hlocks := B9.notSynchronized
  have hu1 : ∀ z ∈ wsX10, z.before _ s = true := fun z h => hts z (List.mem_cons_of_mem _ (List.mem_append_left _ (List.mem_append_right _ h)))
  have hu2 : ∀ z ∈ wsX20, z.before _ s = true := fun z h => hts z (List.mem_cons_of_mem _ (List.mem_append_left _ (List.mem_append_left _ (List.mem_append_right _ h))))
  have hl := lv_entry ([.ref (A 3 0), .int p1]) (n := 2) (Nat.le_of_ble_eq_true rfl)
  rw [lg_entry_eq]
  generalize (lg_sl ([.ref (A 3 0), .int p1]) ++ List.replicate (2 - (lg_sl ([.ref (A 3 0), .int p1])).length) Slot.unset).toArray = ls at hl ⊢
  have hl : lv_has ls 2 [(0, .ref (A 3 0)), (1, .int p1)] := hl
  unfold f_O_work at hf
  refine lv_aload_n hx hb dX2_work_0 rfl (lv_at hl 0 rfl) ?_
  refine lv_iload_n hx hb dX2_work_1 rfl (lv_at hl 1 rfl) ?_
  obtain ⟨r1, hr1, hf⟩ := q_bd_go hf
  refine q_rdVv (w := wCR cI cJ A S) (ci := 2) (As := [.int p1]) (rest := []) hx hb hml hown hts (c_O_needPerson l D cI cJ cS A S p1 _ hr1) (cwV 1 hts gX2_work_X2_needPerson rfl rfl rfl (by decide +kernel) ⟨(Nat.le_of_ble_eq_true rfl), (Nat.le_of_ble_eq_true rfl)⟩) hE hP rfl rfl rfl hl.1 rfl (Nat.le_of_ble_eq_true rfl) dX2_work_2 ⟨Nat.zero_le _, Nat.zero_le _⟩ ?_
  refine lv_aload_n hx hb dX2_work_5 rfl (lv_at hl 0 rfl) ?_
  refine va_get (D := D) (ci := 2) (v := .ref (A 0 0)) (C := RX2) (T := TX2) (N := 5) hx hb hu2 (fun _ h => h) hown hE.1 hP 0 rfl rfl 0 (Nat.le_of_ble_eq_true rfl) (hts (.fieldLink RX2 12 "CoverMeter" "now" "LCoverMeter$State;") (List.mem_of_getElem? (i := 1) rfl)) (fun _ h9 => h9) rfl dX2_work_6 ?_
  refine lv_iload_n hx hb dX2_work_9 rfl (lv_at hl 1 rfl) ?_
  obtain ⟨r2, hr2, hf⟩ := q_bd_go hf
  refine q_rdVl (w := wST cI cJ (A 0) (CM_now S)) (ci := 1) (As := [.int p1]) (rest := []) hx hb hml hown hts (c_X1_worked l D cI cJ cS (A 0) (CM_now S) p1 _ hr2) (cwV 1 hts gX2_work_X1_worked rfl rfl rfl (by decide +kernel) ⟨(Nat.le_of_ble_eq_true rfl), (Nat.le_of_ble_eq_true rfl)⟩) hE (qr_now hP) rfl rfl rfl hl.1 rfl (Nat.le_of_ble_eq_true rfl) dX2_work_10 ⟨Nat.zero_le _, Nat.zero_le _⟩ ?_
  have ho := q_some hf
  subst ho
  exact W.lret hx hb hr (fun t ht hW => ⟨rfl, ht⟩) t_nil dX2_work_13
def f_O_absence (S : CM) (p1 : Int32) (p2 : Int32) : Option Int32 := (f_O_needAbsence S p1).bind fun r1 =>
 (f_O_needInRange p2 0 6).bind fun r2 =>
 (f_X1_aboutAbsence (CM_now S) p1 p2).bind fun r3 =>
 some r3
abbrev rO_absence : Room := { frames := 4, cells := 0, slots := 0, locals := 96 }
set_option maxRecDepth 100000 in
set_option maxHeartbeats 4000000 in
theorem c_O_absence (l : Launch) (D : va_G) (cI cJ cS : ClassId) (A : Nat → Nat → Nat) (S : CM) (p1 : Int32) (p2 : Int32) (o : Int32) (hf : f_O_absence S p1 p2 = some o) : Met l yX2_absence wsX2_absence rO_absence (va_Pc [.ref (A 3 0), .int p1, .int p2] (q_B D cI cJ cS (wCR cI cJ A S))) (q_Ri o) 0 0 (fun _ => False) := by
  refine Met.ofW (cc := cX2_absence) (maxL := 3) (ret := some .int) (by decide) rfl ?_
  intro p e s m args below meth c s₁ B9 hml hv
  obtain ⟨rfl, hP, hE⟩ := hv
  have hx := B9.exec
  have hb := B9.bytes
  have hr := B9.returns
  have hts := atoms_spec (ws := wsX2_absence) B9.pre
  have hown : s.vm.findClass RX2 = some m.cls := findClass_of_methodNamed B9.named
  have hlocks := B9.notSynchronized
  have hu1 : ∀ z ∈ wsX10, z.before _ s = true := fun z h => hts z (List.mem_cons_of_mem _ (List.mem_append_left _ (List.mem_append_left _ (List.mem_append_right _ h))))
  have hu2 : ∀ z ∈ wsX20, z.before _ s = true := fun z h => hts z (List.mem_cons_of_mem _ (List.mem_append_left _ (List.mem_append_left _ (List.mem_append_left _ (List.mem_append_right _ h)))))
  have hl := lv_entry ([.ref (A 3 0), .int p1, .int p2]) (n := 3) (Nat.le_of_ble_eq_true rfl)
  rw [lg_entry_eq]
  generalize (lg_sl ([.ref (A 3 0), .int p1, .int p2]) ++ List.replicate (3 - (lg_sl ([.ref (A 3 0), .int p1, .int p2])).length) Slot.unset).toArray = ls at hl ⊢
  have hl : lv_has ls 3 [(0, .ref (A 3 0)), (1, .int p1), (2, .int p2)] := hl
  unfold f_O_absence at hf
  refine lv_aload_n hx hb dX2_absence_0 rfl (lv_at hl 0 rfl) ?_
  refine lv_iload_n hx hb dX2_absence_1 rfl (lv_at hl 1 rfl) ?_
  obtain ⟨r1, hr1, hf⟩ := q_bd_go hf
  refine q_rdVv (w := wCR cI cJ A S) (ci := 2) (As := [.int p1]) (rest := []) hx hb hml hown hts (c_O_needAbsence l D cI cJ cS A S p1 _ hr1) (cwV 1 hts gX2_absence_X2_needAbsence rfl rfl rfl (by decide +kernel) ⟨(Nat.le_of_ble_eq_true rfl), (Nat.le_of_ble_eq_true rfl)⟩) hE hP rfl rfl rfl hl.1 rfl (Nat.le_of_ble_eq_true rfl) dX2_absence_2 ⟨Nat.zero_le _, Nat.zero_le _⟩ ?_
  refine lv_iload_n hx hb dX2_absence_5 rfl (lv_at hl 2 rfl) ?_
  refine lv_iconst (v := 0) hx hb dX2_absence_6 (by decide) ?_
  refine lv_bipush (v := 6) hx hb dX2_absence_7 (by decide) ?_
  obtain ⟨r2, hr2, hf⟩ := q_bd_go hf
  refine q_rdSv (As := [.int p2, .int 0, .int 6]) (rest := []) hx hb hml hown hts (c_O_needInRange l D cI cJ cS p2 0 6 _ hr2) (va_cwS 3 hts gX2_absence_X2_needInRange rfl rfl rfl (by decide +kernel) ⟨(Nat.le_of_ble_eq_true rfl), (Nat.le_of_ble_eq_true rfl)⟩) hE rfl hl.1 rfl (Nat.le_of_ble_eq_true rfl) dX2_absence_9 ⟨Nat.zero_le _, Nat.zero_le _⟩ ?_
  refine lv_aload_n hx hb dX2_absence_12 rfl (lv_at hl 0 rfl) ?_
  refine va_get (D := D) (ci := 2) (v := .ref (A 0 0)) (C := RX2) (T := TX2) (N := 5) hx hb hu2 (fun _ h => h) hown hE.1 hP 0 rfl rfl 0 (Nat.le_of_ble_eq_true rfl) (hts (.fieldLink RX2 12 "CoverMeter" "now" "LCoverMeter$State;") (List.mem_of_getElem? (i := 1) rfl)) (fun _ h9 => h9) rfl dX2_absence_13 ?_
  refine lv_iload_n hx hb dX2_absence_16 rfl (lv_at hl 1 rfl) ?_
  refine lv_iload_n hx hb dX2_absence_17 rfl (lv_at hl 2 rfl) ?_
  obtain ⟨r3, hr3, hf⟩ := q_bd_go hf
  refine q_rdVi (w := wST cI cJ (A 0) (CM_now S)) (ci := 1) (As := [.int p1, .int p2]) (rest := []) hx hb hml hown hts (c_X1_aboutAbsence l D cI cJ cS (A 0) (CM_now S) p1 p2 _ hr3) (cwV 2 hts gX2_absence_X1_aboutAbsence rfl rfl rfl (by decide +kernel) ⟨(Nat.le_of_ble_eq_true rfl), (Nat.le_of_ble_eq_true rfl)⟩) hE (qr_now hP) rfl rfl rfl hl.1 rfl (Nat.le_of_ble_eq_true rfl) dX2_absence_18 ⟨Nat.zero_le _, Nat.zero_le _⟩ ?_
  have ho := q_some hf
  subst ho
  exact W.iret hx hb hr (fun t ht hW => ⟨rfl, ht⟩) t_nil dX2_absence_21
def f_O_bidOf (S : CM) (p1 : Int32) (p2 : Int32) : Option Int32 := (f_O_needPerson S p1).bind fun r1 =>
 (f_O_needAbsence S p2).bind fun r2 =>
 (f_X2_bidIndex p1 p2).bind fun r3 =>
 if q_in r3 240 = true then
 (some (ST_bids (CM_now S) (r3 : Int32).toNatClampNeg)) else none
abbrev rO_bidOf : Room := { frames := 2, cells := 0, slots := 0, locals := 42 }
set_option maxRecDepth 100000 in
set_option maxHeartbeats 4000000 in
theorem c_O_bidOf (l : Launch) (D : va_G) (cI cJ cS : ClassId) (A : Nat → Nat → Nat) (S : CM) (p1 : Int32) (p2 : Int32) (o : Int32) (hf : f_O_bidOf S p1 p2 = some o) : Met l yX2_bidOf wsX2_bidOf rO_bidOf (va_Pc [.ref (A 3 0), .int p1, .int p2] (q_B D cI cJ cS (wCR cI cJ A S))) (q_Ri o) 0 0 (fun _ => False) := by
  refine Met.ofW (cc := cX2_bidOf) (maxL := 3) (ret := some .int) (by decide) rfl ?_
  intro p e s m args below meth c s₁ B9 hml hv
  obtain ⟨rfl, hP, hE⟩ := hv
  have hx := B9.exec
  have hb := B9.bytes
  have hr := B9.returns
  have hts := atoms_spec (ws := wsX2_bidOf) B9.pre
  have hown : s.vm.findClass RX2 = some m.cls := findClass_of_methodNamed B9.named
  have hlocks := B9.notSynchronized
  have hu1 : ∀ z ∈ wsX10, z.before _ s = true := fun z h => hts z (List.mem_cons_of_mem _ (List.mem_append_left _ (List.mem_append_right _ h)))
  have hu2 : ∀ z ∈ wsX20, z.before _ s = true := fun z h => hts z (List.mem_cons_of_mem _ (List.mem_append_left _ (List.mem_append_left _ (List.mem_append_right _ h))))
  have hl := lv_entry ([.ref (A 3 0), .int p1, .int p2]) (n := 3) (Nat.le_of_ble_eq_true rfl)
  rw [lg_entry_eq]
  generalize (lg_sl ([.ref (A 3 0), .int p1, .int p2]) ++ List.replicate (3 - (lg_sl ([.ref (A 3 0), .int p1, .int p2])).length) Slot.unset).toArray = ls at hl ⊢
  have hl : lv_has ls 3 [(0, .ref (A 3 0)), (1, .int p1), (2, .int p2)] := hl
  unfold f_O_bidOf at hf
  refine lv_aload_n hx hb dX2_bidOf_0 rfl (lv_at hl 0 rfl) ?_
  refine lv_iload_n hx hb dX2_bidOf_1 rfl (lv_at hl 1 rfl) ?_
  obtain ⟨r1, hr1, hf⟩ := q_bd_go hf
  refine q_rdVv (w := wCR cI cJ A S) (ci := 2) (As := [.int p1]) (rest := []) hx hb hml hown hts (c_O_needPerson l D cI cJ cS A S p1 _ hr1) (cwV 1 hts gX2_bidOf_X2_needPerson rfl rfl rfl (by decide +kernel) ⟨(Nat.le_of_ble_eq_true rfl), (Nat.le_of_ble_eq_true rfl)⟩) hE hP rfl rfl rfl hl.1 rfl (Nat.le_of_ble_eq_true rfl) dX2_bidOf_2 ⟨Nat.zero_le _, Nat.zero_le _⟩ ?_
  refine lv_aload_n hx hb dX2_bidOf_5 rfl (lv_at hl 0 rfl) ?_
  refine lv_iload_n hx hb dX2_bidOf_6 rfl (lv_at hl 2 rfl) ?_
  obtain ⟨r2, hr2, hf⟩ := q_bd_go hf
  refine q_rdVv (w := wCR cI cJ A S) (ci := 2) (As := [.int p2]) (rest := []) hx hb hml hown hts (c_O_needAbsence l D cI cJ cS A S p2 _ hr2) (cwV 1 hts gX2_bidOf_X2_needAbsence rfl rfl rfl (by decide +kernel) ⟨(Nat.le_of_ble_eq_true rfl), (Nat.le_of_ble_eq_true rfl)⟩) hE hP rfl rfl rfl hl.1 rfl (Nat.le_of_ble_eq_true rfl) dX2_bidOf_7 ⟨Nat.zero_le _, Nat.zero_le _⟩ ?_
  refine lv_aload_n hx hb dX2_bidOf_10 rfl (lv_at hl 0 rfl) ?_
  refine va_get (D := D) (ci := 2) (v := .ref (A 0 0)) (C := RX2) (T := TX2) (N := 5) hx hb hu2 (fun _ h => h) hown hE.1 hP 0 rfl rfl 0 (Nat.le_of_ble_eq_true rfl) (hts (.fieldLink RX2 12 "CoverMeter" "now" "LCoverMeter$State;") (List.mem_of_getElem? (i := 1) rfl)) (fun _ h9 => h9) rfl dX2_bidOf_11 ?_
  refine va_get (D := D) (ci := 1) (v := .ref (A 0 12)) (C := RX1) (T := TX1) (N := 15) hx hb hu1 (fun _ h => h) hown hE.1 hP 1 rfl rfl 14 (Nat.le_of_ble_eq_true rfl) (hts (.fieldLink RX2 99 "CoverMeter$State" "bids" "[I") (List.mem_of_getElem? (i := 2) rfl)) (fun _ h9 => h9) rfl dX2_bidOf_14 ?_
  refine lv_iload_n hx hb dX2_bidOf_17 rfl (lv_at hl 1 rfl) ?_
  refine lv_iload_n hx hb dX2_bidOf_18 rfl (lv_at hl 2 rfl) ?_
  obtain ⟨r3, hr3, hf⟩ := q_bd_go hf
  refine q_rdSi (As := [.int p1, .int p2]) (rest := [.ref (A 0 12)]) hx hb hml hown hts (c_X2_bidIndex l D cI cJ cS p1 p2 _ hr3) (va_cwS 2 hts gX2_bidOf_X2_bidIndex rfl rfl rfl (by decide +kernel) ⟨(Nat.le_of_ble_eq_true rfl), (Nat.le_of_ble_eq_true rfl)⟩) hE rfl hl.1 rfl (Nat.le_of_ble_eq_true rfl) dX2_bidOf_19 ⟨Nat.zero_le _, Nat.zero_le _⟩ ?_
  have hi4 := q_gd_in hf
  have hf := q_gd_go hf
  refine va_iald hx hb hE.1 hP 13 0 rfl rfl hi4 dX2_bidOf_22 ?_
  have ho := q_some hf
  subst ho
  exact W.iret hx hb hr (fun t ht hW => ⟨rfl, ht⟩) t_nil dX2_bidOf_23
