def f_X3_isIn (p1 : Int64) (p2 : Int64) (p3 : Int64) : Option Int32 := if (lg_cmp p1 p2) < 0 then
 (some 0)
 else (if 0 < (lg_cmp p1 p3) then
 (some 0)
 else (some 1))
abbrev rX3_isIn : Room := { frames := 0, cells := 0, slots := 0, locals := 0 }
set_option maxRecDepth 100000 in
set_option maxHeartbeats 4000000 in
theorem c_X3_isIn (l : Launch) (D : va_G) (cI cJ cS : ClassId) (p1 : Int64) (p2 : Int64) (p3 : Int64) (o : Int32) (hf : f_X3_isIn p1 p2 p3 = some o) : Met l yX3_isIn wsX3_isIn rX3_isIn (va_Pc [.long p1, .long p2, .long p3] (q_B D cI cJ cS [])) (q_Ri o) 0 0 (fun _ => False) := by
  refine Met.ofW (cc := cX3_isIn) (maxL := 6) (ret := some .boolean) (by decide) rfl ?_
  intro p e s m args below meth c s₁ B hml hv
  obtain ⟨rfl, hP, hE⟩ := hv
  have hx := B.exec
  have hb := B.bytes
  have hr := B.returns
  have hts := atoms_spec (ws := wsX3_isIn) B.pre
  have hown : s.vm.findClass RX3 = some m.cls := findClass_of_methodNamed B.named
  have hlocks := B.notSynchronized
  have hl := lv_entry ([.long p1, .long p2, .long p3]) (n := 6) (Nat.le_of_ble_eq_true rfl)
  rw [lg_entry_eq]
  generalize (lg_sl ([.long p1, .long p2, .long p3]) ++ List.replicate (6 - (lg_sl ([.long p1, .long p2, .long p3])).length) Slot.unset).toArray = ls at hl ⊢
  have hl : lv_has ls 6 [(0, .long p1), (2, .long p2), (4, .long p3)] := hl
  unfold f_X3_isIn at hf
  refine lv_lload_n hx hb dX3_isIn_0 rfl (lv_at hl 0 rfl) ?_
  refine lv_lload_n hx hb dX3_isIn_1 rfl (lv_at hl 1 rfl) ?_
  refine W.lcmp hx hb dX3_isIn_2 ?_
  refine lv_if_lt (tgt := 17) hx hb dX3_isIn_3 (by decide) (fun c1 => ?_) (fun c1 => ?_)
  · have hf := q_ite_t c1 hf
    refine lv_iconst (v := 0) hx hb dX3_isIn_17 (by decide) ?_
    have ho := q_some hf
    subst ho
    exact W.zret hx hb hr rfl (fun t ht hW => ⟨rfl, ht⟩) t_nil dX3_isIn_18
  · have hf := q_ite_f c1 hf
    refine lv_lload_n hx hb dX3_isIn_6 rfl (lv_at hl 0 rfl) ?_
    refine lv_lload hx hb dX3_isIn_7 (lv_at hl 2 rfl) ?_
    refine W.lcmp hx hb dX3_isIn_9 ?_
    refine lv_if_gt (tgt := 17) hx hb dX3_isIn_10 (by decide) (fun c2 => ?_) (fun c2 => ?_)
    · have hf := q_ite_t c2 hf
      refine lv_iconst (v := 0) hx hb dX3_isIn_17 (by decide) ?_
      have ho := q_some hf
      subst ho
      exact W.zret hx hb hr rfl (fun t ht hW => ⟨rfl, ht⟩) t_nil dX3_isIn_18
    · have hf := q_ite_f c2 hf
      refine lv_iconst (v := 1) hx hb dX3_isIn_13 (by decide) ?_
      refine lv_goto (tgt := 18) hx hb dX3_isIn_14 (by decide) ?_
      have ho := q_some hf
      subst ho
      exact W.zret hx hb hr rfl (fun t ht hW => ⟨rfl, ht⟩) t_nil dX3_isIn_18
def f_X3_ofA (S : MD) (p1 : Int32) (p2 : Int32) : Option Int32 := if q_in ((30 + (13 * p1)) + p2) 420 = true then
 (some (((MD_now S (((30 + (13 * p1)) + p2) : Int32).toNatClampNeg) : Int64).toInt32)) else none
abbrev rX3_ofA : Room := { frames := 0, cells := 0, slots := 0, locals := 0 }
set_option maxRecDepth 100000 in
set_option maxHeartbeats 4000000 in
theorem c_X3_ofA (l : Launch) (D : va_G) (cI cJ cS : ClassId) (a : Nat → Nat) (S : MD) (p1 : Int32) (p2 : Int32) (o : Int32) (hf : f_X3_ofA S p1 p2 = some o) : Met l yX3_ofA wsX3_ofA rX3_ofA (va_Pc [.ref (a 0), .int p1, .int p2] (q_B D cI cJ cS (wMD cI cJ a S))) (q_Ri o) 0 0 (fun _ => False) := by
  refine Met.ofW (cc := cX3_ofA) (maxL := 3) (ret := some .int) (by decide) rfl ?_
  intro p e s m args below meth c s₁ B hml hv
  obtain ⟨rfl, hP, hE⟩ := hv
  have hx := B.exec
  have hb := B.bytes
  have hr := B.returns
  have hts := atoms_spec (ws := wsX3_ofA) B.pre
  have hown : s.vm.findClass RX3 = some m.cls := findClass_of_methodNamed B.named
  have hlocks := B.notSynchronized
  have hu : ∀ z ∈ wsX30, z.before _ s = true := fun z h => hts z (List.mem_cons_of_mem _ (List.mem_append_right _ h))
  have hl := lv_entry ([.ref (a 0), .int p1, .int p2]) (n := 3) (Nat.le_of_ble_eq_true rfl)
  rw [lg_entry_eq]
  generalize (lg_sl ([.ref (a 0), .int p1, .int p2]) ++ List.replicate (3 - (lg_sl ([.ref (a 0), .int p1, .int p2])).length) Slot.unset).toArray = ls at hl ⊢
  have hl : lv_has ls 3 [(0, .ref (a 0)), (1, .int p1), (2, .int p2)] := hl
  unfold f_X3_ofA at hf
  refine lv_aload_n hx hb dX3_ofA_0 rfl (lv_at hl 0 rfl) ?_
  refine va_get (D := D) (ci := 3) (v := .ref (a 1)) (C := RX3) (T := TX3) (N := 15) hx hb hu (fun _ h => h) hown hE.1 hP 0 rfl rfl 0 (Nat.le_of_ble_eq_true rfl) (hts (.fieldLink RX3 7 "CoverMeterModel" "now" "[J") (List.mem_of_getElem? (i := 1) rfl)) (fun _ h9 => h9) rfl dX3_ofA_1 ?_
  refine lv_bipush (v := 30) hx hb dX3_ofA_4 (by decide) ?_
  refine lv_bipush (v := 13) hx hb dX3_ofA_6 (by decide) ?_
  refine lv_iload_n hx hb dX3_ofA_8 rfl (lv_at hl 1 rfl) ?_
  refine lv_imul hx hb dX3_ofA_9 ?_
  refine lv_iadd hx hb dX3_ofA_10 ?_
  refine lv_iload_n hx hb dX3_ofA_11 rfl (lv_at hl 2 rfl) ?_
  refine lv_iadd hx hb dX3_ofA_12 ?_
  have hi1 := q_gd_in hf
  have hf := q_gd_go hf
  refine va_lald hx hb hE.1 hP 1 1 rfl rfl hi1 dX3_ofA_13 ?_
  refine lv_l2i (v := (((MD_now S (((30 + (13 * p1)) + p2) : Int32).toNatClampNeg) : Int64).toInt32)) hx hb dX3_ofA_14 rfl ?_
  have ho := q_some hf
  subst ho
  exact W.iret hx hb hr (fun t ht hW => ⟨rfl, ht⟩) t_nil dX3_ofA_15
def f_X3_isAbsent_5 (S : MD) : Nat → Int32 → Int32 → Int32 → Int32 → Option Int32
  | 0, _, _, _, _ => none
  | n+1, l1, l2, l3, l4 => if q_in 4 420 = true then
 (if 0 ≤ (lg_cmp ((l4 : Int32).toInt64) (MD_now S (4 : Int32).toNatClampNeg)) then
 (if l3 = 0 ∨ l3 = 1 then some l3 else none)
 else (if ¬ l3 = 0 then
 (q_let (l4 + 1) fun v4 =>
 f_X3_isAbsent_5 n S l1 l2 1 v4)
 else ((f_X3_ofA S l4 0).bind fun r5 =>
 if ¬ r5 = l1 then
 (q_let (l4 + 1) fun v7 =>
 f_X3_isAbsent_5 n S l1 l2 0 v7)
 else ((f_X3_ofA S l4 1).bind fun r8 =>
 if ¬ r8 = l2 then
 (q_let (l4 + 1) fun v10 =>
 f_X3_isAbsent_5 n S l1 l2 0 v10)
 else (q_let (l4 + 1) fun v11 =>
 f_X3_isAbsent_5 n S l1 l2 1 v11))))) else none
def f_X3_isAbsent (S : MD) (p1 : Int32) (p2 : Int32) : Option Int32 := f_X3_isAbsent_5 2000 S p1 p2 0 0
abbrev rX3_isAbsent : Room := { frames := 1, cells := 0, slots := 0, locals := 22 }
set_option maxRecDepth 100000 in
set_option maxHeartbeats 4000000 in
theorem c_X3_isAbsent (l : Launch) (D : va_G) (cI cJ cS : ClassId) (a : Nat → Nat) (S : MD) (p1 : Int32) (p2 : Int32) (o : Int32) (hf : f_X3_isAbsent S p1 p2 = some o) : Met l yX3_isAbsent wsX3_isAbsent rX3_isAbsent (va_Pc [.ref (a 0), .int p1, .int p2] (q_B D cI cJ cS (wMD cI cJ a S))) (q_Ri o) 0 0 (fun _ => False) := by
  refine Met.ofW (cc := cX3_isAbsent) (maxL := 5) (ret := some .boolean) (by decide) rfl ?_
  intro p e s m args below meth c s₁ B hml hv
  obtain ⟨rfl, hP, hE⟩ := hv
  have hx := B.exec
  have hb := B.bytes
  have hr := B.returns
  have hts := atoms_spec (ws := wsX3_isAbsent) B.pre
  have hown : s.vm.findClass RX3 = some m.cls := findClass_of_methodNamed B.named
  have hlocks := B.notSynchronized
  have hu : ∀ z ∈ wsX30, z.before _ s = true := fun z h => hts z (List.mem_cons_of_mem _ (List.mem_append_right _ h))
  have L_5 : ∀ (n : Nat) (l1 : Int32) (l2 : Int32) (l3 : Int32) (l4 : Int32) (ls : Array Slot), lv_has ls 5 [(0, .ref (a 0)), (1, .int l1), (2, .int l2), (3, .int l3), (4, .int l4)] → f_X3_isAbsent_5 S n l1 l2 l3 l4 = some o → W p l e (headSpec wsX3_isAbsent rX3_isAbsent).room s m (([.ref (a 0), .int p1, .int p2] : List Value).toArray) below meth c s.heap [] 0 0 (MQ below (q_Ri o) (([.ref (a 0), .int p1, .int p2] : List Value).toArray) s 0 0 (fun _ => False)) (F0 m 5 ls []) := by
    intro n
    induction n with
    | zero => intro l1 l2 l3 l4 ls hl hf; cases hf
    | succ n ih =>
      intro l1 l2 l3 l4 ls hl hf
      rw [f_X3_isAbsent_5] at hf
      refine lv_iload hx hb dX3_isAbsent_5 (lv_at hl 4 rfl) ?_
      refine lv_i2l (v := ((l4 : Int32).toInt64)) hx hb dX3_isAbsent_7 rfl ?_
      refine lv_aload_n hx hb dX3_isAbsent_8 rfl (lv_at hl 0 rfl) ?_
      refine va_get (D := D) (ci := 3) (v := .ref (a 1)) (C := RX3) (T := TX3) (N := 15) hx hb hu (fun _ h => h) hown hE.1 hP 0 rfl rfl 0 (Nat.le_of_ble_eq_true rfl) (hts (.fieldLink RX3 7 "CoverMeterModel" "now" "[J") (List.mem_of_getElem? (i := 1) rfl)) (fun _ h9 => h9) rfl dX3_isAbsent_9 ?_
      refine lv_iconst (v := 4) hx hb dX3_isAbsent_12 (by decide) ?_
      have hi1 := q_gd_in hf
      have hf := q_gd_go hf
      refine va_lald hx hb hE.1 hP 1 1 rfl rfl hi1 dX3_isAbsent_13 ?_
      refine W.lcmp hx hb dX3_isAbsent_14 ?_
      refine lv_if_ge (tgt := 56) hx hb dX3_isAbsent_15 (by decide) (fun c2 => ?_) (fun c2 => ?_)
      · have hf := q_ite_t c2 hf
        refine lv_iload_n hx hb dX3_isAbsent_56 rfl (lv_at hl 3 rfl) ?_
        have hbo := q_gc_in hf
        have hf := q_ite_t hbo hf
        have ho := q_some hf
        subst ho
        exact W.zret hx hb hr (q_nz hbo) (fun t ht hW => ⟨rfl, ht⟩) t_nil dX3_isAbsent_57
      · have hf := q_ite_f c2 hf
        refine lv_iload_n hx hb dX3_isAbsent_18 rfl (lv_at hl 3 rfl) ?_
        refine lv_if_ne (tgt := 44) hx hb dX3_isAbsent_19 (by decide) (fun c3 => ?_) (fun c3 => ?_)
        · have hf := q_ite_t c3 hf
          refine lv_iconst (v := 1) hx hb dX3_isAbsent_44 (by decide) ?_
          refine lv_goto (tgt := 49) hx hb dX3_isAbsent_45 (by decide) ?_
          refine lv_istore_n (lv' := [(3, .int 1), (0, .ref (a 0)), (1, .int l1), (2, .int l2), (4, .int l4)]) hx hb dX3_isAbsent_49 rfl hl (by decide) rfl (fun ls hl => ?_)
          obtain ⟨v4, ev4, hf⟩ := q_let_go hf
          refine lv_iinc (v := v4) (lv' := [(4, .int v4), (3, .int 1), (0, .ref (a 0)), (1, .int l1), (2, .int l2)]) hx hb dX3_isAbsent_50 hl (k := 4) rfl (by rw [← ev4]; rfl) (by decide) rfl (fun ls hl => ?_)
          refine lv_goto (tgt := 5) hx hb dX3_isAbsent_53 (by decide) ?_
          exact ih l1 l2 1 v4 _ (lv_sub hl [2, 3, 4, 1, 0] rfl) hf
        · have hf := q_ite_f c3 hf
          refine lv_aload_n hx hb dX3_isAbsent_22 rfl (lv_at hl 0 rfl) ?_
          refine lv_iload hx hb dX3_isAbsent_23 (lv_at hl 4 rfl) ?_
          refine lv_iconst (v := 0) hx hb dX3_isAbsent_25 (by decide) ?_
          obtain ⟨r5, hr5, hf⟩ := q_bd_go hf
          refine q_rdVi (ci := 3) (As := [.int l4, .int 0]) (rest := []) hx hb hml hown hts (c_X3_ofA l D cI cJ cS a S l4 0 _ hr5) (cwV 2 hts gX3_isAbsent_X3_ofA rfl rfl rfl (by decide +kernel) ⟨(Nat.le_of_ble_eq_true rfl), (Nat.le_of_ble_eq_true rfl)⟩) hE hP rfl rfl rfl hl.1 rfl (Nat.le_of_ble_eq_true rfl) dX3_isAbsent_26 ⟨Nat.zero_le _, Nat.zero_le _⟩ ?_
          refine lv_iload_n hx hb dX3_isAbsent_29 rfl (lv_at hl 1 rfl) ?_
          refine lv_icmp_ne (tgt := 48) hx hb dX3_isAbsent_30 (by decide) (fun c6 => ?_) (fun c6 => ?_)
          · have hf := q_ite_t c6 hf
            refine lv_iconst (v := 0) hx hb dX3_isAbsent_48 (by decide) ?_
            refine lv_istore_n (lv' := [(3, .int 0), (0, .ref (a 0)), (1, .int l1), (2, .int l2), (4, .int l4)]) hx hb dX3_isAbsent_49 rfl hl (by decide) rfl (fun ls hl => ?_)
            obtain ⟨v7, ev7, hf⟩ := q_let_go hf
            refine lv_iinc (v := v7) (lv' := [(4, .int v7), (3, .int 0), (0, .ref (a 0)), (1, .int l1), (2, .int l2)]) hx hb dX3_isAbsent_50 hl (k := 4) rfl (by rw [← ev7]; rfl) (by decide) rfl (fun ls hl => ?_)
            refine lv_goto (tgt := 5) hx hb dX3_isAbsent_53 (by decide) ?_
            exact ih l1 l2 0 v7 _ (lv_sub hl [2, 3, 4, 1, 0] rfl) hf
          · have hf := q_ite_f c6 hf
            refine lv_aload_n hx hb dX3_isAbsent_33 rfl (lv_at hl 0 rfl) ?_
            refine lv_iload hx hb dX3_isAbsent_34 (lv_at hl 4 rfl) ?_
            refine lv_iconst (v := 1) hx hb dX3_isAbsent_36 (by decide) ?_
            obtain ⟨r8, hr8, hf⟩ := q_bd_go hf
            refine q_rdVi (ci := 3) (As := [.int l4, .int 1]) (rest := []) hx hb hml hown hts (c_X3_ofA l D cI cJ cS a S l4 1 _ hr8) (cwV 2 hts gX3_isAbsent_X3_ofA rfl rfl rfl (by decide +kernel) ⟨(Nat.le_of_ble_eq_true rfl), (Nat.le_of_ble_eq_true rfl)⟩) hE hP rfl rfl rfl hl.1 rfl (Nat.le_of_ble_eq_true rfl) dX3_isAbsent_37 ⟨Nat.zero_le _, Nat.zero_le _⟩ ?_
            refine lv_iload_n hx hb dX3_isAbsent_40 rfl (lv_at hl 2 rfl) ?_
            refine lv_icmp_ne (tgt := 48) hx hb dX3_isAbsent_41 (by decide) (fun c9 => ?_) (fun c9 => ?_)
            · have hf := q_ite_t c9 hf
              refine lv_iconst (v := 0) hx hb dX3_isAbsent_48 (by decide) ?_
              refine lv_istore_n (lv' := [(3, .int 0), (0, .ref (a 0)), (1, .int l1), (2, .int l2), (4, .int l4)]) hx hb dX3_isAbsent_49 rfl hl (by decide) rfl (fun ls hl => ?_)
              obtain ⟨v10, ev10, hf⟩ := q_let_go hf
              refine lv_iinc (v := v10) (lv' := [(4, .int v10), (3, .int 0), (0, .ref (a 0)), (1, .int l1), (2, .int l2)]) hx hb dX3_isAbsent_50 hl (k := 4) rfl (by rw [← ev10]; rfl) (by decide) rfl (fun ls hl => ?_)
              refine lv_goto (tgt := 5) hx hb dX3_isAbsent_53 (by decide) ?_
              exact ih l1 l2 0 v10 _ (lv_sub hl [2, 3, 4, 1, 0] rfl) hf
            · have hf := q_ite_f c9 hf
              refine lv_iconst (v := 1) hx hb dX3_isAbsent_44 (by decide) ?_
              refine lv_goto (tgt := 49) hx hb dX3_isAbsent_45 (by decide) ?_
              refine lv_istore_n (lv' := [(3, .int 1), (0, .ref (a 0)), (1, .int l1), (2, .int l2), (4, .int l4)]) hx hb dX3_isAbsent_49 rfl hl (by decide) rfl (fun ls hl => ?_)
              obtain ⟨v11, ev11, hf⟩ := q_let_go hf
              refine lv_iinc (v := v11) (lv' := [(4, .int v11), (3, .int 1), (0, .ref (a 0)), (1, .int l1), (2, .int l2)]) hx hb dX3_isAbsent_50 hl (k := 4) rfl (by rw [← ev11]; rfl) (by decide) rfl (fun ls hl => ?_)
              refine lv_goto (tgt := 5) hx hb dX3_isAbsent_53 (by decide) ?_
              exact ih l1 l2 1 v11 _ (lv_sub hl [2, 3, 4, 1, 0] rfl) hf
  have hl := lv_entry ([.ref (a 0), .int p1, .int p2]) (n := 5) (Nat.le_of_ble_eq_true rfl)
  rw [lg_entry_eq]
  generalize (lg_sl ([.ref (a 0), .int p1, .int p2]) ++ List.replicate (5 - (lg_sl ([.ref (a 0), .int p1, .int p2])).length) Slot.unset).toArray = ls at hl ⊢
  have hl : lv_has ls 5 [(0, .ref (a 0)), (1, .int p1), (2, .int p2)] := hl
  unfold f_X3_isAbsent at hf
  refine lv_iconst (v := 0) hx hb dX3_isAbsent_0 (by decide) ?_
  refine lv_istore_n (lv' := [(3, .int 0), (0, .ref (a 0)), (1, .int p1), (2, .int p2)]) hx hb dX3_isAbsent_1 rfl hl (by decide) rfl (fun ls hl => ?_)
  refine lv_iconst (v := 0) hx hb dX3_isAbsent_2 (by decide) ?_
  refine lv_istore (lv' := [(4, .int 0), (3, .int 0), (0, .ref (a 0)), (1, .int p1), (2, .int p2)]) hx hb dX3_isAbsent_3 hl (by decide) rfl (fun ls hl => ?_)
  exact L_5 2000 p1 p2 0 0 _ (lv_sub hl [2, 3, 4, 1, 0] rfl) hf
def f_X3_becomes (S : MD) (p1 : Int32) (p2 : Int32) (p3 : Int32) : Option MD := if q_in ((30 + (13 * p1)) + p2) 420 = true then
 (q_let (sMD_now S (vp_updL (MD_now S) (((30 + (13 * p1)) + p2) : Int32).toNatClampNeg ((p3 : Int32).toInt64))) fun S2 =>
 some S2) else none
abbrev rX3_becomes : Room := { frames := 0, cells := 0, slots := 0, locals := 0 }
set_option maxRecDepth 100000 in
set_option maxHeartbeats 4000000 in
theorem c_X3_becomes (l : Launch) (D : va_G) (cI cJ cS : ClassId) (a : Nat → Nat) (S : MD) (sz : Nat) (p1 : Int32) (p2 : Int32) (p3 : Int32) (o : MD) (hf : f_X3_becomes S p1 p2 p3 = some o) : Met l yX3_becomes wsX3_becomes rX3_becomes (va_Pc [.ref (a 0), .int p1, .int p2, .int p3] (q_BW D cI cJ cS (wMD cI cJ a S) sz)) (q_Wo none D (wMD cI cJ a S) (wMD cI cJ a o) sz) 0 0 (va_A (wMD cI cJ a S) sz) := by
  refine Met.ofW (cc := cX3_becomes) (maxL := 4) (ret := none) (by decide) rfl ?_
  intro p e s m args below meth c s₁ B hml hv
  obtain ⟨rfl, hsz, hP, hE, hD0⟩ := hv
  have hx := B.exec
  have hb := B.bytes
  have hr := B.returns
  have hts := atoms_spec (ws := wsX3_becomes) B.pre
  have hown : s.vm.findClass RX3 = some m.cls := findClass_of_methodNamed B.named
  have hlocks := B.notSynchronized
  have hu : ∀ z ∈ wsX30, z.before _ s = true := fun z h => hts z (List.mem_cons_of_mem _ (List.mem_append_right _ h))
  subst hsz
  have hD := hD0.self (sz := s.heap.size)
  have hS : va_S (va_A (wMD cI cJ a S) s.heap.size) s.heap s.heap [] := va_S.rf
  have hl := lv_entry ([.ref (a 0), .int p1, .int p2, .int p3]) (n := 4) (Nat.le_of_ble_eq_true rfl)
  rw [lg_entry_eq]
  generalize (lg_sl ([.ref (a 0), .int p1, .int p2, .int p3]) ++ List.replicate (4 - (lg_sl ([.ref (a 0), .int p1, .int p2, .int p3])).length) Slot.unset).toArray = ls at hl ⊢
  have hl : lv_has ls 4 [(0, .ref (a 0)), (1, .int p1), (2, .int p2), (3, .int p3)] := hl
  unfold f_X3_becomes at hf
  refine lv_aload_n hx hb dX3_becomes_0 rfl (lv_at hl 0 rfl) ?_
  refine va_get (D := D) (ci := 3) (v := .ref (a 1)) (C := RX3) (T := TX3) (N := 15) hx hb hu (fun _ h => h) hown hE.1 hP 0 rfl rfl 0 (Nat.le_of_ble_eq_true rfl) (hts (.fieldLink RX3 7 "CoverMeterModel" "now" "[J") (List.mem_of_getElem? (i := 1) rfl)) (fun _ h9 => h9) rfl dX3_becomes_1 ?_
  refine lv_bipush (v := 30) hx hb dX3_becomes_4 (by decide) ?_
  refine lv_bipush (v := 13) hx hb dX3_becomes_6 (by decide) ?_
  refine lv_iload_n hx hb dX3_becomes_8 rfl (lv_at hl 1 rfl) ?_
  refine lv_imul hx hb dX3_becomes_9 ?_
  refine lv_iadd hx hb dX3_becomes_10 ?_
  refine lv_iload_n hx hb dX3_becomes_11 rfl (lv_at hl 2 rfl) ?_
  refine lv_iadd hx hb dX3_becomes_12 ?_
  refine lv_iload_n hx hb dX3_becomes_13 rfl (lv_at hl 3 rfl) ?_
  refine lv_i2l (v := ((p3 : Int32).toInt64)) hx hb dX3_becomes_14 rfl ?_
  have hi1 := q_gd_in hf
  have hf := q_gd_go hf
  obtain ⟨S2, eS2, hf⟩ := q_let_go hf
  refine va_last hx hb hE.1 hP hD hS 1 1 rfl rfl hi1 dX3_becomes_15 (fun H locs hP hD hS => ?_)
  have hP : va_P D vwCl (wMD cI cJ a (sMD_now S (vp_updL (MD_now S) (((30 + (13 * p1)) + p2) : Int32).toNatClampNeg ((p3 : Int32).toInt64)))) H := hP
  have hD : va_D (va_A (wMD cI cJ a S) s.heap.size) (wMD cI cJ a (sMD_now S (vp_updL (MD_now S) (((30 + (13 * p1)) + p2) : Int32).toNatClampNeg ((p3 : Int32).toInt64)))) := hD
  rw [eS2] at hP hD
  have ho := q_some hf
  subst ho
  exact W.vret hx hb hr (fun t ht hW => ⟨rfl, ⟨by rw [ht]; exact hP, hD⟩, hS.F ht⟩) hS.2.2 dX3_becomes_16
def f_X3_keeps_2 : Nat → MD → Int32 → Int32 → Option MD
  | 0, _, _, _ => none
  | n+1, S2, l1, l2 => if 420 ≤ l2 then
 (some S2)
 else (if q_in l2 420 = true then
 (if q_in ((l1 * 420) + l2) 2100 = true then
 (q_let (sMD_kept S2 (vp_updL (MD_kept S2) (((l1 * 420) + l2) : Int32).toNatClampNeg (MD_now S2 (l2 : Int32).toNatClampNeg))) fun S4 =>
 q_let (l2 + 1) fun v5 =>
 f_X3_keeps_2 n S4 l1 v5) else none) else none)
def f_X3_keeps (S : MD) (p1 : Int32) : Option MD := f_X3_keeps_2 2000 S p1 0
abbrev rX3_keeps : Room := { frames := 0, cells := 0, slots := 0, locals := 0 }
set_option maxRecDepth 100000 in
set_option maxHeartbeats 4000000 in
theorem c_X3_keeps (l : Launch) (D : va_G) (cI cJ cS : ClassId) (a : Nat → Nat) (S : MD) (sz : Nat) (p1 : Int32) (o : MD) (hf : f_X3_keeps S p1 = some o) : Met l yX3_keeps wsX3_keeps rX3_keeps (va_Pc [.ref (a 0), .int p1] (q_BW D cI cJ cS (wMD cI cJ a S) sz)) (q_Wo none D (wMD cI cJ a S) (wMD cI cJ a o) sz) 0 0 (va_A (wMD cI cJ a S) sz) := by
  refine Met.ofW (cc := cX3_keeps) (maxL := 3) (ret := none) (by decide) rfl ?_
  intro p e s m args below meth c s₁ B hml hv
  obtain ⟨rfl, hsz, hP, hE, hD0⟩ := hv
  have hx := B.exec
  have hb := B.bytes
  have hr := B.returns
  have hts := atoms_spec (ws := wsX3_keeps) B.pre
  have hown : s.vm.findClass RX3 = some m.cls := findClass_of_methodNamed B.named
  have hlocks := B.notSynchronized
  have hu : ∀ z ∈ wsX30, z.before _ s = true := fun z h => hts z (List.mem_cons_of_mem _ (List.mem_append_right _ h))
  subst hsz
  have hD := hD0.self (sz := s.heap.size)
  have hS : va_S (va_A (wMD cI cJ a S) s.heap.size) s.heap s.heap [] := va_S.rf
  have L_2 : ∀ (n : Nat) (S2 : MD) (H : Heap) (locs : List Loc) (hP : va_P D vwCl (wMD cI cJ a S2) H) (hD : va_D (va_A (wMD cI cJ a S) s.heap.size) (wMD cI cJ a S2)) (hS : va_S (va_A (wMD cI cJ a S) s.heap.size) s.heap H locs) (l1 : Int32) (l2 : Int32) (ls : Array Slot), lv_has ls 3 [(0, .ref (a 0)), (1, .int l1), (2, .int l2)] → f_X3_keeps_2 n S2 l1 l2 = some o → W p l e (headSpec wsX3_keeps rX3_keeps).room s m (([.ref (a 0), .int p1] : List Value).toArray) below meth c H locs 0 0 (MQ below (q_Wo none D (wMD cI cJ a S) (wMD cI cJ a o) s.heap.size) (([.ref (a 0), .int p1] : List Value).toArray) s 0 0 (va_A (wMD cI cJ a S) s.heap.size)) (F0 m 2 ls []) := by
    intro n
    induction n with
    | zero => intro S2 H locs hP hD hS l1 l2 ls hl hf; cases hf
    | succ n ih =>
      intro S2 H locs hP hD hS l1 l2 ls hl hf
      rw [f_X3_keeps_2] at hf
      refine lv_iload_n hx hb dX3_keeps_2 rfl (lv_at hl 2 rfl) ?_
      refine lv_sipush (v := 420) hx hb dX3_keeps_3 (by decide) ?_
      refine lv_icmp_ge (tgt := 33) hx hb dX3_keeps_6 (by decide) (fun c1 => ?_) (fun c1 => ?_)
      · have hf := q_ite_t c1 hf
        have ho := q_some hf
        subst ho
        exact W.vret hx hb hr (fun t ht hW => ⟨rfl, ⟨by rw [ht]; exact hP, hD⟩, hS.F ht⟩) hS.2.2 dX3_keeps_33
      · have hf := q_ite_f c1 hf
        refine lv_aload_n hx hb dX3_keeps_9 rfl (lv_at hl 0 rfl) ?_
        refine va_get (D := D) (ci := 3) (v := .ref (a 2)) (C := RX3) (T := TX3) (N := 15) hx hb hu (fun _ h => h) hown hE.1 hP 0 rfl rfl 1 (Nat.le_of_ble_eq_true rfl) (hts (.fieldLink RX3 13 "CoverMeterModel" "kept" "[J") (List.mem_of_getElem? (i := 1) rfl)) (fun _ h9 => h9) rfl dX3_keeps_10 ?_
        refine lv_iload_n hx hb dX3_keeps_13 rfl (lv_at hl 1 rfl) ?_
        refine lv_sipush (v := 420) hx hb dX3_keeps_14 (by decide) ?_
        refine lv_imul hx hb dX3_keeps_17 ?_
        refine lv_iload_n hx hb dX3_keeps_18 rfl (lv_at hl 2 rfl) ?_
        refine lv_iadd hx hb dX3_keeps_19 ?_
        refine lv_aload_n hx hb dX3_keeps_20 rfl (lv_at hl 0 rfl) ?_
        refine va_get (D := D) (ci := 3) (v := .ref (a 1)) (C := RX3) (T := TX3) (N := 15) hx hb hu (fun _ h => h) hown hE.1 hP 0 rfl rfl 0 (Nat.le_of_ble_eq_true rfl) (hts (.fieldLink RX3 7 "CoverMeterModel" "now" "[J") (List.mem_of_getElem? (i := 2) rfl)) (fun _ h9 => h9) rfl dX3_keeps_21 ?_
        refine lv_iload_n hx hb dX3_keeps_24 rfl (lv_at hl 2 rfl) ?_
        have hi2 := q_gd_in hf
        have hf := q_gd_go hf
        refine va_lald hx hb hE.1 hP 1 1 rfl rfl hi2 dX3_keeps_25 ?_
        have hi3 := q_gd_in hf
        have hf := q_gd_go hf
        obtain ⟨S4, eS4, hf⟩ := q_let_go hf
        refine va_last hx hb hE.1 hP hD hS 2 1 rfl rfl hi3 dX3_keeps_26 (fun H locs hP hD hS => ?_)
        have hP : va_P D vwCl (wMD cI cJ a (sMD_kept S2 (vp_updL (MD_kept S2) (((l1 * 420) + l2) : Int32).toNatClampNeg (MD_now S2 (l2 : Int32).toNatClampNeg)))) H := hP
        have hD : va_D (va_A (wMD cI cJ a S) s.heap.size) (wMD cI cJ a (sMD_kept S2 (vp_updL (MD_kept S2) (((l1 * 420) + l2) : Int32).toNatClampNeg (MD_now S2 (l2 : Int32).toNatClampNeg)))) := hD
        rw [eS4] at hP hD
        obtain ⟨v5, ev5, hf⟩ := q_let_go hf
        refine lv_iinc (v := v5) (lv' := [(2, .int v5), (0, .ref (a 0)), (1, .int l1)]) hx hb dX3_keeps_27 hl (k := 2) rfl (by rw [← ev5]; rfl) (by decide) rfl (fun ls hl => ?_)
        refine lv_goto (tgt := 2) hx hb dX3_keeps_30 (by decide) ?_
        exact ih S4 _ _ hP hD hS l1 v5 _ (lv_sub hl [1, 2, 0] rfl) hf
  have hl := lv_entry ([.ref (a 0), .int p1]) (n := 3) (Nat.le_of_ble_eq_true rfl)
  rw [lg_entry_eq]
  generalize (lg_sl ([.ref (a 0), .int p1]) ++ List.replicate (3 - (lg_sl ([.ref (a 0), .int p1])).length) Slot.unset).toArray = ls at hl ⊢
  have hl : lv_has ls 3 [(0, .ref (a 0)), (1, .int p1)] := hl
  unfold f_X3_keeps at hf
  refine lv_iconst (v := 0) hx hb dX3_keeps_0 (by decide) ?_
  refine lv_istore_n (lv' := [(2, .int 0), (0, .ref (a 0)), (1, .int p1)]) hx hb dX3_keeps_1 rfl hl (by decide) rfl (fun ls hl => ?_)
  exact L_2 2000 S _ _ hP hD hS p1 0 _ (lv_sub hl [1, 2, 0] rfl) hf
def f_X3_clearsBids_2 : Nat → MD → Int32 → Int32 → Option MD
  | 0, _, _, _ => none
  | n+1, S2, l1, l2 => if 8 ≤ l2 then
 (some S2)
 else ((f_X3_becomes S2 l1 (5 + l2) (-1)).bind fun r2 =>
 q_let (l2 + 1) fun v3 =>
 f_X3_clearsBids_2 n r2 l1 v3)
def f_X3_clearsBids (S : MD) (p1 : Int32) : Option MD := f_X3_clearsBids_2 2000 S p1 0
abbrev rX3_clearsBids : Room := { frames := 1, cells := 0, slots := 0, locals := 23 }
set_option maxRecDepth 100000 in
set_option maxHeartbeats 4000000 in
theorem c_X3_clearsBids (l : Launch) (D : va_G) (cI cJ cS : ClassId) (a : Nat → Nat) (S : MD) (sz : Nat) (p1 : Int32) (o : MD) (hf : f_X3_clearsBids S p1 = some o) : Met l yX3_clearsBids wsX3_clearsBids rX3_clearsBids (va_Pc [.ref (a 0), .int p1] (q_BW D cI cJ cS (wMD cI cJ a S) sz)) (q_Wo none D (wMD cI cJ a S) (wMD cI cJ a o) sz) 0 0 (va_A (wMD cI cJ a S) sz) := by
  refine Met.ofW (cc := cX3_clearsBids) (maxL := 3) (ret := none) (by decide) rfl ?_
  intro p e s m args below meth c s₁ B hml hv
  obtain ⟨rfl, hsz, hP, hE, hD0⟩ := hv
  have hx := B.exec
  have hb := B.bytes
  have hr := B.returns
  have hts := atoms_spec (ws := wsX3_clearsBids) B.pre
  have hown : s.vm.findClass RX3 = some m.cls := findClass_of_methodNamed B.named
  have hlocks := B.notSynchronized
  subst hsz
  have hD := hD0.self (sz := s.heap.size)
  have hS : va_S (va_A (wMD cI cJ a S) s.heap.size) s.heap s.heap [] := va_S.rf
  have L_2 : ∀ (n : Nat) (S2 : MD) (H : Heap) (locs : List Loc) (hP : va_P D vwCl (wMD cI cJ a S2) H) (hD : va_D (va_A (wMD cI cJ a S) s.heap.size) (wMD cI cJ a S2)) (hS : va_S (va_A (wMD cI cJ a S) s.heap.size) s.heap H locs) (l1 : Int32) (l2 : Int32) (ls : Array Slot), lv_has ls 3 [(0, .ref (a 0)), (1, .int l1), (2, .int l2)] → f_X3_clearsBids_2 n S2 l1 l2 = some o → W p l e (headSpec wsX3_clearsBids rX3_clearsBids).room s m (([.ref (a 0), .int p1] : List Value).toArray) below meth c H locs 0 0 (MQ below (q_Wo none D (wMD cI cJ a S) (wMD cI cJ a o) s.heap.size) (([.ref (a 0), .int p1] : List Value).toArray) s 0 0 (va_A (wMD cI cJ a S) s.heap.size)) (F0 m 2 ls []) := by
    intro n
    induction n with
    | zero => intro S2 H locs hP hD hS l1 l2 ls hl hf; cases hf
    | succ n ih =>
      intro S2 H locs hP hD hS l1 l2 ls hl hf
      rw [f_X3_clearsBids_2] at hf
      refine lv_iload_n hx hb dX3_clearsBids_2 rfl (lv_at hl 2 rfl) ?_
      refine lv_bipush (v := 8) hx hb dX3_clearsBids_3 (by decide) ?_
      refine lv_icmp_ge (tgt := 23) hx hb dX3_clearsBids_5 (by decide) (fun c1 => ?_) (fun c1 => ?_)
      · have hf := q_ite_t c1 hf
        have ho := q_some hf
        subst ho
        exact W.vret hx hb hr (fun t ht hW => ⟨rfl, ⟨by rw [ht]; exact hP, hD⟩, hS.F ht⟩) hS.2.2 dX3_clearsBids_23
      · have hf := q_ite_f c1 hf
        refine lv_aload_n hx hb dX3_clearsBids_8 rfl (lv_at hl 0 rfl) ?_
        refine lv_iload_n hx hb dX3_clearsBids_9 rfl (lv_at hl 1 rfl) ?_
        refine lv_iconst (v := 5) hx hb dX3_clearsBids_10 (by decide) ?_
        refine lv_iload_n hx hb dX3_clearsBids_11 rfl (lv_at hl 2 rfl) ?_
        refine lv_iadd hx hb dX3_clearsBids_12 ?_
        refine lv_iconst (v := (-1)) hx hb dX3_clearsBids_13 (by decide) ?_
        obtain ⟨r2, hr2, hf⟩ := q_bd_go hf
        refine q_wrVv (ci := 3) (As := [.int l1, .int (5 + l2), .int (-1)]) (rest := []) hx hb hml hown hts (c_X3_becomes l D cI cJ cS a S2 H.size l1 (5 + l2) (-1) _ hr2) (cwV 3 hts gX3_clearsBids_X3_becomes rfl rfl rfl (by decide +kernel) ⟨(Nat.le_of_ble_eq_true rfl), (Nat.le_of_ble_eq_true rfl)⟩) hE hP hD hS (fun q h => Or.inr h) rfl rfl rfl hl.1 rfl (Nat.le_of_ble_eq_true rfl) dX3_clearsBids_14 ⟨Nat.zero_le _, Nat.zero_le _⟩ (fun H locs hP hD hS => ?_)
        obtain ⟨v3, ev3, hf⟩ := q_let_go hf
        refine lv_iinc (v := v3) (lv' := [(2, .int v3), (0, .ref (a 0)), (1, .int l1)]) hx hb dX3_clearsBids_17 hl (k := 2) rfl (by rw [← ev3]; rfl) (by decide) rfl (fun ls hl => ?_)
        refine lv_goto (tgt := 2) hx hb dX3_clearsBids_20 (by decide) ?_
        exact ih r2 _ _ hP hD hS l1 v3 _ (lv_sub hl [1, 2, 0] rfl) hf
  have hl := lv_entry ([.ref (a 0), .int p1]) (n := 3) (Nat.le_of_ble_eq_true rfl)
  rw [lg_entry_eq]
  generalize (lg_sl ([.ref (a 0), .int p1]) ++ List.replicate (3 - (lg_sl ([.ref (a 0), .int p1])).length) Slot.unset).toArray = ls at hl ⊢
  have hl : lv_has ls 3 [(0, .ref (a 0)), (1, .int p1)] := hl
  unfold f_X3_clearsBids at hf
  refine lv_iconst (v := 0) hx hb dX3_clearsBids_0 (by decide) ?_
  refine lv_istore_n (lv' := [(2, .int 0), (0, .ref (a 0)), (1, .int p1)]) hx hb dX3_clearsBids_1 rfl hl (by decide) rfl (fun ls hl => ?_)
  exact L_2 2000 S _ _ hP hD hS p1 0 _ (lv_sub hl [1, 2, 0] rfl) hf
