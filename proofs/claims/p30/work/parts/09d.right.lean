def f_L_isAbsenceRight_151 (S : CM) (l1 : Int32) (l5 : Int32) : Option Int32 := if ¬ l5 = 0 then
 (some 1)
 else ((f_O_absence S l1 4).bind fun r10 =>
 if ¬ r10 = 0 then
 (some 0)
 else (some 1))
def f_L_isAbsenceRight_131 (S : CM) (l1 : Int32) (l3 : Int32) (l5 : Int32) (t0 : Int32) : Option Int32 := if t0 = 0 then
 (some 0)
 else (if l3 = 0 then
 (f_L_isAbsenceRight_151 S l1 l5)
 else ((f_O_absence S l1 5).bind fun r12 =>
 if ¬ r12 = 0 then
 (some 0)
 else (f_L_isAbsenceRight_151 S l1 l5)))
def f_L_isAbsenceRight_88 (S : CM) (l1 : Int32) (l2 : Int32) (l3 : Int32) (l4 : Int32) (l5 : Int32) (t0 : Int32) : Option Int32 := if t0 = 0 then
 (f_L_isAbsenceRight_131 S l1 l3 l5 0)
 else (if l5 = 0 then
 (f_L_isAbsenceRight_131 S l1 l3 l5 1)
 else ((f_O_work S l4).bind fun r15 =>
 if ¬ (lg_cmp ((r15 >>> ((l2 : Int32).toInt64 &&& 63)) &&& 1) 1) = 0 then
 (f_L_isAbsenceRight_131 S l1 l3 l5 0)
 else ((f_O_absence S l1 0).bind fun r17 =>
 if l4 = r17 then
 (f_L_isAbsenceRight_131 S l1 l3 l5 0)
 else (f_L_isAbsenceRight_131 S l1 l3 l5 1))))
def f_L_isAbsenceRight_61 (S : CM) (l1 : Int32) (l2 : Int32) (l3 : Int32) (l4 : Int32) (l5 : Int32) (t0 : Int32) (t1 : Int32) : Option Int32 := if ¬ t1 = t0 then
 (f_L_isAbsenceRight_88 S l1 l2 l3 l4 l5 0)
 else ((f_O_absence S l1 0).bind fun r22 =>
 (f_O_work S r22).bind fun r23 =>
 if ¬ (lg_cmp ((r23 >>> ((l2 : Int32).toInt64 &&& 63)) &&& 1) 0) = 0 then
 (f_L_isAbsenceRight_88 S l1 l2 l3 l4 l5 0)
 else (f_L_isAbsenceRight_88 S l1 l2 l3 l4 l5 1))
def f_L_isAbsenceRight_37 (S : CM) (l1 : Int32) (l2 : Int32) (l3 : Int32) (l4 : Int32) (t0 : Int32) : Option Int32 := if l3 < 0 then
 (f_L_isAbsenceRight_88 S l1 l2 l3 l4 t0 0)
 else (if 4 ≤ l3 then
 (f_L_isAbsenceRight_88 S l1 l2 l3 l4 t0 0)
 else (if l4 = (-1) then
 (f_L_isAbsenceRight_61 S l1 l2 l3 l4 t0 0 t0)
 else (f_L_isAbsenceRight_61 S l1 l2 l3 l4 t0 1 t0)))
def f_L_isAbsenceRight (S : CM) (p1 : Int32) : Option Int32 := (f_O_absence S p1 1).bind fun r1 =>
 (f_O_absence S p1 2).bind fun r2 =>
 (f_O_absence S p1 3).bind fun r3 =>
 if r2 = 1 then
 (f_L_isAbsenceRight_37 S p1 r1 r2 r3 1)
 else (if ¬ r2 = 2 then
 (f_L_isAbsenceRight_37 S p1 r1 r2 r3 0)
 else (f_L_isAbsenceRight_37 S p1 r1 r2 r3 1))
abbrev rL_isAbsenceRight : Room := { frames := 5, cells := 0, slots := 0, locals := 118 }
set_option maxRecDepth 100000 in
set_option maxHeartbeats 4000000 in
theorem c_L_isAbsenceRight (l : Launch) (D : va_G) (cI cJ cS : ClassId) (A : Nat → Nat → Nat) (S : CM) (p1 : Int32) (o : Int32) (hf : f_L_isAbsenceRight S p1 = some o) : Met l yL_isAbsenceRight wsL_isAbsenceRight rL_isAbsenceRight (va_Pc [.ref (A 3 0), .int p1] (q_B D cI cJ cS (wCR cI cJ A S))) (q_Ri o) 0 0 (fun _ => False) := by
  refine Met.ofW (cc := cL_isAbsenceRight) (maxL := 7) (ret := some .boolean) (by decide) rfl ?_
  intro p e s m args below meth c s₁ B9 hml hv
  obtain ⟨rfl, hP, hE⟩ := hv
  have hx := B9.exec
  have hb := B9.bytes
  have hr := B9.returns
  have hts := atoms_spec (ws := wsL_isAbsenceRight) B9.pre
  have hown : s.vm.findClass RL = some m.cls := findClass_of_methodNamed B9.named
  have hlocks := B9.notSynchronized
  have B_151 : ∀ (l1 : Int32) (l5 : Int32) (ls : Array Slot), lv_has ls 7 [(0, .ref (A 3 0)), (1, .int l1), (5, .int l5)] → f_L_isAbsenceRight_151 S l1 l5 = some o → W p l e (headSpec wsL_isAbsenceRight rL_isAbsenceRight).room s m (([.ref (A 3 0), .int p1] : List Value).toArray) below meth c s.heap [] 0 0 (MQ below (q_Ri o) (([.ref (A 3 0), .int p1] : List Value).toArray) s 0 0 (fun _ => False)) (F0 m 151 ls []) := by
    intro l1 l5 ls hl hf
    unfold f_L_isAbsenceRight_151 at hf
    refine lv_iload hx hb dL_isAbsenceRight_151 (lv_at hl 2 rfl) ?_
    refine lv_if_ne (tgt := 165) hx hb dL_isAbsenceRight_153 (by decide) (fun c9 => ?_) (fun c9 => ?_)
    · have hf := q_ite_t c9 hf
      refine lv_iconst (v := 1) hx hb dL_isAbsenceRight_165 (by decide) ?_
      refine lv_goto (tgt := 170) hx hb dL_isAbsenceRight_166 (by decide) ?_
      have ho := q_some hf
      subst ho
      exact W.zret hx hb hr rfl (fun t ht hW => ⟨rfl, ht⟩) t_nil dL_isAbsenceRight_170
    · have hf := q_ite_n c9 hf
      refine lv_aload_n hx hb dL_isAbsenceRight_156 rfl (lv_at hl 0 rfl) ?_
      refine lv_iload_n hx hb dL_isAbsenceRight_157 rfl (lv_at hl 1 rfl) ?_
      refine lv_iconst (v := 4) hx hb dL_isAbsenceRight_158 (by decide) ?_
      obtain ⟨r10, hr10, hf⟩ := q_bd_go hf
      refine q_rdVi (w := wCR cI cJ A S) (ci := 2) (As := [.int l1, .int 4]) (rest := []) hx hb hml hown hts (c_O_absence l D cI cJ cS A S l1 4 _ hr10) (cwV 2 hts gL_isAbsenceRight_X2_absence rfl rfl rfl (by decide +kernel) ⟨(Nat.le_of_ble_eq_true rfl), (Nat.le_of_ble_eq_true rfl)⟩) hE hP rfl rfl rfl hl.1 rfl (Nat.le_of_ble_eq_true rfl) dL_isAbsenceRight_159 ⟨Nat.zero_le _, Nat.zero_le _⟩ ?_
      refine lv_if_ne (tgt := 169) hx hb dL_isAbsenceRight_162 (by decide) (fun c11 => ?_) (fun c11 => ?_)
      · have hf := q_ite_t c11 hf
        refine lv_iconst (v := 0) hx hb dL_isAbsenceRight_169 (by decide) ?_
        have ho := q_some hf
        subst ho
        exact W.zret hx hb hr rfl (fun t ht hW => ⟨rfl, ht⟩) t_nil dL_isAbsenceRight_170
      · have hf := q_ite_n c11 hf
        refine lv_iconst (v := 1) hx hb dL_isAbsenceRight_165 (by decide) ?_
        refine lv_goto (tgt := 170) hx hb dL_isAbsenceRight_166 (by decide) ?_
        have ho := q_some hf
        subst ho
        exact W.zret hx hb hr rfl (fun t ht hW => ⟨rfl, ht⟩) t_nil dL_isAbsenceRight_170
  have B_131 : ∀ (l1 : Int32) (l3 : Int32) (l5 : Int32) (t0 : Int32) (ls : Array Slot), lv_has ls 7 [(0, .ref (A 3 0)), (1, .int l1), (3, .int l3), (5, .int l5)] → f_L_isAbsenceRight_131 S l1 l3 l5 t0 = some o → W p l e (headSpec wsL_isAbsenceRight rL_isAbsenceRight).room s m (([.ref (A 3 0), .int p1] : List Value).toArray) below meth c s.heap [] 0 0 (MQ below (q_Ri o) (([.ref (A 3 0), .int p1] : List Value).toArray) s 0 0 (fun _ => False)) (F0 m 131 ls [.int t0]) := by
    intro l1 l3 l5 t0 ls hl hf
    unfold f_L_isAbsenceRight_131 at hf
    refine lv_istore (lv' := [(6, .int t0), (0, .ref (A 3 0)), (1, .int l1), (3, .int l3), (5, .int l5)]) hx hb dL_isAbsenceRight_131 hl (by decide) rfl (fun ls hl => ?_)
    refine lv_iload hx hb dL_isAbsenceRight_133 (lv_at hl 0 rfl) ?_
    refine lv_if_eq (tgt := 169) hx hb dL_isAbsenceRight_135 (by decide) (fun c7 => ?_) (fun c7 => ?_)
    · have hf := q_ite_t c7 hf
      refine lv_iconst (v := 0) hx hb dL_isAbsenceRight_169 (by decide) ?_
      have ho := q_some hf
      subst ho
      exact W.zret hx hb hr rfl (fun t ht hW => ⟨rfl, ht⟩) t_nil dL_isAbsenceRight_170
    · have hf := q_ite_f c7 hf
      refine lv_iload_n hx hb dL_isAbsenceRight_138 rfl (lv_at hl 3 rfl) ?_
      refine lv_if_eq (tgt := 151) hx hb dL_isAbsenceRight_139 (by decide) (fun c8 => ?_) (fun c8 => ?_)
      · have hf := q_ite_t c8 hf
        exact B_151 l1 l5 _ (lv_sub hl [1, 2, 4] rfl) hf
      · have hf := q_ite_f c8 hf
        refine lv_aload_n hx hb dL_isAbsenceRight_142 rfl (lv_at hl 1 rfl) ?_
        refine lv_iload_n hx hb dL_isAbsenceRight_143 rfl (lv_at hl 2 rfl) ?_
        refine lv_iconst (v := 5) hx hb dL_isAbsenceRight_144 (by decide) ?_
        obtain ⟨r12, hr12, hf⟩ := q_bd_go hf
        refine q_rdVi (w := wCR cI cJ A S) (ci := 2) (As := [.int l1, .int 5]) (rest := []) hx hb hml hown hts (c_O_absence l D cI cJ cS A S l1 5 _ hr12) (cwV 2 hts gL_isAbsenceRight_X2_absence rfl rfl rfl (by decide +kernel) ⟨(Nat.le_of_ble_eq_true rfl), (Nat.le_of_ble_eq_true rfl)⟩) hE hP rfl rfl rfl hl.1 rfl (Nat.le_of_ble_eq_true rfl) dL_isAbsenceRight_145 ⟨Nat.zero_le _, Nat.zero_le _⟩ ?_
        refine lv_if_ne (tgt := 169) hx hb dL_isAbsenceRight_148 (by decide) (fun c13 => ?_) (fun c13 => ?_)
        · have hf := q_ite_t c13 hf
          refine lv_iconst (v := 0) hx hb dL_isAbsenceRight_169 (by decide) ?_
          have ho := q_some hf
          subst ho
          exact W.zret hx hb hr rfl (fun t ht hW => ⟨rfl, ht⟩) t_nil dL_isAbsenceRight_170
        · have hf := q_ite_n c13 hf
          exact B_151 l1 l5 _ (lv_sub hl [1, 2, 4] rfl) hf
  have B_88 : ∀ (l1 : Int32) (l2 : Int32) (l3 : Int32) (l4 : Int32) (l5 : Int32) (t0 : Int32) (ls : Array Slot), lv_has ls 7 [(0, .ref (A 3 0)), (1, .int l1), (2, .int l2), (3, .int l3), (4, .int l4), (5, .int l5)] → f_L_isAbsenceRight_88 S l1 l2 l3 l4 l5 t0 = some o → W p l e (headSpec wsL_isAbsenceRight rL_isAbsenceRight).room s m (([.ref (A 3 0), .int p1] : List Value).toArray) below meth c s.heap [] 0 0 (MQ below (q_Ri o) (([.ref (A 3 0), .int p1] : List Value).toArray) s 0 0 (fun _ => False)) (F0 m 88 ls [.int t0]) := by
    intro l1 l2 l3 l4 l5 t0 ls hl hf
    unfold f_L_isAbsenceRight_88 at hf
    refine lv_istore (lv' := [(6, .int t0), (0, .ref (A 3 0)), (1, .int l1), (2, .int l2), (3, .int l3), (4, .int l4), (5, .int l5)]) hx hb dL_isAbsenceRight_88 hl (by decide) rfl (fun ls hl => ?_)
    refine lv_iload hx hb dL_isAbsenceRight_90 (lv_at hl 0 rfl) ?_
    refine lv_if_eq (tgt := 130) hx hb dL_isAbsenceRight_92 (by decide) (fun c6 => ?_) (fun c6 => ?_)
    · have hf := q_ite_t c6 hf
      refine lv_iconst (v := 0) hx hb dL_isAbsenceRight_130 (by decide) ?_
      exact B_131 l1 l3 l5 0 _ (lv_sub hl [1, 2, 4, 6] rfl) hf
    · have hf := q_ite_f c6 hf
      refine lv_iload hx hb dL_isAbsenceRight_95 (lv_at hl 6 rfl) ?_
      refine lv_if_eq (tgt := 126) hx hb dL_isAbsenceRight_97 (by decide) (fun c14 => ?_) (fun c14 => ?_)
      · have hf := q_ite_t c14 hf
        refine lv_iconst (v := 1) hx hb dL_isAbsenceRight_126 (by decide) ?_
        refine lv_goto (tgt := 131) hx hb dL_isAbsenceRight_127 (by decide) ?_
        exact B_131 l1 l3 l5 1 _ (lv_sub hl [1, 2, 4, 6] rfl) hf
      · have hf := q_ite_f c14 hf
        refine lv_aload_n hx hb dL_isAbsenceRight_100 rfl (lv_at hl 1 rfl) ?_
        refine lv_iload hx hb dL_isAbsenceRight_101 (lv_at hl 5 rfl) ?_
        obtain ⟨r15, hr15, hf⟩ := q_bd_go hf
        refine q_rdVl (w := wCR cI cJ A S) (ci := 2) (As := [.int l4]) (rest := []) hx hb hml hown hts (c_O_work l D cI cJ cS A S l4 _ hr15) (cwV 1 hts gL_isAbsenceRight_X2_work rfl rfl rfl (by decide +kernel) ⟨(Nat.le_of_ble_eq_true rfl), (Nat.le_of_ble_eq_true rfl)⟩) hE hP rfl rfl rfl hl.1 rfl (Nat.le_of_ble_eq_true rfl) dL_isAbsenceRight_103 ⟨Nat.zero_le _, Nat.zero_le _⟩ ?_
        refine lv_iload_n hx hb dL_isAbsenceRight_106 rfl (lv_at hl 3 rfl) ?_
        refine lv_lshr (v := (r15 >>> ((l2 : Int32).toInt64 &&& 63))) hx hb dL_isAbsenceRight_107 rfl ?_
        refine lv_lconst (v := 1) hx hb dL_isAbsenceRight_108 (by decide) ?_
        refine lv_land hx hb dL_isAbsenceRight_109 ?_
        refine lv_lconst (v := 1) hx hb dL_isAbsenceRight_110 (by decide) ?_
        refine W.lcmp hx hb dL_isAbsenceRight_111 ?_
        refine lv_if_ne (tgt := 130) hx hb dL_isAbsenceRight_112 (by decide) (fun c16 => ?_) (fun c16 => ?_)
        · have hf := q_ite_t c16 hf
          refine lv_iconst (v := 0) hx hb dL_isAbsenceRight_130 (by decide) ?_
          exact B_131 l1 l3 l5 0 _ (lv_sub hl [1, 2, 4, 6] rfl) hf
        · have hf := q_ite_n c16 hf
          refine lv_iload hx hb dL_isAbsenceRight_115 (lv_at hl 5 rfl) ?_
          refine lv_aload_n hx hb dL_isAbsenceRight_117 rfl (lv_at hl 1 rfl) ?_
          refine lv_iload_n hx hb dL_isAbsenceRight_118 rfl (lv_at hl 2 rfl) ?_
          refine lv_iconst (v := 0) hx hb dL_isAbsenceRight_119 (by decide) ?_
          obtain ⟨r17, hr17, hf⟩ := q_bd_go hf
          refine q_rdVi (w := wCR cI cJ A S) (ci := 2) (As := [.int l1, .int 0]) (rest := [.int l4]) hx hb hml hown hts (c_O_absence l D cI cJ cS A S l1 0 _ hr17) (cwV 2 hts gL_isAbsenceRight_X2_absence rfl rfl rfl (by decide +kernel) ⟨(Nat.le_of_ble_eq_true rfl), (Nat.le_of_ble_eq_true rfl)⟩) hE hP rfl rfl rfl hl.1 rfl (Nat.le_of_ble_eq_true rfl) dL_isAbsenceRight_120 ⟨Nat.zero_le _, Nat.zero_le _⟩ ?_
          refine lv_icmp_eq (tgt := 130) hx hb dL_isAbsenceRight_123 (by decide) (fun c18 => ?_) (fun c18 => ?_)
          · have hf := q_ite_t c18 hf
            refine lv_iconst (v := 0) hx hb dL_isAbsenceRight_130 (by decide) ?_
            exact B_131 l1 l3 l5 0 _ (lv_sub hl [1, 2, 4, 6] rfl) hf
          · have hf := q_ite_f c18 hf
            refine lv_iconst (v := 1) hx hb dL_isAbsenceRight_126 (by decide) ?_
            refine lv_goto (tgt := 131) hx hb dL_isAbsenceRight_127 (by decide) ?_
            exact B_131 l1 l3 l5 1 _ (lv_sub hl [1, 2, 4, 6] rfl) hf
  have B_61 : ∀ (l1 : Int32) (l2 : Int32) (l3 : Int32) (l4 : Int32) (l5 : Int32) (t0 : Int32) (t1 : Int32) (ls : Array Slot), lv_has ls 7 [(0, .ref (A 3 0)), (1, .int l1), (2, .int l2), (3, .int l3), (4, .int l4), (5, .int l5)] → f_L_isAbsenceRight_61 S l1 l2 l3 l4 l5 t0 t1 = some o → W p l e (headSpec wsL_isAbsenceRight rL_isAbsenceRight).room s m (([.ref (A 3 0), .int p1] : List Value).toArray) below meth c s.heap [] 0 0 (MQ below (q_Ri o) (([.ref (A 3 0), .int p1] : List Value).toArray) s 0 0 (fun _ => False)) (F0 m 61 ls [.int t0, .int t1]) := by
    intro l1 l2 l3 l4 l5 t0 t1 ls hl hf
    unfold f_L_isAbsenceRight_61 at hf
    refine lv_icmp_ne (tgt := 87) hx hb dL_isAbsenceRight_61 (by decide) (fun c21 => ?_) (fun c21 => ?_)
    · have hf := q_ite_t c21 hf
      refine lv_iconst (v := 0) hx hb dL_isAbsenceRight_87 (by decide) ?_
      exact B_88 l1 l2 l3 l4 l5 0 _ (lv_sub hl [0, 1, 2, 3, 4, 5] rfl) hf
    · have hf := q_ite_n c21 hf
      refine lv_aload_n hx hb dL_isAbsenceRight_64 rfl (lv_at hl 0 rfl) ?_
      refine lv_aload_n hx hb dL_isAbsenceRight_65 rfl (lv_at hl 0 rfl) ?_
      refine lv_iload_n hx hb dL_isAbsenceRight_66 rfl (lv_at hl 1 rfl) ?_
      refine lv_iconst (v := 0) hx hb dL_isAbsenceRight_67 (by decide) ?_
      obtain ⟨r22, hr22, hf⟩ := q_bd_go hf
      refine q_rdVi (w := wCR cI cJ A S) (ci := 2) (As := [.int l1, .int 0]) (rest := [.ref (A 3 0)]) hx hb hml hown hts (c_O_absence l D cI cJ cS A S l1 0 _ hr22) (cwV 2 hts gL_isAbsenceRight_X2_absence rfl rfl rfl (by decide +kernel) ⟨(Nat.le_of_ble_eq_true rfl), (Nat.le_of_ble_eq_true rfl)⟩) hE hP rfl rfl rfl hl.1 rfl (Nat.le_of_ble_eq_true rfl) dL_isAbsenceRight_68 ⟨Nat.zero_le _, Nat.zero_le _⟩ ?_
      obtain ⟨r23, hr23, hf⟩ := q_bd_go hf
      refine q_rdVl (w := wCR cI cJ A S) (ci := 2) (As := [.int r22]) (rest := []) hx hb hml hown hts (c_O_work l D cI cJ cS A S r22 _ hr23) (cwV 1 hts gL_isAbsenceRight_X2_work rfl rfl rfl (by decide +kernel) ⟨(Nat.le_of_ble_eq_true rfl), (Nat.le_of_ble_eq_true rfl)⟩) hE hP rfl rfl rfl hl.1 rfl (Nat.le_of_ble_eq_true rfl) dL_isAbsenceRight_71 ⟨Nat.zero_le _, Nat.zero_le _⟩ ?_
      refine lv_iload_n hx hb dL_isAbsenceRight_74 rfl (lv_at hl 2 rfl) ?_
      refine lv_lshr (v := (r23 >>> ((l2 : Int32).toInt64 &&& 63))) hx hb dL_isAbsenceRight_75 rfl ?_
      refine lv_lconst (v := 1) hx hb dL_isAbsenceRight_76 (by decide) ?_
      refine lv_land hx hb dL_isAbsenceRight_77 ?_
      refine lv_lconst (v := 0) hx hb dL_isAbsenceRight_78 (by decide) ?_
      refine W.lcmp hx hb dL_isAbsenceRight_79 ?_
      refine lv_if_ne (tgt := 87) hx hb dL_isAbsenceRight_80 (by decide) (fun c24 => ?_) (fun c24 => ?_)
      · have hf := q_ite_t c24 hf
        refine lv_iconst (v := 0) hx hb dL_isAbsenceRight_87 (by decide) ?_
        exact B_88 l1 l2 l3 l4 l5 0 _ (lv_sub hl [0, 1, 2, 3, 4, 5] rfl) hf
      · have hf := q_ite_n c24 hf
        refine lv_iconst (v := 1) hx hb dL_isAbsenceRight_83 (by decide) ?_
        refine lv_goto (tgt := 88) hx hb dL_isAbsenceRight_84 (by decide) ?_
        exact B_88 l1 l2 l3 l4 l5 1 _ (lv_sub hl [0, 1, 2, 3, 4, 5] rfl) hf
  have B_37 : ∀ (l1 : Int32) (l2 : Int32) (l3 : Int32) (l4 : Int32) (t0 : Int32) (ls : Array Slot), lv_has ls 7 [(0, .ref (A 3 0)), (1, .int l1), (2, .int l2), (3, .int l3), (4, .int l4)] → f_L_isAbsenceRight_37 S l1 l2 l3 l4 t0 = some o → W p l e (headSpec wsL_isAbsenceRight rL_isAbsenceRight).room s m (([.ref (A 3 0), .int p1] : List Value).toArray) below meth c s.heap [] 0 0 (MQ below (q_Ri o) (([.ref (A 3 0), .int p1] : List Value).toArray) s 0 0 (fun _ => False)) (F0 m 37 ls [.int t0]) := by
    intro l1 l2 l3 l4 t0 ls hl hf
    unfold f_L_isAbsenceRight_37 at hf
    refine lv_istore (lv' := [(5, .int t0), (0, .ref (A 3 0)), (1, .int l1), (2, .int l2), (3, .int l3), (4, .int l4)]) hx hb dL_isAbsenceRight_37 hl (by decide) rfl (fun ls hl => ?_)
    refine lv_iload_n hx hb dL_isAbsenceRight_39 rfl (lv_at hl 4 rfl) ?_
    refine lv_if_lt (tgt := 87) hx hb dL_isAbsenceRight_40 (by decide) (fun c5 => ?_) (fun c5 => ?_)
    · have hf := q_ite_t c5 hf
      refine lv_iconst (v := 0) hx hb dL_isAbsenceRight_87 (by decide) ?_
      exact B_88 l1 l2 l3 l4 t0 0 _ (lv_sub hl [1, 2, 3, 4, 5, 0] rfl) hf
    · have hf := q_ite_f c5 hf
      refine lv_iload_n hx hb dL_isAbsenceRight_43 rfl (lv_at hl 4 rfl) ?_
      refine lv_iconst (v := 4) hx hb dL_isAbsenceRight_44 (by decide) ?_
      refine lv_icmp_ge (tgt := 87) hx hb dL_isAbsenceRight_45 (by decide) (fun c19 => ?_) (fun c19 => ?_)
      · have hf := q_ite_t c19 hf
        refine lv_iconst (v := 0) hx hb dL_isAbsenceRight_87 (by decide) ?_
        exact B_88 l1 l2 l3 l4 t0 0 _ (lv_sub hl [1, 2, 3, 4, 5, 0] rfl) hf
      · have hf := q_ite_f c19 hf
        refine lv_iload hx hb dL_isAbsenceRight_48 (lv_at hl 0 rfl) ?_
        refine lv_iload hx hb dL_isAbsenceRight_50 (lv_at hl 5 rfl) ?_
        refine lv_iconst (v := (-1)) hx hb dL_isAbsenceRight_52 (by decide) ?_
        refine lv_icmp_eq (tgt := 60) hx hb dL_isAbsenceRight_53 (by decide) (fun c20 => ?_) (fun c20 => ?_)
        · have hf := q_ite_t c20 hf
          refine lv_iconst (v := 0) hx hb dL_isAbsenceRight_60 (by decide) ?_
          exact B_61 l1 l2 l3 l4 t0 0 t0 _ (lv_sub hl [1, 2, 3, 4, 5, 0] rfl) hf
        · have hf := q_ite_f c20 hf
          refine lv_iconst (v := 1) hx hb dL_isAbsenceRight_56 (by decide) ?_
          refine lv_goto (tgt := 61) hx hb dL_isAbsenceRight_57 (by decide) ?_
          exact B_61 l1 l2 l3 l4 t0 1 t0 _ (lv_sub hl [1, 2, 3, 4, 5, 0] rfl) hf
  have hl := lv_entry ([.ref (A 3 0), .int p1]) (n := 7) (Nat.le_of_ble_eq_true rfl)
  rw [lg_entry_eq]
  generalize (lg_sl ([.ref (A 3 0), .int p1]) ++ List.replicate (7 - (lg_sl ([.ref (A 3 0), .int p1])).length) Slot.unset).toArray = ls at hl ⊢
  have hl : lv_has ls 7 [(0, .ref (A 3 0)), (1, .int p1)] := hl
  unfold f_L_isAbsenceRight at hf
  refine lv_aload_n hx hb dL_isAbsenceRight_0 rfl (lv_at hl 0 rfl) ?_
  refine lv_iload_n hx hb dL_isAbsenceRight_1 rfl (lv_at hl 1 rfl) ?_
  refine lv_iconst (v := 1) hx hb dL_isAbsenceRight_2 (by decide) ?_
  obtain ⟨r1, hr1, hf⟩ := q_bd_go hf
  refine q_rdVi (w := wCR cI cJ A S) (ci := 2) (As := [.int p1, .int 1]) (rest := []) hx hb hml hown hts (c_O_absence l D cI cJ cS A S p1 1 _ hr1) (cwV 2 hts gL_isAbsenceRight_X2_absence rfl rfl rfl (by decide +kernel) ⟨(Nat.le_of_ble_eq_true rfl), (Nat.le_of_ble_eq_true rfl)⟩) hE hP rfl rfl rfl hl.1 rfl (Nat.le_of_ble_eq_true rfl) dL_isAbsenceRight_3 ⟨Nat.zero_le _, Nat.zero_le _⟩ ?_
  refine lv_istore_n (lv' := [(2, .int r1), (0, .ref (A 3 0)), (1, .int p1)]) hx hb dL_isAbsenceRight_6 rfl hl (by decide) rfl (fun ls hl => ?_)
  refine lv_aload_n hx hb dL_isAbsenceRight_7 rfl (lv_at hl 1 rfl) ?_
  refine lv_iload_n hx hb dL_isAbsenceRight_8 rfl (lv_at hl 2 rfl) ?_
  refine lv_iconst (v := 2) hx hb dL_isAbsenceRight_9 (by decide) ?_
  obtain ⟨r2, hr2, hf⟩ := q_bd_go hf
  refine q_rdVi (w := wCR cI cJ A S) (ci := 2) (As := [.int p1, .int 2]) (rest := []) hx hb hml hown hts (c_O_absence l D cI cJ cS A S p1 2 _ hr2) (cwV 2 hts gL_isAbsenceRight_X2_absence rfl rfl rfl (by decide +kernel) ⟨(Nat.le_of_ble_eq_true rfl), (Nat.le_of_ble_eq_true rfl)⟩) hE hP rfl rfl rfl hl.1 rfl (Nat.le_of_ble_eq_true rfl) dL_isAbsenceRight_10 ⟨Nat.zero_le _, Nat.zero_le _⟩ ?_
  refine lv_istore_n (lv' := [(3, .int r2), (2, .int r1), (0, .ref (A 3 0)), (1, .int p1)]) hx hb dL_isAbsenceRight_13 rfl hl (by decide) rfl (fun ls hl => ?_)
  refine lv_aload_n hx hb dL_isAbsenceRight_14 rfl (lv_at hl 2 rfl) ?_
  refine lv_iload_n hx hb dL_isAbsenceRight_15 rfl (lv_at hl 3 rfl) ?_
  refine lv_iconst (v := 3) hx hb dL_isAbsenceRight_16 (by decide) ?_
  obtain ⟨r3, hr3, hf⟩ := q_bd_go hf
  refine q_rdVi (w := wCR cI cJ A S) (ci := 2) (As := [.int p1, .int 3]) (rest := []) hx hb hml hown hts (c_O_absence l D cI cJ cS A S p1 3 _ hr3) (cwV 2 hts gL_isAbsenceRight_X2_absence rfl rfl rfl (by decide +kernel) ⟨(Nat.le_of_ble_eq_true rfl), (Nat.le_of_ble_eq_true rfl)⟩) hE hP rfl rfl rfl hl.1 rfl (Nat.le_of_ble_eq_true rfl) dL_isAbsenceRight_17 ⟨Nat.zero_le _, Nat.zero_le _⟩ ?_
  refine lv_istore (lv' := [(4, .int r3), (3, .int r2), (2, .int r1), (0, .ref (A 3 0)), (1, .int p1)]) hx hb dL_isAbsenceRight_20 hl (by decide) rfl (fun ls hl => ?_)
  refine lv_iload_n hx hb dL_isAbsenceRight_22 rfl (lv_at hl 1 rfl) ?_
  refine lv_iconst (v := 1) hx hb dL_isAbsenceRight_23 (by decide) ?_
  refine lv_icmp_eq (tgt := 32) hx hb dL_isAbsenceRight_24 (by decide) (fun c4 => ?_) (fun c4 => ?_)
  · have hf := q_ite_t c4 hf
    refine lv_iconst (v := 1) hx hb dL_isAbsenceRight_32 (by decide) ?_
    refine lv_goto (tgt := 37) hx hb dL_isAbsenceRight_33 (by decide) ?_
    exact B_37 p1 r1 r2 r3 1 _ (lv_sub hl [3, 4, 2, 1, 0] rfl) hf
  · have hf := q_ite_f c4 hf
    refine lv_iload_n hx hb dL_isAbsenceRight_27 rfl (lv_at hl 1 rfl) ?_
    refine lv_iconst (v := 2) hx hb dL_isAbsenceRight_28 (by decide) ?_
    refine lv_icmp_ne (tgt := 36) hx hb dL_isAbsenceRight_29 (by decide) (fun c25 => ?_) (fun c25 => ?_)
    · have hf := q_ite_t c25 hf
      refine lv_iconst (v := 0) hx hb dL_isAbsenceRight_36 (by decide) ?_
      exact B_37 p1 r1 r2 r3 0 _ (lv_sub hl [3, 4, 2, 1, 0] rfl) hf
    · have hf := q_ite_n c25 hf
      refine lv_iconst (v := 1) hx hb dL_isAbsenceRight_32 (by decide) ?_
      refine lv_goto (tgt := 37) hx hb dL_isAbsenceRight_33 (by decide) ?_
      exact B_37 p1 r1 r2 r3 1 _ (lv_sub hl [3, 4, 2, 1, 0] rfl) hf
def f_L_areRight_210 (S : CM) (l1 : Int64) (l3 : Int32) (l5 : Int32) (t0 : Int32) : Option Int32 := if l5 = 0 then
 (some 0)
 else (if ¬ (lg_cmp l1 0) = 0 then
 (some 0)
 else ((f_O_value S 1).bind fun r13 =>
 if ¬ l3 = r13 then
 (some 0)
 else (if t0 = 0 then
 (some 0)
 else (some 1))))
def f_L_areRight_158 (S : CM) (l1 : Int64) (l3 : Int32) (l4 : Int32) (l5 : Int32) : Option Int32 := (f_O_value S 2).bind fun r5 =>
 (f_O_value S 3).bind fun r6 =>
 (f_O_value S 4).bind fun r7 =>
 (f_O_value S 5).bind fun r8 =>
 (f_O_value S 1).bind fun r9 =>
 if ¬ (((r5 + r6) + r7) + r8) = r9 then
 (f_L_areRight_210 S l1 l3 l5 0)
 else ((f_O_value S 3).bind fun r16 =>
 (f_O_value S 4).bind fun r17 =>
 if ¬ l4 = (r16 + r17) then
 (f_L_areRight_210 S l1 l3 l5 0)
 else (f_L_areRight_210 S l1 l3 l5 1))
def f_L_areRight_129 (S : CM) : Nat → Int64 → Int32 → Int32 → Int32 → Int32 → Option Int32
  | 0, _, _, _, _, _ => none
  | n+1, l1, l3, l4, l5, l6 => (f_O_value S 1).bind fun r3 =>
 if r3 ≤ l6 then
 (f_L_areRight_158 S l1 l3 l4 l5)
 else (if l5 = 0 then
 (f_L_areRight_158 S l1 l3 l4 l5)
 else ((f_L_isAbsenceRight S l6).bind fun r20 =>
 q_let (l6 + 1) fun v21 =>
 f_L_areRight_129 S n l1 l3 l4 r20 v21))
def f_L_areRight_13 (S : CM) : Nat → Int64 → Int32 → Int32 → Int32 → Int32 → Option Int32
  | 0, _, _, _, _, _ => none
  | n+1, l1, l3, l4, l5, l6 => (f_O_value S 0).bind fun r1 =>
 if r1 ≤ l6 then
 (f_L_areRight_129 S 2000 l1 l3 l4 l5 0)
 else (if l5 = 0 then
 (f_L_areRight_129 S 2000 l1 l3 l4 l5 0)
 else ((f_O_person S l6 3).bind fun r23 =>
 q_let ((l1 + ((r23 : Int32).toInt64))) fun v24 =>
 (f_O_person S l6 1).bind fun r25 =>
 q_let ((l3 + r25)) fun v26 =>
 (f_O_person S l6 2).bind fun r27 =>
 q_let ((l4 + r27)) fun v28 =>
 (f_O_person S l6 5).bind fun r29 =>
 (f_O_work S l6).bind fun r30 =>
 (f_L_ones r30).bind fun r31 =>
 if ¬ r29 = r31 then
 (q_let (l6 + 1) fun v33 =>
 f_L_areRight_13 S n v24 v26 v28 0 v33)
 else ((f_O_person S l6 5).bind fun r34 =>
 (f_O_person S l6 0).bind fun r35 =>
 (f_O_person S l6 1).bind fun r36 =>
 (f_O_person S l6 2).bind fun r37 =>
 if ¬ r34 = ((r35 - r36) + r37) then
 (q_let (l6 + 1) fun v39 =>
 f_L_areRight_13 S n v24 v26 v28 0 v39)
 else (q_let (l6 + 1) fun v40 =>
 f_L_areRight_13 S n v24 v26 v28 1 v40))))
def f_L_areRight (S : CM) : Option Int32 := f_L_areRight_13 S 2000 0 0 0 1 0
abbrev rL_areRight : Room := { frames := 6, cells := 0, slots := 0, locals := 144 }
set_option maxRecDepth 100000 in
set_option maxHeartbeats 4000000 in
theorem c_L_areRight (l : Launch) (D : va_G) (cI cJ cS : ClassId) (A : Nat → Nat → Nat) (S : CM) (o : Int32) (hf : f_L_areRight S = some o) : Met l yL_areRight wsL_areRight rL_areRight (va_Pc [.ref (A 3 0)] (q_B D cI cJ cS (wCR cI cJ A S))) (q_Ri o) 0 0 (fun _ => False) := by
  refine Met.ofW (cc := cL_areRight) (maxL := 7) (ret := some .boolean) (by decide) rfl ?_
  intro p e s m args below meth c s₁ B9 hml hv
  obtain ⟨rfl, hP, hE⟩ := hv
  have hx := B9.exec
  have hb := B9.bytes
  have hr := B9.returns
  have hts := atoms_spec (ws := wsL_areRight) B9.pre
  have hown : s.vm.findClass RL = some m.cls := findClass_of_methodNamed B9.named
  have hlocks := B9.notSynchronized
  have B_210 : ∀ (l1 : Int64) (l3 : Int32) (l5 : Int32) (t0 : Int32) (ls : Array Slot), lv_has ls 7 [(0, .ref (A 3 0)), (1, .long l1), (3, .int l3), (5, .int l5)] → f_L_areRight_210 S l1 l3 l5 t0 = some o → W p l e (headSpec wsL_areRight rL_areRight).room s m (([.ref (A 3 0)] : List Value).toArray) below meth c s.heap [] 0 0 (MQ below (q_Ri o) (([.ref (A 3 0)] : List Value).toArray) s 0 0 (fun _ => False)) (F0 m 210 ls [.int t0]) := by
    intro l1 l3 l5 t0 ls hl hf
    unfold f_L_areRight_210 at hf
    refine lv_istore (lv' := [(6, .int t0), (0, .ref (A 3 0)), (1, .long l1), (3, .int l3), (5, .int l5)]) hx hb dL_areRight_210 hl (by decide) rfl (fun ls hl => ?_)
    refine lv_iload hx hb dL_areRight_212 (lv_at hl 4 rfl) ?_
    refine lv_if_eq (tgt := 241) hx hb dL_areRight_214 (by decide) (fun c11 => ?_) (fun c11 => ?_)
    · have hf := q_ite_t c11 hf
      refine lv_iconst (v := 0) hx hb dL_areRight_241 (by decide) ?_
      have ho := q_some hf
      subst ho
      exact W.zret hx hb hr rfl (fun t ht hW => ⟨rfl, ht⟩) t_nil dL_areRight_242
    · have hf := q_ite_f c11 hf
      refine lv_lload_n hx hb dL_areRight_217 rfl (lv_at hl 2 rfl) ?_
      refine lv_lconst (v := 0) hx hb dL_areRight_218 (by decide) ?_
      refine W.lcmp hx hb dL_areRight_219 ?_
      refine lv_if_ne (tgt := 241) hx hb dL_areRight_220 (by decide) (fun c12 => ?_) (fun c12 => ?_)
      · have hf := q_ite_t c12 hf
        refine lv_iconst (v := 0) hx hb dL_areRight_241 (by decide) ?_
        have ho := q_some hf
        subst ho
        exact W.zret hx hb hr rfl (fun t ht hW => ⟨rfl, ht⟩) t_nil dL_areRight_242
      · have hf := q_ite_n c12 hf
        refine lv_iload_n hx hb dL_areRight_223 rfl (lv_at hl 3 rfl) ?_
        refine lv_aload_n hx hb dL_areRight_224 rfl (lv_at hl 1 rfl) ?_
        refine lv_iconst (v := 1) hx hb dL_areRight_225 (by decide) ?_
        obtain ⟨r13, hr13, hf⟩ := q_bd_go hf
        refine q_rdVi (w := wCR cI cJ A S) (ci := 2) (As := [.int 1]) (rest := [.int l3]) hx hb hml hown hts (c_O_value l D cI cJ cS A S 1 _ hr13) (cwV 1 hts gL_areRight_X2_value rfl rfl rfl (by decide +kernel) ⟨(Nat.le_of_ble_eq_true rfl), (Nat.le_of_ble_eq_true rfl)⟩) hE hP rfl rfl rfl hl.1 rfl (Nat.le_of_ble_eq_true rfl) dL_areRight_226 ⟨Nat.zero_le _, Nat.zero_le _⟩ ?_
        refine lv_icmp_ne (tgt := 241) hx hb dL_areRight_229 (by decide) (fun c14 => ?_) (fun c14 => ?_)
        · have hf := q_ite_t c14 hf
          refine lv_iconst (v := 0) hx hb dL_areRight_241 (by decide) ?_
          have ho := q_some hf
          subst ho
          exact W.zret hx hb hr rfl (fun t ht hW => ⟨rfl, ht⟩) t_nil dL_areRight_242
        · have hf := q_ite_n c14 hf
          refine lv_iload hx hb dL_areRight_232 (lv_at hl 0 rfl) ?_
          refine lv_if_eq (tgt := 241) hx hb dL_areRight_234 (by decide) (fun c15 => ?_) (fun c15 => ?_)
          · have hf := q_ite_t c15 hf
            refine lv_iconst (v := 0) hx hb dL_areRight_241 (by decide) ?_
            have ho := q_some hf
            subst ho
            exact W.zret hx hb hr rfl (fun t ht hW => ⟨rfl, ht⟩) t_nil dL_areRight_242
          · have hf := q_ite_f c15 hf
            refine lv_iconst (v := 1) hx hb dL_areRight_237 (by decide) ?_
            refine lv_goto (tgt := 242) hx hb dL_areRight_238 (by decide) ?_
            have ho := q_some hf
            subst ho
            exact W.zret hx hb hr rfl (fun t ht hW => ⟨rfl, ht⟩) t_nil dL_areRight_242
  have B_158 : ∀ (l1 : Int64) (l3 : Int32) (l4 : Int32) (l5 : Int32) (ls : Array Slot), lv_has ls 7 [(0, .ref (A 3 0)), (1, .long l1), (3, .int l3), (4, .int l4), (5, .int l5)] → f_L_areRight_158 S l1 l3 l4 l5 = some o → W p l e (headSpec wsL_areRight rL_areRight).room s m (([.ref (A 3 0)] : List Value).toArray) below meth c s.heap [] 0 0 (MQ below (q_Ri o) (([.ref (A 3 0)] : List Value).toArray) s 0 0 (fun _ => False)) (F0 m 158 ls []) := by
    intro l1 l3 l4 l5 ls hl hf
    unfold f_L_areRight_158 at hf
    refine lv_aload_n hx hb dL_areRight_158 rfl (lv_at hl 0 rfl) ?_
    refine lv_iconst (v := 2) hx hb dL_areRight_159 (by decide) ?_
    obtain ⟨r5, hr5, hf⟩ := q_bd_go hf
    refine q_rdVi (w := wCR cI cJ A S) (ci := 2) (As := [.int 2]) (rest := []) hx hb hml hown hts (c_O_value l D cI cJ cS A S 2 _ hr5) (cwV 1 hts gL_areRight_X2_value rfl rfl rfl (by decide +kernel) ⟨(Nat.le_of_ble_eq_true rfl), (Nat.le_of_ble_eq_true rfl)⟩) hE hP rfl rfl rfl hl.1 rfl (Nat.le_of_ble_eq_true rfl) dL_areRight_160 ⟨Nat.zero_le _, Nat.zero_le _⟩ ?_
    refine lv_aload_n hx hb dL_areRight_163 rfl (lv_at hl 0 rfl) ?_
    refine lv_iconst (v := 3) hx hb dL_areRight_164 (by decide) ?_
    obtain ⟨r6, hr6, hf⟩ := q_bd_go hf
    refine q_rdVi (w := wCR cI cJ A S) (ci := 2) (As := [.int 3]) (rest := [.int r5]) hx hb hml hown hts (c_O_value l D cI cJ cS A S 3 _ hr6) (cwV 1 hts gL_areRight_X2_value rfl rfl rfl (by decide +kernel) ⟨(Nat.le_of_ble_eq_true rfl), (Nat.le_of_ble_eq_true rfl)⟩) hE hP rfl rfl rfl hl.1 rfl (Nat.le_of_ble_eq_true rfl) dL_areRight_165 ⟨Nat.zero_le _, Nat.zero_le _⟩ ?_
    refine lv_iadd hx hb dL_areRight_168 ?_
    refine lv_aload_n hx hb dL_areRight_169 rfl (lv_at hl 0 rfl) ?_
    refine lv_iconst (v := 4) hx hb dL_areRight_170 (by decide) ?_
    obtain ⟨r7, hr7, hf⟩ := q_bd_go hf
    refine q_rdVi (w := wCR cI cJ A S) (ci := 2) (As := [.int 4]) (rest := [.int (r5 + r6)]) hx hb hml hown hts (c_O_value l D cI cJ cS A S 4 _ hr7) (cwV 1 hts gL_areRight_X2_value rfl rfl rfl (by decide +kernel) ⟨(Nat.le_of_ble_eq_true rfl), (Nat.le_of_ble_eq_true rfl)⟩) hE hP rfl rfl rfl hl.1 rfl (Nat.le_of_ble_eq_true rfl) dL_areRight_171 ⟨Nat.zero_le _, Nat.zero_le _⟩ ?_
    refine lv_iadd hx hb dL_areRight_174 ?_
    refine lv_aload_n hx hb dL_areRight_175 rfl (lv_at hl 0 rfl) ?_
    refine lv_iconst (v := 5) hx hb dL_areRight_176 (by decide) ?_
    obtain ⟨r8, hr8, hf⟩ := q_bd_go hf
    refine q_rdVi (w := wCR cI cJ A S) (ci := 2) (As := [.int 5]) (rest := [.int ((r5 + r6) + r7)]) hx hb hml hown hts (c_O_value l D cI cJ cS A S 5 _ hr8) (cwV 1 hts gL_areRight_X2_value rfl rfl rfl (by decide +kernel) ⟨(Nat.le_of_ble_eq_true rfl), (Nat.le_of_ble_eq_true rfl)⟩) hE hP rfl rfl rfl hl.1 rfl (Nat.le_of_ble_eq_true rfl) dL_areRight_177 ⟨Nat.zero_le _, Nat.zero_le _⟩ ?_
    refine lv_iadd hx hb dL_areRight_180 ?_
    refine lv_aload_n hx hb dL_areRight_181 rfl (lv_at hl 0 rfl) ?_
    refine lv_iconst (v := 1) hx hb dL_areRight_182 (by decide) ?_
    obtain ⟨r9, hr9, hf⟩ := q_bd_go hf
    refine q_rdVi (w := wCR cI cJ A S) (ci := 2) (As := [.int 1]) (rest := [.int (((r5 + r6) + r7) + r8)]) hx hb hml hown hts (c_O_value l D cI cJ cS A S 1 _ hr9) (cwV 1 hts gL_areRight_X2_value rfl rfl rfl (by decide +kernel) ⟨(Nat.le_of_ble_eq_true rfl), (Nat.le_of_ble_eq_true rfl)⟩) hE hP rfl rfl rfl hl.1 rfl (Nat.le_of_ble_eq_true rfl) dL_areRight_183 ⟨Nat.zero_le _, Nat.zero_le _⟩ ?_
    refine lv_icmp_ne (tgt := 209) hx hb dL_areRight_186 (by decide) (fun c10 => ?_) (fun c10 => ?_)
    · have hf := q_ite_t c10 hf
      refine lv_iconst (v := 0) hx hb dL_areRight_209 (by decide) ?_
      exact B_210 l1 l3 l5 0 _ (lv_sub hl [0, 1, 2, 4] rfl) hf
    · have hf := q_ite_n c10 hf
      refine lv_iload hx hb dL_areRight_189 (lv_at hl 3 rfl) ?_
      refine lv_aload_n hx hb dL_areRight_191 rfl (lv_at hl 0 rfl) ?_
      refine lv_iconst (v := 3) hx hb dL_areRight_192 (by decide) ?_
      obtain ⟨r16, hr16, hf⟩ := q_bd_go hf
      refine q_rdVi (w := wCR cI cJ A S) (ci := 2) (As := [.int 3]) (rest := [.int l4]) hx hb hml hown hts (c_O_value l D cI cJ cS A S 3 _ hr16) (cwV 1 hts gL_areRight_X2_value rfl rfl rfl (by decide +kernel) ⟨(Nat.le_of_ble_eq_true rfl), (Nat.le_of_ble_eq_true rfl)⟩) hE hP rfl rfl rfl hl.1 rfl (Nat.le_of_ble_eq_true rfl) dL_areRight_193 ⟨Nat.zero_le _, Nat.zero_le _⟩ ?_
      refine lv_aload_n hx hb dL_areRight_196 rfl (lv_at hl 0 rfl) ?_
      refine lv_iconst (v := 4) hx hb dL_areRight_197 (by decide) ?_
      obtain ⟨r17, hr17, hf⟩ := q_bd_go hf
      refine q_rdVi (w := wCR cI cJ A S) (ci := 2) (As := [.int 4]) (rest := [.int r16, .int l4]) hx hb hml hown hts (c_O_value l D cI cJ cS A S 4 _ hr17) (cwV 1 hts gL_areRight_X2_value rfl rfl rfl (by decide +kernel) ⟨(Nat.le_of_ble_eq_true rfl), (Nat.le_of_ble_eq_true rfl)⟩) hE hP rfl rfl rfl hl.1 rfl (Nat.le_of_ble_eq_true rfl) dL_areRight_198 ⟨Nat.zero_le _, Nat.zero_le _⟩ ?_
      refine lv_iadd hx hb dL_areRight_201 ?_
      refine lv_icmp_ne (tgt := 209) hx hb dL_areRight_202 (by decide) (fun c18 => ?_) (fun c18 => ?_)
      · have hf := q_ite_t c18 hf
        refine lv_iconst (v := 0) hx hb dL_areRight_209 (by decide) ?_
        exact B_210 l1 l3 l5 0 _ (lv_sub hl [0, 1, 2, 4] rfl) hf
      · have hf := q_ite_n c18 hf
        refine lv_iconst (v := 1) hx hb dL_areRight_205 (by decide) ?_
        refine lv_goto (tgt := 210) hx hb dL_areRight_206 (by decide) ?_
        exact B_210 l1 l3 l5 1 _ (lv_sub hl [0, 1, 2, 4] rfl) hf
  have L_129 : ∀ (n : Nat) (l1 : Int64) (l3 : Int32) (l4 : Int32) (l5 : Int32) (l6 : Int32) (ls : Array Slot), lv_has ls 7 [(0, .ref (A 3 0)), (1, .long l1), (3, .int l3), (4, .int l4), (5, .int l5), (6, .int l6)] → f_L_areRight_129 S n l1 l3 l4 l5 l6 = some o → W p l e (headSpec wsL_areRight rL_areRight).room s m (([.ref (A 3 0)] : List Value).toArray) below meth c s.heap [] 0 0 (MQ below (q_Ri o) (([.ref (A 3 0)] : List Value).toArray) s 0 0 (fun _ => False)) (F0 m 129 ls []) := by
    intro n
    induction n with
    | zero => intro l1 l3 l4 l5 l6 ls hl hf; cases hf
    | succ n ih =>
      intro l1 l3 l4 l5 l6 ls hl hf
      rw [f_L_areRight_129] at hf
      refine lv_iload hx hb dL_areRight_129 (lv_at hl 5 rfl) ?_
      refine lv_aload_n hx hb dL_areRight_131 rfl (lv_at hl 0 rfl) ?_
      refine lv_iconst (v := 1) hx hb dL_areRight_132 (by decide) ?_
      obtain ⟨r3, hr3, hf⟩ := q_bd_go hf
      refine q_rdVi (w := wCR cI cJ A S) (ci := 2) (As := [.int 1]) (rest := [.int l6]) hx hb hml hown hts (c_O_value l D cI cJ cS A S 1 _ hr3) (cwV 1 hts gL_areRight_X2_value rfl rfl rfl (by decide +kernel) ⟨(Nat.le_of_ble_eq_true rfl), (Nat.le_of_ble_eq_true rfl)⟩) hE hP rfl rfl rfl hl.1 rfl (Nat.le_of_ble_eq_true rfl) dL_areRight_133 ⟨Nat.zero_le _, Nat.zero_le _⟩ ?_
      refine lv_icmp_ge (tgt := 158) hx hb dL_areRight_136 (by decide) (fun c4 => ?_) (fun c4 => ?_)
      · have hf := q_ite_t c4 hf
        exact B_158 l1 l3 l4 l5 _ (lv_sub hl [0, 1, 2, 3, 4] rfl) hf
      · have hf := q_ite_f c4 hf
        refine lv_iload hx hb dL_areRight_139 (lv_at hl 4 rfl) ?_
        refine lv_if_eq (tgt := 158) hx hb dL_areRight_141 (by decide) (fun c19 => ?_) (fun c19 => ?_)
        · have hf := q_ite_t c19 hf
          exact B_158 l1 l3 l4 l5 _ (lv_sub hl [0, 1, 2, 3, 4] rfl) hf
        · have hf := q_ite_f c19 hf
          refine lv_aload_n hx hb dL_areRight_144 rfl (lv_at hl 0 rfl) ?_
          refine lv_iload hx hb dL_areRight_145 (lv_at hl 5 rfl) ?_
          obtain ⟨r20, hr20, hf⟩ := q_bd_go hf
          refine q_rdWi (w := wCR cI cJ A S) (As := [.ref (A 3 0), .int l6]) (rest := []) hx hb hml hown hts (c_L_isAbsenceRight l D cI cJ cS A S l6 _ hr20) (va_cwS 2 hts gL_areRight_L_isAbsenceRight rfl rfl rfl (by decide +kernel) ⟨(Nat.le_of_ble_eq_true rfl), (Nat.le_of_ble_eq_true rfl)⟩) hE hP rfl hl.1 rfl (Nat.le_of_ble_eq_true rfl) dL_areRight_147 ⟨Nat.zero_le _, Nat.zero_le _⟩ ?_
          refine lv_istore (lv' := [(5, .int r20), (0, .ref (A 3 0)), (1, .long l1), (3, .int l3), (4, .int l4), (6, .int l6)]) hx hb dL_areRight_150 hl (by decide) rfl (fun ls hl => ?_)
          obtain ⟨v21, ev21, hf⟩ := q_let_go hf
          refine lv_iinc (v := v21) (lv' := [(6, .int v21), (5, .int r20), (0, .ref (A 3 0)), (1, .long l1), (3, .int l3), (4, .int l4)]) hx hb dL_areRight_152 hl (k := 5) rfl (by rw [← ev21]; rfl) (by decide) rfl (fun ls hl => ?_)
          refine lv_goto (tgt := 129) hx hb dL_areRight_155 (by decide) ?_
          exact ih l1 l3 l4 r20 v21 _ (lv_sub hl [2, 3, 4, 5, 1, 0] rfl) hf
  have L_13 : ∀ (n : Nat) (l1 : Int64) (l3 : Int32) (l4 : Int32) (l5 : Int32) (l6 : Int32) (ls : Array Slot), lv_has ls 7 [(0, .ref (A 3 0)), (1, .long l1), (3, .int l3), (4, .int l4), (5, .int l5), (6, .int l6)] → f_L_areRight_13 S n l1 l3 l4 l5 l6 = some o → W p l e (headSpec wsL_areRight rL_areRight).room s m (([.ref (A 3 0)] : List Value).toArray) below meth c s.heap [] 0 0 (MQ below (q_Ri o) (([.ref (A 3 0)] : List Value).toArray) s 0 0 (fun _ => False)) (F0 m 13 ls []) := by
    intro n
    induction n with
    | zero => intro l1 l3 l4 l5 l6 ls hl hf; cases hf
    | succ n ih =>
      intro l1 l3 l4 l5 l6 ls hl hf
      rw [f_L_areRight_13] at hf
      refine lv_iload hx hb dL_areRight_13 (lv_at hl 5 rfl) ?_
      refine lv_aload_n hx hb dL_areRight_15 rfl (lv_at hl 0 rfl) ?_
      refine lv_iconst (v := 0) hx hb dL_areRight_16 (by decide) ?_
      obtain ⟨r1, hr1, hf⟩ := q_bd_go hf
      refine q_rdVi (w := wCR cI cJ A S) (ci := 2) (As := [.int 0]) (rest := [.int l6]) hx hb hml hown hts (c_O_value l D cI cJ cS A S 0 _ hr1) (cwV 1 hts gL_areRight_X2_value rfl rfl rfl (by decide +kernel) ⟨(Nat.le_of_ble_eq_true rfl), (Nat.le_of_ble_eq_true rfl)⟩) hE hP rfl rfl rfl hl.1 rfl (Nat.le_of_ble_eq_true rfl) dL_areRight_17 ⟨Nat.zero_le _, Nat.zero_le _⟩ ?_
      refine lv_icmp_ge (tgt := 126) hx hb dL_areRight_20 (by decide) (fun c2 => ?_) (fun c2 => ?_)
      · have hf := q_ite_t c2 hf
        refine lv_iconst (v := 0) hx hb dL_areRight_126 (by decide) ?_
        refine lv_istore (lv' := [(6, .int 0), (0, .ref (A 3 0)), (1, .long l1), (3, .int l3), (4, .int l4), (5, .int l5)]) hx hb dL_areRight_127 hl (by decide) rfl (fun ls hl => ?_)
        exact L_129 2000 l1 l3 l4 l5 0 _ (lv_sub hl [1, 2, 3, 4, 5, 0] rfl) hf
      · have hf := q_ite_f c2 hf
        refine lv_iload hx hb dL_areRight_23 (lv_at hl 4 rfl) ?_
        refine lv_if_eq (tgt := 126) hx hb dL_areRight_25 (by decide) (fun c22 => ?_) (fun c22 => ?_)
        · have hf := q_ite_t c22 hf
          refine lv_iconst (v := 0) hx hb dL_areRight_126 (by decide) ?_
          refine lv_istore (lv' := [(6, .int 0), (0, .ref (A 3 0)), (1, .long l1), (3, .int l3), (4, .int l4), (5, .int l5)]) hx hb dL_areRight_127 hl (by decide) rfl (fun ls hl => ?_)
          exact L_129 2000 l1 l3 l4 l5 0 _ (lv_sub hl [1, 2, 3, 4, 5, 0] rfl) hf
        · have hf := q_ite_f c22 hf
          refine lv_lload_n hx hb dL_areRight_28 rfl (lv_at hl 1 rfl) ?_
          refine lv_aload_n hx hb dL_areRight_29 rfl (lv_at hl 0 rfl) ?_
          refine lv_iload hx hb dL_areRight_30 (lv_at hl 5 rfl) ?_
          refine lv_iconst (v := 3) hx hb dL_areRight_32 (by decide) ?_
          obtain ⟨r23, hr23, hf⟩ := q_bd_go hf
          refine q_rdVi (w := wCR cI cJ A S) (ci := 2) (As := [.int l6, .int 3]) (rest := [.long l1]) hx hb hml hown hts (c_O_person l D cI cJ cS A S l6 3 _ hr23) (cwV 2 hts gL_areRight_X2_person rfl rfl rfl (by decide +kernel) ⟨(Nat.le_of_ble_eq_true rfl), (Nat.le_of_ble_eq_true rfl)⟩) hE hP rfl rfl rfl hl.1 rfl (Nat.le_of_ble_eq_true rfl) dL_areRight_33 ⟨Nat.zero_le _, Nat.zero_le _⟩ ?_
          refine lv_i2l (v := ((r23 : Int32).toInt64)) hx hb dL_areRight_36 rfl ?_
          refine lv_ladd hx hb dL_areRight_37 ?_
          obtain ⟨v24, ev24, hf⟩ := q_let_go hf
          refine q_nml ev24 ?_
          refine lv_lstore_n (lv' := [(1, .long v24), (0, .ref (A 3 0)), (3, .int l3), (4, .int l4), (5, .int l5), (6, .int l6)]) hx hb dL_areRight_38 rfl hl (by decide) rfl (fun ls hl => ?_)
          refine lv_iload_n hx hb dL_areRight_39 rfl (lv_at hl 2 rfl) ?_
          refine lv_aload_n hx hb dL_areRight_40 rfl (lv_at hl 1 rfl) ?_
          refine lv_iload hx hb dL_areRight_41 (lv_at hl 5 rfl) ?_
          refine lv_iconst (v := 1) hx hb dL_areRight_43 (by decide) ?_
          obtain ⟨r25, hr25, hf⟩ := q_bd_go hf
          refine q_rdVi (w := wCR cI cJ A S) (ci := 2) (As := [.int l6, .int 1]) (rest := [.int l3]) hx hb hml hown hts (c_O_person l D cI cJ cS A S l6 1 _ hr25) (cwV 2 hts gL_areRight_X2_person rfl rfl rfl (by decide +kernel) ⟨(Nat.le_of_ble_eq_true rfl), (Nat.le_of_ble_eq_true rfl)⟩) hE hP rfl rfl rfl hl.1 rfl (Nat.le_of_ble_eq_true rfl) dL_areRight_44 ⟨Nat.zero_le _, Nat.zero_le _⟩ ?_
          refine lv_iadd hx hb dL_areRight_47 ?_
          obtain ⟨v26, ev26, hf⟩ := q_let_go hf
          refine q_nmi ev26 ?_
          refine lv_istore_n (lv' := [(3, .int v26), (1, .long v24), (0, .ref (A 3 0)), (4, .int l4), (5, .int l5), (6, .int l6)]) hx hb dL_areRight_48 rfl hl (by decide) rfl (fun ls hl => ?_)
          refine lv_iload hx hb dL_areRight_49 (lv_at hl 3 rfl) ?_
          refine lv_aload_n hx hb dL_areRight_51 rfl (lv_at hl 2 rfl) ?_
          refine lv_iload hx hb dL_areRight_52 (lv_at hl 5 rfl) ?_
          refine lv_iconst (v := 2) hx hb dL_areRight_54 (by decide) ?_
          obtain ⟨r27, hr27, hf⟩ := q_bd_go hf
          refine q_rdVi (w := wCR cI cJ A S) (ci := 2) (As := [.int l6, .int 2]) (rest := [.int l4]) hx hb hml hown hts (c_O_person l D cI cJ cS A S l6 2 _ hr27) (cwV 2 hts gL_areRight_X2_person rfl rfl rfl (by decide +kernel) ⟨(Nat.le_of_ble_eq_true rfl), (Nat.le_of_ble_eq_true rfl)⟩) hE hP rfl rfl rfl hl.1 rfl (Nat.le_of_ble_eq_true rfl) dL_areRight_55 ⟨Nat.zero_le _, Nat.zero_le _⟩ ?_
          refine lv_iadd hx hb dL_areRight_58 ?_
          obtain ⟨v28, ev28, hf⟩ := q_let_go hf
          refine q_nmi ev28 ?_
          refine lv_istore (lv' := [(4, .int v28), (3, .int v26), (1, .long v24), (0, .ref (A 3 0)), (5, .int l5), (6, .int l6)]) hx hb dL_areRight_59 hl (by decide) rfl (fun ls hl => ?_)
          refine lv_aload_n hx hb dL_areRight_61 rfl (lv_at hl 3 rfl) ?_
          refine lv_iload hx hb dL_areRight_62 (lv_at hl 5 rfl) ?_
          refine lv_iconst (v := 5) hx hb dL_areRight_64 (by decide) ?_
          obtain ⟨r29, hr29, hf⟩ := q_bd_go hf
          refine q_rdVi (w := wCR cI cJ A S) (ci := 2) (As := [.int l6, .int 5]) (rest := []) hx hb hml hown hts (c_O_person l D cI cJ cS A S l6 5 _ hr29) (cwV 2 hts gL_areRight_X2_person rfl rfl rfl (by decide +kernel) ⟨(Nat.le_of_ble_eq_true rfl), (Nat.le_of_ble_eq_true rfl)⟩) hE hP rfl rfl rfl hl.1 rfl (Nat.le_of_ble_eq_true rfl) dL_areRight_65 ⟨Nat.zero_le _, Nat.zero_le _⟩ ?_
          refine lv_aload_n hx hb dL_areRight_68 rfl (lv_at hl 3 rfl) ?_
          refine lv_iload hx hb dL_areRight_69 (lv_at hl 5 rfl) ?_
          obtain ⟨r30, hr30, hf⟩ := q_bd_go hf
          refine q_rdVl (w := wCR cI cJ A S) (ci := 2) (As := [.int l6]) (rest := [.int r29]) hx hb hml hown hts (c_O_work l D cI cJ cS A S l6 _ hr30) (cwV 1 hts gL_areRight_X2_work rfl rfl rfl (by decide +kernel) ⟨(Nat.le_of_ble_eq_true rfl), (Nat.le_of_ble_eq_true rfl)⟩) hE hP rfl rfl rfl hl.1 rfl (Nat.le_of_ble_eq_true rfl) dL_areRight_71 ⟨Nat.zero_le _, Nat.zero_le _⟩ ?_
          obtain ⟨r31, hr31, hf⟩ := q_bd_go hf
          refine q_rdSi (As := [.long r30]) (rest := [.int r29]) hx hb hml hown hts (c_L_ones l D cI cJ cS r30 _ hr31) (va_cwS 1 hts gL_areRight_L_ones rfl rfl rfl (by decide +kernel) ⟨(Nat.le_of_ble_eq_true rfl), (Nat.le_of_ble_eq_true rfl)⟩) hE rfl hl.1 rfl (Nat.le_of_ble_eq_true rfl) dL_areRight_74 ⟨Nat.zero_le _, Nat.zero_le _⟩ ?_
          refine lv_icmp_ne (tgt := 117) hx hb dL_areRight_77 (by decide) (fun c32 => ?_) (fun c32 => ?_)
          · have hf := q_ite_t c32 hf
            refine lv_iconst (v := 0) hx hb dL_areRight_117 (by decide) ?_
            refine lv_istore (lv' := [(5, .int 0), (4, .int v28), (3, .int v26), (1, .long v24), (0, .ref (A 3 0)), (6, .int l6)]) hx hb dL_areRight_118 hl (by decide) rfl (fun ls hl => ?_)
            obtain ⟨v33, ev33, hf⟩ := q_let_go hf
            refine lv_iinc (v := v33) (lv' := [(6, .int v33), (5, .int 0), (4, .int v28), (3, .int v26), (1, .long v24), (0, .ref (A 3 0))]) hx hb dL_areRight_120 hl (k := 5) rfl (by rw [← ev33]; rfl) (by decide) rfl (fun ls hl => ?_)
            refine lv_goto (tgt := 13) hx hb dL_areRight_123 (by decide) ?_
            exact ih v24 v26 v28 0 v33 _ (lv_sub hl [5, 4, 3, 2, 1, 0] rfl) hf
          · have hf := q_ite_n c32 hf
            refine lv_aload_n hx hb dL_areRight_80 rfl (lv_at hl 3 rfl) ?_
            refine lv_iload hx hb dL_areRight_81 (lv_at hl 5 rfl) ?_
            refine lv_iconst (v := 5) hx hb dL_areRight_83 (by decide) ?_
            obtain ⟨r34, hr34, hf⟩ := q_bd_go hf
            refine q_rdVi (w := wCR cI cJ A S) (ci := 2) (As := [.int l6, .int 5]) (rest := []) hx hb hml hown hts (c_O_person l D cI cJ cS A S l6 5 _ hr34) (cwV 2 hts gL_areRight_X2_person rfl rfl rfl (by decide +kernel) ⟨(Nat.le_of_ble_eq_true rfl), (Nat.le_of_ble_eq_true rfl)⟩) hE hP rfl rfl rfl hl.1 rfl (Nat.le_of_ble_eq_true rfl) dL_areRight_84 ⟨Nat.zero_le _, Nat.zero_le _⟩ ?_
            refine lv_aload_n hx hb dL_areRight_87 rfl (lv_at hl 3 rfl) ?_
            refine lv_iload hx hb dL_areRight_88 (lv_at hl 5 rfl) ?_
            refine lv_iconst (v := 0) hx hb dL_areRight_90 (by decide) ?_
            obtain ⟨r35, hr35, hf⟩ := q_bd_go hf
            refine q_rdVi (w := wCR cI cJ A S) (ci := 2) (As := [.int l6, .int 0]) (rest := [.int r34]) hx hb hml hown hts (c_O_person l D cI cJ cS A S l6 0 _ hr35) (cwV 2 hts gL_areRight_X2_person rfl rfl rfl (by decide +kernel) ⟨(Nat.le_of_ble_eq_true rfl), (Nat.le_of_ble_eq_true rfl)⟩) hE hP rfl rfl rfl hl.1 rfl (Nat.le_of_ble_eq_true rfl) dL_areRight_91 ⟨Nat.zero_le _, Nat.zero_le _⟩ ?_
            refine lv_aload_n hx hb dL_areRight_94 rfl (lv_at hl 3 rfl) ?_
            refine lv_iload hx hb dL_areRight_95 (lv_at hl 5 rfl) ?_
            refine lv_iconst (v := 1) hx hb dL_areRight_97 (by decide) ?_
            obtain ⟨r36, hr36, hf⟩ := q_bd_go hf
            refine q_rdVi (w := wCR cI cJ A S) (ci := 2) (As := [.int l6, .int 1]) (rest := [.int r35, .int r34]) hx hb hml hown hts (c_O_person l D cI cJ cS A S l6 1 _ hr36) (cwV 2 hts gL_areRight_X2_person rfl rfl rfl (by decide +kernel) ⟨(Nat.le_of_ble_eq_true rfl), (Nat.le_of_ble_eq_true rfl)⟩) hE hP rfl rfl rfl hl.1 rfl (Nat.le_of_ble_eq_true rfl) dL_areRight_98 ⟨Nat.zero_le _, Nat.zero_le _⟩ ?_
            refine lv_isub hx hb dL_areRight_101 ?_
            refine lv_aload_n hx hb dL_areRight_102 rfl (lv_at hl 3 rfl) ?_
            refine lv_iload hx hb dL_areRight_103 (lv_at hl 5 rfl) ?_
            refine lv_iconst (v := 2) hx hb dL_areRight_105 (by decide) ?_
            obtain ⟨r37, hr37, hf⟩ := q_bd_go hf
            refine q_rdVi (w := wCR cI cJ A S) (ci := 2) (As := [.int l6, .int 2]) (rest := [.int (r35 - r36), .int r34]) hx hb hml hown hts (c_O_person l D cI cJ cS A S l6 2 _ hr37) (cwV 2 hts gL_areRight_X2_person rfl rfl rfl (by decide +kernel) ⟨(Nat.le_of_ble_eq_true rfl), (Nat.le_of_ble_eq_true rfl)⟩) hE hP rfl rfl rfl hl.1 rfl (Nat.le_of_ble_eq_true rfl) dL_areRight_106 ⟨Nat.zero_le _, Nat.zero_le _⟩ ?_
            refine lv_iadd hx hb dL_areRight_109 ?_
            refine lv_icmp_ne (tgt := 117) hx hb dL_areRight_110 (by decide) (fun c38 => ?_) (fun c38 => ?_)
            · have hf := q_ite_t c38 hf
              refine lv_iconst (v := 0) hx hb dL_areRight_117 (by decide) ?_
              refine lv_istore (lv' := [(5, .int 0), (4, .int v28), (3, .int v26), (1, .long v24), (0, .ref (A 3 0)), (6, .int l6)]) hx hb dL_areRight_118 hl (by decide) rfl (fun ls hl => ?_)
              obtain ⟨v39, ev39, hf⟩ := q_let_go hf
              refine lv_iinc (v := v39) (lv' := [(6, .int v39), (5, .int 0), (4, .int v28), (3, .int v26), (1, .long v24), (0, .ref (A 3 0))]) hx hb dL_areRight_120 hl (k := 5) rfl (by rw [← ev39]; rfl) (by decide) rfl (fun ls hl => ?_)
              refine lv_goto (tgt := 13) hx hb dL_areRight_123 (by decide) ?_
              exact ih v24 v26 v28 0 v39 _ (lv_sub hl [5, 4, 3, 2, 1, 0] rfl) hf
            · have hf := q_ite_n c38 hf
              refine lv_iconst (v := 1) hx hb dL_areRight_113 (by decide) ?_
              refine lv_goto (tgt := 118) hx hb dL_areRight_114 (by decide) ?_
              refine lv_istore (lv' := [(5, .int 1), (4, .int v28), (3, .int v26), (1, .long v24), (0, .ref (A 3 0)), (6, .int l6)]) hx hb dL_areRight_118 hl (by decide) rfl (fun ls hl => ?_)
              obtain ⟨v40, ev40, hf⟩ := q_let_go hf
              refine lv_iinc (v := v40) (lv' := [(6, .int v40), (5, .int 1), (4, .int v28), (3, .int v26), (1, .long v24), (0, .ref (A 3 0))]) hx hb dL_areRight_120 hl (k := 5) rfl (by rw [← ev40]; rfl) (by decide) rfl (fun ls hl => ?_)
              refine lv_goto (tgt := 13) hx hb dL_areRight_123 (by decide) ?_
              exact ih v24 v26 v28 1 v40 _ (lv_sub hl [5, 4, 3, 2, 1, 0] rfl) hf
  have hl := lv_entry ([.ref (A 3 0)]) (n := 7) (Nat.le_of_ble_eq_true rfl)
  rw [lg_entry_eq]
  generalize (lg_sl ([.ref (A 3 0)]) ++ List.replicate (7 - (lg_sl ([.ref (A 3 0)])).length) Slot.unset).toArray = ls at hl ⊢
  have hl : lv_has ls 7 [(0, .ref (A 3 0))] := hl
  unfold f_L_areRight at hf
  refine lv_lconst (v := 0) hx hb dL_areRight_0 (by decide) ?_
  refine lv_lstore_n (lv' := [(1, .long 0), (0, .ref (A 3 0))]) hx hb dL_areRight_1 rfl hl (by decide) rfl (fun ls hl => ?_)
  refine lv_iconst (v := 0) hx hb dL_areRight_2 (by decide) ?_
  refine lv_istore_n (lv' := [(3, .int 0), (1, .long 0), (0, .ref (A 3 0))]) hx hb dL_areRight_3 rfl hl (by decide) rfl (fun ls hl => ?_)
  refine lv_iconst (v := 0) hx hb dL_areRight_4 (by decide) ?_
  refine lv_istore (lv' := [(4, .int 0), (3, .int 0), (1, .long 0), (0, .ref (A 3 0))]) hx hb dL_areRight_5 hl (by decide) rfl (fun ls hl => ?_)
  refine lv_iconst (v := 1) hx hb dL_areRight_7 (by decide) ?_
  refine lv_istore (lv' := [(5, .int 1), (4, .int 0), (3, .int 0), (1, .long 0), (0, .ref (A 3 0))]) hx hb dL_areRight_8 hl (by decide) rfl (fun ls hl => ?_)
  refine lv_iconst (v := 0) hx hb dL_areRight_10 (by decide) ?_
  refine lv_istore (lv' := [(6, .int 0), (5, .int 1), (4, .int 0), (3, .int 0), (1, .long 0), (0, .ref (A 3 0))]) hx hb dL_areRight_11 hl (by decide) rfl (fun ls hl => ?_)
  exact L_13 2000 0 0 0 1 0 _ (lv_sub hl [5, 4, 3, 2, 1, 0] rfl) hf
