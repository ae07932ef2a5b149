def f_L_view_131 (S : CM) : Nat → Int64 → Int32 → Int32 → Option (Int64 ⊕ (Int64 × Int32))
  | 0, _, _, _ => none
  | n+1, l1, l3, l4 => if 7 ≤ l4 then
 (some (.inr (l1, l3)))
 else ((f_O_absence S l3 l4).bind fun r8 =>
 q_let (((31 * l1) + ((r8 : Int32).toInt64))) fun v9 =>
 q_let (l4 + 1) fun v10 =>
 f_L_view_131 S n v9 l3 v10)
def f_L_view_162 (S : CM) : Nat → Int64 → Int32 → Int32 → Option (Int64 ⊕ (Int64 × Int32))
  | 0, _, _, _ => none
  | n+1, l1, l3, l4 => (f_O_value S 0).bind fun r12 =>
 if r12 ≤ l4 then
 (some (.inr (l1, l3)))
 else ((f_O_bidOf S l4 l3).bind fun r14 =>
 q_let (((31 * l1) + ((r14 : Int32).toInt64))) fun v15 =>
 q_let (l4 + 1) fun v16 =>
 f_L_view_162 S n v15 l3 v16)
def f_L_view_119 (S : CM) : Nat → Int64 → Int32 → Option Int64
  | 0, _, _ => none
  | n+1, l1, l3 => (f_O_value S 1).bind fun r5 =>
 if r5 ≤ l3 then
 (some l1)
 else ((f_L_view_131 S 2000 l1 l3 0).bind fun x11 =>
 q_sum x11 fun yx11 =>
 (f_L_view_162 S 2000 yx11.1 yx11.2 0).bind fun x17 =>
 q_sum x17 fun yx17 =>
 q_let (yx17.2 + 1) fun v18 =>
 f_L_view_119 S n yx17.1 v18)
def f_L_view_71 (S : CM) : Nat → Int64 → Int32 → Int32 → Option (Int64 ⊕ (Int64 × Int32))
  | 0, _, _, _ => none
  | n+1, l1, l3, l4 => if 7 ≤ l4 then
 (some (.inr (l1, l3)))
 else ((f_O_person S l3 l4).bind fun r20 =>
 q_let (((31 * l1) + ((r20 : Int32).toInt64))) fun v21 =>
 q_let (l4 + 1) fun v22 =>
 f_L_view_71 S n v21 l3 v22)
def f_L_view_59 (S : CM) : Nat → Int64 → Int32 → Option Int64
  | 0, _, _ => none
  | n+1, l1, l3 => (f_O_value S 0).bind fun r3 =>
 if r3 ≤ l3 then
 (f_L_view_119 S 2000 l1 0)
 else ((f_L_view_71 S 2000 l1 l3 0).bind fun x23 =>
 q_sum x23 fun yx23 =>
 (f_O_work S yx23.2).bind fun r24 =>
 q_let (((31 * yx23.1) + r24)) fun v25 =>
 q_let (yx23.2 + 1) fun v26 =>
 f_L_view_59 S n v25 v26)
def f_L_view_33 (S : CM) : Nat → Int64 → Int32 → Option Int64
  | 0, _, _ => none
  | n+1, l1, l3 => if 3 ≤ l3 then
 (f_L_view_59 S 2000 l1 0)
 else ((f_O_setting S l3).bind fun r27 =>
 q_let (((31 * l1) + ((r27 : Int32).toInt64))) fun v28 =>
 q_let (l3 + 1) fun v29 =>
 f_L_view_33 S n v28 v29)
def f_L_view_6 (S : CM) : Nat → Int64 → Int32 → Option Int64
  | 0, _, _ => none
  | n+1, l1, l3 => if 11 ≤ l3 then
 (f_L_view_33 S 2000 l1 0)
 else ((f_O_value S l3).bind fun r30 =>
 q_let (((31 * l1) + ((r30 : Int32).toInt64))) fun v31 =>
 q_let (l3 + 1) fun v32 =>
 f_L_view_6 S n v31 v32)
def f_L_view (S : CM) : Option Int64 := f_L_view_6 S 2000 7 0
abbrev rL_view : Room := { frames := 5, cells := 0, slots := 0, locals := 118 }
set_option maxRecDepth 100000 in
set_option maxHeartbeats 4000000 in
theorem c_L_view (l : Launch) (D : va_G) (cI cJ cS : ClassId) (A : Nat → Nat → Nat) (S : CM) (o : Int64) (hf : f_L_view S = some o) : Met l yL_view wsL_view rL_view (va_Pc [.ref (A 3 0)] (q_B D cI cJ cS (wCR cI cJ A S))) (q_Rl o) 0 0 (fun _ => False) := by
  refine Met.ofW (cc := cL_view) (maxL := 5) (ret := some .long) (by decide) rfl ?_
  intro p e s m args below meth c s₁ B9 hml hv
  obtain ⟨rfl, hP, hE⟩ := hv
  have hx := B9.exec
  have hb := B9.bytes
  have hr := B9.returns
  have hts := atoms_spec (ws := wsL_view) B9.pre
  have hown : s.vm.findClass RL = some m.cls := findClass_of_methodNamed B9.named
  have hlocks := B9.notSynchronized
  have L_131 : ∀ (n : Nat) (l1 : Int64) (l3 : Int32) (l4 : Int32) (ls : Array Slot), lv_has ls 5 [(0, .ref (A 3 0)), (1, .long l1), (3, .int l3), (4, .int l4)] → ∀ (z : (Int64 ⊕ (Int64 × Int32))), f_L_view_131 S n l1 l3 l4 = some z → ∀ (K : (Int64 × Int32) → Option Int64), q_sum z K = some o → (∀ (y : (Int64 × Int32)) (ls : Array Slot), lv_has ls 5 [(0, .ref (A 3 0)), (1, .long y.1), (3, .int y.2)] → K y = some o → W p l e (headSpec wsL_view rL_view).room s m (([.ref (A 3 0)] : List Value).toArray) below meth c s.heap [] 0 0 (MQ below (q_Rl o) (([.ref (A 3 0)] : List Value).toArray) s 0 0 (fun _ => False)) (F0 m 159 ls [])) → W p l e (headSpec wsL_view rL_view).room s m (([.ref (A 3 0)] : List Value).toArray) below meth c s.heap [] 0 0 (MQ below (q_Rl o) (([.ref (A 3 0)] : List Value).toArray) s 0 0 (fun _ => False)) (F0 m 131 ls []) := by
    intro n
    induction n with
    | zero => intro l1 l3 l4 ls hl z hf K hk hK; cases hf
    | succ n ih =>
      intro l1 l3 l4 ls hl z hf K hk hK
      rw [f_L_view_131] at hf
      refine lv_iload hx hb dL_view_131 (lv_at hl 3 rfl) ?_
      refine lv_bipush (v := 7) hx hb dL_view_133 (by decide) ?_
      refine lv_icmp_ge (tgt := 159) hx hb dL_view_135 (by decide) (fun c7 => ?_) (fun c7 => ?_)
      · have hf := q_ite_t c7 hf
        have ho := q_some hf
        subst ho
        exact hK _ _ (lv_sub hl [0, 1, 2] rfl) hk
      · have hf := q_ite_f c7 hf
        refine lv_ldc2 (v := 31) hx hb hown (hts (.constantLong RL 17 (31)) (List.mem_of_getElem? (i := 2) rfl)) dL_view_138 ?_
        refine lv_lload_n hx hb dL_view_141 rfl (lv_at hl 1 rfl) ?_
        refine lv_lmul hx hb dL_view_142 ?_
        refine lv_aload_n hx hb dL_view_143 rfl (lv_at hl 0 rfl) ?_
        refine lv_iload_n hx hb dL_view_144 rfl (lv_at hl 2 rfl) ?_
        refine lv_iload hx hb dL_view_145 (lv_at hl 3 rfl) ?_
        obtain ⟨r8, hr8, hf⟩ := q_bd_go hf
        refine q_rdVi (w := wCR cI cJ A S) (ci := 2) (As := [.int l3, .int l4]) (rest := [.long (31 * l1)]) hx hb hml hown hts (c_O_absence l D cI cJ cS A S l3 l4 _ hr8) (cwV 2 hts gL_view_X2_absence rfl rfl rfl (by decide +kernel) ⟨(Nat.le_of_ble_eq_true rfl), (Nat.le_of_ble_eq_true rfl)⟩) hE hP rfl rfl rfl hl.1 rfl (Nat.le_of_ble_eq_true rfl) dL_view_147 ⟨Nat.zero_le _, Nat.zero_le _⟩ ?_
        refine lv_i2l (v := ((r8 : Int32).toInt64)) hx hb dL_view_150 rfl ?_
        refine lv_ladd hx hb dL_view_151 ?_
        obtain ⟨v9, ev9, hf⟩ := q_let_go hf
        refine q_nml ev9 ?_
        refine lv_lstore_n (lv' := [(1, .long v9), (0, .ref (A 3 0)), (3, .int l3), (4, .int l4)]) hx hb dL_view_152 rfl hl (by decide) rfl (fun ls hl => ?_)
        obtain ⟨v10, ev10, hf⟩ := q_let_go hf
        refine lv_iinc (v := v10) (lv' := [(4, .int v10), (1, .long v9), (0, .ref (A 3 0)), (3, .int l3)]) hx hb dL_view_153 hl (k := 3) rfl (by rw [← ev10]; rfl) (by decide) rfl (fun ls hl => ?_)
        refine lv_goto (tgt := 131) hx hb dL_view_156 (by decide) ?_
        exact ih v9 l3 v10 _ (lv_sub hl [2, 1, 3, 0] rfl) _ hf _ hk hK
  have L_162 : ∀ (n : Nat) (l1 : Int64) (l3 : Int32) (l4 : Int32) (ls : Array Slot), lv_has ls 5 [(0, .ref (A 3 0)), (1, .long l1), (3, .int l3), (4, .int l4)] → ∀ (z : (Int64 ⊕ (Int64 × Int32))), f_L_view_162 S n l1 l3 l4 = some z → ∀ (K : (Int64 × Int32) → Option Int64), q_sum z K = some o → (∀ (y : (Int64 × Int32)) (ls : Array Slot), lv_has ls 5 [(0, .ref (A 3 0)), (1, .long y.1), (3, .int y.2)] → K y = some o → W p l e (headSpec wsL_view rL_view).room s m (([.ref (A 3 0)] : List Value).toArray) below meth c s.heap [] 0 0 (MQ below (q_Rl o) (([.ref (A 3 0)] : List Value).toArray) s 0 0 (fun _ => False)) (F0 m 193 ls [])) → W p l e (headSpec wsL_view rL_view).room s m (([.ref (A 3 0)] : List Value).toArray) below meth c s.heap [] 0 0 (MQ below (q_Rl o) (([.ref (A 3 0)] : List Value).toArray) s 0 0 (fun _ => False)) (F0 m 162 ls []) := by
    intro n
    induction n with
    | zero => intro l1 l3 l4 ls hl z hf K hk hK; cases hf
    | succ n ih =>
      intro l1 l3 l4 ls hl z hf K hk hK
      rw [f_L_view_162] at hf
      refine lv_iload hx hb dL_view_162 (lv_at hl 3 rfl) ?_
      refine lv_aload_n hx hb dL_view_164 rfl (lv_at hl 0 rfl) ?_
      refine lv_iconst (v := 0) hx hb dL_view_165 (by decide) ?_
      obtain ⟨r12, hr12, hf⟩ := q_bd_go hf
      refine q_rdVi (w := wCR cI cJ A S) (ci := 2) (As := [.int 0]) (rest := [.int l4]) hx hb hml hown hts (c_O_value l D cI cJ cS A S 0 _ hr12) (cwV 1 hts gL_view_X2_value rfl rfl rfl (by decide +kernel) ⟨(Nat.le_of_ble_eq_true rfl), (Nat.le_of_ble_eq_true rfl)⟩) hE hP rfl rfl rfl hl.1 rfl (Nat.le_of_ble_eq_true rfl) dL_view_166 ⟨Nat.zero_le _, Nat.zero_le _⟩ ?_
      refine lv_icmp_ge (tgt := 193) hx hb dL_view_169 (by decide) (fun c13 => ?_) (fun c13 => ?_)
      · have hf := q_ite_t c13 hf
        have ho := q_some hf
        subst ho
        exact hK _ _ (lv_sub hl [0, 1, 2] rfl) hk
      · have hf := q_ite_f c13 hf
        refine lv_ldc2 (v := 31) hx hb hown (hts (.constantLong RL 17 (31)) (List.mem_of_getElem? (i := 2) rfl)) dL_view_172 ?_
        refine lv_lload_n hx hb dL_view_175 rfl (lv_at hl 1 rfl) ?_
        refine lv_lmul hx hb dL_view_176 ?_
        refine lv_aload_n hx hb dL_view_177 rfl (lv_at hl 0 rfl) ?_
        refine lv_iload hx hb dL_view_178 (lv_at hl 3 rfl) ?_
        refine lv_iload_n hx hb dL_view_180 rfl (lv_at hl 2 rfl) ?_
        obtain ⟨r14, hr14, hf⟩ := q_bd_go hf
        refine q_rdVi (w := wCR cI cJ A S) (ci := 2) (As := [.int l4, .int l3]) (rest := [.long (31 * l1)]) hx hb hml hown hts (c_O_bidOf l D cI cJ cS A S l4 l3 _ hr14) (cwV 2 hts gL_view_X2_bidOf rfl rfl rfl (by decide +kernel) ⟨(Nat.le_of_ble_eq_true rfl), (Nat.le_of_ble_eq_true rfl)⟩) hE hP rfl rfl rfl hl.1 rfl (Nat.le_of_ble_eq_true rfl) dL_view_181 ⟨Nat.zero_le _, Nat.zero_le _⟩ ?_
        refine lv_i2l (v := ((r14 : Int32).toInt64)) hx hb dL_view_184 rfl ?_
        refine lv_ladd hx hb dL_view_185 ?_
        obtain ⟨v15, ev15, hf⟩ := q_let_go hf
        refine q_nml ev15 ?_
        refine lv_lstore_n (lv' := [(1, .long v15), (0, .ref (A 3 0)), (3, .int l3), (4, .int l4)]) hx hb dL_view_186 rfl hl (by decide) rfl (fun ls hl => ?_)
        obtain ⟨v16, ev16, hf⟩ := q_let_go hf
        refine lv_iinc (v := v16) (lv' := [(4, .int v16), (1, .long v15), (0, .ref (A 3 0)), (3, .int l3)]) hx hb dL_view_187 hl (k := 3) rfl (by rw [← ev16]; rfl) (by decide) rfl (fun ls hl => ?_)
        refine lv_goto (tgt := 162) hx hb dL_view_190 (by decide) ?_
        exact ih v15 l3 v16 _ (lv_sub hl [2, 1, 3, 0] rfl) _ hf _ hk hK
  have L_119 : ∀ (n : Nat) (l1 : Int64) (l3 : Int32) (ls : Array Slot), lv_has ls 5 [(0, .ref (A 3 0)), (1, .long l1), (3, .int l3)] → f_L_view_119 S n l1 l3 = some o → W p l e (headSpec wsL_view rL_view).room s m (([.ref (A 3 0)] : List Value).toArray) below meth c s.heap [] 0 0 (MQ below (q_Rl o) (([.ref (A 3 0)] : List Value).toArray) s 0 0 (fun _ => False)) (F0 m 119 ls []) := by
    intro n
    induction n with
    | zero => intro l1 l3 ls hl hf; cases hf
    | succ n ih =>
      intro l1 l3 ls hl hf
      rw [f_L_view_119] at hf
      refine lv_iload_n hx hb dL_view_119 rfl (lv_at hl 2 rfl) ?_
      refine lv_aload_n hx hb dL_view_120 rfl (lv_at hl 0 rfl) ?_
      refine lv_iconst (v := 1) hx hb dL_view_121 (by decide) ?_
      obtain ⟨r5, hr5, hf⟩ := q_bd_go hf
      refine q_rdVi (w := wCR cI cJ A S) (ci := 2) (As := [.int 1]) (rest := [.int l3]) hx hb hml hown hts (c_O_value l D cI cJ cS A S 1 _ hr5) (cwV 1 hts gL_view_X2_value rfl rfl rfl (by decide +kernel) ⟨(Nat.le_of_ble_eq_true rfl), (Nat.le_of_ble_eq_true rfl)⟩) hE hP rfl rfl rfl hl.1 rfl (Nat.le_of_ble_eq_true rfl) dL_view_122 ⟨Nat.zero_le _, Nat.zero_le _⟩ ?_
      refine lv_icmp_ge (tgt := 199) hx hb dL_view_125 (by decide) (fun c6 => ?_) (fun c6 => ?_)
      · have hf := q_ite_t c6 hf
        refine lv_lload_n hx hb dL_view_199 rfl (lv_at hl 1 rfl) ?_
        have ho := q_some hf
        subst ho
        exact W.lret hx hb hr (fun t ht hW => ⟨rfl, ht⟩) t_nil dL_view_200
      · have hf := q_ite_f c6 hf
        refine lv_iconst (v := 0) hx hb dL_view_128 (by decide) ?_
        refine lv_istore (lv' := [(4, .int 0), (0, .ref (A 3 0)), (1, .long l1), (3, .int l3)]) hx hb dL_view_129 hl (by decide) rfl (fun ls hl => ?_)
        obtain ⟨x11, hx11, hf⟩ := q_bd_go hf
        refine L_131 2000 l1 l3 0 _ (lv_sub hl [1, 2, 3, 0] rfl) _ hx11 _ hf (fun yx11 ls hl hf => ?_)
        refine lv_iconst (v := 0) hx hb dL_view_159 (by decide) ?_
        refine lv_istore (lv' := [(4, .int 0), (0, .ref (A 3 0)), (1, .long yx11.1), (3, .int yx11.2)]) hx hb dL_view_160 hl (by decide) rfl (fun ls hl => ?_)
        obtain ⟨x17, hx17, hf⟩ := q_bd_go hf
        refine L_162 2000 yx11.1 yx11.2 0 _ (lv_sub hl [1, 2, 3, 0] rfl) _ hx17 _ hf (fun yx17 ls hl hf => ?_)
        obtain ⟨v18, ev18, hf⟩ := q_let_go hf
        refine lv_iinc (v := v18) (lv' := [(3, .int v18), (0, .ref (A 3 0)), (1, .long yx17.1)]) hx hb dL_view_193 hl (k := 2) rfl (by rw [← ev18]; rfl) (by decide) rfl (fun ls hl => ?_)
        refine lv_goto (tgt := 119) hx hb dL_view_196 (by decide) ?_
        exact ih yx17.1 v18 _ (lv_sub hl [1, 2, 0] rfl) hf
  have L_71 : ∀ (n : Nat) (l1 : Int64) (l3 : Int32) (l4 : Int32) (ls : Array Slot), lv_has ls 5 [(0, .ref (A 3 0)), (1, .long l1), (3, .int l3), (4, .int l4)] → ∀ (z : (Int64 ⊕ (Int64 × Int32))), f_L_view_71 S n l1 l3 l4 = some z → ∀ (K : (Int64 × Int32) → Option Int64), q_sum z K = some o → (∀ (y : (Int64 × Int32)) (ls : Array Slot), lv_has ls 5 [(0, .ref (A 3 0)), (1, .long y.1), (3, .int y.2)] → K y = some o → W p l e (headSpec wsL_view rL_view).room s m (([.ref (A 3 0)] : List Value).toArray) below meth c s.heap [] 0 0 (MQ below (q_Rl o) (([.ref (A 3 0)] : List Value).toArray) s 0 0 (fun _ => False)) (F0 m 99 ls [])) → W p l e (headSpec wsL_view rL_view).room s m (([.ref (A 3 0)] : List Value).toArray) below meth c s.heap [] 0 0 (MQ below (q_Rl o) (([.ref (A 3 0)] : List Value).toArray) s 0 0 (fun _ => False)) (F0 m 71 ls []) := by
    intro n
    induction n with
    | zero => intro l1 l3 l4 ls hl z hf K hk hK; cases hf
    | succ n ih =>
      intro l1 l3 l4 ls hl z hf K hk hK
      rw [f_L_view_71] at hf
      refine lv_iload hx hb dL_view_71 (lv_at hl 3 rfl) ?_
      refine lv_bipush (v := 7) hx hb dL_view_73 (by decide) ?_
      refine lv_icmp_ge (tgt := 99) hx hb dL_view_75 (by decide) (fun c19 => ?_) (fun c19 => ?_)
      · have hf := q_ite_t c19 hf
        have ho := q_some hf
        subst ho
        exact hK _ _ (lv_sub hl [0, 1, 2] rfl) hk
      · have hf := q_ite_f c19 hf
        refine lv_ldc2 (v := 31) hx hb hown (hts (.constantLong RL 17 (31)) (List.mem_of_getElem? (i := 2) rfl)) dL_view_78 ?_
        refine lv_lload_n hx hb dL_view_81 rfl (lv_at hl 1 rfl) ?_
        refine lv_lmul hx hb dL_view_82 ?_
        refine lv_aload_n hx hb dL_view_83 rfl (lv_at hl 0 rfl) ?_
        refine lv_iload_n hx hb dL_view_84 rfl (lv_at hl 2 rfl) ?_
        refine lv_iload hx hb dL_view_85 (lv_at hl 3 rfl) ?_
        obtain ⟨r20, hr20, hf⟩ := q_bd_go hf
        refine q_rdVi (w := wCR cI cJ A S) (ci := 2) (As := [.int l3, .int l4]) (rest := [.long (31 * l1)]) hx hb hml hown hts (c_O_person l D cI cJ cS A S l3 l4 _ hr20) (cwV 2 hts gL_view_X2_person rfl rfl rfl (by decide +kernel) ⟨(Nat.le_of_ble_eq_true rfl), (Nat.le_of_ble_eq_true rfl)⟩) hE hP rfl rfl rfl hl.1 rfl (Nat.le_of_ble_eq_true rfl) dL_view_87 ⟨Nat.zero_le _, Nat.zero_le _⟩ ?_
        refine lv_i2l (v := ((r20 : Int32).toInt64)) hx hb dL_view_90 rfl ?_
        refine lv_ladd hx hb dL_view_91 ?_
        obtain ⟨v21, ev21, hf⟩ := q_let_go hf
        refine q_nml ev21 ?_
        refine lv_lstore_n (lv' := [(1, .long v21), (0, .ref (A 3 0)), (3, .int l3), (4, .int l4)]) hx hb dL_view_92 rfl hl (by decide) rfl (fun ls hl => ?_)
        obtain ⟨v22, ev22, hf⟩ := q_let_go hf
        refine lv_iinc (v := v22) (lv' := [(4, .int v22), (1, .long v21), (0, .ref (A 3 0)), (3, .int l3)]) hx hb dL_view_93 hl (k := 3) rfl (by rw [← ev22]; rfl) (by decide) rfl (fun ls hl => ?_)
        refine lv_goto (tgt := 71) hx hb dL_view_96 (by decide) ?_
        exact ih v21 l3 v22 _ (lv_sub hl [2, 1, 3, 0] rfl) _ hf _ hk hK
  have L_59 : ∀ (n : Nat) (l1 : Int64) (l3 : Int32) (ls : Array Slot), lv_has ls 5 [(0, .ref (A 3 0)), (1, .long l1), (3, .int l3)] → f_L_view_59 S n l1 l3 = some o → W p l e (headSpec wsL_view rL_view).room s m (([.ref (A 3 0)] : List Value).toArray) below meth c s.heap [] 0 0 (MQ below (q_Rl o) (([.ref (A 3 0)] : List Value).toArray) s 0 0 (fun _ => False)) (F0 m 59 ls []) := by
    intro n
    induction n with
    | zero => intro l1 l3 ls hl hf; cases hf
    | succ n ih =>
      intro l1 l3 ls hl hf
      rw [f_L_view_59] at hf
      refine lv_iload_n hx hb dL_view_59 rfl (lv_at hl 2 rfl) ?_
      refine lv_aload_n hx hb dL_view_60 rfl (lv_at hl 0 rfl) ?_
      refine lv_iconst (v := 0) hx hb dL_view_61 (by decide) ?_
      obtain ⟨r3, hr3, hf⟩ := q_bd_go hf
      refine q_rdVi (w := wCR cI cJ A S) (ci := 2) (As := [.int 0]) (rest := [.int l3]) hx hb hml hown hts (c_O_value l D cI cJ cS A S 0 _ hr3) (cwV 1 hts gL_view_X2_value rfl rfl rfl (by decide +kernel) ⟨(Nat.le_of_ble_eq_true rfl), (Nat.le_of_ble_eq_true rfl)⟩) hE hP rfl rfl rfl hl.1 rfl (Nat.le_of_ble_eq_true rfl) dL_view_62 ⟨Nat.zero_le _, Nat.zero_le _⟩ ?_
      refine lv_icmp_ge (tgt := 117) hx hb dL_view_65 (by decide) (fun c4 => ?_) (fun c4 => ?_)
      · have hf := q_ite_t c4 hf
        refine lv_iconst (v := 0) hx hb dL_view_117 (by decide) ?_
        refine lv_istore_n (lv' := [(3, .int 0), (0, .ref (A 3 0)), (1, .long l1)]) hx hb dL_view_118 rfl hl (by decide) rfl (fun ls hl => ?_)
        exact L_119 2000 l1 0 _ (lv_sub hl [1, 2, 0] rfl) hf
      · have hf := q_ite_f c4 hf
        refine lv_iconst (v := 0) hx hb dL_view_68 (by decide) ?_
        refine lv_istore (lv' := [(4, .int 0), (0, .ref (A 3 0)), (1, .long l1), (3, .int l3)]) hx hb dL_view_69 hl (by decide) rfl (fun ls hl => ?_)
        obtain ⟨x23, hx23, hf⟩ := q_bd_go hf
        refine L_71 2000 l1 l3 0 _ (lv_sub hl [1, 2, 3, 0] rfl) _ hx23 _ hf (fun yx23 ls hl hf => ?_)
        refine lv_ldc2 (v := 31) hx hb hown (hts (.constantLong RL 17 (31)) (List.mem_of_getElem? (i := 2) rfl)) dL_view_99 ?_
        refine lv_lload_n hx hb dL_view_102 rfl (lv_at hl 1 rfl) ?_
        refine lv_lmul hx hb dL_view_103 ?_
        refine lv_aload_n hx hb dL_view_104 rfl (lv_at hl 0 rfl) ?_
        refine lv_iload_n hx hb dL_view_105 rfl (lv_at hl 2 rfl) ?_
        obtain ⟨r24, hr24, hf⟩ := q_bd_go hf
        refine q_rdVl (w := wCR cI cJ A S) (ci := 2) (As := [.int yx23.2]) (rest := [.long (31 * yx23.1)]) hx hb hml hown hts (c_O_work l D cI cJ cS A S yx23.2 _ hr24) (cwV 1 hts gL_view_X2_work rfl rfl rfl (by decide +kernel) ⟨(Nat.le_of_ble_eq_true rfl), (Nat.le_of_ble_eq_true rfl)⟩) hE hP rfl rfl rfl hl.1 rfl (Nat.le_of_ble_eq_true rfl) dL_view_106 ⟨Nat.zero_le _, Nat.zero_le _⟩ ?_
        refine lv_ladd hx hb dL_view_109 ?_
        obtain ⟨v25, ev25, hf⟩ := q_let_go hf
        refine q_nml ev25 ?_
        refine lv_lstore_n (lv' := [(1, .long v25), (0, .ref (A 3 0)), (3, .int yx23.2)]) hx hb dL_view_110 rfl hl (by decide) rfl (fun ls hl => ?_)
        obtain ⟨v26, ev26, hf⟩ := q_let_go hf
        refine lv_iinc (v := v26) (lv' := [(3, .int v26), (1, .long v25), (0, .ref (A 3 0))]) hx hb dL_view_111 hl (k := 2) rfl (by rw [← ev26]; rfl) (by decide) rfl (fun ls hl => ?_)
        refine lv_goto (tgt := 59) hx hb dL_view_114 (by decide) ?_
        exact ih v25 v26 _ (lv_sub hl [2, 1, 0] rfl) hf
  have L_33 : ∀ (n : Nat) (l1 : Int64) (l3 : Int32) (ls : Array Slot), lv_has ls 5 [(0, .ref (A 3 0)), (1, .long l1), (3, .int l3)] → f_L_view_33 S n l1 l3 = some o → W p l e (headSpec wsL_view rL_view).room s m (([.ref (A 3 0)] : List Value).toArray) below meth c s.heap [] 0 0 (MQ below (q_Rl o) (([.ref (A 3 0)] : List Value).toArray) s 0 0 (fun _ => False)) (F0 m 33 ls []) := by
    intro n
    induction n with
    | zero => intro l1 l3 ls hl hf; cases hf
    | succ n ih =>
      intro l1 l3 ls hl hf
      rw [f_L_view_33] at hf
      refine lv_iload_n hx hb dL_view_33 rfl (lv_at hl 2 rfl) ?_
      refine lv_iconst (v := 3) hx hb dL_view_34 (by decide) ?_
      refine lv_icmp_ge (tgt := 57) hx hb dL_view_35 (by decide) (fun c2 => ?_) (fun c2 => ?_)
      · have hf := q_ite_t c2 hf
        refine lv_iconst (v := 0) hx hb dL_view_57 (by decide) ?_
        refine lv_istore_n (lv' := [(3, .int 0), (0, .ref (A 3 0)), (1, .long l1)]) hx hb dL_view_58 rfl hl (by decide) rfl (fun ls hl => ?_)
        exact L_59 2000 l1 0 _ (lv_sub hl [1, 2, 0] rfl) hf
      · have hf := q_ite_f c2 hf
        refine lv_ldc2 (v := 31) hx hb hown (hts (.constantLong RL 17 (31)) (List.mem_of_getElem? (i := 2) rfl)) dL_view_38 ?_
        refine lv_lload_n hx hb dL_view_41 rfl (lv_at hl 1 rfl) ?_
        refine lv_lmul hx hb dL_view_42 ?_
        refine lv_aload_n hx hb dL_view_43 rfl (lv_at hl 0 rfl) ?_
        refine lv_iload_n hx hb dL_view_44 rfl (lv_at hl 2 rfl) ?_
        obtain ⟨r27, hr27, hf⟩ := q_bd_go hf
        refine q_rdVi (w := wCR cI cJ A S) (ci := 2) (As := [.int l3]) (rest := [.long (31 * l1)]) hx hb hml hown hts (c_O_setting l D cI cJ cS A S l3 _ hr27) (cwV 1 hts gL_view_X2_setting rfl rfl rfl (by decide +kernel) ⟨(Nat.le_of_ble_eq_true rfl), (Nat.le_of_ble_eq_true rfl)⟩) hE hP rfl rfl rfl hl.1 rfl (Nat.le_of_ble_eq_true rfl) dL_view_45 ⟨Nat.zero_le _, Nat.zero_le _⟩ ?_
        refine lv_i2l (v := ((r27 : Int32).toInt64)) hx hb dL_view_48 rfl ?_
        refine lv_ladd hx hb dL_view_49 ?_
        obtain ⟨v28, ev28, hf⟩ := q_let_go hf
        refine q_nml ev28 ?_
        refine lv_lstore_n (lv' := [(1, .long v28), (0, .ref (A 3 0)), (3, .int l3)]) hx hb dL_view_50 rfl hl (by decide) rfl (fun ls hl => ?_)
        obtain ⟨v29, ev29, hf⟩ := q_let_go hf
        refine lv_iinc (v := v29) (lv' := [(3, .int v29), (1, .long v28), (0, .ref (A 3 0))]) hx hb dL_view_51 hl (k := 2) rfl (by rw [← ev29]; rfl) (by decide) rfl (fun ls hl => ?_)
        refine lv_goto (tgt := 33) hx hb dL_view_54 (by decide) ?_
        exact ih v28 v29 _ (lv_sub hl [2, 1, 0] rfl) hf
  have L_6 : ∀ (n : Nat) (l1 : Int64) (l3 : Int32) (ls : Array Slot), lv_has ls 5 [(0, .ref (A 3 0)), (1, .long l1), (3, .int l3)] → f_L_view_6 S n l1 l3 = some o → W p l e (headSpec wsL_view rL_view).room s m (([.ref (A 3 0)] : List Value).toArray) below meth c s.heap [] 0 0 (MQ below (q_Rl o) (([.ref (A 3 0)] : List Value).toArray) s 0 0 (fun _ => False)) (F0 m 6 ls []) := by
    intro n
    induction n with
    | zero => intro l1 l3 ls hl hf; cases hf
    | succ n ih =>
      intro l1 l3 ls hl hf
      rw [f_L_view_6] at hf
      refine lv_iload_n hx hb dL_view_6 rfl (lv_at hl 2 rfl) ?_
      refine lv_bipush (v := 11) hx hb dL_view_7 (by decide) ?_
      refine lv_icmp_ge (tgt := 31) hx hb dL_view_9 (by decide) (fun c1 => ?_) (fun c1 => ?_)
      · have hf := q_ite_t c1 hf
        refine lv_iconst (v := 0) hx hb dL_view_31 (by decide) ?_
        refine lv_istore_n (lv' := [(3, .int 0), (0, .ref (A 3 0)), (1, .long l1)]) hx hb dL_view_32 rfl hl (by decide) rfl (fun ls hl => ?_)
        exact L_33 2000 l1 0 _ (lv_sub hl [1, 2, 0] rfl) hf
      · have hf := q_ite_f c1 hf
        refine lv_ldc2 (v := 31) hx hb hown (hts (.constantLong RL 17 (31)) (List.mem_of_getElem? (i := 2) rfl)) dL_view_12 ?_
        refine lv_lload_n hx hb dL_view_15 rfl (lv_at hl 1 rfl) ?_
        refine lv_lmul hx hb dL_view_16 ?_
        refine lv_aload_n hx hb dL_view_17 rfl (lv_at hl 0 rfl) ?_
        refine lv_iload_n hx hb dL_view_18 rfl (lv_at hl 2 rfl) ?_
        obtain ⟨r30, hr30, hf⟩ := q_bd_go hf
        refine q_rdVi (w := wCR cI cJ A S) (ci := 2) (As := [.int l3]) (rest := [.long (31 * l1)]) hx hb hml hown hts (c_O_value l D cI cJ cS A S l3 _ hr30) (cwV 1 hts gL_view_X2_value rfl rfl rfl (by decide +kernel) ⟨(Nat.le_of_ble_eq_true rfl), (Nat.le_of_ble_eq_true rfl)⟩) hE hP rfl rfl rfl hl.1 rfl (Nat.le_of_ble_eq_true rfl) dL_view_19 ⟨Nat.zero_le _, Nat.zero_le _⟩ ?_
        refine lv_i2l (v := ((r30 : Int32).toInt64)) hx hb dL_view_22 rfl ?_
        refine lv_ladd hx hb dL_view_23 ?_
        obtain ⟨v31, ev31, hf⟩ := q_let_go hf
        refine q_nml ev31 ?_
        refine lv_lstore_n (lv' := [(1, .long v31), (0, .ref (A 3 0)), (3, .int l3)]) hx hb dL_view_24 rfl hl (by decide) rfl (fun ls hl => ?_)
        obtain ⟨v32, ev32, hf⟩ := q_let_go hf
        refine lv_iinc (v := v32) (lv' := [(3, .int v32), (1, .long v31), (0, .ref (A 3 0))]) hx hb dL_view_25 hl (k := 2) rfl (by rw [← ev32]; rfl) (by decide) rfl (fun ls hl => ?_)
        refine lv_goto (tgt := 6) hx hb dL_view_28 (by decide) ?_
        exact ih v31 v32 _ (lv_sub hl [2, 1, 0] rfl) hf
  have hl := lv_entry ([.ref (A 3 0)]) (n := 5) (Nat.le_of_ble_eq_true rfl)
  rw [lg_entry_eq]
  generalize (lg_sl ([.ref (A 3 0)]) ++ List.replicate (5 - (lg_sl ([.ref (A 3 0)])).length) Slot.unset).toArray = ls at hl ⊢
  have hl : lv_has ls 5 [(0, .ref (A 3 0))] := hl
  unfold f_L_view at hf
  refine lv_ldc2 (v := 7) hx hb hown (hts (.constantLong RL 15 (7)) (List.mem_of_getElem? (i := 1) rfl)) dL_view_0 ?_
  refine lv_lstore_n (lv' := [(1, .long 7), (0, .ref (A 3 0))]) hx hb dL_view_3 rfl hl (by decide) rfl (fun ls hl => ?_)
  refine lv_iconst (v := 0) hx hb dL_view_4 (by decide) ?_
  refine lv_istore_n (lv' := [(3, .int 0), (1, .long 7), (0, .ref (A 3 0))]) hx hb dL_view_5 rfl hl (by decide) rfl (fun ls hl => ?_)
  exact L_6 2000 7 0 _ (lv_sub hl [2, 1, 0] rfl) hf
