def p_w (k : Nat) (x : Int32) : Int32 := if k < 3 then 1 else x &&& 15
/-- behind a turn's call: all is right -/
def p_end (S : CM) : Option CM := (f_L_areRight S).bind fun z => if z = 0 then none else some S
def p_mid (x w a b : Int32) (v0 d0 : Int64) (r : Int32 × CM) : Option CM := if r.1 = -1000000000 then ((f_L_view r.2).bind fun v1 => if lg_cmp v1 v0 = 0 then ((f_X2_digest r.2).bind fun d1 => if lg_cmp d1 d0 = 0 then p_end r.2 else none) else none) else (if x &&& 16 = 0 then ((f_L_isUndone r.2 w a b r.1 v0).bind fun u => if u.1 = 0 then none else p_end u.2) else p_end r.2)
def p_step (x a b : Int32) (k : Nat) (S : CM) : Option CM := (f_L_view S).bind fun v0 => (f_X2_digest S).bind fun d0 => (f_L_tries S (p_w k x) a b).bind fun r => p_mid x (p_w k x) a b v0 d0 r
/-- the turns of a script, T of them; none: something is wrong -/
def p_run (L : Nat) (xs : Nat → Int32) (T : Nat) : Nat → Nat → CM → Option Unit
  | 0, _, _ => none
  | n + 1, k, S => if k < T then ((p_step (f_L_cell L xs (3 * k)) (f_L_cell L xs (3 * k + 1)) (f_L_cell L xs (3 * k + 2)) k S).bind fun S' => p_run L xs T n (k + 1) S') else some ()
/-- what holds in the whole walk of the law's body -/
def q_cx (p : Program) (l : Launch) (s : State) (m : MethodId) (meth : Method) (c : Code) (b L : Nat) (xs : Nat → Int32) (D : va_G) (cI cJ cS : ClassId) (sa : Nat → Nat) : Prop := lw_At p s m meth c b L xs ∧ l.stackTraces = false ∧ q_E D cI cJ cS s ∧ q_ES sa s ∧ q_EN s ∧ q_EZ sa (fun q : Nat => s.heap.size ≤ q) s s.heap
/-- from every world that holds S, with k turns done, the walk goes on from pc -/
def q_go (p : Program) (l : Launch) (e : Env) (s : State) (m : MethodId) (below : List Frame) (meth : Method) (c : Code) (b : Nat) (D : va_G) (cI cJ cS : ClassId) (cells slots pc T k : Nat) (S : CM) : Prop := ∀ (A : Nat → Nat → Nat) (g : Nat → Option Nat) (B : Nat → Nat → Nat) (H : Heap) (locs : List Loc) (ls : Array Slot), (∀ i, i < 4 → g i = some (B i 0)) → va_P D vwCl (wCM cI cJ cS A g B S) H → va_D (fun q : Nat => s.heap.size ≤ q) (wCM cI cJ cS A g B S) → va_S (fun q : Nat => s.heap.size ≤ q) s.heap H locs → lv_has ls 13 [(0, .ref b), (1, .ref (A 3 0)), (2, .int (nI T)), (3, .int (nI k))] → W p l e room_1 s m #[Value.ref b] below meth c H locs cells slots (lw_Z below #[Value.ref b] s) (F0 m pc ls [])
section QC
variable {p : Program} {l : Launch} {e : Env} {R : Room} {s : State} {m : MethodId} {args : Array Value} {below : List Frame} {meth : Method} {c : Code} {H : Heap} {locs : List Loc} {cells slots : Nat} {Q : State → Prop}
variable {pc : Nat} {ls : Array Slot} {rest st0 : List Value} {y : MethodName} {bytes cc : ByteArray} {maxL nL n index : Nat} {ret : Option FieldType} {ws : List Cond} {rm : Room} {Ts : List Cond} {own : String} {b L : Nat} {xs : Nat → Int32} {j o : Int32} {A0 : Nat → Prop}
theorem q_rdC (hx : p.tables.exec = Jvm.exec) (hb : c.code = cc) (hml : c.maxLocals = nL) (hown : s.vm.findClass own = some m.cls) (hts : ∀ z ∈ Ts, z.before args s = true) (hM : Met l y ws rm (va_Pc [.ref b, .int j] (q_BS b L xs)) (q_Ri o) 0 0 (fun _ => False)) (cw : CallB R s args own index y bytes maxL ret ws rm 0 0 2 ∧ (Cond.static y).before args s = true)
    (hX : va_X b L xs s s.heap) (hbl : b < s.heap.size) (hbA : ¬ A0 b) (hS : va_S A0 s.heap H locs) (hsize : ls.size = nL) (hst : st0 = ([.ref b, .int j] : List Value).reverse ++ rest) (hW : (rest.map fun v => v.category).sum ≤ 8) (hdg : decode cc pc = .ok (.invokestatic index, 3)) (hf : cells + 0 ≤ R.cells ∧ slots + 0 ≤ R.slots)
    (kk : W p l e R s m args below meth c H locs cells slots Q (F0 m (pc + 3) ls (.int o :: rest))) : W p l e R s m args below meth c H locs cells slots Q (F0 m pc ls st0) :=
  q_rdo (va_runS (As := [.ref b, .int j]) (rest := rest) ⟨hx, hb, hml, hown, hts⟩ hM cw ⟨q_blindS, fun U hU hW => ⟨rfl, by rw [hU]; exact (hX.kept (hS.2.1 b hbl hbA)).moved hW.alike, by rw [hU]; exact Nat.lt_of_lt_of_le hbl hS.1⟩⟩ rfl rfl hsize hst (lv_room (pc := pc) (ls := ls) (m := m) (rest := st0) hW) hdg hf) kk
end QC
set_option maxRecDepth 100000 in
set_option maxHeartbeats 4000000 in
theorem law_end {p : Program} {l : Launch} {e : Env} {s : State} {m : MethodId} {below : List Frame} {meth : Method} {c : Code} {b L : Nat} {xs : Nat → Int32} {D : va_G} {cI cJ cS : ClassId} {sa : Nat → Nat} (C1 : q_cx p l s m meth c b L xs D cI cJ cS sa) {cells slots T k : Nat} (hcl : cells + 10 ≤ 600130) (hsl : slots + 60 ≤ 7301080) {S r : CM} (hf : p_end S = some r) (kk : q_go p l e s m below meth c b D cI cJ cS cells slots 29 T (k + 1) r) : q_go p l e s m below meth c b D cI cJ cS cells slots 161 T k S := by
  obtain ⟨⟨hx, hb, hr, hml, hown0, hts0, hX, hbl, hlocks, hgv⟩, hlt, hE, hES, hN, hZ⟩ := C1
  have hown : s.vm.findClass RL = some m.cls := hown0
  have hts : ∀ w ∈ wsL_law, w.before #[Value.ref b] s = true := fun w h => hts0 w (wsL_law_in w h)
  have hA : ∀ q : Nat, s.heap.size ≤ q → (fun q : Nat => s.heap.size ≤ q) q := fun q h => h
  intro A g B H locs ls hg hP hD hS hl
  unfold p_end at hf
  obtain ⟨z, hz, hf⟩ := q_bd_go hf
  have hne : ¬ z = 0 := fun h => by rw [if_pos h] at hf; cases hf
  rw [if_neg hne] at hf
  have ho := q_some hf
  subst ho
  refine lv_aload_n hx hb dL_law_161 rfl (lv_at hl 1 rfl) ?_
  refine q_rdWi (w := wCR cI cJ A S) (As := [.ref (A 3 0)]) (rest := []) hx hb hml hown hts (c_L_areRight l D cI cJ cS A S _ hz) (va_cwS 1 hts gL_law_L_areRight rfl rfl rfl (by decide +kernel) ⟨(Nat.le_of_ble_eq_true rfl), (Nat.le_of_ble_eq_true rfl)⟩) hE (qp_CR hP) rfl hl.1 rfl (Nat.le_of_ble_eq_true rfl) dL_law_162 ⟨by show _ ≤ 600130; omega, by show _ ≤ 7301080; omega⟩ ?_
  refine lv_if_ne (tgt := 170) hx hb dL_law_165 (by decide) (fun c9 => ?_) (fun c9 => absurd c9 hne)
  refine lv_iinc (k := 3) (v := nI (k + 1)) (lv' := [(3, .int (nI (k + 1))), (0, .ref b), (1, .ref (A 3 0)), (2, .int (nI T))]) hx hb dL_law_170 hl rfl (nI_add k 1) (by decide) rfl (fun ls hl => ?_)
  refine lv_goto (tgt := 29) hx hb dL_law_173 (by decide) ?_
  exact kk A g B H locs ls hg hP hD hS (lv_sub hl [1, 2, 3, 0] rfl)
set_option maxRecDepth 100000 in
set_option maxHeartbeats 4000000 in
theorem law_mid {p : Program} {l : Launch} {e : Env} {s : State} {m : MethodId} {below : List Frame} {meth : Method} {c : Code} {b L : Nat} {xs : Nat → Int32} {D : va_G} {cI cJ cS : ClassId} {sa : Nat → Nat} (C1 : q_cx p l s m meth c b L xs D cI cJ cS sa) {cells slots T k : Nat} (hcl : cells + 6 ≤ 600120) (hsl : slots + 36 ≤ 7301020) {x w b1 b2 : Int32} {v0 d0 : Int64} {r : Int32 × CM} {S' : CM} (hf : p_mid x w b1 b2 v0 d0 r = some S') (kk : q_go p l e s m below meth c b D cI cJ cS (cells + 5) (slots + 30) 29 T (k + 1) S') (A : Nat → Nat → Nat) (g : Nat → Option Nat) (B : Nat → Nat → Nat) (H : Heap) (locs : List Loc) (ls : Array Slot) (hg : ∀ i, i < 4 → g i = some (B i 0)) (hP : va_P D vwCl (wCM cI cJ cS A g B r.2) H) (hD : va_D (fun q : Nat => s.heap.size ≤ q) (wCM cI cJ cS A g B r.2)) (hS : va_S (fun q : Nat => s.heap.size ≤ q) s.heap H locs) (hl : lv_has ls 13 [(12, .int r.1), (10, .long d0), (8, .long v0), (7, .int w), (6, .int b2), (5, .int b1), (4, .int x), (0, .ref b), (1, .ref (A 3 0)), (2, .int (nI T)), (3, .int (nI k))]) : W p l e room_1 s m #[Value.ref b] below meth c H locs cells slots (lw_Z below #[Value.ref b] s) (F0 m 105 ls []) := by
  have K : ∀ {S9 : CM}, p_end S9 = some S' → q_go p l e s m below meth c b D cI cJ cS (cells + 5) (slots + 30) 161 T k S9 := fun h => law_end C1 (by omega) (by omega) h kk
  obtain ⟨⟨hx, hb, hr, hml, hown0, hts0, hX, hbl, hlocks, hgv⟩, hlt, hE, hES, hN, hZ⟩ := C1
  have hown : s.vm.findClass RL = some m.cls := hown0
  have hts : ∀ w ∈ wsL_law, w.before #[Value.ref b] s = true := fun w h => hts0 w (wsL_law_in w h)
  have hA : ∀ q : Nat, s.heap.size ≤ q → (fun q : Nat => s.heap.size ≤ q) q := fun q h => h
  unfold p_mid at hf
  refine lv_iload hx hb dL_law_105 (lv_at hl 0 rfl) ?_
  refine lv_ldc (v := (-1000000000)) hx hb hown (hts0 (.constant RL 95 (-1000000000)) (by decide +kernel)) dL_law_107 ?_
  refine lv_icmp_ne (tgt := 134) hx hb dL_law_109 (by decide) (fun c9 => ?_) (fun c9 => ?_)
  · rw [if_neg c9] at hf
    refine lv_iload hx hb dL_law_134 (lv_at hl 6 rfl) ?_
    refine lv_bipush (v := 16) hx hb dL_law_136 (by decide) ?_
    refine lv_iand hx hb dL_law_138 ?_
    refine lv_if_ne (tgt := 161) hx hb dL_law_139 (by decide) (fun c8 => ?_) (fun c8 => ?_)
    · rw [if_neg c8] at hf
      refine W.widen (k := cells + 5) (n := slots + 30) (by omega) (by omega) ?_
      exact K hf A g B H locs ls hg hP hD hS (lv_sub hl [7, 8, 9, 10] rfl)
    · rw [if_pos c8] at hf
      obtain ⟨u, hu, hf⟩ := q_bd_go hf
      have hne : ¬ u.1 = 0 := fun h => by rw [if_pos h] at hf; cases hf
      rw [if_neg hne] at hf
      refine lv_aload_n hx hb dL_law_142 rfl (lv_at hl 8 rfl) ?_
      refine lv_iload hx hb dL_law_143 (lv_at hl 3 rfl) ?_
      refine lv_iload hx hb dL_law_145 (lv_at hl 5 rfl) ?_
      refine lv_iload hx hb dL_law_147 (lv_at hl 4 rfl) ?_
      refine lv_iload hx hb dL_law_149 (lv_at hl 0 rfl) ?_
      refine lv_lload hx hb dL_law_151 (lv_at hl 2 rfl) ?_
      refine q_wrU (As := [.ref (A 3 0), .int w, .int b1, .int b2, .int r.1, .long v0]) (rest := []) hx hb hml hown hts (c_L_isUndone l hlt D cI cJ cS sa A g B hg r.2 _ w b1 b2 r.1 v0 _ hu) (va_cwS 6 hts gL_law_L_isUndone rfl rfl rfl (by decide +kernel) ⟨(Nat.le_of_ble_eq_true rfl), (Nat.le_of_ble_eq_true rfl)⟩) hE hES hN hZ hP hD hS hA rfl hl.1 rfl (Nat.le_of_ble_eq_true rfl) dL_law_153 ⟨by show _ ≤ 600130; omega, by show _ ≤ 7301080; omega⟩ (fun g2 B2 H locs hg hP hD hS => ?_)
      refine lv_if_ne (tgt := 161) hx hb dL_law_156 (by decide) (fun c7 => ?_) (fun c7 => absurd c7 hne)
      exact K hf A g2 B2 H locs ls hg hP hD hS (lv_sub hl [7, 8, 9, 10] rfl)
  · rw [if_pos c9] at hf
    obtain ⟨v1, hv1, hf⟩ := q_bd_go hf
    have c8 := q_gc_in hf
    rw [if_pos c8] at hf
    obtain ⟨d1, hd1, hf⟩ := q_bd_go hf
    have c7 := q_gc_in hf
    rw [if_pos c7] at hf
    refine lv_aload_n hx hb dL_law_112 rfl (lv_at hl 8 rfl) ?_
    refine q_rdWl (w := wCR cI cJ A r.2) (As := [.ref (A 3 0)]) (rest := []) hx hb hml hown hts (c_L_view l D cI cJ cS A r.2 _ hv1) (va_cwS 1 hts gL_law_L_view rfl rfl rfl (by decide +kernel) ⟨(Nat.le_of_ble_eq_true rfl), (Nat.le_of_ble_eq_true rfl)⟩) hE (qp_CR hP) rfl hl.1 rfl (Nat.le_of_ble_eq_true rfl) dL_law_113 ⟨by show _ ≤ 600130; omega, by show _ ≤ 7301080; omega⟩ ?_
    refine lv_lload hx hb dL_law_116 (lv_at hl 2 rfl) ?_
    refine W.lcmp hx hb dL_law_118 ?_
    refine lv_if_ne (tgt := 132) hx hb dL_law_119 (by decide) (fun c6 => absurd c8 c6) (fun c6 => ?_)
    refine lv_aload_n hx hb dL_law_122 rfl (lv_at hl 8 rfl) ?_
    refine q_rdVl (w := wCR cI cJ A r.2) (ci := 2) (As := []) (rest := []) hx hb hml hown hts (c_X2_digest l D cI cJ cS A r.2 _ hd1) (cwV 0 hts gL_law_X2_digest rfl rfl rfl (by decide +kernel) ⟨(Nat.le_of_ble_eq_true rfl), (Nat.le_of_ble_eq_true rfl)⟩) hE (qp_CR hP) rfl rfl rfl hl.1 rfl (Nat.le_of_ble_eq_true rfl) dL_law_123 ⟨by show _ ≤ 600130; omega, by show _ ≤ 7301080; omega⟩ ?_
    refine lv_lload hx hb dL_law_126 (lv_at hl 1 rfl) ?_
    refine W.lcmp hx hb dL_law_128 ?_
    refine lv_if_eq (tgt := 161) hx hb dL_law_129 (by decide) (fun c6 => ?_) (fun c6 => absurd c7 c6)
    refine W.widen (k := cells + 5) (n := slots + 30) (by omega) (by omega) ?_
    exact K hf A g B H locs ls hg hP hD hS (lv_sub hl [7, 8, 9, 10] rfl)
theorem p_mul3 (k : Nat) : (3 : Int32) * nI k = nI (3 * k) := (Int32.ofNat_mul 3 k).symm
theorem p_3 {k : Nat} (hk : k < 1000) : ((3 : Int32) ≤ nI k) ↔ ¬ k < 3 := by
  have e1 : (nI k).toInt = k := Int32.toInt_ofNat_of_lt (by omega)
  rw [Int32.le_iff_toInt_le, e1, show (3 : Int32).toInt = 3 from rfl]
  omega
set_option maxRecDepth 100000 in
set_option maxHeartbeats 4000000 in
theorem law_body {p : Program} {l : Launch} {e : Env} {s : State} {m : MethodId} {below : List Frame} {meth : Method} {c : Code} {b L : Nat} {xs : Nat → Int32} {D : va_G} {cI cJ cS : ClassId} {sa : Nat → Nat} (C1 : q_cx p l s m meth c b L xs D cI cJ cS sa) (hL : L ≤ 260) {cells slots T k : Nat} (hcl : cells + 10 ≤ 600120) (hsl : slots + 60 ≤ 7301020) (hk : k < 100) {S S' : CM} (hf : p_step (f_L_cell L xs (3 * k)) (f_L_cell L xs (3 * k + 1)) (f_L_cell L xs (3 * k + 2)) k S = some S') (kk : q_go p l e s m below meth c b D cI cJ cS (cells + 9) (slots + 54) 29 T (k + 1) S') : q_go p l e s m below meth c b D cI cJ cS cells slots 34 T k S := by
  have C2 := C1
  obtain ⟨⟨hx, hb, hr, hml, hown0, hts0, hX, hbl, hlocks, hgv⟩, hlt, hE, hES, hN, hZ⟩ := C2
  have hown : s.vm.findClass RL = some m.cls := hown0
  have hts : ∀ w ∈ wsL_law, w.before #[Value.ref b] s = true := fun w h => hts0 w (wsL_law_in w h)
  have hA : ∀ q : Nat, s.heap.size ≤ q → (fun q : Nat => s.heap.size ≤ q) q := fun q h => h
  have hbA : ¬ (fun q : Nat => s.heap.size ≤ q) b := Nat.not_le.mpr hbl
  intro A g B H locs ls hg hP hD hS hl
  obtain ⟨x, ex⟩ : ∃ z, (f_L_cell L xs (3 * k)) = z := ⟨_, rfl⟩
  obtain ⟨b1, eb1⟩ : ∃ z, (f_L_cell L xs (3 * k + 1)) = z := ⟨_, rfl⟩
  obtain ⟨b2, eb2⟩ : ∃ z, (f_L_cell L xs (3 * k + 2)) = z := ⟨_, rfl⟩
  rw [ex, eb1, eb2] at hf
  unfold p_step at hf
  obtain ⟨v0, hv0, hf⟩ := q_bd_go hf
  obtain ⟨d0, hd0, hf⟩ := q_bd_go hf
  obtain ⟨r0, hr0, hf⟩ := q_bd_go hf
  refine lv_aload_n hx hb dL_law_34 rfl (lv_at hl 0 rfl) ?_
  refine lv_iconst (v := 3) hx hb dL_law_35 (by decide) ?_
  refine lv_iload_n hx hb dL_law_36 rfl (lv_at hl 3 rfl) ?_
  refine lv_imul hx hb dL_law_37 ?_
  refine q_nmi (y := nI (3 * k)) (p_mul3 k) ?_
  refine q_rdC (rest := []) hx hb hml hown hts (c_L_cell l b L xs hL (3 * k) (by omega)) (va_cwS 2 hts gL_law_L_cell rfl rfl rfl (by decide +kernel) ⟨(Nat.le_of_ble_eq_true rfl), (Nat.le_of_ble_eq_true rfl)⟩) hX hbl hbA hS hl.1 rfl (Nat.le_of_ble_eq_true rfl) dL_law_38 ⟨by show _ ≤ 600130; omega, by show _ ≤ 7301080; omega⟩ ?_
  refine q_nmi (y := x) ex ?_
  refine lv_istore (lv' := [(4, .int x), (0, .ref b), (1, .ref (A 3 0)), (2, .int (nI T)), (3, .int (nI k))]) hx hb dL_law_41 hl (by decide) rfl (fun ls hl => ?_)
  refine lv_aload_n hx hb dL_law_43 rfl (lv_at hl 1 rfl) ?_
  refine lv_iconst (v := 3) hx hb dL_law_44 (by decide) ?_
  refine lv_iload_n hx hb dL_law_45 rfl (lv_at hl 4 rfl) ?_
  refine lv_imul hx hb dL_law_46 ?_
  refine q_nmi (y := nI (3 * k)) (p_mul3 k) ?_
  refine lv_iconst (v := 1) hx hb dL_law_47 (by decide) ?_
  refine lv_iadd hx hb dL_law_48 ?_
  refine q_nmi (y := nI (3 * k + 1)) (nI_add (3 * k) 1) ?_
  refine q_rdC (rest := []) hx hb hml hown hts (c_L_cell l b L xs hL (3 * k + 1) (by omega)) (va_cwS 2 hts gL_law_L_cell rfl rfl rfl (by decide +kernel) ⟨(Nat.le_of_ble_eq_true rfl), (Nat.le_of_ble_eq_true rfl)⟩) hX hbl hbA hS hl.1 rfl (Nat.le_of_ble_eq_true rfl) dL_law_49 ⟨by show _ ≤ 600130; omega, by show _ ≤ 7301080; omega⟩ ?_
  refine q_nmi (y := b1) eb1 ?_
  refine lv_istore (lv' := [(5, .int b1), (4, .int x), (0, .ref b), (1, .ref (A 3 0)), (2, .int (nI T)), (3, .int (nI k))]) hx hb dL_law_52 hl (by decide) rfl (fun ls hl => ?_)
  refine lv_aload_n hx hb dL_law_54 rfl (lv_at hl 2 rfl) ?_
  refine lv_iconst (v := 3) hx hb dL_law_55 (by decide) ?_
  refine lv_iload_n hx hb dL_law_56 rfl (lv_at hl 5 rfl) ?_
  refine lv_imul hx hb dL_law_57 ?_
  refine q_nmi (y := nI (3 * k)) (p_mul3 k) ?_
  refine lv_iconst (v := 2) hx hb dL_law_58 (by decide) ?_
  refine lv_iadd hx hb dL_law_59 ?_
  refine q_nmi (y := nI (3 * k + 2)) (nI_add (3 * k) 2) ?_
  refine q_rdC (rest := []) hx hb hml hown hts (c_L_cell l b L xs hL (3 * k + 2) (by omega)) (va_cwS 2 hts gL_law_L_cell rfl rfl rfl (by decide +kernel) ⟨(Nat.le_of_ble_eq_true rfl), (Nat.le_of_ble_eq_true rfl)⟩) hX hbl hbA hS hl.1 rfl (Nat.le_of_ble_eq_true rfl) dL_law_60 ⟨by show _ ≤ 600130; omega, by show _ ≤ 7301080; omega⟩ ?_
  refine q_nmi (y := b2) eb2 ?_
  refine lv_istore (lv' := [(6, .int b2), (5, .int b1), (4, .int x), (0, .ref b), (1, .ref (A 3 0)), (2, .int (nI T)), (3, .int (nI k))]) hx hb dL_law_63 hl (by decide) rfl (fun ls hl => ?_)
  have T9 : ∀ (ls : Array Slot), lv_has ls 13 [(7, .int (p_w k x)), (6, .int b2), (5, .int b1), (4, .int x), (0, .ref b), (1, .ref (A 3 0)), (2, .int (nI T)), (3, .int (nI k))] → W p l e room_1 s m #[Value.ref b] below meth c H locs cells slots (lw_Z below #[Value.ref b] s) (F0 m 81 ls []) := by
    intro ls hl
    refine lv_aload_n hx hb dL_law_81 rfl (lv_at hl 5 rfl) ?_
    refine q_rdWl (w := wCR cI cJ A S) (As := [.ref (A 3 0)]) (rest := []) hx hb hml hown hts (c_L_view l D cI cJ cS A S _ hv0) (va_cwS 1 hts gL_law_L_view rfl rfl rfl (by decide +kernel) ⟨(Nat.le_of_ble_eq_true rfl), (Nat.le_of_ble_eq_true rfl)⟩) hE (qp_CR hP) rfl hl.1 rfl (Nat.le_of_ble_eq_true rfl) dL_law_82 ⟨by show _ ≤ 600130; omega, by show _ ≤ 7301080; omega⟩ ?_
    refine lv_lstore (lv' := [(8, .long v0), (7, .int (p_w k x)), (6, .int b2), (5, .int b1), (4, .int x), (0, .ref b), (1, .ref (A 3 0)), (2, .int (nI T)), (3, .int (nI k))]) hx hb dL_law_85 hl (by decide) rfl (fun ls hl => ?_)
    refine lv_aload_n hx hb dL_law_87 rfl (lv_at hl 6 rfl) ?_
    refine q_rdVl (w := wCR cI cJ A S) (ci := 2) (As := []) (rest := []) hx hb hml hown hts (c_X2_digest l D cI cJ cS A S _ hd0) (cwV 0 hts gL_law_X2_digest rfl rfl rfl (by decide +kernel) ⟨(Nat.le_of_ble_eq_true rfl), (Nat.le_of_ble_eq_true rfl)⟩) hE (qp_CR hP) rfl rfl rfl hl.1 rfl (Nat.le_of_ble_eq_true rfl) dL_law_88 ⟨by show _ ≤ 600130; omega, by show _ ≤ 7301080; omega⟩ ?_
    refine lv_lstore (lv' := [(10, .long d0), (8, .long v0), (7, .int (p_w k x)), (6, .int b2), (5, .int b1), (4, .int x), (0, .ref b), (1, .ref (A 3 0)), (2, .int (nI T)), (3, .int (nI k))]) hx hb dL_law_91 hl (by decide) rfl (fun ls hl => ?_)
    refine lv_aload_n hx hb dL_law_93 rfl (lv_at hl 7 rfl) ?_
    refine lv_iload hx hb dL_law_94 (lv_at hl 2 rfl) ?_
    refine lv_iload hx hb dL_law_96 (lv_at hl 4 rfl) ?_
    refine lv_iload hx hb dL_law_98 (lv_at hl 3 rfl) ?_
    refine q_wrT (As := [.ref (A 3 0), .int (p_w k x), .int b1, .int b2]) (rest := []) hx hb hml hown hts (c_L_tries l hlt D cI cJ cS sa A g B hg S _ (p_w k x) b1 b2 _ hr0) (vx_cwSW 4 hts gL_law_L_tries rfl rfl rfl (by decide +kernel) ⟨(Nat.le_of_ble_eq_true rfl), (Nat.le_of_ble_eq_true rfl)⟩) hE hES hN hZ hP hD hS hA rfl hl.1 rfl (Nat.le_of_ble_eq_true rfl) dL_law_100 ⟨by show _ ≤ 600130; omega, by show _ ≤ 7301080; omega⟩ (fun g2 B2 H locs hg hP hD hS => ?_)
    refine lv_istore (lv' := [(12, .int r0.1), (10, .long d0), (8, .long v0), (7, .int (p_w k x)), (6, .int b2), (5, .int b1), (4, .int x), (0, .ref b), (1, .ref (A 3 0)), (2, .int (nI T)), (3, .int (nI k))]) hx hb dL_law_103 hl (by decide) rfl (fun ls hl => ?_)
    exact law_mid C1 (w := p_w k x) (k := k) (T := T) (by omega) (by omega) hf (kk := by exact kk) A g2 B2 H locs ls hg hP hD hS hl
  refine lv_iload_n hx hb dL_law_65 rfl (lv_at hl 6 rfl) ?_
  refine lv_iconst (v := 3) hx hb dL_law_66 (by decide) ?_
  refine lv_icmp_ge (tgt := 74) hx hb dL_law_67 (by decide) (fun c9 => ?_) (fun c9 => ?_)
  · refine lv_iload hx hb dL_law_74 (lv_at hl 2 rfl) ?_
    refine lv_bipush (v := 15) hx hb dL_law_76 (by decide) ?_
    refine lv_iand hx hb dL_law_78 ?_
    refine q_nmi (y := p_w k x) (by unfold p_w; rw [if_neg ((p_3 (by omega)).mp c9)]) ?_
    refine lv_istore (lv' := [(7, .int (p_w k x)), (6, .int b2), (5, .int b1), (4, .int x), (0, .ref b), (1, .ref (A 3 0)), (2, .int (nI T)), (3, .int (nI k))]) hx hb dL_law_79 hl (by decide) rfl (fun ls hl => ?_)
    exact T9 ls hl
  · refine lv_iconst (v := 1) hx hb dL_law_70 (by decide) ?_
    refine lv_goto (tgt := 79) hx hb dL_law_71 (by decide) ?_
    refine q_nmi (y := p_w k x) (by unfold p_w; rw [if_pos (Classical.byContradiction fun z => c9 ((p_3 (by omega)).mpr z))]) ?_
    refine lv_istore (lv' := [(7, .int (p_w k x)), (6, .int b2), (5, .int b1), (4, .int x), (0, .ref b), (1, .ref (A 3 0)), (2, .int (nI T)), (3, .int (nI k))]) hx hb dL_law_79 hl (by decide) rfl (fun ls hl => ?_)
    exact T9 ls hl
set_option maxRecDepth 100000 in
set_option maxHeartbeats 4000000 in
theorem law_loop {p : Program} {l : Launch} {e : Env} {s : State} {m : MethodId} {below : List Frame} {meth : Method} {c : Code} {b L : Nat} {xs : Nat → Int32} {D : va_G} {cI cJ cS : ClassId} {sa : Nat → Nat} (C1 : q_cx p l s m meth c b L xs D cI cJ cS sa) (hL : L ≤ 260) {T : Nat} (hT : T ≤ 36) : ∀ (n cells slots k : Nat) (S : CM), cells + 10 * n ≤ 600120 → slots + 60 * n ≤ 7301020 → k ≤ T → p_run L xs T n k S = some () → q_go p l e s m below meth c b D cI cJ cS cells slots 29 T k S := by
  intro n
  induction n with
  | zero => intro cells slots k S h1 h2 h3 hf; rw [p_run] at hf; cases hf
  | succ n ih =>
  intro cells slots k S h1 h2 h3 hf
  rw [p_run] at hf
  have C2 := C1
  obtain ⟨⟨hx, hb, hr, hml, hown0, hts0, hX, hbl, hlocks, hgv⟩, hlt, hE, hES, hN, hZ⟩ := C2
  have hown : s.vm.findClass RL = some m.cls := hown0
  have hts : ∀ w ∈ wsL_law, w.before #[Value.ref b] s = true := fun w h => hts0 w (wsL_law_in w h)
  have hA : ∀ q : Nat, s.heap.size ≤ q → (fun q : Nat => s.heap.size ≤ q) q := fun q h => h
  intro A g B H locs ls hg hP hD hS hl
  refine lv_iload_n hx hb dL_law_29 rfl (lv_at hl 3 rfl) ?_
  refine lv_iload_n hx hb dL_law_30 rfl (lv_at hl 2 rfl) ?_
  refine lv_icmp_ge (tgt := 176) hx hb dL_law_31 (by decide) (fun hc => ?_) (fun hc => ?_)
  · refine W.widen (k := 600130) (n := 7301080) (by omega) (by omega) ?_
    refine va_forget (fun q hq => hS.2.2 q hq) ?_
    refine lv_iconst (v := 1) hx hb dL_law_176 (by decide) ?_
    exact lw_ret hx hb hr hlocks dL_law_177
  have hk : k < T := Classical.byContradiction fun z => hc ((nI_leI (by omega) (by omega)).mpr (by omega))
  rw [if_pos hk] at hf
  obtain ⟨S', hS', hf⟩ := q_bd_go hf
  exact law_body C1 hL (by omega) (by omega) (by omega) hS' (ih (cells + 9) (slots + 54) (k + 1) S' (by omega) (by omega) (by omega) hf) A g B H locs ls hg hP hD hS hl
