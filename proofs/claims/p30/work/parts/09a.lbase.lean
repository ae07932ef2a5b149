def q_Rv : Array Value → State → Outcome → State → Prop := fun _ st oc t => oc = .returned none ∧ t.heap = st.heap
def q_okr {υ ρ : Type} (x : String ⊕ υ) (K : υ → Option ρ) : Option ρ := match x with
  | .inl _ => none
  | .inr y => K y
theorem q_okr_go {υ ρ : Type} {x : String ⊕ υ} {K : υ → Option ρ} {o : ρ} (h : q_okr x K = some o) : ∃ z, x = .inr z ∧ K z = some o := by
  cases x with
  | inl e => cases h
  | inr y => exact ⟨y, rfl, h⟩
section QO
variable {p : Program} {l : Launch} {e : Env} {R : Room} {s : State} {m : MethodId} {args : Array Value} {below : List Frame} {meth : Method} {c : Code} {H : Heap} {locs : List Loc} {cells slots : Nat} {Q : State → Prop}
variable {pc : Nat} {ls : Array Slot} {rest st0 : List Value} {a : Array Value}
theorem q_rdov (hr : va_Run p l e R s m args below meth c H locs cells slots 0 0 (F0 m pc ls st0) rest (fun st oc t => oc = .returned none ∧ t.heap = st.heap) (fun _ => False))
    (kk : W p l e R s m args below meth c H locs cells slots Q (F0 m (pc + 3) ls rest)) : W p l e R s m args below meth c H locs cells slots Q (F0 m pc ls st0) := by
  intro T hT X
  obtain ⟨v, st₀, t, T', L, h0, X', hL, e1, -, ⟨hv, hh⟩, st⟩ := hr T hT X
  cases hv
  obtain ⟨t2, a1, b1⟩ := kk T' (by rw [e1, hh, h0]) (Stand.forget X' (fun q h => (hL q h).elim))
  exact ⟨t2, st t2 a1, b1⟩
variable {y : MethodName} {bytes cc : ByteArray} {maxL nL n index mc ms : Nat} {ret : Option FieldType} {ws : List Cond} {rm : Room} {Ts : List Cond} {own C : String} {b : Addr} {As : List Value}
variable {D : va_G} {cI cJ cS : ClassId} {w w' : va_W} {ci : Nat} {fs : List Value} {r : vw_C}
theorem q_rdVv (hx : p.tables.exec = Jvm.exec) (hb : c.code = cc) (hml : c.maxLocals = nL) (hown : s.vm.findClass own = some m.cls) (hts : ∀ z ∈ Ts, z.before args s = true) (hM : Met l y ws rm (va_Pc (.ref b :: As) (q_B D cI cJ cS w)) q_Rv 0 0 (fun _ => False)) (cw : CallW R s args own r.1 index y bytes maxL ret ws rm 0 0 n)
    (hE : q_E D cI cJ cS s) (hP : va_P D vwCl w H) (hw : w[0]? = some (b, .inr (ci, fs))) (hc : vwCl[ci]? = some r) (hn : As.length = n) (hsize : ls.size = nL) (hst : st0 = As.reverse ++ .ref b :: rest) (hW : (rest.map fun v => v.category).sum ≤ 8) (hdg : decode cc pc = .ok (.invokevirtual index, 3)) (hf : cells + 0 ≤ R.cells ∧ slots + 0 ≤ R.slots)
    (kk : W p l e R s m args below meth c H locs cells slots Q (F0 m (pc + 3) ls rest)) : W p l e R s m args below meth c H locs cells slots Q (F0 m pc ls st0) :=
  q_rdov (va_runV (As := As) (rest := rest) ⟨hx, hb, hml, hown, hts⟩ hM cw ⟨q_blind, va_recv hE.1 hP (ci := ci) (q0 := 0) hc hw, fun U hU hW => ⟨rfl, by rw [hU]; exact hP, q_E.warm hW hE⟩⟩ rfl hn hsize hst (lv_room (pc := pc) (ls := ls) (m := m) (rest := st0) hW) hdg hf) kk
theorem q_rdSv (hx : p.tables.exec = Jvm.exec) (hb : c.code = cc) (hml : c.maxLocals = nL) (hown : s.vm.findClass own = some m.cls) (hts : ∀ z ∈ Ts, z.before args s = true) (hM : Met l y ws rm (va_Pc As (q_B D cI cJ cS [])) q_Rv 0 0 (fun _ => False)) (cw : CallB R s args own index y bytes maxL ret ws rm 0 0 n ∧ (Cond.static y).before args s = true)
    (hE : q_E D cI cJ cS s) (hn : As.length = n) (hsize : ls.size = nL) (hst : st0 = As.reverse ++ rest) (hW : (rest.map fun v => v.category).sum ≤ 8) (hdg : decode cc pc = .ok (.invokestatic index, 3)) (hf : cells + 0 ≤ R.cells ∧ slots + 0 ≤ R.slots)
    (kk : W p l e R s m args below meth c H locs cells slots Q (F0 m (pc + 3) ls rest)) : W p l e R s m args below meth c H locs cells slots Q (F0 m pc ls st0) :=
  q_rdov (va_runS (As := As) (rest := rest) ⟨hx, hb, hml, hown, hts⟩ hM cw ⟨q_blind, fun U hU hW => ⟨rfl, (fun k q h => by simp at h), q_E.warm hW hE⟩⟩ rfl hn hsize hst (lv_room (pc := pc) (ls := ls) (m := m) (rest := st0) hW) hdg hf) kk
theorem q_rdSl {o : Int64} (hx : p.tables.exec = Jvm.exec) (hb : c.code = cc) (hml : c.maxLocals = nL) (hown : s.vm.findClass own = some m.cls) (hts : ∀ z ∈ Ts, z.before args s = true) (hM : Met l y ws rm (va_Pc As (q_B D cI cJ cS [])) (q_Rl o) 0 0 (fun _ => False)) (cw : CallB R s args own index y bytes maxL ret ws rm 0 0 n ∧ (Cond.static y).before args s = true)
    (hE : q_E D cI cJ cS s) (hn : As.length = n) (hsize : ls.size = nL) (hst : st0 = As.reverse ++ rest) (hW : (rest.map fun v => v.category).sum ≤ 8) (hdg : decode cc pc = .ok (.invokestatic index, 3)) (hf : cells + 0 ≤ R.cells ∧ slots + 0 ≤ R.slots)
    (kk : W p l e R s m args below meth c H locs cells slots Q (F0 m (pc + 3) ls (.long o :: rest))) : W p l e R s m args below meth c H locs cells slots Q (F0 m pc ls st0) :=
  q_rdo (va_runS (As := As) (rest := rest) ⟨hx, hb, hml, hown, hts⟩ hM cw ⟨q_blind, fun U hU hW => ⟨rfl, (fun k q h => by simp at h), q_E.warm hW hE⟩⟩ rfl hn hsize hst (lv_room (pc := pc) (ls := ls) (m := m) (rest := st0) hW) hdg hf) kk
theorem q_rdWi {o : Int32} (hx : p.tables.exec = Jvm.exec) (hb : c.code = cc) (hml : c.maxLocals = nL) (hown : s.vm.findClass own = some m.cls) (hts : ∀ z ∈ Ts, z.before args s = true) (hM : Met l y ws rm (va_Pc As (q_B D cI cJ cS w)) (q_Ri o) 0 0 (fun _ => False)) (cw : CallB R s args own index y bytes maxL ret ws rm 0 0 n ∧ (Cond.static y).before args s = true)
    (hE : q_E D cI cJ cS s) (hP : va_P D vwCl w H) (hn : As.length = n) (hsize : ls.size = nL) (hst : st0 = As.reverse ++ rest) (hW : (rest.map fun v => v.category).sum ≤ 8) (hdg : decode cc pc = .ok (.invokestatic index, 3)) (hf : cells + 0 ≤ R.cells ∧ slots + 0 ≤ R.slots)
    (kk : W p l e R s m args below meth c H locs cells slots Q (F0 m (pc + 3) ls (.int o :: rest))) : W p l e R s m args below meth c H locs cells slots Q (F0 m pc ls st0) :=
  q_rdo (va_runS (As := As) (rest := rest) ⟨hx, hb, hml, hown, hts⟩ hM cw ⟨q_blind, fun U hU hW => ⟨rfl, by rw [hU]; exact hP, q_E.warm hW hE⟩⟩ rfl hn hsize hst (lv_room (pc := pc) (ls := ls) (m := m) (rest := st0) hW) hdg hf) kk
theorem q_rdWl {o : Int64} (hx : p.tables.exec = Jvm.exec) (hb : c.code = cc) (hml : c.maxLocals = nL) (hown : s.vm.findClass own = some m.cls) (hts : ∀ z ∈ Ts, z.before args s = true) (hM : Met l y ws rm (va_Pc As (q_B D cI cJ cS w)) (q_Rl o) 0 0 (fun _ => False)) (cw : CallB R s args own index y bytes maxL ret ws rm 0 0 n ∧ (Cond.static y).before args s = true)
    (hE : q_E D cI cJ cS s) (hP : va_P D vwCl w H) (hn : As.length = n) (hsize : ls.size = nL) (hst : st0 = As.reverse ++ rest) (hW : (rest.map fun v => v.category).sum ≤ 8) (hdg : decode cc pc = .ok (.invokestatic index, 3)) (hf : cells + 0 ≤ R.cells ∧ slots + 0 ≤ R.slots)
    (kk : W p l e R s m args below meth c H locs cells slots Q (F0 m (pc + 3) ls (.long o :: rest))) : W p l e R s m args below meth c H locs cells slots Q (F0 m pc ls st0) :=
  q_rdo (va_runS (As := As) (rest := rest) ⟨hx, hb, hml, hown, hts⟩ hM cw ⟨q_blind, fun U hU hW => ⟨rfl, by rw [hU]; exact hP, q_E.warm hW hE⟩⟩ rfl hn hsize hst (lv_room (pc := pc) (ls := ls) (m := m) (rest := st0) hW) hdg hf) kk
end QO
def q_EN (U : State) : Prop := va_Nc "java/lang/IllegalStateException" "java/lang/IndexOutOfBoundsException" U ∧ va_Nc "java/lang/IllegalStateException" "java/lang/IllegalArgumentException" U ∧ va_Nc "java/lang/IllegalArgumentException" "java/lang/IndexOutOfBoundsException" U
theorem q_EN.moved {u U : State} (hv : u.vm.Alike U.vm) (h : q_EN u) : q_EN U := ⟨va_Nc.moved hv h.1, va_Nc.moved hv h.2.1, va_Nc.moved hv h.2.2⟩
def q_BL (D : va_G) (cI cJ cS : ClassId) (sa : Nat → Nat) (w : va_W) (sz : Nat) (U : State) : Prop := q_BWX D cI cJ cS sa w sz U ∧ q_EN U
theorem q_blindL {D : va_G} {cI cJ cS : ClassId} {sa : Nat → Nat} {w : va_W} {sz : Nat} {av : List Value} : FrameBlind (va_Pc av (q_BL D cI cJ cS sa w sz)) := fun a U g mk q => ⟨q.1, (q_blindWX (av := av) (D := D) (cI := cI) (cJ := cJ) (cS := cS) (sa := sa) (w := w) (sz := sz) a U g mk ⟨q.1, q.2.1⟩).2, q_EN.moved (u := U) (U := U.calling g mk a) (Vm.Alike.refl _) q.2.2⟩
def q_LX : String → State → State → Prop := fun _ _ _ => False
section QY
variable {p : Program} {l : Launch} {e : Env} {R : Room} {s : State} {m : MethodId} {args : Array Value} {below : List Frame} {meth : Method} {c : Code} {H : Heap} {locs : List Loc} {cells slots : Nat} {Q : State → Prop}
variable {pc : Nat} {ls : Array Slot} {rest st0 : List Value} {a : Array Value} {mc ms MC MS : Nat}
variable {y : MethodName} {bytes cc : ByteArray} {maxL nL n index : Nat} {ret : Option FieldType} {ws : List Cond} {rm : Room} {Ts : List Cond} {own C : String} {b : Addr} {As : List Value}
variable {D : va_G} {cI cJ cS : ClassId} {sa : Nat → Nat} {w w' big big' : va_W} {ci : Nat} {fs : List Value} {r : vw_C} {A : Nat → Prop}
theorem q_tho {ρ σ : Type} {V : ρ → Option Value} {x : String ⊕ (ρ × CM)} {o : String ⊕ σ} {Qc : Array Value → State → Outcome → State → Prop} {AA : Nat → Nat → Nat} (hr : vx_Run p l e R s m args below meth c s.heap [] cells slots mc ms (F0 m pc ls st0) rest (q_XW V x D cI cJ cS AA w s.heap.size a) (q_XC x) (va_A w s.heap.size)) (hlocks : meth.locks = false) (htab : ∀ z ∈ c.exceptionTable.toList, False)
    (hD : va_D A w) (hA : ∀ q, s.heap.size ≤ q → A q)
    (hx' : ∀ E, x = .inl E → o = .inl E) (hc : cells + mc ≤ MC) (hs : slots + ms ≤ MS)
    (kk : ∀ (r9 : ρ × CM) (g : Nat → Option Nat) (B : Nat → Nat → Nat) (H1 : Heap) (locs1 : List Loc), x = .inr r9 → (∀ i, i < 4 → g i = some (B i 0)) → va_P D vwCl (wCM cI cJ cS AA g B r9.2) H1 → va_D A (wCM cI cJ cS AA g B r9.2) → va_S A s.heap H1 locs1 → W p l e R s m args below meth c H1 locs1 (cells + mc) (slots + ms) (vx_MQ below Qc (q_XC o) args s MC MS A) (F0 m (pc + 3) ls ((V r9.1).toList ++ rest))) : W p l e R s m args below meth c s.heap [] cells slots (vx_MQ below Qc (q_XC o) args s MC MS A) (F0 m pc ls st0) := by
  have hF : ∀ q, va_A w s.heap.size q → A q := fun q h => h.elim (fun ⟨k, e9, he⟩ => hD.2 k _ he) (fun h => hA q h)
  intro T hT X
  rcases hr T hT X with ⟨v, st₀, t, T', L, h0, X', hL, e1, e2, ⟨r9, hx1, hv, ⟨w', ⟨g, B, hg, rfl⟩, hp, hd⟩, hz, hk⟩, st⟩ | ⟨q, st₀, t, T', L, E, ce, h0, X', hL, e1, e2, ⟨hx1, hX⟩, hce, hcv, hcl, st⟩
  · cases hv
    rw [h0] at hz hk
    obtain ⟨t2, a1, b1⟩ := kk r9 g B T'.heap ([] ++ L) hx1 hg (by rw [e1]; exact hp) (hd.weaken (fun k q _ h => hF _ h)) ⟨by rw [e1]; exact hz, fun q a1 a2 => by rw [e1]; exact hk q a1 (fun z => a2 (hF q z)), fun z hz => hF _ (hL z hz)⟩ T' rfl X'
    exact ⟨t2, st t2 a1, b1⟩
  · obtain ⟨t2, a1, b1⟩ := vx_out (H := T'.heap) (locs := [] ++ L) (pc := pc) (ls := ls) (rest := rest) (Qc := Qc) (XC := q_XC o) (free := A) (mc := MC) (ms := MS) (fun z hz => (htab z hz).elim) hlocks (by rw [e1]; exact hce) hcv hcl (fun t' ht' _ => ⟨hx' E hx1, by
      refine ⟨?_, fun q hq hn => ?_⟩
      · rw [ht', e1, ← h0]; exact hX.1
      · rw [ht', e1, ← h0]; exact hX.2 q (by rw [h0]; exact hq) (by rw [h0]; exact hn)⟩) (fun z hz => hF _ (hL z hz)) hc hs T' rfl X'
    exact ⟨t2, st.trans a1, b1⟩
theorem q_thV {ρ σ : Type} {V : ρ → Option Value} {x : String ⊕ (ρ × CM)} {o : String ⊕ σ} {Qc : Array Value → State → Outcome → State → Prop} {AA : Nat → Nat → Nat} (hx : p.tables.exec = Jvm.exec) (hb : c.code = cc) (hml : c.maxLocals = nL) (hown : s.vm.findClass own = some m.cls) (hts : ∀ z ∈ Ts, z.before args s = true) (hlocks : meth.locks = false) (htab : ∀ z ∈ c.exceptionTable.toList, False)
    (hM : vx_Met l y ws rm (va_Pc (.ref b :: As) (q_BWX D cI cJ cS sa w s.heap.size)) (q_XW V x D cI cJ cS AA w s.heap.size) (q_XC x) mc ms (va_A w s.heap.size)) (cw : CallW R s args own r.1 index y bytes maxL ret ws rm mc ms n)
    (hE : q_E D cI cJ cS s) (hES : q_ES sa s) (hZ : q_EZ sa A s s.heap) (hP : va_P D vwCl w s.heap) (hD : va_D A w) (hA : ∀ q, s.heap.size ≤ q → A q)
    (hw : w[0]? = some (b, .inr (ci, fs))) (hc : vwCl[ci]? = some r) (hn : As.length = n) (hsize : ls.size = nL) (hst : st0 = As.reverse ++ .ref b :: rest) (hW : (rest.map fun v => v.category).sum ≤ 8) (hdg : decode cc pc = .ok (.invokevirtual index, 3)) (hf : cells + mc ≤ R.cells ∧ slots + ms ≤ R.slots)
    (hx' : ∀ E, x = .inl E → o = .inl E) (hc' : cells + mc ≤ MC) (hs' : slots + ms ≤ MS)
    (kk : ∀ (r9 : ρ × CM) (g : Nat → Option Nat) (B : Nat → Nat → Nat) (H1 : Heap) (locs1 : List Loc), x = .inr r9 → (∀ i, i < 4 → g i = some (B i 0)) → va_P D vwCl (wCM cI cJ cS AA g B r9.2) H1 → va_D A (wCM cI cJ cS AA g B r9.2) → va_S A s.heap H1 locs1 → W p l e R s m args below meth c H1 locs1 (cells + mc) (slots + ms) (vx_MQ below Qc (q_XC o) args s MC MS A) (F0 m (pc + 3) ls ((V r9.1).toList ++ rest))) : W p l e R s m args below meth c s.heap [] cells slots (vx_MQ below Qc (q_XC o) args s MC MS A) (F0 m pc ls st0) :=
  q_tho (vx_runV (As := As) (rest := rest) ⟨hx, hb, hml, hown, hts⟩ hM cw ⟨q_blindWX, va_recv hE.1 hP (ci := ci) (q0 := 0) hc hw, fun U hU hW => ⟨rfl, by rw [hU], by rw [hU]; exact hP, q_E.warm hW hE, hD.weaken (fun _ _ _ _ => trivial), q_ES.warm hW hES, by rw [hU]; exact q_EZ.moved hW.alike (hZ.narrow (fun q h => h.elim (fun ⟨k, e9, he⟩ => hD.2 k _ he) (fun h => hA q h)))⟩⟩ rfl hn hsize hst (lv_room (pc := pc) (ls := ls) (m := m) (rest := st0) hW) hdg hf) hlocks htab hD hA hx' hc' hs' kk
theorem q_thS {ρ σ : Type} {V : ρ → Option Value} {x : String ⊕ (ρ × CM)} {o : String ⊕ σ} {Qc : Array Value → State → Outcome → State → Prop} {AA : Nat → Nat → Nat} (hx : p.tables.exec = Jvm.exec) (hb : c.code = cc) (hml : c.maxLocals = nL) (hown : s.vm.findClass own = some m.cls) (hts : ∀ z ∈ Ts, z.before args s = true) (hlocks : meth.locks = false) (htab : ∀ z ∈ c.exceptionTable.toList, False)
    (hM : vx_Met l y ws rm (va_Pc As (q_BWX D cI cJ cS sa w s.heap.size)) (q_XW V x D cI cJ cS AA w s.heap.size) (q_XC x) mc ms (va_A w s.heap.size)) (cw : CallB R s args own index y bytes maxL ret ws rm mc ms n ∧ (Cond.static y).before args s = true)
    (hE : q_E D cI cJ cS s) (hES : q_ES sa s) (hZ : q_EZ sa A s s.heap) (hP : va_P D vwCl w s.heap) (hD : va_D A w) (hA : ∀ q, s.heap.size ≤ q → A q)
    (hn : As.length = n) (hsize : ls.size = nL) (hst : st0 = As.reverse ++ rest) (hW : (rest.map fun v => v.category).sum ≤ 8) (hdg : decode cc pc = .ok (.invokestatic index, 3)) (hf : cells + mc ≤ R.cells ∧ slots + ms ≤ R.slots)
    (hx' : ∀ E, x = .inl E → o = .inl E) (hc' : cells + mc ≤ MC) (hs' : slots + ms ≤ MS)
    (kk : ∀ (r9 : ρ × CM) (g : Nat → Option Nat) (B : Nat → Nat → Nat) (H1 : Heap) (locs1 : List Loc), x = .inr r9 → (∀ i, i < 4 → g i = some (B i 0)) → va_P D vwCl (wCM cI cJ cS AA g B r9.2) H1 → va_D A (wCM cI cJ cS AA g B r9.2) → va_S A s.heap H1 locs1 → W p l e R s m args below meth c H1 locs1 (cells + mc) (slots + ms) (vx_MQ below Qc (q_XC o) args s MC MS A) (F0 m (pc + 3) ls ((V r9.1).toList ++ rest))) : W p l e R s m args below meth c s.heap [] cells slots (vx_MQ below Qc (q_XC o) args s MC MS A) (F0 m pc ls st0) :=
  q_tho (vx_runS (As := As) (rest := rest) ⟨hx, hb, hml, hown, hts⟩ hM cw ⟨q_blindWX, fun U hU hW => ⟨rfl, by rw [hU], by rw [hU]; exact hP, q_E.warm hW hE, hD.weaken (fun _ _ _ _ => trivial), q_ES.warm hW hES, by rw [hU]; exact q_EZ.moved hW.alike (hZ.narrow (fun q h => h.elim (fun ⟨k, e9, he⟩ => hD.2 k _ he) (fun h => hA q h)))⟩⟩ rfl hn hsize hst (lv_room (pc := pc) (ls := ls) (m := m) (rest := st0) hW) hdg hf) hlocks htab hD hA hx' hc' hs' kk
/-- a call that is known not to throw -/
theorem q_okV {ρ : Type} {V : ρ → Option Value} {x : String ⊕ (ρ × CM)} {y9 : ρ × CM} {A0 : Nat → Prop} {H0 : Heap} {AA : Nat → Nat → Nat} (hx : p.tables.exec = Jvm.exec) (hb : c.code = cc) (hml : c.maxLocals = nL) (hown : s.vm.findClass own = some m.cls) (hts : ∀ z ∈ Ts, z.before args s = true)
    (hM : vx_Met l y ws rm (va_Pc (.ref b :: As) (q_BWX D cI cJ cS sa w H.size)) (q_XW V x D cI cJ cS AA w H.size) (q_XC x) mc ms (va_A w H.size)) (cw : CallW R s args own r.1 index y bytes maxL ret ws rm mc ms n) (hy : x = .inr y9)
    (hE : q_E D cI cJ cS s) (hES : q_ES sa s) (hZ : q_EZ sa A0 s H0) (hP : va_P D vwCl w H) (hD : va_D A0 w) (hS : va_S A0 H0 H locs) (hA : ∀ q, H0.size ≤ q → A0 q)
    (hw : w[0]? = some (b, .inr (ci, fs))) (hc : vwCl[ci]? = some r) (hn : As.length = n) (hsize : ls.size = nL) (hst : st0 = As.reverse ++ .ref b :: rest) (hW : (rest.map fun v => v.category).sum ≤ 8) (hdg : decode cc pc = .ok (.invokevirtual index, 3)) (hf : cells + mc ≤ R.cells ∧ slots + ms ≤ R.slots)
    (kk : ∀ (g : Nat → Option Nat) (B : Nat → Nat → Nat) (H1 : Heap) (locs1 : List Loc), (∀ i, i < 4 → g i = some (B i 0)) → va_P D vwCl (wCM cI cJ cS AA g B y9.2) H1 → va_D A0 (wCM cI cJ cS AA g B y9.2) → va_S A0 H0 H1 locs1 → W p l e R s m args below meth c H1 locs1 (cells + mc) (slots + ms) Q (F0 m (pc + 3) ls ((V y9.1).toList ++ rest))) : W p l e R s m args below meth c H locs cells slots Q (F0 m pc ls st0) := by
  have hF : ∀ q, va_A w H.size q → A0 q := fun q h => h.elim (fun ⟨k, e9, he⟩ => hD.2 k _ he) (fun h => hA q (Nat.le_trans hS.1 h))
  have hr : vx_Run p l e R s m args below meth c H locs cells slots mc ms (F0 m pc ls st0) rest (q_XW V x D cI cJ cS AA w H.size (Value.ref b :: As).toArray) (q_XC x) (va_A w H.size) := vx_runV (As := As) (rest := rest) ⟨hx, hb, hml, hown, hts⟩ hM cw ⟨q_blindWX, va_recv hE.1 hP (ci := ci) (q0 := 0) hc hw, fun U hU hW => ⟨rfl, by rw [hU], by rw [hU]; exact hP, q_E.warm hW hE, hD.weaken (fun _ _ _ _ => trivial), q_ES.warm hW hES, by rw [hU]; exact q_EZ.moved hW.alike ((hZ.kept (fun a h1 h2 => hS.2.1 a h1 h2)).narrow hF)⟩⟩ rfl hn hsize hst (lv_room (pc := pc) (ls := ls) (m := m) (rest := st0) hW) hdg hf
  subst hy
  intro T hT X
  rcases hr T hT X with ⟨v', st₀, t, T', L, h0, X', hL, e1, e2, ⟨r9, hr9, hv, ⟨w', ⟨g, B, hg, rfl⟩, hp, hd⟩, hz, hk⟩, st⟩ | ⟨q, st₀, t, T', L, E, ce, h0, X', hL, e1, e2, hx1, hce, hcv, hcl, st⟩
  · cases hr9
    cases hv
    rw [h0] at hz hk
    obtain ⟨t2, a1, b1⟩ := kk g B T'.heap (locs ++ L) hg (by rw [e1]; exact hp) (hd.weaken (fun k q _ h => hF _ h))
      ⟨Nat.le_trans hS.1 (by rw [e1]; exact hz), fun q h1 h2 => by rw [e1, hk q (Nat.lt_of_lt_of_le h1 hS.1) (fun z => h2 (hF q z))]; exact hS.2.1 q h1 h2, fun q hq => by
        rcases List.mem_append.mp hq with h | h
        · exact hS.2.2 q h
        · exact hF _ (hL q h)⟩ T' rfl X'
    exact ⟨t2, st t2 a1, b1⟩
  · exact nomatch hx1.1
/-- the call that catches all -/
theorem q_wrT {v : Option Value} {A0 : Nat → Prop} {H0 : Heap} {AA : Nat → Nat → Nat} {S' : CM} {hh : List (Nat × Nat × Nat × Nat)} (hx : p.tables.exec = Jvm.exec) (hb : c.code = cc) (hml : c.maxLocals = nL) (hown : s.vm.findClass own = some m.cls) (hts : ∀ z ∈ Ts, z.before args s = true)
    (hM : vx_Met l y ws rm (va_Pc As (q_BL D cI cJ cS sa w H.size)) (q_WE v D cI cJ cS AA S' w H.size) q_LX mc ms (va_A w H.size)) (cw : vx_CSW R s args own index y bytes maxL ret hh ws rm mc ms n)
    (hE : q_E D cI cJ cS s) (hES : q_ES sa s) (hN : q_EN s) (hZ : q_EZ sa A0 s H0) (hP : va_P D vwCl w H) (hD : va_D A0 w) (hS : va_S A0 H0 H locs) (hA : ∀ q, H0.size ≤ q → A0 q)
    (hn : As.length = n) (hsize : ls.size = nL) (hst : st0 = As.reverse ++ rest) (hW : (rest.map fun v => v.category).sum ≤ 8) (hdg : decode cc pc = .ok (.invokestatic index, 3)) (hf : cells + mc ≤ R.cells ∧ slots + ms ≤ R.slots)
    (kk : ∀ (g : Nat → Option Nat) (B : Nat → Nat → Nat) (H1 : Heap) (locs1 : List Loc), (∀ i, i < 4 → g i = some (B i 0)) → va_P D vwCl (wCM cI cJ cS AA g B S') H1 → va_D A0 (wCM cI cJ cS AA g B S') → va_S A0 H0 H1 locs1 → W p l e R s m args below meth c H1 locs1 (cells + mc) (slots + ms) Q (F0 m (pc + 3) ls (v.toList ++ rest))) : W p l e R s m args below meth c H locs cells slots Q (F0 m pc ls st0) := by
  have hF : ∀ q, va_A w H.size q → A0 q := fun q h => h.elim (fun ⟨k, e9, he⟩ => hD.2 k _ he) (fun h => hA q (Nat.le_trans hS.1 h))
  have hr : vx_Run p l e R s m args below meth c H locs cells slots mc ms (F0 m pc ls st0) rest (q_WE v D cI cJ cS AA S' w H.size As.toArray) q_LX (va_A w H.size) := vx_runSX (As := As) (rest := rest) ⟨hx, hb, hml, hown, hts⟩ hM cw ⟨q_blindL, fun U hU hW => ⟨rfl, ⟨by rw [hU], by rw [hU]; exact hP, q_E.warm hW hE, hD.weaken (fun _ _ _ _ => trivial), q_ES.warm hW hES, by rw [hU]; exact q_EZ.moved hW.alike ((hZ.kept (fun a h1 h2 => hS.2.1 a h1 h2)).narrow hF)⟩, q_EN.moved hW.alike hN⟩⟩ rfl hn hsize hst (lv_room (pc := pc) (ls := ls) (m := m) (rest := st0) hW) hdg hf
  intro T hT X
  rcases hr T hT X with ⟨v', st₀, t, T', L, h0, X', hL, e1, e2, ⟨hv, ⟨w', ⟨g, B, hg, rfl⟩, hp, hd⟩, hz, hk⟩, st⟩ | ⟨q, st₀, t, T', L, E, ce, h0, X', hL, e1, e2, hx1, hce, hcv, hcl, st⟩
  · cases hv
    rw [h0] at hz hk
    obtain ⟨t2, a1, b1⟩ := kk g B T'.heap (locs ++ L) hg (by rw [e1]; exact hp) (hd.weaken (fun k q _ h => hF _ h))
      ⟨Nat.le_trans hS.1 (by rw [e1]; exact hz), fun q h1 h2 => by rw [e1, hk q (Nat.lt_of_lt_of_le h1 hS.1) (fun z => h2 (hF q z))]; exact hS.2.1 q h1 h2, fun q hq => by
        rcases List.mem_append.mp hq with h | h
        · exact hS.2.2 q h
        · exact hF _ (hL q h)⟩ T' rfl X'
    exact ⟨t2, st t2 a1, b1⟩
  · exact hx1.elim
theorem q_wrU {v : Option Value} {A0 : Nat → Prop} {H0 : Heap} {AA : Nat → Nat → Nat} {S' : CM} (hx : p.tables.exec = Jvm.exec) (hb : c.code = cc) (hml : c.maxLocals = nL) (hown : s.vm.findClass own = some m.cls) (hts : ∀ z ∈ Ts, z.before args s = true)
    (hM : Met l y ws rm (va_Pc As (q_BL D cI cJ cS sa w H.size)) (q_WE v D cI cJ cS AA S' w H.size) mc ms (va_A w H.size)) (cw : CallB R s args own index y bytes maxL ret ws rm mc ms n ∧ (Cond.static y).before args s = true)
    (hE : q_E D cI cJ cS s) (hES : q_ES sa s) (hN : q_EN s) (hZ : q_EZ sa A0 s H0) (hP : va_P D vwCl w H) (hD : va_D A0 w) (hS : va_S A0 H0 H locs) (hA : ∀ q, H0.size ≤ q → A0 q)
    (hn : As.length = n) (hsize : ls.size = nL) (hst : st0 = As.reverse ++ rest) (hW : (rest.map fun v => v.category).sum ≤ 8) (hdg : decode cc pc = .ok (.invokestatic index, 3)) (hf : cells + mc ≤ R.cells ∧ slots + ms ≤ R.slots)
    (kk : ∀ (g : Nat → Option Nat) (B : Nat → Nat → Nat) (H1 : Heap) (locs1 : List Loc), (∀ i, i < 4 → g i = some (B i 0)) → va_P D vwCl (wCM cI cJ cS AA g B S') H1 → va_D A0 (wCM cI cJ cS AA g B S') → va_S A0 H0 H1 locs1 → W p l e R s m args below meth c H1 locs1 (cells + mc) (slots + ms) Q (F0 m (pc + 3) ls (v.toList ++ rest))) : W p l e R s m args below meth c H locs cells slots Q (F0 m pc ls st0) := by
  have hF : ∀ q, va_A w H.size q → A0 q := fun q h => h.elim (fun ⟨k, e9, he⟩ => hD.2 k _ he) (fun h => hA q (Nat.le_trans hS.1 h))
  have hr : va_Run p l e R s m args below meth c H locs cells slots mc ms (F0 m pc ls st0) rest (q_WE v D cI cJ cS AA S' w H.size As.toArray) (va_A w H.size) := va_runS (As := As) (rest := rest) ⟨hx, hb, hml, hown, hts⟩ hM cw ⟨q_blindL, fun U hU hW => ⟨rfl, ⟨by rw [hU], by rw [hU]; exact hP, q_E.warm hW hE, hD.weaken (fun _ _ _ _ => trivial), q_ES.warm hW hES, by rw [hU]; exact q_EZ.moved hW.alike ((hZ.kept (fun a h1 h2 => hS.2.1 a h1 h2)).narrow hF)⟩, q_EN.moved hW.alike hN⟩⟩ rfl hn hsize hst (lv_room (pc := pc) (ls := ls) (m := m) (rest := st0) hW) hdg hf
  intro T hT X
  obtain ⟨v', st₀, t, T', L, h0, X', hL, e1, e2, ⟨hv, ⟨w', ⟨g, B, hg, rfl⟩, hp, hd⟩, hz, hk⟩, st⟩ := hr T hT X
  cases hv
  rw [h0] at hz hk
  obtain ⟨t2, a1, b1⟩ := kk g B T'.heap (locs ++ L) hg (by rw [e1]; exact hp) (hd.weaken (fun k q _ h => hF _ h))
    ⟨Nat.le_trans hS.1 (by rw [e1]; exact hz), fun q h1 h2 => by rw [e1, hk q (Nat.lt_of_lt_of_le h1 hS.1) (fun z => h2 (hF q z))]; exact hS.2.1 q h1 h2, fun q hq => by
      rcases List.mem_append.mp hq with h | h
      · exact hS.2.2 q h
      · exact hF _ (hL q h)⟩ T' rfl X'
  exact ⟨t2, st t2 a1, b1⟩
end QY
