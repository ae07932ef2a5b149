section
-- ===== PART A: goes FIRST, ahead of the names: the tables' words, and 'selects' of the private methods out of them =====
/-- a private method of a class that the tables say can be made, by its rows of tables_1 -/
def lw_okq (q : MethodName × Nat) : Prop := (q.1.cls ≠ "java/lang/invoke/MethodHandle" ∧ q.1.cls ≠ "java/lang/invoke/VarHandle") ∧ Cond.instantiable q.1.cls q.2 ∈ tables_1 ∧ Cond.privateMethod q.1 ∈ tables_1 ∧ Cond.instanceMethod q.1 ∈ tables_1
theorem lw_p0 : lw_okq (⟨"CoverMeter", "digestPerson", "(JI)J"⟩, 5) := ⟨⟨by decide +kernel, by decide +kernel⟩, List.mem_of_getElem? (i := 14) (by decide +kernel), List.mem_of_getElem? (i := 173) (by decide +kernel), List.mem_of_getElem? (i := 174) (by decide +kernel)⟩
theorem lw_p1 : lw_okq (⟨"CoverMeter", "digestAbsence", "(JI)J"⟩, 5) := ⟨⟨by decide +kernel, by decide +kernel⟩, List.mem_of_getElem? (i := 14) (by decide +kernel), List.mem_of_getElem? (i := 197) (by decide +kernel), List.mem_of_getElem? (i := 198) (by decide +kernel)⟩
theorem lw_p2 : lw_okq (⟨"java/lang/Throwable", "fillInStackTrace", "(I)Ljava/lang/Throwable;"⟩, 6) := ⟨⟨by decide +kernel, by decide +kernel⟩, List.mem_of_getElem? (i := 276) (by decide +kernel), List.mem_of_getElem? (i := 274) (by decide +kernel), List.mem_of_getElem? (i := 275) (by decide +kernel)⟩
theorem lw_p3 : lw_okq (⟨"CoverMeter", "needPerson", "(I)V"⟩, 5) := ⟨⟨by decide +kernel, by decide +kernel⟩, List.mem_of_getElem? (i := 14) (by decide +kernel), List.mem_of_getElem? (i := 314) (by decide +kernel), List.mem_of_getElem? (i := 315) (by decide +kernel)⟩
theorem lw_p4 : lw_okq (⟨"CoverMeter", "needAbsence", "(I)V"⟩, 5) := ⟨⟨by decide +kernel, by decide +kernel⟩, List.mem_of_getElem? (i := 14) (by decide +kernel), List.mem_of_getElem? (i := 346) (by decide +kernel), List.mem_of_getElem? (i := 347) (by decide +kernel)⟩
theorem lw_p5 : lw_okq (⟨"CoverMeter", "save", "()V"⟩, 5) := ⟨⟨by decide +kernel, by decide +kernel⟩, List.mem_of_getElem? (i := 14) (by decide +kernel), List.mem_of_getElem? (i := 380) (by decide +kernel), List.mem_of_getElem? (i := 381) (by decide +kernel)⟩
theorem lw_p6 : lw_okq (⟨"CoverMeter", "dropOldest", "()V"⟩, 5) := ⟨⟨by decide +kernel, by decide +kernel⟩, List.mem_of_getElem? (i := 14) (by decide +kernel), List.mem_of_getElem? (i := 384) (by decide +kernel), List.mem_of_getElem? (i := 385) (by decide +kernel)⟩
def lw_privs_1 : List (MethodName × Nat) := [(⟨"CoverMeter", "digestPerson", "(JI)J"⟩, 5), (⟨"CoverMeter", "digestAbsence", "(JI)J"⟩, 5), (⟨"java/lang/Throwable", "fillInStackTrace", "(I)Ljava/lang/Throwable;"⟩, 6), (⟨"CoverMeter", "needPerson", "(I)V"⟩, 5), (⟨"CoverMeter", "needAbsence", "(I)V"⟩, 5), (⟨"CoverMeter", "save", "()V"⟩, 5), (⟨"CoverMeter", "dropOldest", "()V"⟩, 5)]
theorem lw_r1 : ∀ q ∈ lw_privs_1, lw_okq q := List.forall_mem_cons.mpr ⟨lw_p0, List.forall_mem_cons.mpr ⟨lw_p1, List.forall_mem_cons.mpr ⟨lw_p2, List.forall_mem_cons.mpr ⟨lw_p3, List.forall_mem_cons.mpr ⟨lw_p4, List.forall_mem_cons.mpr ⟨lw_p5, List.forall_mem_cons.mpr ⟨lw_p6, fun _ h => absurd h List.not_mem_nil⟩⟩⟩⟩⟩⟩⟩
def lw_privs : List (MethodName × Nat) := lw_privs_1
def lw_tbl : List Cond := k2_sels lw_privs ++ tables_1
theorem lw_privs_ok : ∀ q ∈ lw_privs, lw_okq q := lw_r1
end
section
/-! ===== BEGIN words of one list among another's, by their places ===== -/
theorem goodIn_r {big : List Cond} (ws : List Cond) (ps : List Nat) (hp : ws = ps.filterMap (fun i => big[i]?)) (h : ws.all goodWord = true) : GoodIn big ws := by
  intro w hw
  have h1 := List.all_eq_true.mp h w hw
  rw [hp] at hw
  obtain ⟨i, -, hi⟩ := List.mem_filterMap.mp hw
  have hm : w ∈ big := by first | exact List.mem_of_getElem? hi | exact List.getElem?_mem hi
  exact ⟨hm, good_of_word h1⟩
theorem goodIn_app {big a b : List Cond} (ha : GoodIn big a) (hb : GoodIn big b) : GoodIn big (a ++ b) := fun w h => (List.mem_append.mp h).elim (ha w) (hb w)
theorem goodIn_ca {big a b : List Cond} {c : Cond} (ha : GoodIn big (c :: a)) (hb : GoodIn big b) : GoodIn big (c :: (a ++ b)) := fun w h => (List.mem_cons.mp h).elim (fun e => ha w (List.mem_cons.mpr (Or.inl e))) (fun h => (List.mem_append.mp h).elim (fun h => ha w (List.mem_cons.mpr (Or.inr h))) (hb w))
theorem goodIn_sub {big ws : List Cond} (hm : ∀ w ∈ ws, w ∈ big) (h : ws.all goodWord = true) : GoodIn big ws := fun w hw => ⟨hm w hw, good_of_word (List.all_eq_true.mp h w hw)⟩
/-! ===== END ===== -/

/-! ===== BEGIN exceptions that leave a method, and their catching by the caller (launches without stack traces) ===== -/
section VXA
/-! The laws vx_back, vx_callV, vx_callS, vx_callSW, vx_throw0, vx_throwS follow proofs of the library, with one case more: JvmDerived/Free/Laws.lean (Back.of_free), Shelf42/LK1.lean (callV, callS), Shelf/KitTraced.lean (throwNew0V, throwNewS). -/
/-- where a method has thrown q: the class by its name, the cell, what was written, the world -/
def vx_T (XC : String → State → State → Prop) (st : State) (q : Addr) (t : State) (mc ms : Nat) (free : Addr → Prop) : Prop :=
  ∃ (E : String) (ce : Cell) (L : List Loc), XC E st t ∧ t.heap[q]? = some ce ∧ ce.vm = .none ∧ st.vm.findClass E = some ce.cls ∧ st.WarmedH t.vm ∧ st.sameButNew ({ t with vm := st.vm } : State) L mc ms ∧ ∀ z ∈ L, free z.base
def vx_Q (Qc : Array Value → State → Outcome → State → Prop) (XC : String → State → State → Prop) (mc ms : Nat) (free : Addr → Prop) : Array Value → State → Outcome → State → Prop := fun a st o t =>
  (Qc a st o t ∧ ∃ L, FrameEnd st o t L mc ms ∧ ∀ q ∈ L, free q.base) ∨ ∃ q, o = .threw q ∧ vx_T XC st q t mc ms free
/-- a callee that returns or throws -/
def vx_Met (l : Launch) (y : MethodName) (ws : List Cond) (rm : Room) (Pc : Array Value → State → Prop) (Qc : Array Value → State → Outcome → State → Prop) (XC : String → State → State → Prop) (mc ms : Nat) (free : Addr → Prop) : Prop :=
  MetFree l y (headSpec ws rm) Pc (fun _ _ _ _ _ => True) (vx_Q Qc XC mc ms free)
def vx_Post (XC : String → State → State → Prop) (mc ms : Nat) (free : Addr → Prop) : Pt → Array Value → Addr → Pt → Prop := fun A a q B =>
  ∃ (g : JFrame) (mk : MethodId) (t : State) (L : List Loc) (E : String) (ce : Cell), B.U.heap = t.heap ∧ B.U.vm = t.vm ∧ XC E (A.U.calling g mk a) t ∧ t.heap[q]? = some ce ∧ ce.vm = .none ∧ A.U.vm.findClass E = some ce.cls ∧ B.locs = A.locs ++ L ∧ (∀ z ∈ L, free z.base) ∧ B.cells = A.cells + mc ∧ B.slots = A.slots + ms
def vx_Back (l : Launch) (R : Room) (p : Program) (e : Env) (below : List Frame) (s : State) (sargs : Array Value) (y : MethodName) (len W9 : Nat)
    (Pre : Pt → Array Value → Prop) (Post : Pt → Array Value → Option Value → Pt → Prop) (PostX : Pt → Array Value → Addr → Pt → Prop) : Prop :=
  ∀ (m : MethodId) (meth : Method) (c : Code) (A : Pt) (g : JFrame) (ig : Instr) (mk : MethodId) (a : Array Value),
    Stand p l e R s m sargs below meth c A.U A.locs A.cells A.slots → g.method = m → g.locals.size = c.maxLocals → decode c.code g.pc = .ok (ig, len) →
    2 * g.monitorRoom + (g.stack.map fun v => v.category).sum ≤ W9 → A.U.methodNamed? y = some mk → Pre A a →
    (∃ (v : Option Value) (B : Pt), Stand p l e R s m sargs below meth c B.U B.locs B.cells B.slots ∧ Post A a v B ∧
      Steps p.tables e below (doInvoke e (A.U.setTop g) [] mk a).1 (B.U.setTop { g with pc := g.pc + len, stack := v.toList ++ g.stack })) ∨
    (∃ (q : Addr) (B : Pt), Stand p l e R s m sargs below meth c B.U B.locs B.cells B.slots ∧ PostX A a q B ∧
      Steps p.tables e below (doInvoke e (A.U.setTop g) [] mk a).1 ((B.U.setTop g).pushFrame (.throwing q)))
section Payer
variable {l : Launch} {R : Room} {p : Program} {e : Env} {below : List Frame} {s : State} {sargs : Array Value} {y : MethodName} {len W9 : Nat}
theorem vx_back {ws : List Cond} {rm : Room} {Pc : Array Value → State → Prop} {Qc : Array Value → State → Outcome → State → Prop} {XC : String → State → State → Prop} {mc ms : Nat} {free : Addr → Prop} {bytes : ByteArray} {maxL : Nat} {ret : Option FieldType}
    (hM : vx_Met l y ws rm Pc Qc XC mc ms free) (hblind : FrameBlind Pc) (hrc : rm.cells = mc) (hrs : rm.slots = ms)
    (hframes : rm.frames + 1 ≤ R.frames) (hlocals : W9 + (maxL + 11) + rm.locals ≤ R.locals)
    (hws : ∀ w ∈ ws, ∀ a' U, s.WarmedH U.vm → w.before a' U = true) (hcode : Cond.code y bytes maxL ret ∈ ws) (hinit : ∀ a' U, s.WarmedH U.vm → (Cond.initialized y.cls).before a' U = true) :
    vx_Back l R p e below s sargs y len W9 (PreOf R mc ms Pc) (PostOf Qc mc ms free) (vx_Post XC mc ms free) := by
  intro m meth c A g ig mk a X hg hsize hdg hW hn hp
  have h1 : (headSpec ws rm).pre.before a A.U = true := atoms_intro fun w hw => hws w hw _ _ X.warmed
  have h2 : (Cond.code y bytes maxL ret).before a A.U = true := hws _ hcode _ _ X.warmed
  have h3 : (Cond.initialized y.cls).before a A.U = true := hinit _ _ X.warmed
  have h4 : A.cells + (headSpec ws rm).room.cells ≤ R.cells := by rw [show (headSpec ws rm).room.cells = mc from hrc]; exact hp.1
  have h5 : A.slots + (headSpec ws rm).room.slots ≤ R.slots := by rw [show (headSpec ws rm).room.slots = ms from hrs]; exact hp.2.1
  have hPc : Pc a (A.U.calling g mk a) := hblind _ _ _ _ hp.2.2
  obtain ⟨U, Ls, c0, s0⟩ := A
  dsimp only [Pt.U, Pt.locs, Pt.cells, Pt.slots] at h1 h2 h3 h4 h5 X hn hPc ⊢
  obtain ⟨methY, cY, hmY, hcY, -, hlY, -, -, -, -⟩ := Cond.code_spec hn h2
  obtain ⟨kY, hkY, -⟩ := className_of_methodNamed hn
  have hinitY : kY.init = .initialized := Cond.initialized_spec (findClass_of_methodNamed hn) hkY h3
  have h : At U g.method c below := by rw [hg]; exact X.here
  have hlocals9 : W9 + (maxL + 11) + (headSpec ws rm).room.locals ≤ R.locals := hlocals
  have happ : (headSpec ws rm).appliesLoose y e.platform (U.calling g mk a) = true :=
    Spec.appliesLoose_calling (g := g) h hdg hn hkY hinitY
      (X.room_calling (g := g) (R' := (headSpec ws rm).room) hsize hmY hcY hframes (by rw [hlY]; omega) h4 h5) h1
  obtain ⟨mid, hmid⟩ := h.above
  have hfr : (U.setTop g).frames = (.java g :: mid) ++ below := by rw [State.frames_setTop' g h.top, hmid]; rfl
  obtain ⟨o, s₂, hsteps, -, hend, hq⟩ := Steps.callFree hM p X.admits X.cas X.clock (acts := []) hfr happ hPc trivial
  have hq' : vx_Q Qc XC mc ms free a (U.calling g mk a) o s₂ := hq
  rw [State.frames_setTop' g h.top] at hend
  obtain ⟨g₀, hg0⟩ := Option.isSome_iff_exists.mp h.top
  obtain ⟨r, hr⟩ := State.topJava?_eq_some.mp hg0
  have hr' : (({ U with heap := s₂.heap, slotsUsed := s₂.slotsUsed } : State).setVm s₂.vm).frames = .java g₀ :: r := hr
  rcases hq' with ⟨hqc, L, hfe, hL⟩ | ⟨q, rfl, E, ce, L, hx, hce, hcv, hcl, hW₂, hsm, hL⟩
  · obtain ⟨⟨v, rfl⟩, hW₂, e2, q2, q3, q4, q5, q6⟩ := id hfe
    have e3 : s₂ = ({ (U.calling g mk a).setFrames s₂.frames with heap := s₂.heap, slotsUsed := s₂.slotsUsed } : State).setVm s₂.vm := by
      have : s₂ = ({ s₂ with vm := (U.calling g mk a).vm } : State).setVm s₂.vm := rfl
      rw [e2] at this
      exact this
    obtain ⟨c₂, i₂, len₂, hc₂, hd₂, hf₂⟩ := hend
    have hW' : U.WarmedH s₂.vm := hW₂
    have hcc : c₂ = c := by
      have h1 : s₂.code? g.method = U.code? g.method := by
        rw [State.code?_eq, State.code?_eq, hW'.alike.method?]
      exact Option.some.inj (hc₂.symm.trans (h1.trans h.code))
    subst hcc
    have hlen : len₂ = len := by rw [hdg] at hd₂; cases hd₂; rfl
    subst hlen
    have hs₂ : s₂ = (({ U with heap := s₂.heap, slotsUsed := s₂.slotsUsed } : State).setVm s₂.vm).setTop { g with pc := g.pc + len₂, stack := v.toList ++ g.stack } := by
      refine e3.trans ?_
      rw [hf₂, State.calling_eq h.top, State.setFrames_setFrames, State.setTop_of_frames _ hr', hr]
      rfl
    have hsame : U.sameButNew ({ U with heap := s₂.heap, slotsUsed := s₂.slotsUsed } : State) L mc ms := by
      refine ⟨?_, q2, q3, q4, q5, q6⟩
      obtain ⟨t, ht, -⟩ := State.frames_cons hr
      show ({ U with heap := s₂.heap, slotsUsed := s₂.slotsUsed } : State) = { U.setFrames U.frames with heap := s₂.heap, slotsUsed := s₂.slotsUsed }
      rw [State.setFrames_self ht]
    subst hg
    refine Or.inl ⟨v, ⟨(({ U with heap := s₂.heap, slotsUsed := s₂.slotsUsed } : State).setVm s₂.vm), Ls ++ L, c0 + mc, s0 + ms⟩,
      ⟨X.admits, X.cas, X.clock, X.frames, X.room, X.hears, X.method, X.code, (X.here.setHeapUsed s₂.heap s₂.slotsUsed).setVm hW'.alike, X.tail, State.WarmedH.trans X.warmed hW', X.limits, X.bytes, X.same.trans (hsame.setVm s.vm)⟩,
      ⟨g, mk, s₂, L, rfl, rfl, hqc, rfl, hL, rfl, rfl⟩, ?_⟩
    show Steps p.tables e below _ ((({ U with heap := s₂.heap, slotsUsed := s₂.slotsUsed } : State).setVm s₂.vm).setTop { g with pc := g.pc + len₂, stack := v.toList ++ g.stack })
    rw [← hs₂]
    exact hsteps
  · obtain ⟨e2, q2, q3, q4, q5, q6⟩ := id hsm
    have e3 : s₂ = ({ (U.calling g mk a).setFrames s₂.frames with heap := s₂.heap, slotsUsed := s₂.slotsUsed } : State).setVm s₂.vm := by
      have : s₂ = ({ s₂ with vm := (U.calling g mk a).vm } : State).setVm s₂.vm := rfl
      rw [e2] at this
      exact this
    have hf₂ : s₂.frames = .throwing q :: .java g :: U.frames.tail := hend
    have hW' : U.WarmedH s₂.vm := hW₂
    have hs₂ : s₂ = ((({ U with heap := s₂.heap, slotsUsed := s₂.slotsUsed } : State).setVm s₂.vm).setTop g).pushFrame (.throwing q) := by
      refine e3.trans ?_
      rw [hf₂, State.calling_eq h.top, State.setFrames_setFrames, State.pushFrame, State.frames_setTop _ hr', State.setTop_of_frames _ hr', State.setFrames_setFrames, hr]
      rfl
    have hsame : U.sameButNew ({ U with heap := s₂.heap, slotsUsed := s₂.slotsUsed } : State) L mc ms := by
      refine ⟨?_, q2, q3, q4, q5, q6⟩
      obtain ⟨t, ht, -⟩ := State.frames_cons hr
      show ({ U with heap := s₂.heap, slotsUsed := s₂.slotsUsed } : State) = { U.setFrames U.frames with heap := s₂.heap, slotsUsed := s₂.slotsUsed }
      rw [State.setFrames_self ht]
    subst hg
    refine Or.inr ⟨q, ⟨(({ U with heap := s₂.heap, slotsUsed := s₂.slotsUsed } : State).setVm s₂.vm), Ls ++ L, c0 + mc, s0 + ms⟩,
      ⟨X.admits, X.cas, X.clock, X.frames, X.room, X.hears, X.method, X.code, (X.here.setHeapUsed s₂.heap s₂.slotsUsed).setVm hW'.alike, X.tail, State.WarmedH.trans X.warmed hW', X.limits, X.bytes, X.same.trans (hsame.setVm s.vm)⟩,
      ⟨g, mk, s₂, L, E, ce, rfl, rfl, hx, hce, hcv, hcl, rfl, hL, rfl, rfl⟩, ?_⟩
    show Steps p.tables e below _ (((({ U with heap := s₂.heap, slotsUsed := s₂.slotsUsed } : State).setVm s₂.vm).setTop g).pushFrame (.throwing q))
    rw [← hs₂]
    exact hsteps
end Payer
section Calls
variable {p : Program} {l : Launch} {e : Env} {R : Room} {s : State} {m : MethodId} {args : Array Value} {below : List Frame} {meth : Method} {c : Code} {T : State} {locs : List Loc} {cells slots : Nat}
theorem vx_callV (X : Stand p l e R s m args below meth c T locs cells slots) (hexec : p.tables.exec = Jvm.exec) {own C : String} {index : Nat} {y : MethodName} {bytes : ByteArray} {maxL : Nat} {ret : Option FieldType}
    (hown : s.vm.findClass own = some m.cls) (hlink : (Cond.methodLink own index y).before args s = true) (hinst : (Cond.instanceMethod y).before args s = true) (hsel : (Cond.selects C y y).before args s = true)
    (hcode : (Cond.code y bytes maxL ret).before args s = true) (hy : y.cls ≠ "java/lang/invoke/MethodHandle" ∧ y.cls ≠ "java/lang/invoke/VarHandle")
    {W9 : Nat} {Pre : Pt → Array Value → Prop} {Post : Pt → Array Value → Option Value → Pt → Prop} {PostX : Pt → Array Value → Addr → Pt → Prop} (hK : vx_Back l R p e below s args y 3 W9 Pre Post PostX)
    {b : Addr} {cellB : Cell} (hcell : T.heap[b]? = some cellB) (hobj : cellB.vm.isStatics = false) (hcls : s.vm.findClass C = some cellB.cls)
    {g : JFrame} (hg : g.method = m) (hsize : g.locals.size = c.maxLocals) {argsL rest : List Value} (hlen : ∀ sig, parseMethodDescriptor y.desc = some sig → argsL.length = sig.parameters.length)
    (hstack : g.stack = argsL.reverse ++ .ref b :: rest) (hW : 2 * g.monitorRoom + (rest.map fun v => v.category).sum ≤ W9) (hdg : decode c.code g.pc = .ok (.invokevirtual index, 3))
    (hpre : ∀ vm₁, s.WarmedH vm₁ → Pre ⟨T.setVm vm₁, locs, cells, slots⟩ (Value.ref b :: argsL).toArray) :
    (∃ (v : Option Value) (vm₁ : Vm) (B : Pt), s.WarmedH vm₁ ∧ Stand p l e R s m args below meth c B.U B.locs B.cells B.slots ∧ Post ⟨T.setVm vm₁, locs, cells, slots⟩ (Value.ref b :: argsL).toArray v B ∧
      ∀ target, Steps p.tables e below (B.U.setTop { g with pc := g.pc + 3, stack := v.toList ++ rest }) target → Steps p.tables e below (T.setTop g) target) ∨
    (∃ (q : Addr) (vm₁ : Vm) (B : Pt), s.WarmedH vm₁ ∧ Stand p l e R s m args below meth c B.U B.locs B.cells B.slots ∧ PostX ⟨T.setVm vm₁, locs, cells, slots⟩ (Value.ref b :: argsL).toArray q B ∧
      Steps p.tables e below (T.setTop g) ((B.U.setTop { g with stack := rest }).pushFrame (.throwing q))) := by
  obtain ⟨mk, methM, hnamed, hmethM, hstM, habM⟩ := Cond.instanceMethod_spec hinst
  obtain ⟨methM', cM, hmethM', -, -, -, -, -, -, hsigM⟩ := Cond.code_spec hnamed hcode
  cases hmethM.symm.trans hmethM'
  obtain ⟨c2, r2, m2, q1, q2, q3, q4, kP, hkP, hkPi⟩ := Cond.selects_spec hsel
  cases hcls.symm.trans q1
  cases (State.methodFound?_of_named hnamed hy).symm.trans q2
  cases hnamed.symm.trans q3
  have hselP : selectMethod e.platform s.vm cellB.cls mk = .method mk := by rw [Launch.admits_selectMethod X.admits]; exact q4
  obtain ⟨vm₁, X₁, hstep₁⟩ := X.invokevirtual hexec hown hlink hnamed hmethM hstM hkP hkPi hy (a := b) (cell := cellB) hcell
    (fun z h => by rw [h] at hobj; cases hobj) hselP hmethM habM hkP hkPi (g := g) hg (argsL := argsL) (rest := rest) (hlen _ hsigM) hstack hdg
  rcases hK m meth c ⟨T.setVm vm₁, locs, cells, slots⟩ { g with stack := rest } (.invokevirtual index) mk (Value.ref b :: argsL).toArray X₁ hg hsize hdg hW (X₁.named hnamed) (hpre vm₁ X₁.warmed) with ⟨v, B, X', hpost, hsteps⟩ | ⟨q, B, X', hpost, hsteps⟩
  · exact Or.inl ⟨v, vm₁, B, X₁.warmed, X', hpost, fun target h => hstep₁ _ fun acts => by rw [doInvoke_state]; exact hsteps.trans h⟩
  · exact Or.inr ⟨q, vm₁, B, X₁.warmed, X', hpost, hstep₁ _ fun acts => by rw [doInvoke_state]; exact hsteps⟩
theorem vx_callS (X : Stand p l e R s m args below meth c T locs cells slots) (hexec : p.tables.exec = Jvm.exec) {own : String} {index : Nat} {y : MethodName} {bytes : ByteArray} {maxL : Nat} {ret : Option FieldType}
    (hown : s.vm.findClass own = some m.cls) (hlink : (Cond.methodLink own index y).before args s = true) (hstat : (Cond.static y).before args s = true) (hinit : (Cond.initialized y.cls).before args s = true)
    (hcode : (Cond.code y bytes maxL ret).before args s = true) (hy : y.cls ≠ "java/lang/invoke/MethodHandle" ∧ y.cls ≠ "java/lang/invoke/VarHandle")
    {W9 : Nat} {Pre : Pt → Array Value → Prop} {Post : Pt → Array Value → Option Value → Pt → Prop} {PostX : Pt → Array Value → Addr → Pt → Prop} (hK : vx_Back l R p e below s args y 3 W9 Pre Post PostX)
    {g : JFrame} (hg : g.method = m) (hsize : g.locals.size = c.maxLocals) {argsL rest : List Value} (hlen : ∀ sig, parseMethodDescriptor y.desc = some sig → argsL.length = sig.parameters.length)
    (hstack : g.stack = argsL.reverse ++ rest) (hW : 2 * g.monitorRoom + (rest.map fun v => v.category).sum ≤ W9) (hdg : decode c.code g.pc = .ok (.invokestatic index, 3))
    (hpre : ∀ vm₁, s.WarmedH vm₁ → Pre ⟨T.setVm vm₁, locs, cells, slots⟩ argsL.toArray) :
    (∃ (v : Option Value) (vm₁ : Vm) (B : Pt), s.WarmedH vm₁ ∧ Stand p l e R s m args below meth c B.U B.locs B.cells B.slots ∧ Post ⟨T.setVm vm₁, locs, cells, slots⟩ argsL.toArray v B ∧
      ∀ target, Steps p.tables e below (B.U.setTop { g with pc := g.pc + 3, stack := v.toList ++ rest }) target → Steps p.tables e below (T.setTop g) target) ∨
    (∃ (q : Addr) (vm₁ : Vm) (B : Pt), s.WarmedH vm₁ ∧ Stand p l e R s m args below meth c B.U B.locs B.cells B.slots ∧ PostX ⟨T.setVm vm₁, locs, cells, slots⟩ argsL.toArray q B ∧
      Steps p.tables e below (T.setTop g) ((B.U.setTop { g with stack := rest }).pushFrame (.throwing q))) := by
  obtain ⟨mk, hnamed⟩ := Cond.code_named hcode
  obtain ⟨methM, cM, hmethM, -, -, -, -, -, -, hsigM⟩ := Cond.code_spec hnamed hcode
  have hstatic : methM.isStatic = true := Cond.static_spec hnamed hmethM hstat
  obtain ⟨kP, hkP, -⟩ := className_of_methodNamed hnamed
  have hinitP : kP.init = .initialized := Cond.initialized_spec (findClass_of_methodNamed hnamed) hkP hinit
  obtain ⟨vm₁, X₁, hstep₁⟩ := X.invokestatic hexec hown hlink hnamed hmethM hstatic hkP hinitP hy (g := g) hg (argsL := argsL) (rest := rest) (hlen _ hsigM) hstack hdg
  rcases hK m meth c ⟨T.setVm vm₁, locs, cells, slots⟩ { g with stack := rest } (.invokestatic index) mk argsL.toArray X₁ hg hsize hdg hW (X₁.named hnamed) (hpre vm₁ X₁.warmed) with ⟨v, B, X', hpost, hsteps⟩ | ⟨q, B, X', hpost, hsteps⟩
  · exact Or.inl ⟨v, vm₁, B, X₁.warmed, X', hpost, fun target h => hstep₁ _ fun acts => by rw [doInvoke_state]; exact hsteps.trans h⟩
  · exact Or.inr ⟨q, vm₁, B, X₁.warmed, X', hpost, hstep₁ _ fun acts => by rw [doInvoke_state]; exact hsteps⟩
end Calls
theorem vx_cls {s : State} {T : State} {vm₁ : Vm} {E : String} {k : ClassId} (hW : s.WarmedH vm₁) (h : (T.setVm vm₁).vm.findClass E = some k) : s.vm.findClass E = some k := by
  have h1 : vm₁.findClass E = some k := h
  rw [hW.alike.findClass] at h1
  exact h1
/-- the method's frame g, with q thrown over it -/
def vx_W (p : Program) (l : Launch) (e : Env) (R : Room) (s : State) (m : MethodId) (args : Array Value) (below : List Frame) (meth : Method) (c : Code) (H : Heap) (locs : List Loc) (cells slots : Nat) (Q : State → Prop) (g : JFrame) (q : Addr) : Prop :=
  ∀ T : State, T.heap = H → Stand p l e R s m args below meth c T locs cells slots → ∃ t, Steps p.tables e below ((T.setTop g).pushFrame (.throwing q)) t ∧ Q t
def vx_Run (p : Program) (l : Launch) (e : Env) (R : Room) (s : State) (m : MethodId) (args : Array Value) (below : List Frame) (meth : Method) (c : Code) (H : Heap) (locs : List Loc) (cells slots mc ms : Nat) (g : JFrame) (rest : List Value) (Qa : State → Outcome → State → Prop) (XC : String → State → State → Prop) (free : Addr → Prop) : Prop :=
  ∀ T : State, T.heap = H → Stand p l e R s m args below meth c T locs cells slots →
    (∃ (v : Option Value) (st₀ t T' : State) (L : List Loc), st₀.heap = H ∧ Stand p l e R s m args below meth c T' (locs ++ L) (cells + mc) (slots + ms) ∧ (∀ q ∈ L, free q.base) ∧ T'.heap = t.heap ∧ T'.vm = t.vm ∧ Qa st₀ (.returned v) t ∧
      Goes p e below T g T' { g with pc := g.pc + 3, stack := v.toList ++ rest }) ∨
    (∃ (q : Addr) (st₀ t T' : State) (L : List Loc) (E : String) (ce : Cell), st₀.heap = H ∧ Stand p l e R s m args below meth c T' (locs ++ L) (cells + mc) (slots + ms) ∧ (∀ z ∈ L, free z.base) ∧ T'.heap = t.heap ∧ T'.vm = t.vm ∧ XC E st₀ t ∧ t.heap[q]? = some ce ∧ ce.vm = .none ∧ s.vm.findClass E = some ce.cls ∧
      Steps p.tables e below (T.setTop g) ((T'.setTop { g with stack := rest }).pushFrame (.throwing q)))
def vx_X {S : Type} (px : S → Prop) (B : String → S → State → Prop) (A : Nat → Prop) : String → State → State → Prop := fun E st t => ∃ u : S, px u ∧ B E u t ∧ va_F A st t
section Runs
variable {p : Program} {l : Launch} {e : Env} {R : Room} {s : State} {m : MethodId} {args : Array Value} {below : List Frame} {meth : Method} {c : Code} {H : Heap} {locs : List Loc} {cells slots : Nat}
variable {y : MethodName} {bytes cc : ByteArray} {maxL nL mc ms n index : Nat} {ret : Option FieldType} {ws : List Cond} {rm : Room} {Pc : Array Value → State → Prop} {Qc : Array Value → State → Outcome → State → Prop} {XC : String → State → State → Prop} {free : Addr → Prop} {Ts : List Cond} {own C : String} {b : Addr} {As rest : List Value} {g : JFrame}
theorem vx_callBack (cb : CallB R s args own index y bytes maxL ret ws rm mc ms n) (hM : vx_Met l y ws rm Pc Qc XC mc ms free) (hbl : FrameBlind Pc) : vx_Back l R p e below s args y 3 8 (PreOf R mc ms Pc) (PostOf Qc mc ms free) (vx_Post XC mc ms free) := by
  obtain ⟨hrc, hrs, hfr, hlo, hws, hcw, -, hini, -⟩ := cb
  exact vx_back (bytes := bytes) (maxL := maxL) (ret := ret) hM hbl hrc hrs hfr hlo hws hcw (fun a' U hW => word_at hW (Or.inl (by first | rfl | simp [Cond.onTables, Cond.keeps, Cond.steady])) hini)
theorem vx_runV (S : CallFix p m c cc nL s args Ts own) (hM : vx_Met l y ws rm Pc Qc XC mc ms free) (cw : CallW R s args own C index y bytes maxL ret ws rm mc ms n) (hp : PreV s H C b Pc As)
    (hg : g.method = m) (hn : As.length = n) (hsize : g.locals.size = nL) (hstack : g.stack = As.reverse ++ .ref b :: rest) (hW : 2 * g.monitorRoom + (rest.map fun v => v.category).sum ≤ 8) (hdg : decode cc g.pc = .ok (.invokevirtual index, 3)) (hf : cells + mc ≤ R.cells ∧ slots + ms ≤ R.slots) :
    vx_Run p l e R s m args below meth c H locs cells slots mc ms g rest (Qc (Value.ref b :: As).toArray) XC free := by
  have hK : vx_Back l R p e below s args y 3 8 (PreOf R mc ms Pc) (PostOf Qc mc ms free) (vx_Post XC mc ms free) := vx_callBack cw.1 hM hp.1
  obtain ⟨⟨-, -, -, -, -, -, hcode, -, hy, hlen, hl⟩, hin, hse⟩ := cw
  obtain ⟨hx, hb, hml, ho, -⟩ := S
  obtain ⟨-, ⟨cellB, hcB, hoB, hclB⟩, hPc⟩ := hp
  intro T hT X
  rcases vx_callV X hx (C := C) (bytes := bytes) (maxL := maxL) (ret := ret) ho hl hin hse hcode hy hK (by rw [hT]; exact hcB) hoB hclB hg (hsize.trans hml.symm) (argsL := As) (rest := rest) (fun sig h => hn.trans (hlen sig h)) hstack hW (by rw [hb]; exact hdg)
    (fun vm₁ hW₁ => ⟨hf.1, hf.2, hPc (T.setVm vm₁) hT hW₁⟩) with ⟨v, vm₁, ⟨U', l2, c2, s2⟩, hW₁, X', ⟨g', mk, t, L, e1, e2, hq, h1, hL, h2, h3⟩, st⟩ | ⟨q, vm₁, ⟨U', l2, c2, s2⟩, hW₁, X', ⟨g', mk, t, L, E, ce, e1, e2, hq, hce, hcv, hcl, h1, hL, h2, h3⟩, st⟩
  · dsimp only [Pt.U, Pt.locs, Pt.cells, Pt.slots] at X' e1 e2 h1 h2 h3 st
    subst h1; subst h2; subst h3
    exact Or.inl ⟨v, (T.setVm vm₁).calling g' mk (Value.ref b :: As).toArray, t, U', L, hT, X', hL, e1, e2, hq, st⟩
  · dsimp only [Pt.U, Pt.locs, Pt.cells, Pt.slots] at X' e1 e2 h1 h2 h3 st hcl
    subst h1; subst h2; subst h3
    exact Or.inr ⟨q, (T.setVm vm₁).calling g' mk (Value.ref b :: As).toArray, t, U', L, E, ce, hT, X', hL, e1, e2, hq, hce, hcv, vx_cls hW₁ hcl, st⟩
theorem vx_runS (S : CallFix p m c cc nL s args Ts own) (hM : vx_Met l y ws rm Pc Qc XC mc ms free) (cw : CallB R s args own index y bytes maxL ret ws rm mc ms n ∧ (Cond.static y).before args s = true) (hp : PreS s H Pc As)
    (hg : g.method = m) (hn : As.length = n) (hsize : g.locals.size = nL) (hstack : g.stack = As.reverse ++ rest) (hW : 2 * g.monitorRoom + (rest.map fun v => v.category).sum ≤ 8) (hdg : decode cc g.pc = .ok (.invokestatic index, 3)) (hf : cells + mc ≤ R.cells ∧ slots + ms ≤ R.slots) :
    vx_Run p l e R s m args below meth c H locs cells slots mc ms g rest (Qc As.toArray) XC free := by
  have hK : vx_Back l R p e below s args y 3 8 (PreOf R mc ms Pc) (PostOf Qc mc ms free) (vx_Post XC mc ms free) := vx_callBack cw.1 hM hp.1
  obtain ⟨⟨-, -, -, -, -, -, hcode, hini, hy, hlen, hl⟩, hstt⟩ := cw
  obtain ⟨hx, hb, hml, ho, -⟩ := S
  intro T hT X
  rcases vx_callS X hx (bytes := bytes) (maxL := maxL) (ret := ret) ho hl hstt hini hcode hy hK hg (hsize.trans hml.symm) (argsL := As) (rest := rest) (fun sig h => hn.trans (hlen sig h)) hstack hW (by rw [hb]; exact hdg)
    (fun vm₁ hW₁ => ⟨hf.1, hf.2, hp.2 (T.setVm vm₁) hT hW₁⟩) with ⟨v, vm₁, ⟨U', l2, c2, s2⟩, hW₁, X', ⟨g', mk, t, L, e1, e2, hq, h1, hL, h2, h3⟩, st⟩ | ⟨q, vm₁, ⟨U', l2, c2, s2⟩, hW₁, X', ⟨g', mk, t, L, E, ce, e1, e2, hq, hce, hcv, hcl, h1, hL, h2, h3⟩, st⟩
  · dsimp only [Pt.U, Pt.locs, Pt.cells, Pt.slots] at X' e1 e2 h1 h2 h3 st
    subst h1; subst h2; subst h3
    exact Or.inl ⟨v, (T.setVm vm₁).calling g' mk As.toArray, t, U', L, hT, X', hL, e1, e2, hq, st⟩
  · dsimp only [Pt.U, Pt.locs, Pt.cells, Pt.slots] at X' e1 e2 h1 h2 h3 st hcl
    subst h1; subst h2; subst h3
    exact Or.inr ⟨q, (T.setVm vm₁).calling g' mk As.toArray, t, U', L, E, ce, hT, X', hL, e1, e2, hq, hce, hcv, vx_cls hW₁ hcl, st⟩
end Runs
section Rows
variable {p : Program} {l : Launch} {e : Env} {R : Room} {s : State} {m : MethodId} {args : Array Value} {below : List Frame} {meth : Method} {c : Code} {H : Heap} {locs : List Loc} {cells slots : Nat} {Q : State → Prop}
variable {mc ms : Nat} {free : Addr → Prop} {A0 A1 : Nat → Prop} {H0 : Heap} {a : Array Value} {pc : Nat} {ls : Array Slot} {st0 rest : List Value}
theorem vx_keep {st₀ t T' : State} {L : List Loc} (h0 : st₀.heap = H) (e1 : T'.heap = t.heap) (hS : va_S A0 H0 H locs) (hA : ∀ q, q < H.size → A1 q → A0 q) (hf : ∀ q, free q → A0 q) (hL : ∀ q ∈ L, free q.base) (hF : va_F A1 st₀ t) :
    H.size ≤ T'.heap.size ∧ (∀ q : Nat, q < H.size → ¬ A1 q → T'.heap[q]? = H[q]?) ∧ va_S A0 H0 T'.heap (locs ++ L) := by
  obtain ⟨hz, hk⟩ := hF
  rw [h0] at hz hk
  exact ⟨by rw [e1]; exact hz, fun q h1 h2 => by rw [e1]; exact hk q h1 h2,
    ⟨Nat.le_trans hS.1 (by rw [e1]; exact hz), fun q h1 h2 => by rw [e1, hk q (Nat.lt_of_lt_of_le h1 hS.1) (fun z => h2 (hA q (Nat.lt_of_lt_of_le h1 hS.1) z))]; exact hS.2.1 q h1 h2, fun q hq => by
      rcases List.mem_append.mp hq with h | h
      · exact hS.2.2 q h
      · exact hf _ (hL q h)⟩⟩
theorem vx_calli {S SX : Type} {post : Int32 → S → Prop} {px : SX → Prop} {B : S → State → Prop} {BX : String → SX → State → Prop} {AX : Nat → Prop} (hr : vx_Run p l e R s m args below meth c H locs cells slots mc ms (F0 m pc ls st0) rest (va_Qi post B A1 a) (vx_X px BX AX) free) (hS : va_S A0 H0 H locs) (hA : ∀ q, q < H.size → A1 q → A0 q) (hf : ∀ q, free q → A0 q) (hAX : ∀ q, q < H.size → AX q → A0 q)
    (kx : ∀ (E : String) (ce : Cell) (q9 : Addr) (u : SX) (t : State) (H1 : Heap) (locs1 : List Loc), t.heap = H1 → s.vm.Alike t.vm → px u → BX E u t → H.size ≤ H1.size → (∀ q : Nat, q < H.size → ¬ AX q → H1[q]? = H[q]?) → va_S A0 H0 H1 locs1 → H1[q9]? = some ce → ce.vm = .none → s.vm.findClass E = some ce.cls → vx_W p l e R s m args below meth c H1 locs1 (cells + mc) (slots + ms) Q (F0 m pc ls rest) q9)
    (kk : ∀ (r : Int32) (u : S) (t : State) (H1 : Heap) (locs1 : List Loc), t.heap = H1 → s.vm.Alike t.vm → post r u → B u t → H.size ≤ H1.size → (∀ q : Nat, q < H.size → ¬ A1 q → H1[q]? = H[q]?) → va_S A0 H0 H1 locs1 → W p l e R s m args below meth c H1 locs1 (cells + mc) (slots + ms) Q (F0 m (pc + 3) ls (.int r :: rest))) : W p l e R s m args below meth c H locs cells slots Q (F0 m pc ls st0) := by
  intro T hT X
  rcases hr T hT X with ⟨v, st₀, t, T', L, h0, X', hL, e1, e2, ⟨⟨r, u, hv, hp, hb⟩, hF⟩, st⟩ | ⟨q, st₀, t, T', L, E, ce, h0, X', hL, e1, e2, ⟨u, hp, hb, hF⟩, hce, hcv, hcl, st⟩
  · cases hv
    obtain ⟨k1, k2, k3⟩ := vx_keep h0 e1 hS hA hf hL hF
    obtain ⟨t2, a1, b1⟩ := kk r u t T'.heap (locs ++ L) e1.symm (by rw [← e2]; exact X'.warmed.alike) hp hb k1 k2 k3 T' rfl X'
    exact ⟨t2, st t2 a1, b1⟩
  · obtain ⟨k1, k2, k3⟩ := vx_keep h0 e1 hS hAX hf hL hF
    obtain ⟨t2, a1, b1⟩ := kx E ce q u t T'.heap (locs ++ L) e1.symm (by rw [← e2]; exact X'.warmed.alike) hp hb k1 k2 k3 (by rw [e1]; exact hce) hcv hcl T' rfl X'
    exact ⟨t2, st.trans a1, b1⟩
theorem vx_calll {S SX : Type} {post : Int64 → S → Prop} {px : SX → Prop} {B : S → State → Prop} {BX : String → SX → State → Prop} {AX : Nat → Prop} (hr : vx_Run p l e R s m args below meth c H locs cells slots mc ms (F0 m pc ls st0) rest (va_Ql post B A1 a) (vx_X px BX AX) free) (hS : va_S A0 H0 H locs) (hA : ∀ q, q < H.size → A1 q → A0 q) (hf : ∀ q, free q → A0 q) (hAX : ∀ q, q < H.size → AX q → A0 q)
    (kx : ∀ (E : String) (ce : Cell) (q9 : Addr) (u : SX) (t : State) (H1 : Heap) (locs1 : List Loc), t.heap = H1 → s.vm.Alike t.vm → px u → BX E u t → H.size ≤ H1.size → (∀ q : Nat, q < H.size → ¬ AX q → H1[q]? = H[q]?) → va_S A0 H0 H1 locs1 → H1[q9]? = some ce → ce.vm = .none → s.vm.findClass E = some ce.cls → vx_W p l e R s m args below meth c H1 locs1 (cells + mc) (slots + ms) Q (F0 m pc ls rest) q9)
    (kk : ∀ (r : Int64) (u : S) (t : State) (H1 : Heap) (locs1 : List Loc), t.heap = H1 → s.vm.Alike t.vm → post r u → B u t → H.size ≤ H1.size → (∀ q : Nat, q < H.size → ¬ A1 q → H1[q]? = H[q]?) → va_S A0 H0 H1 locs1 → W p l e R s m args below meth c H1 locs1 (cells + mc) (slots + ms) Q (F0 m (pc + 3) ls (.long r :: rest))) : W p l e R s m args below meth c H locs cells slots Q (F0 m pc ls st0) := by
  intro T hT X
  rcases hr T hT X with ⟨v, st₀, t, T', L, h0, X', hL, e1, e2, ⟨⟨r, u, hv, hp, hb⟩, hF⟩, st⟩ | ⟨q, st₀, t, T', L, E, ce, h0, X', hL, e1, e2, ⟨u, hp, hb, hF⟩, hce, hcv, hcl, st⟩
  · cases hv
    obtain ⟨k1, k2, k3⟩ := vx_keep h0 e1 hS hA hf hL hF
    obtain ⟨t2, a1, b1⟩ := kk r u t T'.heap (locs ++ L) e1.symm (by rw [← e2]; exact X'.warmed.alike) hp hb k1 k2 k3 T' rfl X'
    exact ⟨t2, st t2 a1, b1⟩
  · obtain ⟨k1, k2, k3⟩ := vx_keep h0 e1 hS hAX hf hL hF
    obtain ⟨t2, a1, b1⟩ := kx E ce q u t T'.heap (locs ++ L) e1.symm (by rw [← e2]; exact X'.warmed.alike) hp hb k1 k2 k3 (by rw [e1]; exact hce) hcv hcl T' rfl X'
    exact ⟨t2, st.trans a1, b1⟩
theorem vx_callf {S SX : Type} {post : UInt32 → S → Prop} {px : SX → Prop} {B : S → State → Prop} {BX : String → SX → State → Prop} {AX : Nat → Prop} (hr : vx_Run p l e R s m args below meth c H locs cells slots mc ms (F0 m pc ls st0) rest (va_Qf post B A1 a) (vx_X px BX AX) free) (hS : va_S A0 H0 H locs) (hA : ∀ q, q < H.size → A1 q → A0 q) (hf : ∀ q, free q → A0 q) (hAX : ∀ q, q < H.size → AX q → A0 q)
    (kx : ∀ (E : String) (ce : Cell) (q9 : Addr) (u : SX) (t : State) (H1 : Heap) (locs1 : List Loc), t.heap = H1 → s.vm.Alike t.vm → px u → BX E u t → H.size ≤ H1.size → (∀ q : Nat, q < H.size → ¬ AX q → H1[q]? = H[q]?) → va_S A0 H0 H1 locs1 → H1[q9]? = some ce → ce.vm = .none → s.vm.findClass E = some ce.cls → vx_W p l e R s m args below meth c H1 locs1 (cells + mc) (slots + ms) Q (F0 m pc ls rest) q9)
    (kk : ∀ (r : UInt32) (u : S) (t : State) (H1 : Heap) (locs1 : List Loc), t.heap = H1 → s.vm.Alike t.vm → post r u → B u t → H.size ≤ H1.size → (∀ q : Nat, q < H.size → ¬ A1 q → H1[q]? = H[q]?) → va_S A0 H0 H1 locs1 → W p l e R s m args below meth c H1 locs1 (cells + mc) (slots + ms) Q (F0 m (pc + 3) ls (.float r :: rest))) : W p l e R s m args below meth c H locs cells slots Q (F0 m pc ls st0) := by
  intro T hT X
  rcases hr T hT X with ⟨v, st₀, t, T', L, h0, X', hL, e1, e2, ⟨⟨r, u, hv, hp, hb⟩, hF⟩, st⟩ | ⟨q, st₀, t, T', L, E, ce, h0, X', hL, e1, e2, ⟨u, hp, hb, hF⟩, hce, hcv, hcl, st⟩
  · cases hv
    obtain ⟨k1, k2, k3⟩ := vx_keep h0 e1 hS hA hf hL hF
    obtain ⟨t2, a1, b1⟩ := kk r u t T'.heap (locs ++ L) e1.symm (by rw [← e2]; exact X'.warmed.alike) hp hb k1 k2 k3 T' rfl X'
    exact ⟨t2, st t2 a1, b1⟩
  · obtain ⟨k1, k2, k3⟩ := vx_keep h0 e1 hS hAX hf hL hF
    obtain ⟨t2, a1, b1⟩ := kx E ce q u t T'.heap (locs ++ L) e1.symm (by rw [← e2]; exact X'.warmed.alike) hp hb k1 k2 k3 (by rw [e1]; exact hce) hcv hcl T' rfl X'
    exact ⟨t2, st.trans a1, b1⟩
theorem vx_calld {S SX : Type} {post : UInt64 → S → Prop} {px : SX → Prop} {B : S → State → Prop} {BX : String → SX → State → Prop} {AX : Nat → Prop} (hr : vx_Run p l e R s m args below meth c H locs cells slots mc ms (F0 m pc ls st0) rest (va_Qd post B A1 a) (vx_X px BX AX) free) (hS : va_S A0 H0 H locs) (hA : ∀ q, q < H.size → A1 q → A0 q) (hf : ∀ q, free q → A0 q) (hAX : ∀ q, q < H.size → AX q → A0 q)
    (kx : ∀ (E : String) (ce : Cell) (q9 : Addr) (u : SX) (t : State) (H1 : Heap) (locs1 : List Loc), t.heap = H1 → s.vm.Alike t.vm → px u → BX E u t → H.size ≤ H1.size → (∀ q : Nat, q < H.size → ¬ AX q → H1[q]? = H[q]?) → va_S A0 H0 H1 locs1 → H1[q9]? = some ce → ce.vm = .none → s.vm.findClass E = some ce.cls → vx_W p l e R s m args below meth c H1 locs1 (cells + mc) (slots + ms) Q (F0 m pc ls rest) q9)
    (kk : ∀ (r : UInt64) (u : S) (t : State) (H1 : Heap) (locs1 : List Loc), t.heap = H1 → s.vm.Alike t.vm → post r u → B u t → H.size ≤ H1.size → (∀ q : Nat, q < H.size → ¬ A1 q → H1[q]? = H[q]?) → va_S A0 H0 H1 locs1 → W p l e R s m args below meth c H1 locs1 (cells + mc) (slots + ms) Q (F0 m (pc + 3) ls (.double r :: rest))) : W p l e R s m args below meth c H locs cells slots Q (F0 m pc ls st0) := by
  intro T hT X
  rcases hr T hT X with ⟨v, st₀, t, T', L, h0, X', hL, e1, e2, ⟨⟨r, u, hv, hp, hb⟩, hF⟩, st⟩ | ⟨q, st₀, t, T', L, E, ce, h0, X', hL, e1, e2, ⟨u, hp, hb, hF⟩, hce, hcv, hcl, st⟩
  · cases hv
    obtain ⟨k1, k2, k3⟩ := vx_keep h0 e1 hS hA hf hL hF
    obtain ⟨t2, a1, b1⟩ := kk r u t T'.heap (locs ++ L) e1.symm (by rw [← e2]; exact X'.warmed.alike) hp hb k1 k2 k3 T' rfl X'
    exact ⟨t2, st t2 a1, b1⟩
  · obtain ⟨k1, k2, k3⟩ := vx_keep h0 e1 hS hAX hf hL hF
    obtain ⟨t2, a1, b1⟩ := kx E ce q u t T'.heap (locs ++ L) e1.symm (by rw [← e2]; exact X'.warmed.alike) hp hb k1 k2 k3 (by rw [e1]; exact hce) hcv hcl T' rfl X'
    exact ⟨t2, st.trans a1, b1⟩
theorem vx_callv {S SX : Type} {post : S → Prop} {px : SX → Prop} {B : S → State → Prop} {BX : String → SX → State → Prop} {AX : Nat → Prop} (hr : vx_Run p l e R s m args below meth c H locs cells slots mc ms (F0 m pc ls st0) rest (va_Qv post B A1 a) (vx_X px BX AX) free) (hS : va_S A0 H0 H locs) (hA : ∀ q, q < H.size → A1 q → A0 q) (hf : ∀ q, free q → A0 q) (hAX : ∀ q, q < H.size → AX q → A0 q)
    (kx : ∀ (E : String) (ce : Cell) (q9 : Addr) (u : SX) (t : State) (H1 : Heap) (locs1 : List Loc), t.heap = H1 → s.vm.Alike t.vm → px u → BX E u t → H.size ≤ H1.size → (∀ q : Nat, q < H.size → ¬ AX q → H1[q]? = H[q]?) → va_S A0 H0 H1 locs1 → H1[q9]? = some ce → ce.vm = .none → s.vm.findClass E = some ce.cls → vx_W p l e R s m args below meth c H1 locs1 (cells + mc) (slots + ms) Q (F0 m pc ls rest) q9)
    (kk : ∀ (u : S) (t : State) (H1 : Heap) (locs1 : List Loc), t.heap = H1 → s.vm.Alike t.vm → post u → B u t → H.size ≤ H1.size → (∀ q : Nat, q < H.size → ¬ A1 q → H1[q]? = H[q]?) → va_S A0 H0 H1 locs1 → W p l e R s m args below meth c H1 locs1 (cells + mc) (slots + ms) Q (F0 m (pc + 3) ls (rest))) : W p l e R s m args below meth c H locs cells slots Q (F0 m pc ls st0) := by
  intro T hT X
  rcases hr T hT X with ⟨v, st₀, t, T', L, h0, X', hL, e1, e2, ⟨⟨u, hv, hp, hb⟩, hF⟩, st⟩ | ⟨q, st₀, t, T', L, E, ce, h0, X', hL, e1, e2, ⟨u, hp, hb, hF⟩, hce, hcv, hcl, st⟩
  · cases hv
    obtain ⟨k1, k2, k3⟩ := vx_keep h0 e1 hS hA hf hL hF
    obtain ⟨t2, a1, b1⟩ := kk u t T'.heap (locs ++ L) e1.symm (by rw [← e2]; exact X'.warmed.alike) hp hb k1 k2 k3 T' rfl X'
    exact ⟨t2, st t2 a1, b1⟩
  · obtain ⟨k1, k2, k3⟩ := vx_keep h0 e1 hS hAX hf hL hF
    obtain ⟨t2, a1, b1⟩ := kx E ce q u t T'.heap (locs ++ L) e1.symm (by rw [← e2]; exact X'.warmed.alike) hp hb k1 k2 k3 (by rw [e1]; exact hce) hcv hcl T' rfl X'
    exact ⟨t2, st.trans a1, b1⟩
/-- caught by the row x of this method's table; the rows ahead don't take it -/
theorem vx_catch {own name : String} {E : String} {ce : Cell} {q : Addr} (hown : s.vm.findClass own = some m.cls) (pre : List ExceptionTableEntry) (x : ExceptionTableEntry) (suf : List ExceptionTableEntry) (hsplit : c.exceptionTable.toList = pre ++ x :: suf)
    (hpass : ∀ z ∈ pre, covers z pc = false ∨ (z.catchType ≠ 0 ∧ ∃ nm : String, (Cond.classLink own z.catchType nm).before args s = true ∧ va_Nc E nm s)) (hx : covers x pc = true) (h0 : x.catchType ≠ 0)
    (hlink : (Cond.classLink own x.catchType name).before args s = true) (hcast : (Cond.castable E name).before args s = true) (hcell : H[q]? = some ce) (hv : ce.vm = .none) (hcl : s.vm.findClass E = some ce.cls)
    (kk : W p l e R s m args below meth c H locs cells slots Q (F0 m x.handlerPc ls [.ref q])) : vx_W p l e R s m args below meth c H locs cells slots Q (F0 m pc ls rest) q := by
  intro T hT X
  have hpl : e.platform.magicAccessors = ({} : Platform).magicAccessors := by rw [X.admits.platform]
  obtain ⟨c3, c4, hc3, hc4, hasg⟩ := Cond.castable_spec hcast
  cases Option.some.inj (hc3.symm.trans hcl)
  obtain ⟨c5, hc5, hcl5⟩ := Cond.classLink_spec hown hlink e.platform hpl
  cases Option.some.inj (hc4.symm.trans hc5)
  obtain ⟨vm', X', st⟩ := X.thenCaughtThrough q (g := F0 m pc ls rest) rfl (Steps.refl _) (by rw [hT]; exact hcell) (by rw [hv]; rfl) (by obtain ⟨k9, h9, -⟩ := Vm.findClass_spec hcl; exact ⟨k9, h9⟩) pre x suf hsplit
    (fun z hz => by
      rcases hpass z hz with h | ⟨hz0, nm, hl1, hn1⟩
      · exact Or.inl h
      · obtain ⟨c6, hc6, hcl6⟩ := Cond.classLink_spec hown hl1 e.platform hpl
        obtain ⟨a8, b8, h1, h2, h3⟩ := hn1
        cases Option.some.inj (h1.symm.trans hcl)
        cases Option.some.inj (h2.symm.trans hc6)
        exact Or.inr ⟨hz0, _, hcl6, h3⟩) hx (Or.inr ⟨h0, c4, hcl5, hasg⟩)
  obtain ⟨t, a1, b1⟩ := kk (T.setVm vm') hT X'
  exact ⟨t, st.trans a1, b1⟩
end Rows
section Ends
variable {p : Program} {l : Launch} {e : Env} {R : Room} {s : State} {m : MethodId} {args : Array Value} {below : List Frame} {meth : Method} {c : Code} {H : Heap} {locs : List Loc} {cells slots : Nat} {Q : State → Prop}
variable {mc ms : Nat} {free : Addr → Prop} {A0 A1 : Nat → Prop} {H0 : Heap} {a : Array Value} {ls : Array Slot} {st0 rest : List Value}
variable {Qc : Array Value → State → Outcome → State → Prop} {XC : String → State → State → Prop}
/-- what a body that may throw owes at its end -/
def vx_MQ (below : List Frame) (Qc : Array Value → State → Outcome → State → Prop) (XC : String → State → State → Prop) (a : Array Value) (s : State) (mc ms : Nat) (free : Addr → Prop) : State → Prop := fun t =>
  ∃ o, t.status = .running ∧ Ended t below o ∧ vx_Q Qc XC mc ms free a s o t
theorem vx_ret {g : JFrame} {mc ms : Nat} (k : W p l e R s m args below meth c H locs cells slots (MQ below Qc args s mc ms free) g) : W p l e R s m args below meth c H locs cells slots (vx_MQ below Qc XC args s mc ms free) g := by
  intro T hT X
  obtain ⟨t, a1, o, b1, b2, b3, b4⟩ := k T hT X
  exact ⟨t, a1, o, b1, b2, Or.inl ⟨b3, b4⟩⟩
/-- not caught here: it goes on to the caller -/
theorem vx_widen {g : JFrame} {q : Addr} {k n : Nat} (h1 : cells ≤ k) (h2 : slots ≤ n) (kk : vx_W p l e R s m args below meth c H locs k n Q g q) : vx_W p l e R s m args below meth c H locs cells slots Q g q := fun T hT X => kk T hT (stand_widen X h1 h2)
theorem vx_out {pc : Nat} {E : String} {ce : Cell} {q : Addr} {mc ms : Nat} (hout : ∀ x ∈ c.exceptionTable.toList, covers x pc = false) (hlocks : meth.locks = false) (hcell : H[q]? = some ce) (hv : ce.vm = .none) (hcl : s.vm.findClass E = some ce.cls)
    (hx : ∀ t : State, t.heap = H → s.vm.Alike t.vm → XC E s t) (hf : ∀ z ∈ locs, free z.base) (hc : cells ≤ mc) (hs : slots ≤ ms) :
    vx_W p l e R s m args below meth c H locs cells slots (vx_MQ below Qc XC args s mc ms free) (F0 m pc ls rest) q := by
  intro T hT X
  obtain ⟨st1, hrun, hend, hW, hsm⟩ := X.leaveThrown q (g := F0 m pc ls rest) rfl rfl rfl hout hlocks
  have hcell9 : (T.setFrames (.throwing q :: below)).heap[q]? = some ce := by
    show T.heap[q]? = some ce
    rw [hT]; exact hcell
  exact ⟨_, st1, .threw q, hrun, hend, Or.inr ⟨q, rfl, E, ce, locs, hx _ hT hW.alike, hcell9, hv, hcl, hW, hsm.mono hc hs, hf⟩⟩
theorem vx_frame {U : State} {k n : Nat} (h : s.sameButNew ({ U with vm := s.vm } : State) locs k n) : s.heap.size ≤ U.heap.size ∧ ∀ q : Nat, q < s.heap.size → (∀ z ∈ locs, z.base ≠ q) → U.heap[q]? = s.heap[q]? := by
  obtain ⟨-, h2, -, -, -, h6⟩ := h
  refine ⟨h2, fun q hq hz => ?_⟩
  obtain ⟨c9, e1, e2, e3, e4⟩ := h6 q _ (Array.getElem?_eq_getElem hq)
  have hs : c9.slots = (s.heap[q]).slots := Array.ext_getElem? fun i => e4 i fun hm => hz _ hm rfl
  have h9 : c9 = s.heap[q] := by
    rw [hs] at e2
    exact e2
  have e5 : U.heap[q]? = some c9 := e1
  rw [e5, h9, Array.getElem?_eq_getElem hq]
/-- the words of a throw but the four that speak of the heap -/
def vx_no (w : Cond) : Bool := decide (w ≠ .isRef (.static Bundle.tN "UNASSIGNED_STACK" Bundle.steD)) && decide (w ≠ .isRef (.static Bundle.tN "SUPPRESSED_SENTINEL" Bundle.listD)) && decide (w ≠ .laysStatic Bundle.tN "UNASSIGNED_STACK" Bundle.steD) && decide (w ≠ .laysStatic Bundle.tN "SUPPRESSED_SENTINEL" Bundle.listD)
def vx_at0 (own : String) (ic : Nat) (X : String) (names : List String) : List Cond := (Bundle.ownAtoms0 own ic X names).filter vx_no
def vx_atS (own : String) (ic : Nat) (X : String) (names : List String) : List Cond := (Bundle.ownAtoms own ic X names).filter vx_no
/-- a word that the tables alone decide, or a good one -/
def vx_ot (w : Cond) : Bool := w.onTables || goodWord w
theorem vx_ot_at {args a' : Array Value} {s U : State} {w : Cond} (hW : s.WarmedH U.vm) (hvm : s.vm = U.vm) (hg : vx_ot w = true) (h : w.before args s = true) : w.before a' U = true := by
  simp only [vx_ot, Bool.or_eq_true] at hg
  rcases hg with hg | hg
  · exact va_tabs hg hvm h
  · exact word_at hW (good_of_word hg) h
/-- a list's words: the good ones out of the method's own list, the others by premises of their own -/
theorem vx_hat {args : Array Value} {s : State} {L B : List Cond} (h1 : ∀ w ∈ L.filter goodWord, w.before args s = true) (h2 : ∀ w ∈ L.filter (fun w => !goodWord w), w ∈ B) (h3 : ∀ w ∈ B, w.before args s = true) : ∀ w ∈ L, w.before args s = true := by
  intro w hw
  by_cases g : goodWord w = true
  · exact h1 w (List.mem_filter.mpr ⟨hw, g⟩)
  · refine h3 w (h2 w (List.mem_filter.mpr ⟨hw, ?_⟩))
    show (!goodWord w) = true
    cases hgw : goodWord w
    · rfl
    · exact absurd hgw g
theorem vx_c {args : Array Value} {s : State} {w : Cond} {B : List Cond} (h : w.before args s = true) (t : ∀ w ∈ B, w.before args s = true) : ∀ w' ∈ w :: B, w'.before args s = true := fun w' h' => (List.mem_cons.mp h').elim (fun e => by rw [e]; exact h) (t w')
theorem vx_n {args : Array Value} {s : State} : ∀ w ∈ ([] : List Cond), w.before args s = true := fun _ h => nomatch h
theorem vx_own {args : Array Value} {s : State} {L : List Cond} (h1 : ∀ w ∈ L.filter vx_no, w.before args s = true)
    (hU : (Cond.isRef (.static Bundle.tN "UNASSIGNED_STACK" Bundle.steD)).before args s = true) (hN : (Cond.isRef (.static Bundle.tN "SUPPRESSED_SENTINEL" Bundle.listD)).before args s = true)
    (lU : (Cond.laysStatic Bundle.tN "UNASSIGNED_STACK" Bundle.steD).before args s = true) (lN : (Cond.laysStatic Bundle.tN "SUPPRESSED_SENTINEL" Bundle.listD).before args s = true) : ∀ w ∈ L, w.before args s = true := by
  intro w hw
  by_cases e1 : w = .isRef (.static Bundle.tN "UNASSIGNED_STACK" Bundle.steD)
  · rw [e1]; exact hU
  · by_cases e2 : w = .isRef (.static Bundle.tN "SUPPRESSED_SENTINEL" Bundle.listD)
    · rw [e2]; exact hN
    · by_cases e3 : w = .laysStatic Bundle.tN "UNASSIGNED_STACK" Bundle.steD
      · rw [e3]; exact lU
      · by_cases e4 : w = .laysStatic Bundle.tN "SUPPRESSED_SENTINEL" Bundle.listD
        · rw [e4]; exact lN
        · exact h1 w (List.mem_filter.mpr ⟨hw, by unfold vx_no; rw [decide_eq_true e1, decide_eq_true e2, decide_eq_true e3, decide_eq_true e4]; rfl⟩)
/-- where a static field lies, its class's statics cell in H -/
def vx_L (C n d : String) (A : Nat → Prop) (U : State) (H : Heap) : Prop := ∃ (c : ClassId) (k : Class) (i : Nat) (f : Field) (a : Nat) (cell : Cell), U.vm.findClass C = some c ∧ U.fieldFound? C n d = some (c, k, i, f) ∧ f.isStatic = true ∧ k.statics = some a ∧ H[a]? = some cell ∧ cell.vm.isStatics = true ∧ cell.cls = c ∧ f.slot < cell.slots.size ∧ k.staticTypes[f.slot]? = some f.type ∧ ¬ A a
theorem vx_L.moved {C n d : String} {A : Nat → Prop} {u U : State} {H : Heap} (hvm : u.vm.Alike U.vm) (h : vx_L C n d A u H) : vx_L C n d A U H := by
  obtain ⟨c, k, i, f, a, cell, h1, h2, h3, h4, h5, h6, h7, h8, h9, h10⟩ := h
  obtain ⟨k', hi', he⟩ := State.fieldFound?_setVm hvm h2
  exact ⟨c, k', i, f, a, cell, by rw [hvm.findClass]; exact h1, hi', h3, by rw [he]; exact h4, h5, h6, h7, h8, by rw [he]; exact h9, h10⟩
theorem vx_L.kept {C n d : String} {A : Nat → Prop} {U : State} {H H1 : Heap} (h : vx_L C n d A U H) (hq : ∀ a : Nat, a < H.size → ¬ A a → H1[a]? = H[a]?) : vx_L C n d A U H1 := by
  obtain ⟨c, k, i, f, a, cell, h1, h2, h3, h4, h5, h6, h7, h8, h9, h10⟩ := h
  exact ⟨c, k, i, f, a, cell, h1, h2, h3, h4, by rw [hq a (Array.getElem?_eq_some_iff.mp h5).1 h10]; exact h5, h6, h7, h8, h9, h10⟩
theorem vx_L.narrow {C n d : String} {A B : Nat → Prop} {U : State} {H : Heap} (h : vx_L C n d A U H) (hAB : ∀ q, B q → A q) : vx_L C n d B U H := by
  obtain ⟨c, k, i, f, a, cell, h1, h2, h3, h4, h5, h6, h7, h8, h9, h10⟩ := h
  exact ⟨c, k, i, f, a, cell, h1, h2, h3, h4, h5, h6, h7, h8, h9, fun z => h10 (hAB _ z)⟩
theorem vx_L.word {C n d : String} {A : Nat → Prop} {s : State} {args : Array Value} (h : vx_L C n d A s s.heap) : (Cond.laysStatic C n d).before args s = true := by
  obtain ⟨c, k, i, f, a, cell, h1, h2, h3, h4, h5, h6, h7, h8, h9, -⟩ := h
  show (Cond.laysStatic C n d).holds args s none s [] = true
  exact Cond.laysStatic_of h1 h2 h3 h4 h5 h6 h7 h8 h9
/-- .. and what it holds: null or some reference -/
def vx_Zq (C n d : String) (A : Nat → Prop) (U : State) (H : Heap) : Prop := va_Zq C n d A U H ∧ vx_L C n d A U H
theorem vx_Zq.moved {C n d : String} {A : Nat → Prop} {u U : State} {H : Heap} (hvm : u.vm.Alike U.vm) (h : vx_Zq C n d A u H) : vx_Zq C n d A U H := ⟨va_Zq.moved hvm h.1, vx_L.moved hvm h.2⟩
theorem vx_Zq.kept {C n d : String} {A : Nat → Prop} {U : State} {H H1 : Heap} (h : vx_Zq C n d A U H) (hq : ∀ a : Nat, a < H.size → ¬ A a → H1[a]? = H[a]?) : vx_Zq C n d A U H1 := ⟨va_Zq.kept h.1 hq, vx_L.kept h.2 hq⟩
theorem vx_Zq.narrow {C n d : String} {A B : Nat → Prop} {U : State} {H : Heap} (h : vx_Zq C n d A U H) (hAB : ∀ q, B q → A q) : vx_Zq C n d B U H := ⟨va_Zq.narrow h.1 hAB, vx_L.narrow h.2 hAB⟩
theorem vx_Zqof {args : Array Value} {s : State} {C n d : String} {A : Nat → Prop} (hl : (Cond.laysStatic C n d).before args s = true) (hini : (Cond.initialized C).before args s = true) (h : (Cond.isRef (.static C n d)).before args s = true) (hA : ∀ a : Nat, a < s.heap.size → ¬ A a) : vx_Zq C n d A s s.heap := by
  refine ⟨va_Zqof hl hini h hA, ?_⟩
  obtain ⟨c, k, i, f, a, cell, h1, h2, h3, h4, h5, h6, h7, h8, h9⟩ := Cond.laysStatic_spec hl
  exact ⟨c, k, i, f, a, cell, h1, h2, h3, h4, h5, h6, h7, h8, h9, hA a (Array.getElem?_eq_some_iff.mp h5).1⟩
theorem vx_isRef {C n d : String} {v : Value} {A : Nat → Prop} {s : State} {args : Array Value} (h : va_Z C n d v A s s.heap) (hv : v.isRef = true) : (Cond.isRef (.static C n d)).before args s = true := by
  obtain ⟨cf, kf, fi, f, a, cell, h1, h2, h3, h4, h5, h6, h7, -⟩ := h
  have he : (Term.static C n d).eval args s none [] s = some v := by
    simp [Term.eval, State.fieldNamed?, h1, h2, h4, h5, h6, h7]
  simp only [Cond.before, Cond.holds, Cond.value, he]
  cases v <;> simp_all [Value.isRef]
theorem vx_isRefq {C n d : String} {A : Nat → Prop} {s : State} {args : Array Value} (h : va_Zq C n d A s s.heap) : (Cond.isRef (.static C n d)).before args s = true := by
  rcases h with h | ⟨t, h⟩
  · exact vx_isRef h rfl
  · exact vx_isRef h rfl
/-- the same frame, seen from here: as if the method were called anew in this heap -/
theorem vx_rebase {T : State} (X : Stand p l e R s m args below meth c T locs cells slots) {R' : Room} (hf : R'.frames ≤ R.frames) (hl : R'.locals ≤ R.locals) (hc : cells + R'.cells ≤ R.cells) (hs : slots + R'.slots ≤ R.slots) :
    Stand p l e R' ((T.setVm s.vm).setFrames (.invoking m args :: below)) m args below meth c T [] 0 0 := by
  have htop : (T.setVm s.vm).topJava?.isSome := X.here.top
  have hF : ((T.setVm s.vm).setFrames (.invoking m args :: below)).frames = .invoking m args :: below := State.frames_setFrames _ (State.cur_lt_of_top htop)
  obtain ⟨g₀, hg0⟩ := Option.isSome_iff_exists.mp htop
  obtain ⟨r, hr⟩ := State.topJava?_eq_some.mp hg0
  have hl9 : e.platform.stackLimits (T.setVm s.vm).me = e.platform.stackLimits s.me := X.limits
  have hb9 : (T.setVm s.vm).me.stackBytes = s.me.stackBytes := X.bytes
  refine ⟨X.admits, X.cas, X.clock, hF, ?_, X.hears, X.method, X.code, X.here, X.tail, X.warmed, ?_, ?_, ?_⟩
  · have h := X.room
    have hU : ((T.setVm s.vm).setFrames (.invoking m args :: below)).localsInUse = s.localsInUse := by
      rw [State.localsInUse_invoking hF (meth := meth) (c := c) X.method X.code, State.localsInUse_invoking X.frames X.method X.code]
    simp only [State.hasRoom, Bool.and_eq_true, decide_eq_true_eq] at h ⊢
    obtain ⟨⟨⟨⟨h1, h2, h3, h4, h5, h6⟩, h7⟩, h8⟩, h9⟩ := h
    rw [X.frames, List.length_cons] at h2 h3
    have q1 := X.heapSize
    have q2 := X.used
    simp only [hF, hU, List.length_cons, State.stackLimits_setFrames, State.stackBytes_setFrames, hl9, hb9]
    refine ⟨⟨⟨⟨by omega, by omega, by omega, by omega, by omega, h6⟩, ?_⟩, ?_⟩, X.book⟩
    · show T.heap.size + R'.cells ≤ e.platform.maxCells
      omega
    · show T.slotsUsed + R'.slots ≤ e.platform.maxSlots
      omega
  · rw [State.stackLimits_setFrames]; rfl
  · rw [State.stackBytes_setFrames]; rfl
  · refine ⟨?_, Nat.le_refl _, Nat.le_refl _, ?_, ?_, fun a c9 h9 => ⟨c9, h9, rfl, rfl, fun _ _ => rfl⟩⟩
    · obtain ⟨t, ht, -⟩ := State.frames_cons hr
      show T.setVm s.vm = { ((T.setVm s.vm).setFrames (.invoking m args :: below)).setFrames (T.setVm s.vm).frames with heap := T.heap, slotsUsed := T.slotsUsed }
      rw [State.setFrames_setFrames, State.setFrames_self ht]
      rfl
    · show T.slotsUsed = T.slotsUsed + ((T.heap.toList.drop T.heap.size).map (·.slots.size)).sum
      rw [List.drop_eq_nil_of_le (Nat.le_of_eq Array.length_toList)]
      rfl
    · show ((T.heap.toList.drop T.heap.size).map (·.slots.size)).sum ≤ 0
      rw [List.drop_eq_nil_of_le (Nat.le_of_eq Array.length_toList)]
      exact Nat.le_refl _
/-- 'throw new E()': new; dup; invokespecial; athrow -/
theorem vx_throw0 {cc : ByteArray} {pc : Nat} (hexec : p.tables.exec = Jvm.exec) (hb : c.code = cc) (hl : l.stackTraces = false) {own cls : String} {names : List String} {ik ic mc ms : Nat} {A : Nat → Prop}
    (hown : s.vm.findClass own = some m.cls) (hcls : Bundle.fit cls = true) (hnames : ∀ n ∈ names, Bundle.fit n = true)
    (hk : (Cond.classLink own ik cls).before args s = true) (hini : (Cond.initialized cls).before args s = true) (hat : ∀ w ∈ vx_at0 own ic cls names, w.before args s = true)
    (hgood : ∀ w ∈ Cond.classLink own ik cls :: Cond.initialized cls :: vx_at0 own ic cls names, vx_ot w = true)
    (hU : vx_Zq Bundle.tN "UNASSIGNED_STACK" Bundle.steD A s s.heap) (hN : vx_Zq Bundle.tN "SUPPRESSED_SENTINEL" Bundle.listD A s s.heap) (hS : va_S A s.heap H locs) (hsize : ls.size = c.maxLocals)
    (d0 : decode cc pc = .ok (.new ik, 3)) (d3 : decode cc (pc + 3) = .ok (.dup, 1)) (d4 : decode cc (pc + 4) = .ok (.invokespecial ic, 3)) (d7 : decode cc (pc + 7) = .ok (.athrow, 1))
    (hout : ∀ x ∈ c.exceptionTable.toList, covers x (pc + 7) = false)
    (hRframes : names.length + 3 < R.frames) (hRlocals : (rest.map fun v => v.category).sum + (13 * (names.length + 1) + 42) ≤ R.locals) (hRcells : cells + 1 ≤ R.cells) (hRslots : slots + 6 ≤ R.slots) (hlocks : meth.locks = false)
    (hx : ∀ t : State, s.vm.Alike t.vm → H.size ≤ t.heap.size → (∀ q : Nat, q < H.size → t.heap[q]? = H[q]?) → XC cls s t)
    (hf : ∀ z ∈ locs, free z.base) (hc : cells + 1 ≤ mc) (hs : slots + 6 ≤ ms) :
    W p l e R s m args below meth c H locs cells slots (vx_MQ below Qc XC args s mc ms free) (F0 m pc ls rest) := by
  intro T hT X
  have htr : e.platform.stackTraces = false := (show e.platform.stackTraces = l.stackTraces by rw [X.admits.platform]).trans hl
  have Y := vx_rebase X (R' := { frames := R.frames, locals := R.locals, cells := 1, slots := 6 }) (Nat.le_refl _) (Nat.le_refl _) hRcells hRslots
  obtain ⟨s', hA⟩ : ∃ z, z = (T.setVm s.vm).setFrames (.invoking m args :: below) := ⟨_, rfl⟩
  rw [← hA] at Y
  have hvm : s'.vm = s.vm := by rw [hA]; rfl
  have hhp : s'.heap = H := by rw [hA]; exact hT
  have hW0 : s.WarmedH s'.vm := by rw [hvm]; exact State.WarmedH.refl s
  have hat' : ∀ w ∈ vx_at0 own ic cls names, w.before args s' = true := fun w hw => vx_ot_at hW0 hvm.symm (hgood w (List.mem_cons_of_mem _ (List.mem_cons_of_mem _ hw))) (hat w hw)
  have hk' : (Cond.classLink own ik cls).before args s' = true := vx_ot_at hW0 hvm.symm (hgood _ List.mem_cons_self) hk
  have hini' : (Cond.initialized cls).before args s' = true := vx_ot_at hW0 hvm.symm (hgood _ (List.mem_cons_of_mem _ List.mem_cons_self)) hini
  have hU' : vx_Zq Bundle.tN "UNASSIGNED_STACK" Bundle.steD A s' s'.heap := by rw [hhp]; exact vx_Zq.moved hW0.alike (hU.kept hS.2.1)
  have hN' : vx_Zq Bundle.tN "SUPPRESSED_SENTINEL" Bundle.listD A s' s'.heap := by rw [hhp]; exact vx_Zq.moved hW0.alike (hN.kept hS.2.1)
  have h : ∀ w ∈ Bundle.ownAtoms0 own ic cls names, w.before args s' = true := vx_own hat' (vx_isRefq hU'.1) (vx_isRefq hN'.1) hU'.2.word hN'.2.word
  have hown' : s'.vm.findClass own = some m.cls := by rw [hvm]; exact hown
  have hins : (Cond.instantiable cls 6).before args s' = true := h _ (by simp [Bundle.ownAtoms0])
  obtain ⟨vm₁, cX, kX, hfX, hkX, -, -, X₁, st1⟩ := Y.newCold hexec (own := own) (C := cls) (index := ik) (n := 6) hown' hk' hins hini'
    (g := F0 m pc ls rest) rfl (by rw [hb]; exact d0) (Nat.le_refl _) (Nat.le_refl _)
  generalize hT1 : (T.setVm vm₁).pushCell { cls := cX, slots := kX.instanceTypes.map defaultValue, vm := .none } = T1 at X₁ st1
  have hcat : (Value.ref T.heap.size).category = 1 := rfl
  have hcellA : T1.heap[T.heap.size]? = some (freshCell cX kX) := by rw [← hT1]; exact State.heap_pushCell_size _ _
  have d3' : decode c.code (pc + 3) = .ok (.dup, 1) := by rw [hb]; exact d3
  obtain ⟨U, hsteps, hrun, hend, hW, hsame, ce, hce, hO⟩ := X₁.ctorThrow0 hexec htr (own := own) (cls := cls) (names := names) (ic := ic) hown' hcls hnames h (fun x hx => nomatch hx) hfX hkX hcellA (by rw [hhp, hT]; exact Nat.le_refl _)
    (g := { method := m, pc := pc + 4, locals := ls, stack := .ref T.heap.size :: .ref T.heap.size :: rest, locked := none }) rfl hsize rfl rfl (rest := rest) rfl
    (by rw [hb]; exact d4) (by rw [hb]; exact d7) hout hRframes (by simp only [List.map_cons, List.sum_cons, hcat]; omega) hlocks
  obtain ⟨f1, f2⟩ := vx_frame hsame
  rw [hhp] at f1 f2
  have hWs : s.WarmedH U.vm := State.WarmedH.trans hW0 hW
  have hcl : s.vm.findClass cls = some ce.cls := by
    have h9 := hO.cls
    rw [hvm] at h9
    exact h9
  have hall : s.sameButNew ({ U with vm := s.vm } : State) locs mc ms := by
    subst hA
    obtain ⟨e1, e2⟩ := hsame
    rw [State.setFrames_setFrames] at e1
    have h2 : (T.setVm s.vm).sameButNew ({ U with vm := s.vm } : State) [] (0 + 1) (0 + 6) := ⟨e1, e2⟩
    have h3 := X.same.trans h2
    rw [List.append_nil] at h3
    exact h3.mono hc hs
  refine ⟨U, ?_, .threw T.heap.size, hrun, hend, Or.inr ⟨T.heap.size, rfl, cls, ce, locs, hx U hWs.alike f1 (fun q hq => f2 q hq (fun z hz => nomatch hz)), hce, hO.vm, hcl, hWs, hall, hf⟩⟩
  refine st1 _ ?_
  show Steps p.tables e below (T1.setTop { method := m, pc := pc + 3, locals := ls, stack := .ref T.heap.size :: rest, locked := none }) _
  jvm_step X₁.here [X₁.here.top, hexec, d3', Value.category]
  exact hsteps
/-- 'throw new E("text")': new; dup; ldc; invokespecial; athrow -/
theorem vx_throwS {cc : ByteArray} {pc : Nat} (hexec : p.tables.exec = Jvm.exec) (hb : c.code = cc) (hl : l.stackTraces = false) {own cls text : String} {names : List String} {ik is ic mc ms sa : Nat} {A : Nat → Prop}
    (hown : s.vm.findClass own = some m.cls) (hcls : Bundle.fit cls = true) (hnames : ∀ n ∈ names, Bundle.fit n = true)
    (hk : (Cond.classLink own ik cls).before args s = true) (hini : (Cond.initialized cls).before args s = true) (hstr : vk_R own is text sa s) (hat : ∀ w ∈ vx_atS own ic cls names, w.before args s = true)
    (hgood : ∀ w ∈ Cond.classLink own ik cls :: Cond.initialized cls :: vx_atS own ic cls names, vx_ot w = true)
    (hU : vx_Zq Bundle.tN "UNASSIGNED_STACK" Bundle.steD A s s.heap) (hN : vx_Zq Bundle.tN "SUPPRESSED_SENTINEL" Bundle.listD A s s.heap) (hS : va_S A s.heap H locs) (hsize : ls.size = c.maxLocals)
    (d0 : decode cc pc = .ok (.new ik, 3)) (d3 : decode cc (pc + 3) = .ok (.dup, 1)) (d4 : decode cc (pc + 4) = .ok (.ldc is, 2)) (d6 : decode cc (pc + 6) = .ok (.invokespecial ic, 3)) (d9 : decode cc (pc + 9) = .ok (.athrow, 1))
    (hout : ∀ x ∈ c.exceptionTable.toList, covers x (pc + 9) = false)
    (hRframes : names.length + 3 < R.frames) (hRlocals : (rest.map fun v => v.category).sum + (13 * (names.length + 1) + 43) ≤ R.locals) (hRcells : cells + 1 ≤ R.cells) (hRslots : slots + 6 ≤ R.slots) (hlocks : meth.locks = false)
    (hx : ∀ t : State, s.vm.Alike t.vm → H.size ≤ t.heap.size → (∀ q : Nat, q < H.size → t.heap[q]? = H[q]?) → XC cls s t)
    (hf : ∀ z ∈ locs, free z.base) (hc : cells + 1 ≤ mc) (hs : slots + 6 ≤ ms) :
    W p l e R s m args below meth c H locs cells slots (vx_MQ below Qc XC args s mc ms free) (F0 m pc ls rest) := by
  intro T hT X
  have htr : e.platform.stackTraces = false := (show e.platform.stackTraces = l.stackTraces by rw [X.admits.platform]).trans hl
  have Y := vx_rebase X (R' := { frames := R.frames, locals := R.locals, cells := 1, slots := 6 }) (Nat.le_refl _) (Nat.le_refl _) hRcells hRslots
  obtain ⟨s', hA⟩ : ∃ z, z = (T.setVm s.vm).setFrames (.invoking m args :: below) := ⟨_, rfl⟩
  rw [← hA] at Y
  have hvm : s'.vm = s.vm := by rw [hA]; rfl
  have hhp : s'.heap = H := by rw [hA]; exact hT
  have hW0 : s.WarmedH s'.vm := by rw [hvm]; exact State.WarmedH.refl s
  have hat' : ∀ w ∈ vx_atS own ic cls names, w.before args s' = true := fun w hw => vx_ot_at hW0 hvm.symm (hgood w (List.mem_cons_of_mem _ (List.mem_cons_of_mem _ hw))) (hat w hw)
  have hk' : (Cond.classLink own ik cls).before args s' = true := vx_ot_at hW0 hvm.symm (hgood _ List.mem_cons_self) hk
  have hini' : (Cond.initialized cls).before args s' = true := vx_ot_at hW0 hvm.symm (hgood _ (List.mem_cons_of_mem _ List.mem_cons_self)) hini
  have hU' : vx_Zq Bundle.tN "UNASSIGNED_STACK" Bundle.steD A s' s'.heap := by rw [hhp]; exact vx_Zq.moved hW0.alike (hU.kept hS.2.1)
  have hN' : vx_Zq Bundle.tN "SUPPRESSED_SENTINEL" Bundle.listD A s' s'.heap := by rw [hhp]; exact vx_Zq.moved hW0.alike (hN.kept hS.2.1)
  have h : ∀ w ∈ Bundle.ownAtoms own ic cls names, w.before args s' = true := vx_own hat' (vx_isRefq hU'.1) (vx_isRefq hN'.1) hU'.2.word hN'.2.word
  have hown' : s'.vm.findClass own = some m.cls := by rw [hvm]; exact hown
  have hins : (Cond.instantiable cls 6).before args s' = true := h _ (by simp [Bundle.ownAtoms])
  obtain ⟨vm₁, cX, kX, hfX, hkX, -, -, X₁, st1⟩ := Y.newCold hexec (own := own) (C := cls) (index := ik) (n := 6) hown' hk' hins hini'
    (g := F0 m pc ls rest) rfl (by rw [hb]; exact d0) (Nat.le_refl _) (Nat.le_refl _)
  generalize hT1 : (T.setVm vm₁).pushCell { cls := cX, slots := kX.instanceTypes.map defaultValue, vm := .none } = T1 at X₁ st1
  have hcat : (Value.ref T.heap.size).category = 1 := rfl
  have hcellA : T1.heap[T.heap.size]? = some (freshCell cX kX) := by rw [← hT1]; exact State.heap_pushCell_size _ _
  have d3' : decode c.code (pc + 3) = .ok (.dup, 1) := by rw [hb]; exact d3
  have d4' : decode c.code (pc + 4) = .ok (.ldc is, 2) := by rw [hb]; exact d4
  have hstr' : vk_R own is text sa s' := vk_R.warm hW0 hstr
  obtain ⟨U, hsteps, hrun, hend, hW, hsame, ce, hce, hO⟩ := X₁.ctorThrowS hexec htr (own := own) (cls := cls) (names := names) (ic := ic) hown' hcls hnames h (fun x hx => nomatch hx) hfX hkX hcellA (by rw [hhp, hT]; exact Nat.le_refl _) (msg := .ref sa) rfl
    (g := { method := m, pc := pc + 6, locals := ls, stack := .ref sa :: .ref T.heap.size :: .ref T.heap.size :: rest, locked := none }) rfl hsize rfl rfl (rest := rest) rfl
    (by rw [hb]; exact d6) (by rw [hb]; exact d9) hout hRframes (by simp only [List.map_cons, List.sum_cons, hcat]; omega) hlocks
  obtain ⟨f1, f2⟩ := vx_frame hsame
  rw [hhp] at f1 f2
  have hWs : s.WarmedH U.vm := State.WarmedH.trans hW0 hW
  have hcl : s.vm.findClass cls = some ce.cls := by
    have h9 := hO.cls
    rw [hvm] at h9
    exact h9
  have hall : s.sameButNew ({ U with vm := s.vm } : State) locs mc ms := by
    subst hA
    obtain ⟨e1, e2⟩ := hsame
    rw [State.setFrames_setFrames] at e1
    have h2 : (T.setVm s.vm).sameButNew ({ U with vm := s.vm } : State) [] (0 + 1) (0 + 6) := ⟨e1, e2⟩
    have h3 := X.same.trans h2
    rw [List.append_nil] at h3
    exact h3.mono hc hs
  refine ⟨U, ?_, .threw T.heap.size, hrun, hend, Or.inr ⟨T.heap.size, rfl, cls, ce, locs, hx U hWs.alike f1 (fun q hq => f2 q hq (fun z hz => nomatch hz)), hce, hO.vm, hcl, hWs, hall, hf⟩⟩
  refine st1 _ ?_
  show Steps p.tables e below (T1.setTop { method := m, pc := pc + 3, locals := ls, stack := .ref T.heap.size :: rest, locked := none }) _
  jvm_step X₁.here [X₁.here.top, hexec, d3', Value.category]
  exact X₁.ldcString hexec (own := own) (text := text) (index := is) (a := sa) hown' hstr'.1 hstr'.2
    (g := { method := m, pc := pc + 4, locals := ls, stack := .ref T.heap.size :: .ref T.heap.size :: rest, locked := none }) rfl d4' _ hsteps
/-- 'throw new E("text")', the text by a wide index -/
theorem vx_throwSW {cc : ByteArray} {pc : Nat} (hexec : p.tables.exec = Jvm.exec) (hb : c.code = cc) (hl : l.stackTraces = false) {own cls text : String} {names : List String} {ik is ic mc ms sa : Nat} {A : Nat → Prop}
    (hown : s.vm.findClass own = some m.cls) (hcls : Bundle.fit cls = true) (hnames : ∀ n ∈ names, Bundle.fit n = true)
    (hk : (Cond.classLink own ik cls).before args s = true) (hini : (Cond.initialized cls).before args s = true) (hstr : vk_R own is text sa s) (hat : ∀ w ∈ vx_atS own ic cls names, w.before args s = true)
    (hgood : ∀ w ∈ Cond.classLink own ik cls :: Cond.initialized cls :: vx_atS own ic cls names, vx_ot w = true)
    (hU : vx_Zq Bundle.tN "UNASSIGNED_STACK" Bundle.steD A s s.heap) (hN : vx_Zq Bundle.tN "SUPPRESSED_SENTINEL" Bundle.listD A s s.heap) (hS : va_S A s.heap H locs) (hsize : ls.size = c.maxLocals)
    (d0 : decode cc pc = .ok (.new ik, 3)) (d3 : decode cc (pc + 3) = .ok (.dup, 1)) (d4 : decode cc (pc + 4) = .ok (.ldc_w is, 3)) (d7 : decode cc (pc + 7) = .ok (.invokespecial ic, 3)) (d10 : decode cc (pc + 10) = .ok (.athrow, 1))
    (hout : ∀ x ∈ c.exceptionTable.toList, covers x (pc + 10) = false)
    (hRframes : names.length + 3 < R.frames) (hRlocals : (rest.map fun v => v.category).sum + (13 * (names.length + 1) + 43) ≤ R.locals) (hRcells : cells + 1 ≤ R.cells) (hRslots : slots + 6 ≤ R.slots) (hlocks : meth.locks = false)
    (hx : ∀ t : State, s.vm.Alike t.vm → H.size ≤ t.heap.size → (∀ q : Nat, q < H.size → t.heap[q]? = H[q]?) → XC cls s t)
    (hf : ∀ z ∈ locs, free z.base) (hc : cells + 1 ≤ mc) (hs : slots + 6 ≤ ms) :
    W p l e R s m args below meth c H locs cells slots (vx_MQ below Qc XC args s mc ms free) (F0 m pc ls rest) := by
  intro T hT X
  have htr : e.platform.stackTraces = false := (show e.platform.stackTraces = l.stackTraces by rw [X.admits.platform]).trans hl
  have Y := vx_rebase X (R' := { frames := R.frames, locals := R.locals, cells := 1, slots := 6 }) (Nat.le_refl _) (Nat.le_refl _) hRcells hRslots
  obtain ⟨s', hA⟩ : ∃ z, z = (T.setVm s.vm).setFrames (.invoking m args :: below) := ⟨_, rfl⟩
  rw [← hA] at Y
  have hvm : s'.vm = s.vm := by rw [hA]; rfl
  have hhp : s'.heap = H := by rw [hA]; exact hT
  have hW0 : s.WarmedH s'.vm := by rw [hvm]; exact State.WarmedH.refl s
  have hat' : ∀ w ∈ vx_atS own ic cls names, w.before args s' = true := fun w hw => vx_ot_at hW0 hvm.symm (hgood w (List.mem_cons_of_mem _ (List.mem_cons_of_mem _ hw))) (hat w hw)
  have hk' : (Cond.classLink own ik cls).before args s' = true := vx_ot_at hW0 hvm.symm (hgood _ List.mem_cons_self) hk
  have hini' : (Cond.initialized cls).before args s' = true := vx_ot_at hW0 hvm.symm (hgood _ (List.mem_cons_of_mem _ List.mem_cons_self)) hini
  have hU' : vx_Zq Bundle.tN "UNASSIGNED_STACK" Bundle.steD A s' s'.heap := by rw [hhp]; exact vx_Zq.moved hW0.alike (hU.kept hS.2.1)
  have hN' : vx_Zq Bundle.tN "SUPPRESSED_SENTINEL" Bundle.listD A s' s'.heap := by rw [hhp]; exact vx_Zq.moved hW0.alike (hN.kept hS.2.1)
  have h : ∀ w ∈ Bundle.ownAtoms own ic cls names, w.before args s' = true := vx_own hat' (vx_isRefq hU'.1) (vx_isRefq hN'.1) hU'.2.word hN'.2.word
  have hown' : s'.vm.findClass own = some m.cls := by rw [hvm]; exact hown
  have hins : (Cond.instantiable cls 6).before args s' = true := h _ (by simp [Bundle.ownAtoms])
  obtain ⟨vm₁, cX, kX, hfX, hkX, -, -, X₁, st1⟩ := Y.newCold hexec (own := own) (C := cls) (index := ik) (n := 6) hown' hk' hins hini'
    (g := F0 m pc ls rest) rfl (by rw [hb]; exact d0) (Nat.le_refl _) (Nat.le_refl _)
  generalize hT1 : (T.setVm vm₁).pushCell { cls := cX, slots := kX.instanceTypes.map defaultValue, vm := .none } = T1 at X₁ st1
  have hcat : (Value.ref T.heap.size).category = 1 := rfl
  have hcellA : T1.heap[T.heap.size]? = some (freshCell cX kX) := by rw [← hT1]; exact State.heap_pushCell_size _ _
  have d3' : decode c.code (pc + 3) = .ok (.dup, 1) := by rw [hb]; exact d3
  have d4' : decode c.code (pc + 4) = .ok (.ldc_w is, 3) := by rw [hb]; exact d4
  have hstr' : vk_R own is text sa s' := vk_R.warm hW0 hstr
  obtain ⟨U, hsteps, hrun, hend, hW, hsame, ce, hce, hO⟩ := X₁.ctorThrowS hexec htr (own := own) (cls := cls) (names := names) (ic := ic) hown' hcls hnames h (fun x hx => nomatch hx) hfX hkX hcellA (by rw [hhp, hT]; exact Nat.le_refl _) (msg := .ref sa) rfl
    (g := { method := m, pc := pc + 7, locals := ls, stack := .ref sa :: .ref T.heap.size :: .ref T.heap.size :: rest, locked := none }) rfl hsize rfl rfl (rest := rest) rfl
    (by rw [hb]; exact d7) (by rw [hb]; exact d10) hout hRframes (by simp only [List.map_cons, List.sum_cons, hcat]; omega) hlocks
  obtain ⟨f1, f2⟩ := vx_frame hsame
  rw [hhp] at f1 f2
  have hWs : s.WarmedH U.vm := State.WarmedH.trans hW0 hW
  have hcl : s.vm.findClass cls = some ce.cls := by
    have h9 := hO.cls
    rw [hvm] at h9
    exact h9
  have hall : s.sameButNew ({ U with vm := s.vm } : State) locs mc ms := by
    subst hA
    obtain ⟨e1, e2⟩ := hsame
    rw [State.setFrames_setFrames] at e1
    have h2 : (T.setVm s.vm).sameButNew ({ U with vm := s.vm } : State) [] (0 + 1) (0 + 6) := ⟨e1, e2⟩
    have h3 := X.same.trans h2
    rw [List.append_nil] at h3
    exact h3.mono hc hs
  refine ⟨U, ?_, .threw T.heap.size, hrun, hend, Or.inr ⟨T.heap.size, rfl, cls, ce, locs, hx U hWs.alike f1 (fun q hq => f2 q hq (fun z hz => nomatch hz)), hce, hO.vm, hcl, hWs, hall, hf⟩⟩
  refine st1 _ ?_
  show Steps p.tables e below (T1.setTop { method := m, pc := pc + 3, locals := ls, stack := .ref T.heap.size :: rest, locked := none }) _
  jvm_step X₁.here [X₁.here.top, hexec, d3', Value.category]
  exact X₁.ldcStringW hexec (own := own) (text := text) (index := is) (a := sa) hown' hstr'.1 hstr'.2
    (g := { method := m, pc := pc + 4, locals := ls, stack := .ref T.heap.size :: .ref T.heap.size :: rest, locked := none }) rfl d4' _ hsteps
end Ends
section Bodies
variable {l : Launch}
theorem vx_ofW {y : MethodName} {ws ws' : List Cond} {rm : Room} {Pc : Array Value → State → Prop} {Qc : Array Value → State → Outcome → State → Prop} {XC : String → State → State → Prop} {mc ms : Nat} {free : Addr → Prop} {cc : ByteArray} {maxL : Nat} {ret : Option FieldType}
    (hy : plainName y.cls = true) (hw : ws = Cond.code y cc maxL ret :: ws')
    (body : ∀ p e s m args below meth c s₁, BodyLoose p l y (headSpec ws rm) cc maxL ret e s m args below meth c s₁ → c.maxLocals = maxL → (∀ x ∈ c.exceptionTable.toList, False) → Pc args s →
      W p l e (headSpec ws rm).room s m args below meth c s.heap [] 0 0 (vx_MQ below Qc XC args s mc ms free) (entryFrame m args maxL)) : vx_Met l y ws rm Pc Qc XC mc ms free := by
  refine MetFree.of_bodyS (code := cc) (maxLocals := maxL) (ret := ret) hy ?_ ?_
  · intro args s m h hn
    obtain ⟨meth, c, h1, h2, h3, h4, h5, h6, -, -⟩ := Cond.code_spec hn (atoms_spec (ws := ws) h _ (by rw [hw]; exact List.mem_cons_self))
    exact ⟨meth, c, h1, h2, h3, h4, h5, h6⟩
  · intro p e s m args below meth c s₁ B hml hP _
    have hh0 : s₁.heap = s.heap := by rw [B.state]; rfl
    have ht : ∀ x ∈ c.exceptionTable.toList, False := by
      obtain ⟨meth9, c9, h1, h2, -, -, -, -, h7, -⟩ := Cond.code_spec B.named (atoms_spec (ws := ws) B.pre _ (by rw [hw]; exact List.mem_cons_self))
      cases Option.some.inj (h1.symm.trans B.method)
      cases Option.some.inj (h2.symm.trans (Stand.of_body B).code)
      intro x hx
      rw [Array.isEmpty_iff.mp h7] at hx
      cases hx
    obtain ⟨t, a1, o, b1, b2, b3⟩ := body p e s m args below meth c s₁ B hml ht hP s₁ hh0 (Stand.of_body B)
    exact ⟨t, o, a1, b1, b2, b3⟩
/-- the table of a body with handlers -/
theorem vx_table {p : Program} {x y : MethodName} {S : Spec} {cc bytes : ByteArray} {maxL maxL' : Nat} {ret ret' : Option FieldType} {e : Env} {s s₁ : State} {m : MethodId} {args : Array Value} {below : List Frame} {meth : Method} {c : Code} {hh : List (Nat × Nat × Nat × Nat)}
    (B : BodyLoose p l y S cc maxL ret e s m args below meth c s₁) (h : (Cond.codeWith y bytes maxL' ret' hh).before args s = true) : c.exceptionTable.toList = tableOf hh := by
  obtain ⟨m9, meth9, c9, hn9, h1, h2, -, -, h6, -⟩ := Cond.codeWith_spec h
  cases Option.some.inj (hn9.symm.trans B.named)
  cases Option.some.inj (h1.symm.trans B.method)
  cases Option.some.inj (h2.symm.trans (Stand.of_body B).code)
  rw [← h6, table_eq]
end Bodies
end VXA
/-! ===== END ===== -/
/-! ===== BEGIN a static call of a method with an exception table ===== -/
section VXS
variable {p : Program} {l : Launch} {e : Env} {R : Room} {s : State} {m : MethodId} {args : Array Value} {below : List Frame} {meth : Method} {c : Code} {T : State} {H : Heap} {locs : List Loc} {cells slots : Nat}
abbrev vx_CSW (R : Room) (s : State) (args : Array Value) (own : String) (index : Nat) (y : MethodName) (bytes : ByteArray) (maxL : Nat) (ret : Option FieldType) (hh : List (Nat × Nat × Nat × Nat)) (ws : List Cond) (rm : Room) (mc ms n : Nat) : Prop :=
  (rm.cells = mc ∧ rm.slots = ms ∧ rm.frames + 1 ≤ R.frames ∧ 8 + (maxL + 11) + rm.locals ≤ R.locals ∧ (∀ w ∈ ws, ∀ (a' : Array Value) (U : State), s.WarmedH U.vm → w.before a' U = true) ∧ Cond.codeWith y bytes maxL ret hh ∈ ws) ∧
  (Cond.codeWith y bytes maxL ret hh).before args s = true ∧ (Cond.initialized y.cls).before args s = true ∧ (y.cls ≠ "java/lang/invoke/MethodHandle" ∧ y.cls ≠ "java/lang/invoke/VarHandle") ∧
  (∀ sig, parseMethodDescriptor y.desc = some sig → n = sig.parameters.length) ∧ (Cond.methodLink own index y).before args s = true ∧ (Cond.static y).before args s = true
theorem vx_cwSW {own : String} {index maxL mc ms : Nat} {y : MethodName} {bytes : ByteArray} {ret : Option FieldType} {hh : List (Nat × Nat × Nat × Nat)} {Ts ws ws' : List Cond} {rm : Room} (n : Nat) (ht : ∀ w ∈ Ts, w.before args s = true) (hT : GoodIn Ts (va_wsS own index y ws)) (hw : ws = Cond.codeWith y bytes maxL ret hh :: ws') (hrc : rm.cells = mc) (hrs : rm.slots = ms)
    (hd : y.cls ≠ "java/lang/invoke/MethodHandle" ∧ y.cls ≠ "java/lang/invoke/VarHandle" ∧ (parseMethodDescriptor y.desc).map (fun d => d.parameters.length) = some n) (hR : rm.frames + 1 ≤ R.frames ∧ 8 + (maxL + 11) + rm.locals ≤ R.locals) :
    vx_CSW R s args own index y bytes maxL ret hh ws rm mc ms n := by
  have ok : ∀ w ∈ va_wsS own index y ws, w.before args s = true := fun w h => ht w (hT w h).1
  have hG : GoodIn Ts ws := fun w h => hT w (by unfold va_wsS; exact List.mem_append_right _ h)
  have hc : Cond.codeWith y bytes maxL ret hh ∈ ws := by rw [hw]; exact List.mem_cons_self
  refine ⟨⟨hrc, hrs, hR.1, hR.2, pay_in ht hG, hc⟩, ht _ (hG _ hc).1, ok _ (by simp [va_wsS]), ⟨hd.1, hd.2.1⟩, fun sig h => ?_, ok _ (by simp [va_wsS]), ok _ (by simp [va_wsS])⟩
  have h2 := hd.2.2
  rw [h] at h2
  exact (Option.some.inj h2).symm
theorem vx_callSW (X : Stand p l e R s m args below meth c T locs cells slots) (hexec : p.tables.exec = Jvm.exec) {own : String} {index : Nat} {y : MethodName} {bytes : ByteArray} {maxL : Nat} {ret : Option FieldType} {hh : List (Nat × Nat × Nat × Nat)}
    (hown : s.vm.findClass own = some m.cls) (hlink : (Cond.methodLink own index y).before args s = true) (hstat : (Cond.static y).before args s = true) (hinit : (Cond.initialized y.cls).before args s = true)
    (hcode : (Cond.codeWith y bytes maxL ret hh).before args s = true) (hy : y.cls ≠ "java/lang/invoke/MethodHandle" ∧ y.cls ≠ "java/lang/invoke/VarHandle")
    {W9 : Nat} {Pre : Pt → Array Value → Prop} {Post : Pt → Array Value → Option Value → Pt → Prop} (hK : Back l R p e below s args y 3 W9 Pre Post)
    {g : JFrame} (hg : g.method = m) (hsize : g.locals.size = c.maxLocals) {argsL rest : List Value} (hlen : ∀ sig, parseMethodDescriptor y.desc = some sig → argsL.length = sig.parameters.length)
    (hstack : g.stack = argsL.reverse ++ rest) (hW : 2 * g.monitorRoom + (rest.map fun v => v.category).sum ≤ W9) (hdg : decode c.code g.pc = .ok (.invokestatic index, 3))
    (hpre : ∀ vm₁, s.WarmedH vm₁ → Pre ⟨T.setVm vm₁, locs, cells, slots⟩ argsL.toArray) :
    ∃ (v : Option Value) (vm₁ : Vm) (B : Pt), s.WarmedH vm₁ ∧ Stand p l e R s m args below meth c B.U B.locs B.cells B.slots ∧ Post ⟨T.setVm vm₁, locs, cells, slots⟩ argsL.toArray v B ∧
      ∀ target, Steps p.tables e below (B.U.setTop { g with pc := g.pc + 3, stack := v.toList ++ rest }) target → Steps p.tables e below (T.setTop g) target := by
  obtain ⟨mk, methM, cM, hnamed, hmethM, -, -, -, -, -, -, hsigM⟩ := Cond.codeWith_spec hcode
  have hstatic : methM.isStatic = true := Cond.static_spec hnamed hmethM hstat
  obtain ⟨kP, hkP, -⟩ := className_of_methodNamed hnamed
  have hinitP : kP.init = .initialized := Cond.initialized_spec (findClass_of_methodNamed hnamed) hkP hinit
  obtain ⟨vm₁, X₁, hstep₁⟩ := X.invokestatic hexec hown hlink hnamed hmethM hstatic hkP hinitP hy (g := g) hg (argsL := argsL) (rest := rest) (hlen _ hsigM) hstack hdg
  obtain ⟨v, B, X', hpost, hsteps⟩ := hK m meth c ⟨T.setVm vm₁, locs, cells, slots⟩ { g with stack := rest } (.invokestatic index) mk argsL.toArray X₁ hg hsize hdg hW (X₁.named hnamed) (hpre vm₁ X₁.warmed)
  exact ⟨v, vm₁, B, X₁.warmed, X', hpost, fun target h => hstep₁ _ fun acts => by rw [doInvoke_state]; exact hsteps.trans h⟩
theorem vx_runSW {y : MethodName} {bytes cc : ByteArray} {maxL nL mc ms n index : Nat} {ret : Option FieldType} {hh : List (Nat × Nat × Nat × Nat)} {ws : List Cond} {rm : Room} {Pc : Array Value → State → Prop} {Qc : Array Value → State → Outcome → State → Prop} {free : Addr → Prop} {Ts : List Cond} {own : String} {As rest : List Value} {g : JFrame}
    (S : CallFix p m c cc nL s args Ts own) (hM : Met l y ws rm Pc Qc mc ms free) (cw : vx_CSW R s args own index y bytes maxL ret hh ws rm mc ms n) (hp : PreS s H Pc As)
    (hg : g.method = m) (hn : As.length = n) (hsize : g.locals.size = nL) (hstack : g.stack = As.reverse ++ rest) (hW : 2 * g.monitorRoom + (rest.map fun v => v.category).sum ≤ 8) (hdg : decode cc g.pc = .ok (.invokestatic index, 3)) (hf : cells + mc ≤ R.cells ∧ slots + ms ≤ R.slots) :
    va_Run p l e R s m args below meth c H locs cells slots mc ms g rest (Qc As.toArray) (free) := by
  obtain ⟨⟨hrc, hrs, hfr, hlo, hws, hcw⟩, hcode, hini, hy, hlen, hl, hstt⟩ := cw
  have hK : Back l R p e below s args y 3 8 (PreOf R mc ms Pc) (PostOf Qc mc ms free) := va_backW (hh := hh) (bytes := bytes) (maxL := maxL) (ret := ret) hM hp.1 hrc hrs hfr hlo hws hcw (fun a' U hW => word_at hW (Or.inl (by first | rfl | simp [Cond.onTables, Cond.keeps, Cond.steady])) hini)
  obtain ⟨hx, hb, hml, ho, -⟩ := S
  intro T hT X
  obtain ⟨v, vm₁, ⟨U', l2, c2, s2⟩, hW₁, X', ⟨g', mk, t, L, e1, e2, hq, h1, hL, h2, h3⟩, st⟩ := vx_callSW X hx (hh := hh) (bytes := bytes) (maxL := maxL) (ret := ret) ho hl hstt hini hcode hy hK hg (hsize.trans hml.symm) (argsL := As) (rest := rest) (fun sig h => hn.trans (hlen sig h)) hstack hW (by rw [hb]; exact hdg)
    (fun vm₁ hW₁ => ⟨hf.1, hf.2, hp.2 (T.setVm vm₁) hT hW₁⟩)
  dsimp only [Pt.U, Pt.locs, Pt.cells, Pt.slots] at X' e1 e2 h1 h2 h3 st
  subst h1; subst h2; subst h3
  exact ⟨v, (T.setVm vm₁).calling g' mk As.toArray, t, U', L, hT, X', hL, e1, e2, hq, st⟩
/-- not caught here, past rows that name other classes: it goes on to the caller -/
theorem vx_outP {p : Program} {l : Launch} {e : Env} {R : Room} {s : State} {m : MethodId} {args : Array Value} {below : List Frame} {meth : Method} {c : Code} {H : Heap} {locs : List Loc} {cells slots : Nat} {free : Addr → Prop} {ls : Array Slot} {rest : List Value} {Qc : Array Value → State → Outcome → State → Prop} {XC : String → State → State → Prop}
    {pc : Nat} {own E : String} {ce : Cell} {q : Addr} {mc ms : Nat} (hown : s.vm.findClass own = some m.cls) (hlocks : meth.locks = false)
    (hpass : ∀ z ∈ c.exceptionTable.toList, covers z pc = false ∨ (z.catchType ≠ 0 ∧ ∃ nm : String, (Cond.classLink own z.catchType nm).before args s = true ∧ va_Nc E nm s)) (hcell : H[q]? = some ce) (hv : ce.vm = .none) (hcl : s.vm.findClass E = some ce.cls)
    (hx : ∀ t : State, t.heap = H → s.vm.Alike t.vm → XC E s t) (hf : ∀ z ∈ locs, free z.base) (hc : cells ≤ mc) (hs : slots ≤ ms) :
    vx_W p l e R s m args below meth c H locs cells slots (vx_MQ below Qc XC args s mc ms free) (F0 m pc ls rest) q := by
  intro T hT X
  have hpl : e.platform.magicAccessors = ({} : Platform).magicAccessors := by rw [X.admits.platform]
  obtain ⟨vm', hW', X', st⟩ := X.outThrough hlocks q (g := F0 m pc ls rest) rfl rfl rfl (cell := ce) (by rw [hT]; exact hcell) (by rw [hv]; rfl)
    (by obtain ⟨k9, h9, -⟩ := Vm.findClass_spec hcl; exact ⟨k9, h9⟩) (fun z hz => by
      rcases hpass z hz with h | ⟨hz0, nm, hl1, hn1⟩
      · exact Or.inl h
      · obtain ⟨c6, hc6, hcl6⟩ := Cond.classLink_spec hown hl1 e.platform hpl
        obtain ⟨a8, b8, h1, h2, h3⟩ := hn1
        cases Option.some.inj (h1.symm.trans hcl)
        cases Option.some.inj (h2.symm.trans hc6)
        exact Or.inr ⟨hz0, _, hcl6, h3⟩)
  obtain ⟨g₀, hfr⟩ := X'.frames_eq
  have hcell9 : ((T.setVm vm').setFrames (.throwing q :: below)).heap[q]? = some ce := by
    show T.heap[q]? = some ce
    rw [hT]; exact hcell
  have hend : Ended ((T.setVm vm').setFrames (.throwing q :: below)) below (.threw q) := State.frames_setFrames _ (State.cur_lt_of_frames hfr)
  refine ⟨(T.setVm vm').setFrames (.throwing q :: below), ?_, .threw q, X'.here.running, hend, Or.inr ⟨q, rfl, E, ce, locs, hx _ hT (X'.ends _).1.alike, hcell9, hv, hcl, (X'.ends _).1, (X'.ends _).2.mono hc hs, hf⟩⟩
  rw [X.pushThrowing_eq]
  exact st
/-- a thing of a world lies in the heap -/
theorem vx_lt {D : va_G} {cl : List vw_C} {ws : va_W} {H1 : Heap} (h : va_P D cl ws H1) {k : Nat} {q : Nat × va_E} (hk : ws[k]? = some q) : q.1 < H1.size := (h k q hk).lt
end VXS
/-! ===== END ===== -/
/-! ===== BEGIN methods with a table of their own: called by a name, returning or throwing ===== -/
section VXH
/-! vx_backW, vx_callVX, vx_callSX, vx_callVW, vx_runVW, vx_runVX, vx_runSX, vx_ofWH follow the same proofs as their sisters above (Free/Laws.lean, Shelf42/LK1.lean); vx_outP calls Shelf42/NT130.lean (outThrough). -/
section
variable {l : Launch} {R : Room} {p : Program} {e : Env} {below : List Frame} {s : State} {sargs : Array Value} {y : MethodName} {len W9 : Nat}
theorem vx_backW {ws : List Cond} {rm : Room} {Pc : Array Value → State → Prop} {Qc : Array Value → State → Outcome → State → Prop} {XC : String → State → State → Prop} {mc ms : Nat} {free : Addr → Prop} {bytes : ByteArray} {maxL : Nat} {ret : Option FieldType} {hh : List (Nat × Nat × Nat × Nat)}
    (hM : vx_Met l y ws rm Pc Qc XC mc ms free) (hblind : FrameBlind Pc) (hrc : rm.cells = mc) (hrs : rm.slots = ms)
    (hframes : rm.frames + 1 ≤ R.frames) (hlocals : W9 + (maxL + 11) + rm.locals ≤ R.locals)
    (hws : ∀ w ∈ ws, ∀ a' U, s.WarmedH U.vm → w.before a' U = true) (hcode : Cond.codeWith y bytes maxL ret hh ∈ ws) (hinit : ∀ a' U, s.WarmedH U.vm → (Cond.initialized y.cls).before a' U = true) :
    vx_Back l R p e below s sargs y len W9 (PreOf R mc ms Pc) (PostOf Qc mc ms free) (vx_Post XC mc ms free) := by
  intro m meth c A g ig mk a X hg hsize hdg hW hn hp
  have h1 : (headSpec ws rm).pre.before a A.U = true := atoms_intro fun w hw => hws w hw _ _ X.warmed
  have h2 : (Cond.codeWith y bytes maxL ret hh).before a A.U = true := hws _ hcode _ _ X.warmed
  have h3 : (Cond.initialized y.cls).before a A.U = true := hinit _ _ X.warmed
  have h4 : A.cells + (headSpec ws rm).room.cells ≤ R.cells := by rw [show (headSpec ws rm).room.cells = mc from hrc]; exact hp.1
  have h5 : A.slots + (headSpec ws rm).room.slots ≤ R.slots := by rw [show (headSpec ws rm).room.slots = ms from hrs]; exact hp.2.1
  have hPc : Pc a (A.U.calling g mk a) := hblind _ _ _ _ hp.2.2
  obtain ⟨U, Ls, c0, s0⟩ := A
  dsimp only [Pt.U, Pt.locs, Pt.cells, Pt.slots] at h1 h2 h3 h4 h5 X hn hPc ⊢
  obtain ⟨m9, methY, cY, hn9, hmY, hcY, -, hlY, -⟩ := Cond.codeWith_spec h2
  cases Option.some.inj (hn9.symm.trans hn)
  obtain ⟨kY, hkY, -⟩ := className_of_methodNamed hn
  have hinitY : kY.init = .initialized := Cond.initialized_spec (findClass_of_methodNamed hn) hkY h3
  have h : At U g.method c below := by rw [hg]; exact X.here
  have hlocals9 : W9 + (maxL + 11) + (headSpec ws rm).room.locals ≤ R.locals := hlocals
  have happ : (headSpec ws rm).appliesLoose y e.platform (U.calling g mk a) = true :=
    Spec.appliesLoose_calling (g := g) h hdg hn hkY hinitY
      (X.room_calling (g := g) (R' := (headSpec ws rm).room) hsize hmY hcY hframes (by rw [hlY]; omega) h4 h5) h1
  obtain ⟨mid, hmid⟩ := h.above
  have hfr : (U.setTop g).frames = (.java g :: mid) ++ below := by rw [State.frames_setTop' g h.top, hmid]; rfl
  obtain ⟨o, s₂, hsteps, -, hend, hq⟩ := Steps.callFree hM p X.admits X.cas X.clock (acts := []) hfr happ hPc trivial
  have hq' : vx_Q Qc XC mc ms free a (U.calling g mk a) o s₂ := hq
  rw [State.frames_setTop' g h.top] at hend
  obtain ⟨g₀, hg0⟩ := Option.isSome_iff_exists.mp h.top
  obtain ⟨r, hr⟩ := State.topJava?_eq_some.mp hg0
  have hr' : (({ U with heap := s₂.heap, slotsUsed := s₂.slotsUsed } : State).setVm s₂.vm).frames = .java g₀ :: r := hr
  rcases hq' with ⟨hqc, L, hfe, hL⟩ | ⟨q, rfl, E, ce, L, hx, hce, hcv, hcl, hW₂, hsm, hL⟩
  · obtain ⟨⟨v, rfl⟩, hW₂, e2, q2, q3, q4, q5, q6⟩ := id hfe
    have e3 : s₂ = ({ (U.calling g mk a).setFrames s₂.frames with heap := s₂.heap, slotsUsed := s₂.slotsUsed } : State).setVm s₂.vm := by
      have : s₂ = ({ s₂ with vm := (U.calling g mk a).vm } : State).setVm s₂.vm := rfl
      rw [e2] at this
      exact this
    obtain ⟨c₂, i₂, len₂, hc₂, hd₂, hf₂⟩ := hend
    have hW' : U.WarmedH s₂.vm := hW₂
    have hcc : c₂ = c := by
      have h1 : s₂.code? g.method = U.code? g.method := by
        rw [State.code?_eq, State.code?_eq, hW'.alike.method?]
      exact Option.some.inj (hc₂.symm.trans (h1.trans h.code))
    subst hcc
    have hlen : len₂ = len := by rw [hdg] at hd₂; cases hd₂; rfl
    subst hlen
    have hs₂ : s₂ = (({ U with heap := s₂.heap, slotsUsed := s₂.slotsUsed } : State).setVm s₂.vm).setTop { g with pc := g.pc + len₂, stack := v.toList ++ g.stack } := by
      refine e3.trans ?_
      rw [hf₂, State.calling_eq h.top, State.setFrames_setFrames, State.setTop_of_frames _ hr', hr]
      rfl
    have hsame : U.sameButNew ({ U with heap := s₂.heap, slotsUsed := s₂.slotsUsed } : State) L mc ms := by
      refine ⟨?_, q2, q3, q4, q5, q6⟩
      obtain ⟨t, ht, -⟩ := State.frames_cons hr
      show ({ U with heap := s₂.heap, slotsUsed := s₂.slotsUsed } : State) = { U.setFrames U.frames with heap := s₂.heap, slotsUsed := s₂.slotsUsed }
      rw [State.setFrames_self ht]
    subst hg
    refine Or.inl ⟨v, ⟨(({ U with heap := s₂.heap, slotsUsed := s₂.slotsUsed } : State).setVm s₂.vm), Ls ++ L, c0 + mc, s0 + ms⟩,
      ⟨X.admits, X.cas, X.clock, X.frames, X.room, X.hears, X.method, X.code, (X.here.setHeapUsed s₂.heap s₂.slotsUsed).setVm hW'.alike, X.tail, State.WarmedH.trans X.warmed hW', X.limits, X.bytes, X.same.trans (hsame.setVm s.vm)⟩,
      ⟨g, mk, s₂, L, rfl, rfl, hqc, rfl, hL, rfl, rfl⟩, ?_⟩
    show Steps p.tables e below _ ((({ U with heap := s₂.heap, slotsUsed := s₂.slotsUsed } : State).setVm s₂.vm).setTop { g with pc := g.pc + len₂, stack := v.toList ++ g.stack })
    rw [← hs₂]
    exact hsteps
  · obtain ⟨e2, q2, q3, q4, q5, q6⟩ := id hsm
    have e3 : s₂ = ({ (U.calling g mk a).setFrames s₂.frames with heap := s₂.heap, slotsUsed := s₂.slotsUsed } : State).setVm s₂.vm := by
      have : s₂ = ({ s₂ with vm := (U.calling g mk a).vm } : State).setVm s₂.vm := rfl
      rw [e2] at this
      exact this
    have hf₂ : s₂.frames = .throwing q :: .java g :: U.frames.tail := hend
    have hW' : U.WarmedH s₂.vm := hW₂
    have hs₂ : s₂ = ((({ U with heap := s₂.heap, slotsUsed := s₂.slotsUsed } : State).setVm s₂.vm).setTop g).pushFrame (.throwing q) := by
      refine e3.trans ?_
      rw [hf₂, State.calling_eq h.top, State.setFrames_setFrames, State.pushFrame, State.frames_setTop _ hr', State.setTop_of_frames _ hr', State.setFrames_setFrames, hr]
      rfl
    have hsame : U.sameButNew ({ U with heap := s₂.heap, slotsUsed := s₂.slotsUsed } : State) L mc ms := by
      refine ⟨?_, q2, q3, q4, q5, q6⟩
      obtain ⟨t, ht, -⟩ := State.frames_cons hr
      show ({ U with heap := s₂.heap, slotsUsed := s₂.slotsUsed } : State) = { U.setFrames U.frames with heap := s₂.heap, slotsUsed := s₂.slotsUsed }
      rw [State.setFrames_self ht]
    subst hg
    refine Or.inr ⟨q, ⟨(({ U with heap := s₂.heap, slotsUsed := s₂.slotsUsed } : State).setVm s₂.vm), Ls ++ L, c0 + mc, s0 + ms⟩,
      ⟨X.admits, X.cas, X.clock, X.frames, X.room, X.hears, X.method, X.code, (X.here.setHeapUsed s₂.heap s₂.slotsUsed).setVm hW'.alike, X.tail, State.WarmedH.trans X.warmed hW', X.limits, X.bytes, X.same.trans (hsame.setVm s.vm)⟩,
      ⟨g, mk, s₂, L, E, ce, rfl, rfl, hx, hce, hcv, hcl, rfl, hL, rfl, rfl⟩, ?_⟩
    show Steps p.tables e below _ (((({ U with heap := s₂.heap, slotsUsed := s₂.slotsUsed } : State).setVm s₂.vm).setTop g).pushFrame (.throwing q))
    rw [← hs₂]
    exact hsteps
end
variable {p : Program} {l : Launch} {e : Env} {R : Room} {s : State} {m : MethodId} {args : Array Value} {below : List Frame} {meth : Method} {c : Code} {T : State} {H : Heap} {locs : List Loc} {cells slots : Nat}
theorem vx_callVX (X : Stand p l e R s m args below meth c T locs cells slots) (hexec : p.tables.exec = Jvm.exec) {own C : String} {index : Nat} {y : MethodName} {bytes : ByteArray} {maxL : Nat} {ret : Option FieldType} {hh : List (Nat × Nat × Nat × Nat)}
    (hown : s.vm.findClass own = some m.cls) (hlink : (Cond.methodLink own index y).before args s = true) (hinst : (Cond.instanceMethod y).before args s = true) (hsel : (Cond.selects C y y).before args s = true)
    (hcode : (Cond.codeWith y bytes maxL ret hh).before args s = true) (hy : y.cls ≠ "java/lang/invoke/MethodHandle" ∧ y.cls ≠ "java/lang/invoke/VarHandle")
    {W9 : Nat} {Pre : Pt → Array Value → Prop} {Post : Pt → Array Value → Option Value → Pt → Prop} {PostX : Pt → Array Value → Addr → Pt → Prop} (hK : vx_Back l R p e below s args y 3 W9 Pre Post PostX)
    {b : Addr} {cellB : Cell} (hcell : T.heap[b]? = some cellB) (hobj : cellB.vm.isStatics = false) (hcls : s.vm.findClass C = some cellB.cls)
    {g : JFrame} (hg : g.method = m) (hsize : g.locals.size = c.maxLocals) {argsL rest : List Value} (hlen : ∀ sig, parseMethodDescriptor y.desc = some sig → argsL.length = sig.parameters.length)
    (hstack : g.stack = argsL.reverse ++ .ref b :: rest) (hW : 2 * g.monitorRoom + (rest.map fun v => v.category).sum ≤ W9) (hdg : decode c.code g.pc = .ok (.invokevirtual index, 3))
    (hpre : ∀ vm₁, s.WarmedH vm₁ → Pre ⟨T.setVm vm₁, locs, cells, slots⟩ (Value.ref b :: argsL).toArray) :
    (∃ (v : Option Value) (vm₁ : Vm) (B : Pt), s.WarmedH vm₁ ∧ Stand p l e R s m args below meth c B.U B.locs B.cells B.slots ∧ Post ⟨T.setVm vm₁, locs, cells, slots⟩ (Value.ref b :: argsL).toArray v B ∧
      ∀ target, Steps p.tables e below (B.U.setTop { g with pc := g.pc + 3, stack := v.toList ++ rest }) target → Steps p.tables e below (T.setTop g) target) ∨
    (∃ (q : Addr) (vm₁ : Vm) (B : Pt), s.WarmedH vm₁ ∧ Stand p l e R s m args below meth c B.U B.locs B.cells B.slots ∧ PostX ⟨T.setVm vm₁, locs, cells, slots⟩ (Value.ref b :: argsL).toArray q B ∧
      Steps p.tables e below (T.setTop g) ((B.U.setTop { g with stack := rest }).pushFrame (.throwing q))) := by
  obtain ⟨mk, methM, hnamed, hmethM, hstM, habM⟩ := Cond.instanceMethod_spec hinst
  obtain ⟨m8, methM', cM, hn8, hmethM', -, -, -, -, -, -, hsigM⟩ := Cond.codeWith_spec hcode
  cases Option.some.inj (hn8.symm.trans hnamed)
  cases hmethM.symm.trans hmethM'
  obtain ⟨c2, r2, m2, q1, q2, q3, q4, kP, hkP, hkPi⟩ := Cond.selects_spec hsel
  cases hcls.symm.trans q1
  cases (State.methodFound?_of_named hnamed hy).symm.trans q2
  cases hnamed.symm.trans q3
  have hselP : selectMethod e.platform s.vm cellB.cls mk = .method mk := by rw [Launch.admits_selectMethod X.admits]; exact q4
  obtain ⟨vm₁, X₁, hstep₁⟩ := X.invokevirtual hexec hown hlink hnamed hmethM hstM hkP hkPi hy (a := b) (cell := cellB) hcell
    (fun z h => by rw [h] at hobj; cases hobj) hselP hmethM habM hkP hkPi (g := g) hg (argsL := argsL) (rest := rest) (hlen _ hsigM) hstack hdg
  rcases hK m meth c ⟨T.setVm vm₁, locs, cells, slots⟩ { g with stack := rest } (.invokevirtual index) mk (Value.ref b :: argsL).toArray X₁ hg hsize hdg hW (X₁.named hnamed) (hpre vm₁ X₁.warmed) with ⟨v, B, X', hpost, hsteps⟩ | ⟨q, B, X', hpost, hsteps⟩
  · exact Or.inl ⟨v, vm₁, B, X₁.warmed, X', hpost, fun target h => hstep₁ _ fun acts => by rw [doInvoke_state]; exact hsteps.trans h⟩
  · exact Or.inr ⟨q, vm₁, B, X₁.warmed, X', hpost, hstep₁ _ fun acts => by rw [doInvoke_state]; exact hsteps⟩
theorem vx_callSX (X : Stand p l e R s m args below meth c T locs cells slots) (hexec : p.tables.exec = Jvm.exec) {own : String} {index : Nat} {y : MethodName} {bytes : ByteArray} {maxL : Nat} {ret : Option FieldType} {hh : List (Nat × Nat × Nat × Nat)}
    (hown : s.vm.findClass own = some m.cls) (hlink : (Cond.methodLink own index y).before args s = true) (hstat : (Cond.static y).before args s = true) (hinit : (Cond.initialized y.cls).before args s = true)
    (hcode : (Cond.codeWith y bytes maxL ret hh).before args s = true) (hy : y.cls ≠ "java/lang/invoke/MethodHandle" ∧ y.cls ≠ "java/lang/invoke/VarHandle")
    {W9 : Nat} {Pre : Pt → Array Value → Prop} {Post : Pt → Array Value → Option Value → Pt → Prop} {PostX : Pt → Array Value → Addr → Pt → Prop} (hK : vx_Back l R p e below s args y 3 W9 Pre Post PostX)
    {g : JFrame} (hg : g.method = m) (hsize : g.locals.size = c.maxLocals) {argsL rest : List Value} (hlen : ∀ sig, parseMethodDescriptor y.desc = some sig → argsL.length = sig.parameters.length)
    (hstack : g.stack = argsL.reverse ++ rest) (hW : 2 * g.monitorRoom + (rest.map fun v => v.category).sum ≤ W9) (hdg : decode c.code g.pc = .ok (.invokestatic index, 3))
    (hpre : ∀ vm₁, s.WarmedH vm₁ → Pre ⟨T.setVm vm₁, locs, cells, slots⟩ argsL.toArray) :
    (∃ (v : Option Value) (vm₁ : Vm) (B : Pt), s.WarmedH vm₁ ∧ Stand p l e R s m args below meth c B.U B.locs B.cells B.slots ∧ Post ⟨T.setVm vm₁, locs, cells, slots⟩ argsL.toArray v B ∧
      ∀ target, Steps p.tables e below (B.U.setTop { g with pc := g.pc + 3, stack := v.toList ++ rest }) target → Steps p.tables e below (T.setTop g) target) ∨
    (∃ (q : Addr) (vm₁ : Vm) (B : Pt), s.WarmedH vm₁ ∧ Stand p l e R s m args below meth c B.U B.locs B.cells B.slots ∧ PostX ⟨T.setVm vm₁, locs, cells, slots⟩ argsL.toArray q B ∧
      Steps p.tables e below (T.setTop g) ((B.U.setTop { g with stack := rest }).pushFrame (.throwing q))) := by
  obtain ⟨mk, methM, cM, hnamed, hmethM, -, -, -, -, -, -, hsigM⟩ := Cond.codeWith_spec hcode
  have hstatic : methM.isStatic = true := Cond.static_spec hnamed hmethM hstat
  obtain ⟨kP, hkP, -⟩ := className_of_methodNamed hnamed
  have hinitP : kP.init = .initialized := Cond.initialized_spec (findClass_of_methodNamed hnamed) hkP hinit
  obtain ⟨vm₁, X₁, hstep₁⟩ := X.invokestatic hexec hown hlink hnamed hmethM hstatic hkP hinitP hy (g := g) hg (argsL := argsL) (rest := rest) (hlen _ hsigM) hstack hdg
  rcases hK m meth c ⟨T.setVm vm₁, locs, cells, slots⟩ { g with stack := rest } (.invokestatic index) mk argsL.toArray X₁ hg hsize hdg hW (X₁.named hnamed) (hpre vm₁ X₁.warmed) with ⟨v, B, X', hpost, hsteps⟩ | ⟨q, B, X', hpost, hsteps⟩
  · exact Or.inl ⟨v, vm₁, B, X₁.warmed, X', hpost, fun target h => hstep₁ _ fun acts => by rw [doInvoke_state]; exact hsteps.trans h⟩
  · exact Or.inr ⟨q, vm₁, B, X₁.warmed, X', hpost, hstep₁ _ fun acts => by rw [doInvoke_state]; exact hsteps⟩
theorem vx_callVW (X : Stand p l e R s m args below meth c T locs cells slots) (hexec : p.tables.exec = Jvm.exec) {own C : String} {index : Nat} {y : MethodName} {bytes : ByteArray} {maxL : Nat} {ret : Option FieldType} {hh : List (Nat × Nat × Nat × Nat)}
    (hown : s.vm.findClass own = some m.cls) (hlink : (Cond.methodLink own index y).before args s = true) (hinst : (Cond.instanceMethod y).before args s = true) (hsel : (Cond.selects C y y).before args s = true)
    (hcode : (Cond.codeWith y bytes maxL ret hh).before args s = true) (hy : y.cls ≠ "java/lang/invoke/MethodHandle" ∧ y.cls ≠ "java/lang/invoke/VarHandle")
    {W9 : Nat} {Pre : Pt → Array Value → Prop} {Post : Pt → Array Value → Option Value → Pt → Prop} (hK : Back l R p e below s args y 3 W9 Pre Post)
    {b : Addr} {cellB : Cell} (hcell : T.heap[b]? = some cellB) (hobj : cellB.vm.isStatics = false) (hcls : s.vm.findClass C = some cellB.cls)
    {g : JFrame} (hg : g.method = m) (hsize : g.locals.size = c.maxLocals) {argsL rest : List Value} (hlen : ∀ sig, parseMethodDescriptor y.desc = some sig → argsL.length = sig.parameters.length)
    (hstack : g.stack = argsL.reverse ++ .ref b :: rest) (hW : 2 * g.monitorRoom + (rest.map fun v => v.category).sum ≤ W9) (hdg : decode c.code g.pc = .ok (.invokevirtual index, 3))
    (hpre : ∀ vm₁, s.WarmedH vm₁ → Pre ⟨T.setVm vm₁, locs, cells, slots⟩ (Value.ref b :: argsL).toArray) :
    ∃ (v : Option Value) (vm₁ : Vm) (B : Pt), s.WarmedH vm₁ ∧ Stand p l e R s m args below meth c B.U B.locs B.cells B.slots ∧ Post ⟨T.setVm vm₁, locs, cells, slots⟩ (Value.ref b :: argsL).toArray v B ∧
      ∀ target, Steps p.tables e below (B.U.setTop { g with pc := g.pc + 3, stack := v.toList ++ rest }) target → Steps p.tables e below (T.setTop g) target := by
  obtain ⟨mk, methM, hnamed, hmethM, hstM, habM⟩ := Cond.instanceMethod_spec hinst
  obtain ⟨m8, methM', cM, hn8, hmethM', -, -, -, -, -, -, hsigM⟩ := Cond.codeWith_spec hcode
  cases Option.some.inj (hn8.symm.trans hnamed)
  cases hmethM.symm.trans hmethM'
  obtain ⟨c2, r2, m2, q1, q2, q3, q4, kP, hkP, hkPi⟩ := Cond.selects_spec hsel
  cases hcls.symm.trans q1
  cases (State.methodFound?_of_named hnamed hy).symm.trans q2
  cases hnamed.symm.trans q3
  have hselP : selectMethod e.platform s.vm cellB.cls mk = .method mk := by rw [Launch.admits_selectMethod X.admits]; exact q4
  obtain ⟨vm₁, X₁, hstep₁⟩ := X.invokevirtual hexec hown hlink hnamed hmethM hstM hkP hkPi hy (a := b) (cell := cellB) hcell
    (fun z h => by rw [h] at hobj; cases hobj) hselP hmethM habM hkP hkPi (g := g) hg (argsL := argsL) (rest := rest) (hlen _ hsigM) hstack hdg
  obtain ⟨v, B, X', hpost, hsteps⟩ := hK m meth c ⟨T.setVm vm₁, locs, cells, slots⟩ { g with stack := rest } (.invokevirtual index) mk (Value.ref b :: argsL).toArray X₁ hg hsize hdg hW (X₁.named hnamed) (hpre vm₁ X₁.warmed)
  exact ⟨v, vm₁, B, X₁.warmed, X', hpost, fun target h => hstep₁ _ fun acts => by rw [doInvoke_state]; exact hsteps.trans h⟩
abbrev vx_CVW (R : Room) (s : State) (args : Array Value) (own C : String) (index : Nat) (y : MethodName) (bytes : ByteArray) (maxL : Nat) (ret : Option FieldType) (hh : List (Nat × Nat × Nat × Nat)) (ws : List Cond) (rm : Room) (mc ms n : Nat) : Prop :=
  (rm.cells = mc ∧ rm.slots = ms ∧ rm.frames + 1 ≤ R.frames ∧ 8 + (maxL + 11) + rm.locals ≤ R.locals ∧ (∀ w ∈ ws, ∀ (a' : Array Value) (U : State), s.WarmedH U.vm → w.before a' U = true) ∧ Cond.codeWith y bytes maxL ret hh ∈ ws) ∧
  (Cond.codeWith y bytes maxL ret hh).before args s = true ∧ (Cond.initialized y.cls).before args s = true ∧ (y.cls ≠ "java/lang/invoke/MethodHandle" ∧ y.cls ≠ "java/lang/invoke/VarHandle") ∧
  (∀ sig, parseMethodDescriptor y.desc = some sig → n = sig.parameters.length) ∧ (Cond.methodLink own index y).before args s = true ∧ (Cond.instanceMethod y).before args s = true ∧ (Cond.selects C y y).before args s = true
theorem vx_cwVW {own C : String} {index maxL mc ms : Nat} {y : MethodName} {bytes : ByteArray} {ret : Option FieldType} {hh : List (Nat × Nat × Nat × Nat)} {Ts ws ws' : List Cond} {rm : Room} (n : Nat) (ht : ∀ w ∈ Ts, w.before args s = true) (hT : GoodIn Ts (wsV own index C y ws)) (hw : ws = Cond.codeWith y bytes maxL ret hh :: ws') (hrc : rm.cells = mc) (hrs : rm.slots = ms)
    (hd : y.cls = C ∧ y.cls ≠ "java/lang/invoke/MethodHandle" ∧ y.cls ≠ "java/lang/invoke/VarHandle" ∧ (parseMethodDescriptor y.desc).map (fun d => d.parameters.length) = some n) (hR : rm.frames + 1 ≤ R.frames ∧ 8 + (maxL + 11) + rm.locals ≤ R.locals) :
    vx_CVW R s args own C index y bytes maxL ret hh ws rm mc ms n := by
  obtain ⟨hC, hd⟩ := hd
  subst hC
  have ok : ∀ w ∈ wsV own index y.cls y ws, w.before args s = true := fun w h => ht w (hT w h).1
  have hG : GoodIn Ts ws := fun w h => hT w (by unfold wsV; exact List.mem_append_right _ h)
  have hc : Cond.codeWith y bytes maxL ret hh ∈ ws := by rw [hw]; exact List.mem_cons_self
  refine ⟨⟨hrc, hrs, hR.1, hR.2, pay_in ht hG, hc⟩, ht _ (hG _ hc).1, ok _ (by simp [wsV]), ⟨hd.1, hd.2.1⟩, fun sig h => ?_, ok _ (by simp [wsV]), ok _ (by simp [wsV]), ok _ (by simp [wsV])⟩
  have h2 := hd.2.2
  rw [h] at h2
  exact (Option.some.inj h2).symm
theorem vx_runVW {y : MethodName} {bytes cc : ByteArray} {maxL nL mc ms n index : Nat} {ret : Option FieldType} {hh : List (Nat × Nat × Nat × Nat)} {ws : List Cond} {rm : Room} {Pc : Array Value → State → Prop} {Qc : Array Value → State → Outcome → State → Prop} {free : Addr → Prop} {Ts : List Cond} {own C : String} {b : Addr} {As rest : List Value} {g : JFrame}
    (S : CallFix p m c cc nL s args Ts own) (hM : Met l y ws rm Pc Qc mc ms free) (cw : vx_CVW R s args own C index y bytes maxL ret hh ws rm mc ms n) (hp : PreV s H C b Pc As)
    (hg : g.method = m) (hn : As.length = n) (hsize : g.locals.size = nL) (hstack : g.stack = As.reverse ++ .ref b :: rest) (hW : 2 * g.monitorRoom + (rest.map fun v => v.category).sum ≤ 8) (hdg : decode cc g.pc = .ok (.invokevirtual index, 3)) (hf : cells + mc ≤ R.cells ∧ slots + ms ≤ R.slots) :
    va_Run p l e R s m args below meth c H locs cells slots mc ms g rest (Qc (Value.ref b :: As).toArray) free := by
  obtain ⟨⟨hrc, hrs, hfr, hlo, hws, hcw⟩, hcode, hini, hy, hlen, hl, hin, hse⟩ := cw
  have hK : Back l R p e below s args y 3 8 (PreOf R mc ms Pc) (PostOf Qc mc ms free) := va_backW (hh := hh) (bytes := bytes) (maxL := maxL) (ret := ret) hM hp.1 hrc hrs hfr hlo hws hcw (fun a' U hW => word_at hW (Or.inl (by first | rfl | simp [Cond.onTables, Cond.keeps, Cond.steady])) hini)
  obtain ⟨hx, hb, hml, ho, -⟩ := S
  obtain ⟨-, ⟨cellB, hcB, hoB, hclB⟩, hPc⟩ := hp
  intro T hT X
  obtain ⟨v, vm₁, ⟨U', l2, c2, s2⟩, hW₁, X', ⟨g', mk, t, L, e1, e2, hq, h1, hL, h2, h3⟩, st⟩ := vx_callVW X hx (C := C) (hh := hh) (bytes := bytes) (maxL := maxL) (ret := ret) ho hl hin hse hcode hy hK (by rw [hT]; exact hcB) hoB hclB hg (hsize.trans hml.symm) (argsL := As) (rest := rest) (fun sig h => hn.trans (hlen sig h)) hstack hW (by rw [hb]; exact hdg)
    (fun vm₁ hW₁ => ⟨hf.1, hf.2, hPc (T.setVm vm₁) hT hW₁⟩)
  dsimp only [Pt.U, Pt.locs, Pt.cells, Pt.slots] at X' e1 e2 h1 h2 h3 st
  subst h1; subst h2; subst h3
  exact ⟨v, (T.setVm vm₁).calling g' mk (Value.ref b :: As).toArray, t, U', L, hT, X', hL, e1, e2, hq, st⟩
section
variable {y : MethodName} {bytes cc : ByteArray} {maxL nL mc ms n index : Nat} {ret : Option FieldType} {ws : List Cond} {rm : Room} {Pc : Array Value → State → Prop} {Qc : Array Value → State → Outcome → State → Prop} {XC : String → State → State → Prop} {free : Addr → Prop} {Ts : List Cond} {own C : String} {b : Addr} {As rest : List Value} {g : JFrame}
theorem vx_runVX {hh : List (Nat × Nat × Nat × Nat)} (S : CallFix p m c cc nL s args Ts own) (hM : vx_Met l y ws rm Pc Qc XC mc ms free) (cw : vx_CVW R s args own C index y bytes maxL ret hh ws rm mc ms n) (hp : PreV s H C b Pc As)
    (hg : g.method = m) (hn : As.length = n) (hsize : g.locals.size = nL) (hstack : g.stack = As.reverse ++ .ref b :: rest) (hW : 2 * g.monitorRoom + (rest.map fun v => v.category).sum ≤ 8) (hdg : decode cc g.pc = .ok (.invokevirtual index, 3)) (hf : cells + mc ≤ R.cells ∧ slots + ms ≤ R.slots) :
    vx_Run p l e R s m args below meth c H locs cells slots mc ms g rest (Qc (Value.ref b :: As).toArray) XC free := by
  obtain ⟨⟨hrc, hrs, hfr, hlo, hws, hcw⟩, hcode, hini, hy, hlen, hl, hin, hse⟩ := cw
  have hK : vx_Back l R p e below s args y 3 8 (PreOf R mc ms Pc) (PostOf Qc mc ms free) (vx_Post XC mc ms free) := vx_backW (hh := hh) (bytes := bytes) (maxL := maxL) (ret := ret) hM hp.1 hrc hrs hfr hlo hws hcw (fun a' U hW => word_at hW (Or.inl (by first | rfl | simp [Cond.onTables, Cond.keeps, Cond.steady])) hini)
  obtain ⟨hx, hb, hml, ho, -⟩ := S
  obtain ⟨-, ⟨cellB, hcB, hoB, hclB⟩, hPc⟩ := hp
  intro T hT X
  rcases vx_callVX X hx (C := C) (hh := hh) (bytes := bytes) (maxL := maxL) (ret := ret) ho hl hin hse hcode hy hK (by rw [hT]; exact hcB) hoB hclB hg (hsize.trans hml.symm) (argsL := As) (rest := rest) (fun sig h => hn.trans (hlen sig h)) hstack hW (by rw [hb]; exact hdg)
    (fun vm₁ hW₁ => ⟨hf.1, hf.2, hPc (T.setVm vm₁) hT hW₁⟩) with ⟨v, vm₁, ⟨U', l2, c2, s2⟩, hW₁, X', ⟨g', mk, t, L, e1, e2, hq, h1, hL, h2, h3⟩, st⟩ | ⟨q, vm₁, ⟨U', l2, c2, s2⟩, hW₁, X', ⟨g', mk, t, L, E, ce, e1, e2, hq, hce, hcv, hcl, h1, hL, h2, h3⟩, st⟩
  · dsimp only [Pt.U, Pt.locs, Pt.cells, Pt.slots] at X' e1 e2 h1 h2 h3 st
    subst h1; subst h2; subst h3
    exact Or.inl ⟨v, (T.setVm vm₁).calling g' mk (Value.ref b :: As).toArray, t, U', L, hT, X', hL, e1, e2, hq, st⟩
  · dsimp only [Pt.U, Pt.locs, Pt.cells, Pt.slots] at X' e1 e2 h1 h2 h3 st hcl
    subst h1; subst h2; subst h3
    exact Or.inr ⟨q, (T.setVm vm₁).calling g' mk (Value.ref b :: As).toArray, t, U', L, E, ce, hT, X', hL, e1, e2, hq, hce, hcv, vx_cls hW₁ hcl, st⟩
theorem vx_runSX {hh : List (Nat × Nat × Nat × Nat)} (S : CallFix p m c cc nL s args Ts own) (hM : vx_Met l y ws rm Pc Qc XC mc ms free) (cw : vx_CSW R s args own index y bytes maxL ret hh ws rm mc ms n) (hp : PreS s H Pc As)
    (hg : g.method = m) (hn : As.length = n) (hsize : g.locals.size = nL) (hstack : g.stack = As.reverse ++ rest) (hW : 2 * g.monitorRoom + (rest.map fun v => v.category).sum ≤ 8) (hdg : decode cc g.pc = .ok (.invokestatic index, 3)) (hf : cells + mc ≤ R.cells ∧ slots + ms ≤ R.slots) :
    vx_Run p l e R s m args below meth c H locs cells slots mc ms g rest (Qc As.toArray) XC free := by
  obtain ⟨⟨hrc, hrs, hfr, hlo, hws, hcw⟩, hcode, hini, hy, hlen, hl, hstt⟩ := cw
  have hK : vx_Back l R p e below s args y 3 8 (PreOf R mc ms Pc) (PostOf Qc mc ms free) (vx_Post XC mc ms free) := vx_backW (hh := hh) (bytes := bytes) (maxL := maxL) (ret := ret) hM hp.1 hrc hrs hfr hlo hws hcw (fun a' U hW => word_at hW (Or.inl (by first | rfl | simp [Cond.onTables, Cond.keeps, Cond.steady])) hini)
  obtain ⟨hx, hb, hml, ho, -⟩ := S
  intro T hT X
  rcases vx_callSX X hx (hh := hh) (bytes := bytes) (maxL := maxL) (ret := ret) ho hl hstt hini hcode hy hK hg (hsize.trans hml.symm) (argsL := As) (rest := rest) (fun sig h => hn.trans (hlen sig h)) hstack hW (by rw [hb]; exact hdg)
    (fun vm₁ hW₁ => ⟨hf.1, hf.2, hp.2 (T.setVm vm₁) hT hW₁⟩) with ⟨v, vm₁, ⟨U', l2, c2, s2⟩, hW₁, X', ⟨g', mk, t, L, e1, e2, hq, h1, hL, h2, h3⟩, st⟩ | ⟨q, vm₁, ⟨U', l2, c2, s2⟩, hW₁, X', ⟨g', mk, t, L, E, ce, e1, e2, hq, hce, hcv, hcl, h1, hL, h2, h3⟩, st⟩
  · dsimp only [Pt.U, Pt.locs, Pt.cells, Pt.slots] at X' e1 e2 h1 h2 h3 st
    subst h1; subst h2; subst h3
    exact Or.inl ⟨v, (T.setVm vm₁).calling g' mk As.toArray, t, U', L, hT, X', hL, e1, e2, hq, st⟩
  · dsimp only [Pt.U, Pt.locs, Pt.cells, Pt.slots] at X' e1 e2 h1 h2 h3 st hcl
    subst h1; subst h2; subst h3
    exact Or.inr ⟨q, (T.setVm vm₁).calling g' mk As.toArray, t, U', L, E, ce, hT, X', hL, e1, e2, hq, hce, hcv, vx_cls hW₁ hcl, st⟩
end
end VXH
theorem vx_ofWH {l : Launch} {y : MethodName} {ws ws' : List Cond} {rm : Room} {Pc : Array Value → State → Prop} {Qc : Array Value → State → Outcome → State → Prop} {XC : String → State → State → Prop} {mc ms : Nat} {free : Addr → Prop} {cc : ByteArray} {maxL : Nat} {ret : Option FieldType} {hh : List (Nat × Nat × Nat × Nat)}
    (hy : plainName y.cls = true) (hw : ws = Cond.codeWith y cc maxL ret hh :: ws')
    (body : ∀ p e s m args below meth c s₁, BodyLoose p l y (headSpec ws rm) cc maxL ret e s m args below meth c s₁ → c.maxLocals = maxL → Pc args s →
      W p l e (headSpec ws rm).room s m args below meth c s.heap [] 0 0 (vx_MQ below Qc XC args s mc ms free) (entryFrame m args maxL)) : vx_Met l y ws rm Pc Qc XC mc ms free := by
  refine MetFree.of_bodyS (code := cc) (maxLocals := maxL) (ret := ret) hy ?_ ?_
  · intro args s m h hn
    obtain ⟨m9, meth, c, hn9, h1, h2, h3, h4, -, h5, h6, -⟩ := Cond.codeWith_spec (atoms_spec (ws := ws) h _ (by rw [hw]; exact List.mem_cons_self))
    cases hn.symm.trans hn9
    exact ⟨meth, c, h1, h2, h3, h4, h5, h6⟩
  · intro p e s m args below meth c s₁ B hml hP _
    have hh0 : s₁.heap = s.heap := by rw [B.state]; rfl
    obtain ⟨t, a1, o, b1, b2, b3⟩ := body p e s m args below meth c s₁ B hml hP s₁ hh0 (Stand.of_body B)
    exact ⟨t, o, a1, b1, b2, b3⟩
/-! ===== END ===== -/
end
section
/-! ===== BEGIN printed: names, fields, word lists, decode rows ===== -/
def RX0 : String := "CoverMeter$Orders"
def TX0 : u_T := fun k => match k with
  | 0 => ("CoverMeter$Orders", "text", "[I", true)
  | 1 => ("CoverMeter$Orders", "length", "I", false)
  | 2 => ("CoverMeter$Orders", "at", "I", false)
  | 3 => ("CoverMeter$Orders", "error", "I", false)
  | 4 => ("CoverMeter$Orders", "kind", "I", false)
  | 5 => ("CoverMeter$Orders", "person", "I", false)
  | 6 => ("CoverMeter$Orders", "number", "I", false)
  | _ => ("CoverMeter$Orders", "points", "I", false)
def tyX0 : Nat → FieldType := fun k => match k with
  | 0 => .array .int
  | 1 => .int
  | 2 => .int
  | 3 => .int
  | 4 => .int
  | 5 => .int
  | 6 => .int
  | _ => .int
abbrev wsX00 : List Cond := u_ws RX0 TX0 8
theorem nmX0 : ∀ a, a < 8 → ∀ b, b < 8 → a ≠ b → (TX0 a).2.1 ≠ (TX0 b).2.1 := by decide +kernel
theorem tyX0_ok : ∀ k, k < 8 → parseFieldDescriptor (TX0 k).2.2.1 = some (tyX0 k) := by decide +kernel
abbrev cX0_init : ByteArray := prog_2_method_1_code
def yX0_init : MethodName := ⟨RX0, "<init>", "()V"⟩
def RX1 : String := "CoverMeter$State"
def TX1 : u_T := fun k => match k with
  | 0 => ("CoverMeter$State", "settings", "[I", true)
  | 1 => ("CoverMeter$State", "handedOver", "I", false)
  | 2 => ("CoverMeter$State", "persons", "I", false)
  | 3 => ("CoverMeter$State", "rosters", "[J", true)
  | 4 => ("CoverMeter$State", "away", "[J", true)
  | 5 => ("CoverMeter$State", "covering", "[J", true)
  | 6 => ("CoverMeter$State", "meters", "[I", true)
  | 7 => ("CoverMeter$State", "turns", "[I", true)
  | 8 => ("CoverMeter$State", "absences", "I", false)
  | 9 => ("CoverMeter$State", "absentees", "[I", true)
  | 10 => ("CoverMeter$State", "shifts", "[I", true)
  | 11 => ("CoverMeter$State", "statuses", "[I", true)
  | 12 => ("CoverMeter$State", "coverers", "[I", true)
  | 13 => ("CoverMeter$State", "points", "[I", true)
  | _ => ("CoverMeter$State", "bids", "[I", true)
def tyX1 : Nat → FieldType := fun k => match k with
  | 0 => .array .int
  | 1 => .int
  | 2 => .int
  | 3 => .array .long
  | 4 => .array .long
  | 5 => .array .long
  | 6 => .array .int
  | 7 => .array .int
  | 8 => .int
  | 9 => .array .int
  | 10 => .array .int
  | 11 => .array .int
  | 12 => .array .int
  | 13 => .array .int
  | _ => .array .int
abbrev wsX10 : List Cond := u_ws RX1 TX1 15
theorem nmX1 : ∀ a, a < 15 → ∀ b, b < 15 → a ≠ b → (TX1 a).2.1 ≠ (TX1 b).2.1 := by decide +kernel
theorem tyX1_ok : ∀ k, k < 15 → parseFieldDescriptor (TX1 k).2.2.1 = some (tyX1 k) := by decide +kernel
abbrev cX1_init : ByteArray := prog_3_method_1_code
def yX1_init : MethodName := ⟨RX1, "<init>", "()V"⟩
abbrev cX1_copyFrom : ByteArray := prog_3_method_2_code
def yX1_copyFrom : MethodName := ⟨RX1, "copyFrom", "(LCoverMeter$State;)V"⟩
abbrev cX1_hasPerson : ByteArray := prog_3_method_3_code
def yX1_hasPerson : MethodName := ⟨RX1, "hasPerson", "(I)Z"⟩
abbrev cX1_hasAbsence : ByteArray := prog_3_method_4_code
def yX1_hasAbsence : MethodName := ⟨RX1, "hasAbsence", "(I)Z"⟩
abbrev cX1_isCovered : ByteArray := prog_3_method_5_code
def yX1_isCovered : MethodName := ⟨RX1, "isCovered", "(I)Z"⟩
abbrev cX1_enterPerson : ByteArray := prog_3_method_6_code
def yX1_enterPerson : MethodName := ⟨RX1, "enterPerson", "(J)I"⟩
abbrev cX1_canChangeRoster : ByteArray := prog_3_method_7_code
def yX1_canChangeRoster : MethodName := ⟨RX1, "canChangeRoster", "(IIZ)Z"⟩
abbrev cX1_canBeAbsent : ByteArray := prog_3_method_8_code
def yX1_canBeAbsent : MethodName := ⟨RX1, "canBeAbsent", "(II)Z"⟩
abbrev cX1_enterAbsence : ByteArray := prog_3_method_9_code
def yX1_enterAbsence : MethodName := ⟨RX1, "enterAbsence", "(II)I"⟩
abbrev cX1_canBid : ByteArray := prog_3_method_10_code
def yX1_canBid : MethodName := ⟨RX1, "canBid", "(II)Z"⟩
abbrev cX1_bidsFor : ByteArray := prog_3_method_11_code
def yX1_bidsFor : MethodName := ⟨RX1, "bidsFor", "(I)I"⟩
abbrev cX1_bidsBy : ByteArray := prog_3_method_12_code
def yX1_bidsBy : MethodName := ⟨RX1, "bidsBy", "(I)I"⟩
abbrev cX1_dropBids : ByteArray := prog_3_method_13_code
def yX1_dropBids : MethodName := ⟨RX1, "dropBids", "(I)V"⟩
abbrev cX1_worked : ByteArray := prog_3_method_14_code
def yX1_worked : MethodName := ⟨RX1, "worked", "(I)J"⟩
abbrev cX1_restBehind : ByteArray := prog_3_method_15_code
def yX1_restBehind : MethodName := ⟨RX1, "restBehind", "(J)J"⟩
abbrev cX1_restBefore : ByteArray := prog_3_method_16_code
def yX1_restBefore : MethodName := ⟨RX1, "restBefore", "(J)J"⟩
abbrev cX1_hindrance : ByteArray := prog_3_method_18_code
def yX1_hindrance : MethodName := ⟨RX1, "hindrance", "(II)I"⟩
abbrev cX1_personsWhoCanCover : ByteArray := prog_3_method_19_code
def yX1_personsWhoCanCover : MethodName := ⟨RX1, "personsWhoCanCover", "(I)I"⟩
abbrev cX1_nextCoverer : ByteArray := prog_3_method_21_code
def yX1_nextCoverer : MethodName := ⟨RX1, "nextCoverer", "(I)I"⟩
abbrev cX1_comesBefore : ByteArray := prog_3_method_22_code
def yX1_comesBefore : MethodName := ⟨RX1, "comesBefore", "(III)Z"⟩
abbrev cX1_isLess : ByteArray := prog_3_method_23_code
def yX1_isLess : MethodName := ⟨RX1, "isLess", "(IIII)Z"⟩
abbrev cX1_coverOpen : ByteArray := prog_3_method_24_code
def yX1_coverOpen : MethodName := ⟨RX1, "coverOpen", "(I)Z"⟩
abbrev cX1_coverAllOpen : ByteArray := prog_3_method_25_code
def yX1_coverAllOpen : MethodName := ⟨RX1, "coverAllOpen", "()I"⟩
abbrev cX1_moveCover : ByteArray := prog_3_method_26_code
def yX1_moveCover : MethodName := ⟨RX1, "moveCover", "(II)V"⟩
abbrev cX1_aboutPerson : ByteArray := prog_3_method_27_code
def yX1_aboutPerson : MethodName := ⟨RX1, "aboutPerson", "(II)I"⟩
abbrev cX1_aboutAbsence : ByteArray := prog_3_method_28_code
def yX1_aboutAbsence : MethodName := ⟨RX1, "aboutAbsence", "(II)I"⟩
abbrev cX1_aboutAll : ByteArray := prog_3_method_29_code
def yX1_aboutAll : MethodName := ⟨RX1, "aboutAll", "(I)I"⟩
abbrev cX1_countOf : ByteArray := prog_3_method_30_code
def yX1_countOf : MethodName := ⟨RX1, "countOf", "(I)I"⟩
abbrev cX1_greatestMeter : ByteArray := prog_3_method_31_code
def yX1_greatestMeter : MethodName := ⟨RX1, "greatestMeter", "()I"⟩
abbrev cX1_lowestMeter : ByteArray := prog_3_method_32_code
def yX1_lowestMeter : MethodName := ⟨RX1, "lowestMeter", "()I"⟩
abbrev cX1_allBids : ByteArray := prog_3_method_33_code
def yX1_allBids : MethodName := ⟨RX1, "allBids", "()I"⟩
abbrev cX1_allPoints : ByteArray := prog_3_method_34_code
def yX1_allPoints : MethodName := ⟨RX1, "allPoints", "()I"⟩
def RX2 : String := "CoverMeter"
def TX2 : u_T := fun k => match k with
  | 0 => ("CoverMeter", "now", "LCoverMeter$State;", true)
  | 1 => ("CoverMeter", "trial", "LCoverMeter$State;", true)
  | 2 => ("CoverMeter", "saved", "[LCoverMeter$State;", true)
  | 3 => ("CoverMeter", "savedStates", "I", false)
  | _ => ("CoverMeter", "orders", "LCoverMeter$Orders;", true)
def tyX2 : Nat → FieldType := fun k => match k with
  | 0 => .object "CoverMeter$State"
  | 1 => .object "CoverMeter$State"
  | 2 => .array (.object "CoverMeter$State")
  | 3 => .int
  | _ => .object "CoverMeter$Orders"
abbrev wsX20 : List Cond := u_ws RX2 TX2 5
theorem nmX2 : ∀ a, a < 5 → ∀ b, b < 5 → a ≠ b → (TX2 a).2.1 ≠ (TX2 b).2.1 := by decide +kernel
theorem tyX2_ok : ∀ k, k < 5 → parseFieldDescriptor (TX2 k).2.2.1 = some (tyX2 k) := by decide +kernel
abbrev cX2_init : ByteArray := prog_1_method_1_code
def yX2_init : MethodName := ⟨RX2, "<init>", "()V"⟩
abbrev cX2_set : ByteArray := prog_1_method_2_code
def yX2_set : MethodName := ⟨RX2, "set", "(II)I"⟩
abbrev cX2_addPerson : ByteArray := prog_1_method_3_code
def yX2_addPerson : MethodName := ⟨RX2, "addPerson", "(J)I"⟩
abbrev cX2_roster : ByteArray := prog_1_method_4_code
def yX2_roster : MethodName := ⟨RX2, "roster", "(IIZ)I"⟩
abbrev cX2_absent : ByteArray := prog_1_method_5_code
def yX2_absent : MethodName := ⟨RX2, "absent", "(II)I"⟩
abbrev cX2_bid : ByteArray := prog_1_method_6_code
def yX2_bid : MethodName := ⟨RX2, "bid", "(III)I"⟩
abbrev cX2_takeBack : ByteArray := prog_1_method_7_code
def yX2_takeBack : MethodName := ⟨RX2, "takeBack", "(II)I"⟩
abbrev cX2_cover : ByteArray := prog_1_method_8_code
def yX2_cover : MethodName := ⟨RX2, "cover", "(I)I"⟩
abbrev cX2_coverAll : ByteArray := prog_1_method_9_code
def yX2_coverAll : MethodName := ⟨RX2, "coverAll", "()I"⟩
abbrev cX2_handOver : ByteArray := prog_1_method_10_code
def yX2_handOver : MethodName := ⟨RX2, "handOver", "(II)I"⟩
abbrev cX2_giveUp : ByteArray := prog_1_method_11_code
def yX2_giveUp : MethodName := ⟨RX2, "giveUp", "(I)I"⟩
abbrev cX2_person : ByteArray := prog_1_method_12_code
def yX2_person : MethodName := ⟨RX2, "person", "(II)I"⟩
abbrev cX2_work : ByteArray := prog_1_method_13_code
def yX2_work : MethodName := ⟨RX2, "work", "(I)J"⟩
abbrev cX2_absence : ByteArray := prog_1_method_14_code
def yX2_absence : MethodName := ⟨RX2, "absence", "(II)I"⟩
abbrev cX2_bidOf : ByteArray := prog_1_method_15_code
def yX2_bidOf : MethodName := ⟨RX2, "bidOf", "(II)I"⟩
abbrev cX2_value : ByteArray := prog_1_method_17_code
def yX2_value : MethodName := ⟨RX2, "value", "(I)I"⟩
abbrev cX2_setting : ByteArray := prog_1_method_18_code
def yX2_setting : MethodName := ⟨RX2, "setting", "(I)I"⟩
abbrev cX2_undo : ByteArray := prog_1_method_27_code
def yX2_undo : MethodName := ⟨RX2, "undo", "()I"⟩
abbrev cX2_digest : ByteArray := prog_1_method_28_code
def yX2_digest : MethodName := ⟨RX2, "digest", "()J"⟩
abbrev cX2_digestPerson : ByteArray := prog_1_method_29_code
def yX2_digestPerson : MethodName := ⟨RX2, "digestPerson", "(JI)J"⟩
abbrev cX2_digestAbsence : ByteArray := prog_1_method_30_code
def yX2_digestAbsence : MethodName := ⟨RX2, "digestAbsence", "(JI)J"⟩
abbrev cX2_needPerson : ByteArray := prog_1_method_31_code
def yX2_needPerson : MethodName := ⟨RX2, "needPerson", "(I)V"⟩
abbrev cX2_needAbsence : ByteArray := prog_1_method_32_code
def yX2_needAbsence : MethodName := ⟨RX2, "needAbsence", "(I)V"⟩
abbrev cX2_needInRange : ByteArray := prog_1_method_33_code
def yX2_needInRange : MethodName := ⟨RX2, "needInRange", "(III)V"⟩
abbrev cX2_needAllowed : ByteArray := prog_1_method_34_code
def yX2_needAllowed : MethodName := ⟨RX2, "needAllowed", "(Z)V"⟩
abbrev cX2_save : ByteArray := prog_1_method_35_code
def yX2_save : MethodName := ⟨RX2, "save", "()V"⟩
abbrev cX2_dropOldest : ByteArray := prog_1_method_36_code
def yX2_dropOldest : MethodName := ⟨RX2, "dropOldest", "()V"⟩
abbrev cX2_bidIndex : ByteArray := prog_1_method_40_code
def yX2_bidIndex : MethodName := ⟨RX2, "bidIndex", "(II)I"⟩
def RX3 : String := "CoverMeterModel"
def TX3 : u_T := fun k => match k with
  | _ => ("", "", "", false)
def tyX3 : Nat → FieldType := fun k => match k with
  | _ => .int
abbrev wsX30 : List Cond := u_ws RX3 TX3 0
theorem nmX3 : ∀ a, a < 0 → ∀ b, b < 0 → a ≠ b → (TX3 a).2.1 ≠ (TX3 b).2.1 := by decide +kernel
theorem tyX3_ok : ∀ k, k < 0 → parseFieldDescriptor (TX3 k).2.2.1 = some (tyX3 k) := by decide +kernel
def RJ13 : String := "java/lang/Long"
def TJ13 : u_T := fun k => match k with
  | _ => ("", "", "", false)
def tyJ13 : Nat → FieldType := fun k => match k with
  | _ => .int
abbrev wsJ130 : List Cond := u_ws RJ13 TJ13 0
theorem nmJ13 : ∀ a, a < 0 → ∀ b, b < 0 → a ≠ b → (TJ13 a).2.1 ≠ (TJ13 b).2.1 := by decide +kernel
theorem tyJ13_ok : ∀ k, k < 0 → parseFieldDescriptor (TJ13 k).2.2.1 = some (tyJ13 k) := by decide +kernel
abbrev cJ13_bitCount_95d88 : ByteArray := prog_10_method_50_code
def yJ13_bitCount_95d88 : MethodName := ⟨RJ13, "bitCount", "(J)I"⟩
def RJ9 : String := "java/lang/Math"
def TJ9 : u_T := fun k => match k with
  | _ => ("", "", "", false)
def tyJ9 : Nat → FieldType := fun k => match k with
  | _ => .int
abbrev wsJ90 : List Cond := u_ws RJ9 TJ9 0
theorem nmJ9 : ∀ a, a < 0 → ∀ b, b < 0 → a ≠ b → (TJ9 a).2.1 ≠ (TJ9 b).2.1 := by decide +kernel
theorem tyJ9_ok : ∀ k, k < 0 → parseFieldDescriptor (TJ9 k).2.2.1 = some (tyJ9 k) := by decide +kernel
abbrev cJ9_max_7cf53 : ByteArray := prog_11_method_65_code
def yJ9_max_7cf53 : MethodName := ⟨RJ9, "max", "(II)I"⟩
abbrev cJ9_min_7cf53 : ByteArray := prog_11_method_69_code
def yJ9_min_7cf53 : MethodName := ⟨RJ9, "min", "(II)I"⟩
def RJ0 : String := "java/lang/String"
def TJ0 : u_T := fun k => match k with
  | _ => ("", "", "", false)
def tyJ0 : Nat → FieldType := fun k => match k with
  | _ => .int
abbrev wsJ00 : List Cond := u_ws RJ0 TJ0 0
theorem nmJ0 : ∀ a, a < 0 → ∀ b, b < 0 → a ≠ b → (TJ0 a).2.1 ≠ (TJ0 b).2.1 := by decide +kernel
theorem tyJ0_ok : ∀ k, k < 0 → parseFieldDescriptor (TJ0 k).2.2.1 = some (tyJ0 k) := by decide +kernel
def RJ10 : String := "java/lang/System"
def TJ10 : u_T := fun k => match k with
  | _ => ("", "", "", false)
def tyJ10 : Nat → FieldType := fun k => match k with
  | _ => .int
abbrev wsJ100 : List Cond := u_ws RJ10 TJ10 0
theorem nmJ10 : ∀ a, a < 0 → ∀ b, b < 0 → a ≠ b → (TJ10 a).2.1 ≠ (TJ10 b).2.1 := by decide +kernel
theorem tyJ10_ok : ∀ k, k < 0 → parseFieldDescriptor (TJ10 k).2.2.1 = some (tyJ10 k) := by decide +kernel
def RL : String := "CoverMeterLaw"
abbrev cL_cell : ByteArray := method_2_code
def yL_cell : MethodName := ⟨RL, "cell", "([II)I"⟩
abbrev cL_up : ByteArray := method_3_code
def yL_up : MethodName := ⟨RL, "up", "(II)I"⟩
abbrev cL_some : ByteArray := method_4_code
def yL_some : MethodName := ⟨RL, "some", "(II)J"⟩
abbrev cL_view : ByteArray := method_5_code
def yL_view : MethodName := ⟨RL, "view", "(LCoverMeter;)J"⟩
abbrev cL_any : ByteArray := method_6_code
def yL_any : MethodName := ⟨RL, "any", "(LCoverMeter;II)I"⟩
abbrev cL_turn : ByteArray := method_7_code
def yL_turn : MethodName := ⟨RL, "turn", "(LCoverMeter;III)I"⟩
abbrev cL_tries : ByteArray := method_8_code
def yL_tries : MethodName := ⟨RL, "tries", "(LCoverMeter;III)I"⟩
abbrev cL_isAbsenceRight : ByteArray := method_9_code
def yL_isAbsenceRight : MethodName := ⟨RL, "isAbsenceRight", "(LCoverMeter;I)Z"⟩
abbrev cL_ones : ByteArray := method_10_code
def yL_ones : MethodName := ⟨RL, "ones", "(J)I"⟩
abbrev cL_areRight : ByteArray := method_11_code
def yL_areRight : MethodName := ⟨RL, "areRight", "(LCoverMeter;)Z"⟩
abbrev cL_isUndone : ByteArray := method_12_code
def yL_isUndone : MethodName := ⟨RL, "isUndone", "(LCoverMeter;IIIIJ)Z"⟩
abbrev cL_law : ByteArray := code
def yL_law : MethodName := ⟨RL, "law", "([I)Z"⟩
def wsX0_init : List Cond := .code yX0_init cX0_init 1 none :: ([.methodLink RX0 3 objectInit, .instanceMethod objectInit, .code objectInit ⟨#[0xb1]⟩ 1 none, .arrayClass .int, .fieldLink RX0 9 "CoverMeter$Orders" "text" "[I"] ++ wsX00)
def wsX1_init : List Cond := .code yX1_init cX1_init 1 none :: ([.methodLink RX1 3 objectInit, .instanceMethod objectInit, .code objectInit ⟨#[0xb1]⟩ 1 none, .arrayClass .int, .fieldLink RX1 9 "CoverMeter$State" "settings" "[I", .arrayClass .long, .fieldLink RX1 15 "CoverMeter$State" "rosters" "[J", .fieldLink RX1 19 "CoverMeter$State" "away" "[J", .fieldLink RX1 22 "CoverMeter$State" "covering" "[J", .fieldLink RX1 25 "CoverMeter$State" "meters" "[I", .fieldLink RX1 28 "CoverMeter$State" "turns" "[I", .fieldLink RX1 31 "CoverMeter$State" "absentees" "[I", .fieldLink RX1 34 "CoverMeter$State" "shifts" "[I", .fieldLink RX1 37 "CoverMeter$State" "statuses" "[I", .fieldLink RX1 40 "CoverMeter$State" "coverers" "[I", .fieldLink RX1 43 "CoverMeter$State" "points" "[I", .fieldLink RX1 46 "CoverMeter$State" "bids" "[I", .methodLink RX1 52 arraycopyName, .native arraycopyName, .static arraycopyName, .initialized "java/lang/System"] ++ wsX10)
def wsX1_copyFrom : List Cond := .code yX1_copyFrom cX1_copyFrom 2 none :: ([.fieldLink RX1 9 "CoverMeter$State" "settings" "[I", .methodLink RX1 52 arraycopyName, .native arraycopyName, .static arraycopyName, .initialized "java/lang/System", .fieldLink RX1 58 "CoverMeter$State" "handedOver" "I", .fieldLink RX1 62 "CoverMeter$State" "persons" "I", .fieldLink RX1 15 "CoverMeter$State" "rosters" "[J", .fieldLink RX1 19 "CoverMeter$State" "away" "[J", .fieldLink RX1 22 "CoverMeter$State" "covering" "[J", .fieldLink RX1 25 "CoverMeter$State" "meters" "[I", .fieldLink RX1 28 "CoverMeter$State" "turns" "[I", .fieldLink RX1 65 "CoverMeter$State" "absences" "I", .fieldLink RX1 31 "CoverMeter$State" "absentees" "[I", .fieldLink RX1 34 "CoverMeter$State" "shifts" "[I", .fieldLink RX1 37 "CoverMeter$State" "statuses" "[I", .fieldLink RX1 40 "CoverMeter$State" "coverers" "[I", .fieldLink RX1 43 "CoverMeter$State" "points" "[I", .fieldLink RX1 46 "CoverMeter$State" "bids" "[I"] ++ wsX10)
def wsX1_hasPerson : List Cond := .code yX1_hasPerson cX1_hasPerson 2 (some .boolean) :: ([.fieldLink RX1 62 "CoverMeter$State" "persons" "I"] ++ wsX10)
def wsX1_hasAbsence : List Cond := .code yX1_hasAbsence cX1_hasAbsence 2 (some .boolean) :: ([.fieldLink RX1 65 "CoverMeter$State" "absences" "I"] ++ wsX10)
def wsX1_isCovered : List Cond := .code yX1_isCovered cX1_isCovered 2 (some .boolean) :: ([.fieldLink RX1 37 "CoverMeter$State" "statuses" "[I"] ++ wsX10)
def wsX1_enterPerson : List Cond := .code yX1_enterPerson cX1_enterPerson 4 (some .int) :: ([.fieldLink RX1 62 "CoverMeter$State" "persons" "I", .fieldLink RX1 15 "CoverMeter$State" "rosters" "[J", .fieldLink RX1 19 "CoverMeter$State" "away" "[J", .fieldLink RX1 22 "CoverMeter$State" "covering" "[J", .fieldLink RX1 25 "CoverMeter$State" "meters" "[I", .fieldLink RX1 28 "CoverMeter$State" "turns" "[I"] ++ wsX10)
def wsX1_canChangeRoster : List Cond := .code yX1_canChangeRoster cX1_canChangeRoster 7 (some .boolean) :: ([.fieldLink RX1 15 "CoverMeter$State" "rosters" "[J", .fieldLink RX1 19 "CoverMeter$State" "away" "[J", .fieldLink RX1 22 "CoverMeter$State" "covering" "[J"] ++ wsX10)
def wsX1_canBeAbsent : List Cond := .code yX1_canBeAbsent cX1_canBeAbsent 5 (some .boolean) :: ([.fieldLink RX1 15 "CoverMeter$State" "rosters" "[J", .fieldLink RX1 19 "CoverMeter$State" "away" "[J", .constantLong RX1 68 (-1), .fieldLink RX1 65 "CoverMeter$State" "absences" "I"] ++ wsX10)
def wsX2_bidIndex : List Cond := .code yX2_bidIndex cX2_bidIndex 2 (some .int) :: ([])
def wsX1_dropBids : List Cond := .code yX1_dropBids cX1_dropBids 3 none :: ([.fieldLink RX1 46 "CoverMeter$State" "bids" "[I", .static yX2_bidIndex, .initialized RX2, .code yX2_bidIndex cX2_bidIndex 2 (some .int)] ++ wsX10)
def wsX1_enterAbsence : List Cond := .code yX1_enterAbsence cX1_enterAbsence 4 (some .int) :: ([.fieldLink RX1 65 "CoverMeter$State" "absences" "I", .fieldLink RX1 31 "CoverMeter$State" "absentees" "[I", .fieldLink RX1 34 "CoverMeter$State" "shifts" "[I", .fieldLink RX1 37 "CoverMeter$State" "statuses" "[I", .fieldLink RX1 40 "CoverMeter$State" "coverers" "[I", .fieldLink RX1 43 "CoverMeter$State" "points" "[I", .fieldLink RX1 19 "CoverMeter$State" "away" "[J", .methodLink RX1 70 yX1_dropBids, .instanceMethod yX1_dropBids, .selects RX1 yX1_dropBids yX1_dropBids, .initialized RX1, .code yX1_dropBids cX1_dropBids 3 none, .fieldLink RX1 46 "CoverMeter$State" "bids" "[I", .static yX2_bidIndex, .initialized RX2, .code yX2_bidIndex cX2_bidIndex 2 (some .int)] ++ wsX10)
def wsX1_canBid : List Cond := .code yX1_canBid cX1_canBid 3 (some .boolean) :: ([.fieldLink RX1 37 "CoverMeter$State" "statuses" "[I", .fieldLink RX1 31 "CoverMeter$State" "absentees" "[I"] ++ wsX10)
def wsX1_bidsFor : List Cond := .code yX1_bidsFor cX1_bidsFor 4 (some .int) :: ([.fieldLink RX1 62 "CoverMeter$State" "persons" "I", .fieldLink RX1 46 "CoverMeter$State" "bids" "[I", .static yX2_bidIndex, .initialized RX2, .code yX2_bidIndex cX2_bidIndex 2 (some .int)] ++ wsX10)
def wsX1_bidsBy : List Cond := .code yX1_bidsBy cX1_bidsBy 4 (some .int) :: ([.fieldLink RX1 65 "CoverMeter$State" "absences" "I", .fieldLink RX1 46 "CoverMeter$State" "bids" "[I", .static yX2_bidIndex, .initialized RX2, .code yX2_bidIndex cX2_bidIndex 2 (some .int)] ++ wsX10)
def wsX1_worked : List Cond := .code yX1_worked cX1_worked 2 (some .long) :: ([.fieldLink RX1 15 "CoverMeter$State" "rosters" "[J", .fieldLink RX1 19 "CoverMeter$State" "away" "[J", .constantLong RX1 68 (-1), .fieldLink RX1 22 "CoverMeter$State" "covering" "[J"] ++ wsX10)
def wsX1_restBehind : List Cond := .code yX1_restBehind cX1_restBehind 6 (some .long) :: ([.fieldLink RX1 9 "CoverMeter$State" "settings" "[I"] ++ wsX10)
def wsX1_restBefore : List Cond := .code yX1_restBefore cX1_restBefore 6 (some .long) :: ([.fieldLink RX1 9 "CoverMeter$State" "settings" "[I"] ++ wsX10)
def wsX1_hindrance : List Cond := .code yX1_hindrance cX1_hindrance 7 (some .int) :: ([.fieldLink RX1 31 "CoverMeter$State" "absentees" "[I", .fieldLink RX1 34 "CoverMeter$State" "shifts" "[I", .fieldLink RX1 19 "CoverMeter$State" "away" "[J", .methodLink RX1 78 yX1_worked, .instanceMethod yX1_worked, .selects RX1 yX1_worked yX1_worked, .initialized RX1, .code yX1_worked cX1_worked 2 (some .long), .fieldLink RX1 15 "CoverMeter$State" "rosters" "[J", .constantLong RX1 68 (-1), .fieldLink RX1 22 "CoverMeter$State" "covering" "[J", .methodLink RX1 84 yX1_restBehind, .instanceMethod yX1_restBehind, .selects RX1 yX1_restBehind yX1_restBehind, .code yX1_restBehind cX1_restBehind 6 (some .long), .fieldLink RX1 9 "CoverMeter$State" "settings" "[I", .methodLink RX1 88 yX1_restBefore, .instanceMethod yX1_restBefore, .selects RX1 yX1_restBefore yX1_restBefore, .code yX1_restBefore cX1_restBefore 6 (some .long)] ++ wsX10)
def wsX1_personsWhoCanCover_r1 : List Cond := [Cond.fieldLink RX1 62 "CoverMeter$State" "persons" "I", Cond.methodLink RX1 91 yX1_hindrance, Cond.instanceMethod yX1_hindrance, Cond.selects RX1 yX1_hindrance yX1_hindrance, Cond.initialized RX1, Cond.code yX1_hindrance cX1_hindrance 7 (some .int), Cond.fieldLink RX1 31 "CoverMeter$State" "absentees" "[I", Cond.fieldLink RX1 34 "CoverMeter$State" "shifts" "[I", Cond.fieldLink RX1 19 "CoverMeter$State" "away" "[J", Cond.methodLink RX1 78 yX1_worked, Cond.instanceMethod yX1_worked, Cond.selects RX1 yX1_worked yX1_worked, Cond.code yX1_worked cX1_worked 2 (some .long), Cond.fieldLink RX1 15 "CoverMeter$State" "rosters" "[J", Cond.constantLong RX1 68 (-1), Cond.fieldLink RX1 22 "CoverMeter$State" "covering" "[J", Cond.methodLink RX1 84 yX1_restBehind, Cond.instanceMethod yX1_restBehind, Cond.selects RX1 yX1_restBehind yX1_restBehind, Cond.code yX1_restBehind cX1_restBehind 6 (some .long), Cond.fieldLink RX1 9 "CoverMeter$State" "settings" "[I", Cond.methodLink RX1 88 yX1_restBefore, Cond.instanceMethod yX1_restBefore, Cond.selects RX1 yX1_restBefore yX1_restBefore]
def wsX1_personsWhoCanCover_r2 : List Cond := [Cond.code yX1_restBefore cX1_restBefore 6 (some .long)]
def wsX1_personsWhoCanCover : List Cond := .code yX1_personsWhoCanCover cX1_personsWhoCanCover 4 (some .int) :: ((wsX1_personsWhoCanCover_r1 ++ wsX1_personsWhoCanCover_r2) ++ wsX10)
def wsX1_isLess : List Cond := .code yX1_isLess cX1_isLess 4 (some .boolean) :: ([])
def wsX1_comesBefore : List Cond := .code yX1_comesBefore cX1_comesBefore 6 (some .boolean) :: ([.fieldLink RX1 46 "CoverMeter$State" "bids" "[I", .fieldLink RX1 28 "CoverMeter$State" "turns" "[I", .fieldLink RX1 25 "CoverMeter$State" "meters" "[I", .static yX2_bidIndex, .initialized RX2, .code yX2_bidIndex cX2_bidIndex 2 (some .int), .methodLink RX1 98 yX1_isLess, .static yX1_isLess, .initialized RX1, .code yX1_isLess cX1_isLess 4 (some .boolean)] ++ wsX10)
def wsX1_nextCoverer_r1 : List Cond := [Cond.fieldLink RX1 37 "CoverMeter$State" "statuses" "[I", Cond.fieldLink RX1 62 "CoverMeter$State" "persons" "I", Cond.methodLink RX1 91 yX1_hindrance, Cond.instanceMethod yX1_hindrance, Cond.selects RX1 yX1_hindrance yX1_hindrance, Cond.initialized RX1, Cond.code yX1_hindrance cX1_hindrance 7 (some .int), Cond.fieldLink RX1 31 "CoverMeter$State" "absentees" "[I", Cond.fieldLink RX1 34 "CoverMeter$State" "shifts" "[I", Cond.fieldLink RX1 19 "CoverMeter$State" "away" "[J", Cond.methodLink RX1 78 yX1_worked, Cond.instanceMethod yX1_worked, Cond.selects RX1 yX1_worked yX1_worked, Cond.code yX1_worked cX1_worked 2 (some .long), Cond.fieldLink RX1 15 "CoverMeter$State" "rosters" "[J", Cond.constantLong RX1 68 (-1), Cond.fieldLink RX1 22 "CoverMeter$State" "covering" "[J", Cond.methodLink RX1 84 yX1_restBehind, Cond.instanceMethod yX1_restBehind, Cond.selects RX1 yX1_restBehind yX1_restBehind, Cond.code yX1_restBehind cX1_restBehind 6 (some .long), Cond.fieldLink RX1 9 "CoverMeter$State" "settings" "[I", Cond.methodLink RX1 88 yX1_restBefore, Cond.instanceMethod yX1_restBefore]
def wsX1_nextCoverer_r2 : List Cond := [Cond.selects RX1 yX1_restBefore yX1_restBefore, Cond.code yX1_restBefore cX1_restBefore 6 (some .long), Cond.methodLink RX1 94 yX1_comesBefore, Cond.instanceMethod yX1_comesBefore, Cond.selects RX1 yX1_comesBefore yX1_comesBefore, Cond.code yX1_comesBefore cX1_comesBefore 6 (some .boolean), Cond.fieldLink RX1 46 "CoverMeter$State" "bids" "[I", Cond.fieldLink RX1 28 "CoverMeter$State" "turns" "[I", Cond.fieldLink RX1 25 "CoverMeter$State" "meters" "[I", Cond.static yX2_bidIndex, Cond.initialized RX2, Cond.code yX2_bidIndex cX2_bidIndex 2 (some .int), Cond.methodLink RX1 98 yX1_isLess, Cond.static yX1_isLess, Cond.code yX1_isLess cX1_isLess 4 (some .boolean)]
def wsX1_nextCoverer : List Cond := .code yX1_nextCoverer cX1_nextCoverer 4 (some .int) :: ((wsX1_nextCoverer_r1 ++ wsX1_nextCoverer_r2) ++ wsX10)
def wsX1_coverOpen_r1 : List Cond := [Cond.fieldLink RX1 46 "CoverMeter$State" "bids" "[I", Cond.fieldLink RX1 37 "CoverMeter$State" "statuses" "[I", Cond.fieldLink RX1 43 "CoverMeter$State" "points" "[I", Cond.fieldLink RX1 9 "CoverMeter$State" "settings" "[I", Cond.fieldLink RX1 28 "CoverMeter$State" "turns" "[I", Cond.fieldLink RX1 40 "CoverMeter$State" "coverers" "[I", Cond.fieldLink RX1 22 "CoverMeter$State" "covering" "[J", Cond.fieldLink RX1 34 "CoverMeter$State" "shifts" "[I", Cond.fieldLink RX1 25 "CoverMeter$State" "meters" "[I", Cond.fieldLink RX1 31 "CoverMeter$State" "absentees" "[I", Cond.methodLink RX1 102 yX1_nextCoverer, Cond.instanceMethod yX1_nextCoverer, Cond.selects RX1 yX1_nextCoverer yX1_nextCoverer, Cond.initialized RX1, Cond.code yX1_nextCoverer cX1_nextCoverer 4 (some .int), Cond.fieldLink RX1 62 "CoverMeter$State" "persons" "I", Cond.methodLink RX1 91 yX1_hindrance, Cond.instanceMethod yX1_hindrance, Cond.selects RX1 yX1_hindrance yX1_hindrance, Cond.code yX1_hindrance cX1_hindrance 7 (some .int), Cond.fieldLink RX1 19 "CoverMeter$State" "away" "[J", Cond.methodLink RX1 78 yX1_worked, Cond.instanceMethod yX1_worked, Cond.selects RX1 yX1_worked yX1_worked]
def wsX1_coverOpen_r2 : List Cond := [Cond.code yX1_worked cX1_worked 2 (some .long), Cond.fieldLink RX1 15 "CoverMeter$State" "rosters" "[J", Cond.constantLong RX1 68 (-1), Cond.methodLink RX1 84 yX1_restBehind, Cond.instanceMethod yX1_restBehind, Cond.selects RX1 yX1_restBehind yX1_restBehind, Cond.code yX1_restBehind cX1_restBehind 6 (some .long), Cond.methodLink RX1 88 yX1_restBefore, Cond.instanceMethod yX1_restBefore, Cond.selects RX1 yX1_restBefore yX1_restBefore, Cond.code yX1_restBefore cX1_restBefore 6 (some .long), Cond.methodLink RX1 94 yX1_comesBefore, Cond.instanceMethod yX1_comesBefore, Cond.selects RX1 yX1_comesBefore yX1_comesBefore, Cond.code yX1_comesBefore cX1_comesBefore 6 (some .boolean), Cond.static yX2_bidIndex, Cond.initialized RX2, Cond.code yX2_bidIndex cX2_bidIndex 2 (some .int), Cond.methodLink RX1 98 yX1_isLess, Cond.static yX1_isLess, Cond.code yX1_isLess cX1_isLess 4 (some .boolean), Cond.methodLink RX1 70 yX1_dropBids, Cond.instanceMethod yX1_dropBids, Cond.selects RX1 yX1_dropBids yX1_dropBids]
def wsX1_coverOpen_r3 : List Cond := [Cond.code yX1_dropBids cX1_dropBids 3 none]
def wsX1_coverOpen : List Cond := .code yX1_coverOpen cX1_coverOpen 4 (some .boolean) :: ((wsX1_coverOpen_r1 ++ (wsX1_coverOpen_r2 ++ wsX1_coverOpen_r3)) ++ wsX10)
def wsX1_coverAllOpen_r1 : List Cond := [Cond.fieldLink RX1 65 "CoverMeter$State" "absences" "I", Cond.methodLink RX1 106 yX1_coverOpen, Cond.instanceMethod yX1_coverOpen, Cond.selects RX1 yX1_coverOpen yX1_coverOpen, Cond.initialized RX1, Cond.code yX1_coverOpen cX1_coverOpen 4 (some .boolean), Cond.fieldLink RX1 46 "CoverMeter$State" "bids" "[I", Cond.fieldLink RX1 37 "CoverMeter$State" "statuses" "[I", Cond.fieldLink RX1 43 "CoverMeter$State" "points" "[I", Cond.fieldLink RX1 9 "CoverMeter$State" "settings" "[I", Cond.fieldLink RX1 28 "CoverMeter$State" "turns" "[I", Cond.fieldLink RX1 40 "CoverMeter$State" "coverers" "[I", Cond.fieldLink RX1 22 "CoverMeter$State" "covering" "[J", Cond.fieldLink RX1 34 "CoverMeter$State" "shifts" "[I", Cond.fieldLink RX1 25 "CoverMeter$State" "meters" "[I", Cond.fieldLink RX1 31 "CoverMeter$State" "absentees" "[I", Cond.methodLink RX1 102 yX1_nextCoverer, Cond.instanceMethod yX1_nextCoverer, Cond.selects RX1 yX1_nextCoverer yX1_nextCoverer, Cond.code yX1_nextCoverer cX1_nextCoverer 4 (some .int), Cond.fieldLink RX1 62 "CoverMeter$State" "persons" "I", Cond.methodLink RX1 91 yX1_hindrance, Cond.instanceMethod yX1_hindrance, Cond.selects RX1 yX1_hindrance yX1_hindrance]
def wsX1_coverAllOpen_r2 : List Cond := [Cond.code yX1_hindrance cX1_hindrance 7 (some .int), Cond.fieldLink RX1 19 "CoverMeter$State" "away" "[J", Cond.methodLink RX1 78 yX1_worked, Cond.instanceMethod yX1_worked, Cond.selects RX1 yX1_worked yX1_worked, Cond.code yX1_worked cX1_worked 2 (some .long), Cond.fieldLink RX1 15 "CoverMeter$State" "rosters" "[J", Cond.constantLong RX1 68 (-1), Cond.methodLink RX1 84 yX1_restBehind, Cond.instanceMethod yX1_restBehind, Cond.selects RX1 yX1_restBehind yX1_restBehind, Cond.code yX1_restBehind cX1_restBehind 6 (some .long), Cond.methodLink RX1 88 yX1_restBefore, Cond.instanceMethod yX1_restBefore, Cond.selects RX1 yX1_restBefore yX1_restBefore, Cond.code yX1_restBefore cX1_restBefore 6 (some .long), Cond.methodLink RX1 94 yX1_comesBefore, Cond.instanceMethod yX1_comesBefore, Cond.selects RX1 yX1_comesBefore yX1_comesBefore, Cond.code yX1_comesBefore cX1_comesBefore 6 (some .boolean), Cond.static yX2_bidIndex, Cond.initialized RX2, Cond.code yX2_bidIndex cX2_bidIndex 2 (some .int), Cond.methodLink RX1 98 yX1_isLess]
def wsX1_coverAllOpen_r3 : List Cond := [Cond.static yX1_isLess, Cond.code yX1_isLess cX1_isLess 4 (some .boolean), Cond.methodLink RX1 70 yX1_dropBids, Cond.instanceMethod yX1_dropBids, Cond.selects RX1 yX1_dropBids yX1_dropBids, Cond.code yX1_dropBids cX1_dropBids 3 none]
def wsX1_coverAllOpen : List Cond := .code yX1_coverAllOpen cX1_coverAllOpen 3 (some .int) :: ((wsX1_coverAllOpen_r1 ++ (wsX1_coverAllOpen_r2 ++ wsX1_coverAllOpen_r3)) ++ wsX10)
def wsX1_moveCover : List Cond := .code yX1_moveCover cX1_moveCover 6 none :: ([.fieldLink RX1 34 "CoverMeter$State" "shifts" "[I", .fieldLink RX1 40 "CoverMeter$State" "coverers" "[I", .fieldLink RX1 22 "CoverMeter$State" "covering" "[J", .constantLong RX1 68 (-1), .fieldLink RX1 25 "CoverMeter$State" "meters" "[I", .fieldLink RX1 43 "CoverMeter$State" "points" "[I", .fieldLink RX1 58 "CoverMeter$State" "handedOver" "I"] ++ wsX10)
def wsJ13_bitCount_95d88 : List Cond := .code yJ13_bitCount_95d88 cJ13_bitCount_95d88 2 (some .int) :: ([.constantLong RJ13 314 (6148914691236517205), .constantLong RJ13 316 (3689348814741910323), .constantLong RJ13 318 (1085102592571150095)])
def wsX1_aboutPerson_r1 : List Cond := [Cond.fieldLink RX1 15 "CoverMeter$State" "rosters" "[J", Cond.fieldLink RX1 19 "CoverMeter$State" "away" "[J", Cond.fieldLink RX1 22 "CoverMeter$State" "covering" "[J", Cond.fieldLink RX1 25 "CoverMeter$State" "meters" "[I", Cond.fieldLink RX1 28 "CoverMeter$State" "turns" "[I", Cond.methodLink RX1 110 yJ13_bitCount_95d88, Cond.static yJ13_bitCount_95d88, Cond.initialized RJ13, Cond.code yJ13_bitCount_95d88 cJ13_bitCount_95d88 2 (some .int), Cond.constantLong RJ13 314 (6148914691236517205), Cond.constantLong RJ13 316 (3689348814741910323), Cond.constantLong RJ13 318 (1085102592571150095), Cond.methodLink RX1 78 yX1_worked, Cond.instanceMethod yX1_worked, Cond.selects RX1 yX1_worked yX1_worked, Cond.initialized RX1, Cond.code yX1_worked cX1_worked 2 (some .long), Cond.constantLong RX1 68 (-1), Cond.methodLink RX1 116 yX1_bidsBy, Cond.instanceMethod yX1_bidsBy, Cond.selects RX1 yX1_bidsBy yX1_bidsBy, Cond.code yX1_bidsBy cX1_bidsBy 4 (some .int), Cond.fieldLink RX1 65 "CoverMeter$State" "absences" "I", Cond.fieldLink RX1 46 "CoverMeter$State" "bids" "[I"]
def wsX1_aboutPerson_r2 : List Cond := [Cond.static yX2_bidIndex, Cond.initialized RX2, Cond.code yX2_bidIndex cX2_bidIndex 2 (some .int)]
def wsX1_aboutPerson : List Cond := .code yX1_aboutPerson cX1_aboutPerson 3 (some .int) :: ((wsX1_aboutPerson_r1 ++ wsX1_aboutPerson_r2) ++ wsX10)
def wsX1_aboutAbsence_r1 : List Cond := [Cond.fieldLink RX1 31 "CoverMeter$State" "absentees" "[I", Cond.fieldLink RX1 34 "CoverMeter$State" "shifts" "[I", Cond.fieldLink RX1 37 "CoverMeter$State" "statuses" "[I", Cond.fieldLink RX1 40 "CoverMeter$State" "coverers" "[I", Cond.fieldLink RX1 43 "CoverMeter$State" "points" "[I", Cond.methodLink RX1 119 yX1_bidsFor, Cond.instanceMethod yX1_bidsFor, Cond.selects RX1 yX1_bidsFor yX1_bidsFor, Cond.initialized RX1, Cond.code yX1_bidsFor cX1_bidsFor 4 (some .int), Cond.fieldLink RX1 62 "CoverMeter$State" "persons" "I", Cond.fieldLink RX1 46 "CoverMeter$State" "bids" "[I", Cond.static yX2_bidIndex, Cond.initialized RX2, Cond.code yX2_bidIndex cX2_bidIndex 2 (some .int), Cond.methodLink RX1 122 yX1_personsWhoCanCover, Cond.instanceMethod yX1_personsWhoCanCover, Cond.selects RX1 yX1_personsWhoCanCover yX1_personsWhoCanCover, Cond.code yX1_personsWhoCanCover cX1_personsWhoCanCover 4 (some .int), Cond.methodLink RX1 91 yX1_hindrance, Cond.instanceMethod yX1_hindrance, Cond.selects RX1 yX1_hindrance yX1_hindrance, Cond.code yX1_hindrance cX1_hindrance 7 (some .int), Cond.fieldLink RX1 19 "CoverMeter$State" "away" "[J"]
def wsX1_aboutAbsence_r2 : List Cond := [Cond.methodLink RX1 78 yX1_worked, Cond.instanceMethod yX1_worked, Cond.selects RX1 yX1_worked yX1_worked, Cond.code yX1_worked cX1_worked 2 (some .long), Cond.fieldLink RX1 15 "CoverMeter$State" "rosters" "[J", Cond.constantLong RX1 68 (-1), Cond.fieldLink RX1 22 "CoverMeter$State" "covering" "[J", Cond.methodLink RX1 84 yX1_restBehind, Cond.instanceMethod yX1_restBehind, Cond.selects RX1 yX1_restBehind yX1_restBehind, Cond.code yX1_restBehind cX1_restBehind 6 (some .long), Cond.fieldLink RX1 9 "CoverMeter$State" "settings" "[I", Cond.methodLink RX1 88 yX1_restBefore, Cond.instanceMethod yX1_restBefore, Cond.selects RX1 yX1_restBefore yX1_restBefore, Cond.code yX1_restBefore cX1_restBefore 6 (some .long)]
def wsX1_aboutAbsence : List Cond := .code yX1_aboutAbsence cX1_aboutAbsence 3 (some .int) :: ((wsX1_aboutAbsence_r1 ++ wsX1_aboutAbsence_r2) ++ wsX10)
def wsX1_countOf : List Cond := .code yX1_countOf cX1_countOf 4 (some .int) :: ([.fieldLink RX1 65 "CoverMeter$State" "absences" "I", .fieldLink RX1 37 "CoverMeter$State" "statuses" "[I"] ++ wsX10)
def wsX1_greatestMeter : List Cond := .code yX1_greatestMeter cX1_greatestMeter 3 (some .int) :: ([.fieldLink RX1 62 "CoverMeter$State" "persons" "I", .fieldLink RX1 25 "CoverMeter$State" "meters" "[I", .methodLink RX1 141 Lib.Math.max.name, .static Lib.Math.max.name, .initialized "java/lang/Math", .code Lib.Math.max.name Lib.Math.max.code 2 (some .int)] ++ wsX10)
def wsX1_lowestMeter : List Cond := .code yX1_lowestMeter cX1_lowestMeter 3 (some .int) :: ([.fieldLink RX1 62 "CoverMeter$State" "persons" "I", .fieldLink RX1 25 "CoverMeter$State" "meters" "[I", .methodLink RX1 146 Lib.Math.min.name, .static Lib.Math.min.name, .initialized "java/lang/Math", .code Lib.Math.min.name Lib.Math.min.code 2 (some .int)] ++ wsX10)
def wsX1_allBids : List Cond := .code yX1_allBids cX1_allBids 3 (some .int) :: ([.fieldLink RX1 65 "CoverMeter$State" "absences" "I", .methodLink RX1 119 yX1_bidsFor, .instanceMethod yX1_bidsFor, .selects RX1 yX1_bidsFor yX1_bidsFor, .initialized RX1, .code yX1_bidsFor cX1_bidsFor 4 (some .int), .fieldLink RX1 62 "CoverMeter$State" "persons" "I", .fieldLink RX1 46 "CoverMeter$State" "bids" "[I", .static yX2_bidIndex, .initialized RX2, .code yX2_bidIndex cX2_bidIndex 2 (some .int)] ++ wsX10)
def wsX1_allPoints : List Cond := .code yX1_allPoints cX1_allPoints 3 (some .int) :: ([.fieldLink RX1 65 "CoverMeter$State" "absences" "I", .fieldLink RX1 43 "CoverMeter$State" "points" "[I"] ++ wsX10)
def wsX1_aboutAll_r1 : List Cond := [Cond.fieldLink RX1 62 "CoverMeter$State" "persons" "I", Cond.fieldLink RX1 65 "CoverMeter$State" "absences" "I", Cond.fieldLink RX1 58 "CoverMeter$State" "handedOver" "I", Cond.methodLink RX1 125 yX1_countOf, Cond.instanceMethod yX1_countOf, Cond.selects RX1 yX1_countOf yX1_countOf, Cond.initialized RX1, Cond.code yX1_countOf cX1_countOf 4 (some .int), Cond.fieldLink RX1 37 "CoverMeter$State" "statuses" "[I", Cond.methodLink RX1 128 yX1_greatestMeter, Cond.instanceMethod yX1_greatestMeter, Cond.selects RX1 yX1_greatestMeter yX1_greatestMeter, Cond.code yX1_greatestMeter cX1_greatestMeter 3 (some .int), Cond.fieldLink RX1 25 "CoverMeter$State" "meters" "[I", Cond.methodLink RX1 141 Lib.Math.max.name, Cond.static Lib.Math.max.name, Cond.initialized "java/lang/Math", Cond.code Lib.Math.max.name Lib.Math.max.code 2 (some .int), Cond.methodLink RX1 132 yX1_lowestMeter, Cond.instanceMethod yX1_lowestMeter, Cond.selects RX1 yX1_lowestMeter yX1_lowestMeter, Cond.code yX1_lowestMeter cX1_lowestMeter 3 (some .int), Cond.methodLink RX1 146 Lib.Math.min.name, Cond.static Lib.Math.min.name]
def wsX1_aboutAll_r2 : List Cond := [Cond.code Lib.Math.min.name Lib.Math.min.code 2 (some .int), Cond.methodLink RX1 135 yX1_allBids, Cond.instanceMethod yX1_allBids, Cond.selects RX1 yX1_allBids yX1_allBids, Cond.code yX1_allBids cX1_allBids 3 (some .int), Cond.methodLink RX1 119 yX1_bidsFor, Cond.instanceMethod yX1_bidsFor, Cond.selects RX1 yX1_bidsFor yX1_bidsFor, Cond.code yX1_bidsFor cX1_bidsFor 4 (some .int), Cond.fieldLink RX1 46 "CoverMeter$State" "bids" "[I", Cond.static yX2_bidIndex, Cond.initialized RX2, Cond.code yX2_bidIndex cX2_bidIndex 2 (some .int), Cond.methodLink RX1 138 yX1_allPoints, Cond.instanceMethod yX1_allPoints, Cond.selects RX1 yX1_allPoints yX1_allPoints, Cond.code yX1_allPoints cX1_allPoints 3 (some .int), Cond.fieldLink RX1 43 "CoverMeter$State" "points" "[I"]
def wsX1_aboutAll : List Cond := .code yX1_aboutAll cX1_aboutAll 2 (some .int) :: ((wsX1_aboutAll_r1 ++ wsX1_aboutAll_r2) ++ wsX10)
def wsX2_init_r1 : List Cond := [Cond.methodLink RX2 3 objectInit, Cond.instanceMethod objectInit, Cond.code objectInit ⟨#[0xb1]⟩ 1 none, Cond.classLink RX2 9 RX1, Cond.instantiable RX1 15, Cond.initialized RX1, Cond.fieldLink RX2 12 "CoverMeter" "now" "LCoverMeter$State;", Cond.fieldLink RX2 16 "CoverMeter" "trial" "LCoverMeter$State;", Cond.fieldLink RX2 19 "CoverMeter" "saved" "[LCoverMeter$State;", Cond.classLink RX2 23 RX0, Cond.instantiable RX0 8, Cond.initialized RX0, Cond.fieldLink RX2 26 "CoverMeter" "orders" "LCoverMeter$Orders;", Cond.methodLink RX2 11 yX1_init, Cond.instanceMethod yX1_init, Cond.code yX1_init cX1_init 1 none, Cond.methodLink RX1 3 objectInit, Cond.arrayClass .int, Cond.fieldLink RX1 9 "CoverMeter$State" "settings" "[I", Cond.arrayClass .long, Cond.fieldLink RX1 15 "CoverMeter$State" "rosters" "[J", Cond.fieldLink RX1 19 "CoverMeter$State" "away" "[J", Cond.fieldLink RX1 22 "CoverMeter$State" "covering" "[J", Cond.fieldLink RX1 25 "CoverMeter$State" "meters" "[I"]
def wsX2_init_r2 : List Cond := [Cond.fieldLink RX1 28 "CoverMeter$State" "turns" "[I", Cond.fieldLink RX1 31 "CoverMeter$State" "absentees" "[I", Cond.fieldLink RX1 34 "CoverMeter$State" "shifts" "[I", Cond.fieldLink RX1 37 "CoverMeter$State" "statuses" "[I", Cond.fieldLink RX1 40 "CoverMeter$State" "coverers" "[I", Cond.fieldLink RX1 43 "CoverMeter$State" "points" "[I", Cond.fieldLink RX1 46 "CoverMeter$State" "bids" "[I", Cond.methodLink RX1 52 arraycopyName, Cond.native arraycopyName, Cond.static arraycopyName, Cond.initialized "java/lang/System", Cond.instanceMethod yX0_init, Cond.code yX0_init cX0_init 1 none, Cond.methodLink RX0 3 objectInit, Cond.fieldLink RX0 9 "CoverMeter$Orders" "text" "[I"]
def wsX2_init : List Cond := .code yX2_init cX2_init 2 none :: ((wsX2_init_r1 ++ wsX2_init_r2) ++ wsX10 ++ wsX20 ++ wsX00)
def wsX2_needInRange : List Cond := .code yX2_needInRange cX2_needInRange 3 none :: ([.classLink RX2 49 "java/lang/IllegalArgumentException", .initialized "java/lang/IllegalArgumentException"] ++ (vx_atS RX2 53 "java/lang/IllegalArgumentException" ["java/lang/RuntimeException", "java/lang/Exception"]).filter goodWord)
def wsX2_dropOldest : List Cond := .code yX2_dropOldest cX2_dropOldest 3 none :: ([.fieldLink RX2 19 "CoverMeter" "saved" "[LCoverMeter$State;", .fieldLink RX2 196 "CoverMeter" "savedStates" "I"] ++ wsX20)
def wsX2_save_r1 : List Cond := [Cond.fieldLink RX2 196 "CoverMeter" "savedStates" "I", Cond.fieldLink RX2 19 "CoverMeter" "saved" "[LCoverMeter$State;", Cond.fieldLink RX2 12 "CoverMeter" "now" "LCoverMeter$State;", Cond.methodLink RX2 233 yX2_dropOldest, Cond.instanceMethod yX2_dropOldest, Cond.selects RX2 yX2_dropOldest yX2_dropOldest, Cond.initialized RX2, Cond.code yX2_dropOldest cX2_dropOldest 3 none, Cond.methodLink RX2 152 yX1_copyFrom, Cond.instanceMethod yX1_copyFrom, Cond.selects RX1 yX1_copyFrom yX1_copyFrom, Cond.initialized RX1, Cond.code yX1_copyFrom cX1_copyFrom 2 none, Cond.fieldLink RX1 9 "CoverMeter$State" "settings" "[I", Cond.methodLink RX1 52 arraycopyName, Cond.native arraycopyName, Cond.static arraycopyName, Cond.initialized "java/lang/System", Cond.fieldLink RX1 58 "CoverMeter$State" "handedOver" "I", Cond.fieldLink RX1 62 "CoverMeter$State" "persons" "I", Cond.fieldLink RX1 15 "CoverMeter$State" "rosters" "[J", Cond.fieldLink RX1 19 "CoverMeter$State" "away" "[J", Cond.fieldLink RX1 22 "CoverMeter$State" "covering" "[J", Cond.fieldLink RX1 25 "CoverMeter$State" "meters" "[I"]
def wsX2_save_r2 : List Cond := [Cond.fieldLink RX1 28 "CoverMeter$State" "turns" "[I", Cond.fieldLink RX1 65 "CoverMeter$State" "absences" "I", Cond.fieldLink RX1 31 "CoverMeter$State" "absentees" "[I", Cond.fieldLink RX1 34 "CoverMeter$State" "shifts" "[I", Cond.fieldLink RX1 37 "CoverMeter$State" "statuses" "[I", Cond.fieldLink RX1 40 "CoverMeter$State" "coverers" "[I", Cond.fieldLink RX1 43 "CoverMeter$State" "points" "[I", Cond.fieldLink RX1 46 "CoverMeter$State" "bids" "[I"]
def wsX2_save : List Cond := .code yX2_save cX2_save 1 none :: ((wsX2_save_r1 ++ wsX2_save_r2) ++ wsX20 ++ wsX10)
def wsX2_set_r1 : List Cond := [Cond.fieldLink RX2 34 "CoverMeter" "LOWEST_SETTING" "[I", Cond.fieldLink RX2 38 "CoverMeter" "GREATEST_SETTING" "[I", Cond.fieldLink RX2 12 "CoverMeter" "now" "LCoverMeter$State;", Cond.fieldLink RX2 44 "CoverMeter$State" "settings" "[I", Cond.methodLink RX2 30 yX2_needInRange, Cond.static yX2_needInRange, Cond.initialized RX2, Cond.code yX2_needInRange cX2_needInRange 3 none, Cond.classLink RX2 49 "java/lang/IllegalArgumentException", Cond.initialized "java/lang/IllegalArgumentException", Cond.methodLink RX2 41 yX2_save, Cond.instanceMethod yX2_save, Cond.selects RX2 yX2_save yX2_save, Cond.code yX2_save cX2_save 1 none, Cond.fieldLink RX2 196 "CoverMeter" "savedStates" "I", Cond.fieldLink RX2 19 "CoverMeter" "saved" "[LCoverMeter$State;", Cond.methodLink RX2 233 yX2_dropOldest, Cond.instanceMethod yX2_dropOldest, Cond.selects RX2 yX2_dropOldest yX2_dropOldest, Cond.code yX2_dropOldest cX2_dropOldest 3 none, Cond.methodLink RX2 152 yX1_copyFrom, Cond.instanceMethod yX1_copyFrom, Cond.selects RX1 yX1_copyFrom yX1_copyFrom, Cond.initialized RX1]
def wsX2_set_r2 : List Cond := [Cond.code yX1_copyFrom cX1_copyFrom 2 none, Cond.fieldLink RX1 9 "CoverMeter$State" "settings" "[I", Cond.methodLink RX1 52 arraycopyName, Cond.native arraycopyName, Cond.static arraycopyName, Cond.initialized "java/lang/System", Cond.fieldLink RX1 58 "CoverMeter$State" "handedOver" "I", Cond.fieldLink RX1 62 "CoverMeter$State" "persons" "I", Cond.fieldLink RX1 15 "CoverMeter$State" "rosters" "[J", Cond.fieldLink RX1 19 "CoverMeter$State" "away" "[J", Cond.fieldLink RX1 22 "CoverMeter$State" "covering" "[J", Cond.fieldLink RX1 25 "CoverMeter$State" "meters" "[I", Cond.fieldLink RX1 28 "CoverMeter$State" "turns" "[I", Cond.fieldLink RX1 65 "CoverMeter$State" "absences" "I", Cond.fieldLink RX1 31 "CoverMeter$State" "absentees" "[I", Cond.fieldLink RX1 34 "CoverMeter$State" "shifts" "[I", Cond.fieldLink RX1 37 "CoverMeter$State" "statuses" "[I", Cond.fieldLink RX1 40 "CoverMeter$State" "coverers" "[I", Cond.fieldLink RX1 43 "CoverMeter$State" "points" "[I", Cond.fieldLink RX1 46 "CoverMeter$State" "bids" "[I"]
def wsX2_set : List Cond := .code yX2_set cX2_set 4 (some .int) :: ((wsX2_set_r1 ++ wsX2_set_r2) ++ wsX20 ++ wsX10 ++ (vx_atS RX2 53 "java/lang/IllegalArgumentException" ["java/lang/RuntimeException", "java/lang/Exception"]).filter goodWord)
def wsX2_needAllowed : List Cond := .code yX2_needAllowed cX2_needAllowed 1 none :: ([.classLink RX2 228 "java/lang/IllegalStateException", .initialized "java/lang/IllegalStateException"] ++ (vx_atS RX2 232 "java/lang/IllegalStateException" ["java/lang/RuntimeException", "java/lang/Exception"]).filter goodWord)
def wsX2_addPerson_r1 : List Cond := [Cond.classLink RX2 49 "java/lang/IllegalArgumentException", Cond.initialized "java/lang/IllegalArgumentException", Cond.constantLong RX2 47 (4398046511103), Cond.fieldLink RX2 12 "CoverMeter" "now" "LCoverMeter$State;", Cond.fieldLink RX2 56 "CoverMeter$State" "persons" "I", Cond.methodLink RX2 60 yX2_needAllowed, Cond.static yX2_needAllowed, Cond.initialized RX2, Cond.code yX2_needAllowed cX2_needAllowed 1 none, Cond.classLink RX2 228 "java/lang/IllegalStateException", Cond.initialized "java/lang/IllegalStateException", Cond.methodLink RX2 41 yX2_save, Cond.instanceMethod yX2_save, Cond.selects RX2 yX2_save yX2_save, Cond.code yX2_save cX2_save 1 none, Cond.fieldLink RX2 196 "CoverMeter" "savedStates" "I", Cond.fieldLink RX2 19 "CoverMeter" "saved" "[LCoverMeter$State;", Cond.methodLink RX2 233 yX2_dropOldest, Cond.instanceMethod yX2_dropOldest, Cond.selects RX2 yX2_dropOldest yX2_dropOldest, Cond.code yX2_dropOldest cX2_dropOldest 3 none, Cond.methodLink RX2 152 yX1_copyFrom, Cond.instanceMethod yX1_copyFrom, Cond.selects RX1 yX1_copyFrom yX1_copyFrom]
def wsX2_addPerson_r2 : List Cond := [Cond.initialized RX1, Cond.code yX1_copyFrom cX1_copyFrom 2 none, Cond.fieldLink RX1 9 "CoverMeter$State" "settings" "[I", Cond.methodLink RX1 52 arraycopyName, Cond.native arraycopyName, Cond.static arraycopyName, Cond.initialized "java/lang/System", Cond.fieldLink RX1 58 "CoverMeter$State" "handedOver" "I", Cond.fieldLink RX1 62 "CoverMeter$State" "persons" "I", Cond.fieldLink RX1 15 "CoverMeter$State" "rosters" "[J", Cond.fieldLink RX1 19 "CoverMeter$State" "away" "[J", Cond.fieldLink RX1 22 "CoverMeter$State" "covering" "[J", Cond.fieldLink RX1 25 "CoverMeter$State" "meters" "[I", Cond.fieldLink RX1 28 "CoverMeter$State" "turns" "[I", Cond.fieldLink RX1 65 "CoverMeter$State" "absences" "I", Cond.fieldLink RX1 31 "CoverMeter$State" "absentees" "[I", Cond.fieldLink RX1 34 "CoverMeter$State" "shifts" "[I", Cond.fieldLink RX1 37 "CoverMeter$State" "statuses" "[I", Cond.fieldLink RX1 40 "CoverMeter$State" "coverers" "[I", Cond.fieldLink RX1 43 "CoverMeter$State" "points" "[I", Cond.fieldLink RX1 46 "CoverMeter$State" "bids" "[I", Cond.methodLink RX2 64 yX1_enterPerson, Cond.instanceMethod yX1_enterPerson, Cond.selects RX1 yX1_enterPerson yX1_enterPerson]
def wsX2_addPerson_r3 : List Cond := [Cond.code yX1_enterPerson cX1_enterPerson 4 (some .int)]
def wsX2_addPerson : List Cond := .code yX2_addPerson cX2_addPerson 3 (some .int) :: ((wsX2_addPerson_r1 ++ (wsX2_addPerson_r2 ++ wsX2_addPerson_r3)) ++ wsX20 ++ wsX10 ++ (vx_atS RX2 53 "java/lang/IllegalArgumentException" ["java/lang/RuntimeException", "java/lang/Exception"]).filter goodWord ++ (vx_atS RX2 232 "java/lang/IllegalStateException" ["java/lang/RuntimeException", "java/lang/Exception"]).filter goodWord)
def wsX2_needPerson : List Cond := .code yX2_needPerson cX2_needPerson 2 none :: ([.classLink RX2 216 "java/lang/IndexOutOfBoundsException", .initialized "java/lang/IndexOutOfBoundsException", .fieldLink RX2 12 "CoverMeter" "now" "LCoverMeter$State;", .methodLink RX2 213 yX1_hasPerson, .instanceMethod yX1_hasPerson, .selects RX1 yX1_hasPerson yX1_hasPerson, .initialized RX1, .code yX1_hasPerson cX1_hasPerson 2 (some .boolean), .fieldLink RX1 62 "CoverMeter$State" "persons" "I"] ++ wsX20 ++ wsX10 ++ (vx_atS RX2 220 "java/lang/IndexOutOfBoundsException" ["java/lang/RuntimeException", "java/lang/Exception"]).filter goodWord)
def wsX2_roster_r1 : List Cond := [Cond.fieldLink RX2 12 "CoverMeter" "now" "LCoverMeter$State;", Cond.fieldLink RX2 76 "CoverMeter$State" "rosters" "[J", Cond.methodLink RX2 68 yX2_needPerson, Cond.instanceMethod yX2_needPerson, Cond.selects RX2 yX2_needPerson yX2_needPerson, Cond.initialized RX2, Cond.code yX2_needPerson cX2_needPerson 2 none, Cond.classLink RX2 216 "java/lang/IndexOutOfBoundsException", Cond.initialized "java/lang/IndexOutOfBoundsException", Cond.methodLink RX2 213 yX1_hasPerson, Cond.instanceMethod yX1_hasPerson, Cond.selects RX1 yX1_hasPerson yX1_hasPerson, Cond.initialized RX1, Cond.code yX1_hasPerson cX1_hasPerson 2 (some .boolean), Cond.fieldLink RX1 62 "CoverMeter$State" "persons" "I", Cond.methodLink RX2 30 yX2_needInRange, Cond.static yX2_needInRange, Cond.code yX2_needInRange cX2_needInRange 3 none, Cond.classLink RX2 49 "java/lang/IllegalArgumentException", Cond.initialized "java/lang/IllegalArgumentException", Cond.methodLink RX2 72 yX1_canChangeRoster, Cond.instanceMethod yX1_canChangeRoster, Cond.selects RX1 yX1_canChangeRoster yX1_canChangeRoster, Cond.code yX1_canChangeRoster cX1_canChangeRoster 7 (some .boolean)]
def wsX2_roster_r2 : List Cond := [Cond.fieldLink RX1 15 "CoverMeter$State" "rosters" "[J", Cond.fieldLink RX1 19 "CoverMeter$State" "away" "[J", Cond.fieldLink RX1 22 "CoverMeter$State" "covering" "[J", Cond.methodLink RX2 60 yX2_needAllowed, Cond.static yX2_needAllowed, Cond.code yX2_needAllowed cX2_needAllowed 1 none, Cond.classLink RX2 228 "java/lang/IllegalStateException", Cond.initialized "java/lang/IllegalStateException", Cond.methodLink RX2 41 yX2_save, Cond.instanceMethod yX2_save, Cond.selects RX2 yX2_save yX2_save, Cond.code yX2_save cX2_save 1 none, Cond.fieldLink RX2 196 "CoverMeter" "savedStates" "I", Cond.fieldLink RX2 19 "CoverMeter" "saved" "[LCoverMeter$State;", Cond.methodLink RX2 233 yX2_dropOldest, Cond.instanceMethod yX2_dropOldest, Cond.selects RX2 yX2_dropOldest yX2_dropOldest, Cond.code yX2_dropOldest cX2_dropOldest 3 none, Cond.methodLink RX2 152 yX1_copyFrom, Cond.instanceMethod yX1_copyFrom, Cond.selects RX1 yX1_copyFrom yX1_copyFrom, Cond.code yX1_copyFrom cX1_copyFrom 2 none, Cond.fieldLink RX1 9 "CoverMeter$State" "settings" "[I", Cond.methodLink RX1 52 arraycopyName]
def wsX2_roster_r3 : List Cond := [Cond.native arraycopyName, Cond.static arraycopyName, Cond.initialized "java/lang/System", Cond.fieldLink RX1 58 "CoverMeter$State" "handedOver" "I", Cond.fieldLink RX1 25 "CoverMeter$State" "meters" "[I", Cond.fieldLink RX1 28 "CoverMeter$State" "turns" "[I", Cond.fieldLink RX1 65 "CoverMeter$State" "absences" "I", Cond.fieldLink RX1 31 "CoverMeter$State" "absentees" "[I", Cond.fieldLink RX1 34 "CoverMeter$State" "shifts" "[I", Cond.fieldLink RX1 37 "CoverMeter$State" "statuses" "[I", Cond.fieldLink RX1 40 "CoverMeter$State" "coverers" "[I", Cond.fieldLink RX1 43 "CoverMeter$State" "points" "[I", Cond.fieldLink RX1 46 "CoverMeter$State" "bids" "[I", Cond.methodLink RX2 80 yJ13_bitCount_95d88, Cond.static yJ13_bitCount_95d88, Cond.initialized RJ13, Cond.code yJ13_bitCount_95d88 cJ13_bitCount_95d88 2 (some .int), Cond.constantLong RJ13 314 (6148914691236517205), Cond.constantLong RJ13 316 (3689348814741910323), Cond.constantLong RJ13 318 (1085102592571150095)]
def wsX2_roster : List Cond := .code yX2_roster cX2_roster 4 (some .int) :: ((wsX2_roster_r1 ++ (wsX2_roster_r2 ++ wsX2_roster_r3)) ++ wsX20 ++ wsX10 ++ (vx_atS RX2 220 "java/lang/IndexOutOfBoundsException" ["java/lang/RuntimeException", "java/lang/Exception"]).filter goodWord ++ (vx_atS RX2 53 "java/lang/IllegalArgumentException" ["java/lang/RuntimeException", "java/lang/Exception"]).filter goodWord ++ (vx_atS RX2 232 "java/lang/IllegalStateException" ["java/lang/RuntimeException", "java/lang/Exception"]).filter goodWord)
def wsX2_absent_r1 : List Cond := [Cond.fieldLink RX2 12 "CoverMeter" "now" "LCoverMeter$State;", Cond.methodLink RX2 68 yX2_needPerson, Cond.instanceMethod yX2_needPerson, Cond.selects RX2 yX2_needPerson yX2_needPerson, Cond.initialized RX2, Cond.code yX2_needPerson cX2_needPerson 2 none, Cond.classLink RX2 216 "java/lang/IndexOutOfBoundsException", Cond.initialized "java/lang/IndexOutOfBoundsException", Cond.methodLink RX2 213 yX1_hasPerson, Cond.instanceMethod yX1_hasPerson, Cond.selects RX1 yX1_hasPerson yX1_hasPerson, Cond.initialized RX1, Cond.code yX1_hasPerson cX1_hasPerson 2 (some .boolean), Cond.fieldLink RX1 62 "CoverMeter$State" "persons" "I", Cond.methodLink RX2 30 yX2_needInRange, Cond.static yX2_needInRange, Cond.code yX2_needInRange cX2_needInRange 3 none, Cond.classLink RX2 49 "java/lang/IllegalArgumentException", Cond.initialized "java/lang/IllegalArgumentException", Cond.methodLink RX2 85 yX1_canBeAbsent, Cond.instanceMethod yX1_canBeAbsent, Cond.selects RX1 yX1_canBeAbsent yX1_canBeAbsent, Cond.code yX1_canBeAbsent cX1_canBeAbsent 5 (some .boolean), Cond.fieldLink RX1 15 "CoverMeter$State" "rosters" "[J"]
def wsX2_absent_r2 : List Cond := [Cond.fieldLink RX1 19 "CoverMeter$State" "away" "[J", Cond.constantLong RX1 68 (-1), Cond.fieldLink RX1 65 "CoverMeter$State" "absences" "I", Cond.methodLink RX2 60 yX2_needAllowed, Cond.static yX2_needAllowed, Cond.code yX2_needAllowed cX2_needAllowed 1 none, Cond.classLink RX2 228 "java/lang/IllegalStateException", Cond.initialized "java/lang/IllegalStateException", Cond.methodLink RX2 41 yX2_save, Cond.instanceMethod yX2_save, Cond.selects RX2 yX2_save yX2_save, Cond.code yX2_save cX2_save 1 none, Cond.fieldLink RX2 196 "CoverMeter" "savedStates" "I", Cond.fieldLink RX2 19 "CoverMeter" "saved" "[LCoverMeter$State;", Cond.methodLink RX2 233 yX2_dropOldest, Cond.instanceMethod yX2_dropOldest, Cond.selects RX2 yX2_dropOldest yX2_dropOldest, Cond.code yX2_dropOldest cX2_dropOldest 3 none, Cond.methodLink RX2 152 yX1_copyFrom, Cond.instanceMethod yX1_copyFrom, Cond.selects RX1 yX1_copyFrom yX1_copyFrom, Cond.code yX1_copyFrom cX1_copyFrom 2 none, Cond.fieldLink RX1 9 "CoverMeter$State" "settings" "[I", Cond.methodLink RX1 52 arraycopyName]
def wsX2_absent_r3 : List Cond := [Cond.native arraycopyName, Cond.static arraycopyName, Cond.initialized "java/lang/System", Cond.fieldLink RX1 58 "CoverMeter$State" "handedOver" "I", Cond.fieldLink RX1 22 "CoverMeter$State" "covering" "[J", Cond.fieldLink RX1 25 "CoverMeter$State" "meters" "[I", Cond.fieldLink RX1 28 "CoverMeter$State" "turns" "[I", Cond.fieldLink RX1 31 "CoverMeter$State" "absentees" "[I", Cond.fieldLink RX1 34 "CoverMeter$State" "shifts" "[I", Cond.fieldLink RX1 37 "CoverMeter$State" "statuses" "[I", Cond.fieldLink RX1 40 "CoverMeter$State" "coverers" "[I", Cond.fieldLink RX1 43 "CoverMeter$State" "points" "[I", Cond.fieldLink RX1 46 "CoverMeter$State" "bids" "[I", Cond.methodLink RX2 89 yX1_enterAbsence, Cond.instanceMethod yX1_enterAbsence, Cond.selects RX1 yX1_enterAbsence yX1_enterAbsence, Cond.code yX1_enterAbsence cX1_enterAbsence 4 (some .int), Cond.methodLink RX1 70 yX1_dropBids, Cond.instanceMethod yX1_dropBids, Cond.selects RX1 yX1_dropBids yX1_dropBids, Cond.code yX1_dropBids cX1_dropBids 3 none, Cond.static yX2_bidIndex, Cond.code yX2_bidIndex cX2_bidIndex 2 (some .int)]
def wsX2_absent : List Cond := .code yX2_absent cX2_absent 3 (some .int) :: ((wsX2_absent_r1 ++ (wsX2_absent_r2 ++ wsX2_absent_r3)) ++ wsX20 ++ wsX10 ++ (vx_atS RX2 220 "java/lang/IndexOutOfBoundsException" ["java/lang/RuntimeException", "java/lang/Exception"]).filter goodWord ++ (vx_atS RX2 53 "java/lang/IllegalArgumentException" ["java/lang/RuntimeException", "java/lang/Exception"]).filter goodWord ++ (vx_atS RX2 232 "java/lang/IllegalStateException" ["java/lang/RuntimeException", "java/lang/Exception"]).filter goodWord)
def wsX2_needAbsence : List Cond := .code yX2_needAbsence cX2_needAbsence 2 none :: ([.classLink RX2 216 "java/lang/IndexOutOfBoundsException", .initialized "java/lang/IndexOutOfBoundsException", .fieldLink RX2 12 "CoverMeter" "now" "LCoverMeter$State;", .methodLink RX2 221 yX1_hasAbsence, .instanceMethod yX1_hasAbsence, .selects RX1 yX1_hasAbsence yX1_hasAbsence, .initialized RX1, .code yX1_hasAbsence cX1_hasAbsence 2 (some .boolean), .fieldLink RX1 65 "CoverMeter$State" "absences" "I"] ++ wsX20 ++ wsX10 ++ (vx_atS RX2 220 "java/lang/IndexOutOfBoundsException" ["java/lang/RuntimeException", "java/lang/Exception"]).filter goodWord)
def wsX2_bid_r1 : List Cond := [Cond.fieldLink RX2 12 "CoverMeter" "now" "LCoverMeter$State;", Cond.fieldLink RX2 44 "CoverMeter$State" "settings" "[I", Cond.fieldLink RX2 99 "CoverMeter$State" "bids" "[I", Cond.methodLink RX2 68 yX2_needPerson, Cond.instanceMethod yX2_needPerson, Cond.selects RX2 yX2_needPerson yX2_needPerson, Cond.initialized RX2, Cond.code yX2_needPerson cX2_needPerson 2 none, Cond.classLink RX2 216 "java/lang/IndexOutOfBoundsException", Cond.initialized "java/lang/IndexOutOfBoundsException", Cond.methodLink RX2 213 yX1_hasPerson, Cond.instanceMethod yX1_hasPerson, Cond.selects RX1 yX1_hasPerson yX1_hasPerson, Cond.initialized RX1, Cond.code yX1_hasPerson cX1_hasPerson 2 (some .boolean), Cond.fieldLink RX1 62 "CoverMeter$State" "persons" "I", Cond.methodLink RX2 93 yX2_needAbsence, Cond.instanceMethod yX2_needAbsence, Cond.selects RX2 yX2_needAbsence yX2_needAbsence, Cond.code yX2_needAbsence cX2_needAbsence 2 none, Cond.methodLink RX2 221 yX1_hasAbsence, Cond.instanceMethod yX1_hasAbsence, Cond.selects RX1 yX1_hasAbsence yX1_hasAbsence, Cond.code yX1_hasAbsence cX1_hasAbsence 2 (some .boolean)]
def wsX2_bid_r2 : List Cond := [Cond.fieldLink RX1 65 "CoverMeter$State" "absences" "I", Cond.methodLink RX2 30 yX2_needInRange, Cond.static yX2_needInRange, Cond.code yX2_needInRange cX2_needInRange 3 none, Cond.classLink RX2 49 "java/lang/IllegalArgumentException", Cond.initialized "java/lang/IllegalArgumentException", Cond.methodLink RX2 96 yX1_canBid, Cond.instanceMethod yX1_canBid, Cond.selects RX1 yX1_canBid yX1_canBid, Cond.code yX1_canBid cX1_canBid 3 (some .boolean), Cond.fieldLink RX1 37 "CoverMeter$State" "statuses" "[I", Cond.fieldLink RX1 31 "CoverMeter$State" "absentees" "[I", Cond.methodLink RX2 60 yX2_needAllowed, Cond.static yX2_needAllowed, Cond.code yX2_needAllowed cX2_needAllowed 1 none, Cond.classLink RX2 228 "java/lang/IllegalStateException", Cond.initialized "java/lang/IllegalStateException", Cond.methodLink RX2 41 yX2_save, Cond.instanceMethod yX2_save, Cond.selects RX2 yX2_save yX2_save, Cond.code yX2_save cX2_save 1 none, Cond.fieldLink RX2 196 "CoverMeter" "savedStates" "I", Cond.fieldLink RX2 19 "CoverMeter" "saved" "[LCoverMeter$State;", Cond.methodLink RX2 233 yX2_dropOldest]
def wsX2_bid_r3 : List Cond := [Cond.instanceMethod yX2_dropOldest, Cond.selects RX2 yX2_dropOldest yX2_dropOldest, Cond.code yX2_dropOldest cX2_dropOldest 3 none, Cond.methodLink RX2 152 yX1_copyFrom, Cond.instanceMethod yX1_copyFrom, Cond.selects RX1 yX1_copyFrom yX1_copyFrom, Cond.code yX1_copyFrom cX1_copyFrom 2 none, Cond.fieldLink RX1 9 "CoverMeter$State" "settings" "[I", Cond.methodLink RX1 52 arraycopyName, Cond.native arraycopyName, Cond.static arraycopyName, Cond.initialized "java/lang/System", Cond.fieldLink RX1 58 "CoverMeter$State" "handedOver" "I", Cond.fieldLink RX1 15 "CoverMeter$State" "rosters" "[J", Cond.fieldLink RX1 19 "CoverMeter$State" "away" "[J", Cond.fieldLink RX1 22 "CoverMeter$State" "covering" "[J", Cond.fieldLink RX1 25 "CoverMeter$State" "meters" "[I", Cond.fieldLink RX1 28 "CoverMeter$State" "turns" "[I", Cond.fieldLink RX1 34 "CoverMeter$State" "shifts" "[I", Cond.fieldLink RX1 40 "CoverMeter$State" "coverers" "[I", Cond.fieldLink RX1 43 "CoverMeter$State" "points" "[I", Cond.fieldLink RX1 46 "CoverMeter$State" "bids" "[I", Cond.methodLink RX2 102 yX2_bidIndex, Cond.static yX2_bidIndex]
def wsX2_bid_r4 : List Cond := [Cond.code yX2_bidIndex cX2_bidIndex 2 (some .int), Cond.methodLink RX2 105 yX1_bidsFor, Cond.instanceMethod yX1_bidsFor, Cond.selects RX1 yX1_bidsFor yX1_bidsFor, Cond.code yX1_bidsFor cX1_bidsFor 4 (some .int)]
def wsX2_bid : List Cond := .code yX2_bid cX2_bid 4 (some .int) :: ((wsX2_bid_r1 ++ (wsX2_bid_r2 ++ (wsX2_bid_r3 ++ wsX2_bid_r4))) ++ wsX20 ++ wsX10 ++ (vx_atS RX2 220 "java/lang/IndexOutOfBoundsException" ["java/lang/RuntimeException", "java/lang/Exception"]).filter goodWord ++ (vx_atS RX2 53 "java/lang/IllegalArgumentException" ["java/lang/RuntimeException", "java/lang/Exception"]).filter goodWord ++ (vx_atS RX2 232 "java/lang/IllegalStateException" ["java/lang/RuntimeException", "java/lang/Exception"]).filter goodWord)
def wsX2_takeBack_r1 : List Cond := [Cond.fieldLink RX2 12 "CoverMeter" "now" "LCoverMeter$State;", Cond.fieldLink RX2 99 "CoverMeter$State" "bids" "[I", Cond.methodLink RX2 68 yX2_needPerson, Cond.instanceMethod yX2_needPerson, Cond.selects RX2 yX2_needPerson yX2_needPerson, Cond.initialized RX2, Cond.code yX2_needPerson cX2_needPerson 2 none, Cond.classLink RX2 216 "java/lang/IndexOutOfBoundsException", Cond.initialized "java/lang/IndexOutOfBoundsException", Cond.methodLink RX2 213 yX1_hasPerson, Cond.instanceMethod yX1_hasPerson, Cond.selects RX1 yX1_hasPerson yX1_hasPerson, Cond.initialized RX1, Cond.code yX1_hasPerson cX1_hasPerson 2 (some .boolean), Cond.fieldLink RX1 62 "CoverMeter$State" "persons" "I", Cond.methodLink RX2 93 yX2_needAbsence, Cond.instanceMethod yX2_needAbsence, Cond.selects RX2 yX2_needAbsence yX2_needAbsence, Cond.code yX2_needAbsence cX2_needAbsence 2 none, Cond.methodLink RX2 221 yX1_hasAbsence, Cond.instanceMethod yX1_hasAbsence, Cond.selects RX1 yX1_hasAbsence yX1_hasAbsence, Cond.code yX1_hasAbsence cX1_hasAbsence 2 (some .boolean), Cond.fieldLink RX1 65 "CoverMeter$State" "absences" "I"]
def wsX2_takeBack_r2 : List Cond := [Cond.methodLink RX2 102 yX2_bidIndex, Cond.static yX2_bidIndex, Cond.code yX2_bidIndex cX2_bidIndex 2 (some .int), Cond.methodLink RX2 60 yX2_needAllowed, Cond.static yX2_needAllowed, Cond.code yX2_needAllowed cX2_needAllowed 1 none, Cond.classLink RX2 228 "java/lang/IllegalStateException", Cond.initialized "java/lang/IllegalStateException", Cond.methodLink RX2 41 yX2_save, Cond.instanceMethod yX2_save, Cond.selects RX2 yX2_save yX2_save, Cond.code yX2_save cX2_save 1 none, Cond.fieldLink RX2 196 "CoverMeter" "savedStates" "I", Cond.fieldLink RX2 19 "CoverMeter" "saved" "[LCoverMeter$State;", Cond.methodLink RX2 233 yX2_dropOldest, Cond.instanceMethod yX2_dropOldest, Cond.selects RX2 yX2_dropOldest yX2_dropOldest, Cond.code yX2_dropOldest cX2_dropOldest 3 none, Cond.methodLink RX2 152 yX1_copyFrom, Cond.instanceMethod yX1_copyFrom, Cond.selects RX1 yX1_copyFrom yX1_copyFrom, Cond.code yX1_copyFrom cX1_copyFrom 2 none, Cond.fieldLink RX1 9 "CoverMeter$State" "settings" "[I", Cond.methodLink RX1 52 arraycopyName]
def wsX2_takeBack_r3 : List Cond := [Cond.native arraycopyName, Cond.static arraycopyName, Cond.initialized "java/lang/System", Cond.fieldLink RX1 58 "CoverMeter$State" "handedOver" "I", Cond.fieldLink RX1 15 "CoverMeter$State" "rosters" "[J", Cond.fieldLink RX1 19 "CoverMeter$State" "away" "[J", Cond.fieldLink RX1 22 "CoverMeter$State" "covering" "[J", Cond.fieldLink RX1 25 "CoverMeter$State" "meters" "[I", Cond.fieldLink RX1 28 "CoverMeter$State" "turns" "[I", Cond.fieldLink RX1 31 "CoverMeter$State" "absentees" "[I", Cond.fieldLink RX1 34 "CoverMeter$State" "shifts" "[I", Cond.fieldLink RX1 37 "CoverMeter$State" "statuses" "[I", Cond.fieldLink RX1 40 "CoverMeter$State" "coverers" "[I", Cond.fieldLink RX1 43 "CoverMeter$State" "points" "[I", Cond.fieldLink RX1 46 "CoverMeter$State" "bids" "[I"]
def wsX2_takeBack : List Cond := .code yX2_takeBack cX2_takeBack 5 (some .int) :: ((wsX2_takeBack_r1 ++ (wsX2_takeBack_r2 ++ wsX2_takeBack_r3)) ++ wsX20 ++ wsX10 ++ (vx_atS RX2 220 "java/lang/IndexOutOfBoundsException" ["java/lang/RuntimeException", "java/lang/Exception"]).filter goodWord ++ (vx_atS RX2 232 "java/lang/IllegalStateException" ["java/lang/RuntimeException", "java/lang/Exception"]).filter goodWord)
def wsX2_cover_r1 : List Cond := [Cond.fieldLink RX2 12 "CoverMeter" "now" "LCoverMeter$State;", Cond.fieldLink RX2 116 "CoverMeter$State" "coverers" "[I", Cond.methodLink RX2 93 yX2_needAbsence, Cond.instanceMethod yX2_needAbsence, Cond.selects RX2 yX2_needAbsence yX2_needAbsence, Cond.initialized RX2, Cond.code yX2_needAbsence cX2_needAbsence 2 none, Cond.classLink RX2 216 "java/lang/IndexOutOfBoundsException", Cond.initialized "java/lang/IndexOutOfBoundsException", Cond.methodLink RX2 221 yX1_hasAbsence, Cond.instanceMethod yX1_hasAbsence, Cond.selects RX1 yX1_hasAbsence yX1_hasAbsence, Cond.initialized RX1, Cond.code yX1_hasAbsence cX1_hasAbsence 2 (some .boolean), Cond.fieldLink RX1 65 "CoverMeter$State" "absences" "I", Cond.methodLink RX2 109 yX1_nextCoverer, Cond.instanceMethod yX1_nextCoverer, Cond.selects RX1 yX1_nextCoverer yX1_nextCoverer, Cond.code yX1_nextCoverer cX1_nextCoverer 4 (some .int), Cond.fieldLink RX1 37 "CoverMeter$State" "statuses" "[I", Cond.fieldLink RX1 62 "CoverMeter$State" "persons" "I", Cond.methodLink RX1 91 yX1_hindrance, Cond.instanceMethod yX1_hindrance, Cond.selects RX1 yX1_hindrance yX1_hindrance]
def wsX2_cover_r2 : List Cond := [Cond.code yX1_hindrance cX1_hindrance 7 (some .int), Cond.fieldLink RX1 31 "CoverMeter$State" "absentees" "[I", Cond.fieldLink RX1 34 "CoverMeter$State" "shifts" "[I", Cond.fieldLink RX1 19 "CoverMeter$State" "away" "[J", Cond.methodLink RX1 78 yX1_worked, Cond.instanceMethod yX1_worked, Cond.selects RX1 yX1_worked yX1_worked, Cond.code yX1_worked cX1_worked 2 (some .long), Cond.fieldLink RX1 15 "CoverMeter$State" "rosters" "[J", Cond.constantLong RX1 68 (-1), Cond.fieldLink RX1 22 "CoverMeter$State" "covering" "[J", Cond.methodLink RX1 84 yX1_restBehind, Cond.instanceMethod yX1_restBehind, Cond.selects RX1 yX1_restBehind yX1_restBehind, Cond.code yX1_restBehind cX1_restBehind 6 (some .long), Cond.fieldLink RX1 9 "CoverMeter$State" "settings" "[I", Cond.methodLink RX1 88 yX1_restBefore, Cond.instanceMethod yX1_restBefore, Cond.selects RX1 yX1_restBefore yX1_restBefore, Cond.code yX1_restBefore cX1_restBefore 6 (some .long), Cond.methodLink RX1 94 yX1_comesBefore, Cond.instanceMethod yX1_comesBefore, Cond.selects RX1 yX1_comesBefore yX1_comesBefore, Cond.code yX1_comesBefore cX1_comesBefore 6 (some .boolean)]
def wsX2_cover_r3 : List Cond := [Cond.fieldLink RX1 46 "CoverMeter$State" "bids" "[I", Cond.fieldLink RX1 28 "CoverMeter$State" "turns" "[I", Cond.fieldLink RX1 25 "CoverMeter$State" "meters" "[I", Cond.static yX2_bidIndex, Cond.code yX2_bidIndex cX2_bidIndex 2 (some .int), Cond.methodLink RX1 98 yX1_isLess, Cond.static yX1_isLess, Cond.code yX1_isLess cX1_isLess 4 (some .boolean), Cond.methodLink RX2 60 yX2_needAllowed, Cond.static yX2_needAllowed, Cond.code yX2_needAllowed cX2_needAllowed 1 none, Cond.classLink RX2 228 "java/lang/IllegalStateException", Cond.initialized "java/lang/IllegalStateException", Cond.methodLink RX2 41 yX2_save, Cond.instanceMethod yX2_save, Cond.selects RX2 yX2_save yX2_save, Cond.code yX2_save cX2_save 1 none, Cond.fieldLink RX2 196 "CoverMeter" "savedStates" "I", Cond.fieldLink RX2 19 "CoverMeter" "saved" "[LCoverMeter$State;", Cond.methodLink RX2 233 yX2_dropOldest, Cond.instanceMethod yX2_dropOldest, Cond.selects RX2 yX2_dropOldest yX2_dropOldest, Cond.code yX2_dropOldest cX2_dropOldest 3 none, Cond.methodLink RX2 152 yX1_copyFrom]
def wsX2_cover_r4 : List Cond := [Cond.instanceMethod yX1_copyFrom, Cond.selects RX1 yX1_copyFrom yX1_copyFrom, Cond.code yX1_copyFrom cX1_copyFrom 2 none, Cond.methodLink RX1 52 arraycopyName, Cond.native arraycopyName, Cond.static arraycopyName, Cond.initialized "java/lang/System", Cond.fieldLink RX1 58 "CoverMeter$State" "handedOver" "I", Cond.fieldLink RX1 40 "CoverMeter$State" "coverers" "[I", Cond.fieldLink RX1 43 "CoverMeter$State" "points" "[I", Cond.methodLink RX2 112 yX1_coverOpen, Cond.instanceMethod yX1_coverOpen, Cond.selects RX1 yX1_coverOpen yX1_coverOpen, Cond.code yX1_coverOpen cX1_coverOpen 4 (some .boolean), Cond.methodLink RX1 102 yX1_nextCoverer, Cond.methodLink RX1 70 yX1_dropBids, Cond.instanceMethod yX1_dropBids, Cond.selects RX1 yX1_dropBids yX1_dropBids, Cond.code yX1_dropBids cX1_dropBids 3 none]
def wsX2_cover : List Cond := .code yX2_cover cX2_cover 2 (some .int) :: ((wsX2_cover_r1 ++ (wsX2_cover_r2 ++ (wsX2_cover_r3 ++ wsX2_cover_r4))) ++ wsX20 ++ wsX10 ++ (vx_atS RX2 220 "java/lang/IndexOutOfBoundsException" ["java/lang/RuntimeException", "java/lang/Exception"]).filter goodWord ++ (vx_atS RX2 232 "java/lang/IllegalStateException" ["java/lang/RuntimeException", "java/lang/Exception"]).filter goodWord)
def wsX2_coverAll_r1 : List Cond := [Cond.fieldLink RX2 12 "CoverMeter" "now" "LCoverMeter$State;", Cond.methodLink RX2 41 yX2_save, Cond.instanceMethod yX2_save, Cond.selects RX2 yX2_save yX2_save, Cond.initialized RX2, Cond.code yX2_save cX2_save 1 none, Cond.fieldLink RX2 196 "CoverMeter" "savedStates" "I", Cond.fieldLink RX2 19 "CoverMeter" "saved" "[LCoverMeter$State;", Cond.methodLink RX2 233 yX2_dropOldest, Cond.instanceMethod yX2_dropOldest, Cond.selects RX2 yX2_dropOldest yX2_dropOldest, Cond.code yX2_dropOldest cX2_dropOldest 3 none, Cond.methodLink RX2 152 yX1_copyFrom, Cond.instanceMethod yX1_copyFrom, Cond.selects RX1 yX1_copyFrom yX1_copyFrom, Cond.initialized RX1, Cond.code yX1_copyFrom cX1_copyFrom 2 none, Cond.fieldLink RX1 9 "CoverMeter$State" "settings" "[I", Cond.methodLink RX1 52 arraycopyName, Cond.native arraycopyName, Cond.static arraycopyName, Cond.initialized "java/lang/System", Cond.fieldLink RX1 58 "CoverMeter$State" "handedOver" "I", Cond.fieldLink RX1 62 "CoverMeter$State" "persons" "I"]
def wsX2_coverAll_r2 : List Cond := [Cond.fieldLink RX1 15 "CoverMeter$State" "rosters" "[J", Cond.fieldLink RX1 19 "CoverMeter$State" "away" "[J", Cond.fieldLink RX1 22 "CoverMeter$State" "covering" "[J", Cond.fieldLink RX1 25 "CoverMeter$State" "meters" "[I", Cond.fieldLink RX1 28 "CoverMeter$State" "turns" "[I", Cond.fieldLink RX1 65 "CoverMeter$State" "absences" "I", Cond.fieldLink RX1 31 "CoverMeter$State" "absentees" "[I", Cond.fieldLink RX1 34 "CoverMeter$State" "shifts" "[I", Cond.fieldLink RX1 37 "CoverMeter$State" "statuses" "[I", Cond.fieldLink RX1 40 "CoverMeter$State" "coverers" "[I", Cond.fieldLink RX1 43 "CoverMeter$State" "points" "[I", Cond.fieldLink RX1 46 "CoverMeter$State" "bids" "[I", Cond.methodLink RX2 119 yX1_coverAllOpen, Cond.instanceMethod yX1_coverAllOpen, Cond.selects RX1 yX1_coverAllOpen yX1_coverAllOpen, Cond.code yX1_coverAllOpen cX1_coverAllOpen 3 (some .int), Cond.methodLink RX1 106 yX1_coverOpen, Cond.instanceMethod yX1_coverOpen, Cond.selects RX1 yX1_coverOpen yX1_coverOpen, Cond.code yX1_coverOpen cX1_coverOpen 4 (some .boolean), Cond.methodLink RX1 102 yX1_nextCoverer, Cond.instanceMethod yX1_nextCoverer, Cond.selects RX1 yX1_nextCoverer yX1_nextCoverer, Cond.code yX1_nextCoverer cX1_nextCoverer 4 (some .int)]
def wsX2_coverAll_r3 : List Cond := [Cond.methodLink RX1 91 yX1_hindrance, Cond.instanceMethod yX1_hindrance, Cond.selects RX1 yX1_hindrance yX1_hindrance, Cond.code yX1_hindrance cX1_hindrance 7 (some .int), Cond.methodLink RX1 78 yX1_worked, Cond.instanceMethod yX1_worked, Cond.selects RX1 yX1_worked yX1_worked, Cond.code yX1_worked cX1_worked 2 (some .long), Cond.constantLong RX1 68 (-1), Cond.methodLink RX1 84 yX1_restBehind, Cond.instanceMethod yX1_restBehind, Cond.selects RX1 yX1_restBehind yX1_restBehind, Cond.code yX1_restBehind cX1_restBehind 6 (some .long), Cond.methodLink RX1 88 yX1_restBefore, Cond.instanceMethod yX1_restBefore, Cond.selects RX1 yX1_restBefore yX1_restBefore, Cond.code yX1_restBefore cX1_restBefore 6 (some .long), Cond.methodLink RX1 94 yX1_comesBefore, Cond.instanceMethod yX1_comesBefore, Cond.selects RX1 yX1_comesBefore yX1_comesBefore, Cond.code yX1_comesBefore cX1_comesBefore 6 (some .boolean), Cond.static yX2_bidIndex, Cond.code yX2_bidIndex cX2_bidIndex 2 (some .int), Cond.methodLink RX1 98 yX1_isLess]
def wsX2_coverAll_r4 : List Cond := [Cond.static yX1_isLess, Cond.code yX1_isLess cX1_isLess 4 (some .boolean), Cond.methodLink RX1 70 yX1_dropBids, Cond.instanceMethod yX1_dropBids, Cond.selects RX1 yX1_dropBids yX1_dropBids, Cond.code yX1_dropBids cX1_dropBids 3 none]
def wsX2_coverAll : List Cond := .code yX2_coverAll cX2_coverAll 1 (some .int) :: ((wsX2_coverAll_r1 ++ (wsX2_coverAll_r2 ++ (wsX2_coverAll_r3 ++ wsX2_coverAll_r4))) ++ wsX20 ++ wsX10)
def wsX2_handOver_r1 : List Cond := [Cond.fieldLink RX2 12 "CoverMeter" "now" "LCoverMeter$State;", Cond.fieldLink RX2 116 "CoverMeter$State" "coverers" "[I", Cond.methodLink RX2 93 yX2_needAbsence, Cond.instanceMethod yX2_needAbsence, Cond.selects RX2 yX2_needAbsence yX2_needAbsence, Cond.initialized RX2, Cond.code yX2_needAbsence cX2_needAbsence 2 none, Cond.classLink RX2 216 "java/lang/IndexOutOfBoundsException", Cond.initialized "java/lang/IndexOutOfBoundsException", Cond.methodLink RX2 221 yX1_hasAbsence, Cond.instanceMethod yX1_hasAbsence, Cond.selects RX1 yX1_hasAbsence yX1_hasAbsence, Cond.initialized RX1, Cond.code yX1_hasAbsence cX1_hasAbsence 2 (some .boolean), Cond.fieldLink RX1 65 "CoverMeter$State" "absences" "I", Cond.methodLink RX2 68 yX2_needPerson, Cond.instanceMethod yX2_needPerson, Cond.selects RX2 yX2_needPerson yX2_needPerson, Cond.code yX2_needPerson cX2_needPerson 2 none, Cond.methodLink RX2 213 yX1_hasPerson, Cond.instanceMethod yX1_hasPerson, Cond.selects RX1 yX1_hasPerson yX1_hasPerson, Cond.code yX1_hasPerson cX1_hasPerson 2 (some .boolean), Cond.fieldLink RX1 62 "CoverMeter$State" "persons" "I"]
def wsX2_handOver_r2 : List Cond := [Cond.methodLink RX2 123 yX1_isCovered, Cond.instanceMethod yX1_isCovered, Cond.selects RX1 yX1_isCovered yX1_isCovered, Cond.code yX1_isCovered cX1_isCovered 2 (some .boolean), Cond.fieldLink RX1 37 "CoverMeter$State" "statuses" "[I", Cond.methodLink RX2 126 yX1_hindrance, Cond.instanceMethod yX1_hindrance, Cond.selects RX1 yX1_hindrance yX1_hindrance, Cond.code yX1_hindrance cX1_hindrance 7 (some .int), Cond.fieldLink RX1 31 "CoverMeter$State" "absentees" "[I", Cond.fieldLink RX1 34 "CoverMeter$State" "shifts" "[I", Cond.fieldLink RX1 19 "CoverMeter$State" "away" "[J", Cond.methodLink RX1 78 yX1_worked, Cond.instanceMethod yX1_worked, Cond.selects RX1 yX1_worked yX1_worked, Cond.code yX1_worked cX1_worked 2 (some .long), Cond.fieldLink RX1 15 "CoverMeter$State" "rosters" "[J", Cond.constantLong RX1 68 (-1), Cond.fieldLink RX1 22 "CoverMeter$State" "covering" "[J", Cond.methodLink RX1 84 yX1_restBehind, Cond.instanceMethod yX1_restBehind, Cond.selects RX1 yX1_restBehind yX1_restBehind, Cond.code yX1_restBehind cX1_restBehind 6 (some .long), Cond.fieldLink RX1 9 "CoverMeter$State" "settings" "[I"]
def wsX2_handOver_r3 : List Cond := [Cond.methodLink RX1 88 yX1_restBefore, Cond.instanceMethod yX1_restBefore, Cond.selects RX1 yX1_restBefore yX1_restBefore, Cond.code yX1_restBefore cX1_restBefore 6 (some .long), Cond.methodLink RX2 60 yX2_needAllowed, Cond.static yX2_needAllowed, Cond.code yX2_needAllowed cX2_needAllowed 1 none, Cond.classLink RX2 228 "java/lang/IllegalStateException", Cond.initialized "java/lang/IllegalStateException", Cond.methodLink RX2 41 yX2_save, Cond.instanceMethod yX2_save, Cond.selects RX2 yX2_save yX2_save, Cond.code yX2_save cX2_save 1 none, Cond.fieldLink RX2 196 "CoverMeter" "savedStates" "I", Cond.fieldLink RX2 19 "CoverMeter" "saved" "[LCoverMeter$State;", Cond.methodLink RX2 233 yX2_dropOldest, Cond.instanceMethod yX2_dropOldest, Cond.selects RX2 yX2_dropOldest yX2_dropOldest, Cond.code yX2_dropOldest cX2_dropOldest 3 none, Cond.methodLink RX2 152 yX1_copyFrom, Cond.instanceMethod yX1_copyFrom, Cond.selects RX1 yX1_copyFrom yX1_copyFrom, Cond.code yX1_copyFrom cX1_copyFrom 2 none, Cond.methodLink RX1 52 arraycopyName]
def wsX2_handOver_r4 : List Cond := [Cond.native arraycopyName, Cond.static arraycopyName, Cond.initialized "java/lang/System", Cond.fieldLink RX1 58 "CoverMeter$State" "handedOver" "I", Cond.fieldLink RX1 25 "CoverMeter$State" "meters" "[I", Cond.fieldLink RX1 28 "CoverMeter$State" "turns" "[I", Cond.fieldLink RX1 40 "CoverMeter$State" "coverers" "[I", Cond.fieldLink RX1 43 "CoverMeter$State" "points" "[I", Cond.fieldLink RX1 46 "CoverMeter$State" "bids" "[I", Cond.methodLink RX2 129 yX1_moveCover, Cond.instanceMethod yX1_moveCover, Cond.selects RX1 yX1_moveCover yX1_moveCover, Cond.code yX1_moveCover cX1_moveCover 6 none]
def wsX2_handOver : List Cond := .code yX2_handOver cX2_handOver 4 (some .int) :: ((wsX2_handOver_r1 ++ (wsX2_handOver_r2 ++ (wsX2_handOver_r3 ++ wsX2_handOver_r4))) ++ wsX20 ++ wsX10 ++ (vx_atS RX2 220 "java/lang/IndexOutOfBoundsException" ["java/lang/RuntimeException", "java/lang/Exception"]).filter goodWord ++ (vx_atS RX2 232 "java/lang/IllegalStateException" ["java/lang/RuntimeException", "java/lang/Exception"]).filter goodWord)
def wsX2_giveUp_r1 : List Cond := [Cond.fieldLink RX2 12 "CoverMeter" "now" "LCoverMeter$State;", Cond.fieldLink RX2 133 "CoverMeter$State" "statuses" "[I", Cond.methodLink RX2 93 yX2_needAbsence, Cond.instanceMethod yX2_needAbsence, Cond.selects RX2 yX2_needAbsence yX2_needAbsence, Cond.initialized RX2, Cond.code yX2_needAbsence cX2_needAbsence 2 none, Cond.classLink RX2 216 "java/lang/IndexOutOfBoundsException", Cond.initialized "java/lang/IndexOutOfBoundsException", Cond.methodLink RX2 221 yX1_hasAbsence, Cond.instanceMethod yX1_hasAbsence, Cond.selects RX1 yX1_hasAbsence yX1_hasAbsence, Cond.initialized RX1, Cond.code yX1_hasAbsence cX1_hasAbsence 2 (some .boolean), Cond.fieldLink RX1 65 "CoverMeter$State" "absences" "I", Cond.methodLink RX2 60 yX2_needAllowed, Cond.static yX2_needAllowed, Cond.code yX2_needAllowed cX2_needAllowed 1 none, Cond.classLink RX2 228 "java/lang/IllegalStateException", Cond.initialized "java/lang/IllegalStateException", Cond.methodLink RX2 41 yX2_save, Cond.instanceMethod yX2_save, Cond.selects RX2 yX2_save yX2_save, Cond.code yX2_save cX2_save 1 none]
def wsX2_giveUp_r2 : List Cond := [Cond.fieldLink RX2 196 "CoverMeter" "savedStates" "I", Cond.fieldLink RX2 19 "CoverMeter" "saved" "[LCoverMeter$State;", Cond.methodLink RX2 233 yX2_dropOldest, Cond.instanceMethod yX2_dropOldest, Cond.selects RX2 yX2_dropOldest yX2_dropOldest, Cond.code yX2_dropOldest cX2_dropOldest 3 none, Cond.methodLink RX2 152 yX1_copyFrom, Cond.instanceMethod yX1_copyFrom, Cond.selects RX1 yX1_copyFrom yX1_copyFrom, Cond.code yX1_copyFrom cX1_copyFrom 2 none, Cond.fieldLink RX1 9 "CoverMeter$State" "settings" "[I", Cond.methodLink RX1 52 arraycopyName, Cond.native arraycopyName, Cond.static arraycopyName, Cond.initialized "java/lang/System", Cond.fieldLink RX1 58 "CoverMeter$State" "handedOver" "I", Cond.fieldLink RX1 62 "CoverMeter$State" "persons" "I", Cond.fieldLink RX1 15 "CoverMeter$State" "rosters" "[J", Cond.fieldLink RX1 19 "CoverMeter$State" "away" "[J", Cond.fieldLink RX1 22 "CoverMeter$State" "covering" "[J", Cond.fieldLink RX1 25 "CoverMeter$State" "meters" "[I", Cond.fieldLink RX1 28 "CoverMeter$State" "turns" "[I", Cond.fieldLink RX1 31 "CoverMeter$State" "absentees" "[I", Cond.fieldLink RX1 34 "CoverMeter$State" "shifts" "[I"]
def wsX2_giveUp_r3 : List Cond := [Cond.fieldLink RX1 37 "CoverMeter$State" "statuses" "[I", Cond.fieldLink RX1 40 "CoverMeter$State" "coverers" "[I", Cond.fieldLink RX1 43 "CoverMeter$State" "points" "[I", Cond.fieldLink RX1 46 "CoverMeter$State" "bids" "[I", Cond.methodLink RX2 105 yX1_bidsFor, Cond.instanceMethod yX1_bidsFor, Cond.selects RX1 yX1_bidsFor yX1_bidsFor, Cond.code yX1_bidsFor cX1_bidsFor 4 (some .int), Cond.static yX2_bidIndex, Cond.code yX2_bidIndex cX2_bidIndex 2 (some .int), Cond.methodLink RX2 136 yX1_dropBids, Cond.instanceMethod yX1_dropBids, Cond.selects RX1 yX1_dropBids yX1_dropBids, Cond.code yX1_dropBids cX1_dropBids 3 none]
def wsX2_giveUp : List Cond := .code yX2_giveUp cX2_giveUp 3 (some .int) :: ((wsX2_giveUp_r1 ++ (wsX2_giveUp_r2 ++ wsX2_giveUp_r3)) ++ wsX20 ++ wsX10 ++ (vx_atS RX2 220 "java/lang/IndexOutOfBoundsException" ["java/lang/RuntimeException", "java/lang/Exception"]).filter goodWord ++ (vx_atS RX2 232 "java/lang/IllegalStateException" ["java/lang/RuntimeException", "java/lang/Exception"]).filter goodWord)
def wsX2_person_r1 : List Cond := [Cond.fieldLink RX2 12 "CoverMeter" "now" "LCoverMeter$State;", Cond.methodLink RX2 68 yX2_needPerson, Cond.instanceMethod yX2_needPerson, Cond.selects RX2 yX2_needPerson yX2_needPerson, Cond.initialized RX2, Cond.code yX2_needPerson cX2_needPerson 2 none, Cond.classLink RX2 216 "java/lang/IndexOutOfBoundsException", Cond.initialized "java/lang/IndexOutOfBoundsException", Cond.methodLink RX2 213 yX1_hasPerson, Cond.instanceMethod yX1_hasPerson, Cond.selects RX1 yX1_hasPerson yX1_hasPerson, Cond.initialized RX1, Cond.code yX1_hasPerson cX1_hasPerson 2 (some .boolean), Cond.fieldLink RX1 62 "CoverMeter$State" "persons" "I", Cond.methodLink RX2 30 yX2_needInRange, Cond.static yX2_needInRange, Cond.code yX2_needInRange cX2_needInRange 3 none, Cond.classLink RX2 49 "java/lang/IllegalArgumentException", Cond.initialized "java/lang/IllegalArgumentException", Cond.methodLink RX2 139 yX1_aboutPerson, Cond.instanceMethod yX1_aboutPerson, Cond.selects RX1 yX1_aboutPerson yX1_aboutPerson, Cond.code yX1_aboutPerson cX1_aboutPerson 3 (some .int), Cond.fieldLink RX1 15 "CoverMeter$State" "rosters" "[J"]
def wsX2_person_r2 : List Cond := [Cond.fieldLink RX1 19 "CoverMeter$State" "away" "[J", Cond.fieldLink RX1 22 "CoverMeter$State" "covering" "[J", Cond.fieldLink RX1 25 "CoverMeter$State" "meters" "[I", Cond.fieldLink RX1 28 "CoverMeter$State" "turns" "[I", Cond.methodLink RX1 110 yJ13_bitCount_95d88, Cond.static yJ13_bitCount_95d88, Cond.initialized RJ13, Cond.code yJ13_bitCount_95d88 cJ13_bitCount_95d88 2 (some .int), Cond.constantLong RJ13 314 (6148914691236517205), Cond.constantLong RJ13 316 (3689348814741910323), Cond.constantLong RJ13 318 (1085102592571150095), Cond.methodLink RX1 78 yX1_worked, Cond.instanceMethod yX1_worked, Cond.selects RX1 yX1_worked yX1_worked, Cond.code yX1_worked cX1_worked 2 (some .long), Cond.constantLong RX1 68 (-1), Cond.methodLink RX1 116 yX1_bidsBy, Cond.instanceMethod yX1_bidsBy, Cond.selects RX1 yX1_bidsBy yX1_bidsBy, Cond.code yX1_bidsBy cX1_bidsBy 4 (some .int), Cond.fieldLink RX1 65 "CoverMeter$State" "absences" "I", Cond.fieldLink RX1 46 "CoverMeter$State" "bids" "[I", Cond.static yX2_bidIndex, Cond.code yX2_bidIndex cX2_bidIndex 2 (some .int)]
def wsX2_person : List Cond := .code yX2_person cX2_person 3 (some .int) :: ((wsX2_person_r1 ++ wsX2_person_r2) ++ wsX20 ++ wsX10 ++ (vx_atS RX2 220 "java/lang/IndexOutOfBoundsException" ["java/lang/RuntimeException", "java/lang/Exception"]).filter goodWord ++ (vx_atS RX2 53 "java/lang/IllegalArgumentException" ["java/lang/RuntimeException", "java/lang/Exception"]).filter goodWord)
def wsX2_work : List Cond := .code yX2_work cX2_work 2 (some .long) :: ([.fieldLink RX2 12 "CoverMeter" "now" "LCoverMeter$State;", .methodLink RX2 68 yX2_needPerson, .instanceMethod yX2_needPerson, .selects RX2 yX2_needPerson yX2_needPerson, .initialized RX2, .code yX2_needPerson cX2_needPerson 2 none, .classLink RX2 216 "java/lang/IndexOutOfBoundsException", .initialized "java/lang/IndexOutOfBoundsException", .methodLink RX2 213 yX1_hasPerson, .instanceMethod yX1_hasPerson, .selects RX1 yX1_hasPerson yX1_hasPerson, .initialized RX1, .code yX1_hasPerson cX1_hasPerson 2 (some .boolean), .fieldLink RX1 62 "CoverMeter$State" "persons" "I", .methodLink RX2 142 yX1_worked, .instanceMethod yX1_worked, .selects RX1 yX1_worked yX1_worked, .code yX1_worked cX1_worked 2 (some .long), .fieldLink RX1 15 "CoverMeter$State" "rosters" "[J", .fieldLink RX1 19 "CoverMeter$State" "away" "[J", .constantLong RX1 68 (-1), .fieldLink RX1 22 "CoverMeter$State" "covering" "[J"] ++ wsX20 ++ wsX10 ++ (vx_atS RX2 220 "java/lang/IndexOutOfBoundsException" ["java/lang/RuntimeException", "java/lang/Exception"]).filter goodWord)
def wsX2_absence_r1 : List Cond := [Cond.fieldLink RX2 12 "CoverMeter" "now" "LCoverMeter$State;", Cond.methodLink RX2 93 yX2_needAbsence, Cond.instanceMethod yX2_needAbsence, Cond.selects RX2 yX2_needAbsence yX2_needAbsence, Cond.initialized RX2, Cond.code yX2_needAbsence cX2_needAbsence 2 none, Cond.classLink RX2 216 "java/lang/IndexOutOfBoundsException", Cond.initialized "java/lang/IndexOutOfBoundsException", Cond.methodLink RX2 221 yX1_hasAbsence, Cond.instanceMethod yX1_hasAbsence, Cond.selects RX1 yX1_hasAbsence yX1_hasAbsence, Cond.initialized RX1, Cond.code yX1_hasAbsence cX1_hasAbsence 2 (some .boolean), Cond.fieldLink RX1 65 "CoverMeter$State" "absences" "I", Cond.methodLink RX2 30 yX2_needInRange, Cond.static yX2_needInRange, Cond.code yX2_needInRange cX2_needInRange 3 none, Cond.classLink RX2 49 "java/lang/IllegalArgumentException", Cond.initialized "java/lang/IllegalArgumentException", Cond.methodLink RX2 146 yX1_aboutAbsence, Cond.instanceMethod yX1_aboutAbsence, Cond.selects RX1 yX1_aboutAbsence yX1_aboutAbsence, Cond.code yX1_aboutAbsence cX1_aboutAbsence 3 (some .int), Cond.fieldLink RX1 31 "CoverMeter$State" "absentees" "[I"]
def wsX2_absence_r2 : List Cond := [Cond.fieldLink RX1 34 "CoverMeter$State" "shifts" "[I", Cond.fieldLink RX1 37 "CoverMeter$State" "statuses" "[I", Cond.fieldLink RX1 40 "CoverMeter$State" "coverers" "[I", Cond.fieldLink RX1 43 "CoverMeter$State" "points" "[I", Cond.methodLink RX1 119 yX1_bidsFor, Cond.instanceMethod yX1_bidsFor, Cond.selects RX1 yX1_bidsFor yX1_bidsFor, Cond.code yX1_bidsFor cX1_bidsFor 4 (some .int), Cond.fieldLink RX1 62 "CoverMeter$State" "persons" "I", Cond.fieldLink RX1 46 "CoverMeter$State" "bids" "[I", Cond.static yX2_bidIndex, Cond.code yX2_bidIndex cX2_bidIndex 2 (some .int), Cond.methodLink RX1 122 yX1_personsWhoCanCover, Cond.instanceMethod yX1_personsWhoCanCover, Cond.selects RX1 yX1_personsWhoCanCover yX1_personsWhoCanCover, Cond.code yX1_personsWhoCanCover cX1_personsWhoCanCover 4 (some .int), Cond.methodLink RX1 91 yX1_hindrance, Cond.instanceMethod yX1_hindrance, Cond.selects RX1 yX1_hindrance yX1_hindrance, Cond.code yX1_hindrance cX1_hindrance 7 (some .int), Cond.fieldLink RX1 19 "CoverMeter$State" "away" "[J", Cond.methodLink RX1 78 yX1_worked, Cond.instanceMethod yX1_worked, Cond.selects RX1 yX1_worked yX1_worked]
def wsX2_absence_r3 : List Cond := [Cond.code yX1_worked cX1_worked 2 (some .long), Cond.fieldLink RX1 15 "CoverMeter$State" "rosters" "[J", Cond.constantLong RX1 68 (-1), Cond.fieldLink RX1 22 "CoverMeter$State" "covering" "[J", Cond.methodLink RX1 84 yX1_restBehind, Cond.instanceMethod yX1_restBehind, Cond.selects RX1 yX1_restBehind yX1_restBehind, Cond.code yX1_restBehind cX1_restBehind 6 (some .long), Cond.fieldLink RX1 9 "CoverMeter$State" "settings" "[I", Cond.methodLink RX1 88 yX1_restBefore, Cond.instanceMethod yX1_restBefore, Cond.selects RX1 yX1_restBefore yX1_restBefore, Cond.code yX1_restBefore cX1_restBefore 6 (some .long)]
def wsX2_absence : List Cond := .code yX2_absence cX2_absence 3 (some .int) :: ((wsX2_absence_r1 ++ (wsX2_absence_r2 ++ wsX2_absence_r3)) ++ wsX20 ++ wsX10 ++ (vx_atS RX2 220 "java/lang/IndexOutOfBoundsException" ["java/lang/RuntimeException", "java/lang/Exception"]).filter goodWord ++ (vx_atS RX2 53 "java/lang/IllegalArgumentException" ["java/lang/RuntimeException", "java/lang/Exception"]).filter goodWord)
def wsX2_bidOf_r1 : List Cond := [Cond.fieldLink RX2 12 "CoverMeter" "now" "LCoverMeter$State;", Cond.fieldLink RX2 99 "CoverMeter$State" "bids" "[I", Cond.methodLink RX2 68 yX2_needPerson, Cond.instanceMethod yX2_needPerson, Cond.selects RX2 yX2_needPerson yX2_needPerson, Cond.initialized RX2, Cond.code yX2_needPerson cX2_needPerson 2 none, Cond.classLink RX2 216 "java/lang/IndexOutOfBoundsException", Cond.initialized "java/lang/IndexOutOfBoundsException", Cond.methodLink RX2 213 yX1_hasPerson, Cond.instanceMethod yX1_hasPerson, Cond.selects RX1 yX1_hasPerson yX1_hasPerson, Cond.initialized RX1, Cond.code yX1_hasPerson cX1_hasPerson 2 (some .boolean), Cond.fieldLink RX1 62 "CoverMeter$State" "persons" "I", Cond.methodLink RX2 93 yX2_needAbsence, Cond.instanceMethod yX2_needAbsence, Cond.selects RX2 yX2_needAbsence yX2_needAbsence, Cond.code yX2_needAbsence cX2_needAbsence 2 none, Cond.methodLink RX2 221 yX1_hasAbsence, Cond.instanceMethod yX1_hasAbsence, Cond.selects RX1 yX1_hasAbsence yX1_hasAbsence, Cond.code yX1_hasAbsence cX1_hasAbsence 2 (some .boolean), Cond.fieldLink RX1 65 "CoverMeter$State" "absences" "I"]
def wsX2_bidOf_r2 : List Cond := [Cond.methodLink RX2 102 yX2_bidIndex, Cond.static yX2_bidIndex, Cond.code yX2_bidIndex cX2_bidIndex 2 (some .int)]
def wsX2_bidOf : List Cond := .code yX2_bidOf cX2_bidOf 3 (some .int) :: ((wsX2_bidOf_r1 ++ wsX2_bidOf_r2) ++ wsX20 ++ wsX10 ++ (vx_atS RX2 220 "java/lang/IndexOutOfBoundsException" ["java/lang/RuntimeException", "java/lang/Exception"]).filter goodWord)
def wsX2_value_r1 : List Cond := [Cond.fieldLink RX2 12 "CoverMeter" "now" "LCoverMeter$State;", Cond.methodLink RX2 30 yX2_needInRange, Cond.static yX2_needInRange, Cond.initialized RX2, Cond.code yX2_needInRange cX2_needInRange 3 none, Cond.classLink RX2 49 "java/lang/IllegalArgumentException", Cond.initialized "java/lang/IllegalArgumentException", Cond.methodLink RX2 149 yX1_aboutAll, Cond.instanceMethod yX1_aboutAll, Cond.selects RX1 yX1_aboutAll yX1_aboutAll, Cond.initialized RX1, Cond.code yX1_aboutAll cX1_aboutAll 2 (some .int), Cond.fieldLink RX1 62 "CoverMeter$State" "persons" "I", Cond.fieldLink RX1 65 "CoverMeter$State" "absences" "I", Cond.fieldLink RX1 58 "CoverMeter$State" "handedOver" "I", Cond.methodLink RX1 125 yX1_countOf, Cond.instanceMethod yX1_countOf, Cond.selects RX1 yX1_countOf yX1_countOf, Cond.code yX1_countOf cX1_countOf 4 (some .int), Cond.fieldLink RX1 37 "CoverMeter$State" "statuses" "[I", Cond.methodLink RX1 128 yX1_greatestMeter, Cond.instanceMethod yX1_greatestMeter, Cond.selects RX1 yX1_greatestMeter yX1_greatestMeter, Cond.code yX1_greatestMeter cX1_greatestMeter 3 (some .int)]
def wsX2_value_r2 : List Cond := [Cond.fieldLink RX1 25 "CoverMeter$State" "meters" "[I", Cond.methodLink RX1 141 Lib.Math.max.name, Cond.static Lib.Math.max.name, Cond.initialized "java/lang/Math", Cond.code Lib.Math.max.name Lib.Math.max.code 2 (some .int), Cond.methodLink RX1 132 yX1_lowestMeter, Cond.instanceMethod yX1_lowestMeter, Cond.selects RX1 yX1_lowestMeter yX1_lowestMeter, Cond.code yX1_lowestMeter cX1_lowestMeter 3 (some .int), Cond.methodLink RX1 146 Lib.Math.min.name, Cond.static Lib.Math.min.name, Cond.code Lib.Math.min.name Lib.Math.min.code 2 (some .int), Cond.methodLink RX1 135 yX1_allBids, Cond.instanceMethod yX1_allBids, Cond.selects RX1 yX1_allBids yX1_allBids, Cond.code yX1_allBids cX1_allBids 3 (some .int), Cond.methodLink RX1 119 yX1_bidsFor, Cond.instanceMethod yX1_bidsFor, Cond.selects RX1 yX1_bidsFor yX1_bidsFor, Cond.code yX1_bidsFor cX1_bidsFor 4 (some .int), Cond.fieldLink RX1 46 "CoverMeter$State" "bids" "[I", Cond.static yX2_bidIndex, Cond.code yX2_bidIndex cX2_bidIndex 2 (some .int), Cond.methodLink RX1 138 yX1_allPoints]
def wsX2_value_r3 : List Cond := [Cond.instanceMethod yX1_allPoints, Cond.selects RX1 yX1_allPoints yX1_allPoints, Cond.code yX1_allPoints cX1_allPoints 3 (some .int), Cond.fieldLink RX1 43 "CoverMeter$State" "points" "[I"]
def wsX2_value : List Cond := .code yX2_value cX2_value 2 (some .int) :: ((wsX2_value_r1 ++ (wsX2_value_r2 ++ wsX2_value_r3)) ++ wsX20 ++ wsX10 ++ (vx_atS RX2 53 "java/lang/IllegalArgumentException" ["java/lang/RuntimeException", "java/lang/Exception"]).filter goodWord)
def wsX2_setting : List Cond := .code yX2_setting cX2_setting 2 (some .int) :: ([.fieldLink RX2 12 "CoverMeter" "now" "LCoverMeter$State;", .fieldLink RX2 44 "CoverMeter$State" "settings" "[I", .methodLink RX2 30 yX2_needInRange, .static yX2_needInRange, .initialized RX2, .code yX2_needInRange cX2_needInRange 3 none, .classLink RX2 49 "java/lang/IllegalArgumentException", .initialized "java/lang/IllegalArgumentException"] ++ wsX20 ++ wsX10 ++ (vx_atS RX2 53 "java/lang/IllegalArgumentException" ["java/lang/RuntimeException", "java/lang/Exception"]).filter goodWord)
def wsX2_undo_r1 : List Cond := [Cond.fieldLink RX2 196 "CoverMeter" "savedStates" "I", Cond.fieldLink RX2 12 "CoverMeter" "now" "LCoverMeter$State;", Cond.fieldLink RX2 19 "CoverMeter" "saved" "[LCoverMeter$State;", Cond.methodLink RX2 60 yX2_needAllowed, Cond.static yX2_needAllowed, Cond.initialized RX2, Cond.code yX2_needAllowed cX2_needAllowed 1 none, Cond.classLink RX2 228 "java/lang/IllegalStateException", Cond.initialized "java/lang/IllegalStateException", Cond.methodLink RX2 152 yX1_copyFrom, Cond.instanceMethod yX1_copyFrom, Cond.selects RX1 yX1_copyFrom yX1_copyFrom, Cond.initialized RX1, Cond.code yX1_copyFrom cX1_copyFrom 2 none, Cond.fieldLink RX1 9 "CoverMeter$State" "settings" "[I", Cond.methodLink RX1 52 arraycopyName, Cond.native arraycopyName, Cond.static arraycopyName, Cond.initialized "java/lang/System", Cond.fieldLink RX1 58 "CoverMeter$State" "handedOver" "I", Cond.fieldLink RX1 62 "CoverMeter$State" "persons" "I", Cond.fieldLink RX1 15 "CoverMeter$State" "rosters" "[J", Cond.fieldLink RX1 19 "CoverMeter$State" "away" "[J", Cond.fieldLink RX1 22 "CoverMeter$State" "covering" "[J"]
def wsX2_undo_r2 : List Cond := [Cond.fieldLink RX1 25 "CoverMeter$State" "meters" "[I", Cond.fieldLink RX1 28 "CoverMeter$State" "turns" "[I", Cond.fieldLink RX1 65 "CoverMeter$State" "absences" "I", Cond.fieldLink RX1 31 "CoverMeter$State" "absentees" "[I", Cond.fieldLink RX1 34 "CoverMeter$State" "shifts" "[I", Cond.fieldLink RX1 37 "CoverMeter$State" "statuses" "[I", Cond.fieldLink RX1 40 "CoverMeter$State" "coverers" "[I", Cond.fieldLink RX1 43 "CoverMeter$State" "points" "[I", Cond.fieldLink RX1 46 "CoverMeter$State" "bids" "[I"]
def wsX2_undo : List Cond := .code yX2_undo cX2_undo 1 (some .int) :: ((wsX2_undo_r1 ++ wsX2_undo_r2) ++ wsX20 ++ wsX10 ++ (vx_atS RX2 232 "java/lang/IllegalStateException" ["java/lang/RuntimeException", "java/lang/Exception"]).filter goodWord)
def wsX2_digestPerson_r1 : List Cond := [Cond.constantLong RX2 201 (31), Cond.fieldLink RX2 12 "CoverMeter" "now" "LCoverMeter$State;", Cond.methodLink RX2 139 yX1_aboutPerson, Cond.instanceMethod yX1_aboutPerson, Cond.selects RX1 yX1_aboutPerson yX1_aboutPerson, Cond.initialized RX1, Cond.code yX1_aboutPerson cX1_aboutPerson 3 (some .int), Cond.fieldLink RX1 15 "CoverMeter$State" "rosters" "[J", Cond.fieldLink RX1 19 "CoverMeter$State" "away" "[J", Cond.fieldLink RX1 22 "CoverMeter$State" "covering" "[J", Cond.fieldLink RX1 25 "CoverMeter$State" "meters" "[I", Cond.fieldLink RX1 28 "CoverMeter$State" "turns" "[I", Cond.methodLink RX1 110 yJ13_bitCount_95d88, Cond.static yJ13_bitCount_95d88, Cond.initialized RJ13, Cond.code yJ13_bitCount_95d88 cJ13_bitCount_95d88 2 (some .int), Cond.constantLong RJ13 314 (6148914691236517205), Cond.constantLong RJ13 316 (3689348814741910323), Cond.constantLong RJ13 318 (1085102592571150095), Cond.methodLink RX1 78 yX1_worked, Cond.instanceMethod yX1_worked, Cond.selects RX1 yX1_worked yX1_worked, Cond.code yX1_worked cX1_worked 2 (some .long), Cond.constantLong RX1 68 (-1)]
def wsX2_digestPerson_r2 : List Cond := [Cond.methodLink RX1 116 yX1_bidsBy, Cond.instanceMethod yX1_bidsBy, Cond.selects RX1 yX1_bidsBy yX1_bidsBy, Cond.code yX1_bidsBy cX1_bidsBy 4 (some .int), Cond.fieldLink RX1 65 "CoverMeter$State" "absences" "I", Cond.fieldLink RX1 46 "CoverMeter$State" "bids" "[I", Cond.static yX2_bidIndex, Cond.initialized RX2, Cond.code yX2_bidIndex cX2_bidIndex 2 (some .int), Cond.methodLink RX2 142 yX1_worked]
def wsX2_digestPerson : List Cond := .code yX2_digestPerson cX2_digestPerson 7 (some .long) :: ((wsX2_digestPerson_r1 ++ wsX2_digestPerson_r2) ++ wsX20 ++ wsX10)
def wsX2_digestAbsence_r1 : List Cond := [Cond.constantLong RX2 201 (31), Cond.fieldLink RX2 12 "CoverMeter" "now" "LCoverMeter$State;", Cond.fieldLink RX2 56 "CoverMeter$State" "persons" "I", Cond.fieldLink RX2 99 "CoverMeter$State" "bids" "[I", Cond.methodLink RX2 146 yX1_aboutAbsence, Cond.instanceMethod yX1_aboutAbsence, Cond.selects RX1 yX1_aboutAbsence yX1_aboutAbsence, Cond.initialized RX1, Cond.code yX1_aboutAbsence cX1_aboutAbsence 3 (some .int), Cond.fieldLink RX1 31 "CoverMeter$State" "absentees" "[I", Cond.fieldLink RX1 34 "CoverMeter$State" "shifts" "[I", Cond.fieldLink RX1 37 "CoverMeter$State" "statuses" "[I", Cond.fieldLink RX1 40 "CoverMeter$State" "coverers" "[I", Cond.fieldLink RX1 43 "CoverMeter$State" "points" "[I", Cond.methodLink RX1 119 yX1_bidsFor, Cond.instanceMethod yX1_bidsFor, Cond.selects RX1 yX1_bidsFor yX1_bidsFor, Cond.code yX1_bidsFor cX1_bidsFor 4 (some .int), Cond.fieldLink RX1 62 "CoverMeter$State" "persons" "I", Cond.fieldLink RX1 46 "CoverMeter$State" "bids" "[I", Cond.static yX2_bidIndex, Cond.initialized RX2, Cond.code yX2_bidIndex cX2_bidIndex 2 (some .int), Cond.methodLink RX1 122 yX1_personsWhoCanCover]
def wsX2_digestAbsence_r2 : List Cond := [Cond.instanceMethod yX1_personsWhoCanCover, Cond.selects RX1 yX1_personsWhoCanCover yX1_personsWhoCanCover, Cond.code yX1_personsWhoCanCover cX1_personsWhoCanCover 4 (some .int), Cond.methodLink RX1 91 yX1_hindrance, Cond.instanceMethod yX1_hindrance, Cond.selects RX1 yX1_hindrance yX1_hindrance, Cond.code yX1_hindrance cX1_hindrance 7 (some .int), Cond.fieldLink RX1 19 "CoverMeter$State" "away" "[J", Cond.methodLink RX1 78 yX1_worked, Cond.instanceMethod yX1_worked, Cond.selects RX1 yX1_worked yX1_worked, Cond.code yX1_worked cX1_worked 2 (some .long), Cond.fieldLink RX1 15 "CoverMeter$State" "rosters" "[J", Cond.constantLong RX1 68 (-1), Cond.fieldLink RX1 22 "CoverMeter$State" "covering" "[J", Cond.methodLink RX1 84 yX1_restBehind, Cond.instanceMethod yX1_restBehind, Cond.selects RX1 yX1_restBehind yX1_restBehind, Cond.code yX1_restBehind cX1_restBehind 6 (some .long), Cond.fieldLink RX1 9 "CoverMeter$State" "settings" "[I", Cond.methodLink RX1 88 yX1_restBefore, Cond.instanceMethod yX1_restBefore, Cond.selects RX1 yX1_restBefore yX1_restBefore, Cond.code yX1_restBefore cX1_restBefore 6 (some .long)]
def wsX2_digestAbsence_r3 : List Cond := [Cond.methodLink RX2 102 yX2_bidIndex]
def wsX2_digestAbsence : List Cond := .code yX2_digestAbsence cX2_digestAbsence 7 (some .long) :: ((wsX2_digestAbsence_r1 ++ (wsX2_digestAbsence_r2 ++ wsX2_digestAbsence_r3)) ++ wsX20 ++ wsX10)
def wsX2_digest_r1 : List Cond := [Cond.constantLong RX2 199 (115537), Cond.fieldLink RX2 26 "CoverMeter" "orders" "LCoverMeter$Orders;", Cond.fieldLink RX2 174 "CoverMeter$Orders" "length" "I", Cond.constantLong RX2 201 (31), Cond.fieldLink RX2 12 "CoverMeter" "now" "LCoverMeter$State;", Cond.fieldLink RX2 44 "CoverMeter$State" "settings" "[I", Cond.fieldLink RX2 56 "CoverMeter$State" "persons" "I", Cond.fieldLink RX2 207 "CoverMeter$State" "absences" "I", Cond.fieldLink RX2 196 "CoverMeter" "savedStates" "I", Cond.methodLink RX2 149 yX1_aboutAll, Cond.instanceMethod yX1_aboutAll, Cond.selects RX1 yX1_aboutAll yX1_aboutAll, Cond.initialized RX1, Cond.code yX1_aboutAll cX1_aboutAll 2 (some .int), Cond.fieldLink RX1 62 "CoverMeter$State" "persons" "I", Cond.fieldLink RX1 65 "CoverMeter$State" "absences" "I", Cond.fieldLink RX1 58 "CoverMeter$State" "handedOver" "I", Cond.methodLink RX1 125 yX1_countOf, Cond.instanceMethod yX1_countOf, Cond.selects RX1 yX1_countOf yX1_countOf, Cond.code yX1_countOf cX1_countOf 4 (some .int), Cond.fieldLink RX1 37 "CoverMeter$State" "statuses" "[I", Cond.methodLink RX1 128 yX1_greatestMeter, Cond.instanceMethod yX1_greatestMeter]
def wsX2_digest_r2 : List Cond := [Cond.selects RX1 yX1_greatestMeter yX1_greatestMeter, Cond.code yX1_greatestMeter cX1_greatestMeter 3 (some .int), Cond.fieldLink RX1 25 "CoverMeter$State" "meters" "[I", Cond.methodLink RX1 141 Lib.Math.max.name, Cond.static Lib.Math.max.name, Cond.initialized "java/lang/Math", Cond.code Lib.Math.max.name Lib.Math.max.code 2 (some .int), Cond.methodLink RX1 132 yX1_lowestMeter, Cond.instanceMethod yX1_lowestMeter, Cond.selects RX1 yX1_lowestMeter yX1_lowestMeter, Cond.code yX1_lowestMeter cX1_lowestMeter 3 (some .int), Cond.methodLink RX1 146 Lib.Math.min.name, Cond.static Lib.Math.min.name, Cond.code Lib.Math.min.name Lib.Math.min.code 2 (some .int), Cond.methodLink RX1 135 yX1_allBids, Cond.instanceMethod yX1_allBids, Cond.selects RX1 yX1_allBids yX1_allBids, Cond.code yX1_allBids cX1_allBids 3 (some .int), Cond.methodLink RX1 119 yX1_bidsFor, Cond.instanceMethod yX1_bidsFor, Cond.selects RX1 yX1_bidsFor yX1_bidsFor, Cond.code yX1_bidsFor cX1_bidsFor 4 (some .int), Cond.fieldLink RX1 46 "CoverMeter$State" "bids" "[I", Cond.static yX2_bidIndex]
def wsX2_digest_r3 : List Cond := [Cond.initialized RX2, Cond.code yX2_bidIndex cX2_bidIndex 2 (some .int), Cond.methodLink RX1 138 yX1_allPoints, Cond.instanceMethod yX1_allPoints, Cond.selects RX1 yX1_allPoints yX1_allPoints, Cond.code yX1_allPoints cX1_allPoints 3 (some .int), Cond.fieldLink RX1 43 "CoverMeter$State" "points" "[I", Cond.methodLink RX2 203 yX2_digestPerson, Cond.instanceMethod yX2_digestPerson, Cond.selects RX2 yX2_digestPerson yX2_digestPerson, Cond.code yX2_digestPerson cX2_digestPerson 7 (some .long), Cond.methodLink RX2 139 yX1_aboutPerson, Cond.instanceMethod yX1_aboutPerson, Cond.selects RX1 yX1_aboutPerson yX1_aboutPerson, Cond.code yX1_aboutPerson cX1_aboutPerson 3 (some .int), Cond.fieldLink RX1 15 "CoverMeter$State" "rosters" "[J", Cond.fieldLink RX1 19 "CoverMeter$State" "away" "[J", Cond.fieldLink RX1 22 "CoverMeter$State" "covering" "[J", Cond.fieldLink RX1 28 "CoverMeter$State" "turns" "[I", Cond.methodLink RX1 110 yJ13_bitCount_95d88, Cond.static yJ13_bitCount_95d88, Cond.initialized RJ13, Cond.code yJ13_bitCount_95d88 cJ13_bitCount_95d88 2 (some .int), Cond.constantLong RJ13 314 (6148914691236517205)]
def wsX2_digest_r4 : List Cond := [Cond.constantLong RJ13 316 (3689348814741910323), Cond.constantLong RJ13 318 (1085102592571150095), Cond.methodLink RX1 78 yX1_worked, Cond.instanceMethod yX1_worked, Cond.selects RX1 yX1_worked yX1_worked, Cond.code yX1_worked cX1_worked 2 (some .long), Cond.constantLong RX1 68 (-1), Cond.methodLink RX1 116 yX1_bidsBy, Cond.instanceMethod yX1_bidsBy, Cond.selects RX1 yX1_bidsBy yX1_bidsBy, Cond.code yX1_bidsBy cX1_bidsBy 4 (some .int), Cond.methodLink RX2 142 yX1_worked, Cond.methodLink RX2 210 yX2_digestAbsence, Cond.instanceMethod yX2_digestAbsence, Cond.selects RX2 yX2_digestAbsence yX2_digestAbsence, Cond.code yX2_digestAbsence cX2_digestAbsence 7 (some .long), Cond.fieldLink RX2 99 "CoverMeter$State" "bids" "[I", Cond.methodLink RX2 146 yX1_aboutAbsence, Cond.instanceMethod yX1_aboutAbsence, Cond.selects RX1 yX1_aboutAbsence yX1_aboutAbsence, Cond.code yX1_aboutAbsence cX1_aboutAbsence 3 (some .int), Cond.fieldLink RX1 31 "CoverMeter$State" "absentees" "[I", Cond.fieldLink RX1 34 "CoverMeter$State" "shifts" "[I", Cond.fieldLink RX1 40 "CoverMeter$State" "coverers" "[I"]
def wsX2_digest_r5 : List Cond := [Cond.methodLink RX1 122 yX1_personsWhoCanCover, Cond.instanceMethod yX1_personsWhoCanCover, Cond.selects RX1 yX1_personsWhoCanCover yX1_personsWhoCanCover, Cond.code yX1_personsWhoCanCover cX1_personsWhoCanCover 4 (some .int), Cond.methodLink RX1 91 yX1_hindrance, Cond.instanceMethod yX1_hindrance, Cond.selects RX1 yX1_hindrance yX1_hindrance, Cond.code yX1_hindrance cX1_hindrance 7 (some .int), Cond.methodLink RX1 84 yX1_restBehind, Cond.instanceMethod yX1_restBehind, Cond.selects RX1 yX1_restBehind yX1_restBehind, Cond.code yX1_restBehind cX1_restBehind 6 (some .long), Cond.fieldLink RX1 9 "CoverMeter$State" "settings" "[I", Cond.methodLink RX1 88 yX1_restBefore, Cond.instanceMethod yX1_restBefore, Cond.selects RX1 yX1_restBefore yX1_restBefore, Cond.code yX1_restBefore cX1_restBefore 6 (some .long), Cond.methodLink RX2 102 yX2_bidIndex]
def wsX2_digest : List Cond := .code yX2_digest cX2_digest 4 (some .long) :: ((wsX2_digest_r1 ++ (wsX2_digest_r2 ++ (wsX2_digest_r3 ++ (wsX2_digest_r4 ++ wsX2_digest_r5)))) ++ wsX20 ++ wsX00 ++ wsX10)
def wsJ9_max_7cf53 : List Cond := .code yJ9_max_7cf53 cJ9_max_7cf53 2 (some .int) :: ([])
def wsJ9_min_7cf53 : List Cond := .code yJ9_min_7cf53 cJ9_min_7cf53 2 (some .int) :: ([])
def wsL_cell : List Cond := .code yL_cell cL_cell 2 (some .int) :: ([.constant RL 7 (763049417)])
def wsL_up : List Cond := .code yL_up cL_up 2 (some .int) :: ([.constant RL 8 (2147483647)])
def wsL_some : List Cond := .code yL_some cL_some 2 (some .long) :: ([.constantLong RL 9 (65535), .constantLong RL 11 (65537), .constantLong RL 13 (4398046511103)])
def wsL_view_r1 : List Cond := [Cond.constantLong RL 15 (7), Cond.constantLong RL 17 (31), Cond.methodLink RL 19 yX2_value, Cond.instanceMethod yX2_value, Cond.selects RX2 yX2_value yX2_value, Cond.initialized RX2, Cond.code yX2_value cX2_value 2 (some .int), Cond.fieldLink RX2 12 "CoverMeter" "now" "LCoverMeter$State;", Cond.methodLink RX2 30 yX2_needInRange, Cond.static yX2_needInRange, Cond.code yX2_needInRange cX2_needInRange 3 none, Cond.classLink RX2 49 "java/lang/IllegalArgumentException", Cond.initialized "java/lang/IllegalArgumentException", Cond.methodLink RX2 149 yX1_aboutAll, Cond.instanceMethod yX1_aboutAll, Cond.selects RX1 yX1_aboutAll yX1_aboutAll, Cond.initialized RX1, Cond.code yX1_aboutAll cX1_aboutAll 2 (some .int), Cond.fieldLink RX1 62 "CoverMeter$State" "persons" "I", Cond.fieldLink RX1 65 "CoverMeter$State" "absences" "I", Cond.fieldLink RX1 58 "CoverMeter$State" "handedOver" "I", Cond.methodLink RX1 125 yX1_countOf, Cond.instanceMethod yX1_countOf, Cond.selects RX1 yX1_countOf yX1_countOf]
def wsL_view_r2 : List Cond := [Cond.code yX1_countOf cX1_countOf 4 (some .int), Cond.fieldLink RX1 37 "CoverMeter$State" "statuses" "[I", Cond.methodLink RX1 128 yX1_greatestMeter, Cond.instanceMethod yX1_greatestMeter, Cond.selects RX1 yX1_greatestMeter yX1_greatestMeter, Cond.code yX1_greatestMeter cX1_greatestMeter 3 (some .int), Cond.fieldLink RX1 25 "CoverMeter$State" "meters" "[I", Cond.methodLink RX1 141 Lib.Math.max.name, Cond.static Lib.Math.max.name, Cond.initialized "java/lang/Math", Cond.code Lib.Math.max.name Lib.Math.max.code 2 (some .int), Cond.methodLink RX1 132 yX1_lowestMeter, Cond.instanceMethod yX1_lowestMeter, Cond.selects RX1 yX1_lowestMeter yX1_lowestMeter, Cond.code yX1_lowestMeter cX1_lowestMeter 3 (some .int), Cond.methodLink RX1 146 Lib.Math.min.name, Cond.static Lib.Math.min.name, Cond.code Lib.Math.min.name Lib.Math.min.code 2 (some .int), Cond.methodLink RX1 135 yX1_allBids, Cond.instanceMethod yX1_allBids, Cond.selects RX1 yX1_allBids yX1_allBids, Cond.code yX1_allBids cX1_allBids 3 (some .int), Cond.methodLink RX1 119 yX1_bidsFor, Cond.instanceMethod yX1_bidsFor]
def wsL_view_r3 : List Cond := [Cond.selects RX1 yX1_bidsFor yX1_bidsFor, Cond.code yX1_bidsFor cX1_bidsFor 4 (some .int), Cond.fieldLink RX1 46 "CoverMeter$State" "bids" "[I", Cond.static yX2_bidIndex, Cond.code yX2_bidIndex cX2_bidIndex 2 (some .int), Cond.methodLink RX1 138 yX1_allPoints, Cond.instanceMethod yX1_allPoints, Cond.selects RX1 yX1_allPoints yX1_allPoints, Cond.code yX1_allPoints cX1_allPoints 3 (some .int), Cond.fieldLink RX1 43 "CoverMeter$State" "points" "[I", Cond.methodLink RL 25 yX2_setting, Cond.instanceMethod yX2_setting, Cond.selects RX2 yX2_setting yX2_setting, Cond.code yX2_setting cX2_setting 2 (some .int), Cond.fieldLink RX2 44 "CoverMeter$State" "settings" "[I", Cond.methodLink RL 28 yX2_person, Cond.instanceMethod yX2_person, Cond.selects RX2 yX2_person yX2_person, Cond.code yX2_person cX2_person 3 (some .int), Cond.methodLink RX2 68 yX2_needPerson, Cond.instanceMethod yX2_needPerson, Cond.selects RX2 yX2_needPerson yX2_needPerson, Cond.code yX2_needPerson cX2_needPerson 2 none, Cond.classLink RX2 216 "java/lang/IndexOutOfBoundsException"]
def wsL_view_r4 : List Cond := [Cond.initialized "java/lang/IndexOutOfBoundsException", Cond.methodLink RX2 213 yX1_hasPerson, Cond.instanceMethod yX1_hasPerson, Cond.selects RX1 yX1_hasPerson yX1_hasPerson, Cond.code yX1_hasPerson cX1_hasPerson 2 (some .boolean), Cond.methodLink RX2 139 yX1_aboutPerson, Cond.instanceMethod yX1_aboutPerson, Cond.selects RX1 yX1_aboutPerson yX1_aboutPerson, Cond.code yX1_aboutPerson cX1_aboutPerson 3 (some .int), Cond.fieldLink RX1 15 "CoverMeter$State" "rosters" "[J", Cond.fieldLink RX1 19 "CoverMeter$State" "away" "[J", Cond.fieldLink RX1 22 "CoverMeter$State" "covering" "[J", Cond.fieldLink RX1 28 "CoverMeter$State" "turns" "[I", Cond.methodLink RX1 110 yJ13_bitCount_95d88, Cond.static yJ13_bitCount_95d88, Cond.initialized RJ13, Cond.code yJ13_bitCount_95d88 cJ13_bitCount_95d88 2 (some .int), Cond.constantLong RJ13 314 (6148914691236517205), Cond.constantLong RJ13 316 (3689348814741910323), Cond.constantLong RJ13 318 (1085102592571150095), Cond.methodLink RX1 78 yX1_worked, Cond.instanceMethod yX1_worked, Cond.selects RX1 yX1_worked yX1_worked, Cond.code yX1_worked cX1_worked 2 (some .long)]
def wsL_view_r5 : List Cond := [Cond.constantLong RX1 68 (-1), Cond.methodLink RX1 116 yX1_bidsBy, Cond.instanceMethod yX1_bidsBy, Cond.selects RX1 yX1_bidsBy yX1_bidsBy, Cond.code yX1_bidsBy cX1_bidsBy 4 (some .int), Cond.methodLink RL 32 yX2_work, Cond.instanceMethod yX2_work, Cond.selects RX2 yX2_work yX2_work, Cond.code yX2_work cX2_work 2 (some .long), Cond.methodLink RX2 142 yX1_worked, Cond.methodLink RL 36 yX2_absence, Cond.instanceMethod yX2_absence, Cond.selects RX2 yX2_absence yX2_absence, Cond.code yX2_absence cX2_absence 3 (some .int), Cond.methodLink RX2 93 yX2_needAbsence, Cond.instanceMethod yX2_needAbsence, Cond.selects RX2 yX2_needAbsence yX2_needAbsence, Cond.code yX2_needAbsence cX2_needAbsence 2 none, Cond.methodLink RX2 221 yX1_hasAbsence, Cond.instanceMethod yX1_hasAbsence, Cond.selects RX1 yX1_hasAbsence yX1_hasAbsence, Cond.code yX1_hasAbsence cX1_hasAbsence 2 (some .boolean), Cond.methodLink RX2 146 yX1_aboutAbsence, Cond.instanceMethod yX1_aboutAbsence]
def wsL_view_r6 : List Cond := [Cond.selects RX1 yX1_aboutAbsence yX1_aboutAbsence, Cond.code yX1_aboutAbsence cX1_aboutAbsence 3 (some .int), Cond.fieldLink RX1 31 "CoverMeter$State" "absentees" "[I", Cond.fieldLink RX1 34 "CoverMeter$State" "shifts" "[I", Cond.fieldLink RX1 40 "CoverMeter$State" "coverers" "[I", Cond.methodLink RX1 122 yX1_personsWhoCanCover, Cond.instanceMethod yX1_personsWhoCanCover, Cond.selects RX1 yX1_personsWhoCanCover yX1_personsWhoCanCover, Cond.code yX1_personsWhoCanCover cX1_personsWhoCanCover 4 (some .int), Cond.methodLink RX1 91 yX1_hindrance, Cond.instanceMethod yX1_hindrance, Cond.selects RX1 yX1_hindrance yX1_hindrance, Cond.code yX1_hindrance cX1_hindrance 7 (some .int), Cond.methodLink RX1 84 yX1_restBehind, Cond.instanceMethod yX1_restBehind, Cond.selects RX1 yX1_restBehind yX1_restBehind, Cond.code yX1_restBehind cX1_restBehind 6 (some .long), Cond.fieldLink RX1 9 "CoverMeter$State" "settings" "[I", Cond.methodLink RX1 88 yX1_restBefore, Cond.instanceMethod yX1_restBefore, Cond.selects RX1 yX1_restBefore yX1_restBefore, Cond.code yX1_restBefore cX1_restBefore 6 (some .long), Cond.methodLink RL 39 yX2_bidOf, Cond.instanceMethod yX2_bidOf]
def wsL_view_r7 : List Cond := [Cond.selects RX2 yX2_bidOf yX2_bidOf, Cond.code yX2_bidOf cX2_bidOf 3 (some .int), Cond.fieldLink RX2 99 "CoverMeter$State" "bids" "[I", Cond.methodLink RX2 102 yX2_bidIndex]
def wsL_view : List Cond := .code yL_view cL_view 5 (some .long) :: ((wsL_view_r1 ++ (wsL_view_r2 ++ (wsL_view_r3 ++ (wsL_view_r4 ++ (wsL_view_r5 ++ (wsL_view_r6 ++ wsL_view_r7)))))) ++ wsX20 ++ wsX10 ++ (vx_atS RX2 53 "java/lang/IllegalArgumentException" ["java/lang/RuntimeException", "java/lang/Exception"]).filter goodWord ++ (vx_atS RX2 220 "java/lang/IndexOutOfBoundsException" ["java/lang/RuntimeException", "java/lang/Exception"]).filter goodWord)
def wsL_any_r1 : List Cond := [Cond.methodLink RL 42 yX2_set, Cond.instanceMethod yX2_set, Cond.selects RX2 yX2_set yX2_set, Cond.initialized RX2, Cond.code yX2_set cX2_set 4 (some .int), Cond.fieldLink RX2 34 "CoverMeter" "LOWEST_SETTING" "[I", Cond.fieldLink RX2 38 "CoverMeter" "GREATEST_SETTING" "[I", Cond.fieldLink RX2 12 "CoverMeter" "now" "LCoverMeter$State;", Cond.fieldLink RX2 44 "CoverMeter$State" "settings" "[I", Cond.methodLink RX2 30 yX2_needInRange, Cond.static yX2_needInRange, Cond.code yX2_needInRange cX2_needInRange 3 none, Cond.classLink RX2 49 "java/lang/IllegalArgumentException", Cond.initialized "java/lang/IllegalArgumentException", Cond.methodLink RX2 41 yX2_save, Cond.instanceMethod yX2_save, Cond.selects RX2 yX2_save yX2_save, Cond.code yX2_save cX2_save 1 none, Cond.fieldLink RX2 196 "CoverMeter" "savedStates" "I", Cond.fieldLink RX2 19 "CoverMeter" "saved" "[LCoverMeter$State;", Cond.methodLink RX2 233 yX2_dropOldest, Cond.instanceMethod yX2_dropOldest, Cond.selects RX2 yX2_dropOldest yX2_dropOldest, Cond.code yX2_dropOldest cX2_dropOldest 3 none]
def wsL_any_r2 : List Cond := [Cond.methodLink RX2 152 yX1_copyFrom, Cond.instanceMethod yX1_copyFrom, Cond.selects RX1 yX1_copyFrom yX1_copyFrom, Cond.initialized RX1, Cond.code yX1_copyFrom cX1_copyFrom 2 none, Cond.fieldLink RX1 9 "CoverMeter$State" "settings" "[I", Cond.methodLink RX1 52 arraycopyName, Cond.native arraycopyName, Cond.static arraycopyName, Cond.initialized "java/lang/System", Cond.fieldLink RX1 58 "CoverMeter$State" "handedOver" "I", Cond.fieldLink RX1 62 "CoverMeter$State" "persons" "I", Cond.fieldLink RX1 15 "CoverMeter$State" "rosters" "[J", Cond.fieldLink RX1 19 "CoverMeter$State" "away" "[J", Cond.fieldLink RX1 22 "CoverMeter$State" "covering" "[J", Cond.fieldLink RX1 25 "CoverMeter$State" "meters" "[I", Cond.fieldLink RX1 28 "CoverMeter$State" "turns" "[I", Cond.fieldLink RX1 65 "CoverMeter$State" "absences" "I", Cond.fieldLink RX1 31 "CoverMeter$State" "absentees" "[I", Cond.fieldLink RX1 34 "CoverMeter$State" "shifts" "[I", Cond.fieldLink RX1 37 "CoverMeter$State" "statuses" "[I", Cond.fieldLink RX1 40 "CoverMeter$State" "coverers" "[I", Cond.fieldLink RX1 43 "CoverMeter$State" "points" "[I", Cond.fieldLink RX1 46 "CoverMeter$State" "bids" "[I"]
def wsL_any_r3 : List Cond := [Cond.methodLink RL 45 yX2_addPerson, Cond.instanceMethod yX2_addPerson, Cond.selects RX2 yX2_addPerson yX2_addPerson, Cond.code yX2_addPerson cX2_addPerson 3 (some .int), Cond.constantLong RX2 47 (4398046511103), Cond.fieldLink RX2 56 "CoverMeter$State" "persons" "I", Cond.methodLink RX2 60 yX2_needAllowed, Cond.static yX2_needAllowed, Cond.code yX2_needAllowed cX2_needAllowed 1 none, Cond.classLink RX2 228 "java/lang/IllegalStateException", Cond.initialized "java/lang/IllegalStateException", Cond.methodLink RX2 64 yX1_enterPerson, Cond.instanceMethod yX1_enterPerson, Cond.selects RX1 yX1_enterPerson yX1_enterPerson, Cond.code yX1_enterPerson cX1_enterPerson 4 (some .int), Cond.methodLink RL 49 yX2_roster, Cond.instanceMethod yX2_roster, Cond.selects RX2 yX2_roster yX2_roster, Cond.code yX2_roster cX2_roster 4 (some .int), Cond.fieldLink RX2 76 "CoverMeter$State" "rosters" "[J", Cond.methodLink RX2 68 yX2_needPerson, Cond.instanceMethod yX2_needPerson, Cond.selects RX2 yX2_needPerson yX2_needPerson, Cond.code yX2_needPerson cX2_needPerson 2 none]
def wsL_any_r4 : List Cond := [Cond.classLink RX2 216 "java/lang/IndexOutOfBoundsException", Cond.initialized "java/lang/IndexOutOfBoundsException", Cond.methodLink RX2 213 yX1_hasPerson, Cond.instanceMethod yX1_hasPerson, Cond.selects RX1 yX1_hasPerson yX1_hasPerson, Cond.code yX1_hasPerson cX1_hasPerson 2 (some .boolean), Cond.methodLink RX2 72 yX1_canChangeRoster, Cond.instanceMethod yX1_canChangeRoster, Cond.selects RX1 yX1_canChangeRoster yX1_canChangeRoster, Cond.code yX1_canChangeRoster cX1_canChangeRoster 7 (some .boolean), Cond.methodLink RX2 80 yJ13_bitCount_95d88, Cond.static yJ13_bitCount_95d88, Cond.initialized RJ13, Cond.code yJ13_bitCount_95d88 cJ13_bitCount_95d88 2 (some .int), Cond.constantLong RJ13 314 (6148914691236517205), Cond.constantLong RJ13 316 (3689348814741910323), Cond.constantLong RJ13 318 (1085102592571150095), Cond.methodLink RL 53 yX2_absent, Cond.instanceMethod yX2_absent, Cond.selects RX2 yX2_absent yX2_absent, Cond.code yX2_absent cX2_absent 3 (some .int), Cond.methodLink RX2 85 yX1_canBeAbsent, Cond.instanceMethod yX1_canBeAbsent, Cond.selects RX1 yX1_canBeAbsent yX1_canBeAbsent]
def wsL_any_r5 : List Cond := [Cond.code yX1_canBeAbsent cX1_canBeAbsent 5 (some .boolean), Cond.constantLong RX1 68 (-1), Cond.methodLink RX2 89 yX1_enterAbsence, Cond.instanceMethod yX1_enterAbsence, Cond.selects RX1 yX1_enterAbsence yX1_enterAbsence, Cond.code yX1_enterAbsence cX1_enterAbsence 4 (some .int), Cond.methodLink RX1 70 yX1_dropBids, Cond.instanceMethod yX1_dropBids, Cond.selects RX1 yX1_dropBids yX1_dropBids, Cond.code yX1_dropBids cX1_dropBids 3 none, Cond.static yX2_bidIndex, Cond.code yX2_bidIndex cX2_bidIndex 2 (some .int), Cond.methodLink RL 56 yX2_bid, Cond.instanceMethod yX2_bid, Cond.selects RX2 yX2_bid yX2_bid, Cond.code yX2_bid cX2_bid 4 (some .int), Cond.fieldLink RX2 99 "CoverMeter$State" "bids" "[I", Cond.methodLink RX2 93 yX2_needAbsence, Cond.instanceMethod yX2_needAbsence, Cond.selects RX2 yX2_needAbsence yX2_needAbsence, Cond.code yX2_needAbsence cX2_needAbsence 2 none, Cond.methodLink RX2 221 yX1_hasAbsence, Cond.instanceMethod yX1_hasAbsence, Cond.selects RX1 yX1_hasAbsence yX1_hasAbsence]
def wsL_any_r6 : List Cond := [Cond.code yX1_hasAbsence cX1_hasAbsence 2 (some .boolean), Cond.methodLink RX2 96 yX1_canBid, Cond.instanceMethod yX1_canBid, Cond.selects RX1 yX1_canBid yX1_canBid, Cond.code yX1_canBid cX1_canBid 3 (some .boolean), Cond.methodLink RX2 102 yX2_bidIndex, Cond.methodLink RX2 105 yX1_bidsFor, Cond.instanceMethod yX1_bidsFor, Cond.selects RX1 yX1_bidsFor yX1_bidsFor, Cond.code yX1_bidsFor cX1_bidsFor 4 (some .int), Cond.methodLink RL 60 yX2_cover, Cond.instanceMethod yX2_cover, Cond.selects RX2 yX2_cover yX2_cover, Cond.code yX2_cover cX2_cover 2 (some .int), Cond.fieldLink RX2 116 "CoverMeter$State" "coverers" "[I", Cond.methodLink RX2 109 yX1_nextCoverer, Cond.instanceMethod yX1_nextCoverer, Cond.selects RX1 yX1_nextCoverer yX1_nextCoverer, Cond.code yX1_nextCoverer cX1_nextCoverer 4 (some .int), Cond.methodLink RX1 91 yX1_hindrance, Cond.instanceMethod yX1_hindrance, Cond.selects RX1 yX1_hindrance yX1_hindrance, Cond.code yX1_hindrance cX1_hindrance 7 (some .int), Cond.methodLink RX1 78 yX1_worked]
def wsL_any_r7 : List Cond := [Cond.instanceMethod yX1_worked, Cond.selects RX1 yX1_worked yX1_worked, Cond.code yX1_worked cX1_worked 2 (some .long), Cond.methodLink RX1 84 yX1_restBehind, Cond.instanceMethod yX1_restBehind, Cond.selects RX1 yX1_restBehind yX1_restBehind, Cond.code yX1_restBehind cX1_restBehind 6 (some .long), Cond.methodLink RX1 88 yX1_restBefore, Cond.instanceMethod yX1_restBefore, Cond.selects RX1 yX1_restBefore yX1_restBefore, Cond.code yX1_restBefore cX1_restBefore 6 (some .long), Cond.methodLink RX1 94 yX1_comesBefore, Cond.instanceMethod yX1_comesBefore, Cond.selects RX1 yX1_comesBefore yX1_comesBefore, Cond.code yX1_comesBefore cX1_comesBefore 6 (some .boolean), Cond.methodLink RX1 98 yX1_isLess, Cond.static yX1_isLess, Cond.code yX1_isLess cX1_isLess 4 (some .boolean), Cond.methodLink RX2 112 yX1_coverOpen, Cond.instanceMethod yX1_coverOpen, Cond.selects RX1 yX1_coverOpen yX1_coverOpen, Cond.code yX1_coverOpen cX1_coverOpen 4 (some .boolean), Cond.methodLink RX1 102 yX1_nextCoverer, Cond.methodLink RL 63 yX2_handOver]
def wsL_any_r8 : List Cond := [Cond.instanceMethod yX2_handOver, Cond.selects RX2 yX2_handOver yX2_handOver, Cond.code yX2_handOver cX2_handOver 4 (some .int), Cond.methodLink RX2 123 yX1_isCovered, Cond.instanceMethod yX1_isCovered, Cond.selects RX1 yX1_isCovered yX1_isCovered, Cond.code yX1_isCovered cX1_isCovered 2 (some .boolean), Cond.methodLink RX2 126 yX1_hindrance, Cond.methodLink RX2 129 yX1_moveCover, Cond.instanceMethod yX1_moveCover, Cond.selects RX1 yX1_moveCover yX1_moveCover, Cond.code yX1_moveCover cX1_moveCover 6 none, Cond.methodLink RL 66 yX2_giveUp, Cond.instanceMethod yX2_giveUp, Cond.selects RX2 yX2_giveUp yX2_giveUp, Cond.code yX2_giveUp cX2_giveUp 3 (some .int), Cond.fieldLink RX2 133 "CoverMeter$State" "statuses" "[I", Cond.methodLink RX2 136 yX1_dropBids]
def wsL_any : List Cond := .code yL_any cL_any 3 (some .int) :: ((wsL_any_r1 ++ (wsL_any_r2 ++ (wsL_any_r3 ++ (wsL_any_r4 ++ (wsL_any_r5 ++ (wsL_any_r6 ++ (wsL_any_r7 ++ wsL_any_r8))))))) ++ wsX20 ++ wsX10 ++ (vx_atS RX2 53 "java/lang/IllegalArgumentException" ["java/lang/RuntimeException", "java/lang/Exception"]).filter goodWord ++ (vx_atS RX2 232 "java/lang/IllegalStateException" ["java/lang/RuntimeException", "java/lang/Exception"]).filter goodWord ++ (vx_atS RX2 220 "java/lang/IndexOutOfBoundsException" ["java/lang/RuntimeException", "java/lang/Exception"]).filter goodWord)
def wsL_turn_r1 : List Cond := [Cond.methodLink RL 69 yL_up, Cond.static yL_up, Cond.initialized RL, Cond.code yL_up cL_up 2 (some .int), Cond.constant RL 8 (2147483647), Cond.methodLink RL 42 yX2_set, Cond.instanceMethod yX2_set, Cond.selects RX2 yX2_set yX2_set, Cond.initialized RX2, Cond.code yX2_set cX2_set 4 (some .int), Cond.fieldLink RX2 34 "CoverMeter" "LOWEST_SETTING" "[I", Cond.fieldLink RX2 38 "CoverMeter" "GREATEST_SETTING" "[I", Cond.fieldLink RX2 12 "CoverMeter" "now" "LCoverMeter$State;", Cond.fieldLink RX2 44 "CoverMeter$State" "settings" "[I", Cond.methodLink RX2 30 yX2_needInRange, Cond.static yX2_needInRange, Cond.code yX2_needInRange cX2_needInRange 3 none, Cond.classLink RX2 49 "java/lang/IllegalArgumentException", Cond.initialized "java/lang/IllegalArgumentException", Cond.methodLink RX2 41 yX2_save, Cond.instanceMethod yX2_save, Cond.selects RX2 yX2_save yX2_save, Cond.code yX2_save cX2_save 1 none, Cond.fieldLink RX2 196 "CoverMeter" "savedStates" "I"]
def wsL_turn_r2 : List Cond := [Cond.fieldLink RX2 19 "CoverMeter" "saved" "[LCoverMeter$State;", Cond.methodLink RX2 233 yX2_dropOldest, Cond.instanceMethod yX2_dropOldest, Cond.selects RX2 yX2_dropOldest yX2_dropOldest, Cond.code yX2_dropOldest cX2_dropOldest 3 none, Cond.methodLink RX2 152 yX1_copyFrom, Cond.instanceMethod yX1_copyFrom, Cond.selects RX1 yX1_copyFrom yX1_copyFrom, Cond.initialized RX1, Cond.code yX1_copyFrom cX1_copyFrom 2 none, Cond.fieldLink RX1 9 "CoverMeter$State" "settings" "[I", Cond.methodLink RX1 52 arraycopyName, Cond.native arraycopyName, Cond.static arraycopyName, Cond.initialized "java/lang/System", Cond.fieldLink RX1 58 "CoverMeter$State" "handedOver" "I", Cond.fieldLink RX1 62 "CoverMeter$State" "persons" "I", Cond.fieldLink RX1 15 "CoverMeter$State" "rosters" "[J", Cond.fieldLink RX1 19 "CoverMeter$State" "away" "[J", Cond.fieldLink RX1 22 "CoverMeter$State" "covering" "[J", Cond.fieldLink RX1 25 "CoverMeter$State" "meters" "[I", Cond.fieldLink RX1 28 "CoverMeter$State" "turns" "[I", Cond.fieldLink RX1 65 "CoverMeter$State" "absences" "I", Cond.fieldLink RX1 31 "CoverMeter$State" "absentees" "[I"]
def wsL_turn_r3 : List Cond := [Cond.fieldLink RX1 34 "CoverMeter$State" "shifts" "[I", Cond.fieldLink RX1 37 "CoverMeter$State" "statuses" "[I", Cond.fieldLink RX1 40 "CoverMeter$State" "coverers" "[I", Cond.fieldLink RX1 43 "CoverMeter$State" "points" "[I", Cond.fieldLink RX1 46 "CoverMeter$State" "bids" "[I", Cond.methodLink RL 74 yL_some, Cond.static yL_some, Cond.code yL_some cL_some 2 (some .long), Cond.constantLong RL 9 (65535), Cond.constantLong RL 11 (65537), Cond.constantLong RL 13 (4398046511103), Cond.methodLink RL 45 yX2_addPerson, Cond.instanceMethod yX2_addPerson, Cond.selects RX2 yX2_addPerson yX2_addPerson, Cond.code yX2_addPerson cX2_addPerson 3 (some .int), Cond.constantLong RX2 47 (4398046511103), Cond.fieldLink RX2 56 "CoverMeter$State" "persons" "I", Cond.methodLink RX2 60 yX2_needAllowed, Cond.static yX2_needAllowed, Cond.code yX2_needAllowed cX2_needAllowed 1 none, Cond.classLink RX2 228 "java/lang/IllegalStateException", Cond.initialized "java/lang/IllegalStateException", Cond.methodLink RX2 64 yX1_enterPerson, Cond.instanceMethod yX1_enterPerson]
def wsL_turn_r4 : List Cond := [Cond.selects RX1 yX1_enterPerson yX1_enterPerson, Cond.code yX1_enterPerson cX1_enterPerson 4 (some .int), Cond.methodLink RL 49 yX2_roster, Cond.instanceMethod yX2_roster, Cond.selects RX2 yX2_roster yX2_roster, Cond.code yX2_roster cX2_roster 4 (some .int), Cond.fieldLink RX2 76 "CoverMeter$State" "rosters" "[J", Cond.methodLink RX2 68 yX2_needPerson, Cond.instanceMethod yX2_needPerson, Cond.selects RX2 yX2_needPerson yX2_needPerson, Cond.code yX2_needPerson cX2_needPerson 2 none, Cond.classLink RX2 216 "java/lang/IndexOutOfBoundsException", Cond.initialized "java/lang/IndexOutOfBoundsException", Cond.methodLink RX2 213 yX1_hasPerson, Cond.instanceMethod yX1_hasPerson, Cond.selects RX1 yX1_hasPerson yX1_hasPerson, Cond.code yX1_hasPerson cX1_hasPerson 2 (some .boolean), Cond.methodLink RX2 72 yX1_canChangeRoster, Cond.instanceMethod yX1_canChangeRoster, Cond.selects RX1 yX1_canChangeRoster yX1_canChangeRoster, Cond.code yX1_canChangeRoster cX1_canChangeRoster 7 (some .boolean), Cond.methodLink RX2 80 yJ13_bitCount_95d88, Cond.static yJ13_bitCount_95d88, Cond.initialized RJ13]
def wsL_turn_r5 : List Cond := [Cond.code yJ13_bitCount_95d88 cJ13_bitCount_95d88 2 (some .int), Cond.constantLong RJ13 314 (6148914691236517205), Cond.constantLong RJ13 316 (3689348814741910323), Cond.constantLong RJ13 318 (1085102592571150095), Cond.methodLink RL 53 yX2_absent, Cond.instanceMethod yX2_absent, Cond.selects RX2 yX2_absent yX2_absent, Cond.code yX2_absent cX2_absent 3 (some .int), Cond.methodLink RX2 85 yX1_canBeAbsent, Cond.instanceMethod yX1_canBeAbsent, Cond.selects RX1 yX1_canBeAbsent yX1_canBeAbsent, Cond.code yX1_canBeAbsent cX1_canBeAbsent 5 (some .boolean), Cond.constantLong RX1 68 (-1), Cond.methodLink RX2 89 yX1_enterAbsence, Cond.instanceMethod yX1_enterAbsence, Cond.selects RX1 yX1_enterAbsence yX1_enterAbsence, Cond.code yX1_enterAbsence cX1_enterAbsence 4 (some .int), Cond.methodLink RX1 70 yX1_dropBids, Cond.instanceMethod yX1_dropBids, Cond.selects RX1 yX1_dropBids yX1_dropBids, Cond.code yX1_dropBids cX1_dropBids 3 none, Cond.static yX2_bidIndex, Cond.code yX2_bidIndex cX2_bidIndex 2 (some .int), Cond.methodLink RL 56 yX2_bid]
def wsL_turn_r6 : List Cond := [Cond.instanceMethod yX2_bid, Cond.selects RX2 yX2_bid yX2_bid, Cond.code yX2_bid cX2_bid 4 (some .int), Cond.fieldLink RX2 99 "CoverMeter$State" "bids" "[I", Cond.methodLink RX2 93 yX2_needAbsence, Cond.instanceMethod yX2_needAbsence, Cond.selects RX2 yX2_needAbsence yX2_needAbsence, Cond.code yX2_needAbsence cX2_needAbsence 2 none, Cond.methodLink RX2 221 yX1_hasAbsence, Cond.instanceMethod yX1_hasAbsence, Cond.selects RX1 yX1_hasAbsence yX1_hasAbsence, Cond.code yX1_hasAbsence cX1_hasAbsence 2 (some .boolean), Cond.methodLink RX2 96 yX1_canBid, Cond.instanceMethod yX1_canBid, Cond.selects RX1 yX1_canBid yX1_canBid, Cond.code yX1_canBid cX1_canBid 3 (some .boolean), Cond.methodLink RX2 102 yX2_bidIndex, Cond.methodLink RX2 105 yX1_bidsFor, Cond.instanceMethod yX1_bidsFor, Cond.selects RX1 yX1_bidsFor yX1_bidsFor, Cond.code yX1_bidsFor cX1_bidsFor 4 (some .int), Cond.methodLink RL 78 yX2_takeBack, Cond.instanceMethod yX2_takeBack, Cond.selects RX2 yX2_takeBack yX2_takeBack]
def wsL_turn_r7 : List Cond := [Cond.code yX2_takeBack cX2_takeBack 5 (some .int), Cond.methodLink RL 60 yX2_cover, Cond.instanceMethod yX2_cover, Cond.selects RX2 yX2_cover yX2_cover, Cond.code yX2_cover cX2_cover 2 (some .int), Cond.fieldLink RX2 116 "CoverMeter$State" "coverers" "[I", Cond.methodLink RX2 109 yX1_nextCoverer, Cond.instanceMethod yX1_nextCoverer, Cond.selects RX1 yX1_nextCoverer yX1_nextCoverer, Cond.code yX1_nextCoverer cX1_nextCoverer 4 (some .int), Cond.methodLink RX1 91 yX1_hindrance, Cond.instanceMethod yX1_hindrance, Cond.selects RX1 yX1_hindrance yX1_hindrance, Cond.code yX1_hindrance cX1_hindrance 7 (some .int), Cond.methodLink RX1 78 yX1_worked, Cond.instanceMethod yX1_worked, Cond.selects RX1 yX1_worked yX1_worked, Cond.code yX1_worked cX1_worked 2 (some .long), Cond.methodLink RX1 84 yX1_restBehind, Cond.instanceMethod yX1_restBehind, Cond.selects RX1 yX1_restBehind yX1_restBehind, Cond.code yX1_restBehind cX1_restBehind 6 (some .long), Cond.methodLink RX1 88 yX1_restBefore, Cond.instanceMethod yX1_restBefore]
end
section
def wsL_turn_r8 : List Cond := [Cond.selects RX1 yX1_restBefore yX1_restBefore, Cond.code yX1_restBefore cX1_restBefore 6 (some .long), Cond.methodLink RX1 94 yX1_comesBefore, Cond.instanceMethod yX1_comesBefore, Cond.selects RX1 yX1_comesBefore yX1_comesBefore, Cond.code yX1_comesBefore cX1_comesBefore 6 (some .boolean), Cond.methodLink RX1 98 yX1_isLess, Cond.static yX1_isLess, Cond.code yX1_isLess cX1_isLess 4 (some .boolean), Cond.methodLink RX2 112 yX1_coverOpen, Cond.instanceMethod yX1_coverOpen, Cond.selects RX1 yX1_coverOpen yX1_coverOpen, Cond.code yX1_coverOpen cX1_coverOpen 4 (some .boolean), Cond.methodLink RX1 102 yX1_nextCoverer, Cond.methodLink RL 81 yX2_coverAll, Cond.instanceMethod yX2_coverAll, Cond.selects RX2 yX2_coverAll yX2_coverAll, Cond.code yX2_coverAll cX2_coverAll 1 (some .int), Cond.methodLink RX2 119 yX1_coverAllOpen, Cond.instanceMethod yX1_coverAllOpen, Cond.selects RX1 yX1_coverAllOpen yX1_coverAllOpen, Cond.code yX1_coverAllOpen cX1_coverAllOpen 3 (some .int), Cond.methodLink RX1 106 yX1_coverOpen, Cond.methodLink RL 63 yX2_handOver]
def wsL_turn_r9 : List Cond := [Cond.instanceMethod yX2_handOver, Cond.selects RX2 yX2_handOver yX2_handOver, Cond.code yX2_handOver cX2_handOver 4 (some .int), Cond.methodLink RX2 123 yX1_isCovered, Cond.instanceMethod yX1_isCovered, Cond.selects RX1 yX1_isCovered yX1_isCovered, Cond.code yX1_isCovered cX1_isCovered 2 (some .boolean), Cond.methodLink RX2 126 yX1_hindrance, Cond.methodLink RX2 129 yX1_moveCover, Cond.instanceMethod yX1_moveCover, Cond.selects RX1 yX1_moveCover yX1_moveCover, Cond.code yX1_moveCover cX1_moveCover 6 none, Cond.methodLink RL 66 yX2_giveUp, Cond.instanceMethod yX2_giveUp, Cond.selects RX2 yX2_giveUp yX2_giveUp, Cond.code yX2_giveUp cX2_giveUp 3 (some .int), Cond.fieldLink RX2 133 "CoverMeter$State" "statuses" "[I", Cond.methodLink RX2 136 yX1_dropBids, Cond.methodLink RL 85 yL_any, Cond.static yL_any, Cond.code yL_any cL_any 3 (some .int)]
def wsL_turn : List Cond := .code yL_turn cL_turn 6 (some .int) :: ((wsL_turn_r1 ++ (wsL_turn_r2 ++ (wsL_turn_r3 ++ (wsL_turn_r4 ++ (wsL_turn_r5 ++ (wsL_turn_r6 ++ (wsL_turn_r7 ++ (wsL_turn_r8 ++ wsL_turn_r9)))))))) ++ wsX20 ++ wsX10 ++ (vx_atS RX2 53 "java/lang/IllegalArgumentException" ["java/lang/RuntimeException", "java/lang/Exception"]).filter goodWord ++ (vx_atS RX2 232 "java/lang/IllegalStateException" ["java/lang/RuntimeException", "java/lang/Exception"]).filter goodWord ++ (vx_atS RX2 220 "java/lang/IndexOutOfBoundsException" ["java/lang/RuntimeException", "java/lang/Exception"]).filter goodWord)
def wsL_tries_r1 : List Cond := [Cond.classLink RL 93 "java/lang/IndexOutOfBoundsException", Cond.classLink RL 96 "java/lang/IllegalArgumentException", Cond.classLink RL 98 "java/lang/IllegalStateException", Cond.constant RL 95 (-1000000000), Cond.methodLink RL 89 yL_turn, Cond.static yL_turn, Cond.initialized RL, Cond.code yL_turn cL_turn 6 (some .int), Cond.methodLink RL 69 yL_up, Cond.static yL_up, Cond.code yL_up cL_up 2 (some .int), Cond.constant RL 8 (2147483647), Cond.methodLink RL 42 yX2_set, Cond.instanceMethod yX2_set, Cond.selects RX2 yX2_set yX2_set, Cond.initialized RX2, Cond.code yX2_set cX2_set 4 (some .int), Cond.fieldLink RX2 34 "CoverMeter" "LOWEST_SETTING" "[I", Cond.fieldLink RX2 38 "CoverMeter" "GREATEST_SETTING" "[I", Cond.fieldLink RX2 12 "CoverMeter" "now" "LCoverMeter$State;", Cond.fieldLink RX2 44 "CoverMeter$State" "settings" "[I", Cond.methodLink RX2 30 yX2_needInRange, Cond.static yX2_needInRange, Cond.code yX2_needInRange cX2_needInRange 3 none]
def wsL_tries_r2 : List Cond := [Cond.classLink RX2 49 "java/lang/IllegalArgumentException", Cond.initialized "java/lang/IllegalArgumentException", Cond.methodLink RX2 41 yX2_save, Cond.instanceMethod yX2_save, Cond.selects RX2 yX2_save yX2_save, Cond.code yX2_save cX2_save 1 none, Cond.fieldLink RX2 196 "CoverMeter" "savedStates" "I", Cond.fieldLink RX2 19 "CoverMeter" "saved" "[LCoverMeter$State;", Cond.methodLink RX2 233 yX2_dropOldest, Cond.instanceMethod yX2_dropOldest, Cond.selects RX2 yX2_dropOldest yX2_dropOldest, Cond.code yX2_dropOldest cX2_dropOldest 3 none, Cond.methodLink RX2 152 yX1_copyFrom, Cond.instanceMethod yX1_copyFrom, Cond.selects RX1 yX1_copyFrom yX1_copyFrom, Cond.initialized RX1, Cond.code yX1_copyFrom cX1_copyFrom 2 none, Cond.fieldLink RX1 9 "CoverMeter$State" "settings" "[I", Cond.methodLink RX1 52 arraycopyName, Cond.native arraycopyName, Cond.static arraycopyName, Cond.initialized "java/lang/System", Cond.fieldLink RX1 58 "CoverMeter$State" "handedOver" "I", Cond.fieldLink RX1 62 "CoverMeter$State" "persons" "I"]
def wsL_tries_r3 : List Cond := [Cond.fieldLink RX1 15 "CoverMeter$State" "rosters" "[J", Cond.fieldLink RX1 19 "CoverMeter$State" "away" "[J", Cond.fieldLink RX1 22 "CoverMeter$State" "covering" "[J", Cond.fieldLink RX1 25 "CoverMeter$State" "meters" "[I", Cond.fieldLink RX1 28 "CoverMeter$State" "turns" "[I", Cond.fieldLink RX1 65 "CoverMeter$State" "absences" "I", Cond.fieldLink RX1 31 "CoverMeter$State" "absentees" "[I", Cond.fieldLink RX1 34 "CoverMeter$State" "shifts" "[I", Cond.fieldLink RX1 37 "CoverMeter$State" "statuses" "[I", Cond.fieldLink RX1 40 "CoverMeter$State" "coverers" "[I", Cond.fieldLink RX1 43 "CoverMeter$State" "points" "[I", Cond.fieldLink RX1 46 "CoverMeter$State" "bids" "[I", Cond.methodLink RL 74 yL_some, Cond.static yL_some, Cond.code yL_some cL_some 2 (some .long), Cond.constantLong RL 9 (65535), Cond.constantLong RL 11 (65537), Cond.constantLong RL 13 (4398046511103), Cond.methodLink RL 45 yX2_addPerson, Cond.instanceMethod yX2_addPerson, Cond.selects RX2 yX2_addPerson yX2_addPerson, Cond.code yX2_addPerson cX2_addPerson 3 (some .int), Cond.constantLong RX2 47 (4398046511103), Cond.fieldLink RX2 56 "CoverMeter$State" "persons" "I"]
def wsL_tries_r4 : List Cond := [Cond.methodLink RX2 60 yX2_needAllowed, Cond.static yX2_needAllowed, Cond.code yX2_needAllowed cX2_needAllowed 1 none, Cond.classLink RX2 228 "java/lang/IllegalStateException", Cond.initialized "java/lang/IllegalStateException", Cond.methodLink RX2 64 yX1_enterPerson, Cond.instanceMethod yX1_enterPerson, Cond.selects RX1 yX1_enterPerson yX1_enterPerson, Cond.code yX1_enterPerson cX1_enterPerson 4 (some .int), Cond.methodLink RL 49 yX2_roster, Cond.instanceMethod yX2_roster, Cond.selects RX2 yX2_roster yX2_roster, Cond.code yX2_roster cX2_roster 4 (some .int), Cond.fieldLink RX2 76 "CoverMeter$State" "rosters" "[J", Cond.methodLink RX2 68 yX2_needPerson, Cond.instanceMethod yX2_needPerson, Cond.selects RX2 yX2_needPerson yX2_needPerson, Cond.code yX2_needPerson cX2_needPerson 2 none, Cond.classLink RX2 216 "java/lang/IndexOutOfBoundsException", Cond.initialized "java/lang/IndexOutOfBoundsException", Cond.methodLink RX2 213 yX1_hasPerson, Cond.instanceMethod yX1_hasPerson, Cond.selects RX1 yX1_hasPerson yX1_hasPerson, Cond.code yX1_hasPerson cX1_hasPerson 2 (some .boolean)]
def wsL_tries_r5 : List Cond := [Cond.methodLink RX2 72 yX1_canChangeRoster, Cond.instanceMethod yX1_canChangeRoster, Cond.selects RX1 yX1_canChangeRoster yX1_canChangeRoster, Cond.code yX1_canChangeRoster cX1_canChangeRoster 7 (some .boolean), Cond.methodLink RX2 80 yJ13_bitCount_95d88, Cond.static yJ13_bitCount_95d88, Cond.initialized RJ13, Cond.code yJ13_bitCount_95d88 cJ13_bitCount_95d88 2 (some .int), Cond.constantLong RJ13 314 (6148914691236517205), Cond.constantLong RJ13 316 (3689348814741910323), Cond.constantLong RJ13 318 (1085102592571150095), Cond.methodLink RL 53 yX2_absent, Cond.instanceMethod yX2_absent, Cond.selects RX2 yX2_absent yX2_absent, Cond.code yX2_absent cX2_absent 3 (some .int), Cond.methodLink RX2 85 yX1_canBeAbsent, Cond.instanceMethod yX1_canBeAbsent, Cond.selects RX1 yX1_canBeAbsent yX1_canBeAbsent, Cond.code yX1_canBeAbsent cX1_canBeAbsent 5 (some .boolean), Cond.constantLong RX1 68 (-1), Cond.methodLink RX2 89 yX1_enterAbsence, Cond.instanceMethod yX1_enterAbsence, Cond.selects RX1 yX1_enterAbsence yX1_enterAbsence, Cond.code yX1_enterAbsence cX1_enterAbsence 4 (some .int)]
def wsL_tries_r6 : List Cond := [Cond.methodLink RX1 70 yX1_dropBids, Cond.instanceMethod yX1_dropBids, Cond.selects RX1 yX1_dropBids yX1_dropBids, Cond.code yX1_dropBids cX1_dropBids 3 none, Cond.static yX2_bidIndex, Cond.code yX2_bidIndex cX2_bidIndex 2 (some .int), Cond.methodLink RL 56 yX2_bid, Cond.instanceMethod yX2_bid, Cond.selects RX2 yX2_bid yX2_bid, Cond.code yX2_bid cX2_bid 4 (some .int), Cond.fieldLink RX2 99 "CoverMeter$State" "bids" "[I", Cond.methodLink RX2 93 yX2_needAbsence, Cond.instanceMethod yX2_needAbsence, Cond.selects RX2 yX2_needAbsence yX2_needAbsence, Cond.code yX2_needAbsence cX2_needAbsence 2 none, Cond.methodLink RX2 221 yX1_hasAbsence, Cond.instanceMethod yX1_hasAbsence, Cond.selects RX1 yX1_hasAbsence yX1_hasAbsence, Cond.code yX1_hasAbsence cX1_hasAbsence 2 (some .boolean), Cond.methodLink RX2 96 yX1_canBid, Cond.instanceMethod yX1_canBid, Cond.selects RX1 yX1_canBid yX1_canBid, Cond.code yX1_canBid cX1_canBid 3 (some .boolean), Cond.methodLink RX2 102 yX2_bidIndex]
def wsL_tries_r7 : List Cond := [Cond.methodLink RX2 105 yX1_bidsFor, Cond.instanceMethod yX1_bidsFor, Cond.selects RX1 yX1_bidsFor yX1_bidsFor, Cond.code yX1_bidsFor cX1_bidsFor 4 (some .int), Cond.methodLink RL 78 yX2_takeBack, Cond.instanceMethod yX2_takeBack, Cond.selects RX2 yX2_takeBack yX2_takeBack, Cond.code yX2_takeBack cX2_takeBack 5 (some .int), Cond.methodLink RL 60 yX2_cover, Cond.instanceMethod yX2_cover, Cond.selects RX2 yX2_cover yX2_cover, Cond.code yX2_cover cX2_cover 2 (some .int), Cond.fieldLink RX2 116 "CoverMeter$State" "coverers" "[I", Cond.methodLink RX2 109 yX1_nextCoverer, Cond.instanceMethod yX1_nextCoverer, Cond.selects RX1 yX1_nextCoverer yX1_nextCoverer, Cond.code yX1_nextCoverer cX1_nextCoverer 4 (some .int), Cond.methodLink RX1 91 yX1_hindrance, Cond.instanceMethod yX1_hindrance, Cond.selects RX1 yX1_hindrance yX1_hindrance, Cond.code yX1_hindrance cX1_hindrance 7 (some .int), Cond.methodLink RX1 78 yX1_worked, Cond.instanceMethod yX1_worked, Cond.selects RX1 yX1_worked yX1_worked]
def wsL_tries_r8 : List Cond := [Cond.code yX1_worked cX1_worked 2 (some .long), Cond.methodLink RX1 84 yX1_restBehind, Cond.instanceMethod yX1_restBehind, Cond.selects RX1 yX1_restBehind yX1_restBehind, Cond.code yX1_restBehind cX1_restBehind 6 (some .long), Cond.methodLink RX1 88 yX1_restBefore, Cond.instanceMethod yX1_restBefore, Cond.selects RX1 yX1_restBefore yX1_restBefore, Cond.code yX1_restBefore cX1_restBefore 6 (some .long), Cond.methodLink RX1 94 yX1_comesBefore, Cond.instanceMethod yX1_comesBefore, Cond.selects RX1 yX1_comesBefore yX1_comesBefore, Cond.code yX1_comesBefore cX1_comesBefore 6 (some .boolean), Cond.methodLink RX1 98 yX1_isLess, Cond.static yX1_isLess, Cond.code yX1_isLess cX1_isLess 4 (some .boolean), Cond.methodLink RX2 112 yX1_coverOpen, Cond.instanceMethod yX1_coverOpen, Cond.selects RX1 yX1_coverOpen yX1_coverOpen, Cond.code yX1_coverOpen cX1_coverOpen 4 (some .boolean), Cond.methodLink RX1 102 yX1_nextCoverer, Cond.methodLink RL 81 yX2_coverAll, Cond.instanceMethod yX2_coverAll, Cond.selects RX2 yX2_coverAll yX2_coverAll]
def wsL_tries_r9 : List Cond := [Cond.code yX2_coverAll cX2_coverAll 1 (some .int), Cond.methodLink RX2 119 yX1_coverAllOpen, Cond.instanceMethod yX1_coverAllOpen, Cond.selects RX1 yX1_coverAllOpen yX1_coverAllOpen, Cond.code yX1_coverAllOpen cX1_coverAllOpen 3 (some .int), Cond.methodLink RX1 106 yX1_coverOpen, Cond.methodLink RL 63 yX2_handOver, Cond.instanceMethod yX2_handOver, Cond.selects RX2 yX2_handOver yX2_handOver, Cond.code yX2_handOver cX2_handOver 4 (some .int), Cond.methodLink RX2 123 yX1_isCovered, Cond.instanceMethod yX1_isCovered, Cond.selects RX1 yX1_isCovered yX1_isCovered, Cond.code yX1_isCovered cX1_isCovered 2 (some .boolean), Cond.methodLink RX2 126 yX1_hindrance, Cond.methodLink RX2 129 yX1_moveCover, Cond.instanceMethod yX1_moveCover, Cond.selects RX1 yX1_moveCover yX1_moveCover, Cond.code yX1_moveCover cX1_moveCover 6 none, Cond.methodLink RL 66 yX2_giveUp, Cond.instanceMethod yX2_giveUp, Cond.selects RX2 yX2_giveUp yX2_giveUp, Cond.code yX2_giveUp cX2_giveUp 3 (some .int), Cond.fieldLink RX2 133 "CoverMeter$State" "statuses" "[I"]
def wsL_tries_r10 : List Cond := [Cond.methodLink RX2 136 yX1_dropBids, Cond.methodLink RL 85 yL_any, Cond.static yL_any, Cond.code yL_any cL_any 3 (some .int)]
def wsL_tries : List Cond := .codeWith yL_tries cL_tries 5 (some .int) [(0, 7, 8, 93), (0, 7, 13, 96), (0, 7, 18, 98)] :: ((wsL_tries_r1 ++ (wsL_tries_r2 ++ (wsL_tries_r3 ++ (wsL_tries_r4 ++ (wsL_tries_r5 ++ (wsL_tries_r6 ++ (wsL_tries_r7 ++ (wsL_tries_r8 ++ (wsL_tries_r9 ++ wsL_tries_r10))))))))) ++ wsX20 ++ wsX10 ++ (vx_atS RX2 53 "java/lang/IllegalArgumentException" ["java/lang/RuntimeException", "java/lang/Exception"]).filter goodWord ++ (vx_atS RX2 232 "java/lang/IllegalStateException" ["java/lang/RuntimeException", "java/lang/Exception"]).filter goodWord ++ (vx_atS RX2 220 "java/lang/IndexOutOfBoundsException" ["java/lang/RuntimeException", "java/lang/Exception"]).filter goodWord)
def wsL_isAbsenceRight_r1 : List Cond := [Cond.methodLink RL 36 yX2_absence, Cond.instanceMethod yX2_absence, Cond.selects RX2 yX2_absence yX2_absence, Cond.initialized RX2, Cond.code yX2_absence cX2_absence 3 (some .int), Cond.fieldLink RX2 12 "CoverMeter" "now" "LCoverMeter$State;", Cond.methodLink RX2 93 yX2_needAbsence, Cond.instanceMethod yX2_needAbsence, Cond.selects RX2 yX2_needAbsence yX2_needAbsence, Cond.code yX2_needAbsence cX2_needAbsence 2 none, Cond.classLink RX2 216 "java/lang/IndexOutOfBoundsException", Cond.initialized "java/lang/IndexOutOfBoundsException", Cond.methodLink RX2 221 yX1_hasAbsence, Cond.instanceMethod yX1_hasAbsence, Cond.selects RX1 yX1_hasAbsence yX1_hasAbsence, Cond.initialized RX1, Cond.code yX1_hasAbsence cX1_hasAbsence 2 (some .boolean), Cond.fieldLink RX1 65 "CoverMeter$State" "absences" "I", Cond.methodLink RX2 30 yX2_needInRange, Cond.static yX2_needInRange, Cond.code yX2_needInRange cX2_needInRange 3 none, Cond.classLink RX2 49 "java/lang/IllegalArgumentException", Cond.initialized "java/lang/IllegalArgumentException", Cond.methodLink RX2 146 yX1_aboutAbsence]
def wsL_isAbsenceRight_r2 : List Cond := [Cond.instanceMethod yX1_aboutAbsence, Cond.selects RX1 yX1_aboutAbsence yX1_aboutAbsence, Cond.code yX1_aboutAbsence cX1_aboutAbsence 3 (some .int), Cond.fieldLink RX1 31 "CoverMeter$State" "absentees" "[I", Cond.fieldLink RX1 34 "CoverMeter$State" "shifts" "[I", Cond.fieldLink RX1 37 "CoverMeter$State" "statuses" "[I", Cond.fieldLink RX1 40 "CoverMeter$State" "coverers" "[I", Cond.fieldLink RX1 43 "CoverMeter$State" "points" "[I", Cond.methodLink RX1 119 yX1_bidsFor, Cond.instanceMethod yX1_bidsFor, Cond.selects RX1 yX1_bidsFor yX1_bidsFor, Cond.code yX1_bidsFor cX1_bidsFor 4 (some .int), Cond.fieldLink RX1 62 "CoverMeter$State" "persons" "I", Cond.fieldLink RX1 46 "CoverMeter$State" "bids" "[I", Cond.static yX2_bidIndex, Cond.code yX2_bidIndex cX2_bidIndex 2 (some .int), Cond.methodLink RX1 122 yX1_personsWhoCanCover, Cond.instanceMethod yX1_personsWhoCanCover, Cond.selects RX1 yX1_personsWhoCanCover yX1_personsWhoCanCover, Cond.code yX1_personsWhoCanCover cX1_personsWhoCanCover 4 (some .int), Cond.methodLink RX1 91 yX1_hindrance, Cond.instanceMethod yX1_hindrance, Cond.selects RX1 yX1_hindrance yX1_hindrance, Cond.code yX1_hindrance cX1_hindrance 7 (some .int)]
def wsL_isAbsenceRight_r3 : List Cond := [Cond.fieldLink RX1 19 "CoverMeter$State" "away" "[J", Cond.methodLink RX1 78 yX1_worked, Cond.instanceMethod yX1_worked, Cond.selects RX1 yX1_worked yX1_worked, Cond.code yX1_worked cX1_worked 2 (some .long), Cond.fieldLink RX1 15 "CoverMeter$State" "rosters" "[J", Cond.constantLong RX1 68 (-1), Cond.fieldLink RX1 22 "CoverMeter$State" "covering" "[J", Cond.methodLink RX1 84 yX1_restBehind, Cond.instanceMethod yX1_restBehind, Cond.selects RX1 yX1_restBehind yX1_restBehind, Cond.code yX1_restBehind cX1_restBehind 6 (some .long), Cond.fieldLink RX1 9 "CoverMeter$State" "settings" "[I", Cond.methodLink RX1 88 yX1_restBefore, Cond.instanceMethod yX1_restBefore, Cond.selects RX1 yX1_restBefore yX1_restBefore, Cond.code yX1_restBefore cX1_restBefore 6 (some .long), Cond.methodLink RL 32 yX2_work, Cond.instanceMethod yX2_work, Cond.selects RX2 yX2_work yX2_work, Cond.code yX2_work cX2_work 2 (some .long), Cond.methodLink RX2 68 yX2_needPerson, Cond.instanceMethod yX2_needPerson, Cond.selects RX2 yX2_needPerson yX2_needPerson]
def wsL_isAbsenceRight_r4 : List Cond := [Cond.code yX2_needPerson cX2_needPerson 2 none, Cond.methodLink RX2 213 yX1_hasPerson, Cond.instanceMethod yX1_hasPerson, Cond.selects RX1 yX1_hasPerson yX1_hasPerson, Cond.code yX1_hasPerson cX1_hasPerson 2 (some .boolean), Cond.methodLink RX2 142 yX1_worked]
def wsL_isAbsenceRight : List Cond := .code yL_isAbsenceRight cL_isAbsenceRight 7 (some .boolean) :: ((wsL_isAbsenceRight_r1 ++ (wsL_isAbsenceRight_r2 ++ (wsL_isAbsenceRight_r3 ++ wsL_isAbsenceRight_r4))) ++ wsX20 ++ wsX10 ++ (vx_atS RX2 220 "java/lang/IndexOutOfBoundsException" ["java/lang/RuntimeException", "java/lang/Exception"]).filter goodWord ++ (vx_atS RX2 53 "java/lang/IllegalArgumentException" ["java/lang/RuntimeException", "java/lang/Exception"]).filter goodWord)
def wsL_ones : List Cond := .code yL_ones cL_ones 4 (some .int) :: ([])
def wsL_areRight_r1 : List Cond := [Cond.methodLink RL 19 yX2_value, Cond.instanceMethod yX2_value, Cond.selects RX2 yX2_value yX2_value, Cond.initialized RX2, Cond.code yX2_value cX2_value 2 (some .int), Cond.fieldLink RX2 12 "CoverMeter" "now" "LCoverMeter$State;", Cond.methodLink RX2 30 yX2_needInRange, Cond.static yX2_needInRange, Cond.code yX2_needInRange cX2_needInRange 3 none, Cond.classLink RX2 49 "java/lang/IllegalArgumentException", Cond.initialized "java/lang/IllegalArgumentException", Cond.methodLink RX2 149 yX1_aboutAll, Cond.instanceMethod yX1_aboutAll, Cond.selects RX1 yX1_aboutAll yX1_aboutAll, Cond.initialized RX1, Cond.code yX1_aboutAll cX1_aboutAll 2 (some .int), Cond.fieldLink RX1 62 "CoverMeter$State" "persons" "I", Cond.fieldLink RX1 65 "CoverMeter$State" "absences" "I", Cond.fieldLink RX1 58 "CoverMeter$State" "handedOver" "I", Cond.methodLink RX1 125 yX1_countOf, Cond.instanceMethod yX1_countOf, Cond.selects RX1 yX1_countOf yX1_countOf, Cond.code yX1_countOf cX1_countOf 4 (some .int), Cond.fieldLink RX1 37 "CoverMeter$State" "statuses" "[I"]
def wsL_areRight_r2 : List Cond := [Cond.methodLink RX1 128 yX1_greatestMeter, Cond.instanceMethod yX1_greatestMeter, Cond.selects RX1 yX1_greatestMeter yX1_greatestMeter, Cond.code yX1_greatestMeter cX1_greatestMeter 3 (some .int), Cond.fieldLink RX1 25 "CoverMeter$State" "meters" "[I", Cond.methodLink RX1 141 Lib.Math.max.name, Cond.static Lib.Math.max.name, Cond.initialized "java/lang/Math", Cond.code Lib.Math.max.name Lib.Math.max.code 2 (some .int), Cond.methodLink RX1 132 yX1_lowestMeter, Cond.instanceMethod yX1_lowestMeter, Cond.selects RX1 yX1_lowestMeter yX1_lowestMeter, Cond.code yX1_lowestMeter cX1_lowestMeter 3 (some .int), Cond.methodLink RX1 146 Lib.Math.min.name, Cond.static Lib.Math.min.name, Cond.code Lib.Math.min.name Lib.Math.min.code 2 (some .int), Cond.methodLink RX1 135 yX1_allBids, Cond.instanceMethod yX1_allBids, Cond.selects RX1 yX1_allBids yX1_allBids, Cond.code yX1_allBids cX1_allBids 3 (some .int), Cond.methodLink RX1 119 yX1_bidsFor, Cond.instanceMethod yX1_bidsFor, Cond.selects RX1 yX1_bidsFor yX1_bidsFor, Cond.code yX1_bidsFor cX1_bidsFor 4 (some .int)]
def wsL_areRight_r3 : List Cond := [Cond.fieldLink RX1 46 "CoverMeter$State" "bids" "[I", Cond.static yX2_bidIndex, Cond.code yX2_bidIndex cX2_bidIndex 2 (some .int), Cond.methodLink RX1 138 yX1_allPoints, Cond.instanceMethod yX1_allPoints, Cond.selects RX1 yX1_allPoints yX1_allPoints, Cond.code yX1_allPoints cX1_allPoints 3 (some .int), Cond.fieldLink RX1 43 "CoverMeter$State" "points" "[I", Cond.methodLink RL 28 yX2_person, Cond.instanceMethod yX2_person, Cond.selects RX2 yX2_person yX2_person, Cond.code yX2_person cX2_person 3 (some .int), Cond.methodLink RX2 68 yX2_needPerson, Cond.instanceMethod yX2_needPerson, Cond.selects RX2 yX2_needPerson yX2_needPerson, Cond.code yX2_needPerson cX2_needPerson 2 none, Cond.classLink RX2 216 "java/lang/IndexOutOfBoundsException", Cond.initialized "java/lang/IndexOutOfBoundsException", Cond.methodLink RX2 213 yX1_hasPerson, Cond.instanceMethod yX1_hasPerson, Cond.selects RX1 yX1_hasPerson yX1_hasPerson, Cond.code yX1_hasPerson cX1_hasPerson 2 (some .boolean), Cond.methodLink RX2 139 yX1_aboutPerson, Cond.instanceMethod yX1_aboutPerson]
def wsL_areRight_r4 : List Cond := [Cond.selects RX1 yX1_aboutPerson yX1_aboutPerson, Cond.code yX1_aboutPerson cX1_aboutPerson 3 (some .int), Cond.fieldLink RX1 15 "CoverMeter$State" "rosters" "[J", Cond.fieldLink RX1 19 "CoverMeter$State" "away" "[J", Cond.fieldLink RX1 22 "CoverMeter$State" "covering" "[J", Cond.fieldLink RX1 28 "CoverMeter$State" "turns" "[I", Cond.methodLink RX1 110 yJ13_bitCount_95d88, Cond.static yJ13_bitCount_95d88, Cond.initialized RJ13, Cond.code yJ13_bitCount_95d88 cJ13_bitCount_95d88 2 (some .int), Cond.constantLong RJ13 314 (6148914691236517205), Cond.constantLong RJ13 316 (3689348814741910323), Cond.constantLong RJ13 318 (1085102592571150095), Cond.methodLink RX1 78 yX1_worked, Cond.instanceMethod yX1_worked, Cond.selects RX1 yX1_worked yX1_worked, Cond.code yX1_worked cX1_worked 2 (some .long), Cond.constantLong RX1 68 (-1), Cond.methodLink RX1 116 yX1_bidsBy, Cond.instanceMethod yX1_bidsBy, Cond.selects RX1 yX1_bidsBy yX1_bidsBy, Cond.code yX1_bidsBy cX1_bidsBy 4 (some .int), Cond.methodLink RL 32 yX2_work, Cond.instanceMethod yX2_work]
def wsL_areRight_r5 : List Cond := [Cond.selects RX2 yX2_work yX2_work, Cond.code yX2_work cX2_work 2 (some .long), Cond.methodLink RX2 142 yX1_worked, Cond.methodLink RL 100 yL_ones, Cond.static yL_ones, Cond.initialized RL, Cond.code yL_ones cL_ones 4 (some .int), Cond.methodLink RL 103 yL_isAbsenceRight, Cond.static yL_isAbsenceRight, Cond.code yL_isAbsenceRight cL_isAbsenceRight 7 (some .boolean), Cond.methodLink RL 36 yX2_absence, Cond.instanceMethod yX2_absence, Cond.selects RX2 yX2_absence yX2_absence, Cond.code yX2_absence cX2_absence 3 (some .int), Cond.methodLink RX2 93 yX2_needAbsence, Cond.instanceMethod yX2_needAbsence, Cond.selects RX2 yX2_needAbsence yX2_needAbsence, Cond.code yX2_needAbsence cX2_needAbsence 2 none, Cond.methodLink RX2 221 yX1_hasAbsence, Cond.instanceMethod yX1_hasAbsence, Cond.selects RX1 yX1_hasAbsence yX1_hasAbsence, Cond.code yX1_hasAbsence cX1_hasAbsence 2 (some .boolean), Cond.methodLink RX2 146 yX1_aboutAbsence, Cond.instanceMethod yX1_aboutAbsence]
def wsL_areRight_r6 : List Cond := [Cond.selects RX1 yX1_aboutAbsence yX1_aboutAbsence, Cond.code yX1_aboutAbsence cX1_aboutAbsence 3 (some .int), Cond.fieldLink RX1 31 "CoverMeter$State" "absentees" "[I", Cond.fieldLink RX1 34 "CoverMeter$State" "shifts" "[I", Cond.fieldLink RX1 40 "CoverMeter$State" "coverers" "[I", Cond.methodLink RX1 122 yX1_personsWhoCanCover, Cond.instanceMethod yX1_personsWhoCanCover, Cond.selects RX1 yX1_personsWhoCanCover yX1_personsWhoCanCover, Cond.code yX1_personsWhoCanCover cX1_personsWhoCanCover 4 (some .int), Cond.methodLink RX1 91 yX1_hindrance, Cond.instanceMethod yX1_hindrance, Cond.selects RX1 yX1_hindrance yX1_hindrance, Cond.code yX1_hindrance cX1_hindrance 7 (some .int), Cond.methodLink RX1 84 yX1_restBehind, Cond.instanceMethod yX1_restBehind, Cond.selects RX1 yX1_restBehind yX1_restBehind, Cond.code yX1_restBehind cX1_restBehind 6 (some .long), Cond.fieldLink RX1 9 "CoverMeter$State" "settings" "[I", Cond.methodLink RX1 88 yX1_restBefore, Cond.instanceMethod yX1_restBefore, Cond.selects RX1 yX1_restBefore yX1_restBefore, Cond.code yX1_restBefore cX1_restBefore 6 (some .long)]
def wsL_areRight : List Cond := .code yL_areRight cL_areRight 7 (some .boolean) :: ((wsL_areRight_r1 ++ (wsL_areRight_r2 ++ (wsL_areRight_r3 ++ (wsL_areRight_r4 ++ (wsL_areRight_r5 ++ wsL_areRight_r6))))) ++ wsX20 ++ wsX10 ++ (vx_atS RX2 53 "java/lang/IllegalArgumentException" ["java/lang/RuntimeException", "java/lang/Exception"]).filter goodWord ++ (vx_atS RX2 220 "java/lang/IndexOutOfBoundsException" ["java/lang/RuntimeException", "java/lang/Exception"]).filter goodWord)
def wsL_isUndone_r1 : List Cond := [Cond.methodLink RL 107 yL_view, Cond.static yL_view, Cond.initialized RL, Cond.code yL_view cL_view 5 (some .long), Cond.constantLong RL 15 (7), Cond.constantLong RL 17 (31), Cond.methodLink RL 19 yX2_value, Cond.instanceMethod yX2_value, Cond.selects RX2 yX2_value yX2_value, Cond.initialized RX2, Cond.code yX2_value cX2_value 2 (some .int), Cond.fieldLink RX2 12 "CoverMeter" "now" "LCoverMeter$State;", Cond.methodLink RX2 30 yX2_needInRange, Cond.static yX2_needInRange, Cond.code yX2_needInRange cX2_needInRange 3 none, Cond.classLink RX2 49 "java/lang/IllegalArgumentException", Cond.initialized "java/lang/IllegalArgumentException", Cond.methodLink RX2 149 yX1_aboutAll, Cond.instanceMethod yX1_aboutAll, Cond.selects RX1 yX1_aboutAll yX1_aboutAll, Cond.initialized RX1, Cond.code yX1_aboutAll cX1_aboutAll 2 (some .int), Cond.fieldLink RX1 62 "CoverMeter$State" "persons" "I", Cond.fieldLink RX1 65 "CoverMeter$State" "absences" "I"]
def wsL_isUndone_r2 : List Cond := [Cond.fieldLink RX1 58 "CoverMeter$State" "handedOver" "I", Cond.methodLink RX1 125 yX1_countOf, Cond.instanceMethod yX1_countOf, Cond.selects RX1 yX1_countOf yX1_countOf, Cond.code yX1_countOf cX1_countOf 4 (some .int), Cond.fieldLink RX1 37 "CoverMeter$State" "statuses" "[I", Cond.methodLink RX1 128 yX1_greatestMeter, Cond.instanceMethod yX1_greatestMeter, Cond.selects RX1 yX1_greatestMeter yX1_greatestMeter, Cond.code yX1_greatestMeter cX1_greatestMeter 3 (some .int), Cond.fieldLink RX1 25 "CoverMeter$State" "meters" "[I", Cond.methodLink RX1 141 Lib.Math.max.name, Cond.static Lib.Math.max.name, Cond.initialized "java/lang/Math", Cond.code Lib.Math.max.name Lib.Math.max.code 2 (some .int), Cond.methodLink RX1 132 yX1_lowestMeter, Cond.instanceMethod yX1_lowestMeter, Cond.selects RX1 yX1_lowestMeter yX1_lowestMeter, Cond.code yX1_lowestMeter cX1_lowestMeter 3 (some .int), Cond.methodLink RX1 146 Lib.Math.min.name, Cond.static Lib.Math.min.name, Cond.code Lib.Math.min.name Lib.Math.min.code 2 (some .int), Cond.methodLink RX1 135 yX1_allBids, Cond.instanceMethod yX1_allBids]
def wsL_isUndone_r3 : List Cond := [Cond.selects RX1 yX1_allBids yX1_allBids, Cond.code yX1_allBids cX1_allBids 3 (some .int), Cond.methodLink RX1 119 yX1_bidsFor, Cond.instanceMethod yX1_bidsFor, Cond.selects RX1 yX1_bidsFor yX1_bidsFor, Cond.code yX1_bidsFor cX1_bidsFor 4 (some .int), Cond.fieldLink RX1 46 "CoverMeter$State" "bids" "[I", Cond.static yX2_bidIndex, Cond.code yX2_bidIndex cX2_bidIndex 2 (some .int), Cond.methodLink RX1 138 yX1_allPoints, Cond.instanceMethod yX1_allPoints, Cond.selects RX1 yX1_allPoints yX1_allPoints, Cond.code yX1_allPoints cX1_allPoints 3 (some .int), Cond.fieldLink RX1 43 "CoverMeter$State" "points" "[I", Cond.methodLink RL 25 yX2_setting, Cond.instanceMethod yX2_setting, Cond.selects RX2 yX2_setting yX2_setting, Cond.code yX2_setting cX2_setting 2 (some .int), Cond.fieldLink RX2 44 "CoverMeter$State" "settings" "[I", Cond.methodLink RL 28 yX2_person, Cond.instanceMethod yX2_person, Cond.selects RX2 yX2_person yX2_person, Cond.code yX2_person cX2_person 3 (some .int), Cond.methodLink RX2 68 yX2_needPerson]
def wsL_isUndone_r4 : List Cond := [Cond.instanceMethod yX2_needPerson, Cond.selects RX2 yX2_needPerson yX2_needPerson, Cond.code yX2_needPerson cX2_needPerson 2 none, Cond.classLink RX2 216 "java/lang/IndexOutOfBoundsException", Cond.initialized "java/lang/IndexOutOfBoundsException", Cond.methodLink RX2 213 yX1_hasPerson, Cond.instanceMethod yX1_hasPerson, Cond.selects RX1 yX1_hasPerson yX1_hasPerson, Cond.code yX1_hasPerson cX1_hasPerson 2 (some .boolean), Cond.methodLink RX2 139 yX1_aboutPerson, Cond.instanceMethod yX1_aboutPerson, Cond.selects RX1 yX1_aboutPerson yX1_aboutPerson, Cond.code yX1_aboutPerson cX1_aboutPerson 3 (some .int), Cond.fieldLink RX1 15 "CoverMeter$State" "rosters" "[J", Cond.fieldLink RX1 19 "CoverMeter$State" "away" "[J", Cond.fieldLink RX1 22 "CoverMeter$State" "covering" "[J", Cond.fieldLink RX1 28 "CoverMeter$State" "turns" "[I", Cond.methodLink RX1 110 yJ13_bitCount_95d88, Cond.static yJ13_bitCount_95d88, Cond.initialized RJ13, Cond.code yJ13_bitCount_95d88 cJ13_bitCount_95d88 2 (some .int), Cond.constantLong RJ13 314 (6148914691236517205), Cond.constantLong RJ13 316 (3689348814741910323), Cond.constantLong RJ13 318 (1085102592571150095)]
def wsL_isUndone_r5 : List Cond := [Cond.methodLink RX1 78 yX1_worked, Cond.instanceMethod yX1_worked, Cond.selects RX1 yX1_worked yX1_worked, Cond.code yX1_worked cX1_worked 2 (some .long), Cond.constantLong RX1 68 (-1), Cond.methodLink RX1 116 yX1_bidsBy, Cond.instanceMethod yX1_bidsBy, Cond.selects RX1 yX1_bidsBy yX1_bidsBy, Cond.code yX1_bidsBy cX1_bidsBy 4 (some .int), Cond.methodLink RL 32 yX2_work, Cond.instanceMethod yX2_work, Cond.selects RX2 yX2_work yX2_work, Cond.code yX2_work cX2_work 2 (some .long), Cond.methodLink RX2 142 yX1_worked, Cond.methodLink RL 36 yX2_absence, Cond.instanceMethod yX2_absence, Cond.selects RX2 yX2_absence yX2_absence, Cond.code yX2_absence cX2_absence 3 (some .int), Cond.methodLink RX2 93 yX2_needAbsence, Cond.instanceMethod yX2_needAbsence, Cond.selects RX2 yX2_needAbsence yX2_needAbsence, Cond.code yX2_needAbsence cX2_needAbsence 2 none, Cond.methodLink RX2 221 yX1_hasAbsence, Cond.instanceMethod yX1_hasAbsence]
def wsL_isUndone_r6 : List Cond := [Cond.selects RX1 yX1_hasAbsence yX1_hasAbsence, Cond.code yX1_hasAbsence cX1_hasAbsence 2 (some .boolean), Cond.methodLink RX2 146 yX1_aboutAbsence, Cond.instanceMethod yX1_aboutAbsence, Cond.selects RX1 yX1_aboutAbsence yX1_aboutAbsence, Cond.code yX1_aboutAbsence cX1_aboutAbsence 3 (some .int), Cond.fieldLink RX1 31 "CoverMeter$State" "absentees" "[I", Cond.fieldLink RX1 34 "CoverMeter$State" "shifts" "[I", Cond.fieldLink RX1 40 "CoverMeter$State" "coverers" "[I", Cond.methodLink RX1 122 yX1_personsWhoCanCover, Cond.instanceMethod yX1_personsWhoCanCover, Cond.selects RX1 yX1_personsWhoCanCover yX1_personsWhoCanCover, Cond.code yX1_personsWhoCanCover cX1_personsWhoCanCover 4 (some .int), Cond.methodLink RX1 91 yX1_hindrance, Cond.instanceMethod yX1_hindrance, Cond.selects RX1 yX1_hindrance yX1_hindrance, Cond.code yX1_hindrance cX1_hindrance 7 (some .int), Cond.methodLink RX1 84 yX1_restBehind, Cond.instanceMethod yX1_restBehind, Cond.selects RX1 yX1_restBehind yX1_restBehind, Cond.code yX1_restBehind cX1_restBehind 6 (some .long), Cond.fieldLink RX1 9 "CoverMeter$State" "settings" "[I", Cond.methodLink RX1 88 yX1_restBefore, Cond.instanceMethod yX1_restBefore]
def wsL_isUndone_r7 : List Cond := [Cond.selects RX1 yX1_restBefore yX1_restBefore, Cond.code yX1_restBefore cX1_restBefore 6 (some .long), Cond.methodLink RL 39 yX2_bidOf, Cond.instanceMethod yX2_bidOf, Cond.selects RX2 yX2_bidOf yX2_bidOf, Cond.code yX2_bidOf cX2_bidOf 3 (some .int), Cond.fieldLink RX2 99 "CoverMeter$State" "bids" "[I", Cond.methodLink RX2 102 yX2_bidIndex, Cond.methodLink RL 111 yX2_undo, Cond.instanceMethod yX2_undo, Cond.selects RX2 yX2_undo yX2_undo, Cond.code yX2_undo cX2_undo 1 (some .int), Cond.fieldLink RX2 196 "CoverMeter" "savedStates" "I", Cond.fieldLink RX2 19 "CoverMeter" "saved" "[LCoverMeter$State;", Cond.methodLink RX2 60 yX2_needAllowed, Cond.static yX2_needAllowed, Cond.code yX2_needAllowed cX2_needAllowed 1 none, Cond.classLink RX2 228 "java/lang/IllegalStateException", Cond.initialized "java/lang/IllegalStateException", Cond.methodLink RX2 152 yX1_copyFrom, Cond.instanceMethod yX1_copyFrom, Cond.selects RX1 yX1_copyFrom yX1_copyFrom, Cond.code yX1_copyFrom cX1_copyFrom 2 none, Cond.methodLink RX1 52 arraycopyName]
def wsL_isUndone_r8 : List Cond := [Cond.native arraycopyName, Cond.static arraycopyName, Cond.initialized "java/lang/System", Cond.methodLink RL 114 yL_tries, Cond.static yL_tries, Cond.codeWith yL_tries cL_tries 5 (some .int) [(0, 7, 8, 93), (0, 7, 13, 96), (0, 7, 18, 98)], Cond.classLink RL 93 "java/lang/IndexOutOfBoundsException", Cond.classLink RL 96 "java/lang/IllegalArgumentException", Cond.classLink RL 98 "java/lang/IllegalStateException", Cond.constant RL 95 (-1000000000), Cond.methodLink RL 89 yL_turn, Cond.static yL_turn, Cond.code yL_turn cL_turn 6 (some .int), Cond.methodLink RL 69 yL_up, Cond.static yL_up, Cond.code yL_up cL_up 2 (some .int), Cond.constant RL 8 (2147483647), Cond.methodLink RL 42 yX2_set, Cond.instanceMethod yX2_set, Cond.selects RX2 yX2_set yX2_set, Cond.code yX2_set cX2_set 4 (some .int), Cond.fieldLink RX2 34 "CoverMeter" "LOWEST_SETTING" "[I", Cond.fieldLink RX2 38 "CoverMeter" "GREATEST_SETTING" "[I", Cond.methodLink RX2 41 yX2_save]
def wsL_isUndone_r9 : List Cond := [Cond.instanceMethod yX2_save, Cond.selects RX2 yX2_save yX2_save, Cond.code yX2_save cX2_save 1 none, Cond.methodLink RX2 233 yX2_dropOldest, Cond.instanceMethod yX2_dropOldest, Cond.selects RX2 yX2_dropOldest yX2_dropOldest, Cond.code yX2_dropOldest cX2_dropOldest 3 none, Cond.methodLink RL 74 yL_some, Cond.static yL_some, Cond.code yL_some cL_some 2 (some .long), Cond.constantLong RL 9 (65535), Cond.constantLong RL 11 (65537), Cond.constantLong RL 13 (4398046511103), Cond.methodLink RL 45 yX2_addPerson, Cond.instanceMethod yX2_addPerson, Cond.selects RX2 yX2_addPerson yX2_addPerson, Cond.code yX2_addPerson cX2_addPerson 3 (some .int), Cond.constantLong RX2 47 (4398046511103), Cond.fieldLink RX2 56 "CoverMeter$State" "persons" "I", Cond.methodLink RX2 64 yX1_enterPerson, Cond.instanceMethod yX1_enterPerson, Cond.selects RX1 yX1_enterPerson yX1_enterPerson, Cond.code yX1_enterPerson cX1_enterPerson 4 (some .int), Cond.methodLink RL 49 yX2_roster]
def wsL_isUndone_r10 : List Cond := [Cond.instanceMethod yX2_roster, Cond.selects RX2 yX2_roster yX2_roster, Cond.code yX2_roster cX2_roster 4 (some .int), Cond.fieldLink RX2 76 "CoverMeter$State" "rosters" "[J", Cond.methodLink RX2 72 yX1_canChangeRoster, Cond.instanceMethod yX1_canChangeRoster, Cond.selects RX1 yX1_canChangeRoster yX1_canChangeRoster, Cond.code yX1_canChangeRoster cX1_canChangeRoster 7 (some .boolean), Cond.methodLink RX2 80 yJ13_bitCount_95d88, Cond.methodLink RL 53 yX2_absent, Cond.instanceMethod yX2_absent, Cond.selects RX2 yX2_absent yX2_absent, Cond.code yX2_absent cX2_absent 3 (some .int), Cond.methodLink RX2 85 yX1_canBeAbsent, Cond.instanceMethod yX1_canBeAbsent, Cond.selects RX1 yX1_canBeAbsent yX1_canBeAbsent, Cond.code yX1_canBeAbsent cX1_canBeAbsent 5 (some .boolean), Cond.methodLink RX2 89 yX1_enterAbsence, Cond.instanceMethod yX1_enterAbsence, Cond.selects RX1 yX1_enterAbsence yX1_enterAbsence, Cond.code yX1_enterAbsence cX1_enterAbsence 4 (some .int), Cond.methodLink RX1 70 yX1_dropBids, Cond.instanceMethod yX1_dropBids, Cond.selects RX1 yX1_dropBids yX1_dropBids]
def wsL_isUndone_r11 : List Cond := [Cond.code yX1_dropBids cX1_dropBids 3 none, Cond.methodLink RL 56 yX2_bid, Cond.instanceMethod yX2_bid, Cond.selects RX2 yX2_bid yX2_bid, Cond.code yX2_bid cX2_bid 4 (some .int), Cond.methodLink RX2 96 yX1_canBid, Cond.instanceMethod yX1_canBid, Cond.selects RX1 yX1_canBid yX1_canBid, Cond.code yX1_canBid cX1_canBid 3 (some .boolean), Cond.methodLink RX2 105 yX1_bidsFor, Cond.methodLink RL 78 yX2_takeBack, Cond.instanceMethod yX2_takeBack, Cond.selects RX2 yX2_takeBack yX2_takeBack, Cond.code yX2_takeBack cX2_takeBack 5 (some .int), Cond.methodLink RL 60 yX2_cover, Cond.instanceMethod yX2_cover, Cond.selects RX2 yX2_cover yX2_cover, Cond.code yX2_cover cX2_cover 2 (some .int), Cond.fieldLink RX2 116 "CoverMeter$State" "coverers" "[I", Cond.methodLink RX2 109 yX1_nextCoverer, Cond.instanceMethod yX1_nextCoverer, Cond.selects RX1 yX1_nextCoverer yX1_nextCoverer, Cond.code yX1_nextCoverer cX1_nextCoverer 4 (some .int), Cond.methodLink RX1 94 yX1_comesBefore]
def wsL_isUndone_r12 : List Cond := [Cond.instanceMethod yX1_comesBefore, Cond.selects RX1 yX1_comesBefore yX1_comesBefore, Cond.code yX1_comesBefore cX1_comesBefore 6 (some .boolean), Cond.methodLink RX1 98 yX1_isLess, Cond.static yX1_isLess, Cond.code yX1_isLess cX1_isLess 4 (some .boolean), Cond.methodLink RX2 112 yX1_coverOpen, Cond.instanceMethod yX1_coverOpen, Cond.selects RX1 yX1_coverOpen yX1_coverOpen, Cond.code yX1_coverOpen cX1_coverOpen 4 (some .boolean), Cond.methodLink RX1 102 yX1_nextCoverer, Cond.methodLink RL 81 yX2_coverAll, Cond.instanceMethod yX2_coverAll, Cond.selects RX2 yX2_coverAll yX2_coverAll, Cond.code yX2_coverAll cX2_coverAll 1 (some .int), Cond.methodLink RX2 119 yX1_coverAllOpen, Cond.instanceMethod yX1_coverAllOpen, Cond.selects RX1 yX1_coverAllOpen yX1_coverAllOpen, Cond.code yX1_coverAllOpen cX1_coverAllOpen 3 (some .int), Cond.methodLink RX1 106 yX1_coverOpen, Cond.methodLink RL 63 yX2_handOver, Cond.instanceMethod yX2_handOver, Cond.selects RX2 yX2_handOver yX2_handOver, Cond.code yX2_handOver cX2_handOver 4 (some .int)]
def wsL_isUndone_r13 : List Cond := [Cond.methodLink RX2 123 yX1_isCovered, Cond.instanceMethod yX1_isCovered, Cond.selects RX1 yX1_isCovered yX1_isCovered, Cond.code yX1_isCovered cX1_isCovered 2 (some .boolean), Cond.methodLink RX2 126 yX1_hindrance, Cond.methodLink RX2 129 yX1_moveCover, Cond.instanceMethod yX1_moveCover, Cond.selects RX1 yX1_moveCover yX1_moveCover, Cond.code yX1_moveCover cX1_moveCover 6 none, Cond.methodLink RL 66 yX2_giveUp, Cond.instanceMethod yX2_giveUp, Cond.selects RX2 yX2_giveUp yX2_giveUp, Cond.code yX2_giveUp cX2_giveUp 3 (some .int), Cond.fieldLink RX2 133 "CoverMeter$State" "statuses" "[I", Cond.methodLink RX2 136 yX1_dropBids, Cond.methodLink RL 85 yL_any, Cond.static yL_any, Cond.code yL_any cL_any 3 (some .int)]
def wsL_isUndone : List Cond := .code yL_isUndone cL_isUndone 9 (some .boolean) :: ((wsL_isUndone_r1 ++ (wsL_isUndone_r2 ++ (wsL_isUndone_r3 ++ (wsL_isUndone_r4 ++ (wsL_isUndone_r5 ++ (wsL_isUndone_r6 ++ (wsL_isUndone_r7 ++ (wsL_isUndone_r8 ++ (wsL_isUndone_r9 ++ (wsL_isUndone_r10 ++ (wsL_isUndone_r11 ++ (wsL_isUndone_r12 ++ wsL_isUndone_r13)))))))))))) ++ wsX20 ++ wsX10 ++ (vx_atS RX2 53 "java/lang/IllegalArgumentException" ["java/lang/RuntimeException", "java/lang/Exception"]).filter goodWord ++ (vx_atS RX2 220 "java/lang/IndexOutOfBoundsException" ["java/lang/RuntimeException", "java/lang/Exception"]).filter goodWord ++ (vx_atS RX2 232 "java/lang/IllegalStateException" ["java/lang/RuntimeException", "java/lang/Exception"]).filter goodWord)
def wsL_law0_r1 : List Cond := [Cond.classLink RL 20 RX2, Cond.instantiable RX2 5, Cond.initialized RX2, Cond.constant RL 95 (-1000000000), Cond.methodLink RL 117 yX2_init, Cond.instanceMethod yX2_init, Cond.code yX2_init cX2_init 2 none, Cond.methodLink RX2 3 objectInit, Cond.instanceMethod objectInit, Cond.code objectInit ⟨#[0xb1]⟩ 1 none, Cond.classLink RX2 9 RX1, Cond.instantiable RX1 15, Cond.initialized RX1, Cond.fieldLink RX2 12 "CoverMeter" "now" "LCoverMeter$State;", Cond.fieldLink RX2 16 "CoverMeter" "trial" "LCoverMeter$State;", Cond.fieldLink RX2 19 "CoverMeter" "saved" "[LCoverMeter$State;", Cond.classLink RX2 23 RX0, Cond.instantiable RX0 8, Cond.initialized RX0, Cond.fieldLink RX2 26 "CoverMeter" "orders" "LCoverMeter$Orders;", Cond.methodLink RX2 11 yX1_init, Cond.instanceMethod yX1_init, Cond.code yX1_init cX1_init 1 none, Cond.methodLink RX1 3 objectInit]
def wsL_law0_r2 : List Cond := [Cond.arrayClass .int, Cond.fieldLink RX1 9 "CoverMeter$State" "settings" "[I", Cond.arrayClass .long, Cond.fieldLink RX1 15 "CoverMeter$State" "rosters" "[J", Cond.fieldLink RX1 19 "CoverMeter$State" "away" "[J", Cond.fieldLink RX1 22 "CoverMeter$State" "covering" "[J", Cond.fieldLink RX1 25 "CoverMeter$State" "meters" "[I", Cond.fieldLink RX1 28 "CoverMeter$State" "turns" "[I", Cond.fieldLink RX1 31 "CoverMeter$State" "absentees" "[I", Cond.fieldLink RX1 34 "CoverMeter$State" "shifts" "[I", Cond.fieldLink RX1 37 "CoverMeter$State" "statuses" "[I", Cond.fieldLink RX1 40 "CoverMeter$State" "coverers" "[I", Cond.fieldLink RX1 43 "CoverMeter$State" "points" "[I", Cond.fieldLink RX1 46 "CoverMeter$State" "bids" "[I", Cond.methodLink RX1 52 arraycopyName, Cond.native arraycopyName, Cond.static arraycopyName, Cond.initialized "java/lang/System", Cond.instanceMethod yX0_init, Cond.code yX0_init cX0_init 1 none, Cond.methodLink RX0 3 objectInit, Cond.fieldLink RX0 9 "CoverMeter$Orders" "text" "[I", Cond.methodLink RL 118 yL_cell, Cond.static yL_cell]
def wsL_law0_r3 : List Cond := [Cond.initialized RL, Cond.code yL_cell cL_cell 2 (some .int), Cond.constant RL 7 (763049417), Cond.methodLink RL 107 yL_view, Cond.static yL_view, Cond.code yL_view cL_view 5 (some .long), Cond.constantLong RL 15 (7), Cond.constantLong RL 17 (31), Cond.methodLink RL 19 yX2_value, Cond.instanceMethod yX2_value, Cond.selects RX2 yX2_value yX2_value, Cond.code yX2_value cX2_value 2 (some .int), Cond.methodLink RX2 30 yX2_needInRange, Cond.static yX2_needInRange, Cond.code yX2_needInRange cX2_needInRange 3 none, Cond.classLink RX2 49 "java/lang/IllegalArgumentException", Cond.initialized "java/lang/IllegalArgumentException", Cond.methodLink RX2 149 yX1_aboutAll, Cond.instanceMethod yX1_aboutAll, Cond.selects RX1 yX1_aboutAll yX1_aboutAll, Cond.code yX1_aboutAll cX1_aboutAll 2 (some .int), Cond.fieldLink RX1 62 "CoverMeter$State" "persons" "I", Cond.fieldLink RX1 65 "CoverMeter$State" "absences" "I", Cond.fieldLink RX1 58 "CoverMeter$State" "handedOver" "I"]
def wsL_law0_r4 : List Cond := [Cond.methodLink RX1 125 yX1_countOf, Cond.instanceMethod yX1_countOf, Cond.selects RX1 yX1_countOf yX1_countOf, Cond.code yX1_countOf cX1_countOf 4 (some .int), Cond.methodLink RX1 128 yX1_greatestMeter, Cond.instanceMethod yX1_greatestMeter, Cond.selects RX1 yX1_greatestMeter yX1_greatestMeter, Cond.code yX1_greatestMeter cX1_greatestMeter 3 (some .int), Cond.methodLink RX1 141 Lib.Math.max.name, Cond.static Lib.Math.max.name, Cond.initialized "java/lang/Math", Cond.code Lib.Math.max.name Lib.Math.max.code 2 (some .int), Cond.methodLink RX1 132 yX1_lowestMeter, Cond.instanceMethod yX1_lowestMeter, Cond.selects RX1 yX1_lowestMeter yX1_lowestMeter, Cond.code yX1_lowestMeter cX1_lowestMeter 3 (some .int), Cond.methodLink RX1 146 Lib.Math.min.name, Cond.static Lib.Math.min.name, Cond.code Lib.Math.min.name Lib.Math.min.code 2 (some .int), Cond.methodLink RX1 135 yX1_allBids, Cond.instanceMethod yX1_allBids, Cond.selects RX1 yX1_allBids yX1_allBids, Cond.code yX1_allBids cX1_allBids 3 (some .int), Cond.methodLink RX1 119 yX1_bidsFor]
def wsL_law0_r5 : List Cond := [Cond.instanceMethod yX1_bidsFor, Cond.selects RX1 yX1_bidsFor yX1_bidsFor, Cond.code yX1_bidsFor cX1_bidsFor 4 (some .int), Cond.static yX2_bidIndex, Cond.code yX2_bidIndex cX2_bidIndex 2 (some .int), Cond.methodLink RX1 138 yX1_allPoints, Cond.instanceMethod yX1_allPoints, Cond.selects RX1 yX1_allPoints yX1_allPoints, Cond.code yX1_allPoints cX1_allPoints 3 (some .int), Cond.methodLink RL 25 yX2_setting, Cond.instanceMethod yX2_setting, Cond.selects RX2 yX2_setting yX2_setting, Cond.code yX2_setting cX2_setting 2 (some .int), Cond.fieldLink RX2 44 "CoverMeter$State" "settings" "[I", Cond.methodLink RL 28 yX2_person, Cond.instanceMethod yX2_person, Cond.selects RX2 yX2_person yX2_person, Cond.code yX2_person cX2_person 3 (some .int), Cond.methodLink RX2 68 yX2_needPerson, Cond.instanceMethod yX2_needPerson, Cond.selects RX2 yX2_needPerson yX2_needPerson, Cond.code yX2_needPerson cX2_needPerson 2 none, Cond.classLink RX2 216 "java/lang/IndexOutOfBoundsException", Cond.initialized "java/lang/IndexOutOfBoundsException"]
def wsL_law0_r6 : List Cond := [Cond.methodLink RX2 213 yX1_hasPerson, Cond.instanceMethod yX1_hasPerson, Cond.selects RX1 yX1_hasPerson yX1_hasPerson, Cond.code yX1_hasPerson cX1_hasPerson 2 (some .boolean), Cond.methodLink RX2 139 yX1_aboutPerson, Cond.instanceMethod yX1_aboutPerson, Cond.selects RX1 yX1_aboutPerson yX1_aboutPerson, Cond.code yX1_aboutPerson cX1_aboutPerson 3 (some .int), Cond.methodLink RX1 110 yJ13_bitCount_95d88, Cond.static yJ13_bitCount_95d88, Cond.initialized RJ13, Cond.code yJ13_bitCount_95d88 cJ13_bitCount_95d88 2 (some .int), Cond.constantLong RJ13 314 (6148914691236517205), Cond.constantLong RJ13 316 (3689348814741910323), Cond.constantLong RJ13 318 (1085102592571150095), Cond.methodLink RX1 78 yX1_worked, Cond.instanceMethod yX1_worked, Cond.selects RX1 yX1_worked yX1_worked, Cond.code yX1_worked cX1_worked 2 (some .long), Cond.constantLong RX1 68 (-1), Cond.methodLink RX1 116 yX1_bidsBy, Cond.instanceMethod yX1_bidsBy, Cond.selects RX1 yX1_bidsBy yX1_bidsBy, Cond.code yX1_bidsBy cX1_bidsBy 4 (some .int)]
def wsL_law0_r7 : List Cond := [Cond.methodLink RL 32 yX2_work, Cond.instanceMethod yX2_work, Cond.selects RX2 yX2_work yX2_work, Cond.code yX2_work cX2_work 2 (some .long), Cond.methodLink RX2 142 yX1_worked, Cond.methodLink RL 36 yX2_absence, Cond.instanceMethod yX2_absence, Cond.selects RX2 yX2_absence yX2_absence, Cond.code yX2_absence cX2_absence 3 (some .int), Cond.methodLink RX2 93 yX2_needAbsence, Cond.instanceMethod yX2_needAbsence, Cond.selects RX2 yX2_needAbsence yX2_needAbsence, Cond.code yX2_needAbsence cX2_needAbsence 2 none, Cond.methodLink RX2 221 yX1_hasAbsence, Cond.instanceMethod yX1_hasAbsence, Cond.selects RX1 yX1_hasAbsence yX1_hasAbsence, Cond.code yX1_hasAbsence cX1_hasAbsence 2 (some .boolean), Cond.methodLink RX2 146 yX1_aboutAbsence, Cond.instanceMethod yX1_aboutAbsence, Cond.selects RX1 yX1_aboutAbsence yX1_aboutAbsence, Cond.code yX1_aboutAbsence cX1_aboutAbsence 3 (some .int), Cond.methodLink RX1 122 yX1_personsWhoCanCover, Cond.instanceMethod yX1_personsWhoCanCover, Cond.selects RX1 yX1_personsWhoCanCover yX1_personsWhoCanCover]
def wsL_law0_r8 : List Cond := [Cond.code yX1_personsWhoCanCover cX1_personsWhoCanCover 4 (some .int), Cond.methodLink RX1 91 yX1_hindrance, Cond.instanceMethod yX1_hindrance, Cond.selects RX1 yX1_hindrance yX1_hindrance, Cond.code yX1_hindrance cX1_hindrance 7 (some .int), Cond.methodLink RX1 84 yX1_restBehind, Cond.instanceMethod yX1_restBehind, Cond.selects RX1 yX1_restBehind yX1_restBehind, Cond.code yX1_restBehind cX1_restBehind 6 (some .long), Cond.methodLink RX1 88 yX1_restBefore, Cond.instanceMethod yX1_restBefore, Cond.selects RX1 yX1_restBefore yX1_restBefore, Cond.code yX1_restBefore cX1_restBefore 6 (some .long), Cond.methodLink RL 39 yX2_bidOf, Cond.instanceMethod yX2_bidOf, Cond.selects RX2 yX2_bidOf yX2_bidOf, Cond.code yX2_bidOf cX2_bidOf 3 (some .int), Cond.fieldLink RX2 99 "CoverMeter$State" "bids" "[I", Cond.methodLink RX2 102 yX2_bidIndex, Cond.methodLink RL 122 yX2_digest, Cond.instanceMethod yX2_digest, Cond.selects RX2 yX2_digest yX2_digest, Cond.code yX2_digest cX2_digest 4 (some .long), Cond.constantLong RX2 199 (115537)]
def wsL_law0_r9 : List Cond := [Cond.fieldLink RX2 174 "CoverMeter$Orders" "length" "I", Cond.constantLong RX2 201 (31), Cond.fieldLink RX2 56 "CoverMeter$State" "persons" "I", Cond.fieldLink RX2 207 "CoverMeter$State" "absences" "I", Cond.fieldLink RX2 196 "CoverMeter" "savedStates" "I", Cond.methodLink RX2 203 yX2_digestPerson, Cond.instanceMethod yX2_digestPerson, Cond.selects RX2 yX2_digestPerson yX2_digestPerson, Cond.code yX2_digestPerson cX2_digestPerson 7 (some .long), Cond.methodLink RX2 210 yX2_digestAbsence, Cond.instanceMethod yX2_digestAbsence, Cond.selects RX2 yX2_digestAbsence yX2_digestAbsence, Cond.code yX2_digestAbsence cX2_digestAbsence 7 (some .long), Cond.methodLink RL 114 yL_tries, Cond.static yL_tries, Cond.codeWith yL_tries cL_tries 5 (some .int) [(0, 7, 8, 93), (0, 7, 13, 96), (0, 7, 18, 98)], Cond.classLink RL 93 "java/lang/IndexOutOfBoundsException", Cond.classLink RL 96 "java/lang/IllegalArgumentException", Cond.classLink RL 98 "java/lang/IllegalStateException", Cond.methodLink RL 89 yL_turn, Cond.static yL_turn, Cond.code yL_turn cL_turn 6 (some .int), Cond.methodLink RL 69 yL_up, Cond.static yL_up]
def wsL_law0_r10 : List Cond := [Cond.code yL_up cL_up 2 (some .int), Cond.constant RL 8 (2147483647), Cond.methodLink RL 42 yX2_set, Cond.instanceMethod yX2_set, Cond.selects RX2 yX2_set yX2_set, Cond.code yX2_set cX2_set 4 (some .int), Cond.fieldLink RX2 34 "CoverMeter" "LOWEST_SETTING" "[I", Cond.fieldLink RX2 38 "CoverMeter" "GREATEST_SETTING" "[I", Cond.methodLink RX2 41 yX2_save, Cond.instanceMethod yX2_save, Cond.selects RX2 yX2_save yX2_save, Cond.code yX2_save cX2_save 1 none, Cond.methodLink RX2 233 yX2_dropOldest, Cond.instanceMethod yX2_dropOldest, Cond.selects RX2 yX2_dropOldest yX2_dropOldest, Cond.code yX2_dropOldest cX2_dropOldest 3 none, Cond.methodLink RX2 152 yX1_copyFrom, Cond.instanceMethod yX1_copyFrom, Cond.selects RX1 yX1_copyFrom yX1_copyFrom, Cond.code yX1_copyFrom cX1_copyFrom 2 none, Cond.methodLink RL 74 yL_some, Cond.static yL_some, Cond.code yL_some cL_some 2 (some .long), Cond.constantLong RL 9 (65535)]
def wsL_law0_r11 : List Cond := [Cond.constantLong RL 11 (65537), Cond.constantLong RL 13 (4398046511103), Cond.methodLink RL 45 yX2_addPerson, Cond.instanceMethod yX2_addPerson, Cond.selects RX2 yX2_addPerson yX2_addPerson, Cond.code yX2_addPerson cX2_addPerson 3 (some .int), Cond.constantLong RX2 47 (4398046511103), Cond.methodLink RX2 60 yX2_needAllowed, Cond.static yX2_needAllowed, Cond.code yX2_needAllowed cX2_needAllowed 1 none, Cond.classLink RX2 228 "java/lang/IllegalStateException", Cond.initialized "java/lang/IllegalStateException", Cond.methodLink RX2 64 yX1_enterPerson, Cond.instanceMethod yX1_enterPerson, Cond.selects RX1 yX1_enterPerson yX1_enterPerson, Cond.code yX1_enterPerson cX1_enterPerson 4 (some .int), Cond.methodLink RL 49 yX2_roster, Cond.instanceMethod yX2_roster, Cond.selects RX2 yX2_roster yX2_roster, Cond.code yX2_roster cX2_roster 4 (some .int), Cond.fieldLink RX2 76 "CoverMeter$State" "rosters" "[J", Cond.methodLink RX2 72 yX1_canChangeRoster, Cond.instanceMethod yX1_canChangeRoster, Cond.selects RX1 yX1_canChangeRoster yX1_canChangeRoster]
def wsL_law0_r12 : List Cond := [Cond.code yX1_canChangeRoster cX1_canChangeRoster 7 (some .boolean), Cond.methodLink RX2 80 yJ13_bitCount_95d88, Cond.methodLink RL 53 yX2_absent, Cond.instanceMethod yX2_absent, Cond.selects RX2 yX2_absent yX2_absent, Cond.code yX2_absent cX2_absent 3 (some .int), Cond.methodLink RX2 85 yX1_canBeAbsent, Cond.instanceMethod yX1_canBeAbsent, Cond.selects RX1 yX1_canBeAbsent yX1_canBeAbsent, Cond.code yX1_canBeAbsent cX1_canBeAbsent 5 (some .boolean), Cond.methodLink RX2 89 yX1_enterAbsence, Cond.instanceMethod yX1_enterAbsence, Cond.selects RX1 yX1_enterAbsence yX1_enterAbsence, Cond.code yX1_enterAbsence cX1_enterAbsence 4 (some .int), Cond.methodLink RX1 70 yX1_dropBids, Cond.instanceMethod yX1_dropBids, Cond.selects RX1 yX1_dropBids yX1_dropBids, Cond.code yX1_dropBids cX1_dropBids 3 none, Cond.methodLink RL 56 yX2_bid, Cond.instanceMethod yX2_bid, Cond.selects RX2 yX2_bid yX2_bid, Cond.code yX2_bid cX2_bid 4 (some .int), Cond.methodLink RX2 96 yX1_canBid, Cond.instanceMethod yX1_canBid]
def wsL_law0_r13 : List Cond := [Cond.selects RX1 yX1_canBid yX1_canBid, Cond.code yX1_canBid cX1_canBid 3 (some .boolean), Cond.methodLink RX2 105 yX1_bidsFor, Cond.methodLink RL 78 yX2_takeBack, Cond.instanceMethod yX2_takeBack, Cond.selects RX2 yX2_takeBack yX2_takeBack, Cond.code yX2_takeBack cX2_takeBack 5 (some .int), Cond.methodLink RL 60 yX2_cover, Cond.instanceMethod yX2_cover, Cond.selects RX2 yX2_cover yX2_cover, Cond.code yX2_cover cX2_cover 2 (some .int), Cond.fieldLink RX2 116 "CoverMeter$State" "coverers" "[I", Cond.methodLink RX2 109 yX1_nextCoverer, Cond.instanceMethod yX1_nextCoverer, Cond.selects RX1 yX1_nextCoverer yX1_nextCoverer, Cond.code yX1_nextCoverer cX1_nextCoverer 4 (some .int), Cond.methodLink RX1 94 yX1_comesBefore, Cond.instanceMethod yX1_comesBefore, Cond.selects RX1 yX1_comesBefore yX1_comesBefore, Cond.code yX1_comesBefore cX1_comesBefore 6 (some .boolean), Cond.methodLink RX1 98 yX1_isLess, Cond.static yX1_isLess, Cond.code yX1_isLess cX1_isLess 4 (some .boolean), Cond.methodLink RX2 112 yX1_coverOpen]
def wsL_law0_r14 : List Cond := [Cond.instanceMethod yX1_coverOpen, Cond.selects RX1 yX1_coverOpen yX1_coverOpen, Cond.code yX1_coverOpen cX1_coverOpen 4 (some .boolean), Cond.methodLink RX1 102 yX1_nextCoverer, Cond.methodLink RL 81 yX2_coverAll, Cond.instanceMethod yX2_coverAll, Cond.selects RX2 yX2_coverAll yX2_coverAll, Cond.code yX2_coverAll cX2_coverAll 1 (some .int), Cond.methodLink RX2 119 yX1_coverAllOpen, Cond.instanceMethod yX1_coverAllOpen, Cond.selects RX1 yX1_coverAllOpen yX1_coverAllOpen, Cond.code yX1_coverAllOpen cX1_coverAllOpen 3 (some .int), Cond.methodLink RX1 106 yX1_coverOpen, Cond.methodLink RL 63 yX2_handOver, Cond.instanceMethod yX2_handOver, Cond.selects RX2 yX2_handOver yX2_handOver, Cond.code yX2_handOver cX2_handOver 4 (some .int), Cond.methodLink RX2 123 yX1_isCovered, Cond.instanceMethod yX1_isCovered, Cond.selects RX1 yX1_isCovered yX1_isCovered, Cond.code yX1_isCovered cX1_isCovered 2 (some .boolean), Cond.methodLink RX2 126 yX1_hindrance, Cond.methodLink RX2 129 yX1_moveCover, Cond.instanceMethod yX1_moveCover]
def wsL_law0_r15 : List Cond := [Cond.selects RX1 yX1_moveCover yX1_moveCover, Cond.code yX1_moveCover cX1_moveCover 6 none, Cond.methodLink RL 66 yX2_giveUp, Cond.instanceMethod yX2_giveUp, Cond.selects RX2 yX2_giveUp yX2_giveUp, Cond.code yX2_giveUp cX2_giveUp 3 (some .int), Cond.fieldLink RX2 133 "CoverMeter$State" "statuses" "[I", Cond.methodLink RX2 136 yX1_dropBids, Cond.methodLink RL 85 yL_any, Cond.static yL_any, Cond.code yL_any cL_any 3 (some .int), Cond.methodLink RL 126 yL_isUndone, Cond.static yL_isUndone, Cond.code yL_isUndone cL_isUndone 9 (some .boolean), Cond.methodLink RL 111 yX2_undo, Cond.instanceMethod yX2_undo, Cond.selects RX2 yX2_undo yX2_undo, Cond.code yX2_undo cX2_undo 1 (some .int), Cond.methodLink RL 130 yL_areRight, Cond.static yL_areRight, Cond.code yL_areRight cL_areRight 7 (some .boolean), Cond.methodLink RL 100 yL_ones, Cond.static yL_ones, Cond.code yL_ones cL_ones 4 (some .int)]
def wsL_law0_r16 : List Cond := [Cond.methodLink RL 103 yL_isAbsenceRight, Cond.static yL_isAbsenceRight, Cond.code yL_isAbsenceRight cL_isAbsenceRight 7 (some .boolean)]
def wsL_law0 : List Cond := (wsL_law0_r1 ++ (wsL_law0_r2 ++ (wsL_law0_r3 ++ (wsL_law0_r4 ++ (wsL_law0_r5 ++ (wsL_law0_r6 ++ (wsL_law0_r7 ++ (wsL_law0_r8 ++ (wsL_law0_r9 ++ (wsL_law0_r10 ++ (wsL_law0_r11 ++ (wsL_law0_r12 ++ (wsL_law0_r13 ++ (wsL_law0_r14 ++ (wsL_law0_r15 ++ wsL_law0_r16))))))))))))))) ++ wsX20 ++ wsX10 ++ wsX00 ++ ([] : List Cond)
def wsL_law : List Cond := wsL_law0 ++ (vx_atS RX2 53 "java/lang/IllegalArgumentException" ["java/lang/RuntimeException", "java/lang/Exception"]).filter goodWord ++ (vx_atS RX2 220 "java/lang/IndexOutOfBoundsException" ["java/lang/RuntimeException", "java/lang/Exception"]).filter goodWord ++ (vx_atS RX2 232 "java/lang/IllegalStateException" ["java/lang/RuntimeException", "java/lang/Exception"]).filter goodWord
set_option maxRecDepth 20000 in
theorem wsL_law_in0_1 : ∀ w ∈ wsL_law0_r1, w ∈ lw_tbl := fun w h => (goodIn_p wsL_law0_r1 [24, 27, 32] (by decide +kernel) (by decide +kernel) w h).1
set_option maxRecDepth 20000 in
theorem wsL_law_in0_2 : ∀ w ∈ wsL_law0_r2, w ∈ lw_tbl := fun w h => (goodIn_p wsL_law0_r2 [99] (by decide +kernel) (by decide +kernel) w h).1
set_option maxRecDepth 20000 in
theorem wsL_law_in0_3 : ∀ w ∈ wsL_law0_r3, w ∈ lw_tbl := fun w h => (goodIn_p wsL_law0_r3 [230, 234, 240, 243, 145] (by decide +kernel) (by decide +kernel) w h).1
set_option maxRecDepth 20000 in
theorem wsL_law_in0_4 : ∀ w ∈ wsL_law0_r4, w ∈ lw_tbl := fun w h => (goodIn_p wsL_law0_r4 [149, 153, 156, 160, 163, 167] (by decide +kernel) (by decide +kernel) w h).1
set_option maxRecDepth 20000 in
theorem wsL_law_in0_5 : ∀ w ∈ wsL_law0_r5, w ∈ lw_tbl := fun w h => (goodIn_p wsL_law0_r5 [171, 174, 178, 315, 319, 323] (by decide +kernel) (by decide +kernel) w h).1
set_option maxRecDepth 20000 in
theorem wsL_law_in0_6 : ∀ w ∈ wsL_law0_r6, w ∈ lw_tbl := fun w h => (goodIn_p wsL_law0_r6 [327, 186, 189, 196, 201] (by decide +kernel) (by decide +kernel) w h).1
set_option maxRecDepth 20000 in
theorem wsL_law_in0_7 : ∀ w ∈ wsL_law0_r7, w ∈ lw_tbl := fun w h => (goodIn_p wsL_law0_r7 [347, 351, 355, 359, 210] (by decide +kernel) (by decide +kernel) w h).1
set_option maxRecDepth 20000 in
theorem wsL_law_in0_8 : ∀ w ∈ wsL_law0_r8, w ∈ lw_tbl := fun w h => (goodIn_p wsL_law0_r8 [214, 218, 222, 226, 364, 139] (by decide +kernel) (by decide +kernel) w h).1
set_option maxRecDepth 20000 in
theorem wsL_law_in0_9 : ∀ w ∈ wsL_law0_r9, w ∈ lw_tbl := fun w h => (goodIn_p wsL_law0_r9 [182, 206, 373] (by decide +kernel) (by decide +kernel) w h).1
set_option maxRecDepth 20000 in
theorem wsL_law_in0_10 : ∀ w ∈ wsL_law0_r10, w ∈ lw_tbl := fun w h => (goodIn_p wsL_law0_r10 [376, 381, 389, 393, 397, 400] (by decide +kernel) (by decide +kernel) w h).1
set_option maxRecDepth 20000 in
theorem wsL_law_in0_11 : ∀ w ∈ wsL_law0_r11, w ∈ lw_tbl := fun w h => (goodIn_p wsL_law0_r11 [407, 412, 432, 436] (by decide +kernel) (by decide +kernel) w h).1
set_option maxRecDepth 20000 in
theorem wsL_law_in0_12 : ∀ w ∈ wsL_law0_r12, w ∈ lw_tbl := fun w h => (goodIn_p wsL_law0_r12 [440, 445, 449, 453, 457, 461] (by decide +kernel) (by decide +kernel) w h).1
set_option maxRecDepth 20000 in
theorem wsL_law_in0_13 : ∀ w ∈ wsL_law0_r13, w ∈ lw_tbl := fun w h => (goodIn_p wsL_law0_r13 [465, 470, 474, 478, 482, 485] (by decide +kernel) (by decide +kernel) w h).1
set_option maxRecDepth 20000 in
theorem wsL_law_in0_14 : ∀ w ∈ wsL_law0_r14, w ∈ lw_tbl := fun w h => (goodIn_p wsL_law0_r14 [489, 494, 498, 503, 507] (by decide +kernel) (by decide +kernel) w h).1
set_option maxRecDepth 20000 in
theorem wsL_law_in0_15 : ∀ w ∈ wsL_law0_r15, w ∈ lw_tbl := fun w h => (goodIn_p wsL_law0_r15 [512, 516, 520, 533, 537, 524, 527] (by decide +kernel) (by decide +kernel) w h).1
set_option maxRecDepth 20000 in
theorem wsL_law_in0_16 : ∀ w ∈ wsL_law0_r16, w ∈ lw_tbl := fun w h => (goodIn_p wsL_law0_r16 [530] (by decide +kernel) (by decide +kernel) w h).1
theorem wsL_law_in0_wsX20 : ∀ w ∈ wsX20, w ∈ lw_tbl := by decide +kernel
theorem wsL_law_in0_wsX10 : ∀ w ∈ wsX10, w ∈ lw_tbl := by decide +kernel
theorem wsL_law_in0_wsX00 : ∀ w ∈ wsX00, w ∈ lw_tbl := by decide +kernel
theorem wsL_law_in0_rs : ∀ w, w ∈ (wsL_law0_r1 ++ (wsL_law0_r2 ++ (wsL_law0_r3 ++ (wsL_law0_r4 ++ (wsL_law0_r5 ++ (wsL_law0_r6 ++ (wsL_law0_r7 ++ (wsL_law0_r8 ++ (wsL_law0_r9 ++ (wsL_law0_r10 ++ (wsL_law0_r11 ++ (wsL_law0_r12 ++ (wsL_law0_r13 ++ (wsL_law0_r14 ++ (wsL_law0_r15 ++ wsL_law0_r16))))))))))))))) → w ∈ lw_tbl := fun w h => (List.mem_append.mp h).elim (wsL_law_in0_1 w) (fun h => (List.mem_append.mp h).elim (wsL_law_in0_2 w) (fun h => (List.mem_append.mp h).elim (wsL_law_in0_3 w) (fun h => (List.mem_append.mp h).elim (wsL_law_in0_4 w) (fun h => (List.mem_append.mp h).elim (wsL_law_in0_5 w) (fun h => (List.mem_append.mp h).elim (wsL_law_in0_6 w) (fun h => (List.mem_append.mp h).elim (wsL_law_in0_7 w) (fun h => (List.mem_append.mp h).elim (wsL_law_in0_8 w) (fun h => (List.mem_append.mp h).elim (wsL_law_in0_9 w) (fun h => (List.mem_append.mp h).elim (wsL_law_in0_10 w) (fun h => (List.mem_append.mp h).elim (wsL_law_in0_11 w) (fun h => (List.mem_append.mp h).elim (wsL_law_in0_12 w) (fun h => (List.mem_append.mp h).elim (wsL_law_in0_13 w) (fun h => (List.mem_append.mp h).elim (wsL_law_in0_14 w) (fun h => (List.mem_append.mp h).elim (wsL_law_in0_15 w) (fun h => wsL_law_in0_16 w h)))))))))))))))
set_option maxRecDepth 20000 in
theorem wsL_law_in0 : ∀ w ∈ wsL_law0, w ∈ lw_tbl := fun w h => (List.mem_append.mp h).elim (fun h => (List.mem_append.mp h).elim (fun h => (List.mem_append.mp h).elim (fun h => (List.mem_append.mp h).elim (wsL_law_in0_rs w) (wsL_law_in0_wsX20 w)) (wsL_law_in0_wsX10 w)) (wsL_law_in0_wsX00 w)) (fun h => nomatch h)
theorem wsL_law_x0 : ∀ w ∈ (vx_atS RX2 53 "java/lang/IllegalArgumentException" ["java/lang/RuntimeException", "java/lang/Exception"]).filter goodWord, w ∈ lw_tbl := by decide +kernel
theorem wsL_law_x1 : ∀ w ∈ (vx_atS RX2 220 "java/lang/IndexOutOfBoundsException" ["java/lang/RuntimeException", "java/lang/Exception"]).filter goodWord, w ∈ lw_tbl := by decide +kernel
theorem wsL_law_x2 : ∀ w ∈ (vx_atS RX2 232 "java/lang/IllegalStateException" ["java/lang/RuntimeException", "java/lang/Exception"]).filter goodWord, w ∈ lw_tbl := by decide +kernel
theorem wsL_law_in : ∀ w ∈ wsL_law, w ∈ lw_tbl := fun w h => (List.mem_append.mp h).elim (fun h => (List.mem_append.mp h).elim (fun h => (List.mem_append.mp h).elim (fun h => wsL_law_in0 w h) (fun h => wsL_law_x0 w h)) (fun h => wsL_law_x1 w h)) (fun h => wsL_law_x2 w h)
theorem inlX0 : ∀ w ∈ wsX00, w ∈ wsL_law := fun _ h => List.mem_append_left _ (List.mem_append_left _ (List.mem_append_left _ (List.mem_append_left _ (List.mem_append_right _ h))))
theorem inX0 : ∀ w ∈ wsX00, w ∈ lw_tbl := fun w h => wsL_law_in w (inlX0 w h)
theorem inlX1 : ∀ w ∈ wsX10, w ∈ wsL_law := fun _ h => List.mem_append_left _ (List.mem_append_left _ (List.mem_append_left _ (List.mem_append_left _ (List.mem_append_left _ (List.mem_append_right _ h)))))
theorem inX1 : ∀ w ∈ wsX10, w ∈ lw_tbl := fun w h => wsL_law_in w (inlX1 w h)
theorem inlX2 : ∀ w ∈ wsX20, w ∈ wsL_law := fun _ h => List.mem_append_left _ (List.mem_append_left _ (List.mem_append_left _ (List.mem_append_left _ (List.mem_append_left _ (List.mem_append_left _ (List.mem_append_right _ h))))))
theorem inX2 : ∀ w ∈ wsX20, w ∈ lw_tbl := fun w h => wsL_law_in w (inlX2 w h)
theorem inX3 : ∀ w ∈ wsX30, w ∈ lw_tbl := by decide +kernel
theorem inJ13 : ∀ w ∈ wsJ130, w ∈ lw_tbl := by decide +kernel
theorem inJ9 : ∀ w ∈ wsJ90, w ∈ lw_tbl := by decide +kernel
theorem inJ0 : ∀ w ∈ wsJ00, w ∈ lw_tbl := by decide +kernel
theorem inJ10 : ∀ w ∈ wsJ100, w ∈ lw_tbl := by decide +kernel
theorem dX0_init_0 : decode cX0_init 0 = .ok (.aload_n 0, 1) := by decide +kernel
theorem dX0_init_1 : decode cX0_init 1 = .ok (.invokespecial 3, 3) := by decide +kernel
theorem dX0_init_4 : decode cX0_init 4 = .ok (.aload_n 0, 1) := by decide +kernel
theorem dX0_init_5 : decode cX0_init 5 = .ok (.bipush 100, 2) := by decide +kernel
theorem dX0_init_7 : decode cX0_init 7 = .ok (.newarray .int, 2) := by decide +kernel
theorem dX0_init_9 : decode cX0_init 9 = .ok (.putfield 9, 3) := by decide +kernel
theorem dX0_init_12 : decode cX0_init 12 = .ok (.return_, 1) := by decide +kernel
theorem dX1_init_0 : decode cX1_init 0 = .ok (.aload_n 0, 1) := by decide +kernel
theorem dX1_init_1 : decode cX1_init 1 = .ok (.invokespecial 3, 3) := by decide +kernel
theorem dX1_init_4 : decode cX1_init 4 = .ok (.aload_n 0, 1) := by decide +kernel
theorem dX1_init_5 : decode cX1_init 5 = .ok (.iconst 3, 1) := by decide +kernel
theorem dX1_init_6 : decode cX1_init 6 = .ok (.newarray .int, 2) := by decide +kernel
theorem dX1_init_8 : decode cX1_init 8 = .ok (.putfield 9, 3) := by decide +kernel
theorem dX1_init_11 : decode cX1_init 11 = .ok (.aload_n 0, 1) := by decide +kernel
theorem dX1_init_12 : decode cX1_init 12 = .ok (.bipush 8, 2) := by decide +kernel
theorem dX1_init_14 : decode cX1_init 14 = .ok (.newarray .long, 2) := by decide +kernel
theorem dX1_init_16 : decode cX1_init 16 = .ok (.putfield 15, 3) := by decide +kernel
theorem dX1_init_19 : decode cX1_init 19 = .ok (.aload_n 0, 1) := by decide +kernel
theorem dX1_init_20 : decode cX1_init 20 = .ok (.bipush 8, 2) := by decide +kernel
theorem dX1_init_22 : decode cX1_init 22 = .ok (.newarray .long, 2) := by decide +kernel
theorem dX1_init_24 : decode cX1_init 24 = .ok (.putfield 19, 3) := by decide +kernel
theorem dX1_init_27 : decode cX1_init 27 = .ok (.aload_n 0, 1) := by decide +kernel
theorem dX1_init_28 : decode cX1_init 28 = .ok (.bipush 8, 2) := by decide +kernel
theorem dX1_init_30 : decode cX1_init 30 = .ok (.newarray .long, 2) := by decide +kernel
theorem dX1_init_32 : decode cX1_init 32 = .ok (.putfield 22, 3) := by decide +kernel
theorem dX1_init_35 : decode cX1_init 35 = .ok (.aload_n 0, 1) := by decide +kernel
theorem dX1_init_36 : decode cX1_init 36 = .ok (.bipush 8, 2) := by decide +kernel
theorem dX1_init_38 : decode cX1_init 38 = .ok (.newarray .int, 2) := by decide +kernel
theorem dX1_init_40 : decode cX1_init 40 = .ok (.putfield 25, 3) := by decide +kernel
theorem dX1_init_43 : decode cX1_init 43 = .ok (.aload_n 0, 1) := by decide +kernel
theorem dX1_init_44 : decode cX1_init 44 = .ok (.bipush 8, 2) := by decide +kernel
theorem dX1_init_46 : decode cX1_init 46 = .ok (.newarray .int, 2) := by decide +kernel
theorem dX1_init_48 : decode cX1_init 48 = .ok (.putfield 28, 3) := by decide +kernel
theorem dX1_init_51 : decode cX1_init 51 = .ok (.aload_n 0, 1) := by decide +kernel
theorem dX1_init_52 : decode cX1_init 52 = .ok (.bipush 30, 2) := by decide +kernel
theorem dX1_init_54 : decode cX1_init 54 = .ok (.newarray .int, 2) := by decide +kernel
theorem dX1_init_56 : decode cX1_init 56 = .ok (.putfield 31, 3) := by decide +kernel
theorem dX1_init_59 : decode cX1_init 59 = .ok (.aload_n 0, 1) := by decide +kernel
theorem dX1_init_60 : decode cX1_init 60 = .ok (.bipush 30, 2) := by decide +kernel
theorem dX1_init_62 : decode cX1_init 62 = .ok (.newarray .int, 2) := by decide +kernel
theorem dX1_init_64 : decode cX1_init 64 = .ok (.putfield 34, 3) := by decide +kernel
theorem dX1_init_67 : decode cX1_init 67 = .ok (.aload_n 0, 1) := by decide +kernel
theorem dX1_init_68 : decode cX1_init 68 = .ok (.bipush 30, 2) := by decide +kernel
theorem dX1_init_70 : decode cX1_init 70 = .ok (.newarray .int, 2) := by decide +kernel
theorem dX1_init_72 : decode cX1_init 72 = .ok (.putfield 37, 3) := by decide +kernel
theorem dX1_init_75 : decode cX1_init 75 = .ok (.aload_n 0, 1) := by decide +kernel
theorem dX1_init_76 : decode cX1_init 76 = .ok (.bipush 30, 2) := by decide +kernel
theorem dX1_init_78 : decode cX1_init 78 = .ok (.newarray .int, 2) := by decide +kernel
theorem dX1_init_80 : decode cX1_init 80 = .ok (.putfield 40, 3) := by decide +kernel
theorem dX1_init_83 : decode cX1_init 83 = .ok (.aload_n 0, 1) := by decide +kernel
theorem dX1_init_84 : decode cX1_init 84 = .ok (.bipush 30, 2) := by decide +kernel
theorem dX1_init_86 : decode cX1_init 86 = .ok (.newarray .int, 2) := by decide +kernel
theorem dX1_init_88 : decode cX1_init 88 = .ok (.putfield 43, 3) := by decide +kernel
theorem dX1_init_91 : decode cX1_init 91 = .ok (.aload_n 0, 1) := by decide +kernel
theorem dX1_init_92 : decode cX1_init 92 = .ok (.sipush 240, 3) := by decide +kernel
theorem dX1_init_95 : decode cX1_init 95 = .ok (.newarray .int, 2) := by decide +kernel
theorem dX1_init_97 : decode cX1_init 97 = .ok (.putfield 46, 3) := by decide +kernel
theorem dX1_init_100 : decode cX1_init 100 = .ok (.getstatic 49, 3) := by decide +kernel
theorem dX1_init_103 : decode cX1_init 103 = .ok (.iconst 0, 1) := by decide +kernel
theorem dX1_init_104 : decode cX1_init 104 = .ok (.aload_n 0, 1) := by decide +kernel
theorem dX1_init_105 : decode cX1_init 105 = .ok (.getfield 9, 3) := by decide +kernel
theorem dX1_init_108 : decode cX1_init 108 = .ok (.iconst 0, 1) := by decide +kernel
theorem dX1_init_109 : decode cX1_init 109 = .ok (.iconst 3, 1) := by decide +kernel
theorem dX1_init_110 : decode cX1_init 110 = .ok (.invokestatic 52, 3) := by decide +kernel
theorem dX1_init_113 : decode cX1_init 113 = .ok (.return_, 1) := by decide +kernel
theorem dX1_copyFrom_0 : decode cX1_copyFrom 0 = .ok (.aload_n 1, 1) := by decide +kernel
theorem dX1_copyFrom_1 : decode cX1_copyFrom 1 = .ok (.getfield 9, 3) := by decide +kernel
theorem dX1_copyFrom_4 : decode cX1_copyFrom 4 = .ok (.iconst 0, 1) := by decide +kernel
theorem dX1_copyFrom_5 : decode cX1_copyFrom 5 = .ok (.aload_n 0, 1) := by decide +kernel
theorem dX1_copyFrom_6 : decode cX1_copyFrom 6 = .ok (.getfield 9, 3) := by decide +kernel
theorem dX1_copyFrom_9 : decode cX1_copyFrom 9 = .ok (.iconst 0, 1) := by decide +kernel
theorem dX1_copyFrom_10 : decode cX1_copyFrom 10 = .ok (.iconst 3, 1) := by decide +kernel
theorem dX1_copyFrom_11 : decode cX1_copyFrom 11 = .ok (.invokestatic 52, 3) := by decide +kernel
theorem dX1_copyFrom_14 : decode cX1_copyFrom 14 = .ok (.aload_n 0, 1) := by decide +kernel
theorem dX1_copyFrom_15 : decode cX1_copyFrom 15 = .ok (.aload_n 1, 1) := by decide +kernel
theorem dX1_copyFrom_16 : decode cX1_copyFrom 16 = .ok (.getfield 58, 3) := by decide +kernel
theorem dX1_copyFrom_19 : decode cX1_copyFrom 19 = .ok (.putfield 58, 3) := by decide +kernel
theorem dX1_copyFrom_22 : decode cX1_copyFrom 22 = .ok (.aload_n 0, 1) := by decide +kernel
theorem dX1_copyFrom_23 : decode cX1_copyFrom 23 = .ok (.aload_n 1, 1) := by decide +kernel
theorem dX1_copyFrom_24 : decode cX1_copyFrom 24 = .ok (.getfield 62, 3) := by decide +kernel
theorem dX1_copyFrom_27 : decode cX1_copyFrom 27 = .ok (.putfield 62, 3) := by decide +kernel
theorem dX1_copyFrom_30 : decode cX1_copyFrom 30 = .ok (.aload_n 1, 1) := by decide +kernel
theorem dX1_copyFrom_31 : decode cX1_copyFrom 31 = .ok (.getfield 15, 3) := by decide +kernel
theorem dX1_copyFrom_34 : decode cX1_copyFrom 34 = .ok (.iconst 0, 1) := by decide +kernel
theorem dX1_copyFrom_35 : decode cX1_copyFrom 35 = .ok (.aload_n 0, 1) := by decide +kernel
theorem dX1_copyFrom_36 : decode cX1_copyFrom 36 = .ok (.getfield 15, 3) := by decide +kernel
theorem dX1_copyFrom_39 : decode cX1_copyFrom 39 = .ok (.iconst 0, 1) := by decide +kernel
theorem dX1_copyFrom_40 : decode cX1_copyFrom 40 = .ok (.bipush 8, 2) := by decide +kernel
theorem dX1_copyFrom_42 : decode cX1_copyFrom 42 = .ok (.invokestatic 52, 3) := by decide +kernel
theorem dX1_copyFrom_45 : decode cX1_copyFrom 45 = .ok (.aload_n 1, 1) := by decide +kernel
theorem dX1_copyFrom_46 : decode cX1_copyFrom 46 = .ok (.getfield 19, 3) := by decide +kernel
theorem dX1_copyFrom_49 : decode cX1_copyFrom 49 = .ok (.iconst 0, 1) := by decide +kernel
theorem dX1_copyFrom_50 : decode cX1_copyFrom 50 = .ok (.aload_n 0, 1) := by decide +kernel
theorem dX1_copyFrom_51 : decode cX1_copyFrom 51 = .ok (.getfield 19, 3) := by decide +kernel
theorem dX1_copyFrom_54 : decode cX1_copyFrom 54 = .ok (.iconst 0, 1) := by decide +kernel
theorem dX1_copyFrom_55 : decode cX1_copyFrom 55 = .ok (.bipush 8, 2) := by decide +kernel
theorem dX1_copyFrom_57 : decode cX1_copyFrom 57 = .ok (.invokestatic 52, 3) := by decide +kernel
theorem dX1_copyFrom_60 : decode cX1_copyFrom 60 = .ok (.aload_n 1, 1) := by decide +kernel
theorem dX1_copyFrom_61 : decode cX1_copyFrom 61 = .ok (.getfield 22, 3) := by decide +kernel
theorem dX1_copyFrom_64 : decode cX1_copyFrom 64 = .ok (.iconst 0, 1) := by decide +kernel
theorem dX1_copyFrom_65 : decode cX1_copyFrom 65 = .ok (.aload_n 0, 1) := by decide +kernel
theorem dX1_copyFrom_66 : decode cX1_copyFrom 66 = .ok (.getfield 22, 3) := by decide +kernel
theorem dX1_copyFrom_69 : decode cX1_copyFrom 69 = .ok (.iconst 0, 1) := by decide +kernel
theorem dX1_copyFrom_70 : decode cX1_copyFrom 70 = .ok (.bipush 8, 2) := by decide +kernel
theorem dX1_copyFrom_72 : decode cX1_copyFrom 72 = .ok (.invokestatic 52, 3) := by decide +kernel
theorem dX1_copyFrom_75 : decode cX1_copyFrom 75 = .ok (.aload_n 1, 1) := by decide +kernel
theorem dX1_copyFrom_76 : decode cX1_copyFrom 76 = .ok (.getfield 25, 3) := by decide +kernel
theorem dX1_copyFrom_79 : decode cX1_copyFrom 79 = .ok (.iconst 0, 1) := by decide +kernel
theorem dX1_copyFrom_80 : decode cX1_copyFrom 80 = .ok (.aload_n 0, 1) := by decide +kernel
theorem dX1_copyFrom_81 : decode cX1_copyFrom 81 = .ok (.getfield 25, 3) := by decide +kernel
theorem dX1_copyFrom_84 : decode cX1_copyFrom 84 = .ok (.iconst 0, 1) := by decide +kernel
theorem dX1_copyFrom_85 : decode cX1_copyFrom 85 = .ok (.bipush 8, 2) := by decide +kernel
theorem dX1_copyFrom_87 : decode cX1_copyFrom 87 = .ok (.invokestatic 52, 3) := by decide +kernel
theorem dX1_copyFrom_90 : decode cX1_copyFrom 90 = .ok (.aload_n 1, 1) := by decide +kernel
theorem dX1_copyFrom_91 : decode cX1_copyFrom 91 = .ok (.getfield 28, 3) := by decide +kernel
theorem dX1_copyFrom_94 : decode cX1_copyFrom 94 = .ok (.iconst 0, 1) := by decide +kernel
theorem dX1_copyFrom_95 : decode cX1_copyFrom 95 = .ok (.aload_n 0, 1) := by decide +kernel
theorem dX1_copyFrom_96 : decode cX1_copyFrom 96 = .ok (.getfield 28, 3) := by decide +kernel
theorem dX1_copyFrom_99 : decode cX1_copyFrom 99 = .ok (.iconst 0, 1) := by decide +kernel
theorem dX1_copyFrom_100 : decode cX1_copyFrom 100 = .ok (.bipush 8, 2) := by decide +kernel
theorem dX1_copyFrom_102 : decode cX1_copyFrom 102 = .ok (.invokestatic 52, 3) := by decide +kernel
theorem dX1_copyFrom_105 : decode cX1_copyFrom 105 = .ok (.aload_n 0, 1) := by decide +kernel
theorem dX1_copyFrom_106 : decode cX1_copyFrom 106 = .ok (.aload_n 1, 1) := by decide +kernel
theorem dX1_copyFrom_107 : decode cX1_copyFrom 107 = .ok (.getfield 65, 3) := by decide +kernel
theorem dX1_copyFrom_110 : decode cX1_copyFrom 110 = .ok (.putfield 65, 3) := by decide +kernel
theorem dX1_copyFrom_113 : decode cX1_copyFrom 113 = .ok (.aload_n 1, 1) := by decide +kernel
theorem dX1_copyFrom_114 : decode cX1_copyFrom 114 = .ok (.getfield 31, 3) := by decide +kernel
theorem dX1_copyFrom_117 : decode cX1_copyFrom 117 = .ok (.iconst 0, 1) := by decide +kernel
theorem dX1_copyFrom_118 : decode cX1_copyFrom 118 = .ok (.aload_n 0, 1) := by decide +kernel
theorem dX1_copyFrom_119 : decode cX1_copyFrom 119 = .ok (.getfield 31, 3) := by decide +kernel
theorem dX1_copyFrom_122 : decode cX1_copyFrom 122 = .ok (.iconst 0, 1) := by decide +kernel
theorem dX1_copyFrom_123 : decode cX1_copyFrom 123 = .ok (.bipush 30, 2) := by decide +kernel
theorem dX1_copyFrom_125 : decode cX1_copyFrom 125 = .ok (.invokestatic 52, 3) := by decide +kernel
theorem dX1_copyFrom_128 : decode cX1_copyFrom 128 = .ok (.aload_n 1, 1) := by decide +kernel
theorem dX1_copyFrom_129 : decode cX1_copyFrom 129 = .ok (.getfield 34, 3) := by decide +kernel
theorem dX1_copyFrom_132 : decode cX1_copyFrom 132 = .ok (.iconst 0, 1) := by decide +kernel
theorem dX1_copyFrom_133 : decode cX1_copyFrom 133 = .ok (.aload_n 0, 1) := by decide +kernel
theorem dX1_copyFrom_134 : decode cX1_copyFrom 134 = .ok (.getfield 34, 3) := by decide +kernel
theorem dX1_copyFrom_137 : decode cX1_copyFrom 137 = .ok (.iconst 0, 1) := by decide +kernel
theorem dX1_copyFrom_138 : decode cX1_copyFrom 138 = .ok (.bipush 30, 2) := by decide +kernel
theorem dX1_copyFrom_140 : decode cX1_copyFrom 140 = .ok (.invokestatic 52, 3) := by decide +kernel
theorem dX1_copyFrom_143 : decode cX1_copyFrom 143 = .ok (.aload_n 1, 1) := by decide +kernel
theorem dX1_copyFrom_144 : decode cX1_copyFrom 144 = .ok (.getfield 37, 3) := by decide +kernel
theorem dX1_copyFrom_147 : decode cX1_copyFrom 147 = .ok (.iconst 0, 1) := by decide +kernel
theorem dX1_copyFrom_148 : decode cX1_copyFrom 148 = .ok (.aload_n 0, 1) := by decide +kernel
theorem dX1_copyFrom_149 : decode cX1_copyFrom 149 = .ok (.getfield 37, 3) := by decide +kernel
theorem dX1_copyFrom_152 : decode cX1_copyFrom 152 = .ok (.iconst 0, 1) := by decide +kernel
theorem dX1_copyFrom_153 : decode cX1_copyFrom 153 = .ok (.bipush 30, 2) := by decide +kernel
theorem dX1_copyFrom_155 : decode cX1_copyFrom 155 = .ok (.invokestatic 52, 3) := by decide +kernel
theorem dX1_copyFrom_158 : decode cX1_copyFrom 158 = .ok (.aload_n 1, 1) := by decide +kernel
theorem dX1_copyFrom_159 : decode cX1_copyFrom 159 = .ok (.getfield 40, 3) := by decide +kernel
theorem dX1_copyFrom_162 : decode cX1_copyFrom 162 = .ok (.iconst 0, 1) := by decide +kernel
theorem dX1_copyFrom_163 : decode cX1_copyFrom 163 = .ok (.aload_n 0, 1) := by decide +kernel
theorem dX1_copyFrom_164 : decode cX1_copyFrom 164 = .ok (.getfield 40, 3) := by decide +kernel
theorem dX1_copyFrom_167 : decode cX1_copyFrom 167 = .ok (.iconst 0, 1) := by decide +kernel
theorem dX1_copyFrom_168 : decode cX1_copyFrom 168 = .ok (.bipush 30, 2) := by decide +kernel
theorem dX1_copyFrom_170 : decode cX1_copyFrom 170 = .ok (.invokestatic 52, 3) := by decide +kernel
theorem dX1_copyFrom_173 : decode cX1_copyFrom 173 = .ok (.aload_n 1, 1) := by decide +kernel
theorem dX1_copyFrom_174 : decode cX1_copyFrom 174 = .ok (.getfield 43, 3) := by decide +kernel
theorem dX1_copyFrom_177 : decode cX1_copyFrom 177 = .ok (.iconst 0, 1) := by decide +kernel
theorem dX1_copyFrom_178 : decode cX1_copyFrom 178 = .ok (.aload_n 0, 1) := by decide +kernel
theorem dX1_copyFrom_179 : decode cX1_copyFrom 179 = .ok (.getfield 43, 3) := by decide +kernel
theorem dX1_copyFrom_182 : decode cX1_copyFrom 182 = .ok (.iconst 0, 1) := by decide +kernel
theorem dX1_copyFrom_183 : decode cX1_copyFrom 183 = .ok (.bipush 30, 2) := by decide +kernel
theorem dX1_copyFrom_185 : decode cX1_copyFrom 185 = .ok (.invokestatic 52, 3) := by decide +kernel
theorem dX1_copyFrom_188 : decode cX1_copyFrom 188 = .ok (.aload_n 1, 1) := by decide +kernel
theorem dX1_copyFrom_189 : decode cX1_copyFrom 189 = .ok (.getfield 46, 3) := by decide +kernel
theorem dX1_copyFrom_192 : decode cX1_copyFrom 192 = .ok (.iconst 0, 1) := by decide +kernel
theorem dX1_copyFrom_193 : decode cX1_copyFrom 193 = .ok (.aload_n 0, 1) := by decide +kernel
theorem dX1_copyFrom_194 : decode cX1_copyFrom 194 = .ok (.getfield 46, 3) := by decide +kernel
theorem dX1_copyFrom_197 : decode cX1_copyFrom 197 = .ok (.iconst 0, 1) := by decide +kernel
theorem dX1_copyFrom_198 : decode cX1_copyFrom 198 = .ok (.sipush 240, 3) := by decide +kernel
theorem dX1_copyFrom_201 : decode cX1_copyFrom 201 = .ok (.invokestatic 52, 3) := by decide +kernel
theorem dX1_copyFrom_204 : decode cX1_copyFrom 204 = .ok (.return_, 1) := by decide +kernel
theorem dX1_hasPerson_0 : decode cX1_hasPerson 0 = .ok (.iload_n 1, 1) := by decide +kernel
theorem dX1_hasPerson_1 : decode cX1_hasPerson 1 = .ok (.ifCond .lt 15, 3) := by decide +kernel
theorem dX1_hasPerson_4 : decode cX1_hasPerson 4 = .ok (.iload_n 1, 1) := by decide +kernel
theorem dX1_hasPerson_5 : decode cX1_hasPerson 5 = .ok (.aload_n 0, 1) := by decide +kernel
theorem dX1_hasPerson_6 : decode cX1_hasPerson 6 = .ok (.getfield 62, 3) := by decide +kernel
theorem dX1_hasPerson_9 : decode cX1_hasPerson 9 = .ok (.if_icmp .ge 7, 3) := by decide +kernel
theorem dX1_hasPerson_12 : decode cX1_hasPerson 12 = .ok (.iconst 1, 1) := by decide +kernel
theorem dX1_hasPerson_13 : decode cX1_hasPerson 13 = .ok (.goto 4, 3) := by decide +kernel
theorem dX1_hasPerson_16 : decode cX1_hasPerson 16 = .ok (.iconst 0, 1) := by decide +kernel
theorem dX1_hasPerson_17 : decode cX1_hasPerson 17 = .ok (.ireturn, 1) := by decide +kernel
theorem dX1_hasAbsence_0 : decode cX1_hasAbsence 0 = .ok (.iload_n 1, 1) := by decide +kernel
theorem dX1_hasAbsence_1 : decode cX1_hasAbsence 1 = .ok (.ifCond .lt 15, 3) := by decide +kernel
theorem dX1_hasAbsence_4 : decode cX1_hasAbsence 4 = .ok (.iload_n 1, 1) := by decide +kernel
theorem dX1_hasAbsence_5 : decode cX1_hasAbsence 5 = .ok (.aload_n 0, 1) := by decide +kernel
theorem dX1_hasAbsence_6 : decode cX1_hasAbsence 6 = .ok (.getfield 65, 3) := by decide +kernel
theorem dX1_hasAbsence_9 : decode cX1_hasAbsence 9 = .ok (.if_icmp .ge 7, 3) := by decide +kernel
theorem dX1_hasAbsence_12 : decode cX1_hasAbsence 12 = .ok (.iconst 1, 1) := by decide +kernel
theorem dX1_hasAbsence_13 : decode cX1_hasAbsence 13 = .ok (.goto 4, 3) := by decide +kernel
theorem dX1_hasAbsence_16 : decode cX1_hasAbsence 16 = .ok (.iconst 0, 1) := by decide +kernel
theorem dX1_hasAbsence_17 : decode cX1_hasAbsence 17 = .ok (.ireturn, 1) := by decide +kernel
theorem dX1_isCovered_0 : decode cX1_isCovered 0 = .ok (.aload_n 0, 1) := by decide +kernel
theorem dX1_isCovered_1 : decode cX1_isCovered 1 = .ok (.getfield 37, 3) := by decide +kernel
theorem dX1_isCovered_4 : decode cX1_isCovered 4 = .ok (.iload_n 1, 1) := by decide +kernel
theorem dX1_isCovered_5 : decode cX1_isCovered 5 = .ok (.iaload, 1) := by decide +kernel
theorem dX1_isCovered_6 : decode cX1_isCovered 6 = .ok (.iconst 1, 1) := by decide +kernel
theorem dX1_isCovered_7 : decode cX1_isCovered 7 = .ok (.if_icmp .eq 13, 3) := by decide +kernel
theorem dX1_isCovered_10 : decode cX1_isCovered 10 = .ok (.aload_n 0, 1) := by decide +kernel
theorem dX1_isCovered_11 : decode cX1_isCovered 11 = .ok (.getfield 37, 3) := by decide +kernel
theorem dX1_isCovered_14 : decode cX1_isCovered 14 = .ok (.iload_n 1, 1) := by decide +kernel
theorem dX1_isCovered_15 : decode cX1_isCovered 15 = .ok (.iaload, 1) := by decide +kernel
theorem dX1_isCovered_16 : decode cX1_isCovered 16 = .ok (.iconst 2, 1) := by decide +kernel
theorem dX1_isCovered_17 : decode cX1_isCovered 17 = .ok (.if_icmp .ne 7, 3) := by decide +kernel
theorem dX1_isCovered_20 : decode cX1_isCovered 20 = .ok (.iconst 1, 1) := by decide +kernel
theorem dX1_isCovered_21 : decode cX1_isCovered 21 = .ok (.goto 4, 3) := by decide +kernel
theorem dX1_isCovered_24 : decode cX1_isCovered 24 = .ok (.iconst 0, 1) := by decide +kernel
theorem dX1_isCovered_25 : decode cX1_isCovered 25 = .ok (.ireturn, 1) := by decide +kernel
theorem dX1_enterPerson_0 : decode cX1_enterPerson 0 = .ok (.aload_n 0, 1) := by decide +kernel
theorem dX1_enterPerson_1 : decode cX1_enterPerson 1 = .ok (.getfield 62, 3) := by decide +kernel
theorem dX1_enterPerson_4 : decode cX1_enterPerson 4 = .ok (.istore_n 3, 1) := by decide +kernel
theorem dX1_enterPerson_5 : decode cX1_enterPerson 5 = .ok (.aload_n 0, 1) := by decide +kernel
theorem dX1_enterPerson_6 : decode cX1_enterPerson 6 = .ok (.getfield 15, 3) := by decide +kernel
theorem dX1_enterPerson_9 : decode cX1_enterPerson 9 = .ok (.iload_n 3, 1) := by decide +kernel
theorem dX1_enterPerson_10 : decode cX1_enterPerson 10 = .ok (.lload_n 1, 1) := by decide +kernel
theorem dX1_enterPerson_11 : decode cX1_enterPerson 11 = .ok (.lastore, 1) := by decide +kernel
theorem dX1_enterPerson_12 : decode cX1_enterPerson 12 = .ok (.aload_n 0, 1) := by decide +kernel
theorem dX1_enterPerson_13 : decode cX1_enterPerson 13 = .ok (.getfield 19, 3) := by decide +kernel
theorem dX1_enterPerson_16 : decode cX1_enterPerson 16 = .ok (.iload_n 3, 1) := by decide +kernel
theorem dX1_enterPerson_17 : decode cX1_enterPerson 17 = .ok (.lconst 0, 1) := by decide +kernel
theorem dX1_enterPerson_18 : decode cX1_enterPerson 18 = .ok (.lastore, 1) := by decide +kernel
theorem dX1_enterPerson_19 : decode cX1_enterPerson 19 = .ok (.aload_n 0, 1) := by decide +kernel
theorem dX1_enterPerson_20 : decode cX1_enterPerson 20 = .ok (.getfield 22, 3) := by decide +kernel
theorem dX1_enterPerson_23 : decode cX1_enterPerson 23 = .ok (.iload_n 3, 1) := by decide +kernel
theorem dX1_enterPerson_24 : decode cX1_enterPerson 24 = .ok (.lconst 0, 1) := by decide +kernel
theorem dX1_enterPerson_25 : decode cX1_enterPerson 25 = .ok (.lastore, 1) := by decide +kernel
theorem dX1_enterPerson_26 : decode cX1_enterPerson 26 = .ok (.aload_n 0, 1) := by decide +kernel
theorem dX1_enterPerson_27 : decode cX1_enterPerson 27 = .ok (.getfield 25, 3) := by decide +kernel
theorem dX1_enterPerson_30 : decode cX1_enterPerson 30 = .ok (.iload_n 3, 1) := by decide +kernel
theorem dX1_enterPerson_31 : decode cX1_enterPerson 31 = .ok (.iconst 0, 1) := by decide +kernel
theorem dX1_enterPerson_32 : decode cX1_enterPerson 32 = .ok (.iastore, 1) := by decide +kernel
theorem dX1_enterPerson_33 : decode cX1_enterPerson 33 = .ok (.aload_n 0, 1) := by decide +kernel
theorem dX1_enterPerson_34 : decode cX1_enterPerson 34 = .ok (.getfield 28, 3) := by decide +kernel
theorem dX1_enterPerson_37 : decode cX1_enterPerson 37 = .ok (.iload_n 3, 1) := by decide +kernel
theorem dX1_enterPerson_38 : decode cX1_enterPerson 38 = .ok (.iconst 0, 1) := by decide +kernel
theorem dX1_enterPerson_39 : decode cX1_enterPerson 39 = .ok (.iastore, 1) := by decide +kernel
theorem dX1_enterPerson_40 : decode cX1_enterPerson 40 = .ok (.aload_n 0, 1) := by decide +kernel
theorem dX1_enterPerson_41 : decode cX1_enterPerson 41 = .ok (.dup, 1) := by decide +kernel
theorem dX1_enterPerson_42 : decode cX1_enterPerson 42 = .ok (.getfield 62, 3) := by decide +kernel
theorem dX1_enterPerson_45 : decode cX1_enterPerson 45 = .ok (.iconst 1, 1) := by decide +kernel
theorem dX1_enterPerson_46 : decode cX1_enterPerson 46 = .ok (.iadd, 1) := by decide +kernel
theorem dX1_enterPerson_47 : decode cX1_enterPerson 47 = .ok (.putfield 62, 3) := by decide +kernel
theorem dX1_enterPerson_50 : decode cX1_enterPerson 50 = .ok (.iload_n 3, 1) := by decide +kernel
theorem dX1_enterPerson_51 : decode cX1_enterPerson 51 = .ok (.ireturn, 1) := by decide +kernel
theorem dX1_canChangeRoster_0 : decode cX1_canChangeRoster 0 = .ok (.lconst 1, 1) := by decide +kernel
theorem dX1_canChangeRoster_1 : decode cX1_canChangeRoster 1 = .ok (.iload_n 2, 1) := by decide +kernel
theorem dX1_canChangeRoster_2 : decode cX1_canChangeRoster 2 = .ok (.lshl, 1) := by decide +kernel
theorem dX1_canChangeRoster_3 : decode cX1_canChangeRoster 3 = .ok (.lstore 4, 2) := by decide +kernel
theorem dX1_canChangeRoster_5 : decode cX1_canChangeRoster 5 = .ok (.aload_n 0, 1) := by decide +kernel
theorem dX1_canChangeRoster_6 : decode cX1_canChangeRoster 6 = .ok (.getfield 15, 3) := by decide +kernel
theorem dX1_canChangeRoster_9 : decode cX1_canChangeRoster 9 = .ok (.iload_n 1, 1) := by decide +kernel
theorem dX1_canChangeRoster_10 : decode cX1_canChangeRoster 10 = .ok (.laload, 1) := by decide +kernel
theorem dX1_canChangeRoster_11 : decode cX1_canChangeRoster 11 = .ok (.lload 4, 2) := by decide +kernel
theorem dX1_canChangeRoster_13 : decode cX1_canChangeRoster 13 = .ok (.land, 1) := by decide +kernel
theorem dX1_canChangeRoster_14 : decode cX1_canChangeRoster 14 = .ok (.lconst 0, 1) := by decide +kernel
theorem dX1_canChangeRoster_15 : decode cX1_canChangeRoster 15 = .ok (.lcmp, 1) := by decide +kernel
theorem dX1_canChangeRoster_16 : decode cX1_canChangeRoster 16 = .ok (.ifCond .eq 7, 3) := by decide +kernel
theorem dX1_canChangeRoster_19 : decode cX1_canChangeRoster 19 = .ok (.iconst 1, 1) := by decide +kernel
theorem dX1_canChangeRoster_20 : decode cX1_canChangeRoster 20 = .ok (.goto 4, 3) := by decide +kernel
theorem dX1_canChangeRoster_23 : decode cX1_canChangeRoster 23 = .ok (.iconst 0, 1) := by decide +kernel
theorem dX1_canChangeRoster_24 : decode cX1_canChangeRoster 24 = .ok (.istore 6, 2) := by decide +kernel
theorem dX1_canChangeRoster_26 : decode cX1_canChangeRoster 26 = .ok (.iload 6, 2) := by decide +kernel
theorem dX1_canChangeRoster_28 : decode cX1_canChangeRoster 28 = .ok (.iload_n 3, 1) := by decide +kernel
theorem dX1_canChangeRoster_29 : decode cX1_canChangeRoster 29 = .ok (.if_icmp .eq 28, 3) := by decide +kernel
theorem dX1_canChangeRoster_32 : decode cX1_canChangeRoster 32 = .ok (.aload_n 0, 1) := by decide +kernel
theorem dX1_canChangeRoster_33 : decode cX1_canChangeRoster 33 = .ok (.getfield 19, 3) := by decide +kernel
theorem dX1_canChangeRoster_36 : decode cX1_canChangeRoster 36 = .ok (.iload_n 1, 1) := by decide +kernel
theorem dX1_canChangeRoster_37 : decode cX1_canChangeRoster 37 = .ok (.laload, 1) := by decide +kernel
theorem dX1_canChangeRoster_38 : decode cX1_canChangeRoster 38 = .ok (.aload_n 0, 1) := by decide +kernel
theorem dX1_canChangeRoster_39 : decode cX1_canChangeRoster 39 = .ok (.getfield 22, 3) := by decide +kernel
theorem dX1_canChangeRoster_42 : decode cX1_canChangeRoster 42 = .ok (.iload_n 1, 1) := by decide +kernel
theorem dX1_canChangeRoster_43 : decode cX1_canChangeRoster 43 = .ok (.laload, 1) := by decide +kernel
theorem dX1_canChangeRoster_44 : decode cX1_canChangeRoster 44 = .ok (.lor, 1) := by decide +kernel
theorem dX1_canChangeRoster_45 : decode cX1_canChangeRoster 45 = .ok (.lload 4, 2) := by decide +kernel
theorem dX1_canChangeRoster_47 : decode cX1_canChangeRoster 47 = .ok (.land, 1) := by decide +kernel
theorem dX1_canChangeRoster_48 : decode cX1_canChangeRoster 48 = .ok (.lconst 0, 1) := by decide +kernel
theorem dX1_canChangeRoster_49 : decode cX1_canChangeRoster 49 = .ok (.lcmp, 1) := by decide +kernel
theorem dX1_canChangeRoster_50 : decode cX1_canChangeRoster 50 = .ok (.ifCond .ne 7, 3) := by decide +kernel
theorem dX1_canChangeRoster_53 : decode cX1_canChangeRoster 53 = .ok (.iconst 1, 1) := by decide +kernel
theorem dX1_canChangeRoster_54 : decode cX1_canChangeRoster 54 = .ok (.goto 4, 3) := by decide +kernel
theorem dX1_canChangeRoster_57 : decode cX1_canChangeRoster 57 = .ok (.iconst 0, 1) := by decide +kernel
theorem dX1_canChangeRoster_58 : decode cX1_canChangeRoster 58 = .ok (.ireturn, 1) := by decide +kernel
theorem dX1_canBeAbsent_0 : decode cX1_canBeAbsent 0 = .ok (.lconst 1, 1) := by decide +kernel
theorem dX1_canBeAbsent_1 : decode cX1_canBeAbsent 1 = .ok (.iload_n 2, 1) := by decide +kernel
theorem dX1_canBeAbsent_2 : decode cX1_canBeAbsent 2 = .ok (.lshl, 1) := by decide +kernel
theorem dX1_canBeAbsent_3 : decode cX1_canBeAbsent 3 = .ok (.lstore_n 3, 1) := by decide +kernel
theorem dX1_canBeAbsent_4 : decode cX1_canBeAbsent 4 = .ok (.aload_n 0, 1) := by decide +kernel
theorem dX1_canBeAbsent_5 : decode cX1_canBeAbsent 5 = .ok (.getfield 15, 3) := by decide +kernel
theorem dX1_canBeAbsent_8 : decode cX1_canBeAbsent 8 = .ok (.iload_n 1, 1) := by decide +kernel
theorem dX1_canBeAbsent_9 : decode cX1_canBeAbsent 9 = .ok (.laload, 1) := by decide +kernel
theorem dX1_canBeAbsent_10 : decode cX1_canBeAbsent 10 = .ok (.aload_n 0, 1) := by decide +kernel
theorem dX1_canBeAbsent_11 : decode cX1_canBeAbsent 11 = .ok (.getfield 19, 3) := by decide +kernel
theorem dX1_canBeAbsent_14 : decode cX1_canBeAbsent 14 = .ok (.iload_n 1, 1) := by decide +kernel
theorem dX1_canBeAbsent_15 : decode cX1_canBeAbsent 15 = .ok (.laload, 1) := by decide +kernel
theorem dX1_canBeAbsent_16 : decode cX1_canBeAbsent 16 = .ok (.ldc2_w 68, 3) := by decide +kernel
theorem dX1_canBeAbsent_19 : decode cX1_canBeAbsent 19 = .ok (.lxor, 1) := by decide +kernel
theorem dX1_canBeAbsent_20 : decode cX1_canBeAbsent 20 = .ok (.land, 1) := by decide +kernel
theorem dX1_canBeAbsent_21 : decode cX1_canBeAbsent 21 = .ok (.lload_n 3, 1) := by decide +kernel
theorem dX1_canBeAbsent_22 : decode cX1_canBeAbsent 22 = .ok (.land, 1) := by decide +kernel
theorem dX1_canBeAbsent_23 : decode cX1_canBeAbsent 23 = .ok (.lconst 0, 1) := by decide +kernel
theorem dX1_canBeAbsent_24 : decode cX1_canBeAbsent 24 = .ok (.lcmp, 1) := by decide +kernel
theorem dX1_canBeAbsent_25 : decode cX1_canBeAbsent 25 = .ok (.ifCond .eq 16, 3) := by decide +kernel
theorem dX1_canBeAbsent_28 : decode cX1_canBeAbsent 28 = .ok (.aload_n 0, 1) := by decide +kernel
theorem dX1_canBeAbsent_29 : decode cX1_canBeAbsent 29 = .ok (.getfield 65, 3) := by decide +kernel
theorem dX1_canBeAbsent_32 : decode cX1_canBeAbsent 32 = .ok (.bipush 30, 2) := by decide +kernel
theorem dX1_canBeAbsent_34 : decode cX1_canBeAbsent 34 = .ok (.if_icmp .ge 7, 3) := by decide +kernel
theorem dX1_canBeAbsent_37 : decode cX1_canBeAbsent 37 = .ok (.iconst 1, 1) := by decide +kernel
theorem dX1_canBeAbsent_38 : decode cX1_canBeAbsent 38 = .ok (.goto 4, 3) := by decide +kernel
theorem dX1_canBeAbsent_41 : decode cX1_canBeAbsent 41 = .ok (.iconst 0, 1) := by decide +kernel
theorem dX1_canBeAbsent_42 : decode cX1_canBeAbsent 42 = .ok (.ireturn, 1) := by decide +kernel
set_option maxRecDepth 20000 in
theorem ggX1_enterAbsence_X1_dropBids : GoodIn wsX1_enterAbsence wsX1_dropBids := goodIn_r _ [12, 13, 14, 15, 16, 17, 18, 19, 20, 21, 22, 23, 24, 25, 26, 27, 28, 29, 30, 31] (by decide +kernel) (by decide +kernel)
set_option maxRecDepth 20000 in
theorem gX1_enterAbsence_X1_dropBids : GoodIn wsX1_enterAbsence (wsV RX1 70 RX1 yX1_dropBids wsX1_dropBids) := goodIn_app (goodIn_of _ (by decide +kernel)) ggX1_enterAbsence_X1_dropBids
theorem dX1_enterAbsence_0 : decode cX1_enterAbsence 0 = .ok (.aload_n 0, 1) := by decide +kernel
theorem dX1_enterAbsence_1 : decode cX1_enterAbsence 1 = .ok (.getfield 65, 3) := by decide +kernel
theorem dX1_enterAbsence_4 : decode cX1_enterAbsence 4 = .ok (.istore_n 3, 1) := by decide +kernel
theorem dX1_enterAbsence_5 : decode cX1_enterAbsence 5 = .ok (.aload_n 0, 1) := by decide +kernel
theorem dX1_enterAbsence_6 : decode cX1_enterAbsence 6 = .ok (.getfield 31, 3) := by decide +kernel
theorem dX1_enterAbsence_9 : decode cX1_enterAbsence 9 = .ok (.iload_n 3, 1) := by decide +kernel
theorem dX1_enterAbsence_10 : decode cX1_enterAbsence 10 = .ok (.iload_n 1, 1) := by decide +kernel
theorem dX1_enterAbsence_11 : decode cX1_enterAbsence 11 = .ok (.iastore, 1) := by decide +kernel
theorem dX1_enterAbsence_12 : decode cX1_enterAbsence 12 = .ok (.aload_n 0, 1) := by decide +kernel
theorem dX1_enterAbsence_13 : decode cX1_enterAbsence 13 = .ok (.getfield 34, 3) := by decide +kernel
theorem dX1_enterAbsence_16 : decode cX1_enterAbsence 16 = .ok (.iload_n 3, 1) := by decide +kernel
theorem dX1_enterAbsence_17 : decode cX1_enterAbsence 17 = .ok (.iload_n 2, 1) := by decide +kernel
theorem dX1_enterAbsence_18 : decode cX1_enterAbsence 18 = .ok (.iastore, 1) := by decide +kernel
theorem dX1_enterAbsence_19 : decode cX1_enterAbsence 19 = .ok (.aload_n 0, 1) := by decide +kernel
theorem dX1_enterAbsence_20 : decode cX1_enterAbsence 20 = .ok (.getfield 37, 3) := by decide +kernel
theorem dX1_enterAbsence_23 : decode cX1_enterAbsence 23 = .ok (.iload_n 3, 1) := by decide +kernel
theorem dX1_enterAbsence_24 : decode cX1_enterAbsence 24 = .ok (.iconst 0, 1) := by decide +kernel
theorem dX1_enterAbsence_25 : decode cX1_enterAbsence 25 = .ok (.iastore, 1) := by decide +kernel
theorem dX1_enterAbsence_26 : decode cX1_enterAbsence 26 = .ok (.aload_n 0, 1) := by decide +kernel
theorem dX1_enterAbsence_27 : decode cX1_enterAbsence 27 = .ok (.getfield 40, 3) := by decide +kernel
theorem dX1_enterAbsence_30 : decode cX1_enterAbsence 30 = .ok (.iload_n 3, 1) := by decide +kernel
theorem dX1_enterAbsence_31 : decode cX1_enterAbsence 31 = .ok (.iconst (-1), 1) := by decide +kernel
theorem dX1_enterAbsence_32 : decode cX1_enterAbsence 32 = .ok (.iastore, 1) := by decide +kernel
theorem dX1_enterAbsence_33 : decode cX1_enterAbsence 33 = .ok (.aload_n 0, 1) := by decide +kernel
theorem dX1_enterAbsence_34 : decode cX1_enterAbsence 34 = .ok (.getfield 43, 3) := by decide +kernel
theorem dX1_enterAbsence_37 : decode cX1_enterAbsence 37 = .ok (.iload_n 3, 1) := by decide +kernel
theorem dX1_enterAbsence_38 : decode cX1_enterAbsence 38 = .ok (.iconst 0, 1) := by decide +kernel
theorem dX1_enterAbsence_39 : decode cX1_enterAbsence 39 = .ok (.iastore, 1) := by decide +kernel
theorem dX1_enterAbsence_40 : decode cX1_enterAbsence 40 = .ok (.aload_n 0, 1) := by decide +kernel
theorem dX1_enterAbsence_41 : decode cX1_enterAbsence 41 = .ok (.iload_n 3, 1) := by decide +kernel
theorem dX1_enterAbsence_42 : decode cX1_enterAbsence 42 = .ok (.invokevirtual 70, 3) := by decide +kernel
theorem dX1_enterAbsence_45 : decode cX1_enterAbsence 45 = .ok (.aload_n 0, 1) := by decide +kernel
theorem dX1_enterAbsence_46 : decode cX1_enterAbsence 46 = .ok (.getfield 19, 3) := by decide +kernel
theorem dX1_enterAbsence_49 : decode cX1_enterAbsence 49 = .ok (.iload_n 1, 1) := by decide +kernel
theorem dX1_enterAbsence_50 : decode cX1_enterAbsence 50 = .ok (.dup2, 1) := by decide +kernel
theorem dX1_enterAbsence_51 : decode cX1_enterAbsence 51 = .ok (.laload, 1) := by decide +kernel
theorem dX1_enterAbsence_52 : decode cX1_enterAbsence 52 = .ok (.lconst 1, 1) := by decide +kernel
theorem dX1_enterAbsence_53 : decode cX1_enterAbsence 53 = .ok (.iload_n 2, 1) := by decide +kernel
theorem dX1_enterAbsence_54 : decode cX1_enterAbsence 54 = .ok (.lshl, 1) := by decide +kernel
theorem dX1_enterAbsence_55 : decode cX1_enterAbsence 55 = .ok (.lor, 1) := by decide +kernel
theorem dX1_enterAbsence_56 : decode cX1_enterAbsence 56 = .ok (.lastore, 1) := by decide +kernel
theorem dX1_enterAbsence_57 : decode cX1_enterAbsence 57 = .ok (.aload_n 0, 1) := by decide +kernel
theorem dX1_enterAbsence_58 : decode cX1_enterAbsence 58 = .ok (.dup, 1) := by decide +kernel
theorem dX1_enterAbsence_59 : decode cX1_enterAbsence 59 = .ok (.getfield 65, 3) := by decide +kernel
theorem dX1_enterAbsence_62 : decode cX1_enterAbsence 62 = .ok (.iconst 1, 1) := by decide +kernel
theorem dX1_enterAbsence_63 : decode cX1_enterAbsence 63 = .ok (.iadd, 1) := by decide +kernel
theorem dX1_enterAbsence_64 : decode cX1_enterAbsence 64 = .ok (.putfield 65, 3) := by decide +kernel
theorem dX1_enterAbsence_67 : decode cX1_enterAbsence 67 = .ok (.iload_n 3, 1) := by decide +kernel
theorem dX1_enterAbsence_68 : decode cX1_enterAbsence 68 = .ok (.ireturn, 1) := by decide +kernel
theorem dX1_canBid_0 : decode cX1_canBid 0 = .ok (.aload_n 0, 1) := by decide +kernel
theorem dX1_canBid_1 : decode cX1_canBid 1 = .ok (.getfield 37, 3) := by decide +kernel
theorem dX1_canBid_4 : decode cX1_canBid 4 = .ok (.iload_n 2, 1) := by decide +kernel
theorem dX1_canBid_5 : decode cX1_canBid 5 = .ok (.iaload, 1) := by decide +kernel
theorem dX1_canBid_6 : decode cX1_canBid 6 = .ok (.ifCond .ne 17, 3) := by decide +kernel
theorem dX1_canBid_9 : decode cX1_canBid 9 = .ok (.aload_n 0, 1) := by decide +kernel
theorem dX1_canBid_10 : decode cX1_canBid 10 = .ok (.getfield 31, 3) := by decide +kernel
theorem dX1_canBid_13 : decode cX1_canBid 13 = .ok (.iload_n 2, 1) := by decide +kernel
theorem dX1_canBid_14 : decode cX1_canBid 14 = .ok (.iaload, 1) := by decide +kernel
theorem dX1_canBid_15 : decode cX1_canBid 15 = .ok (.iload_n 1, 1) := by decide +kernel
theorem dX1_canBid_16 : decode cX1_canBid 16 = .ok (.if_icmp .eq 7, 3) := by decide +kernel
theorem dX1_canBid_19 : decode cX1_canBid 19 = .ok (.iconst 1, 1) := by decide +kernel
theorem dX1_canBid_20 : decode cX1_canBid 20 = .ok (.goto 4, 3) := by decide +kernel
theorem dX1_canBid_23 : decode cX1_canBid 23 = .ok (.iconst 0, 1) := by decide +kernel
theorem dX1_canBid_24 : decode cX1_canBid 24 = .ok (.ireturn, 1) := by decide +kernel
set_option maxRecDepth 20000 in
theorem ggX1_bidsFor_X2_bidIndex : GoodIn wsX1_bidsFor wsX2_bidIndex := goodIn_r _ [5] (by decide +kernel) (by decide +kernel)
set_option maxRecDepth 20000 in
theorem gX1_bidsFor_X2_bidIndex_n74 : GoodIn wsX1_bidsFor (wsX2_bidIndex) := ggX1_bidsFor_X2_bidIndex
theorem dX1_bidsFor_0 : decode cX1_bidsFor 0 = .ok (.iconst 0, 1) := by decide +kernel
theorem dX1_bidsFor_1 : decode cX1_bidsFor 1 = .ok (.istore_n 2, 1) := by decide +kernel
theorem dX1_bidsFor_2 : decode cX1_bidsFor 2 = .ok (.iconst 0, 1) := by decide +kernel
theorem dX1_bidsFor_3 : decode cX1_bidsFor 3 = .ok (.istore_n 3, 1) := by decide +kernel
theorem dX1_bidsFor_4 : decode cX1_bidsFor 4 = .ok (.iload_n 3, 1) := by decide +kernel
theorem dX1_bidsFor_5 : decode cX1_bidsFor 5 = .ok (.aload_n 0, 1) := by decide +kernel
theorem dX1_bidsFor_6 : decode cX1_bidsFor 6 = .ok (.getfield 62, 3) := by decide +kernel
theorem dX1_bidsFor_9 : decode cX1_bidsFor 9 = .ok (.if_icmp .ge 26, 3) := by decide +kernel
theorem dX1_bidsFor_12 : decode cX1_bidsFor 12 = .ok (.aload_n 0, 1) := by decide +kernel
theorem dX1_bidsFor_13 : decode cX1_bidsFor 13 = .ok (.getfield 46, 3) := by decide +kernel
theorem dX1_bidsFor_16 : decode cX1_bidsFor 16 = .ok (.iload_n 3, 1) := by decide +kernel
theorem dX1_bidsFor_17 : decode cX1_bidsFor 17 = .ok (.iload_n 1, 1) := by decide +kernel
theorem dX1_bidsFor_18 : decode cX1_bidsFor 18 = .ok (.invokestatic 74, 3) := by decide +kernel
theorem dX1_bidsFor_21 : decode cX1_bidsFor 21 = .ok (.iaload, 1) := by decide +kernel
theorem dX1_bidsFor_22 : decode cX1_bidsFor 22 = .ok (.iconst (-1), 1) := by decide +kernel
theorem dX1_bidsFor_23 : decode cX1_bidsFor 23 = .ok (.if_icmp .eq 6, 3) := by decide +kernel
theorem dX1_bidsFor_26 : decode cX1_bidsFor 26 = .ok (.iinc 2 1, 3) := by decide +kernel
theorem dX1_bidsFor_29 : decode cX1_bidsFor 29 = .ok (.iinc 3 1, 3) := by decide +kernel
theorem dX1_bidsFor_32 : decode cX1_bidsFor 32 = .ok (.goto (-28), 3) := by decide +kernel
theorem dX1_bidsFor_35 : decode cX1_bidsFor 35 = .ok (.iload_n 2, 1) := by decide +kernel
theorem dX1_bidsFor_36 : decode cX1_bidsFor 36 = .ok (.ireturn, 1) := by decide +kernel
set_option maxRecDepth 20000 in
theorem ggX1_bidsBy_X2_bidIndex : GoodIn wsX1_bidsBy wsX2_bidIndex := goodIn_r _ [5] (by decide +kernel) (by decide +kernel)
set_option maxRecDepth 20000 in
theorem gX1_bidsBy_X2_bidIndex_n74 : GoodIn wsX1_bidsBy (wsX2_bidIndex) := ggX1_bidsBy_X2_bidIndex
theorem dX1_bidsBy_0 : decode cX1_bidsBy 0 = .ok (.iconst 0, 1) := by decide +kernel
theorem dX1_bidsBy_1 : decode cX1_bidsBy 1 = .ok (.istore_n 2, 1) := by decide +kernel
theorem dX1_bidsBy_2 : decode cX1_bidsBy 2 = .ok (.iconst 0, 1) := by decide +kernel
theorem dX1_bidsBy_3 : decode cX1_bidsBy 3 = .ok (.istore_n 3, 1) := by decide +kernel
theorem dX1_bidsBy_4 : decode cX1_bidsBy 4 = .ok (.iload_n 3, 1) := by decide +kernel
theorem dX1_bidsBy_5 : decode cX1_bidsBy 5 = .ok (.aload_n 0, 1) := by decide +kernel
theorem dX1_bidsBy_6 : decode cX1_bidsBy 6 = .ok (.getfield 65, 3) := by decide +kernel
theorem dX1_bidsBy_9 : decode cX1_bidsBy 9 = .ok (.if_icmp .ge 26, 3) := by decide +kernel
theorem dX1_bidsBy_12 : decode cX1_bidsBy 12 = .ok (.aload_n 0, 1) := by decide +kernel
theorem dX1_bidsBy_13 : decode cX1_bidsBy 13 = .ok (.getfield 46, 3) := by decide +kernel
theorem dX1_bidsBy_16 : decode cX1_bidsBy 16 = .ok (.iload_n 1, 1) := by decide +kernel
theorem dX1_bidsBy_17 : decode cX1_bidsBy 17 = .ok (.iload_n 3, 1) := by decide +kernel
theorem dX1_bidsBy_18 : decode cX1_bidsBy 18 = .ok (.invokestatic 74, 3) := by decide +kernel
theorem dX1_bidsBy_21 : decode cX1_bidsBy 21 = .ok (.iaload, 1) := by decide +kernel
theorem dX1_bidsBy_22 : decode cX1_bidsBy 22 = .ok (.iconst (-1), 1) := by decide +kernel
theorem dX1_bidsBy_23 : decode cX1_bidsBy 23 = .ok (.if_icmp .eq 6, 3) := by decide +kernel
theorem dX1_bidsBy_26 : decode cX1_bidsBy 26 = .ok (.iinc 2 1, 3) := by decide +kernel
theorem dX1_bidsBy_29 : decode cX1_bidsBy 29 = .ok (.iinc 3 1, 3) := by decide +kernel
theorem dX1_bidsBy_32 : decode cX1_bidsBy 32 = .ok (.goto (-28), 3) := by decide +kernel
theorem dX1_bidsBy_35 : decode cX1_bidsBy 35 = .ok (.iload_n 2, 1) := by decide +kernel
theorem dX1_bidsBy_36 : decode cX1_bidsBy 36 = .ok (.ireturn, 1) := by decide +kernel
set_option maxRecDepth 20000 in
theorem ggX1_dropBids_X2_bidIndex : GoodIn wsX1_dropBids wsX2_bidIndex := goodIn_r _ [4] (by decide +kernel) (by decide +kernel)
set_option maxRecDepth 20000 in
theorem gX1_dropBids_X2_bidIndex_n74 : GoodIn wsX1_dropBids (wsX2_bidIndex) := ggX1_dropBids_X2_bidIndex
theorem dX1_dropBids_0 : decode cX1_dropBids 0 = .ok (.iconst 0, 1) := by decide +kernel
theorem dX1_dropBids_1 : decode cX1_dropBids 1 = .ok (.istore_n 2, 1) := by decide +kernel
theorem dX1_dropBids_2 : decode cX1_dropBids 2 = .ok (.iload_n 2, 1) := by decide +kernel
theorem dX1_dropBids_3 : decode cX1_dropBids 3 = .ok (.bipush 8, 2) := by decide +kernel
theorem dX1_dropBids_5 : decode cX1_dropBids 5 = .ok (.if_icmp .ge 20, 3) := by decide +kernel
theorem dX1_dropBids_8 : decode cX1_dropBids 8 = .ok (.aload_n 0, 1) := by decide +kernel
theorem dX1_dropBids_9 : decode cX1_dropBids 9 = .ok (.getfield 46, 3) := by decide +kernel
theorem dX1_dropBids_12 : decode cX1_dropBids 12 = .ok (.iload_n 2, 1) := by decide +kernel
theorem dX1_dropBids_13 : decode cX1_dropBids 13 = .ok (.iload_n 1, 1) := by decide +kernel
theorem dX1_dropBids_14 : decode cX1_dropBids 14 = .ok (.invokestatic 74, 3) := by decide +kernel
theorem dX1_dropBids_17 : decode cX1_dropBids 17 = .ok (.iconst (-1), 1) := by decide +kernel
theorem dX1_dropBids_18 : decode cX1_dropBids 18 = .ok (.iastore, 1) := by decide +kernel
theorem dX1_dropBids_19 : decode cX1_dropBids 19 = .ok (.iinc 2 1, 3) := by decide +kernel
theorem dX1_dropBids_22 : decode cX1_dropBids 22 = .ok (.goto (-20), 3) := by decide +kernel
theorem dX1_dropBids_25 : decode cX1_dropBids 25 = .ok (.return_, 1) := by decide +kernel
theorem dX1_worked_0 : decode cX1_worked 0 = .ok (.aload_n 0, 1) := by decide +kernel
theorem dX1_worked_1 : decode cX1_worked 1 = .ok (.getfield 15, 3) := by decide +kernel
theorem dX1_worked_4 : decode cX1_worked 4 = .ok (.iload_n 1, 1) := by decide +kernel
theorem dX1_worked_5 : decode cX1_worked 5 = .ok (.laload, 1) := by decide +kernel
theorem dX1_worked_6 : decode cX1_worked 6 = .ok (.aload_n 0, 1) := by decide +kernel
theorem dX1_worked_7 : decode cX1_worked 7 = .ok (.getfield 19, 3) := by decide +kernel
theorem dX1_worked_10 : decode cX1_worked 10 = .ok (.iload_n 1, 1) := by decide +kernel
theorem dX1_worked_11 : decode cX1_worked 11 = .ok (.laload, 1) := by decide +kernel
theorem dX1_worked_12 : decode cX1_worked 12 = .ok (.ldc2_w 68, 3) := by decide +kernel
theorem dX1_worked_15 : decode cX1_worked 15 = .ok (.lxor, 1) := by decide +kernel
theorem dX1_worked_16 : decode cX1_worked 16 = .ok (.land, 1) := by decide +kernel
theorem dX1_worked_17 : decode cX1_worked 17 = .ok (.aload_n 0, 1) := by decide +kernel
theorem dX1_worked_18 : decode cX1_worked 18 = .ok (.getfield 22, 3) := by decide +kernel
theorem dX1_worked_21 : decode cX1_worked 21 = .ok (.iload_n 1, 1) := by decide +kernel
theorem dX1_worked_22 : decode cX1_worked 22 = .ok (.laload, 1) := by decide +kernel
theorem dX1_worked_23 : decode cX1_worked 23 = .ok (.lor, 1) := by decide +kernel
theorem dX1_worked_24 : decode cX1_worked 24 = .ok (.lreturn, 1) := by decide +kernel
theorem dX1_restBehind_0 : decode cX1_restBehind 0 = .ok (.lconst 0, 1) := by decide +kernel
theorem dX1_restBehind_1 : decode cX1_restBehind 1 = .ok (.lstore_n 3, 1) := by decide +kernel
theorem dX1_restBehind_2 : decode cX1_restBehind 2 = .ok (.iconst 1, 1) := by decide +kernel
theorem dX1_restBehind_3 : decode cX1_restBehind 3 = .ok (.istore 5, 2) := by decide +kernel
theorem dX1_restBehind_5 : decode cX1_restBehind 5 = .ok (.iload 5, 2) := by decide +kernel
theorem dX1_restBehind_7 : decode cX1_restBehind 7 = .ok (.aload_n 0, 1) := by decide +kernel
theorem dX1_restBehind_8 : decode cX1_restBehind 8 = .ok (.getfield 9, 3) := by decide +kernel
theorem dX1_restBehind_11 : decode cX1_restBehind 11 = .ok (.iconst 0, 1) := by decide +kernel
theorem dX1_restBehind_12 : decode cX1_restBehind 12 = .ok (.iaload, 1) := by decide +kernel
theorem dX1_restBehind_13 : decode cX1_restBehind 13 = .ok (.if_icmp .gt 16, 3) := by decide +kernel
theorem dX1_restBehind_16 : decode cX1_restBehind 16 = .ok (.lload_n 3, 1) := by decide +kernel
theorem dX1_restBehind_17 : decode cX1_restBehind 17 = .ok (.lload_n 1, 1) := by decide +kernel
theorem dX1_restBehind_18 : decode cX1_restBehind 18 = .ok (.iload 5, 2) := by decide +kernel
theorem dX1_restBehind_20 : decode cX1_restBehind 20 = .ok (.lshl, 1) := by decide +kernel
theorem dX1_restBehind_21 : decode cX1_restBehind 21 = .ok (.lor, 1) := by decide +kernel
theorem dX1_restBehind_22 : decode cX1_restBehind 22 = .ok (.lstore_n 3, 1) := by decide +kernel
theorem dX1_restBehind_23 : decode cX1_restBehind 23 = .ok (.iinc 5 1, 3) := by decide +kernel
theorem dX1_restBehind_26 : decode cX1_restBehind 26 = .ok (.goto (-21), 3) := by decide +kernel
theorem dX1_restBehind_29 : decode cX1_restBehind 29 = .ok (.lload_n 3, 1) := by decide +kernel
theorem dX1_restBehind_30 : decode cX1_restBehind 30 = .ok (.lreturn, 1) := by decide +kernel
theorem dX1_restBefore_0 : decode cX1_restBefore 0 = .ok (.lconst 0, 1) := by decide +kernel
theorem dX1_restBefore_1 : decode cX1_restBefore 1 = .ok (.lstore_n 3, 1) := by decide +kernel
theorem dX1_restBefore_2 : decode cX1_restBefore 2 = .ok (.iconst 1, 1) := by decide +kernel
theorem dX1_restBefore_3 : decode cX1_restBefore 3 = .ok (.istore 5, 2) := by decide +kernel
theorem dX1_restBefore_5 : decode cX1_restBefore 5 = .ok (.iload 5, 2) := by decide +kernel
theorem dX1_restBefore_7 : decode cX1_restBefore 7 = .ok (.aload_n 0, 1) := by decide +kernel
theorem dX1_restBefore_8 : decode cX1_restBefore 8 = .ok (.getfield 9, 3) := by decide +kernel
theorem dX1_restBefore_11 : decode cX1_restBefore 11 = .ok (.iconst 0, 1) := by decide +kernel
theorem dX1_restBefore_12 : decode cX1_restBefore 12 = .ok (.iaload, 1) := by decide +kernel
theorem dX1_restBefore_13 : decode cX1_restBefore 13 = .ok (.if_icmp .gt 16, 3) := by decide +kernel
theorem dX1_restBefore_16 : decode cX1_restBefore 16 = .ok (.lload_n 3, 1) := by decide +kernel
theorem dX1_restBefore_17 : decode cX1_restBefore 17 = .ok (.lload_n 1, 1) := by decide +kernel
theorem dX1_restBefore_18 : decode cX1_restBefore 18 = .ok (.iload 5, 2) := by decide +kernel
theorem dX1_restBefore_20 : decode cX1_restBefore 20 = .ok (.lushr, 1) := by decide +kernel
theorem dX1_restBefore_21 : decode cX1_restBefore 21 = .ok (.lor, 1) := by decide +kernel
theorem dX1_restBefore_22 : decode cX1_restBefore 22 = .ok (.lstore_n 3, 1) := by decide +kernel
theorem dX1_restBefore_23 : decode cX1_restBefore 23 = .ok (.iinc 5 1, 3) := by decide +kernel
theorem dX1_restBefore_26 : decode cX1_restBefore 26 = .ok (.goto (-21), 3) := by decide +kernel
theorem dX1_restBefore_29 : decode cX1_restBefore 29 = .ok (.lload_n 3, 1) := by decide +kernel
theorem dX1_restBefore_30 : decode cX1_restBefore 30 = .ok (.lreturn, 1) := by decide +kernel
set_option maxRecDepth 20000 in
theorem ggX1_hindrance_X1_worked : GoodIn wsX1_hindrance wsX1_worked := goodIn_r _ [8, 9, 3, 10, 11, 21, 22, 23, 24, 25, 26, 27, 28, 29, 30, 31, 32, 33, 34, 35] (by decide +kernel) (by decide +kernel)
set_option maxRecDepth 20000 in
theorem gX1_hindrance_X1_worked : GoodIn wsX1_hindrance (wsV RX1 78 RX1 yX1_worked wsX1_worked) := goodIn_app (goodIn_of _ (by decide +kernel)) ggX1_hindrance_X1_worked
set_option maxRecDepth 20000 in
theorem ggX1_hindrance_X1_restBehind : GoodIn wsX1_hindrance wsX1_restBehind := goodIn_r _ [15, 16, 21, 22, 23, 24, 25, 26, 27, 28, 29, 30, 31, 32, 33, 34, 35] (by decide +kernel) (by decide +kernel)
set_option maxRecDepth 20000 in
theorem gX1_hindrance_X1_restBehind : GoodIn wsX1_hindrance (wsV RX1 84 RX1 yX1_restBehind wsX1_restBehind) := goodIn_app (goodIn_of _ (by decide +kernel)) ggX1_hindrance_X1_restBehind
set_option maxRecDepth 20000 in
theorem ggX1_hindrance_X1_restBefore : GoodIn wsX1_hindrance wsX1_restBefore := goodIn_r _ [20, 16, 21, 22, 23, 24, 25, 26, 27, 28, 29, 30, 31, 32, 33, 34, 35] (by decide +kernel) (by decide +kernel)
set_option maxRecDepth 20000 in
theorem gX1_hindrance_X1_restBefore : GoodIn wsX1_hindrance (wsV RX1 88 RX1 yX1_restBefore wsX1_restBefore) := goodIn_app (goodIn_of _ (by decide +kernel)) ggX1_hindrance_X1_restBefore
theorem dX1_hindrance_0 : decode cX1_hindrance 0 = .ok (.aload_n 0, 1) := by decide +kernel
theorem dX1_hindrance_1 : decode cX1_hindrance 1 = .ok (.getfield 31, 3) := by decide +kernel
theorem dX1_hindrance_4 : decode cX1_hindrance 4 = .ok (.iload_n 2, 1) := by decide +kernel
theorem dX1_hindrance_5 : decode cX1_hindrance 5 = .ok (.iaload, 1) := by decide +kernel
theorem dX1_hindrance_6 : decode cX1_hindrance 6 = .ok (.iload_n 1, 1) := by decide +kernel
theorem dX1_hindrance_7 : decode cX1_hindrance 7 = .ok (.if_icmp .ne 5, 3) := by decide +kernel
theorem dX1_hindrance_10 : decode cX1_hindrance 10 = .ok (.iconst 1, 1) := by decide +kernel
theorem dX1_hindrance_11 : decode cX1_hindrance 11 = .ok (.ireturn, 1) := by decide +kernel
theorem dX1_hindrance_12 : decode cX1_hindrance 12 = .ok (.lconst 1, 1) := by decide +kernel
theorem dX1_hindrance_13 : decode cX1_hindrance 13 = .ok (.aload_n 0, 1) := by decide +kernel
theorem dX1_hindrance_14 : decode cX1_hindrance 14 = .ok (.getfield 34, 3) := by decide +kernel
theorem dX1_hindrance_17 : decode cX1_hindrance 17 = .ok (.iload_n 2, 1) := by decide +kernel
theorem dX1_hindrance_18 : decode cX1_hindrance 18 = .ok (.iaload, 1) := by decide +kernel
theorem dX1_hindrance_19 : decode cX1_hindrance 19 = .ok (.lshl, 1) := by decide +kernel
theorem dX1_hindrance_20 : decode cX1_hindrance 20 = .ok (.lstore_n 3, 1) := by decide +kernel
theorem dX1_hindrance_21 : decode cX1_hindrance 21 = .ok (.aload_n 0, 1) := by decide +kernel
theorem dX1_hindrance_22 : decode cX1_hindrance 22 = .ok (.getfield 19, 3) := by decide +kernel
theorem dX1_hindrance_25 : decode cX1_hindrance 25 = .ok (.iload_n 1, 1) := by decide +kernel
theorem dX1_hindrance_26 : decode cX1_hindrance 26 = .ok (.laload, 1) := by decide +kernel
theorem dX1_hindrance_27 : decode cX1_hindrance 27 = .ok (.lload_n 3, 1) := by decide +kernel
theorem dX1_hindrance_28 : decode cX1_hindrance 28 = .ok (.land, 1) := by decide +kernel
theorem dX1_hindrance_29 : decode cX1_hindrance 29 = .ok (.lconst 0, 1) := by decide +kernel
theorem dX1_hindrance_30 : decode cX1_hindrance 30 = .ok (.lcmp, 1) := by decide +kernel
theorem dX1_hindrance_31 : decode cX1_hindrance 31 = .ok (.ifCond .eq 5, 3) := by decide +kernel
theorem dX1_hindrance_34 : decode cX1_hindrance 34 = .ok (.iconst 2, 1) := by decide +kernel
theorem dX1_hindrance_35 : decode cX1_hindrance 35 = .ok (.ireturn, 1) := by decide +kernel
theorem dX1_hindrance_36 : decode cX1_hindrance 36 = .ok (.aload_n 0, 1) := by decide +kernel
theorem dX1_hindrance_37 : decode cX1_hindrance 37 = .ok (.iload_n 1, 1) := by decide +kernel
theorem dX1_hindrance_38 : decode cX1_hindrance 38 = .ok (.invokevirtual 78, 3) := by decide +kernel
theorem dX1_hindrance_41 : decode cX1_hindrance 41 = .ok (.lstore 5, 2) := by decide +kernel
theorem dX1_hindrance_43 : decode cX1_hindrance 43 = .ok (.lload 5, 2) := by decide +kernel
theorem dX1_hindrance_45 : decode cX1_hindrance 45 = .ok (.lload_n 3, 1) := by decide +kernel
theorem dX1_hindrance_46 : decode cX1_hindrance 46 = .ok (.land, 1) := by decide +kernel
theorem dX1_hindrance_47 : decode cX1_hindrance 47 = .ok (.lconst 0, 1) := by decide +kernel
theorem dX1_hindrance_48 : decode cX1_hindrance 48 = .ok (.lcmp, 1) := by decide +kernel
theorem dX1_hindrance_49 : decode cX1_hindrance 49 = .ok (.ifCond .eq 5, 3) := by decide +kernel
theorem dX1_hindrance_52 : decode cX1_hindrance 52 = .ok (.iconst 3, 1) := by decide +kernel
theorem dX1_hindrance_53 : decode cX1_hindrance 53 = .ok (.ireturn, 1) := by decide +kernel
theorem dX1_hindrance_54 : decode cX1_hindrance 54 = .ok (.aload_n 0, 1) := by decide +kernel
theorem dX1_hindrance_55 : decode cX1_hindrance 55 = .ok (.lload 5, 2) := by decide +kernel
theorem dX1_hindrance_57 : decode cX1_hindrance 57 = .ok (.invokevirtual 84, 3) := by decide +kernel
theorem dX1_hindrance_60 : decode cX1_hindrance 60 = .ok (.lload_n 3, 1) := by decide +kernel
theorem dX1_hindrance_61 : decode cX1_hindrance 61 = .ok (.land, 1) := by decide +kernel
theorem dX1_hindrance_62 : decode cX1_hindrance 62 = .ok (.lconst 0, 1) := by decide +kernel
theorem dX1_hindrance_63 : decode cX1_hindrance 63 = .ok (.lcmp, 1) := by decide +kernel
theorem dX1_hindrance_64 : decode cX1_hindrance 64 = .ok (.ifCond .eq 5, 3) := by decide +kernel
theorem dX1_hindrance_67 : decode cX1_hindrance 67 = .ok (.iconst 4, 1) := by decide +kernel
theorem dX1_hindrance_68 : decode cX1_hindrance 68 = .ok (.ireturn, 1) := by decide +kernel
theorem dX1_hindrance_69 : decode cX1_hindrance 69 = .ok (.aload_n 0, 1) := by decide +kernel
theorem dX1_hindrance_70 : decode cX1_hindrance 70 = .ok (.lload 5, 2) := by decide +kernel
theorem dX1_hindrance_72 : decode cX1_hindrance 72 = .ok (.invokevirtual 88, 3) := by decide +kernel
theorem dX1_hindrance_75 : decode cX1_hindrance 75 = .ok (.lload_n 3, 1) := by decide +kernel
theorem dX1_hindrance_76 : decode cX1_hindrance 76 = .ok (.land, 1) := by decide +kernel
theorem dX1_hindrance_77 : decode cX1_hindrance 77 = .ok (.lconst 0, 1) := by decide +kernel
theorem dX1_hindrance_78 : decode cX1_hindrance 78 = .ok (.lcmp, 1) := by decide +kernel
theorem dX1_hindrance_79 : decode cX1_hindrance 79 = .ok (.ifCond .eq 7, 3) := by decide +kernel
theorem dX1_hindrance_82 : decode cX1_hindrance 82 = .ok (.iconst 5, 1) := by decide +kernel
theorem dX1_hindrance_83 : decode cX1_hindrance 83 = .ok (.goto 4, 3) := by decide +kernel
theorem dX1_hindrance_86 : decode cX1_hindrance 86 = .ok (.iconst 0, 1) := by decide +kernel
theorem dX1_hindrance_87 : decode cX1_hindrance 87 = .ok (.ireturn, 1) := by decide +kernel
set_option maxRecDepth 20000 in
theorem ggX1_personsWhoCanCover_X1_hindrance : GoodIn wsX1_personsWhoCanCover wsX1_hindrance := goodIn_r _ [6, 7, 8, 9, 10, 11, 12, 5, 13, 14, 15, 16, 17, 18, 19, 20, 21, 22, 23, 24, 25, 26, 27, 28, 29, 30, 31, 32, 33, 34, 35, 36, 37, 38, 39, 40] (by decide +kernel) (by decide +kernel)
set_option maxRecDepth 20000 in
theorem gX1_personsWhoCanCover_X1_hindrance : GoodIn wsX1_personsWhoCanCover (wsV RX1 91 RX1 yX1_hindrance wsX1_hindrance) := goodIn_app (goodIn_of _ (by decide +kernel)) ggX1_personsWhoCanCover_X1_hindrance
theorem dX1_personsWhoCanCover_0 : decode cX1_personsWhoCanCover 0 = .ok (.iconst 0, 1) := by decide +kernel
theorem dX1_personsWhoCanCover_1 : decode cX1_personsWhoCanCover 1 = .ok (.istore_n 2, 1) := by decide +kernel
theorem dX1_personsWhoCanCover_2 : decode cX1_personsWhoCanCover 2 = .ok (.iconst 0, 1) := by decide +kernel
theorem dX1_personsWhoCanCover_3 : decode cX1_personsWhoCanCover 3 = .ok (.istore_n 3, 1) := by decide +kernel
theorem dX1_personsWhoCanCover_4 : decode cX1_personsWhoCanCover 4 = .ok (.iload_n 3, 1) := by decide +kernel
theorem dX1_personsWhoCanCover_5 : decode cX1_personsWhoCanCover 5 = .ok (.aload_n 0, 1) := by decide +kernel
theorem dX1_personsWhoCanCover_6 : decode cX1_personsWhoCanCover 6 = .ok (.getfield 62, 3) := by decide +kernel
theorem dX1_personsWhoCanCover_9 : decode cX1_personsWhoCanCover 9 = .ok (.if_icmp .ge 24, 3) := by decide +kernel
theorem dX1_personsWhoCanCover_12 : decode cX1_personsWhoCanCover 12 = .ok (.aload_n 0, 1) := by decide +kernel
theorem dX1_personsWhoCanCover_13 : decode cX1_personsWhoCanCover 13 = .ok (.iload_n 3, 1) := by decide +kernel
theorem dX1_personsWhoCanCover_14 : decode cX1_personsWhoCanCover 14 = .ok (.iload_n 1, 1) := by decide +kernel
theorem dX1_personsWhoCanCover_15 : decode cX1_personsWhoCanCover 15 = .ok (.invokevirtual 91, 3) := by decide +kernel
theorem dX1_personsWhoCanCover_18 : decode cX1_personsWhoCanCover 18 = .ok (.ifCond .ne 9, 3) := by decide +kernel
theorem dX1_personsWhoCanCover_21 : decode cX1_personsWhoCanCover 21 = .ok (.iload_n 2, 1) := by decide +kernel
theorem dX1_personsWhoCanCover_22 : decode cX1_personsWhoCanCover 22 = .ok (.iconst 1, 1) := by decide +kernel
theorem dX1_personsWhoCanCover_23 : decode cX1_personsWhoCanCover 23 = .ok (.iload_n 3, 1) := by decide +kernel
theorem dX1_personsWhoCanCover_24 : decode cX1_personsWhoCanCover 24 = .ok (.ishl, 1) := by decide +kernel
theorem dX1_personsWhoCanCover_25 : decode cX1_personsWhoCanCover 25 = .ok (.ior, 1) := by decide +kernel
theorem dX1_personsWhoCanCover_26 : decode cX1_personsWhoCanCover 26 = .ok (.istore_n 2, 1) := by decide +kernel
theorem dX1_personsWhoCanCover_27 : decode cX1_personsWhoCanCover 27 = .ok (.iinc 3 1, 3) := by decide +kernel
theorem dX1_personsWhoCanCover_30 : decode cX1_personsWhoCanCover 30 = .ok (.goto (-26), 3) := by decide +kernel
theorem dX1_personsWhoCanCover_33 : decode cX1_personsWhoCanCover 33 = .ok (.iload_n 2, 1) := by decide +kernel
theorem dX1_personsWhoCanCover_34 : decode cX1_personsWhoCanCover 34 = .ok (.ireturn, 1) := by decide +kernel
set_option maxRecDepth 20000 in
theorem ggX1_nextCoverer_X1_hindrance : GoodIn wsX1_nextCoverer wsX1_hindrance := goodIn_r _ [7, 8, 9, 10, 11, 12, 13, 6, 14, 15, 16, 17, 18, 19, 20, 21, 22, 23, 24, 25, 26, 40, 41, 42, 43, 44, 45, 46, 47, 48, 49, 50, 51, 52, 53, 54] (by decide +kernel) (by decide +kernel)
set_option maxRecDepth 20000 in
theorem gX1_nextCoverer_X1_hindrance : GoodIn wsX1_nextCoverer (wsV RX1 91 RX1 yX1_hindrance wsX1_hindrance) := goodIn_app (goodIn_of _ (by decide +kernel)) ggX1_nextCoverer_X1_hindrance
set_option maxRecDepth 20000 in
theorem ggX1_nextCoverer_X1_comesBefore : GoodIn wsX1_nextCoverer wsX1_comesBefore := goodIn_r _ [30, 31, 32, 33, 34, 35, 36, 37, 38, 6, 39, 40, 41, 42, 43, 44, 45, 46, 47, 48, 49, 50, 51, 52, 53, 54] (by decide +kernel) (by decide +kernel)
set_option maxRecDepth 20000 in
theorem gX1_nextCoverer_X1_comesBefore : GoodIn wsX1_nextCoverer (wsV RX1 94 RX1 yX1_comesBefore wsX1_comesBefore) := goodIn_app (goodIn_of _ (by decide +kernel)) ggX1_nextCoverer_X1_comesBefore
theorem dX1_nextCoverer_0 : decode cX1_nextCoverer 0 = .ok (.aload_n 0, 1) := by decide +kernel
theorem dX1_nextCoverer_1 : decode cX1_nextCoverer 1 = .ok (.getfield 37, 3) := by decide +kernel
theorem dX1_nextCoverer_4 : decode cX1_nextCoverer 4 = .ok (.iload_n 1, 1) := by decide +kernel
theorem dX1_nextCoverer_5 : decode cX1_nextCoverer 5 = .ok (.iaload, 1) := by decide +kernel
theorem dX1_nextCoverer_6 : decode cX1_nextCoverer 6 = .ok (.ifCond .eq 5, 3) := by decide +kernel
theorem dX1_nextCoverer_9 : decode cX1_nextCoverer 9 = .ok (.iconst (-1), 1) := by decide +kernel
theorem dX1_nextCoverer_10 : decode cX1_nextCoverer 10 = .ok (.ireturn, 1) := by decide +kernel
theorem dX1_nextCoverer_11 : decode cX1_nextCoverer 11 = .ok (.iconst (-1), 1) := by decide +kernel
theorem dX1_nextCoverer_12 : decode cX1_nextCoverer 12 = .ok (.istore_n 2, 1) := by decide +kernel
theorem dX1_nextCoverer_13 : decode cX1_nextCoverer 13 = .ok (.iconst 0, 1) := by decide +kernel
theorem dX1_nextCoverer_14 : decode cX1_nextCoverer 14 = .ok (.istore_n 3, 1) := by decide +kernel
theorem dX1_nextCoverer_15 : decode cX1_nextCoverer 15 = .ok (.iload_n 3, 1) := by decide +kernel
theorem dX1_nextCoverer_16 : decode cX1_nextCoverer 16 = .ok (.aload_n 0, 1) := by decide +kernel
theorem dX1_nextCoverer_17 : decode cX1_nextCoverer 17 = .ok (.getfield 62, 3) := by decide +kernel
theorem dX1_nextCoverer_20 : decode cX1_nextCoverer 20 = .ok (.if_icmp .ge 35, 3) := by decide +kernel
theorem dX1_nextCoverer_23 : decode cX1_nextCoverer 23 = .ok (.aload_n 0, 1) := by decide +kernel
theorem dX1_nextCoverer_24 : decode cX1_nextCoverer 24 = .ok (.iload_n 3, 1) := by decide +kernel
theorem dX1_nextCoverer_25 : decode cX1_nextCoverer 25 = .ok (.iload_n 1, 1) := by decide +kernel
theorem dX1_nextCoverer_26 : decode cX1_nextCoverer 26 = .ok (.invokevirtual 91, 3) := by decide +kernel
theorem dX1_nextCoverer_29 : decode cX1_nextCoverer 29 = .ok (.ifCond .ne 20, 3) := by decide +kernel
theorem dX1_nextCoverer_32 : decode cX1_nextCoverer 32 = .ok (.iload_n 2, 1) := by decide +kernel
theorem dX1_nextCoverer_33 : decode cX1_nextCoverer 33 = .ok (.iconst (-1), 1) := by decide +kernel
theorem dX1_nextCoverer_34 : decode cX1_nextCoverer 34 = .ok (.if_icmp .eq 13, 3) := by decide +kernel
theorem dX1_nextCoverer_37 : decode cX1_nextCoverer 37 = .ok (.aload_n 0, 1) := by decide +kernel
theorem dX1_nextCoverer_38 : decode cX1_nextCoverer 38 = .ok (.iload_n 3, 1) := by decide +kernel
theorem dX1_nextCoverer_39 : decode cX1_nextCoverer 39 = .ok (.iload_n 2, 1) := by decide +kernel
theorem dX1_nextCoverer_40 : decode cX1_nextCoverer 40 = .ok (.iload_n 1, 1) := by decide +kernel
theorem dX1_nextCoverer_41 : decode cX1_nextCoverer 41 = .ok (.invokevirtual 94, 3) := by decide +kernel
theorem dX1_nextCoverer_44 : decode cX1_nextCoverer 44 = .ok (.ifCond .eq 5, 3) := by decide +kernel
theorem dX1_nextCoverer_47 : decode cX1_nextCoverer 47 = .ok (.iload_n 3, 1) := by decide +kernel
theorem dX1_nextCoverer_48 : decode cX1_nextCoverer 48 = .ok (.istore_n 2, 1) := by decide +kernel
theorem dX1_nextCoverer_49 : decode cX1_nextCoverer 49 = .ok (.iinc 3 1, 3) := by decide +kernel
theorem dX1_nextCoverer_52 : decode cX1_nextCoverer 52 = .ok (.goto (-37), 3) := by decide +kernel
theorem dX1_nextCoverer_55 : decode cX1_nextCoverer 55 = .ok (.iload_n 2, 1) := by decide +kernel
theorem dX1_nextCoverer_56 : decode cX1_nextCoverer 56 = .ok (.ireturn, 1) := by decide +kernel
set_option maxRecDepth 20000 in
theorem ggX1_comesBefore_X2_bidIndex : GoodIn wsX1_comesBefore wsX2_bidIndex := goodIn_r _ [6] (by decide +kernel) (by decide +kernel)
set_option maxRecDepth 20000 in
theorem gX1_comesBefore_X2_bidIndex_n74 : GoodIn wsX1_comesBefore (wsX2_bidIndex) := ggX1_comesBefore_X2_bidIndex
set_option maxRecDepth 20000 in
theorem ggX1_comesBefore_X1_isLess : GoodIn wsX1_comesBefore wsX1_isLess := goodIn_r _ [10] (by decide +kernel) (by decide +kernel)
set_option maxRecDepth 20000 in
theorem gX1_comesBefore_X1_isLess : GoodIn wsX1_comesBefore (va_wsS RX1 98 yX1_isLess wsX1_isLess) := goodIn_app (goodIn_of _ (by decide +kernel)) ggX1_comesBefore_X1_isLess
theorem dX1_comesBefore_0 : decode cX1_comesBefore 0 = .ok (.aload_n 0, 1) := by decide +kernel
theorem dX1_comesBefore_1 : decode cX1_comesBefore 1 = .ok (.getfield 46, 3) := by decide +kernel
theorem dX1_comesBefore_4 : decode cX1_comesBefore 4 = .ok (.iload_n 1, 1) := by decide +kernel
theorem dX1_comesBefore_5 : decode cX1_comesBefore 5 = .ok (.iload_n 3, 1) := by decide +kernel
theorem dX1_comesBefore_6 : decode cX1_comesBefore 6 = .ok (.invokestatic 74, 3) := by decide +kernel
theorem dX1_comesBefore_9 : decode cX1_comesBefore 9 = .ok (.iaload, 1) := by decide +kernel
theorem dX1_comesBefore_10 : decode cX1_comesBefore 10 = .ok (.istore 4, 2) := by decide +kernel
theorem dX1_comesBefore_12 : decode cX1_comesBefore 12 = .ok (.aload_n 0, 1) := by decide +kernel
theorem dX1_comesBefore_13 : decode cX1_comesBefore 13 = .ok (.getfield 46, 3) := by decide +kernel
theorem dX1_comesBefore_16 : decode cX1_comesBefore 16 = .ok (.iload_n 2, 1) := by decide +kernel
theorem dX1_comesBefore_17 : decode cX1_comesBefore 17 = .ok (.iload_n 3, 1) := by decide +kernel
theorem dX1_comesBefore_18 : decode cX1_comesBefore 18 = .ok (.invokestatic 74, 3) := by decide +kernel
theorem dX1_comesBefore_21 : decode cX1_comesBefore 21 = .ok (.iaload, 1) := by decide +kernel
theorem dX1_comesBefore_22 : decode cX1_comesBefore 22 = .ok (.istore 5, 2) := by decide +kernel
theorem dX1_comesBefore_24 : decode cX1_comesBefore 24 = .ok (.iload 4, 2) := by decide +kernel
theorem dX1_comesBefore_26 : decode cX1_comesBefore 26 = .ok (.iconst (-1), 1) := by decide +kernel
theorem dX1_comesBefore_27 : decode cX1_comesBefore 27 = .ok (.if_icmp .ne 37, 3) := by decide +kernel
theorem dX1_comesBefore_30 : decode cX1_comesBefore 30 = .ok (.iload 5, 2) := by decide +kernel
theorem dX1_comesBefore_32 : decode cX1_comesBefore 32 = .ok (.iconst (-1), 1) := by decide +kernel
theorem dX1_comesBefore_33 : decode cX1_comesBefore 33 = .ok (.if_icmp .ne 31, 3) := by decide +kernel
theorem dX1_comesBefore_36 : decode cX1_comesBefore 36 = .ok (.aload_n 0, 1) := by decide +kernel
theorem dX1_comesBefore_37 : decode cX1_comesBefore 37 = .ok (.getfield 28, 3) := by decide +kernel
theorem dX1_comesBefore_40 : decode cX1_comesBefore 40 = .ok (.iload_n 1, 1) := by decide +kernel
theorem dX1_comesBefore_41 : decode cX1_comesBefore 41 = .ok (.iaload, 1) := by decide +kernel
theorem dX1_comesBefore_42 : decode cX1_comesBefore 42 = .ok (.aload_n 0, 1) := by decide +kernel
theorem dX1_comesBefore_43 : decode cX1_comesBefore 43 = .ok (.getfield 25, 3) := by decide +kernel
theorem dX1_comesBefore_46 : decode cX1_comesBefore 46 = .ok (.iload_n 1, 1) := by decide +kernel
theorem dX1_comesBefore_47 : decode cX1_comesBefore 47 = .ok (.iaload, 1) := by decide +kernel
theorem dX1_comesBefore_48 : decode cX1_comesBefore 48 = .ok (.aload_n 0, 1) := by decide +kernel
theorem dX1_comesBefore_49 : decode cX1_comesBefore 49 = .ok (.getfield 28, 3) := by decide +kernel
theorem dX1_comesBefore_52 : decode cX1_comesBefore 52 = .ok (.iload_n 2, 1) := by decide +kernel
theorem dX1_comesBefore_53 : decode cX1_comesBefore 53 = .ok (.iaload, 1) := by decide +kernel
theorem dX1_comesBefore_54 : decode cX1_comesBefore 54 = .ok (.aload_n 0, 1) := by decide +kernel
theorem dX1_comesBefore_55 : decode cX1_comesBefore 55 = .ok (.getfield 25, 3) := by decide +kernel
theorem dX1_comesBefore_58 : decode cX1_comesBefore 58 = .ok (.iload_n 2, 1) := by decide +kernel
theorem dX1_comesBefore_59 : decode cX1_comesBefore 59 = .ok (.iaload, 1) := by decide +kernel
theorem dX1_comesBefore_60 : decode cX1_comesBefore 60 = .ok (.invokestatic 98, 3) := by decide +kernel
theorem dX1_comesBefore_63 : decode cX1_comesBefore 63 = .ok (.ireturn, 1) := by decide +kernel
theorem dX1_comesBefore_64 : decode cX1_comesBefore 64 = .ok (.iload 4, 2) := by decide +kernel
theorem dX1_comesBefore_66 : decode cX1_comesBefore 66 = .ok (.iconst (-1), 1) := by decide +kernel
theorem dX1_comesBefore_67 : decode cX1_comesBefore 67 = .ok (.if_icmp .eq 9, 3) := by decide +kernel
theorem dX1_comesBefore_70 : decode cX1_comesBefore 70 = .ok (.iload 5, 2) := by decide +kernel
theorem dX1_comesBefore_72 : decode cX1_comesBefore 72 = .ok (.iconst (-1), 1) := by decide +kernel
theorem dX1_comesBefore_73 : decode cX1_comesBefore 73 = .ok (.if_icmp .ne 15, 3) := by decide +kernel
theorem dX1_comesBefore_76 : decode cX1_comesBefore 76 = .ok (.iload 4, 2) := by decide +kernel
theorem dX1_comesBefore_78 : decode cX1_comesBefore 78 = .ok (.iconst (-1), 1) := by decide +kernel
theorem dX1_comesBefore_79 : decode cX1_comesBefore 79 = .ok (.if_icmp .eq 7, 3) := by decide +kernel
theorem dX1_comesBefore_82 : decode cX1_comesBefore 82 = .ok (.iconst 1, 1) := by decide +kernel
theorem dX1_comesBefore_83 : decode cX1_comesBefore 83 = .ok (.goto 4, 3) := by decide +kernel
theorem dX1_comesBefore_86 : decode cX1_comesBefore 86 = .ok (.iconst 0, 1) := by decide +kernel
theorem dX1_comesBefore_87 : decode cX1_comesBefore 87 = .ok (.ireturn, 1) := by decide +kernel
theorem dX1_comesBefore_88 : decode cX1_comesBefore 88 = .ok (.iload 4, 2) := by decide +kernel
theorem dX1_comesBefore_90 : decode cX1_comesBefore 90 = .ok (.aload_n 0, 1) := by decide +kernel
theorem dX1_comesBefore_91 : decode cX1_comesBefore 91 = .ok (.getfield 25, 3) := by decide +kernel
theorem dX1_comesBefore_94 : decode cX1_comesBefore 94 = .ok (.iload_n 1, 1) := by decide +kernel
theorem dX1_comesBefore_95 : decode cX1_comesBefore 95 = .ok (.iaload, 1) := by decide +kernel
theorem dX1_comesBefore_96 : decode cX1_comesBefore 96 = .ok (.iload 5, 2) := by decide +kernel
theorem dX1_comesBefore_98 : decode cX1_comesBefore 98 = .ok (.aload_n 0, 1) := by decide +kernel
theorem dX1_comesBefore_99 : decode cX1_comesBefore 99 = .ok (.getfield 25, 3) := by decide +kernel
theorem dX1_comesBefore_102 : decode cX1_comesBefore 102 = .ok (.iload_n 2, 1) := by decide +kernel
theorem dX1_comesBefore_103 : decode cX1_comesBefore 103 = .ok (.iaload, 1) := by decide +kernel
theorem dX1_comesBefore_104 : decode cX1_comesBefore 104 = .ok (.invokestatic 98, 3) := by decide +kernel
theorem dX1_comesBefore_107 : decode cX1_comesBefore 107 = .ok (.ireturn, 1) := by decide +kernel
theorem dX1_isLess_0 : decode cX1_isLess 0 = .ok (.iload_n 0, 1) := by decide +kernel
theorem dX1_isLess_1 : decode cX1_isLess 1 = .ok (.iload_n 2, 1) := by decide +kernel
theorem dX1_isLess_2 : decode cX1_isLess 2 = .ok (.if_icmp .eq 16, 3) := by decide +kernel
theorem dX1_isLess_5 : decode cX1_isLess 5 = .ok (.iload_n 0, 1) := by decide +kernel
theorem dX1_isLess_6 : decode cX1_isLess 6 = .ok (.iload_n 2, 1) := by decide +kernel
theorem dX1_isLess_7 : decode cX1_isLess 7 = .ok (.if_icmp .ge 7, 3) := by decide +kernel
theorem dX1_isLess_10 : decode cX1_isLess 10 = .ok (.iconst 1, 1) := by decide +kernel
theorem dX1_isLess_11 : decode cX1_isLess 11 = .ok (.goto 17, 3) := by decide +kernel
theorem dX1_isLess_14 : decode cX1_isLess 14 = .ok (.iconst 0, 1) := by decide +kernel
theorem dX1_isLess_15 : decode cX1_isLess 15 = .ok (.goto 13, 3) := by decide +kernel
theorem dX1_isLess_18 : decode cX1_isLess 18 = .ok (.iload_n 1, 1) := by decide +kernel
theorem dX1_isLess_19 : decode cX1_isLess 19 = .ok (.iload_n 3, 1) := by decide +kernel
theorem dX1_isLess_20 : decode cX1_isLess 20 = .ok (.if_icmp .ge 7, 3) := by decide +kernel
theorem dX1_isLess_23 : decode cX1_isLess 23 = .ok (.iconst 1, 1) := by decide +kernel
theorem dX1_isLess_24 : decode cX1_isLess 24 = .ok (.goto 4, 3) := by decide +kernel
theorem dX1_isLess_27 : decode cX1_isLess 27 = .ok (.iconst 0, 1) := by decide +kernel
theorem dX1_isLess_28 : decode cX1_isLess 28 = .ok (.ireturn, 1) := by decide +kernel
set_option maxRecDepth 20000 in
theorem ggX1_coverOpen_X1_nextCoverer : GoodIn wsX1_coverOpen wsX1_nextCoverer := goodIn_r _ [15, 2, 16, 17, 18, 19, 14, 20, 10, 8, 21, 22, 23, 24, 25, 26, 27, 7, 28, 29, 30, 31, 4, 32, 33, 34, 35, 36, 37, 38, 39, 1, 5, 9, 40, 41, 42, 43, 44, 45, 50, 51, 52, 53, 54, 55, 56, 57, 58, 59, 60, 61, 62, 63, 64] (by decide +kernel) (by decide +kernel)
set_option maxRecDepth 20000 in
theorem gX1_coverOpen_X1_nextCoverer : GoodIn wsX1_coverOpen (wsV RX1 102 RX1 yX1_nextCoverer wsX1_nextCoverer) := goodIn_app (goodIn_of _ (by decide +kernel)) ggX1_coverOpen_X1_nextCoverer
set_option maxRecDepth 20000 in
theorem ggX1_coverOpen_X2_bidIndex : GoodIn wsX1_coverOpen wsX2_bidIndex := goodIn_r _ [42] (by decide +kernel) (by decide +kernel)
end
section
set_option maxRecDepth 20000 in
theorem gX1_coverOpen_X2_bidIndex_n74 : GoodIn wsX1_coverOpen (wsX2_bidIndex) := ggX1_coverOpen_X2_bidIndex
set_option maxRecDepth 20000 in
theorem ggX1_coverOpen_X1_dropBids : GoodIn wsX1_coverOpen wsX1_dropBids := goodIn_r _ [49, 1, 40, 41, 42, 50, 51, 52, 53, 54, 55, 56, 57, 58, 59, 60, 61, 62, 63, 64] (by decide +kernel) (by decide +kernel)
set_option maxRecDepth 20000 in
theorem gX1_coverOpen_X1_dropBids : GoodIn wsX1_coverOpen (wsV RX1 70 RX1 yX1_dropBids wsX1_dropBids) := goodIn_app (goodIn_of _ (by decide +kernel)) ggX1_coverOpen_X1_dropBids
theorem dX1_coverOpen_0 : decode cX1_coverOpen 0 = .ok (.aload_n 0, 1) := by decide +kernel
theorem dX1_coverOpen_1 : decode cX1_coverOpen 1 = .ok (.iload_n 1, 1) := by decide +kernel
theorem dX1_coverOpen_2 : decode cX1_coverOpen 2 = .ok (.invokevirtual 102, 3) := by decide +kernel
theorem dX1_coverOpen_5 : decode cX1_coverOpen 5 = .ok (.istore_n 2, 1) := by decide +kernel
theorem dX1_coverOpen_6 : decode cX1_coverOpen 6 = .ok (.iload_n 2, 1) := by decide +kernel
theorem dX1_coverOpen_7 : decode cX1_coverOpen 7 = .ok (.iconst (-1), 1) := by decide +kernel
theorem dX1_coverOpen_8 : decode cX1_coverOpen 8 = .ok (.if_icmp .ne 5, 3) := by decide +kernel
theorem dX1_coverOpen_11 : decode cX1_coverOpen 11 = .ok (.iconst 0, 1) := by decide +kernel
theorem dX1_coverOpen_12 : decode cX1_coverOpen 12 = .ok (.ireturn, 1) := by decide +kernel
theorem dX1_coverOpen_13 : decode cX1_coverOpen 13 = .ok (.aload_n 0, 1) := by decide +kernel
theorem dX1_coverOpen_14 : decode cX1_coverOpen 14 = .ok (.getfield 46, 3) := by decide +kernel
theorem dX1_coverOpen_17 : decode cX1_coverOpen 17 = .ok (.iload_n 2, 1) := by decide +kernel
theorem dX1_coverOpen_18 : decode cX1_coverOpen 18 = .ok (.iload_n 1, 1) := by decide +kernel
theorem dX1_coverOpen_19 : decode cX1_coverOpen 19 = .ok (.invokestatic 74, 3) := by decide +kernel
theorem dX1_coverOpen_22 : decode cX1_coverOpen 22 = .ok (.iaload, 1) := by decide +kernel
theorem dX1_coverOpen_23 : decode cX1_coverOpen 23 = .ok (.istore_n 3, 1) := by decide +kernel
theorem dX1_coverOpen_24 : decode cX1_coverOpen 24 = .ok (.iload_n 3, 1) := by decide +kernel
theorem dX1_coverOpen_25 : decode cX1_coverOpen 25 = .ok (.iconst (-1), 1) := by decide +kernel
theorem dX1_coverOpen_26 : decode cX1_coverOpen 26 = .ok (.if_icmp .eq 20, 3) := by decide +kernel
theorem dX1_coverOpen_29 : decode cX1_coverOpen 29 = .ok (.aload_n 0, 1) := by decide +kernel
theorem dX1_coverOpen_30 : decode cX1_coverOpen 30 = .ok (.getfield 37, 3) := by decide +kernel
theorem dX1_coverOpen_33 : decode cX1_coverOpen 33 = .ok (.iload_n 1, 1) := by decide +kernel
theorem dX1_coverOpen_34 : decode cX1_coverOpen 34 = .ok (.iconst 1, 1) := by decide +kernel
theorem dX1_coverOpen_35 : decode cX1_coverOpen 35 = .ok (.iastore, 1) := by decide +kernel
theorem dX1_coverOpen_36 : decode cX1_coverOpen 36 = .ok (.aload_n 0, 1) := by decide +kernel
theorem dX1_coverOpen_37 : decode cX1_coverOpen 37 = .ok (.getfield 43, 3) := by decide +kernel
theorem dX1_coverOpen_40 : decode cX1_coverOpen 40 = .ok (.iload_n 1, 1) := by decide +kernel
theorem dX1_coverOpen_41 : decode cX1_coverOpen 41 = .ok (.iload_n 3, 1) := by decide +kernel
theorem dX1_coverOpen_42 : decode cX1_coverOpen 42 = .ok (.iastore, 1) := by decide +kernel
theorem dX1_coverOpen_43 : decode cX1_coverOpen 43 = .ok (.goto 32, 3) := by decide +kernel
theorem dX1_coverOpen_46 : decode cX1_coverOpen 46 = .ok (.aload_n 0, 1) := by decide +kernel
theorem dX1_coverOpen_47 : decode cX1_coverOpen 47 = .ok (.getfield 37, 3) := by decide +kernel
theorem dX1_coverOpen_50 : decode cX1_coverOpen 50 = .ok (.iload_n 1, 1) := by decide +kernel
theorem dX1_coverOpen_51 : decode cX1_coverOpen 51 = .ok (.iconst 2, 1) := by decide +kernel
theorem dX1_coverOpen_52 : decode cX1_coverOpen 52 = .ok (.iastore, 1) := by decide +kernel
theorem dX1_coverOpen_53 : decode cX1_coverOpen 53 = .ok (.aload_n 0, 1) := by decide +kernel
theorem dX1_coverOpen_54 : decode cX1_coverOpen 54 = .ok (.getfield 43, 3) := by decide +kernel
theorem dX1_coverOpen_57 : decode cX1_coverOpen 57 = .ok (.iload_n 1, 1) := by decide +kernel
theorem dX1_coverOpen_58 : decode cX1_coverOpen 58 = .ok (.aload_n 0, 1) := by decide +kernel
theorem dX1_coverOpen_59 : decode cX1_coverOpen 59 = .ok (.getfield 9, 3) := by decide +kernel
theorem dX1_coverOpen_62 : decode cX1_coverOpen 62 = .ok (.iconst 1, 1) := by decide +kernel
theorem dX1_coverOpen_63 : decode cX1_coverOpen 63 = .ok (.iaload, 1) := by decide +kernel
theorem dX1_coverOpen_64 : decode cX1_coverOpen 64 = .ok (.iastore, 1) := by decide +kernel
theorem dX1_coverOpen_65 : decode cX1_coverOpen 65 = .ok (.aload_n 0, 1) := by decide +kernel
theorem dX1_coverOpen_66 : decode cX1_coverOpen 66 = .ok (.getfield 28, 3) := by decide +kernel
theorem dX1_coverOpen_69 : decode cX1_coverOpen 69 = .ok (.iload_n 2, 1) := by decide +kernel
theorem dX1_coverOpen_70 : decode cX1_coverOpen 70 = .ok (.dup2, 1) := by decide +kernel
theorem dX1_coverOpen_71 : decode cX1_coverOpen 71 = .ok (.iaload, 1) := by decide +kernel
theorem dX1_coverOpen_72 : decode cX1_coverOpen 72 = .ok (.iconst 1, 1) := by decide +kernel
theorem dX1_coverOpen_73 : decode cX1_coverOpen 73 = .ok (.iadd, 1) := by decide +kernel
theorem dX1_coverOpen_74 : decode cX1_coverOpen 74 = .ok (.iastore, 1) := by decide +kernel
theorem dX1_coverOpen_75 : decode cX1_coverOpen 75 = .ok (.aload_n 0, 1) := by decide +kernel
theorem dX1_coverOpen_76 : decode cX1_coverOpen 76 = .ok (.getfield 40, 3) := by decide +kernel
theorem dX1_coverOpen_79 : decode cX1_coverOpen 79 = .ok (.iload_n 1, 1) := by decide +kernel
theorem dX1_coverOpen_80 : decode cX1_coverOpen 80 = .ok (.iload_n 2, 1) := by decide +kernel
theorem dX1_coverOpen_81 : decode cX1_coverOpen 81 = .ok (.iastore, 1) := by decide +kernel
theorem dX1_coverOpen_82 : decode cX1_coverOpen 82 = .ok (.aload_n 0, 1) := by decide +kernel
theorem dX1_coverOpen_83 : decode cX1_coverOpen 83 = .ok (.getfield 22, 3) := by decide +kernel
theorem dX1_coverOpen_86 : decode cX1_coverOpen 86 = .ok (.iload_n 2, 1) := by decide +kernel
theorem dX1_coverOpen_87 : decode cX1_coverOpen 87 = .ok (.dup2, 1) := by decide +kernel
theorem dX1_coverOpen_88 : decode cX1_coverOpen 88 = .ok (.laload, 1) := by decide +kernel
theorem dX1_coverOpen_89 : decode cX1_coverOpen 89 = .ok (.lconst 1, 1) := by decide +kernel
theorem dX1_coverOpen_90 : decode cX1_coverOpen 90 = .ok (.aload_n 0, 1) := by decide +kernel
theorem dX1_coverOpen_91 : decode cX1_coverOpen 91 = .ok (.getfield 34, 3) := by decide +kernel
theorem dX1_coverOpen_94 : decode cX1_coverOpen 94 = .ok (.iload_n 1, 1) := by decide +kernel
theorem dX1_coverOpen_95 : decode cX1_coverOpen 95 = .ok (.iaload, 1) := by decide +kernel
theorem dX1_coverOpen_96 : decode cX1_coverOpen 96 = .ok (.lshl, 1) := by decide +kernel
theorem dX1_coverOpen_97 : decode cX1_coverOpen 97 = .ok (.lor, 1) := by decide +kernel
theorem dX1_coverOpen_98 : decode cX1_coverOpen 98 = .ok (.lastore, 1) := by decide +kernel
theorem dX1_coverOpen_99 : decode cX1_coverOpen 99 = .ok (.aload_n 0, 1) := by decide +kernel
theorem dX1_coverOpen_100 : decode cX1_coverOpen 100 = .ok (.getfield 25, 3) := by decide +kernel
theorem dX1_coverOpen_103 : decode cX1_coverOpen 103 = .ok (.iload_n 2, 1) := by decide +kernel
theorem dX1_coverOpen_104 : decode cX1_coverOpen 104 = .ok (.dup2, 1) := by decide +kernel
theorem dX1_coverOpen_105 : decode cX1_coverOpen 105 = .ok (.iaload, 1) := by decide +kernel
theorem dX1_coverOpen_106 : decode cX1_coverOpen 106 = .ok (.aload_n 0, 1) := by decide +kernel
theorem dX1_coverOpen_107 : decode cX1_coverOpen 107 = .ok (.getfield 43, 3) := by decide +kernel
theorem dX1_coverOpen_110 : decode cX1_coverOpen 110 = .ok (.iload_n 1, 1) := by decide +kernel
theorem dX1_coverOpen_111 : decode cX1_coverOpen 111 = .ok (.iaload, 1) := by decide +kernel
theorem dX1_coverOpen_112 : decode cX1_coverOpen 112 = .ok (.iadd, 1) := by decide +kernel
theorem dX1_coverOpen_113 : decode cX1_coverOpen 113 = .ok (.iastore, 1) := by decide +kernel
theorem dX1_coverOpen_114 : decode cX1_coverOpen 114 = .ok (.aload_n 0, 1) := by decide +kernel
theorem dX1_coverOpen_115 : decode cX1_coverOpen 115 = .ok (.getfield 25, 3) := by decide +kernel
theorem dX1_coverOpen_118 : decode cX1_coverOpen 118 = .ok (.aload_n 0, 1) := by decide +kernel
theorem dX1_coverOpen_119 : decode cX1_coverOpen 119 = .ok (.getfield 31, 3) := by decide +kernel
theorem dX1_coverOpen_122 : decode cX1_coverOpen 122 = .ok (.iload_n 1, 1) := by decide +kernel
theorem dX1_coverOpen_123 : decode cX1_coverOpen 123 = .ok (.iaload, 1) := by decide +kernel
theorem dX1_coverOpen_124 : decode cX1_coverOpen 124 = .ok (.dup2, 1) := by decide +kernel
theorem dX1_coverOpen_125 : decode cX1_coverOpen 125 = .ok (.iaload, 1) := by decide +kernel
theorem dX1_coverOpen_126 : decode cX1_coverOpen 126 = .ok (.aload_n 0, 1) := by decide +kernel
theorem dX1_coverOpen_127 : decode cX1_coverOpen 127 = .ok (.getfield 43, 3) := by decide +kernel
theorem dX1_coverOpen_130 : decode cX1_coverOpen 130 = .ok (.iload_n 1, 1) := by decide +kernel
theorem dX1_coverOpen_131 : decode cX1_coverOpen 131 = .ok (.iaload, 1) := by decide +kernel
theorem dX1_coverOpen_132 : decode cX1_coverOpen 132 = .ok (.isub, 1) := by decide +kernel
theorem dX1_coverOpen_133 : decode cX1_coverOpen 133 = .ok (.iastore, 1) := by decide +kernel
theorem dX1_coverOpen_134 : decode cX1_coverOpen 134 = .ok (.aload_n 0, 1) := by decide +kernel
theorem dX1_coverOpen_135 : decode cX1_coverOpen 135 = .ok (.iload_n 1, 1) := by decide +kernel
theorem dX1_coverOpen_136 : decode cX1_coverOpen 136 = .ok (.invokevirtual 70, 3) := by decide +kernel
theorem dX1_coverOpen_139 : decode cX1_coverOpen 139 = .ok (.iconst 1, 1) := by decide +kernel
theorem dX1_coverOpen_140 : decode cX1_coverOpen 140 = .ok (.ireturn, 1) := by decide +kernel
set_option maxRecDepth 20000 in
theorem ggX1_coverAllOpen_X1_coverOpen : GoodIn wsX1_coverAllOpen wsX1_coverOpen := goodIn_r _ [6, 7, 8, 9, 10, 11, 12, 13, 14, 15, 16, 17, 18, 19, 5, 20, 21, 22, 23, 24, 25, 26, 27, 28, 29, 30, 31, 32, 33, 34, 35, 36, 37, 38, 39, 40, 41, 42, 43, 44, 45, 46, 47, 48, 49, 50, 51, 52, 53, 54, 55, 56, 57, 58, 59, 60, 61, 62, 63, 64, 65, 66, 67, 68, 69] (by decide +kernel) (by decide +kernel)
set_option maxRecDepth 20000 in
theorem gX1_coverAllOpen_X1_coverOpen : GoodIn wsX1_coverAllOpen (wsV RX1 106 RX1 yX1_coverOpen wsX1_coverOpen) := goodIn_app (goodIn_of _ (by decide +kernel)) ggX1_coverAllOpen_X1_coverOpen
theorem dX1_coverAllOpen_0 : decode cX1_coverAllOpen 0 = .ok (.iconst 0, 1) := by decide +kernel
theorem dX1_coverAllOpen_1 : decode cX1_coverAllOpen 1 = .ok (.istore_n 1, 1) := by decide +kernel
theorem dX1_coverAllOpen_2 : decode cX1_coverAllOpen 2 = .ok (.iconst 0, 1) := by decide +kernel
theorem dX1_coverAllOpen_3 : decode cX1_coverAllOpen 3 = .ok (.istore_n 2, 1) := by decide +kernel
theorem dX1_coverAllOpen_4 : decode cX1_coverAllOpen 4 = .ok (.iload_n 2, 1) := by decide +kernel
theorem dX1_coverAllOpen_5 : decode cX1_coverAllOpen 5 = .ok (.aload_n 0, 1) := by decide +kernel
theorem dX1_coverAllOpen_6 : decode cX1_coverAllOpen 6 = .ok (.getfield 65, 3) := by decide +kernel
theorem dX1_coverAllOpen_9 : decode cX1_coverAllOpen 9 = .ok (.if_icmp .ge 20, 3) := by decide +kernel
theorem dX1_coverAllOpen_12 : decode cX1_coverAllOpen 12 = .ok (.aload_n 0, 1) := by decide +kernel
theorem dX1_coverAllOpen_13 : decode cX1_coverAllOpen 13 = .ok (.iload_n 2, 1) := by decide +kernel
theorem dX1_coverAllOpen_14 : decode cX1_coverAllOpen 14 = .ok (.invokevirtual 106, 3) := by decide +kernel
theorem dX1_coverAllOpen_17 : decode cX1_coverAllOpen 17 = .ok (.ifCond .eq 6, 3) := by decide +kernel
theorem dX1_coverAllOpen_20 : decode cX1_coverAllOpen 20 = .ok (.iinc 1 1, 3) := by decide +kernel
theorem dX1_coverAllOpen_23 : decode cX1_coverAllOpen 23 = .ok (.iinc 2 1, 3) := by decide +kernel
theorem dX1_coverAllOpen_26 : decode cX1_coverAllOpen 26 = .ok (.goto (-22), 3) := by decide +kernel
theorem dX1_coverAllOpen_29 : decode cX1_coverAllOpen 29 = .ok (.iload_n 1, 1) := by decide +kernel
theorem dX1_coverAllOpen_30 : decode cX1_coverAllOpen 30 = .ok (.ireturn, 1) := by decide +kernel
theorem dX1_moveCover_0 : decode cX1_moveCover 0 = .ok (.lconst 1, 1) := by decide +kernel
theorem dX1_moveCover_1 : decode cX1_moveCover 1 = .ok (.aload_n 0, 1) := by decide +kernel
theorem dX1_moveCover_2 : decode cX1_moveCover 2 = .ok (.getfield 34, 3) := by decide +kernel
theorem dX1_moveCover_5 : decode cX1_moveCover 5 = .ok (.iload_n 1, 1) := by decide +kernel
theorem dX1_moveCover_6 : decode cX1_moveCover 6 = .ok (.iaload, 1) := by decide +kernel
theorem dX1_moveCover_7 : decode cX1_moveCover 7 = .ok (.lshl, 1) := by decide +kernel
theorem dX1_moveCover_8 : decode cX1_moveCover 8 = .ok (.lstore_n 3, 1) := by decide +kernel
theorem dX1_moveCover_9 : decode cX1_moveCover 9 = .ok (.aload_n 0, 1) := by decide +kernel
theorem dX1_moveCover_10 : decode cX1_moveCover 10 = .ok (.getfield 40, 3) := by decide +kernel
theorem dX1_moveCover_13 : decode cX1_moveCover 13 = .ok (.iload_n 1, 1) := by decide +kernel
theorem dX1_moveCover_14 : decode cX1_moveCover 14 = .ok (.iaload, 1) := by decide +kernel
theorem dX1_moveCover_15 : decode cX1_moveCover 15 = .ok (.istore 5, 2) := by decide +kernel
theorem dX1_moveCover_17 : decode cX1_moveCover 17 = .ok (.aload_n 0, 1) := by decide +kernel
theorem dX1_moveCover_18 : decode cX1_moveCover 18 = .ok (.getfield 22, 3) := by decide +kernel
theorem dX1_moveCover_21 : decode cX1_moveCover 21 = .ok (.iload 5, 2) := by decide +kernel
theorem dX1_moveCover_23 : decode cX1_moveCover 23 = .ok (.dup2, 1) := by decide +kernel
theorem dX1_moveCover_24 : decode cX1_moveCover 24 = .ok (.laload, 1) := by decide +kernel
theorem dX1_moveCover_25 : decode cX1_moveCover 25 = .ok (.lload_n 3, 1) := by decide +kernel
theorem dX1_moveCover_26 : decode cX1_moveCover 26 = .ok (.ldc2_w 68, 3) := by decide +kernel
theorem dX1_moveCover_29 : decode cX1_moveCover 29 = .ok (.lxor, 1) := by decide +kernel
theorem dX1_moveCover_30 : decode cX1_moveCover 30 = .ok (.land, 1) := by decide +kernel
theorem dX1_moveCover_31 : decode cX1_moveCover 31 = .ok (.lastore, 1) := by decide +kernel
theorem dX1_moveCover_32 : decode cX1_moveCover 32 = .ok (.aload_n 0, 1) := by decide +kernel
theorem dX1_moveCover_33 : decode cX1_moveCover 33 = .ok (.getfield 25, 3) := by decide +kernel
theorem dX1_moveCover_36 : decode cX1_moveCover 36 = .ok (.iload 5, 2) := by decide +kernel
theorem dX1_moveCover_38 : decode cX1_moveCover 38 = .ok (.dup2, 1) := by decide +kernel
theorem dX1_moveCover_39 : decode cX1_moveCover 39 = .ok (.iaload, 1) := by decide +kernel
theorem dX1_moveCover_40 : decode cX1_moveCover 40 = .ok (.aload_n 0, 1) := by decide +kernel
theorem dX1_moveCover_41 : decode cX1_moveCover 41 = .ok (.getfield 43, 3) := by decide +kernel
theorem dX1_moveCover_44 : decode cX1_moveCover 44 = .ok (.iload_n 1, 1) := by decide +kernel
theorem dX1_moveCover_45 : decode cX1_moveCover 45 = .ok (.iaload, 1) := by decide +kernel
theorem dX1_moveCover_46 : decode cX1_moveCover 46 = .ok (.isub, 1) := by decide +kernel
theorem dX1_moveCover_47 : decode cX1_moveCover 47 = .ok (.iastore, 1) := by decide +kernel
theorem dX1_moveCover_48 : decode cX1_moveCover 48 = .ok (.aload_n 0, 1) := by decide +kernel
theorem dX1_moveCover_49 : decode cX1_moveCover 49 = .ok (.getfield 22, 3) := by decide +kernel
theorem dX1_moveCover_52 : decode cX1_moveCover 52 = .ok (.iload_n 2, 1) := by decide +kernel
theorem dX1_moveCover_53 : decode cX1_moveCover 53 = .ok (.dup2, 1) := by decide +kernel
theorem dX1_moveCover_54 : decode cX1_moveCover 54 = .ok (.laload, 1) := by decide +kernel
theorem dX1_moveCover_55 : decode cX1_moveCover 55 = .ok (.lload_n 3, 1) := by decide +kernel
theorem dX1_moveCover_56 : decode cX1_moveCover 56 = .ok (.lor, 1) := by decide +kernel
theorem dX1_moveCover_57 : decode cX1_moveCover 57 = .ok (.lastore, 1) := by decide +kernel
theorem dX1_moveCover_58 : decode cX1_moveCover 58 = .ok (.aload_n 0, 1) := by decide +kernel
theorem dX1_moveCover_59 : decode cX1_moveCover 59 = .ok (.getfield 25, 3) := by decide +kernel
theorem dX1_moveCover_62 : decode cX1_moveCover 62 = .ok (.iload_n 2, 1) := by decide +kernel
theorem dX1_moveCover_63 : decode cX1_moveCover 63 = .ok (.dup2, 1) := by decide +kernel
theorem dX1_moveCover_64 : decode cX1_moveCover 64 = .ok (.iaload, 1) := by decide +kernel
theorem dX1_moveCover_65 : decode cX1_moveCover 65 = .ok (.aload_n 0, 1) := by decide +kernel
theorem dX1_moveCover_66 : decode cX1_moveCover 66 = .ok (.getfield 43, 3) := by decide +kernel
theorem dX1_moveCover_69 : decode cX1_moveCover 69 = .ok (.iload_n 1, 1) := by decide +kernel
theorem dX1_moveCover_70 : decode cX1_moveCover 70 = .ok (.iaload, 1) := by decide +kernel
theorem dX1_moveCover_71 : decode cX1_moveCover 71 = .ok (.iadd, 1) := by decide +kernel
theorem dX1_moveCover_72 : decode cX1_moveCover 72 = .ok (.iastore, 1) := by decide +kernel
theorem dX1_moveCover_73 : decode cX1_moveCover 73 = .ok (.aload_n 0, 1) := by decide +kernel
theorem dX1_moveCover_74 : decode cX1_moveCover 74 = .ok (.getfield 40, 3) := by decide +kernel
theorem dX1_moveCover_77 : decode cX1_moveCover 77 = .ok (.iload_n 1, 1) := by decide +kernel
theorem dX1_moveCover_78 : decode cX1_moveCover 78 = .ok (.iload_n 2, 1) := by decide +kernel
theorem dX1_moveCover_79 : decode cX1_moveCover 79 = .ok (.iastore, 1) := by decide +kernel
theorem dX1_moveCover_80 : decode cX1_moveCover 80 = .ok (.aload_n 0, 1) := by decide +kernel
theorem dX1_moveCover_81 : decode cX1_moveCover 81 = .ok (.dup, 1) := by decide +kernel
theorem dX1_moveCover_82 : decode cX1_moveCover 82 = .ok (.getfield 58, 3) := by decide +kernel
theorem dX1_moveCover_85 : decode cX1_moveCover 85 = .ok (.iconst 1, 1) := by decide +kernel
theorem dX1_moveCover_86 : decode cX1_moveCover 86 = .ok (.iadd, 1) := by decide +kernel
theorem dX1_moveCover_87 : decode cX1_moveCover 87 = .ok (.putfield 58, 3) := by decide +kernel
theorem dX1_moveCover_90 : decode cX1_moveCover 90 = .ok (.return_, 1) := by decide +kernel
set_option maxRecDepth 20000 in
theorem ggX1_aboutPerson_J13_bitCount_95d88 : GoodIn wsX1_aboutPerson wsJ13_bitCount_95d88 := goodIn_r _ [9, 10, 11, 12] (by decide +kernel) (by decide +kernel)
set_option maxRecDepth 20000 in
theorem gX1_aboutPerson_J13_bitCount_95d88 : GoodIn wsX1_aboutPerson (va_wsS RX1 110 yJ13_bitCount_95d88 wsJ13_bitCount_95d88) := goodIn_app (goodIn_of _ (by decide +kernel)) ggX1_aboutPerson_J13_bitCount_95d88
set_option maxRecDepth 20000 in
theorem ggX1_aboutPerson_X1_worked : GoodIn wsX1_aboutPerson wsX1_worked := goodIn_r _ [17, 1, 2, 18, 3, 28, 29, 30, 31, 32, 33, 34, 35, 36, 37, 38, 39, 40, 41, 42] (by decide +kernel) (by decide +kernel)
set_option maxRecDepth 20000 in
theorem gX1_aboutPerson_X1_worked : GoodIn wsX1_aboutPerson (wsV RX1 78 RX1 yX1_worked wsX1_worked) := goodIn_app (goodIn_of _ (by decide +kernel)) ggX1_aboutPerson_X1_worked
set_option maxRecDepth 20000 in
theorem ggX1_aboutPerson_X1_bidsBy : GoodIn wsX1_aboutPerson wsX1_bidsBy := goodIn_r _ [22, 23, 24, 25, 26, 27, 28, 29, 30, 31, 32, 33, 34, 35, 36, 37, 38, 39, 40, 41, 42] (by decide +kernel) (by decide +kernel)
set_option maxRecDepth 20000 in
theorem gX1_aboutPerson_X1_bidsBy : GoodIn wsX1_aboutPerson (wsV RX1 116 RX1 yX1_bidsBy wsX1_bidsBy) := goodIn_app (goodIn_of _ (by decide +kernel)) ggX1_aboutPerson_X1_bidsBy
theorem dX1_aboutPerson_0 : decode cX1_aboutPerson 0 = .ok (.iload_n 2, 1) := by decide +kernel
theorem dX1_aboutPerson_1 : decode cX1_aboutPerson 1 = .ok (.tableswitch 92 0 5 #[39, 49, 59, 69, 76, 83], 39) := by decide +kernel
theorem dX1_aboutPerson_40 : decode cX1_aboutPerson 40 = .ok (.aload_n 0, 1) := by decide +kernel
theorem dX1_aboutPerson_41 : decode cX1_aboutPerson 41 = .ok (.getfield 15, 3) := by decide +kernel
theorem dX1_aboutPerson_44 : decode cX1_aboutPerson 44 = .ok (.iload_n 1, 1) := by decide +kernel
theorem dX1_aboutPerson_45 : decode cX1_aboutPerson 45 = .ok (.laload, 1) := by decide +kernel
theorem dX1_aboutPerson_46 : decode cX1_aboutPerson 46 = .ok (.invokestatic 110, 3) := by decide +kernel
theorem dX1_aboutPerson_49 : decode cX1_aboutPerson 49 = .ok (.ireturn, 1) := by decide +kernel
theorem dX1_aboutPerson_50 : decode cX1_aboutPerson 50 = .ok (.aload_n 0, 1) := by decide +kernel
theorem dX1_aboutPerson_51 : decode cX1_aboutPerson 51 = .ok (.getfield 19, 3) := by decide +kernel
theorem dX1_aboutPerson_54 : decode cX1_aboutPerson 54 = .ok (.iload_n 1, 1) := by decide +kernel
theorem dX1_aboutPerson_55 : decode cX1_aboutPerson 55 = .ok (.laload, 1) := by decide +kernel
theorem dX1_aboutPerson_56 : decode cX1_aboutPerson 56 = .ok (.invokestatic 110, 3) := by decide +kernel
theorem dX1_aboutPerson_59 : decode cX1_aboutPerson 59 = .ok (.ireturn, 1) := by decide +kernel
theorem dX1_aboutPerson_60 : decode cX1_aboutPerson 60 = .ok (.aload_n 0, 1) := by decide +kernel
theorem dX1_aboutPerson_61 : decode cX1_aboutPerson 61 = .ok (.getfield 22, 3) := by decide +kernel
theorem dX1_aboutPerson_64 : decode cX1_aboutPerson 64 = .ok (.iload_n 1, 1) := by decide +kernel
theorem dX1_aboutPerson_65 : decode cX1_aboutPerson 65 = .ok (.laload, 1) := by decide +kernel
theorem dX1_aboutPerson_66 : decode cX1_aboutPerson 66 = .ok (.invokestatic 110, 3) := by decide +kernel
theorem dX1_aboutPerson_69 : decode cX1_aboutPerson 69 = .ok (.ireturn, 1) := by decide +kernel
theorem dX1_aboutPerson_70 : decode cX1_aboutPerson 70 = .ok (.aload_n 0, 1) := by decide +kernel
theorem dX1_aboutPerson_71 : decode cX1_aboutPerson 71 = .ok (.getfield 25, 3) := by decide +kernel
theorem dX1_aboutPerson_74 : decode cX1_aboutPerson 74 = .ok (.iload_n 1, 1) := by decide +kernel
theorem dX1_aboutPerson_75 : decode cX1_aboutPerson 75 = .ok (.iaload, 1) := by decide +kernel
theorem dX1_aboutPerson_76 : decode cX1_aboutPerson 76 = .ok (.ireturn, 1) := by decide +kernel
theorem dX1_aboutPerson_77 : decode cX1_aboutPerson 77 = .ok (.aload_n 0, 1) := by decide +kernel
theorem dX1_aboutPerson_78 : decode cX1_aboutPerson 78 = .ok (.getfield 28, 3) := by decide +kernel
theorem dX1_aboutPerson_81 : decode cX1_aboutPerson 81 = .ok (.iload_n 1, 1) := by decide +kernel
theorem dX1_aboutPerson_82 : decode cX1_aboutPerson 82 = .ok (.iaload, 1) := by decide +kernel
theorem dX1_aboutPerson_83 : decode cX1_aboutPerson 83 = .ok (.ireturn, 1) := by decide +kernel
theorem dX1_aboutPerson_84 : decode cX1_aboutPerson 84 = .ok (.aload_n 0, 1) := by decide +kernel
theorem dX1_aboutPerson_85 : decode cX1_aboutPerson 85 = .ok (.iload_n 1, 1) := by decide +kernel
theorem dX1_aboutPerson_86 : decode cX1_aboutPerson 86 = .ok (.invokevirtual 78, 3) := by decide +kernel
theorem dX1_aboutPerson_89 : decode cX1_aboutPerson 89 = .ok (.invokestatic 110, 3) := by decide +kernel
theorem dX1_aboutPerson_92 : decode cX1_aboutPerson 92 = .ok (.ireturn, 1) := by decide +kernel
theorem dX1_aboutPerson_93 : decode cX1_aboutPerson 93 = .ok (.aload_n 0, 1) := by decide +kernel
theorem dX1_aboutPerson_94 : decode cX1_aboutPerson 94 = .ok (.iload_n 1, 1) := by decide +kernel
theorem dX1_aboutPerson_95 : decode cX1_aboutPerson 95 = .ok (.invokevirtual 116, 3) := by decide +kernel
theorem dX1_aboutPerson_98 : decode cX1_aboutPerson 98 = .ok (.ireturn, 1) := by decide +kernel
set_option maxRecDepth 20000 in
theorem ggX1_aboutAbsence_X1_bidsFor : GoodIn wsX1_aboutAbsence wsX1_bidsFor := goodIn_r _ [10, 11, 12, 13, 14, 15, 41, 42, 43, 44, 45, 46, 47, 48, 49, 50, 51, 52, 53, 54, 55] (by decide +kernel) (by decide +kernel)
set_option maxRecDepth 20000 in
theorem gX1_aboutAbsence_X1_bidsFor : GoodIn wsX1_aboutAbsence (wsV RX1 119 RX1 yX1_bidsFor wsX1_bidsFor) := goodIn_app (goodIn_of _ (by decide +kernel)) ggX1_aboutAbsence_X1_bidsFor
set_option maxRecDepth 20000 in
theorem ggX1_aboutAbsence_X1_personsWhoCanCover : GoodIn wsX1_aboutAbsence wsX1_personsWhoCanCover := goodIn_r _ [19, 11, 20, 21, 22, 9, 23, 1, 2, 24, 25, 26, 27, 28, 29, 30, 31, 32, 33, 34, 35, 36, 37, 38, 39, 40, 41, 42, 43, 44, 45, 46, 47, 48, 49, 50, 51, 52, 53, 54, 55] (by decide +kernel) (by decide +kernel)
set_option maxRecDepth 20000 in
theorem gX1_aboutAbsence_X1_personsWhoCanCover : GoodIn wsX1_aboutAbsence (wsV RX1 122 RX1 yX1_personsWhoCanCover wsX1_personsWhoCanCover) := goodIn_app (goodIn_of _ (by decide +kernel)) ggX1_aboutAbsence_X1_personsWhoCanCover
theorem dX1_aboutAbsence_0 : decode cX1_aboutAbsence 0 = .ok (.iload_n 2, 1) := by decide +kernel
theorem dX1_aboutAbsence_1 : decode cX1_aboutAbsence 1 = .ok (.tableswitch 80 0 5 #[39, 46, 53, 60, 67, 74], 39) := by decide +kernel
theorem dX1_aboutAbsence_40 : decode cX1_aboutAbsence 40 = .ok (.aload_n 0, 1) := by decide +kernel
theorem dX1_aboutAbsence_41 : decode cX1_aboutAbsence 41 = .ok (.getfield 31, 3) := by decide +kernel
theorem dX1_aboutAbsence_44 : decode cX1_aboutAbsence 44 = .ok (.iload_n 1, 1) := by decide +kernel
theorem dX1_aboutAbsence_45 : decode cX1_aboutAbsence 45 = .ok (.iaload, 1) := by decide +kernel
theorem dX1_aboutAbsence_46 : decode cX1_aboutAbsence 46 = .ok (.ireturn, 1) := by decide +kernel
theorem dX1_aboutAbsence_47 : decode cX1_aboutAbsence 47 = .ok (.aload_n 0, 1) := by decide +kernel
theorem dX1_aboutAbsence_48 : decode cX1_aboutAbsence 48 = .ok (.getfield 34, 3) := by decide +kernel
theorem dX1_aboutAbsence_51 : decode cX1_aboutAbsence 51 = .ok (.iload_n 1, 1) := by decide +kernel
theorem dX1_aboutAbsence_52 : decode cX1_aboutAbsence 52 = .ok (.iaload, 1) := by decide +kernel
theorem dX1_aboutAbsence_53 : decode cX1_aboutAbsence 53 = .ok (.ireturn, 1) := by decide +kernel
theorem dX1_aboutAbsence_54 : decode cX1_aboutAbsence 54 = .ok (.aload_n 0, 1) := by decide +kernel
theorem dX1_aboutAbsence_55 : decode cX1_aboutAbsence 55 = .ok (.getfield 37, 3) := by decide +kernel
theorem dX1_aboutAbsence_58 : decode cX1_aboutAbsence 58 = .ok (.iload_n 1, 1) := by decide +kernel
theorem dX1_aboutAbsence_59 : decode cX1_aboutAbsence 59 = .ok (.iaload, 1) := by decide +kernel
theorem dX1_aboutAbsence_60 : decode cX1_aboutAbsence 60 = .ok (.ireturn, 1) := by decide +kernel
theorem dX1_aboutAbsence_61 : decode cX1_aboutAbsence 61 = .ok (.aload_n 0, 1) := by decide +kernel
theorem dX1_aboutAbsence_62 : decode cX1_aboutAbsence 62 = .ok (.getfield 40, 3) := by decide +kernel
theorem dX1_aboutAbsence_65 : decode cX1_aboutAbsence 65 = .ok (.iload_n 1, 1) := by decide +kernel
theorem dX1_aboutAbsence_66 : decode cX1_aboutAbsence 66 = .ok (.iaload, 1) := by decide +kernel
theorem dX1_aboutAbsence_67 : decode cX1_aboutAbsence 67 = .ok (.ireturn, 1) := by decide +kernel
theorem dX1_aboutAbsence_68 : decode cX1_aboutAbsence 68 = .ok (.aload_n 0, 1) := by decide +kernel
theorem dX1_aboutAbsence_69 : decode cX1_aboutAbsence 69 = .ok (.getfield 43, 3) := by decide +kernel
theorem dX1_aboutAbsence_72 : decode cX1_aboutAbsence 72 = .ok (.iload_n 1, 1) := by decide +kernel
theorem dX1_aboutAbsence_73 : decode cX1_aboutAbsence 73 = .ok (.iaload, 1) := by decide +kernel
theorem dX1_aboutAbsence_74 : decode cX1_aboutAbsence 74 = .ok (.ireturn, 1) := by decide +kernel
theorem dX1_aboutAbsence_75 : decode cX1_aboutAbsence 75 = .ok (.aload_n 0, 1) := by decide +kernel
theorem dX1_aboutAbsence_76 : decode cX1_aboutAbsence 76 = .ok (.iload_n 1, 1) := by decide +kernel
theorem dX1_aboutAbsence_77 : decode cX1_aboutAbsence 77 = .ok (.invokevirtual 119, 3) := by decide +kernel
theorem dX1_aboutAbsence_80 : decode cX1_aboutAbsence 80 = .ok (.ireturn, 1) := by decide +kernel
theorem dX1_aboutAbsence_81 : decode cX1_aboutAbsence 81 = .ok (.aload_n 0, 1) := by decide +kernel
theorem dX1_aboutAbsence_82 : decode cX1_aboutAbsence 82 = .ok (.iload_n 1, 1) := by decide +kernel
theorem dX1_aboutAbsence_83 : decode cX1_aboutAbsence 83 = .ok (.invokevirtual 122, 3) := by decide +kernel
theorem dX1_aboutAbsence_86 : decode cX1_aboutAbsence 86 = .ok (.ireturn, 1) := by decide +kernel
set_option maxRecDepth 20000 in
theorem ggX1_aboutAll_X1_countOf : GoodIn wsX1_aboutAll wsX1_countOf := goodIn_r _ [8, 2, 9, 43, 44, 45, 46, 47, 48, 49, 50, 51, 52, 53, 54, 55, 56, 57] (by decide +kernel) (by decide +kernel)
set_option maxRecDepth 20000 in
theorem gX1_aboutAll_X1_countOf : GoodIn wsX1_aboutAll (wsV RX1 125 RX1 yX1_countOf wsX1_countOf) := goodIn_app (goodIn_of _ (by decide +kernel)) ggX1_aboutAll_X1_countOf
set_option maxRecDepth 20000 in
theorem ggX1_aboutAll_X1_greatestMeter : GoodIn wsX1_aboutAll wsX1_greatestMeter := goodIn_r _ [13, 1, 14, 15, 16, 17, 18, 43, 44, 45, 46, 47, 48, 49, 50, 51, 52, 53, 54, 55, 56, 57] (by decide +kernel) (by decide +kernel)
set_option maxRecDepth 20000 in
theorem gX1_aboutAll_X1_greatestMeter : GoodIn wsX1_aboutAll (wsV RX1 128 RX1 yX1_greatestMeter wsX1_greatestMeter) := goodIn_app (goodIn_of _ (by decide +kernel)) ggX1_aboutAll_X1_greatestMeter
set_option maxRecDepth 20000 in
theorem ggX1_aboutAll_X1_lowestMeter : GoodIn wsX1_aboutAll wsX1_lowestMeter := goodIn_r _ [22, 1, 14, 23, 24, 17, 25, 43, 44, 45, 46, 47, 48, 49, 50, 51, 52, 53, 54, 55, 56, 57] (by decide +kernel) (by decide +kernel)
set_option maxRecDepth 20000 in
theorem gX1_aboutAll_X1_lowestMeter : GoodIn wsX1_aboutAll (wsV RX1 132 RX1 yX1_lowestMeter wsX1_lowestMeter) := goodIn_app (goodIn_of _ (by decide +kernel)) ggX1_aboutAll_X1_lowestMeter
set_option maxRecDepth 20000 in
theorem ggX1_aboutAll_X1_allBids : GoodIn wsX1_aboutAll wsX1_allBids := goodIn_r _ [29, 2, 30, 31, 32, 7, 33, 1, 34, 35, 36, 37, 43, 44, 45, 46, 47, 48, 49, 50, 51, 52, 53, 54, 55, 56, 57] (by decide +kernel) (by decide +kernel)
set_option maxRecDepth 20000 in
theorem gX1_aboutAll_X1_allBids : GoodIn wsX1_aboutAll (wsV RX1 135 RX1 yX1_allBids wsX1_allBids) := goodIn_app (goodIn_of _ (by decide +kernel)) ggX1_aboutAll_X1_allBids
set_option maxRecDepth 20000 in
theorem ggX1_aboutAll_X1_allPoints : GoodIn wsX1_aboutAll wsX1_allPoints := goodIn_r _ [41, 2, 42, 43, 44, 45, 46, 47, 48, 49, 50, 51, 52, 53, 54, 55, 56, 57] (by decide +kernel) (by decide +kernel)
set_option maxRecDepth 20000 in
theorem gX1_aboutAll_X1_allPoints : GoodIn wsX1_aboutAll (wsV RX1 138 RX1 yX1_allPoints wsX1_allPoints) := goodIn_app (goodIn_of _ (by decide +kernel)) ggX1_aboutAll_X1_allPoints
theorem dX1_aboutAll_0 : decode cX1_aboutAll 0 = .ok (.iload_n 1, 1) := by decide +kernel
theorem dX1_aboutAll_1 : decode cX1_aboutAll 1 = .ok (.tableswitch 109 0 9 #[55, 60, 65, 71, 77, 83, 89, 94, 99, 104], 55) := by decide +kernel
theorem dX1_aboutAll_56 : decode cX1_aboutAll 56 = .ok (.aload_n 0, 1) := by decide +kernel
theorem dX1_aboutAll_57 : decode cX1_aboutAll 57 = .ok (.getfield 62, 3) := by decide +kernel
theorem dX1_aboutAll_60 : decode cX1_aboutAll 60 = .ok (.ireturn, 1) := by decide +kernel
theorem dX1_aboutAll_61 : decode cX1_aboutAll 61 = .ok (.aload_n 0, 1) := by decide +kernel
theorem dX1_aboutAll_62 : decode cX1_aboutAll 62 = .ok (.getfield 65, 3) := by decide +kernel
theorem dX1_aboutAll_65 : decode cX1_aboutAll 65 = .ok (.ireturn, 1) := by decide +kernel
theorem dX1_aboutAll_66 : decode cX1_aboutAll 66 = .ok (.aload_n 0, 1) := by decide +kernel
theorem dX1_aboutAll_67 : decode cX1_aboutAll 67 = .ok (.iconst 0, 1) := by decide +kernel
theorem dX1_aboutAll_68 : decode cX1_aboutAll 68 = .ok (.invokevirtual 125, 3) := by decide +kernel
theorem dX1_aboutAll_71 : decode cX1_aboutAll 71 = .ok (.ireturn, 1) := by decide +kernel
theorem dX1_aboutAll_72 : decode cX1_aboutAll 72 = .ok (.aload_n 0, 1) := by decide +kernel
theorem dX1_aboutAll_73 : decode cX1_aboutAll 73 = .ok (.iconst 1, 1) := by decide +kernel
theorem dX1_aboutAll_74 : decode cX1_aboutAll 74 = .ok (.invokevirtual 125, 3) := by decide +kernel
theorem dX1_aboutAll_77 : decode cX1_aboutAll 77 = .ok (.ireturn, 1) := by decide +kernel
theorem dX1_aboutAll_78 : decode cX1_aboutAll 78 = .ok (.aload_n 0, 1) := by decide +kernel
theorem dX1_aboutAll_79 : decode cX1_aboutAll 79 = .ok (.iconst 2, 1) := by decide +kernel
theorem dX1_aboutAll_80 : decode cX1_aboutAll 80 = .ok (.invokevirtual 125, 3) := by decide +kernel
theorem dX1_aboutAll_83 : decode cX1_aboutAll 83 = .ok (.ireturn, 1) := by decide +kernel
theorem dX1_aboutAll_84 : decode cX1_aboutAll 84 = .ok (.aload_n 0, 1) := by decide +kernel
theorem dX1_aboutAll_85 : decode cX1_aboutAll 85 = .ok (.iconst 3, 1) := by decide +kernel
theorem dX1_aboutAll_86 : decode cX1_aboutAll 86 = .ok (.invokevirtual 125, 3) := by decide +kernel
theorem dX1_aboutAll_89 : decode cX1_aboutAll 89 = .ok (.ireturn, 1) := by decide +kernel
theorem dX1_aboutAll_90 : decode cX1_aboutAll 90 = .ok (.aload_n 0, 1) := by decide +kernel
theorem dX1_aboutAll_91 : decode cX1_aboutAll 91 = .ok (.invokevirtual 128, 3) := by decide +kernel
theorem dX1_aboutAll_94 : decode cX1_aboutAll 94 = .ok (.ireturn, 1) := by decide +kernel
theorem dX1_aboutAll_95 : decode cX1_aboutAll 95 = .ok (.aload_n 0, 1) := by decide +kernel
theorem dX1_aboutAll_96 : decode cX1_aboutAll 96 = .ok (.invokevirtual 132, 3) := by decide +kernel
theorem dX1_aboutAll_99 : decode cX1_aboutAll 99 = .ok (.ireturn, 1) := by decide +kernel
theorem dX1_aboutAll_100 : decode cX1_aboutAll 100 = .ok (.aload_n 0, 1) := by decide +kernel
theorem dX1_aboutAll_101 : decode cX1_aboutAll 101 = .ok (.invokevirtual 135, 3) := by decide +kernel
theorem dX1_aboutAll_104 : decode cX1_aboutAll 104 = .ok (.ireturn, 1) := by decide +kernel
theorem dX1_aboutAll_105 : decode cX1_aboutAll 105 = .ok (.aload_n 0, 1) := by decide +kernel
theorem dX1_aboutAll_106 : decode cX1_aboutAll 106 = .ok (.invokevirtual 138, 3) := by decide +kernel
theorem dX1_aboutAll_109 : decode cX1_aboutAll 109 = .ok (.ireturn, 1) := by decide +kernel
theorem dX1_aboutAll_110 : decode cX1_aboutAll 110 = .ok (.aload_n 0, 1) := by decide +kernel
theorem dX1_aboutAll_111 : decode cX1_aboutAll 111 = .ok (.getfield 58, 3) := by decide +kernel
theorem dX1_aboutAll_114 : decode cX1_aboutAll 114 = .ok (.ireturn, 1) := by decide +kernel
theorem dX1_countOf_0 : decode cX1_countOf 0 = .ok (.iconst 0, 1) := by decide +kernel
theorem dX1_countOf_1 : decode cX1_countOf 1 = .ok (.istore_n 2, 1) := by decide +kernel
theorem dX1_countOf_2 : decode cX1_countOf 2 = .ok (.iconst 0, 1) := by decide +kernel
theorem dX1_countOf_3 : decode cX1_countOf 3 = .ok (.istore_n 3, 1) := by decide +kernel
theorem dX1_countOf_4 : decode cX1_countOf 4 = .ok (.iload_n 3, 1) := by decide +kernel
theorem dX1_countOf_5 : decode cX1_countOf 5 = .ok (.aload_n 0, 1) := by decide +kernel
theorem dX1_countOf_6 : decode cX1_countOf 6 = .ok (.getfield 65, 3) := by decide +kernel
theorem dX1_countOf_9 : decode cX1_countOf 9 = .ok (.if_icmp .ge 22, 3) := by decide +kernel
theorem dX1_countOf_12 : decode cX1_countOf 12 = .ok (.aload_n 0, 1) := by decide +kernel
theorem dX1_countOf_13 : decode cX1_countOf 13 = .ok (.getfield 37, 3) := by decide +kernel
theorem dX1_countOf_16 : decode cX1_countOf 16 = .ok (.iload_n 3, 1) := by decide +kernel
theorem dX1_countOf_17 : decode cX1_countOf 17 = .ok (.iaload, 1) := by decide +kernel
theorem dX1_countOf_18 : decode cX1_countOf 18 = .ok (.iload_n 1, 1) := by decide +kernel
theorem dX1_countOf_19 : decode cX1_countOf 19 = .ok (.if_icmp .ne 6, 3) := by decide +kernel
theorem dX1_countOf_22 : decode cX1_countOf 22 = .ok (.iinc 2 1, 3) := by decide +kernel
theorem dX1_countOf_25 : decode cX1_countOf 25 = .ok (.iinc 3 1, 3) := by decide +kernel
theorem dX1_countOf_28 : decode cX1_countOf 28 = .ok (.goto (-24), 3) := by decide +kernel
theorem dX1_countOf_31 : decode cX1_countOf 31 = .ok (.iload_n 2, 1) := by decide +kernel
theorem dX1_countOf_32 : decode cX1_countOf 32 = .ok (.ireturn, 1) := by decide +kernel
theorem dX1_greatestMeter_0 : decode cX1_greatestMeter 0 = .ok (.aload_n 0, 1) := by decide +kernel
theorem dX1_greatestMeter_1 : decode cX1_greatestMeter 1 = .ok (.getfield 62, 3) := by decide +kernel
theorem dX1_greatestMeter_4 : decode cX1_greatestMeter 4 = .ok (.ifCond .ne 5, 3) := by decide +kernel
theorem dX1_greatestMeter_7 : decode cX1_greatestMeter 7 = .ok (.iconst (-1), 1) := by decide +kernel
theorem dX1_greatestMeter_8 : decode cX1_greatestMeter 8 = .ok (.ireturn, 1) := by decide +kernel
theorem dX1_greatestMeter_9 : decode cX1_greatestMeter 9 = .ok (.aload_n 0, 1) := by decide +kernel
theorem dX1_greatestMeter_10 : decode cX1_greatestMeter 10 = .ok (.getfield 25, 3) := by decide +kernel
theorem dX1_greatestMeter_13 : decode cX1_greatestMeter 13 = .ok (.iconst 0, 1) := by decide +kernel
theorem dX1_greatestMeter_14 : decode cX1_greatestMeter 14 = .ok (.iaload, 1) := by decide +kernel
theorem dX1_greatestMeter_15 : decode cX1_greatestMeter 15 = .ok (.istore_n 1, 1) := by decide +kernel
theorem dX1_greatestMeter_16 : decode cX1_greatestMeter 16 = .ok (.iconst 1, 1) := by decide +kernel
theorem dX1_greatestMeter_17 : decode cX1_greatestMeter 17 = .ok (.istore_n 2, 1) := by decide +kernel
theorem dX1_greatestMeter_18 : decode cX1_greatestMeter 18 = .ok (.iload_n 2, 1) := by decide +kernel
theorem dX1_greatestMeter_19 : decode cX1_greatestMeter 19 = .ok (.aload_n 0, 1) := by decide +kernel
theorem dX1_greatestMeter_20 : decode cX1_greatestMeter 20 = .ok (.getfield 62, 3) := by decide +kernel
theorem dX1_greatestMeter_23 : decode cX1_greatestMeter 23 = .ok (.if_icmp .ge 20, 3) := by decide +kernel
theorem dX1_greatestMeter_26 : decode cX1_greatestMeter 26 = .ok (.iload_n 1, 1) := by decide +kernel
theorem dX1_greatestMeter_27 : decode cX1_greatestMeter 27 = .ok (.aload_n 0, 1) := by decide +kernel
theorem dX1_greatestMeter_28 : decode cX1_greatestMeter 28 = .ok (.getfield 25, 3) := by decide +kernel
theorem dX1_greatestMeter_31 : decode cX1_greatestMeter 31 = .ok (.iload_n 2, 1) := by decide +kernel
theorem dX1_greatestMeter_32 : decode cX1_greatestMeter 32 = .ok (.iaload, 1) := by decide +kernel
theorem dX1_greatestMeter_33 : decode cX1_greatestMeter 33 = .ok (.invokestatic 141, 3) := by decide +kernel
theorem dX1_greatestMeter_36 : decode cX1_greatestMeter 36 = .ok (.istore_n 1, 1) := by decide +kernel
theorem dX1_greatestMeter_37 : decode cX1_greatestMeter 37 = .ok (.iinc 2 1, 3) := by decide +kernel
theorem dX1_greatestMeter_40 : decode cX1_greatestMeter 40 = .ok (.goto (-22), 3) := by decide +kernel
theorem dX1_greatestMeter_43 : decode cX1_greatestMeter 43 = .ok (.iload_n 1, 1) := by decide +kernel
theorem dX1_greatestMeter_44 : decode cX1_greatestMeter 44 = .ok (.ireturn, 1) := by decide +kernel
theorem dX1_lowestMeter_0 : decode cX1_lowestMeter 0 = .ok (.aload_n 0, 1) := by decide +kernel
theorem dX1_lowestMeter_1 : decode cX1_lowestMeter 1 = .ok (.getfield 62, 3) := by decide +kernel
theorem dX1_lowestMeter_4 : decode cX1_lowestMeter 4 = .ok (.ifCond .ne 5, 3) := by decide +kernel
theorem dX1_lowestMeter_7 : decode cX1_lowestMeter 7 = .ok (.iconst (-1), 1) := by decide +kernel
theorem dX1_lowestMeter_8 : decode cX1_lowestMeter 8 = .ok (.ireturn, 1) := by decide +kernel
theorem dX1_lowestMeter_9 : decode cX1_lowestMeter 9 = .ok (.aload_n 0, 1) := by decide +kernel
theorem dX1_lowestMeter_10 : decode cX1_lowestMeter 10 = .ok (.getfield 25, 3) := by decide +kernel
theorem dX1_lowestMeter_13 : decode cX1_lowestMeter 13 = .ok (.iconst 0, 1) := by decide +kernel
theorem dX1_lowestMeter_14 : decode cX1_lowestMeter 14 = .ok (.iaload, 1) := by decide +kernel
theorem dX1_lowestMeter_15 : decode cX1_lowestMeter 15 = .ok (.istore_n 1, 1) := by decide +kernel
theorem dX1_lowestMeter_16 : decode cX1_lowestMeter 16 = .ok (.iconst 1, 1) := by decide +kernel
theorem dX1_lowestMeter_17 : decode cX1_lowestMeter 17 = .ok (.istore_n 2, 1) := by decide +kernel
theorem dX1_lowestMeter_18 : decode cX1_lowestMeter 18 = .ok (.iload_n 2, 1) := by decide +kernel
theorem dX1_lowestMeter_19 : decode cX1_lowestMeter 19 = .ok (.aload_n 0, 1) := by decide +kernel
theorem dX1_lowestMeter_20 : decode cX1_lowestMeter 20 = .ok (.getfield 62, 3) := by decide +kernel
theorem dX1_lowestMeter_23 : decode cX1_lowestMeter 23 = .ok (.if_icmp .ge 20, 3) := by decide +kernel
theorem dX1_lowestMeter_26 : decode cX1_lowestMeter 26 = .ok (.iload_n 1, 1) := by decide +kernel
theorem dX1_lowestMeter_27 : decode cX1_lowestMeter 27 = .ok (.aload_n 0, 1) := by decide +kernel
theorem dX1_lowestMeter_28 : decode cX1_lowestMeter 28 = .ok (.getfield 25, 3) := by decide +kernel
theorem dX1_lowestMeter_31 : decode cX1_lowestMeter 31 = .ok (.iload_n 2, 1) := by decide +kernel
theorem dX1_lowestMeter_32 : decode cX1_lowestMeter 32 = .ok (.iaload, 1) := by decide +kernel
theorem dX1_lowestMeter_33 : decode cX1_lowestMeter 33 = .ok (.invokestatic 146, 3) := by decide +kernel
theorem dX1_lowestMeter_36 : decode cX1_lowestMeter 36 = .ok (.istore_n 1, 1) := by decide +kernel
theorem dX1_lowestMeter_37 : decode cX1_lowestMeter 37 = .ok (.iinc 2 1, 3) := by decide +kernel
theorem dX1_lowestMeter_40 : decode cX1_lowestMeter 40 = .ok (.goto (-22), 3) := by decide +kernel
theorem dX1_lowestMeter_43 : decode cX1_lowestMeter 43 = .ok (.iload_n 1, 1) := by decide +kernel
theorem dX1_lowestMeter_44 : decode cX1_lowestMeter 44 = .ok (.ireturn, 1) := by decide +kernel
set_option maxRecDepth 20000 in
theorem ggX1_allBids_X1_bidsFor : GoodIn wsX1_allBids wsX1_bidsFor := goodIn_r _ [6, 7, 8, 9, 10, 11, 12, 13, 14, 15, 16, 17, 18, 19, 20, 21, 22, 23, 24, 25, 26] (by decide +kernel) (by decide +kernel)
set_option maxRecDepth 20000 in
theorem gX1_allBids_X1_bidsFor : GoodIn wsX1_allBids (wsV RX1 119 RX1 yX1_bidsFor wsX1_bidsFor) := goodIn_app (goodIn_of _ (by decide +kernel)) ggX1_allBids_X1_bidsFor
theorem dX1_allBids_0 : decode cX1_allBids 0 = .ok (.iconst 0, 1) := by decide +kernel
theorem dX1_allBids_1 : decode cX1_allBids 1 = .ok (.istore_n 1, 1) := by decide +kernel
theorem dX1_allBids_2 : decode cX1_allBids 2 = .ok (.iconst 0, 1) := by decide +kernel
theorem dX1_allBids_3 : decode cX1_allBids 3 = .ok (.istore_n 2, 1) := by decide +kernel
theorem dX1_allBids_4 : decode cX1_allBids 4 = .ok (.iload_n 2, 1) := by decide +kernel
theorem dX1_allBids_5 : decode cX1_allBids 5 = .ok (.aload_n 0, 1) := by decide +kernel
theorem dX1_allBids_6 : decode cX1_allBids 6 = .ok (.getfield 65, 3) := by decide +kernel
theorem dX1_allBids_9 : decode cX1_allBids 9 = .ok (.if_icmp .ge 17, 3) := by decide +kernel
theorem dX1_allBids_12 : decode cX1_allBids 12 = .ok (.iload_n 1, 1) := by decide +kernel
theorem dX1_allBids_13 : decode cX1_allBids 13 = .ok (.aload_n 0, 1) := by decide +kernel
theorem dX1_allBids_14 : decode cX1_allBids 14 = .ok (.iload_n 2, 1) := by decide +kernel
theorem dX1_allBids_15 : decode cX1_allBids 15 = .ok (.invokevirtual 119, 3) := by decide +kernel
theorem dX1_allBids_18 : decode cX1_allBids 18 = .ok (.iadd, 1) := by decide +kernel
theorem dX1_allBids_19 : decode cX1_allBids 19 = .ok (.istore_n 1, 1) := by decide +kernel
theorem dX1_allBids_20 : decode cX1_allBids 20 = .ok (.iinc 2 1, 3) := by decide +kernel
theorem dX1_allBids_23 : decode cX1_allBids 23 = .ok (.goto (-19), 3) := by decide +kernel
theorem dX1_allBids_26 : decode cX1_allBids 26 = .ok (.iload_n 1, 1) := by decide +kernel
theorem dX1_allBids_27 : decode cX1_allBids 27 = .ok (.ireturn, 1) := by decide +kernel
theorem dX1_allPoints_0 : decode cX1_allPoints 0 = .ok (.iconst 0, 1) := by decide +kernel
theorem dX1_allPoints_1 : decode cX1_allPoints 1 = .ok (.istore_n 1, 1) := by decide +kernel
theorem dX1_allPoints_2 : decode cX1_allPoints 2 = .ok (.iconst 0, 1) := by decide +kernel
theorem dX1_allPoints_3 : decode cX1_allPoints 3 = .ok (.istore_n 2, 1) := by decide +kernel
theorem dX1_allPoints_4 : decode cX1_allPoints 4 = .ok (.iload_n 2, 1) := by decide +kernel
theorem dX1_allPoints_5 : decode cX1_allPoints 5 = .ok (.aload_n 0, 1) := by decide +kernel
theorem dX1_allPoints_6 : decode cX1_allPoints 6 = .ok (.getfield 65, 3) := by decide +kernel
theorem dX1_allPoints_9 : decode cX1_allPoints 9 = .ok (.if_icmp .ge 18, 3) := by decide +kernel
theorem dX1_allPoints_12 : decode cX1_allPoints 12 = .ok (.iload_n 1, 1) := by decide +kernel
theorem dX1_allPoints_13 : decode cX1_allPoints 13 = .ok (.aload_n 0, 1) := by decide +kernel
theorem dX1_allPoints_14 : decode cX1_allPoints 14 = .ok (.getfield 43, 3) := by decide +kernel
theorem dX1_allPoints_17 : decode cX1_allPoints 17 = .ok (.iload_n 2, 1) := by decide +kernel
theorem dX1_allPoints_18 : decode cX1_allPoints 18 = .ok (.iaload, 1) := by decide +kernel
theorem dX1_allPoints_19 : decode cX1_allPoints 19 = .ok (.iadd, 1) := by decide +kernel
theorem dX1_allPoints_20 : decode cX1_allPoints 20 = .ok (.istore_n 1, 1) := by decide +kernel
theorem dX1_allPoints_21 : decode cX1_allPoints 21 = .ok (.iinc 2 1, 3) := by decide +kernel
theorem dX1_allPoints_24 : decode cX1_allPoints 24 = .ok (.goto (-20), 3) := by decide +kernel
theorem dX1_allPoints_27 : decode cX1_allPoints 27 = .ok (.iload_n 1, 1) := by decide +kernel
theorem dX1_allPoints_28 : decode cX1_allPoints 28 = .ok (.ireturn, 1) := by decide +kernel
set_option maxRecDepth 20000 in
theorem ggX2_init_X1_init : GoodIn wsX2_init wsX1_init := goodIn_r _ [16, 17, 2, 3, 18, 19, 20, 21, 22, 23, 24, 25, 26, 27, 28, 29, 30, 31, 32, 33, 34, 35, 40, 41, 42, 43, 44, 45, 46, 47, 48, 49, 50, 51, 52, 53, 54] (by decide +kernel) (by decide +kernel)
set_option maxRecDepth 20000 in
theorem gX2_init_X1_init : GoodIn wsX2_init (wsX1_init) := ggX2_init_X1_init
set_option maxRecDepth 20000 in
theorem ggX2_init_X0_init : GoodIn wsX2_init wsX0_init := goodIn_r _ [37, 38, 2, 3, 18, 39, 60, 61, 62, 63, 64, 65, 66, 67] (by decide +kernel) (by decide +kernel)
set_option maxRecDepth 20000 in
theorem gX2_init_X0_init_n25 : GoodIn wsX2_init (wsX0_init) := ggX2_init_X0_init
theorem dX2_init_0 : decode cX2_init 0 = .ok (.aload_n 0, 1) := by decide +kernel
theorem dX2_init_1 : decode cX2_init 1 = .ok (.invokespecial 3, 3) := by decide +kernel
theorem dX2_init_4 : decode cX2_init 4 = .ok (.aload_n 0, 1) := by decide +kernel
theorem dX2_init_5 : decode cX2_init 5 = .ok (.new 9, 3) := by decide +kernel
theorem dX2_init_8 : decode cX2_init 8 = .ok (.dup, 1) := by decide +kernel
theorem dX2_init_9 : decode cX2_init 9 = .ok (.invokespecial 11, 3) := by decide +kernel
theorem dX2_init_12 : decode cX2_init 12 = .ok (.putfield 12, 3) := by decide +kernel
theorem dX2_init_15 : decode cX2_init 15 = .ok (.aload_n 0, 1) := by decide +kernel
theorem dX2_init_16 : decode cX2_init 16 = .ok (.new 9, 3) := by decide +kernel
theorem dX2_init_19 : decode cX2_init 19 = .ok (.dup, 1) := by decide +kernel
theorem dX2_init_20 : decode cX2_init 20 = .ok (.invokespecial 11, 3) := by decide +kernel
theorem dX2_init_23 : decode cX2_init 23 = .ok (.putfield 16, 3) := by decide +kernel
theorem dX2_init_26 : decode cX2_init 26 = .ok (.aload_n 0, 1) := by decide +kernel
theorem dX2_init_27 : decode cX2_init 27 = .ok (.iconst 4, 1) := by decide +kernel
theorem dX2_init_28 : decode cX2_init 28 = .ok (.anewarray 9, 3) := by decide +kernel
theorem dX2_init_31 : decode cX2_init 31 = .ok (.putfield 19, 3) := by decide +kernel
theorem dX2_init_34 : decode cX2_init 34 = .ok (.aload_n 0, 1) := by decide +kernel
theorem dX2_init_35 : decode cX2_init 35 = .ok (.new 23, 3) := by decide +kernel
theorem dX2_init_38 : decode cX2_init 38 = .ok (.dup, 1) := by decide +kernel
theorem dX2_init_39 : decode cX2_init 39 = .ok (.invokespecial 25, 3) := by decide +kernel
theorem dX2_init_42 : decode cX2_init 42 = .ok (.putfield 26, 3) := by decide +kernel
theorem dX2_init_45 : decode cX2_init 45 = .ok (.iconst 0, 1) := by decide +kernel
theorem dX2_init_46 : decode cX2_init 46 = .ok (.istore_n 1, 1) := by decide +kernel
theorem dX2_init_47 : decode cX2_init 47 = .ok (.iload_n 1, 1) := by decide +kernel
theorem dX2_init_48 : decode cX2_init 48 = .ok (.iconst 4, 1) := by decide +kernel
theorem dX2_init_49 : decode cX2_init 49 = .ok (.if_icmp .ge 22, 3) := by decide +kernel
theorem dX2_init_52 : decode cX2_init 52 = .ok (.aload_n 0, 1) := by decide +kernel
theorem dX2_init_53 : decode cX2_init 53 = .ok (.getfield 19, 3) := by decide +kernel
theorem dX2_init_56 : decode cX2_init 56 = .ok (.iload_n 1, 1) := by decide +kernel
theorem dX2_init_57 : decode cX2_init 57 = .ok (.new 9, 3) := by decide +kernel
theorem dX2_init_60 : decode cX2_init 60 = .ok (.dup, 1) := by decide +kernel
theorem dX2_init_61 : decode cX2_init 61 = .ok (.invokespecial 11, 3) := by decide +kernel
theorem dX2_init_64 : decode cX2_init 64 = .ok (.aastore, 1) := by decide +kernel
theorem dX2_init_65 : decode cX2_init 65 = .ok (.iinc 1 1, 3) := by decide +kernel
theorem dX2_init_68 : decode cX2_init 68 = .ok (.goto (-21), 3) := by decide +kernel
theorem dX2_init_71 : decode cX2_init 71 = .ok (.return_, 1) := by decide +kernel
set_option maxRecDepth 20000 in
theorem ggX2_set_X2_needInRange : GoodIn wsX2_set wsX2_needInRange := goodIn_ca (goodIn_r _ [8, 9, 10] (by decide +kernel) (by decide +kernel)) (goodIn_sub (fun _ h => List.mem_cons_of_mem _ (List.mem_append_right _ h)) (by decide +kernel))
set_option maxRecDepth 20000 in
theorem gX2_set_X2_needInRange : GoodIn wsX2_set (va_wsS RX2 30 yX2_needInRange wsX2_needInRange) := goodIn_app (goodIn_of _ (by decide +kernel)) ggX2_set_X2_needInRange
set_option maxRecDepth 20000 in
theorem ggX2_set_X2_save : GoodIn wsX2_set wsX2_save := goodIn_r _ [14, 15, 16, 3, 17, 18, 19, 7, 20, 21, 22, 23, 24, 25, 26, 27, 28, 29, 30, 31, 32, 33, 34, 35, 36, 37, 38, 39, 40, 41, 42, 43, 44, 45, 46, 47, 48, 49, 50, 51, 52, 53, 54, 55, 56, 57, 58, 59, 60, 61, 62, 63, 64] (by decide +kernel) (by decide +kernel)
set_option maxRecDepth 20000 in
theorem gX2_set_X2_save : GoodIn wsX2_set (wsV RX2 41 RX2 yX2_save wsX2_save) := goodIn_app (goodIn_of _ (by decide +kernel)) ggX2_set_X2_save
theorem dX2_set_0 : decode cX2_set 0 = .ok (.iload_n 1, 1) := by decide +kernel
theorem dX2_set_1 : decode cX2_set 1 = .ok (.iconst 0, 1) := by decide +kernel
theorem dX2_set_2 : decode cX2_set 2 = .ok (.iconst 2, 1) := by decide +kernel
theorem dX2_set_3 : decode cX2_set 3 = .ok (.invokestatic 30, 3) := by decide +kernel
theorem dX2_set_6 : decode cX2_set 6 = .ok (.iload_n 2, 1) := by decide +kernel
theorem dX2_set_7 : decode cX2_set 7 = .ok (.getstatic 34, 3) := by decide +kernel
theorem dX2_set_10 : decode cX2_set 10 = .ok (.iload_n 1, 1) := by decide +kernel
theorem dX2_set_11 : decode cX2_set 11 = .ok (.iaload, 1) := by decide +kernel
theorem dX2_set_12 : decode cX2_set 12 = .ok (.getstatic 38, 3) := by decide +kernel
theorem dX2_set_15 : decode cX2_set 15 = .ok (.iload_n 1, 1) := by decide +kernel
theorem dX2_set_16 : decode cX2_set 16 = .ok (.iaload, 1) := by decide +kernel
theorem dX2_set_17 : decode cX2_set 17 = .ok (.invokestatic 30, 3) := by decide +kernel
theorem dX2_set_20 : decode cX2_set 20 = .ok (.aload_n 0, 1) := by decide +kernel
theorem dX2_set_21 : decode cX2_set 21 = .ok (.invokevirtual 41, 3) := by decide +kernel
theorem dX2_set_24 : decode cX2_set 24 = .ok (.aload_n 0, 1) := by decide +kernel
theorem dX2_set_25 : decode cX2_set 25 = .ok (.getfield 12, 3) := by decide +kernel
theorem dX2_set_28 : decode cX2_set 28 = .ok (.getfield 44, 3) := by decide +kernel
theorem dX2_set_31 : decode cX2_set 31 = .ok (.iload_n 1, 1) := by decide +kernel
theorem dX2_set_32 : decode cX2_set 32 = .ok (.iaload, 1) := by decide +kernel
theorem dX2_set_33 : decode cX2_set 33 = .ok (.istore_n 3, 1) := by decide +kernel
theorem dX2_set_34 : decode cX2_set 34 = .ok (.aload_n 0, 1) := by decide +kernel
theorem dX2_set_35 : decode cX2_set 35 = .ok (.getfield 12, 3) := by decide +kernel
theorem dX2_set_38 : decode cX2_set 38 = .ok (.getfield 44, 3) := by decide +kernel
theorem dX2_set_41 : decode cX2_set 41 = .ok (.iload_n 1, 1) := by decide +kernel
theorem dX2_set_42 : decode cX2_set 42 = .ok (.iload_n 2, 1) := by decide +kernel
theorem dX2_set_43 : decode cX2_set 43 = .ok (.iastore, 1) := by decide +kernel
theorem dX2_set_44 : decode cX2_set 44 = .ok (.iload_n 3, 1) := by decide +kernel
theorem dX2_set_45 : decode cX2_set 45 = .ok (.ireturn, 1) := by decide +kernel
set_option maxRecDepth 20000 in
theorem ggX2_addPerson_X2_needAllowed : GoodIn wsX2_addPerson wsX2_needAllowed := goodIn_ca (goodIn_r _ [9, 10, 11] (by decide +kernel) (by decide +kernel)) (goodIn_sub (fun _ h => List.mem_cons_of_mem _ (List.mem_append_right _ h)) (by decide +kernel))
set_option maxRecDepth 20000 in
theorem gX2_addPerson_X2_needAllowed : GoodIn wsX2_addPerson (va_wsS RX2 60 yX2_needAllowed wsX2_needAllowed) := goodIn_app (goodIn_of _ (by decide +kernel)) ggX2_addPerson_X2_needAllowed
set_option maxRecDepth 20000 in
theorem ggX2_addPerson_X2_save : GoodIn wsX2_addPerson wsX2_save := goodIn_r _ [15, 16, 17, 4, 18, 19, 20, 8, 21, 22, 23, 24, 25, 26, 27, 28, 29, 30, 31, 32, 33, 34, 35, 36, 37, 38, 39, 40, 41, 42, 43, 44, 45, 50, 51, 52, 53, 54, 55, 56, 57, 58, 59, 60, 61, 62, 63, 64, 65, 66, 67, 68, 69] (by decide +kernel) (by decide +kernel)
set_option maxRecDepth 20000 in
theorem gX2_addPerson_X2_save : GoodIn wsX2_addPerson (wsV RX2 41 RX2 yX2_save wsX2_save) := goodIn_app (goodIn_of _ (by decide +kernel)) ggX2_addPerson_X2_save
set_option maxRecDepth 20000 in
theorem ggX2_addPerson_X1_enterPerson : GoodIn wsX2_addPerson wsX1_enterPerson := goodIn_r _ [49, 33, 34, 35, 36, 37, 38, 55, 56, 57, 58, 59, 60, 61, 62, 63, 64, 65, 66, 67, 68, 69] (by decide +kernel) (by decide +kernel)
set_option maxRecDepth 20000 in
theorem gX2_addPerson_X1_enterPerson : GoodIn wsX2_addPerson (wsV RX2 64 RX1 yX1_enterPerson wsX1_enterPerson) := goodIn_app (goodIn_of _ (by decide +kernel)) ggX2_addPerson_X1_enterPerson
theorem dX2_addPerson_0 : decode cX2_addPerson 0 = .ok (.lload_n 1, 1) := by decide +kernel
theorem dX2_addPerson_1 : decode cX2_addPerson 1 = .ok (.lconst 0, 1) := by decide +kernel
theorem dX2_addPerson_2 : decode cX2_addPerson 2 = .ok (.lcmp, 1) := by decide +kernel
theorem dX2_addPerson_3 : decode cX2_addPerson 3 = .ok (.ifCond .lt 11, 3) := by decide +kernel
theorem dX2_addPerson_6 : decode cX2_addPerson 6 = .ok (.lload_n 1, 1) := by decide +kernel
theorem dX2_addPerson_7 : decode cX2_addPerson 7 = .ok (.ldc2_w 47, 3) := by decide +kernel
theorem dX2_addPerson_10 : decode cX2_addPerson 10 = .ok (.lcmp, 1) := by decide +kernel
theorem dX2_addPerson_11 : decode cX2_addPerson 11 = .ok (.ifCond .le 13, 3) := by decide +kernel
theorem dX2_addPerson_14 : decode cX2_addPerson 14 = .ok (.new 49, 3) := by decide +kernel
theorem dX2_addPerson_17 : decode cX2_addPerson 17 = .ok (.dup, 1) := by decide +kernel
theorem dX2_addPerson_18 : decode cX2_addPerson 18 = .ok (.ldc 51, 2) := by decide +kernel
theorem dX2_addPerson_20 : decode cX2_addPerson 20 = .ok (.invokespecial 53, 3) := by decide +kernel
theorem dX2_addPerson_23 : decode cX2_addPerson 23 = .ok (.athrow, 1) := by decide +kernel
theorem dX2_addPerson_24 : decode cX2_addPerson 24 = .ok (.aload_n 0, 1) := by decide +kernel
theorem dX2_addPerson_25 : decode cX2_addPerson 25 = .ok (.getfield 12, 3) := by decide +kernel
theorem dX2_addPerson_28 : decode cX2_addPerson 28 = .ok (.getfield 56, 3) := by decide +kernel
theorem dX2_addPerson_31 : decode cX2_addPerson 31 = .ok (.bipush 8, 2) := by decide +kernel
theorem dX2_addPerson_33 : decode cX2_addPerson 33 = .ok (.if_icmp .ge 7, 3) := by decide +kernel
theorem dX2_addPerson_36 : decode cX2_addPerson 36 = .ok (.iconst 1, 1) := by decide +kernel
theorem dX2_addPerson_37 : decode cX2_addPerson 37 = .ok (.goto 4, 3) := by decide +kernel
theorem dX2_addPerson_40 : decode cX2_addPerson 40 = .ok (.iconst 0, 1) := by decide +kernel
theorem dX2_addPerson_41 : decode cX2_addPerson 41 = .ok (.invokestatic 60, 3) := by decide +kernel
theorem dX2_addPerson_44 : decode cX2_addPerson 44 = .ok (.aload_n 0, 1) := by decide +kernel
theorem dX2_addPerson_45 : decode cX2_addPerson 45 = .ok (.invokevirtual 41, 3) := by decide +kernel
theorem dX2_addPerson_48 : decode cX2_addPerson 48 = .ok (.aload_n 0, 1) := by decide +kernel
theorem dX2_addPerson_49 : decode cX2_addPerson 49 = .ok (.getfield 12, 3) := by decide +kernel
theorem dX2_addPerson_52 : decode cX2_addPerson 52 = .ok (.lload_n 1, 1) := by decide +kernel
theorem dX2_addPerson_53 : decode cX2_addPerson 53 = .ok (.invokevirtual 64, 3) := by decide +kernel
theorem dX2_addPerson_56 : decode cX2_addPerson 56 = .ok (.ireturn, 1) := by decide +kernel
set_option maxRecDepth 20000 in
theorem ggX2_roster_X2_needPerson : GoodIn wsX2_roster wsX2_needPerson := goodIn_ca (goodIn_r _ [7, 8, 9, 1, 10, 11, 12, 13, 14, 15, 69, 70, 71, 72, 73, 74, 75, 76, 77, 78, 79, 80, 81, 82, 83, 84, 85, 86, 87, 88] (by decide +kernel) (by decide +kernel)) (goodIn_sub (fun _ h => List.mem_cons_of_mem _ (List.mem_append_left _ (List.mem_append_left _ (List.mem_append_right _ h)))) (by decide +kernel))
set_option maxRecDepth 20000 in
theorem gX2_roster_X2_needPerson : GoodIn wsX2_roster (wsV RX2 68 RX2 yX2_needPerson wsX2_needPerson) := goodIn_app (goodIn_of _ (by decide +kernel)) ggX2_roster_X2_needPerson
set_option maxRecDepth 20000 in
theorem ggX2_roster_X2_needInRange : GoodIn wsX2_roster wsX2_needInRange := goodIn_ca (goodIn_r _ [18, 19, 20] (by decide +kernel) (by decide +kernel)) (goodIn_sub (fun _ h => List.mem_cons_of_mem _ (List.mem_append_left _ (List.mem_append_right _ h))) (by decide +kernel))
set_option maxRecDepth 20000 in
theorem gX2_roster_X2_needInRange : GoodIn wsX2_roster (va_wsS RX2 30 yX2_needInRange wsX2_needInRange) := goodIn_app (goodIn_of _ (by decide +kernel)) ggX2_roster_X2_needInRange
set_option maxRecDepth 20000 in
theorem ggX2_roster_X1_canChangeRoster : GoodIn wsX2_roster wsX1_canChangeRoster := goodIn_r _ [24, 25, 26, 27, 74, 75, 76, 77, 78, 79, 80, 81, 82, 83, 84, 85, 86, 87, 88] (by decide +kernel) (by decide +kernel)
set_option maxRecDepth 20000 in
theorem gX2_roster_X1_canChangeRoster : GoodIn wsX2_roster (wsV RX2 72 RX1 yX1_canChangeRoster wsX1_canChangeRoster) := goodIn_app (goodIn_of _ (by decide +kernel)) ggX2_roster_X1_canChangeRoster
set_option maxRecDepth 20000 in
theorem ggX2_roster_X2_needAllowed : GoodIn wsX2_roster wsX2_needAllowed := goodIn_ca (goodIn_r _ [30, 31, 32] (by decide +kernel) (by decide +kernel)) (goodIn_sub (fun _ h => List.mem_cons_of_mem _ (List.mem_append_right _ h)) (by decide +kernel))
set_option maxRecDepth 20000 in
theorem gX2_roster_X2_needAllowed : GoodIn wsX2_roster (va_wsS RX2 60 yX2_needAllowed wsX2_needAllowed) := goodIn_app (goodIn_of _ (by decide +kernel)) ggX2_roster_X2_needAllowed
set_option maxRecDepth 20000 in
theorem ggX2_roster_X2_save : GoodIn wsX2_roster wsX2_save := goodIn_r _ [36, 37, 38, 1, 39, 40, 41, 6, 42, 43, 44, 45, 13, 46, 47, 48, 49, 50, 51, 52, 15, 25, 26, 27, 53, 54, 55, 56, 57, 58, 59, 60, 61, 69, 70, 71, 72, 73, 74, 75, 76, 77, 78, 79, 80, 81, 82, 83, 84, 85, 86, 87, 88] (by decide +kernel) (by decide +kernel)
set_option maxRecDepth 20000 in
theorem gX2_roster_X2_save : GoodIn wsX2_roster (wsV RX2 41 RX2 yX2_save wsX2_save) := goodIn_app (goodIn_of _ (by decide +kernel)) ggX2_roster_X2_save
set_option maxRecDepth 20000 in
theorem ggX2_roster_J13_bitCount_95d88 : GoodIn wsX2_roster wsJ13_bitCount_95d88 := goodIn_r _ [65, 66, 67, 68] (by decide +kernel) (by decide +kernel)
set_option maxRecDepth 20000 in
theorem gX2_roster_J13_bitCount_95d88 : GoodIn wsX2_roster (va_wsS RX2 80 yJ13_bitCount_95d88 wsJ13_bitCount_95d88) := goodIn_app (goodIn_of _ (by decide +kernel)) ggX2_roster_J13_bitCount_95d88
theorem dX2_roster_0 : decode cX2_roster 0 = .ok (.aload_n 0, 1) := by decide +kernel
theorem dX2_roster_1 : decode cX2_roster 1 = .ok (.iload_n 1, 1) := by decide +kernel
theorem dX2_roster_2 : decode cX2_roster 2 = .ok (.invokevirtual 68, 3) := by decide +kernel
theorem dX2_roster_5 : decode cX2_roster 5 = .ok (.iload_n 2, 1) := by decide +kernel
theorem dX2_roster_6 : decode cX2_roster 6 = .ok (.iconst 0, 1) := by decide +kernel
theorem dX2_roster_7 : decode cX2_roster 7 = .ok (.bipush 41, 2) := by decide +kernel
theorem dX2_roster_9 : decode cX2_roster 9 = .ok (.invokestatic 30, 3) := by decide +kernel
theorem dX2_roster_12 : decode cX2_roster 12 = .ok (.aload_n 0, 1) := by decide +kernel
theorem dX2_roster_13 : decode cX2_roster 13 = .ok (.getfield 12, 3) := by decide +kernel
theorem dX2_roster_16 : decode cX2_roster 16 = .ok (.iload_n 1, 1) := by decide +kernel
theorem dX2_roster_17 : decode cX2_roster 17 = .ok (.iload_n 2, 1) := by decide +kernel
theorem dX2_roster_18 : decode cX2_roster 18 = .ok (.iload_n 3, 1) := by decide +kernel
theorem dX2_roster_19 : decode cX2_roster 19 = .ok (.invokevirtual 72, 3) := by decide +kernel
theorem dX2_roster_22 : decode cX2_roster 22 = .ok (.invokestatic 60, 3) := by decide +kernel
theorem dX2_roster_25 : decode cX2_roster 25 = .ok (.aload_n 0, 1) := by decide +kernel
theorem dX2_roster_26 : decode cX2_roster 26 = .ok (.invokevirtual 41, 3) := by decide +kernel
theorem dX2_roster_29 : decode cX2_roster 29 = .ok (.aload_n 0, 1) := by decide +kernel
theorem dX2_roster_30 : decode cX2_roster 30 = .ok (.getfield 12, 3) := by decide +kernel
theorem dX2_roster_33 : decode cX2_roster 33 = .ok (.getfield 76, 3) := by decide +kernel
theorem dX2_roster_36 : decode cX2_roster 36 = .ok (.iload_n 1, 1) := by decide +kernel
theorem dX2_roster_37 : decode cX2_roster 37 = .ok (.dup2, 1) := by decide +kernel
theorem dX2_roster_38 : decode cX2_roster 38 = .ok (.laload, 1) := by decide +kernel
theorem dX2_roster_39 : decode cX2_roster 39 = .ok (.lconst 1, 1) := by decide +kernel
theorem dX2_roster_40 : decode cX2_roster 40 = .ok (.iload_n 2, 1) := by decide +kernel
theorem dX2_roster_41 : decode cX2_roster 41 = .ok (.lshl, 1) := by decide +kernel
theorem dX2_roster_42 : decode cX2_roster 42 = .ok (.lxor, 1) := by decide +kernel
theorem dX2_roster_43 : decode cX2_roster 43 = .ok (.lastore, 1) := by decide +kernel
theorem dX2_roster_44 : decode cX2_roster 44 = .ok (.aload_n 0, 1) := by decide +kernel
theorem dX2_roster_45 : decode cX2_roster 45 = .ok (.getfield 12, 3) := by decide +kernel
theorem dX2_roster_48 : decode cX2_roster 48 = .ok (.getfield 76, 3) := by decide +kernel
theorem dX2_roster_51 : decode cX2_roster 51 = .ok (.iload_n 1, 1) := by decide +kernel
theorem dX2_roster_52 : decode cX2_roster 52 = .ok (.laload, 1) := by decide +kernel
theorem dX2_roster_53 : decode cX2_roster 53 = .ok (.invokestatic 80, 3) := by decide +kernel
theorem dX2_roster_56 : decode cX2_roster 56 = .ok (.ireturn, 1) := by decide +kernel
set_option maxRecDepth 20000 in
theorem ggX2_absent_X2_needPerson : GoodIn wsX2_absent wsX2_needPerson := goodIn_ca (goodIn_r _ [6, 7, 8, 1, 9, 10, 11, 12, 13, 14, 72, 73, 74, 75, 76, 77, 78, 79, 80, 81, 82, 83, 84, 85, 86, 87, 88, 89, 90, 91] (by decide +kernel) (by decide +kernel)) (goodIn_sub (fun _ h => List.mem_cons_of_mem _ (List.mem_append_left _ (List.mem_append_left _ (List.mem_append_right _ h)))) (by decide +kernel))
set_option maxRecDepth 20000 in
theorem gX2_absent_X2_needPerson : GoodIn wsX2_absent (wsV RX2 68 RX2 yX2_needPerson wsX2_needPerson) := goodIn_app (goodIn_of _ (by decide +kernel)) ggX2_absent_X2_needPerson
set_option maxRecDepth 20000 in
theorem ggX2_absent_X2_needInRange : GoodIn wsX2_absent wsX2_needInRange := goodIn_ca (goodIn_r _ [17, 18, 19] (by decide +kernel) (by decide +kernel)) (goodIn_sub (fun _ h => List.mem_cons_of_mem _ (List.mem_append_left _ (List.mem_append_right _ h))) (by decide +kernel))
set_option maxRecDepth 20000 in
theorem gX2_absent_X2_needInRange : GoodIn wsX2_absent (va_wsS RX2 30 yX2_needInRange wsX2_needInRange) := goodIn_app (goodIn_of _ (by decide +kernel)) ggX2_absent_X2_needInRange
set_option maxRecDepth 20000 in
theorem ggX2_absent_X1_canBeAbsent : GoodIn wsX2_absent wsX1_canBeAbsent := goodIn_r _ [23, 24, 25, 26, 27, 77, 78, 79, 80, 81, 82, 83, 84, 85, 86, 87, 88, 89, 90, 91] (by decide +kernel) (by decide +kernel)
set_option maxRecDepth 20000 in
theorem gX2_absent_X1_canBeAbsent : GoodIn wsX2_absent (wsV RX2 85 RX1 yX1_canBeAbsent wsX1_canBeAbsent) := goodIn_app (goodIn_of _ (by decide +kernel)) ggX2_absent_X1_canBeAbsent
set_option maxRecDepth 20000 in
theorem ggX2_absent_X2_needAllowed : GoodIn wsX2_absent wsX2_needAllowed := goodIn_ca (goodIn_r _ [30, 31, 32] (by decide +kernel) (by decide +kernel)) (goodIn_sub (fun _ h => List.mem_cons_of_mem _ (List.mem_append_right _ h)) (by decide +kernel))
set_option maxRecDepth 20000 in
theorem gX2_absent_X2_needAllowed : GoodIn wsX2_absent (va_wsS RX2 60 yX2_needAllowed wsX2_needAllowed) := goodIn_app (goodIn_of _ (by decide +kernel)) ggX2_absent_X2_needAllowed
set_option maxRecDepth 20000 in
theorem ggX2_absent_X2_save : GoodIn wsX2_absent wsX2_save := goodIn_r _ [36, 37, 38, 1, 39, 40, 41, 5, 42, 43, 44, 45, 12, 46, 47, 48, 49, 50, 51, 52, 14, 24, 25, 53, 54, 55, 27, 56, 57, 58, 59, 60, 61, 72, 73, 74, 75, 76, 77, 78, 79, 80, 81, 82, 83, 84, 85, 86, 87, 88, 89, 90, 91] (by decide +kernel) (by decide +kernel)
set_option maxRecDepth 20000 in
theorem gX2_absent_X2_save : GoodIn wsX2_absent (wsV RX2 41 RX2 yX2_save wsX2_save) := goodIn_app (goodIn_of _ (by decide +kernel)) ggX2_absent_X2_save
set_option maxRecDepth 20000 in
theorem ggX2_absent_X1_enterAbsence : GoodIn wsX2_absent wsX1_enterAbsence := goodIn_r _ [65, 27, 56, 57, 58, 59, 60, 25, 66, 67, 68, 12, 69, 61, 70, 5, 71, 77, 78, 79, 80, 81, 82, 83, 84, 85, 86, 87, 88, 89, 90, 91] (by decide +kernel) (by decide +kernel)
set_option maxRecDepth 20000 in
theorem gX2_absent_X1_enterAbsence : GoodIn wsX2_absent (wsV RX2 89 RX1 yX1_enterAbsence wsX1_enterAbsence) := goodIn_app (goodIn_of _ (by decide +kernel)) ggX2_absent_X1_enterAbsence
theorem dX2_absent_0 : decode cX2_absent 0 = .ok (.aload_n 0, 1) := by decide +kernel
theorem dX2_absent_1 : decode cX2_absent 1 = .ok (.iload_n 1, 1) := by decide +kernel
theorem dX2_absent_2 : decode cX2_absent 2 = .ok (.invokevirtual 68, 3) := by decide +kernel
theorem dX2_absent_5 : decode cX2_absent 5 = .ok (.iload_n 2, 1) := by decide +kernel
theorem dX2_absent_6 : decode cX2_absent 6 = .ok (.iconst 0, 1) := by decide +kernel
theorem dX2_absent_7 : decode cX2_absent 7 = .ok (.bipush 41, 2) := by decide +kernel
theorem dX2_absent_9 : decode cX2_absent 9 = .ok (.invokestatic 30, 3) := by decide +kernel
theorem dX2_absent_12 : decode cX2_absent 12 = .ok (.aload_n 0, 1) := by decide +kernel
theorem dX2_absent_13 : decode cX2_absent 13 = .ok (.getfield 12, 3) := by decide +kernel
theorem dX2_absent_16 : decode cX2_absent 16 = .ok (.iload_n 1, 1) := by decide +kernel
theorem dX2_absent_17 : decode cX2_absent 17 = .ok (.iload_n 2, 1) := by decide +kernel
theorem dX2_absent_18 : decode cX2_absent 18 = .ok (.invokevirtual 85, 3) := by decide +kernel
theorem dX2_absent_21 : decode cX2_absent 21 = .ok (.invokestatic 60, 3) := by decide +kernel
theorem dX2_absent_24 : decode cX2_absent 24 = .ok (.aload_n 0, 1) := by decide +kernel
theorem dX2_absent_25 : decode cX2_absent 25 = .ok (.invokevirtual 41, 3) := by decide +kernel
theorem dX2_absent_28 : decode cX2_absent 28 = .ok (.aload_n 0, 1) := by decide +kernel
theorem dX2_absent_29 : decode cX2_absent 29 = .ok (.getfield 12, 3) := by decide +kernel
theorem dX2_absent_32 : decode cX2_absent 32 = .ok (.iload_n 1, 1) := by decide +kernel
theorem dX2_absent_33 : decode cX2_absent 33 = .ok (.iload_n 2, 1) := by decide +kernel
theorem dX2_absent_34 : decode cX2_absent 34 = .ok (.invokevirtual 89, 3) := by decide +kernel
theorem dX2_absent_37 : decode cX2_absent 37 = .ok (.ireturn, 1) := by decide +kernel
set_option maxRecDepth 20000 in
theorem ggX2_bid_X2_needPerson : GoodIn wsX2_bid wsX2_needPerson := goodIn_ca (goodIn_r _ [8, 9, 10, 1, 11, 12, 13, 14, 15, 16, 78, 79, 80, 81, 82, 83, 84, 85, 86, 87, 88, 89, 90, 91, 92, 93, 94, 95, 96, 97] (by decide +kernel) (by decide +kernel)) (goodIn_sub (fun _ h => List.mem_cons_of_mem _ (List.mem_append_left _ (List.mem_append_left _ (List.mem_append_right _ h)))) (by decide +kernel))
set_option maxRecDepth 20000 in
theorem gX2_bid_X2_needPerson : GoodIn wsX2_bid (wsV RX2 68 RX2 yX2_needPerson wsX2_needPerson) := goodIn_app (goodIn_of _ (by decide +kernel)) ggX2_bid_X2_needPerson
set_option maxRecDepth 20000 in
theorem ggX2_bid_X2_needAbsence : GoodIn wsX2_bid wsX2_needAbsence := goodIn_ca (goodIn_r _ [20, 9, 10, 1, 21, 22, 23, 14, 24, 25, 78, 79, 80, 81, 82, 83, 84, 85, 86, 87, 88, 89, 90, 91, 92, 93, 94, 95, 96, 97] (by decide +kernel) (by decide +kernel)) (goodIn_sub (fun _ h => List.mem_cons_of_mem _ (List.mem_append_left _ (List.mem_append_left _ (List.mem_append_right _ h)))) (by decide +kernel))
set_option maxRecDepth 20000 in
theorem gX2_bid_X2_needAbsence : GoodIn wsX2_bid (wsV RX2 93 RX2 yX2_needAbsence wsX2_needAbsence) := goodIn_app (goodIn_of _ (by decide +kernel)) ggX2_bid_X2_needAbsence
set_option maxRecDepth 20000 in
theorem ggX2_bid_X2_needInRange : GoodIn wsX2_bid wsX2_needInRange := goodIn_ca (goodIn_r _ [28, 29, 30] (by decide +kernel) (by decide +kernel)) (goodIn_sub (fun _ h => List.mem_cons_of_mem _ (List.mem_append_left _ (List.mem_append_right _ h))) (by decide +kernel))
set_option maxRecDepth 20000 in
theorem gX2_bid_X2_needInRange : GoodIn wsX2_bid (va_wsS RX2 30 yX2_needInRange wsX2_needInRange) := goodIn_app (goodIn_of _ (by decide +kernel)) ggX2_bid_X2_needInRange
set_option maxRecDepth 20000 in
theorem ggX2_bid_X1_canBid : GoodIn wsX2_bid wsX1_canBid := goodIn_r _ [34, 35, 36, 83, 84, 85, 86, 87, 88, 89, 90, 91, 92, 93, 94, 95, 96, 97] (by decide +kernel) (by decide +kernel)
set_option maxRecDepth 20000 in
theorem gX2_bid_X1_canBid : GoodIn wsX2_bid (wsV RX2 96 RX1 yX1_canBid wsX1_canBid) := goodIn_app (goodIn_of _ (by decide +kernel)) ggX2_bid_X1_canBid
set_option maxRecDepth 20000 in
theorem ggX2_bid_X2_needAllowed : GoodIn wsX2_bid wsX2_needAllowed := goodIn_ca (goodIn_r _ [39, 40, 41] (by decide +kernel) (by decide +kernel)) (goodIn_sub (fun _ h => List.mem_cons_of_mem _ (List.mem_append_right _ h)) (by decide +kernel))
set_option maxRecDepth 20000 in
theorem gX2_bid_X2_needAllowed : GoodIn wsX2_bid (va_wsS RX2 60 yX2_needAllowed wsX2_needAllowed) := goodIn_app (goodIn_of _ (by decide +kernel)) ggX2_bid_X2_needAllowed
set_option maxRecDepth 20000 in
theorem ggX2_bid_X2_save : GoodIn wsX2_bid wsX2_save := goodIn_r _ [45, 46, 47, 1, 48, 49, 50, 7, 51, 52, 53, 54, 14, 55, 56, 57, 58, 59, 60, 61, 16, 62, 63, 64, 65, 66, 25, 36, 67, 35, 68, 69, 70, 78, 79, 80, 81, 82, 83, 84, 85, 86, 87, 88, 89, 90, 91, 92, 93, 94, 95, 96, 97] (by decide +kernel) (by decide +kernel)
set_option maxRecDepth 20000 in
theorem gX2_bid_X2_save : GoodIn wsX2_bid (wsV RX2 41 RX2 yX2_save wsX2_save) := goodIn_app (goodIn_of _ (by decide +kernel)) ggX2_bid_X2_save
set_option maxRecDepth 20000 in
theorem ggX2_bid_X2_bidIndex : GoodIn wsX2_bid wsX2_bidIndex := goodIn_r _ [73] (by decide +kernel) (by decide +kernel)
set_option maxRecDepth 20000 in
theorem gX2_bid_X2_bidIndex : GoodIn wsX2_bid (va_wsS RX2 102 yX2_bidIndex wsX2_bidIndex) := goodIn_app (goodIn_of _ (by decide +kernel)) ggX2_bid_X2_bidIndex
set_option maxRecDepth 20000 in
theorem ggX2_bid_X1_bidsFor : GoodIn wsX2_bid wsX1_bidsFor := goodIn_r _ [77, 16, 70, 72, 7, 73, 83, 84, 85, 86, 87, 88, 89, 90, 91, 92, 93, 94, 95, 96, 97] (by decide +kernel) (by decide +kernel)
set_option maxRecDepth 20000 in
theorem gX2_bid_X1_bidsFor : GoodIn wsX2_bid (wsV RX2 105 RX1 yX1_bidsFor wsX1_bidsFor) := goodIn_app (goodIn_of _ (by decide +kernel)) ggX2_bid_X1_bidsFor
theorem dX2_bid_0 : decode cX2_bid 0 = .ok (.aload_n 0, 1) := by decide +kernel
theorem dX2_bid_1 : decode cX2_bid 1 = .ok (.iload_n 1, 1) := by decide +kernel
theorem dX2_bid_2 : decode cX2_bid 2 = .ok (.invokevirtual 68, 3) := by decide +kernel
theorem dX2_bid_5 : decode cX2_bid 5 = .ok (.aload_n 0, 1) := by decide +kernel
theorem dX2_bid_6 : decode cX2_bid 6 = .ok (.iload_n 2, 1) := by decide +kernel
theorem dX2_bid_7 : decode cX2_bid 7 = .ok (.invokevirtual 93, 3) := by decide +kernel
theorem dX2_bid_10 : decode cX2_bid 10 = .ok (.iload_n 3, 1) := by decide +kernel
theorem dX2_bid_11 : decode cX2_bid 11 = .ok (.iconst 0, 1) := by decide +kernel
theorem dX2_bid_12 : decode cX2_bid 12 = .ok (.aload_n 0, 1) := by decide +kernel
theorem dX2_bid_13 : decode cX2_bid 13 = .ok (.getfield 12, 3) := by decide +kernel
theorem dX2_bid_16 : decode cX2_bid 16 = .ok (.getfield 44, 3) := by decide +kernel
theorem dX2_bid_19 : decode cX2_bid 19 = .ok (.iconst 2, 1) := by decide +kernel
theorem dX2_bid_20 : decode cX2_bid 20 = .ok (.iaload, 1) := by decide +kernel
theorem dX2_bid_21 : decode cX2_bid 21 = .ok (.invokestatic 30, 3) := by decide +kernel
theorem dX2_bid_24 : decode cX2_bid 24 = .ok (.aload_n 0, 1) := by decide +kernel
theorem dX2_bid_25 : decode cX2_bid 25 = .ok (.getfield 12, 3) := by decide +kernel
theorem dX2_bid_28 : decode cX2_bid 28 = .ok (.iload_n 1, 1) := by decide +kernel
theorem dX2_bid_29 : decode cX2_bid 29 = .ok (.iload_n 2, 1) := by decide +kernel
theorem dX2_bid_30 : decode cX2_bid 30 = .ok (.invokevirtual 96, 3) := by decide +kernel
theorem dX2_bid_33 : decode cX2_bid 33 = .ok (.invokestatic 60, 3) := by decide +kernel
theorem dX2_bid_36 : decode cX2_bid 36 = .ok (.aload_n 0, 1) := by decide +kernel
theorem dX2_bid_37 : decode cX2_bid 37 = .ok (.invokevirtual 41, 3) := by decide +kernel
theorem dX2_bid_40 : decode cX2_bid 40 = .ok (.aload_n 0, 1) := by decide +kernel
theorem dX2_bid_41 : decode cX2_bid 41 = .ok (.getfield 12, 3) := by decide +kernel
theorem dX2_bid_44 : decode cX2_bid 44 = .ok (.getfield 99, 3) := by decide +kernel
theorem dX2_bid_47 : decode cX2_bid 47 = .ok (.iload_n 1, 1) := by decide +kernel
theorem dX2_bid_48 : decode cX2_bid 48 = .ok (.iload_n 2, 1) := by decide +kernel
theorem dX2_bid_49 : decode cX2_bid 49 = .ok (.invokestatic 102, 3) := by decide +kernel
theorem dX2_bid_52 : decode cX2_bid 52 = .ok (.iload_n 3, 1) := by decide +kernel
theorem dX2_bid_53 : decode cX2_bid 53 = .ok (.iastore, 1) := by decide +kernel
theorem dX2_bid_54 : decode cX2_bid 54 = .ok (.aload_n 0, 1) := by decide +kernel
theorem dX2_bid_55 : decode cX2_bid 55 = .ok (.getfield 12, 3) := by decide +kernel
theorem dX2_bid_58 : decode cX2_bid 58 = .ok (.iload_n 2, 1) := by decide +kernel
theorem dX2_bid_59 : decode cX2_bid 59 = .ok (.invokevirtual 105, 3) := by decide +kernel
theorem dX2_bid_62 : decode cX2_bid 62 = .ok (.ireturn, 1) := by decide +kernel
set_option maxRecDepth 20000 in
theorem ggX2_takeBack_X2_needPerson : GoodIn wsX2_takeBack wsX2_needPerson := goodIn_ca (goodIn_r _ [7, 8, 9, 1, 10, 11, 12, 13, 14, 15, 64, 65, 66, 67, 68, 69, 70, 71, 72, 73, 74, 75, 76, 77, 78, 79, 80, 81, 82, 83] (by decide +kernel) (by decide +kernel)) (goodIn_sub (fun _ h => List.mem_cons_of_mem _ (List.mem_append_left _ (List.mem_append_right _ h))) (by decide +kernel))
set_option maxRecDepth 20000 in
theorem gX2_takeBack_X2_needPerson : GoodIn wsX2_takeBack (wsV RX2 68 RX2 yX2_needPerson wsX2_needPerson) := goodIn_app (goodIn_of _ (by decide +kernel)) ggX2_takeBack_X2_needPerson
set_option maxRecDepth 20000 in
theorem ggX2_takeBack_X2_needAbsence : GoodIn wsX2_takeBack wsX2_needAbsence := goodIn_ca (goodIn_r _ [19, 8, 9, 1, 20, 21, 22, 13, 23, 24, 64, 65, 66, 67, 68, 69, 70, 71, 72, 73, 74, 75, 76, 77, 78, 79, 80, 81, 82, 83] (by decide +kernel) (by decide +kernel)) (goodIn_sub (fun _ h => List.mem_cons_of_mem _ (List.mem_append_left _ (List.mem_append_right _ h))) (by decide +kernel))
set_option maxRecDepth 20000 in
theorem gX2_takeBack_X2_needAbsence : GoodIn wsX2_takeBack (wsV RX2 93 RX2 yX2_needAbsence wsX2_needAbsence) := goodIn_app (goodIn_of _ (by decide +kernel)) ggX2_takeBack_X2_needAbsence
set_option maxRecDepth 20000 in
theorem ggX2_takeBack_X2_bidIndex : GoodIn wsX2_takeBack wsX2_bidIndex := goodIn_r _ [27] (by decide +kernel) (by decide +kernel)
set_option maxRecDepth 20000 in
theorem gX2_takeBack_X2_bidIndex : GoodIn wsX2_takeBack (va_wsS RX2 102 yX2_bidIndex wsX2_bidIndex) := goodIn_app (goodIn_of _ (by decide +kernel)) ggX2_takeBack_X2_bidIndex
set_option maxRecDepth 20000 in
theorem ggX2_takeBack_X2_needAllowed : GoodIn wsX2_takeBack wsX2_needAllowed := goodIn_ca (goodIn_r _ [30, 31, 32] (by decide +kernel) (by decide +kernel)) (goodIn_sub (fun _ h => List.mem_cons_of_mem _ (List.mem_append_right _ h)) (by decide +kernel))
set_option maxRecDepth 20000 in
theorem gX2_takeBack_X2_needAllowed : GoodIn wsX2_takeBack (va_wsS RX2 60 yX2_needAllowed wsX2_needAllowed) := goodIn_app (goodIn_of _ (by decide +kernel)) ggX2_takeBack_X2_needAllowed
set_option maxRecDepth 20000 in
theorem ggX2_takeBack_X2_save : GoodIn wsX2_takeBack wsX2_save := goodIn_r _ [36, 37, 38, 1, 39, 40, 41, 6, 42, 43, 44, 45, 13, 46, 47, 48, 49, 50, 51, 52, 15, 53, 54, 55, 56, 57, 24, 58, 59, 60, 61, 62, 63, 64, 65, 66, 67, 68, 69, 70, 71, 72, 73, 74, 75, 76, 77, 78, 79, 80, 81, 82, 83] (by decide +kernel) (by decide +kernel)
set_option maxRecDepth 20000 in
theorem gX2_takeBack_X2_save : GoodIn wsX2_takeBack (wsV RX2 41 RX2 yX2_save wsX2_save) := goodIn_app (goodIn_of _ (by decide +kernel)) ggX2_takeBack_X2_save
theorem dX2_takeBack_0 : decode cX2_takeBack 0 = .ok (.aload_n 0, 1) := by decide +kernel
theorem dX2_takeBack_1 : decode cX2_takeBack 1 = .ok (.iload_n 1, 1) := by decide +kernel
theorem dX2_takeBack_2 : decode cX2_takeBack 2 = .ok (.invokevirtual 68, 3) := by decide +kernel
theorem dX2_takeBack_5 : decode cX2_takeBack 5 = .ok (.aload_n 0, 1) := by decide +kernel
theorem dX2_takeBack_6 : decode cX2_takeBack 6 = .ok (.iload_n 2, 1) := by decide +kernel
theorem dX2_takeBack_7 : decode cX2_takeBack 7 = .ok (.invokevirtual 93, 3) := by decide +kernel
theorem dX2_takeBack_10 : decode cX2_takeBack 10 = .ok (.iload_n 1, 1) := by decide +kernel
theorem dX2_takeBack_11 : decode cX2_takeBack 11 = .ok (.iload_n 2, 1) := by decide +kernel
theorem dX2_takeBack_12 : decode cX2_takeBack 12 = .ok (.invokestatic 102, 3) := by decide +kernel
theorem dX2_takeBack_15 : decode cX2_takeBack 15 = .ok (.istore_n 3, 1) := by decide +kernel
theorem dX2_takeBack_16 : decode cX2_takeBack 16 = .ok (.aload_n 0, 1) := by decide +kernel
theorem dX2_takeBack_17 : decode cX2_takeBack 17 = .ok (.getfield 12, 3) := by decide +kernel
theorem dX2_takeBack_20 : decode cX2_takeBack 20 = .ok (.getfield 99, 3) := by decide +kernel
theorem dX2_takeBack_23 : decode cX2_takeBack 23 = .ok (.iload_n 3, 1) := by decide +kernel
theorem dX2_takeBack_24 : decode cX2_takeBack 24 = .ok (.iaload, 1) := by decide +kernel
theorem dX2_takeBack_25 : decode cX2_takeBack 25 = .ok (.iconst (-1), 1) := by decide +kernel
theorem dX2_takeBack_26 : decode cX2_takeBack 26 = .ok (.if_icmp .eq 7, 3) := by decide +kernel
theorem dX2_takeBack_29 : decode cX2_takeBack 29 = .ok (.iconst 1, 1) := by decide +kernel
theorem dX2_takeBack_30 : decode cX2_takeBack 30 = .ok (.goto 4, 3) := by decide +kernel
theorem dX2_takeBack_33 : decode cX2_takeBack 33 = .ok (.iconst 0, 1) := by decide +kernel
theorem dX2_takeBack_34 : decode cX2_takeBack 34 = .ok (.invokestatic 60, 3) := by decide +kernel
theorem dX2_takeBack_37 : decode cX2_takeBack 37 = .ok (.aload_n 0, 1) := by decide +kernel
theorem dX2_takeBack_38 : decode cX2_takeBack 38 = .ok (.invokevirtual 41, 3) := by decide +kernel
theorem dX2_takeBack_41 : decode cX2_takeBack 41 = .ok (.aload_n 0, 1) := by decide +kernel
theorem dX2_takeBack_42 : decode cX2_takeBack 42 = .ok (.getfield 12, 3) := by decide +kernel
theorem dX2_takeBack_45 : decode cX2_takeBack 45 = .ok (.getfield 99, 3) := by decide +kernel
theorem dX2_takeBack_48 : decode cX2_takeBack 48 = .ok (.iload_n 3, 1) := by decide +kernel
theorem dX2_takeBack_49 : decode cX2_takeBack 49 = .ok (.iaload, 1) := by decide +kernel
theorem dX2_takeBack_50 : decode cX2_takeBack 50 = .ok (.istore 4, 2) := by decide +kernel
theorem dX2_takeBack_52 : decode cX2_takeBack 52 = .ok (.aload_n 0, 1) := by decide +kernel
theorem dX2_takeBack_53 : decode cX2_takeBack 53 = .ok (.getfield 12, 3) := by decide +kernel
theorem dX2_takeBack_56 : decode cX2_takeBack 56 = .ok (.getfield 99, 3) := by decide +kernel
theorem dX2_takeBack_59 : decode cX2_takeBack 59 = .ok (.iload_n 3, 1) := by decide +kernel
theorem dX2_takeBack_60 : decode cX2_takeBack 60 = .ok (.iconst (-1), 1) := by decide +kernel
theorem dX2_takeBack_61 : decode cX2_takeBack 61 = .ok (.iastore, 1) := by decide +kernel
theorem dX2_takeBack_62 : decode cX2_takeBack 62 = .ok (.iload 4, 2) := by decide +kernel
theorem dX2_takeBack_64 : decode cX2_takeBack 64 = .ok (.ireturn, 1) := by decide +kernel
set_option maxRecDepth 20000 in
theorem ggX2_cover_X2_needAbsence : GoodIn wsX2_cover wsX2_needAbsence := goodIn_ca (goodIn_r _ [7, 8, 9, 1, 10, 11, 12, 13, 14, 15, 92, 93, 94, 95, 96, 97, 98, 99, 100, 101, 102, 103, 104, 105, 106, 107, 108, 109, 110, 111] (by decide +kernel) (by decide +kernel)) (goodIn_sub (fun _ h => List.mem_cons_of_mem _ (List.mem_append_left _ (List.mem_append_right _ h))) (by decide +kernel))
set_option maxRecDepth 20000 in
theorem gX2_cover_X2_needAbsence : GoodIn wsX2_cover (wsV RX2 93 RX2 yX2_needAbsence wsX2_needAbsence) := goodIn_app (goodIn_of _ (by decide +kernel)) ggX2_cover_X2_needAbsence
set_option maxRecDepth 20000 in
theorem ggX2_cover_X1_nextCoverer : GoodIn wsX2_cover wsX1_nextCoverer := goodIn_r _ [19, 20, 21, 22, 23, 24, 13, 25, 26, 27, 28, 29, 30, 31, 32, 33, 34, 35, 36, 37, 38, 39, 40, 41, 42, 43, 44, 45, 46, 47, 48, 49, 50, 51, 52, 6, 53, 54, 55, 56, 97, 98, 99, 100, 101, 102, 103, 104, 105, 106, 107, 108, 109, 110, 111] (by decide +kernel) (by decide +kernel)
set_option maxRecDepth 20000 in
theorem gX2_cover_X1_nextCoverer : GoodIn wsX2_cover (wsV RX2 109 RX1 yX1_nextCoverer wsX1_nextCoverer) := goodIn_app (goodIn_of _ (by decide +kernel)) ggX2_cover_X1_nextCoverer
set_option maxRecDepth 20000 in
theorem ggX2_cover_X2_needAllowed : GoodIn wsX2_cover wsX2_needAllowed := goodIn_ca (goodIn_r _ [59, 60, 61] (by decide +kernel) (by decide +kernel)) (goodIn_sub (fun _ h => List.mem_cons_of_mem _ (List.mem_append_right _ h)) (by decide +kernel))
set_option maxRecDepth 20000 in
theorem gX2_cover_X2_needAllowed : GoodIn wsX2_cover (va_wsS RX2 60 yX2_needAllowed wsX2_needAllowed) := goodIn_app (goodIn_of _ (by decide +kernel)) ggX2_cover_X2_needAllowed
set_option maxRecDepth 20000 in
theorem ggX2_cover_X2_save : GoodIn wsX2_cover wsX2_save := goodIn_r _ [65, 66, 67, 1, 68, 69, 70, 6, 71, 72, 73, 74, 13, 75, 40, 76, 77, 78, 79, 80, 21, 33, 28, 35, 51, 50, 15, 26, 27, 20, 81, 82, 49, 92, 93, 94, 95, 96, 97, 98, 99, 100, 101, 102, 103, 104, 105, 106, 107, 108, 109, 110, 111] (by decide +kernel) (by decide +kernel)
set_option maxRecDepth 20000 in
theorem gX2_cover_X2_save : GoodIn wsX2_cover (wsV RX2 41 RX2 yX2_save wsX2_save) := goodIn_app (goodIn_of _ (by decide +kernel)) ggX2_cover_X2_save
set_option maxRecDepth 20000 in
theorem ggX2_cover_X1_coverOpen : GoodIn wsX2_cover wsX1_coverOpen := goodIn_r _ [86, 49, 20, 82, 40, 50, 81, 35, 27, 51, 26, 87, 17, 18, 13, 19, 21, 22, 23, 24, 25, 28, 29, 30, 31, 32, 33, 34, 36, 37, 38, 39, 41, 42, 43, 44, 45, 46, 47, 48, 52, 6, 53, 54, 55, 56, 88, 89, 90, 91, 97, 98, 99, 100, 101, 102, 103, 104, 105, 106, 107, 108, 109, 110, 111] (by decide +kernel) (by decide +kernel)
set_option maxRecDepth 20000 in
theorem gX2_cover_X1_coverOpen : GoodIn wsX2_cover (wsV RX2 112 RX1 yX1_coverOpen wsX1_coverOpen) := goodIn_app (goodIn_of _ (by decide +kernel)) ggX2_cover_X1_coverOpen
theorem dX2_cover_0 : decode cX2_cover 0 = .ok (.aload_n 0, 1) := by decide +kernel
theorem dX2_cover_1 : decode cX2_cover 1 = .ok (.iload_n 1, 1) := by decide +kernel
theorem dX2_cover_2 : decode cX2_cover 2 = .ok (.invokevirtual 93, 3) := by decide +kernel
theorem dX2_cover_5 : decode cX2_cover 5 = .ok (.aload_n 0, 1) := by decide +kernel
theorem dX2_cover_6 : decode cX2_cover 6 = .ok (.getfield 12, 3) := by decide +kernel
theorem dX2_cover_9 : decode cX2_cover 9 = .ok (.iload_n 1, 1) := by decide +kernel
theorem dX2_cover_10 : decode cX2_cover 10 = .ok (.invokevirtual 109, 3) := by decide +kernel
theorem dX2_cover_13 : decode cX2_cover 13 = .ok (.iconst (-1), 1) := by decide +kernel
theorem dX2_cover_14 : decode cX2_cover 14 = .ok (.if_icmp .eq 7, 3) := by decide +kernel
theorem dX2_cover_17 : decode cX2_cover 17 = .ok (.iconst 1, 1) := by decide +kernel
theorem dX2_cover_18 : decode cX2_cover 18 = .ok (.goto 4, 3) := by decide +kernel
theorem dX2_cover_21 : decode cX2_cover 21 = .ok (.iconst 0, 1) := by decide +kernel
theorem dX2_cover_22 : decode cX2_cover 22 = .ok (.invokestatic 60, 3) := by decide +kernel
theorem dX2_cover_25 : decode cX2_cover 25 = .ok (.aload_n 0, 1) := by decide +kernel
theorem dX2_cover_26 : decode cX2_cover 26 = .ok (.invokevirtual 41, 3) := by decide +kernel
theorem dX2_cover_29 : decode cX2_cover 29 = .ok (.aload_n 0, 1) := by decide +kernel
theorem dX2_cover_30 : decode cX2_cover 30 = .ok (.getfield 12, 3) := by decide +kernel
theorem dX2_cover_33 : decode cX2_cover 33 = .ok (.iload_n 1, 1) := by decide +kernel
theorem dX2_cover_34 : decode cX2_cover 34 = .ok (.invokevirtual 112, 3) := by decide +kernel
theorem dX2_cover_37 : decode cX2_cover 37 = .ok (.pop, 1) := by decide +kernel
theorem dX2_cover_38 : decode cX2_cover 38 = .ok (.aload_n 0, 1) := by decide +kernel
theorem dX2_cover_39 : decode cX2_cover 39 = .ok (.getfield 12, 3) := by decide +kernel
theorem dX2_cover_42 : decode cX2_cover 42 = .ok (.getfield 116, 3) := by decide +kernel
theorem dX2_cover_45 : decode cX2_cover 45 = .ok (.iload_n 1, 1) := by decide +kernel
theorem dX2_cover_46 : decode cX2_cover 46 = .ok (.iaload, 1) := by decide +kernel
theorem dX2_cover_47 : decode cX2_cover 47 = .ok (.ireturn, 1) := by decide +kernel
set_option maxRecDepth 20000 in
theorem ggX2_coverAll_X2_save : GoodIn wsX2_coverAll wsX2_save := goodIn_r _ [6, 7, 8, 1, 9, 10, 11, 5, 12, 13, 14, 15, 16, 17, 18, 19, 20, 21, 22, 23, 24, 25, 26, 27, 28, 29, 30, 31, 32, 33, 34, 35, 36, 79, 80, 81, 82, 83, 84, 85, 86, 87, 88, 89, 90, 91, 92, 93, 94, 95, 96, 97, 98] (by decide +kernel) (by decide +kernel)
set_option maxRecDepth 20000 in
theorem gX2_coverAll_X2_save : GoodIn wsX2_coverAll (wsV RX2 41 RX2 yX2_save wsX2_save) := goodIn_app (goodIn_of _ (by decide +kernel)) ggX2_coverAll_X2_save
set_option maxRecDepth 20000 in
theorem ggX2_coverAll_X1_coverAllOpen : GoodIn wsX2_coverAll wsX1_coverAllOpen := goodIn_r _ [40, 30, 41, 42, 43, 16, 44, 36, 33, 35, 18, 29, 34, 27, 32, 28, 31, 45, 46, 47, 48, 24, 49, 50, 51, 52, 26, 53, 54, 55, 56, 25, 57, 58, 59, 60, 61, 62, 63, 64, 65, 66, 67, 68, 69, 70, 5, 71, 72, 73, 74, 75, 76, 77, 78, 84, 85, 86, 87, 88, 89, 90, 91, 92, 93, 94, 95, 96, 97, 98] (by decide +kernel) (by decide +kernel)
set_option maxRecDepth 20000 in
theorem gX2_coverAll_X1_coverAllOpen : GoodIn wsX2_coverAll (wsV RX2 119 RX1 yX1_coverAllOpen wsX1_coverAllOpen) := goodIn_app (goodIn_of _ (by decide +kernel)) ggX2_coverAll_X1_coverAllOpen
theorem dX2_coverAll_0 : decode cX2_coverAll 0 = .ok (.aload_n 0, 1) := by decide +kernel
theorem dX2_coverAll_1 : decode cX2_coverAll 1 = .ok (.invokevirtual 41, 3) := by decide +kernel
theorem dX2_coverAll_4 : decode cX2_coverAll 4 = .ok (.aload_n 0, 1) := by decide +kernel
theorem dX2_coverAll_5 : decode cX2_coverAll 5 = .ok (.getfield 12, 3) := by decide +kernel
theorem dX2_coverAll_8 : decode cX2_coverAll 8 = .ok (.invokevirtual 119, 3) := by decide +kernel
theorem dX2_coverAll_11 : decode cX2_coverAll 11 = .ok (.ireturn, 1) := by decide +kernel
set_option maxRecDepth 20000 in
theorem ggX2_handOver_X2_needAbsence : GoodIn wsX2_handOver wsX2_needAbsence := goodIn_ca (goodIn_r _ [7, 8, 9, 1, 10, 11, 12, 13, 14, 15, 86, 87, 88, 89, 90, 91, 92, 93, 94, 95, 96, 97, 98, 99, 100, 101, 102, 103, 104, 105] (by decide +kernel) (by decide +kernel)) (goodIn_sub (fun _ h => List.mem_cons_of_mem _ (List.mem_append_left _ (List.mem_append_right _ h))) (by decide +kernel))
set_option maxRecDepth 20000 in
theorem gX2_handOver_X2_needAbsence : GoodIn wsX2_handOver (wsV RX2 93 RX2 yX2_needAbsence wsX2_needAbsence) := goodIn_app (goodIn_of _ (by decide +kernel)) ggX2_handOver_X2_needAbsence
set_option maxRecDepth 20000 in
theorem ggX2_handOver_X2_needPerson : GoodIn wsX2_handOver wsX2_needPerson := goodIn_ca (goodIn_r _ [19, 8, 9, 1, 20, 21, 22, 13, 23, 24, 86, 87, 88, 89, 90, 91, 92, 93, 94, 95, 96, 97, 98, 99, 100, 101, 102, 103, 104, 105] (by decide +kernel) (by decide +kernel)) (goodIn_sub (fun _ h => List.mem_cons_of_mem _ (List.mem_append_left _ (List.mem_append_right _ h))) (by decide +kernel))
set_option maxRecDepth 20000 in
theorem gX2_handOver_X2_needPerson : GoodIn wsX2_handOver (wsV RX2 68 RX2 yX2_needPerson wsX2_needPerson) := goodIn_app (goodIn_of _ (by decide +kernel)) ggX2_handOver_X2_needPerson
set_option maxRecDepth 20000 in
theorem ggX2_handOver_X1_isCovered : GoodIn wsX2_handOver wsX1_isCovered := goodIn_r _ [28, 29, 91, 92, 93, 94, 95, 96, 97, 98, 99, 100, 101, 102, 103, 104, 105] (by decide +kernel) (by decide +kernel)
set_option maxRecDepth 20000 in
theorem gX2_handOver_X1_isCovered : GoodIn wsX2_handOver (wsV RX2 123 RX1 yX1_isCovered wsX1_isCovered) := goodIn_app (goodIn_of _ (by decide +kernel)) ggX2_handOver_X1_isCovered
set_option maxRecDepth 20000 in
theorem ggX2_handOver_X1_hindrance : GoodIn wsX2_handOver wsX1_hindrance := goodIn_r _ [33, 34, 35, 36, 37, 38, 39, 13, 40, 41, 42, 43, 44, 45, 46, 47, 48, 49, 50, 51, 52, 91, 92, 93, 94, 95, 96, 97, 98, 99, 100, 101, 102, 103, 104, 105] (by decide +kernel) (by decide +kernel)
set_option maxRecDepth 20000 in
theorem gX2_handOver_X1_hindrance : GoodIn wsX2_handOver (wsV RX2 126 RX1 yX1_hindrance wsX1_hindrance) := goodIn_app (goodIn_of _ (by decide +kernel)) ggX2_handOver_X1_hindrance
set_option maxRecDepth 20000 in
theorem ggX2_handOver_X2_needAllowed : GoodIn wsX2_handOver wsX2_needAllowed := goodIn_ca (goodIn_r _ [55, 56, 57] (by decide +kernel) (by decide +kernel)) (goodIn_sub (fun _ h => List.mem_cons_of_mem _ (List.mem_append_right _ h)) (by decide +kernel))
set_option maxRecDepth 20000 in
theorem gX2_handOver_X2_needAllowed : GoodIn wsX2_handOver (va_wsS RX2 60 yX2_needAllowed wsX2_needAllowed) := goodIn_app (goodIn_of _ (by decide +kernel)) ggX2_handOver_X2_needAllowed
set_option maxRecDepth 20000 in
theorem ggX2_handOver_X2_save : GoodIn wsX2_handOver wsX2_save := goodIn_r _ [61, 62, 63, 1, 64, 65, 66, 6, 67, 68, 69, 70, 13, 71, 48, 72, 73, 74, 75, 76, 24, 41, 36, 43, 77, 78, 15, 34, 35, 29, 79, 80, 81, 86, 87, 88, 89, 90, 91, 92, 93, 94, 95, 96, 97, 98, 99, 100, 101, 102, 103, 104, 105] (by decide +kernel) (by decide +kernel)
set_option maxRecDepth 20000 in
theorem gX2_handOver_X2_save : GoodIn wsX2_handOver (wsV RX2 41 RX2 yX2_save wsX2_save) := goodIn_app (goodIn_of _ (by decide +kernel)) ggX2_handOver_X2_save
set_option maxRecDepth 20000 in
theorem ggX2_handOver_X1_moveCover : GoodIn wsX2_handOver wsX1_moveCover := goodIn_r _ [85, 35, 79, 43, 42, 77, 80, 76, 91, 92, 93, 94, 95, 96, 97, 98, 99, 100, 101, 102, 103, 104, 105] (by decide +kernel) (by decide +kernel)
set_option maxRecDepth 20000 in
theorem gX2_handOver_X1_moveCover : GoodIn wsX2_handOver (wsV RX2 129 RX1 yX1_moveCover wsX1_moveCover) := goodIn_app (goodIn_of _ (by decide +kernel)) ggX2_handOver_X1_moveCover
theorem dX2_handOver_0 : decode cX2_handOver 0 = .ok (.aload_n 0, 1) := by decide +kernel
theorem dX2_handOver_1 : decode cX2_handOver 1 = .ok (.iload_n 1, 1) := by decide +kernel
theorem dX2_handOver_2 : decode cX2_handOver 2 = .ok (.invokevirtual 93, 3) := by decide +kernel
theorem dX2_handOver_5 : decode cX2_handOver 5 = .ok (.aload_n 0, 1) := by decide +kernel
theorem dX2_handOver_6 : decode cX2_handOver 6 = .ok (.iload_n 2, 1) := by decide +kernel
theorem dX2_handOver_7 : decode cX2_handOver 7 = .ok (.invokevirtual 68, 3) := by decide +kernel
theorem dX2_handOver_10 : decode cX2_handOver 10 = .ok (.aload_n 0, 1) := by decide +kernel
theorem dX2_handOver_11 : decode cX2_handOver 11 = .ok (.getfield 12, 3) := by decide +kernel
theorem dX2_handOver_14 : decode cX2_handOver 14 = .ok (.iload_n 1, 1) := by decide +kernel
theorem dX2_handOver_15 : decode cX2_handOver 15 = .ok (.invokevirtual 123, 3) := by decide +kernel
theorem dX2_handOver_18 : decode cX2_handOver 18 = .ok (.ifCond .eq 19, 3) := by decide +kernel
theorem dX2_handOver_21 : decode cX2_handOver 21 = .ok (.aload_n 0, 1) := by decide +kernel
theorem dX2_handOver_22 : decode cX2_handOver 22 = .ok (.getfield 12, 3) := by decide +kernel
theorem dX2_handOver_25 : decode cX2_handOver 25 = .ok (.iload_n 2, 1) := by decide +kernel
theorem dX2_handOver_26 : decode cX2_handOver 26 = .ok (.iload_n 1, 1) := by decide +kernel
theorem dX2_handOver_27 : decode cX2_handOver 27 = .ok (.invokevirtual 126, 3) := by decide +kernel
theorem dX2_handOver_30 : decode cX2_handOver 30 = .ok (.ifCond .ne 7, 3) := by decide +kernel
theorem dX2_handOver_33 : decode cX2_handOver 33 = .ok (.iconst 1, 1) := by decide +kernel
theorem dX2_handOver_34 : decode cX2_handOver 34 = .ok (.goto 4, 3) := by decide +kernel
theorem dX2_handOver_37 : decode cX2_handOver 37 = .ok (.iconst 0, 1) := by decide +kernel
theorem dX2_handOver_38 : decode cX2_handOver 38 = .ok (.invokestatic 60, 3) := by decide +kernel
theorem dX2_handOver_41 : decode cX2_handOver 41 = .ok (.aload_n 0, 1) := by decide +kernel
theorem dX2_handOver_42 : decode cX2_handOver 42 = .ok (.invokevirtual 41, 3) := by decide +kernel
theorem dX2_handOver_45 : decode cX2_handOver 45 = .ok (.aload_n 0, 1) := by decide +kernel
theorem dX2_handOver_46 : decode cX2_handOver 46 = .ok (.getfield 12, 3) := by decide +kernel
theorem dX2_handOver_49 : decode cX2_handOver 49 = .ok (.getfield 116, 3) := by decide +kernel
theorem dX2_handOver_52 : decode cX2_handOver 52 = .ok (.iload_n 1, 1) := by decide +kernel
theorem dX2_handOver_53 : decode cX2_handOver 53 = .ok (.iaload, 1) := by decide +kernel
theorem dX2_handOver_54 : decode cX2_handOver 54 = .ok (.istore_n 3, 1) := by decide +kernel
theorem dX2_handOver_55 : decode cX2_handOver 55 = .ok (.aload_n 0, 1) := by decide +kernel
theorem dX2_handOver_56 : decode cX2_handOver 56 = .ok (.getfield 12, 3) := by decide +kernel
theorem dX2_handOver_59 : decode cX2_handOver 59 = .ok (.iload_n 1, 1) := by decide +kernel
theorem dX2_handOver_60 : decode cX2_handOver 60 = .ok (.iload_n 2, 1) := by decide +kernel
theorem dX2_handOver_61 : decode cX2_handOver 61 = .ok (.invokevirtual 129, 3) := by decide +kernel
theorem dX2_handOver_64 : decode cX2_handOver 64 = .ok (.iload_n 3, 1) := by decide +kernel
theorem dX2_handOver_65 : decode cX2_handOver 65 = .ok (.ireturn, 1) := by decide +kernel
set_option maxRecDepth 20000 in
theorem ggX2_giveUp_X2_needAbsence : GoodIn wsX2_giveUp wsX2_needAbsence := goodIn_ca (goodIn_r _ [7, 8, 9, 1, 10, 11, 12, 13, 14, 15, 63, 64, 65, 66, 67, 68, 69, 70, 71, 72, 73, 74, 75, 76, 77, 78, 79, 80, 81, 82] (by decide +kernel) (by decide +kernel)) (goodIn_sub (fun _ h => List.mem_cons_of_mem _ (List.mem_append_left _ (List.mem_append_right _ h))) (by decide +kernel))
set_option maxRecDepth 20000 in
theorem gX2_giveUp_X2_needAbsence : GoodIn wsX2_giveUp (wsV RX2 93 RX2 yX2_needAbsence wsX2_needAbsence) := goodIn_app (goodIn_of _ (by decide +kernel)) ggX2_giveUp_X2_needAbsence
set_option maxRecDepth 20000 in
theorem ggX2_giveUp_X2_needAllowed : GoodIn wsX2_giveUp wsX2_needAllowed := goodIn_ca (goodIn_r _ [18, 19, 20] (by decide +kernel) (by decide +kernel)) (goodIn_sub (fun _ h => List.mem_cons_of_mem _ (List.mem_append_right _ h)) (by decide +kernel))
set_option maxRecDepth 20000 in
theorem gX2_giveUp_X2_needAllowed : GoodIn wsX2_giveUp (va_wsS RX2 60 yX2_needAllowed wsX2_needAllowed) := goodIn_app (goodIn_of _ (by decide +kernel)) ggX2_giveUp_X2_needAllowed
set_option maxRecDepth 20000 in
theorem ggX2_giveUp_X2_save : GoodIn wsX2_giveUp wsX2_save := goodIn_r _ [24, 25, 26, 1, 27, 28, 29, 6, 30, 31, 32, 33, 13, 34, 35, 36, 37, 38, 39, 40, 41, 42, 43, 44, 45, 46, 15, 47, 48, 49, 50, 51, 52, 63, 64, 65, 66, 67, 68, 69, 70, 71, 72, 73, 74, 75, 76, 77, 78, 79, 80, 81, 82] (by decide +kernel) (by decide +kernel)
set_option maxRecDepth 20000 in
theorem gX2_giveUp_X2_save : GoodIn wsX2_giveUp (wsV RX2 41 RX2 yX2_save wsX2_save) := goodIn_app (goodIn_of _ (by decide +kernel)) ggX2_giveUp_X2_save
set_option maxRecDepth 20000 in
theorem ggX2_giveUp_X1_bidsFor : GoodIn wsX2_giveUp wsX1_bidsFor := goodIn_r _ [56, 41, 52, 57, 6, 58, 68, 69, 70, 71, 72, 73, 74, 75, 76, 77, 78, 79, 80, 81, 82] (by decide +kernel) (by decide +kernel)
set_option maxRecDepth 20000 in
theorem gX2_giveUp_X1_bidsFor : GoodIn wsX2_giveUp (wsV RX2 105 RX1 yX1_bidsFor wsX1_bidsFor) := goodIn_app (goodIn_of _ (by decide +kernel)) ggX2_giveUp_X1_bidsFor
set_option maxRecDepth 20000 in
theorem ggX2_giveUp_X1_dropBids : GoodIn wsX2_giveUp wsX1_dropBids := goodIn_r _ [62, 52, 57, 6, 58, 68, 69, 70, 71, 72, 73, 74, 75, 76, 77, 78, 79, 80, 81, 82] (by decide +kernel) (by decide +kernel)
set_option maxRecDepth 20000 in
theorem gX2_giveUp_X1_dropBids : GoodIn wsX2_giveUp (wsV RX2 136 RX1 yX1_dropBids wsX1_dropBids) := goodIn_app (goodIn_of _ (by decide +kernel)) ggX2_giveUp_X1_dropBids
theorem dX2_giveUp_0 : decode cX2_giveUp 0 = .ok (.aload_n 0, 1) := by decide +kernel
theorem dX2_giveUp_1 : decode cX2_giveUp 1 = .ok (.iload_n 1, 1) := by decide +kernel
theorem dX2_giveUp_2 : decode cX2_giveUp 2 = .ok (.invokevirtual 93, 3) := by decide +kernel
theorem dX2_giveUp_5 : decode cX2_giveUp 5 = .ok (.aload_n 0, 1) := by decide +kernel
theorem dX2_giveUp_6 : decode cX2_giveUp 6 = .ok (.getfield 12, 3) := by decide +kernel
theorem dX2_giveUp_9 : decode cX2_giveUp 9 = .ok (.getfield 133, 3) := by decide +kernel
theorem dX2_giveUp_12 : decode cX2_giveUp 12 = .ok (.iload_n 1, 1) := by decide +kernel
theorem dX2_giveUp_13 : decode cX2_giveUp 13 = .ok (.iaload, 1) := by decide +kernel
theorem dX2_giveUp_14 : decode cX2_giveUp 14 = .ok (.ifCond .ne 7, 3) := by decide +kernel
theorem dX2_giveUp_17 : decode cX2_giveUp 17 = .ok (.iconst 1, 1) := by decide +kernel
theorem dX2_giveUp_18 : decode cX2_giveUp 18 = .ok (.goto 4, 3) := by decide +kernel
theorem dX2_giveUp_21 : decode cX2_giveUp 21 = .ok (.iconst 0, 1) := by decide +kernel
theorem dX2_giveUp_22 : decode cX2_giveUp 22 = .ok (.invokestatic 60, 3) := by decide +kernel
theorem dX2_giveUp_25 : decode cX2_giveUp 25 = .ok (.aload_n 0, 1) := by decide +kernel
theorem dX2_giveUp_26 : decode cX2_giveUp 26 = .ok (.invokevirtual 41, 3) := by decide +kernel
theorem dX2_giveUp_29 : decode cX2_giveUp 29 = .ok (.aload_n 0, 1) := by decide +kernel
theorem dX2_giveUp_30 : decode cX2_giveUp 30 = .ok (.getfield 12, 3) := by decide +kernel
theorem dX2_giveUp_33 : decode cX2_giveUp 33 = .ok (.iload_n 1, 1) := by decide +kernel
theorem dX2_giveUp_34 : decode cX2_giveUp 34 = .ok (.invokevirtual 105, 3) := by decide +kernel
theorem dX2_giveUp_37 : decode cX2_giveUp 37 = .ok (.istore_n 2, 1) := by decide +kernel
theorem dX2_giveUp_38 : decode cX2_giveUp 38 = .ok (.aload_n 0, 1) := by decide +kernel
theorem dX2_giveUp_39 : decode cX2_giveUp 39 = .ok (.getfield 12, 3) := by decide +kernel
theorem dX2_giveUp_42 : decode cX2_giveUp 42 = .ok (.getfield 133, 3) := by decide +kernel
theorem dX2_giveUp_45 : decode cX2_giveUp 45 = .ok (.iload_n 1, 1) := by decide +kernel
theorem dX2_giveUp_46 : decode cX2_giveUp 46 = .ok (.iconst 3, 1) := by decide +kernel
theorem dX2_giveUp_47 : decode cX2_giveUp 47 = .ok (.iastore, 1) := by decide +kernel
theorem dX2_giveUp_48 : decode cX2_giveUp 48 = .ok (.aload_n 0, 1) := by decide +kernel
theorem dX2_giveUp_49 : decode cX2_giveUp 49 = .ok (.getfield 12, 3) := by decide +kernel
theorem dX2_giveUp_52 : decode cX2_giveUp 52 = .ok (.iload_n 1, 1) := by decide +kernel
theorem dX2_giveUp_53 : decode cX2_giveUp 53 = .ok (.invokevirtual 136, 3) := by decide +kernel
theorem dX2_giveUp_56 : decode cX2_giveUp 56 = .ok (.iload_n 2, 1) := by decide +kernel
theorem dX2_giveUp_57 : decode cX2_giveUp 57 = .ok (.ireturn, 1) := by decide +kernel
set_option maxRecDepth 20000 in
theorem ggX2_person_X2_needPerson : GoodIn wsX2_person wsX2_needPerson := goodIn_ca (goodIn_r _ [6, 7, 8, 1, 9, 10, 11, 12, 13, 14, 49, 50, 51, 52, 53, 54, 55, 56, 57, 58, 59, 60, 61, 62, 63, 64, 65, 66, 67, 68] (by decide +kernel) (by decide +kernel)) (goodIn_sub (fun _ h => List.mem_cons_of_mem _ (List.mem_append_left _ (List.mem_append_right _ h))) (by decide +kernel))
set_option maxRecDepth 20000 in
theorem gX2_person_X2_needPerson : GoodIn wsX2_person (wsV RX2 68 RX2 yX2_needPerson wsX2_needPerson) := goodIn_app (goodIn_of _ (by decide +kernel)) ggX2_person_X2_needPerson
set_option maxRecDepth 20000 in
theorem ggX2_person_X2_needInRange : GoodIn wsX2_person wsX2_needInRange := goodIn_ca (goodIn_r _ [17, 18, 19] (by decide +kernel) (by decide +kernel)) (goodIn_sub (fun _ h => List.mem_cons_of_mem _ (List.mem_append_right _ h)) (by decide +kernel))
set_option maxRecDepth 20000 in
theorem gX2_person_X2_needInRange : GoodIn wsX2_person (va_wsS RX2 30 yX2_needInRange wsX2_needInRange) := goodIn_app (goodIn_of _ (by decide +kernel)) ggX2_person_X2_needInRange
set_option maxRecDepth 20000 in
theorem ggX2_person_X1_aboutPerson : GoodIn wsX2_person wsX1_aboutPerson := goodIn_r _ [23, 24, 25, 26, 27, 28, 29, 30, 31, 32, 33, 34, 35, 36, 37, 38, 12, 39, 40, 41, 42, 43, 44, 45, 46, 47, 5, 48, 54, 55, 56, 57, 58, 59, 60, 61, 62, 63, 64, 65, 66, 67, 68] (by decide +kernel) (by decide +kernel)
set_option maxRecDepth 20000 in
theorem gX2_person_X1_aboutPerson : GoodIn wsX2_person (wsV RX2 139 RX1 yX1_aboutPerson wsX1_aboutPerson) := goodIn_app (goodIn_of _ (by decide +kernel)) ggX2_person_X1_aboutPerson
theorem dX2_person_0 : decode cX2_person 0 = .ok (.aload_n 0, 1) := by decide +kernel
theorem dX2_person_1 : decode cX2_person 1 = .ok (.iload_n 1, 1) := by decide +kernel
theorem dX2_person_2 : decode cX2_person 2 = .ok (.invokevirtual 68, 3) := by decide +kernel
theorem dX2_person_5 : decode cX2_person 5 = .ok (.iload_n 2, 1) := by decide +kernel
theorem dX2_person_6 : decode cX2_person 6 = .ok (.iconst 0, 1) := by decide +kernel
theorem dX2_person_7 : decode cX2_person 7 = .ok (.bipush 6, 2) := by decide +kernel
theorem dX2_person_9 : decode cX2_person 9 = .ok (.invokestatic 30, 3) := by decide +kernel
theorem dX2_person_12 : decode cX2_person 12 = .ok (.aload_n 0, 1) := by decide +kernel
theorem dX2_person_13 : decode cX2_person 13 = .ok (.getfield 12, 3) := by decide +kernel
theorem dX2_person_16 : decode cX2_person 16 = .ok (.iload_n 1, 1) := by decide +kernel
theorem dX2_person_17 : decode cX2_person 17 = .ok (.iload_n 2, 1) := by decide +kernel
theorem dX2_person_18 : decode cX2_person 18 = .ok (.invokevirtual 139, 3) := by decide +kernel
theorem dX2_person_21 : decode cX2_person 21 = .ok (.ireturn, 1) := by decide +kernel
set_option maxRecDepth 20000 in
theorem ggX2_work_X2_needPerson : GoodIn wsX2_work wsX2_needPerson := goodIn_ca (goodIn_r _ [6, 7, 8, 1, 9, 10, 11, 12, 13, 14, 23, 24, 25, 26, 27, 28, 29, 30, 31, 32, 33, 34, 35, 36, 37, 38, 39, 40, 41, 42] (by decide +kernel) (by decide +kernel)) (goodIn_sub (fun _ h => List.mem_cons_of_mem _ (List.mem_append_right _ h)) (by decide +kernel))
set_option maxRecDepth 20000 in
theorem gX2_work_X2_needPerson : GoodIn wsX2_work (wsV RX2 68 RX2 yX2_needPerson wsX2_needPerson) := goodIn_app (goodIn_of _ (by decide +kernel)) ggX2_work_X2_needPerson
set_option maxRecDepth 20000 in
theorem ggX2_work_X1_worked : GoodIn wsX2_work wsX1_worked := goodIn_r _ [18, 19, 20, 21, 22, 28, 29, 30, 31, 32, 33, 34, 35, 36, 37, 38, 39, 40, 41, 42] (by decide +kernel) (by decide +kernel)
set_option maxRecDepth 20000 in
theorem gX2_work_X1_worked : GoodIn wsX2_work (wsV RX2 142 RX1 yX1_worked wsX1_worked) := goodIn_app (goodIn_of _ (by decide +kernel)) ggX2_work_X1_worked
theorem dX2_work_0 : decode cX2_work 0 = .ok (.aload_n 0, 1) := by decide +kernel
theorem dX2_work_1 : decode cX2_work 1 = .ok (.iload_n 1, 1) := by decide +kernel
theorem dX2_work_2 : decode cX2_work 2 = .ok (.invokevirtual 68, 3) := by decide +kernel
theorem dX2_work_5 : decode cX2_work 5 = .ok (.aload_n 0, 1) := by decide +kernel
theorem dX2_work_6 : decode cX2_work 6 = .ok (.getfield 12, 3) := by decide +kernel
theorem dX2_work_9 : decode cX2_work 9 = .ok (.iload_n 1, 1) := by decide +kernel
theorem dX2_work_10 : decode cX2_work 10 = .ok (.invokevirtual 142, 3) := by decide +kernel
theorem dX2_work_13 : decode cX2_work 13 = .ok (.lreturn, 1) := by decide +kernel
set_option maxRecDepth 20000 in
theorem ggX2_absence_X2_needAbsence : GoodIn wsX2_absence wsX2_needAbsence := goodIn_ca (goodIn_r _ [6, 7, 8, 1, 9, 10, 11, 12, 13, 14, 62, 63, 64, 65, 66, 67, 68, 69, 70, 71, 72, 73, 74, 75, 76, 77, 78, 79, 80, 81] (by decide +kernel) (by decide +kernel)) (goodIn_sub (fun _ h => List.mem_cons_of_mem _ (List.mem_append_left _ (List.mem_append_right _ h))) (by decide +kernel))
set_option maxRecDepth 20000 in
theorem gX2_absence_X2_needAbsence : GoodIn wsX2_absence (wsV RX2 93 RX2 yX2_needAbsence wsX2_needAbsence) := goodIn_app (goodIn_of _ (by decide +kernel)) ggX2_absence_X2_needAbsence
set_option maxRecDepth 20000 in
theorem ggX2_absence_X2_needInRange : GoodIn wsX2_absence wsX2_needInRange := goodIn_ca (goodIn_r _ [17, 18, 19] (by decide +kernel) (by decide +kernel)) (goodIn_sub (fun _ h => List.mem_cons_of_mem _ (List.mem_append_right _ h)) (by decide +kernel))
set_option maxRecDepth 20000 in
theorem gX2_absence_X2_needInRange : GoodIn wsX2_absence (va_wsS RX2 30 yX2_needInRange wsX2_needInRange) := goodIn_app (goodIn_of _ (by decide +kernel)) ggX2_absence_X2_needInRange
set_option maxRecDepth 20000 in
theorem ggX2_absence_X1_aboutAbsence : GoodIn wsX2_absence wsX1_aboutAbsence := goodIn_r _ [23, 24, 25, 26, 27, 28, 29, 30, 31, 12, 32, 33, 34, 35, 5, 36, 37, 38, 39, 40, 41, 42, 43, 44, 45, 46, 47, 48, 49, 50, 51, 52, 53, 54, 55, 56, 57, 58, 59, 60, 61, 67, 68, 69, 70, 71, 72, 73, 74, 75, 76, 77, 78, 79, 80, 81] (by decide +kernel) (by decide +kernel)
set_option maxRecDepth 20000 in
theorem gX2_absence_X1_aboutAbsence : GoodIn wsX2_absence (wsV RX2 146 RX1 yX1_aboutAbsence wsX1_aboutAbsence) := goodIn_app (goodIn_of _ (by decide +kernel)) ggX2_absence_X1_aboutAbsence
theorem dX2_absence_0 : decode cX2_absence 0 = .ok (.aload_n 0, 1) := by decide +kernel
theorem dX2_absence_1 : decode cX2_absence 1 = .ok (.iload_n 1, 1) := by decide +kernel
theorem dX2_absence_2 : decode cX2_absence 2 = .ok (.invokevirtual 93, 3) := by decide +kernel
theorem dX2_absence_5 : decode cX2_absence 5 = .ok (.iload_n 2, 1) := by decide +kernel
theorem dX2_absence_6 : decode cX2_absence 6 = .ok (.iconst 0, 1) := by decide +kernel
theorem dX2_absence_7 : decode cX2_absence 7 = .ok (.bipush 6, 2) := by decide +kernel
theorem dX2_absence_9 : decode cX2_absence 9 = .ok (.invokestatic 30, 3) := by decide +kernel
theorem dX2_absence_12 : decode cX2_absence 12 = .ok (.aload_n 0, 1) := by decide +kernel
theorem dX2_absence_13 : decode cX2_absence 13 = .ok (.getfield 12, 3) := by decide +kernel
theorem dX2_absence_16 : decode cX2_absence 16 = .ok (.iload_n 1, 1) := by decide +kernel
theorem dX2_absence_17 : decode cX2_absence 17 = .ok (.iload_n 2, 1) := by decide +kernel
theorem dX2_absence_18 : decode cX2_absence 18 = .ok (.invokevirtual 146, 3) := by decide +kernel
theorem dX2_absence_21 : decode cX2_absence 21 = .ok (.ireturn, 1) := by decide +kernel
set_option maxRecDepth 20000 in
theorem ggX2_bidOf_X2_needPerson : GoodIn wsX2_bidOf wsX2_needPerson := goodIn_ca (goodIn_r _ [7, 8, 9, 1, 10, 11, 12, 13, 14, 15, 28, 29, 30, 31, 32, 33, 34, 35, 36, 37, 38, 39, 40, 41, 42, 43, 44, 45, 46, 47] (by decide +kernel) (by decide +kernel)) (goodIn_sub (fun _ h => List.mem_cons_of_mem _ (List.mem_append_right _ h)) (by decide +kernel))
set_option maxRecDepth 20000 in
theorem gX2_bidOf_X2_needPerson : GoodIn wsX2_bidOf (wsV RX2 68 RX2 yX2_needPerson wsX2_needPerson) := goodIn_app (goodIn_of _ (by decide +kernel)) ggX2_bidOf_X2_needPerson
set_option maxRecDepth 20000 in
theorem ggX2_bidOf_X2_needAbsence : GoodIn wsX2_bidOf wsX2_needAbsence := goodIn_ca (goodIn_r _ [19, 8, 9, 1, 20, 21, 22, 13, 23, 24, 28, 29, 30, 31, 32, 33, 34, 35, 36, 37, 38, 39, 40, 41, 42, 43, 44, 45, 46, 47] (by decide +kernel) (by decide +kernel)) (goodIn_sub (fun _ h => List.mem_cons_of_mem _ (List.mem_append_right _ h)) (by decide +kernel))
set_option maxRecDepth 20000 in
theorem gX2_bidOf_X2_needAbsence : GoodIn wsX2_bidOf (wsV RX2 93 RX2 yX2_needAbsence wsX2_needAbsence) := goodIn_app (goodIn_of _ (by decide +kernel)) ggX2_bidOf_X2_needAbsence
set_option maxRecDepth 20000 in
theorem ggX2_bidOf_X2_bidIndex : GoodIn wsX2_bidOf wsX2_bidIndex := goodIn_r _ [27] (by decide +kernel) (by decide +kernel)
set_option maxRecDepth 20000 in
theorem gX2_bidOf_X2_bidIndex : GoodIn wsX2_bidOf (va_wsS RX2 102 yX2_bidIndex wsX2_bidIndex) := goodIn_app (goodIn_of _ (by decide +kernel)) ggX2_bidOf_X2_bidIndex
theorem dX2_bidOf_0 : decode cX2_bidOf 0 = .ok (.aload_n 0, 1) := by decide +kernel
theorem dX2_bidOf_1 : decode cX2_bidOf 1 = .ok (.iload_n 1, 1) := by decide +kernel
theorem dX2_bidOf_2 : decode cX2_bidOf 2 = .ok (.invokevirtual 68, 3) := by decide +kernel
theorem dX2_bidOf_5 : decode cX2_bidOf 5 = .ok (.aload_n 0, 1) := by decide +kernel
theorem dX2_bidOf_6 : decode cX2_bidOf 6 = .ok (.iload_n 2, 1) := by decide +kernel
theorem dX2_bidOf_7 : decode cX2_bidOf 7 = .ok (.invokevirtual 93, 3) := by decide +kernel
theorem dX2_bidOf_10 : decode cX2_bidOf 10 = .ok (.aload_n 0, 1) := by decide +kernel
theorem dX2_bidOf_11 : decode cX2_bidOf 11 = .ok (.getfield 12, 3) := by decide +kernel
theorem dX2_bidOf_14 : decode cX2_bidOf 14 = .ok (.getfield 99, 3) := by decide +kernel
theorem dX2_bidOf_17 : decode cX2_bidOf 17 = .ok (.iload_n 1, 1) := by decide +kernel
theorem dX2_bidOf_18 : decode cX2_bidOf 18 = .ok (.iload_n 2, 1) := by decide +kernel
theorem dX2_bidOf_19 : decode cX2_bidOf 19 = .ok (.invokestatic 102, 3) := by decide +kernel
theorem dX2_bidOf_22 : decode cX2_bidOf 22 = .ok (.iaload, 1) := by decide +kernel
theorem dX2_bidOf_23 : decode cX2_bidOf 23 = .ok (.ireturn, 1) := by decide +kernel
set_option maxRecDepth 20000 in
theorem ggX2_value_X2_needInRange : GoodIn wsX2_value wsX2_needInRange := goodIn_ca (goodIn_r _ [5, 6, 7] (by decide +kernel) (by decide +kernel)) (goodIn_sub (fun _ h => List.mem_cons_of_mem _ (List.mem_append_right _ h)) (by decide +kernel))
set_option maxRecDepth 20000 in
theorem gX2_value_X2_needInRange : GoodIn wsX2_value (va_wsS RX2 30 yX2_needInRange wsX2_needInRange) := goodIn_app (goodIn_of _ (by decide +kernel)) ggX2_value_X2_needInRange
set_option maxRecDepth 20000 in
theorem ggX2_value_X1_aboutAll : GoodIn wsX2_value wsX1_aboutAll := goodIn_r _ [12, 13, 14, 15, 16, 17, 18, 11, 19, 20, 21, 22, 23, 24, 25, 26, 27, 28, 29, 30, 31, 32, 33, 34, 35, 36, 37, 38, 39, 40, 41, 42, 43, 44, 45, 46, 4, 47, 48, 49, 50, 51, 52, 58, 59, 60, 61, 62, 63, 64, 65, 66, 67, 68, 69, 70, 71, 72] (by decide +kernel) (by decide +kernel)
set_option maxRecDepth 20000 in
theorem gX2_value_X1_aboutAll : GoodIn wsX2_value (wsV RX2 149 RX1 yX1_aboutAll wsX1_aboutAll) := goodIn_app (goodIn_of _ (by decide +kernel)) ggX2_value_X1_aboutAll
theorem dX2_value_0 : decode cX2_value 0 = .ok (.iload_n 1, 1) := by decide +kernel
theorem dX2_value_1 : decode cX2_value 1 = .ok (.iconst 0, 1) := by decide +kernel
theorem dX2_value_2 : decode cX2_value 2 = .ok (.bipush 10, 2) := by decide +kernel
theorem dX2_value_4 : decode cX2_value 4 = .ok (.invokestatic 30, 3) := by decide +kernel
theorem dX2_value_7 : decode cX2_value 7 = .ok (.aload_n 0, 1) := by decide +kernel
theorem dX2_value_8 : decode cX2_value 8 = .ok (.getfield 12, 3) := by decide +kernel
theorem dX2_value_11 : decode cX2_value 11 = .ok (.iload_n 1, 1) := by decide +kernel
theorem dX2_value_12 : decode cX2_value 12 = .ok (.invokevirtual 149, 3) := by decide +kernel
theorem dX2_value_15 : decode cX2_value 15 = .ok (.ireturn, 1) := by decide +kernel
set_option maxRecDepth 20000 in
theorem ggX2_setting_X2_needInRange : GoodIn wsX2_setting wsX2_needInRange := goodIn_ca (goodIn_r _ [6, 7, 8] (by decide +kernel) (by decide +kernel)) (goodIn_sub (fun _ h => List.mem_cons_of_mem _ (List.mem_append_right _ h)) (by decide +kernel))
set_option maxRecDepth 20000 in
theorem gX2_setting_X2_needInRange : GoodIn wsX2_setting (va_wsS RX2 30 yX2_needInRange wsX2_needInRange) := goodIn_app (goodIn_of _ (by decide +kernel)) ggX2_setting_X2_needInRange
theorem dX2_setting_0 : decode cX2_setting 0 = .ok (.iload_n 1, 1) := by decide +kernel
theorem dX2_setting_1 : decode cX2_setting 1 = .ok (.iconst 0, 1) := by decide +kernel
theorem dX2_setting_2 : decode cX2_setting 2 = .ok (.iconst 2, 1) := by decide +kernel
theorem dX2_setting_3 : decode cX2_setting 3 = .ok (.invokestatic 30, 3) := by decide +kernel
theorem dX2_setting_6 : decode cX2_setting 6 = .ok (.aload_n 0, 1) := by decide +kernel
theorem dX2_setting_7 : decode cX2_setting 7 = .ok (.getfield 12, 3) := by decide +kernel
theorem dX2_setting_10 : decode cX2_setting 10 = .ok (.getfield 44, 3) := by decide +kernel
theorem dX2_setting_13 : decode cX2_setting 13 = .ok (.iload_n 1, 1) := by decide +kernel
theorem dX2_setting_14 : decode cX2_setting 14 = .ok (.iaload, 1) := by decide +kernel
theorem dX2_setting_15 : decode cX2_setting 15 = .ok (.ireturn, 1) := by decide +kernel
set_option maxRecDepth 20000 in
theorem ggX2_undo_X2_needAllowed : GoodIn wsX2_undo wsX2_needAllowed := goodIn_ca (goodIn_r _ [7, 8, 9] (by decide +kernel) (by decide +kernel)) (goodIn_sub (fun _ h => List.mem_cons_of_mem _ (List.mem_append_right _ h)) (by decide +kernel))
set_option maxRecDepth 20000 in
theorem gX2_undo_X2_needAllowed : GoodIn wsX2_undo (va_wsS RX2 60 yX2_needAllowed wsX2_needAllowed) := goodIn_app (goodIn_of _ (by decide +kernel)) ggX2_undo_X2_needAllowed
set_option maxRecDepth 20000 in
theorem ggX2_undo_X1_copyFrom : GoodIn wsX2_undo wsX1_copyFrom := goodIn_r _ [14, 15, 16, 17, 18, 19, 20, 21, 22, 23, 24, 25, 26, 27, 28, 29, 30, 31, 32, 33, 39, 40, 41, 42, 43, 44, 45, 46, 47, 48, 49, 50, 51, 52, 53] (by decide +kernel) (by decide +kernel)
set_option maxRecDepth 20000 in
theorem gX2_undo_X1_copyFrom : GoodIn wsX2_undo (wsV RX2 152 RX1 yX1_copyFrom wsX1_copyFrom) := goodIn_app (goodIn_of _ (by decide +kernel)) ggX2_undo_X1_copyFrom
theorem dX2_undo_0 : decode cX2_undo 0 = .ok (.aload_n 0, 1) := by decide +kernel
theorem dX2_undo_1 : decode cX2_undo 1 = .ok (.getfield 196, 3) := by decide +kernel
theorem dX2_undo_4 : decode cX2_undo 4 = .ok (.ifCond .le 7, 3) := by decide +kernel
theorem dX2_undo_7 : decode cX2_undo 7 = .ok (.iconst 1, 1) := by decide +kernel
theorem dX2_undo_8 : decode cX2_undo 8 = .ok (.goto 4, 3) := by decide +kernel
theorem dX2_undo_11 : decode cX2_undo 11 = .ok (.iconst 0, 1) := by decide +kernel
theorem dX2_undo_12 : decode cX2_undo 12 = .ok (.invokestatic 60, 3) := by decide +kernel
theorem dX2_undo_15 : decode cX2_undo 15 = .ok (.aload_n 0, 1) := by decide +kernel
theorem dX2_undo_16 : decode cX2_undo 16 = .ok (.dup, 1) := by decide +kernel
theorem dX2_undo_17 : decode cX2_undo 17 = .ok (.getfield 196, 3) := by decide +kernel
theorem dX2_undo_20 : decode cX2_undo 20 = .ok (.iconst 1, 1) := by decide +kernel
theorem dX2_undo_21 : decode cX2_undo 21 = .ok (.isub, 1) := by decide +kernel
theorem dX2_undo_22 : decode cX2_undo 22 = .ok (.putfield 196, 3) := by decide +kernel
theorem dX2_undo_25 : decode cX2_undo 25 = .ok (.aload_n 0, 1) := by decide +kernel
theorem dX2_undo_26 : decode cX2_undo 26 = .ok (.getfield 12, 3) := by decide +kernel
theorem dX2_undo_29 : decode cX2_undo 29 = .ok (.aload_n 0, 1) := by decide +kernel
theorem dX2_undo_30 : decode cX2_undo 30 = .ok (.getfield 19, 3) := by decide +kernel
theorem dX2_undo_33 : decode cX2_undo 33 = .ok (.aload_n 0, 1) := by decide +kernel
theorem dX2_undo_34 : decode cX2_undo 34 = .ok (.getfield 196, 3) := by decide +kernel
theorem dX2_undo_37 : decode cX2_undo 37 = .ok (.aaload, 1) := by decide +kernel
theorem dX2_undo_38 : decode cX2_undo 38 = .ok (.invokevirtual 152, 3) := by decide +kernel
theorem dX2_undo_41 : decode cX2_undo 41 = .ok (.aload_n 0, 1) := by decide +kernel
theorem dX2_undo_42 : decode cX2_undo 42 = .ok (.getfield 196, 3) := by decide +kernel
theorem dX2_undo_45 : decode cX2_undo 45 = .ok (.ireturn, 1) := by decide +kernel
set_option maxRecDepth 20000 in
theorem ggX2_digest_X1_aboutAll : GoodIn wsX2_digest wsX1_aboutAll := goodIn_r _ [14, 15, 16, 17, 18, 19, 20, 13, 21, 22, 23, 24, 25, 26, 27, 28, 29, 30, 31, 32, 33, 34, 35, 36, 37, 38, 39, 40, 41, 42, 43, 44, 45, 46, 47, 48, 49, 50, 51, 52, 53, 54, 55, 128, 129, 130, 131, 132, 133, 134, 135, 136, 137, 138, 139, 140, 141, 142] (by decide +kernel) (by decide +kernel)
set_option maxRecDepth 20000 in
theorem gX2_digest_X1_aboutAll : GoodIn wsX2_digest (wsV RX2 149 RX1 yX1_aboutAll wsX1_aboutAll) := goodIn_app (goodIn_of _ (by decide +kernel)) ggX2_digest_X1_aboutAll
set_option maxRecDepth 20000 in
theorem ggX2_digest_X2_digestPerson : GoodIn wsX2_digest wsX2_digestPerson := goodIn_r _ [59, 4, 5, 60, 61, 62, 13, 63, 64, 65, 66, 27, 67, 68, 69, 70, 71, 72, 73, 74, 75, 76, 77, 78, 79, 80, 81, 82, 83, 16, 47, 48, 49, 50, 84, 115, 116, 117, 118, 119, 128, 129, 130, 131, 132, 133, 134, 135, 136, 137, 138, 139, 140, 141, 142] (by decide +kernel) (by decide +kernel)
set_option maxRecDepth 20000 in
theorem gX2_digest_X2_digestPerson : GoodIn wsX2_digest (wsV RX2 203 RX2 yX2_digestPerson wsX2_digestPerson) := goodIn_app (goodIn_of _ (by decide +kernel)) ggX2_digest_X2_digestPerson
set_option maxRecDepth 20000 in
theorem ggX2_digest_X2_digestAbsence : GoodIn wsX2_digest wsX2_digestAbsence := goodIn_r _ [88, 4, 5, 7, 89, 90, 91, 92, 13, 93, 94, 95, 22, 96, 55, 43, 44, 45, 46, 15, 47, 48, 49, 50, 97, 98, 99, 100, 101, 102, 103, 104, 65, 75, 76, 77, 78, 64, 79, 66, 105, 106, 107, 108, 109, 110, 111, 112, 113, 114, 115, 116, 117, 118, 119, 128, 129, 130, 131, 132, 133, 134, 135, 136, 137, 138, 139, 140, 141, 142] (by decide +kernel) (by decide +kernel)
set_option maxRecDepth 20000 in
theorem gX2_digest_X2_digestAbsence : GoodIn wsX2_digest (wsV RX2 210 RX2 yX2_digestAbsence wsX2_digestAbsence) := goodIn_app (goodIn_of _ (by decide +kernel)) ggX2_digest_X2_digestAbsence
theorem dX2_digest_0 : decode cX2_digest 0 = .ok (.ldc2_w 199, 3) := by decide +kernel
theorem dX2_digest_3 : decode cX2_digest 3 = .ok (.aload_n 0, 1) := by decide +kernel
theorem dX2_digest_4 : decode cX2_digest 4 = .ok (.getfield 26, 3) := by decide +kernel
theorem dX2_digest_7 : decode cX2_digest 7 = .ok (.getfield 174, 3) := by decide +kernel
theorem dX2_digest_10 : decode cX2_digest 10 = .ok (.i2l, 1) := by decide +kernel
theorem dX2_digest_11 : decode cX2_digest 11 = .ok (.ladd, 1) := by decide +kernel
theorem dX2_digest_12 : decode cX2_digest 12 = .ok (.lstore_n 1, 1) := by decide +kernel
theorem dX2_digest_13 : decode cX2_digest 13 = .ok (.iconst 0, 1) := by decide +kernel
theorem dX2_digest_14 : decode cX2_digest 14 = .ok (.istore_n 3, 1) := by decide +kernel
theorem dX2_digest_15 : decode cX2_digest 15 = .ok (.iload_n 3, 1) := by decide +kernel
theorem dX2_digest_16 : decode cX2_digest 16 = .ok (.bipush 11, 2) := by decide +kernel
theorem dX2_digest_18 : decode cX2_digest 18 = .ok (.if_icmp .ge 25, 3) := by decide +kernel
theorem dX2_digest_21 : decode cX2_digest 21 = .ok (.ldc2_w 201, 3) := by decide +kernel
theorem dX2_digest_24 : decode cX2_digest 24 = .ok (.lload_n 1, 1) := by decide +kernel
theorem dX2_digest_25 : decode cX2_digest 25 = .ok (.lmul, 1) := by decide +kernel
theorem dX2_digest_26 : decode cX2_digest 26 = .ok (.aload_n 0, 1) := by decide +kernel
theorem dX2_digest_27 : decode cX2_digest 27 = .ok (.getfield 12, 3) := by decide +kernel
theorem dX2_digest_30 : decode cX2_digest 30 = .ok (.iload_n 3, 1) := by decide +kernel
theorem dX2_digest_31 : decode cX2_digest 31 = .ok (.invokevirtual 149, 3) := by decide +kernel
theorem dX2_digest_34 : decode cX2_digest 34 = .ok (.i2l, 1) := by decide +kernel
theorem dX2_digest_35 : decode cX2_digest 35 = .ok (.ladd, 1) := by decide +kernel
theorem dX2_digest_36 : decode cX2_digest 36 = .ok (.lstore_n 1, 1) := by decide +kernel
theorem dX2_digest_37 : decode cX2_digest 37 = .ok (.iinc 3 1, 3) := by decide +kernel
theorem dX2_digest_40 : decode cX2_digest 40 = .ok (.goto (-25), 3) := by decide +kernel
theorem dX2_digest_43 : decode cX2_digest 43 = .ok (.iconst 0, 1) := by decide +kernel
theorem dX2_digest_44 : decode cX2_digest 44 = .ok (.istore_n 3, 1) := by decide +kernel
theorem dX2_digest_45 : decode cX2_digest 45 = .ok (.iload_n 3, 1) := by decide +kernel
theorem dX2_digest_46 : decode cX2_digest 46 = .ok (.iconst 3, 1) := by decide +kernel
theorem dX2_digest_47 : decode cX2_digest 47 = .ok (.if_icmp .ge 26, 3) := by decide +kernel
theorem dX2_digest_50 : decode cX2_digest 50 = .ok (.ldc2_w 201, 3) := by decide +kernel
theorem dX2_digest_53 : decode cX2_digest 53 = .ok (.lload_n 1, 1) := by decide +kernel
theorem dX2_digest_54 : decode cX2_digest 54 = .ok (.lmul, 1) := by decide +kernel
theorem dX2_digest_55 : decode cX2_digest 55 = .ok (.aload_n 0, 1) := by decide +kernel
theorem dX2_digest_56 : decode cX2_digest 56 = .ok (.getfield 12, 3) := by decide +kernel
theorem dX2_digest_59 : decode cX2_digest 59 = .ok (.getfield 44, 3) := by decide +kernel
theorem dX2_digest_62 : decode cX2_digest 62 = .ok (.iload_n 3, 1) := by decide +kernel
theorem dX2_digest_63 : decode cX2_digest 63 = .ok (.iaload, 1) := by decide +kernel
theorem dX2_digest_64 : decode cX2_digest 64 = .ok (.i2l, 1) := by decide +kernel
theorem dX2_digest_65 : decode cX2_digest 65 = .ok (.ladd, 1) := by decide +kernel
theorem dX2_digest_66 : decode cX2_digest 66 = .ok (.lstore_n 1, 1) := by decide +kernel
theorem dX2_digest_67 : decode cX2_digest 67 = .ok (.iinc 3 1, 3) := by decide +kernel
theorem dX2_digest_70 : decode cX2_digest 70 = .ok (.goto (-25), 3) := by decide +kernel
theorem dX2_digest_73 : decode cX2_digest 73 = .ok (.iconst 0, 1) := by decide +kernel
theorem dX2_digest_74 : decode cX2_digest 74 = .ok (.istore_n 3, 1) := by decide +kernel
theorem dX2_digest_75 : decode cX2_digest 75 = .ok (.iload_n 3, 1) := by decide +kernel
theorem dX2_digest_76 : decode cX2_digest 76 = .ok (.aload_n 0, 1) := by decide +kernel
theorem dX2_digest_77 : decode cX2_digest 77 = .ok (.getfield 12, 3) := by decide +kernel
theorem dX2_digest_80 : decode cX2_digest 80 = .ok (.getfield 56, 3) := by decide +kernel
theorem dX2_digest_83 : decode cX2_digest 83 = .ok (.if_icmp .ge 16, 3) := by decide +kernel
theorem dX2_digest_86 : decode cX2_digest 86 = .ok (.aload_n 0, 1) := by decide +kernel
theorem dX2_digest_87 : decode cX2_digest 87 = .ok (.lload_n 1, 1) := by decide +kernel
theorem dX2_digest_88 : decode cX2_digest 88 = .ok (.iload_n 3, 1) := by decide +kernel
theorem dX2_digest_89 : decode cX2_digest 89 = .ok (.invokevirtual 203, 3) := by decide +kernel
theorem dX2_digest_92 : decode cX2_digest 92 = .ok (.lstore_n 1, 1) := by decide +kernel
theorem dX2_digest_93 : decode cX2_digest 93 = .ok (.iinc 3 1, 3) := by decide +kernel
theorem dX2_digest_96 : decode cX2_digest 96 = .ok (.goto (-21), 3) := by decide +kernel
theorem dX2_digest_99 : decode cX2_digest 99 = .ok (.iconst 0, 1) := by decide +kernel
theorem dX2_digest_100 : decode cX2_digest 100 = .ok (.istore_n 3, 1) := by decide +kernel
theorem dX2_digest_101 : decode cX2_digest 101 = .ok (.iload_n 3, 1) := by decide +kernel
theorem dX2_digest_102 : decode cX2_digest 102 = .ok (.aload_n 0, 1) := by decide +kernel
theorem dX2_digest_103 : decode cX2_digest 103 = .ok (.getfield 12, 3) := by decide +kernel
theorem dX2_digest_106 : decode cX2_digest 106 = .ok (.getfield 207, 3) := by decide +kernel
theorem dX2_digest_109 : decode cX2_digest 109 = .ok (.if_icmp .ge 16, 3) := by decide +kernel
theorem dX2_digest_112 : decode cX2_digest 112 = .ok (.aload_n 0, 1) := by decide +kernel
theorem dX2_digest_113 : decode cX2_digest 113 = .ok (.lload_n 1, 1) := by decide +kernel
theorem dX2_digest_114 : decode cX2_digest 114 = .ok (.iload_n 3, 1) := by decide +kernel
theorem dX2_digest_115 : decode cX2_digest 115 = .ok (.invokevirtual 210, 3) := by decide +kernel
theorem dX2_digest_118 : decode cX2_digest 118 = .ok (.lstore_n 1, 1) := by decide +kernel
theorem dX2_digest_119 : decode cX2_digest 119 = .ok (.iinc 3 1, 3) := by decide +kernel
theorem dX2_digest_122 : decode cX2_digest 122 = .ok (.goto (-21), 3) := by decide +kernel
theorem dX2_digest_125 : decode cX2_digest 125 = .ok (.ldc2_w 201, 3) := by decide +kernel
theorem dX2_digest_128 : decode cX2_digest 128 = .ok (.lload_n 1, 1) := by decide +kernel
theorem dX2_digest_129 : decode cX2_digest 129 = .ok (.lmul, 1) := by decide +kernel
theorem dX2_digest_130 : decode cX2_digest 130 = .ok (.aload_n 0, 1) := by decide +kernel
theorem dX2_digest_131 : decode cX2_digest 131 = .ok (.getfield 196, 3) := by decide +kernel
theorem dX2_digest_134 : decode cX2_digest 134 = .ok (.i2l, 1) := by decide +kernel
theorem dX2_digest_135 : decode cX2_digest 135 = .ok (.ladd, 1) := by decide +kernel
theorem dX2_digest_136 : decode cX2_digest 136 = .ok (.lreturn, 1) := by decide +kernel
set_option maxRecDepth 20000 in
theorem ggX2_digestPerson_X1_aboutPerson : GoodIn wsX2_digestPerson wsX1_aboutPerson := goodIn_r _ [7, 8, 9, 10, 11, 12, 13, 14, 15, 16, 17, 18, 19, 20, 21, 22, 6, 23, 24, 25, 26, 27, 28, 29, 30, 31, 32, 33, 40, 41, 42, 43, 44, 45, 46, 47, 48, 49, 50, 51, 52, 53, 54] (by decide +kernel) (by decide +kernel)
set_option maxRecDepth 20000 in
theorem gX2_digestPerson_X1_aboutPerson : GoodIn wsX2_digestPerson (wsV RX2 139 RX1 yX1_aboutPerson wsX1_aboutPerson) := goodIn_app (goodIn_of _ (by decide +kernel)) ggX2_digestPerson_X1_aboutPerson
set_option maxRecDepth 20000 in
theorem ggX2_digestPerson_X1_worked : GoodIn wsX2_digestPerson wsX1_worked := goodIn_r _ [23, 8, 9, 24, 10, 40, 41, 42, 43, 44, 45, 46, 47, 48, 49, 50, 51, 52, 53, 54] (by decide +kernel) (by decide +kernel)
set_option maxRecDepth 20000 in
theorem gX2_digestPerson_X1_worked : GoodIn wsX2_digestPerson (wsV RX2 142 RX1 yX1_worked wsX1_worked) := goodIn_app (goodIn_of _ (by decide +kernel)) ggX2_digestPerson_X1_worked
theorem dX2_digestPerson_0 : decode cX2_digestPerson 0 = .ok (.lload_n 1, 1) := by decide +kernel
theorem dX2_digestPerson_1 : decode cX2_digestPerson 1 = .ok (.lstore 4, 2) := by decide +kernel
theorem dX2_digestPerson_3 : decode cX2_digestPerson 3 = .ok (.iconst 0, 1) := by decide +kernel
theorem dX2_digestPerson_4 : decode cX2_digestPerson 4 = .ok (.istore 6, 2) := by decide +kernel
theorem dX2_digestPerson_6 : decode cX2_digestPerson 6 = .ok (.iload 6, 2) := by decide +kernel
theorem dX2_digestPerson_8 : decode cX2_digestPerson 8 = .ok (.bipush 7, 2) := by decide +kernel
theorem dX2_digestPerson_10 : decode cX2_digestPerson 10 = .ok (.if_icmp .ge 29, 3) := by decide +kernel
theorem dX2_digestPerson_13 : decode cX2_digestPerson 13 = .ok (.ldc2_w 201, 3) := by decide +kernel
theorem dX2_digestPerson_16 : decode cX2_digestPerson 16 = .ok (.lload 4, 2) := by decide +kernel
theorem dX2_digestPerson_18 : decode cX2_digestPerson 18 = .ok (.lmul, 1) := by decide +kernel
theorem dX2_digestPerson_19 : decode cX2_digestPerson 19 = .ok (.aload_n 0, 1) := by decide +kernel
theorem dX2_digestPerson_20 : decode cX2_digestPerson 20 = .ok (.getfield 12, 3) := by decide +kernel
theorem dX2_digestPerson_23 : decode cX2_digestPerson 23 = .ok (.iload_n 3, 1) := by decide +kernel
theorem dX2_digestPerson_24 : decode cX2_digestPerson 24 = .ok (.iload 6, 2) := by decide +kernel
theorem dX2_digestPerson_26 : decode cX2_digestPerson 26 = .ok (.invokevirtual 139, 3) := by decide +kernel
theorem dX2_digestPerson_29 : decode cX2_digestPerson 29 = .ok (.i2l, 1) := by decide +kernel
theorem dX2_digestPerson_30 : decode cX2_digestPerson 30 = .ok (.ladd, 1) := by decide +kernel
theorem dX2_digestPerson_31 : decode cX2_digestPerson 31 = .ok (.lstore 4, 2) := by decide +kernel
theorem dX2_digestPerson_33 : decode cX2_digestPerson 33 = .ok (.iinc 6 1, 3) := by decide +kernel
theorem dX2_digestPerson_36 : decode cX2_digestPerson 36 = .ok (.goto (-30), 3) := by decide +kernel
theorem dX2_digestPerson_39 : decode cX2_digestPerson 39 = .ok (.ldc2_w 201, 3) := by decide +kernel
theorem dX2_digestPerson_42 : decode cX2_digestPerson 42 = .ok (.lload 4, 2) := by decide +kernel
theorem dX2_digestPerson_44 : decode cX2_digestPerson 44 = .ok (.lmul, 1) := by decide +kernel
theorem dX2_digestPerson_45 : decode cX2_digestPerson 45 = .ok (.aload_n 0, 1) := by decide +kernel
theorem dX2_digestPerson_46 : decode cX2_digestPerson 46 = .ok (.getfield 12, 3) := by decide +kernel
theorem dX2_digestPerson_49 : decode cX2_digestPerson 49 = .ok (.iload_n 3, 1) := by decide +kernel
theorem dX2_digestPerson_50 : decode cX2_digestPerson 50 = .ok (.invokevirtual 142, 3) := by decide +kernel
theorem dX2_digestPerson_53 : decode cX2_digestPerson 53 = .ok (.ladd, 1) := by decide +kernel
theorem dX2_digestPerson_54 : decode cX2_digestPerson 54 = .ok (.lreturn, 1) := by decide +kernel
set_option maxRecDepth 20000 in
theorem ggX2_digestAbsence_X1_aboutAbsence : GoodIn wsX2_digestAbsence wsX1_aboutAbsence := goodIn_r _ [9, 10, 11, 12, 13, 14, 15, 16, 17, 8, 18, 19, 20, 21, 22, 23, 24, 25, 26, 27, 28, 29, 30, 31, 32, 33, 34, 35, 36, 37, 38, 39, 40, 41, 42, 43, 44, 45, 46, 47, 48, 55, 56, 57, 58, 59, 60, 61, 62, 63, 64, 65, 66, 67, 68, 69] (by decide +kernel) (by decide +kernel)
end
section
set_option maxRecDepth 20000 in
theorem gX2_digestAbsence_X1_aboutAbsence : GoodIn wsX2_digestAbsence (wsV RX2 146 RX1 yX1_aboutAbsence wsX1_aboutAbsence) := goodIn_app (goodIn_of _ (by decide +kernel)) ggX2_digestAbsence_X1_aboutAbsence
set_option maxRecDepth 20000 in
theorem ggX2_digestAbsence_X2_bidIndex : GoodIn wsX2_digestAbsence wsX2_bidIndex := goodIn_r _ [23] (by decide +kernel) (by decide +kernel)
set_option maxRecDepth 20000 in
theorem gX2_digestAbsence_X2_bidIndex : GoodIn wsX2_digestAbsence (va_wsS RX2 102 yX2_bidIndex wsX2_bidIndex) := goodIn_app (goodIn_of _ (by decide +kernel)) ggX2_digestAbsence_X2_bidIndex
theorem dX2_digestAbsence_0 : decode cX2_digestAbsence 0 = .ok (.lload_n 1, 1) := by decide +kernel
theorem dX2_digestAbsence_1 : decode cX2_digestAbsence 1 = .ok (.lstore 4, 2) := by decide +kernel
theorem dX2_digestAbsence_3 : decode cX2_digestAbsence 3 = .ok (.iconst 0, 1) := by decide +kernel
theorem dX2_digestAbsence_4 : decode cX2_digestAbsence 4 = .ok (.istore 6, 2) := by decide +kernel
theorem dX2_digestAbsence_6 : decode cX2_digestAbsence 6 = .ok (.iload 6, 2) := by decide +kernel
theorem dX2_digestAbsence_8 : decode cX2_digestAbsence 8 = .ok (.bipush 7, 2) := by decide +kernel
theorem dX2_digestAbsence_10 : decode cX2_digestAbsence 10 = .ok (.if_icmp .ge 29, 3) := by decide +kernel
theorem dX2_digestAbsence_13 : decode cX2_digestAbsence 13 = .ok (.ldc2_w 201, 3) := by decide +kernel
theorem dX2_digestAbsence_16 : decode cX2_digestAbsence 16 = .ok (.lload 4, 2) := by decide +kernel
theorem dX2_digestAbsence_18 : decode cX2_digestAbsence 18 = .ok (.lmul, 1) := by decide +kernel
theorem dX2_digestAbsence_19 : decode cX2_digestAbsence 19 = .ok (.aload_n 0, 1) := by decide +kernel
theorem dX2_digestAbsence_20 : decode cX2_digestAbsence 20 = .ok (.getfield 12, 3) := by decide +kernel
theorem dX2_digestAbsence_23 : decode cX2_digestAbsence 23 = .ok (.iload_n 3, 1) := by decide +kernel
theorem dX2_digestAbsence_24 : decode cX2_digestAbsence 24 = .ok (.iload 6, 2) := by decide +kernel
theorem dX2_digestAbsence_26 : decode cX2_digestAbsence 26 = .ok (.invokevirtual 146, 3) := by decide +kernel
theorem dX2_digestAbsence_29 : decode cX2_digestAbsence 29 = .ok (.i2l, 1) := by decide +kernel
theorem dX2_digestAbsence_30 : decode cX2_digestAbsence 30 = .ok (.ladd, 1) := by decide +kernel
theorem dX2_digestAbsence_31 : decode cX2_digestAbsence 31 = .ok (.lstore 4, 2) := by decide +kernel
theorem dX2_digestAbsence_33 : decode cX2_digestAbsence 33 = .ok (.iinc 6 1, 3) := by decide +kernel
theorem dX2_digestAbsence_36 : decode cX2_digestAbsence 36 = .ok (.goto (-30), 3) := by decide +kernel
theorem dX2_digestAbsence_39 : decode cX2_digestAbsence 39 = .ok (.iconst 0, 1) := by decide +kernel
theorem dX2_digestAbsence_40 : decode cX2_digestAbsence 40 = .ok (.istore 6, 2) := by decide +kernel
theorem dX2_digestAbsence_42 : decode cX2_digestAbsence 42 = .ok (.iload 6, 2) := by decide +kernel
theorem dX2_digestAbsence_44 : decode cX2_digestAbsence 44 = .ok (.aload_n 0, 1) := by decide +kernel
theorem dX2_digestAbsence_45 : decode cX2_digestAbsence 45 = .ok (.getfield 12, 3) := by decide +kernel
theorem dX2_digestAbsence_48 : decode cX2_digestAbsence 48 = .ok (.getfield 56, 3) := by decide +kernel
theorem dX2_digestAbsence_51 : decode cX2_digestAbsence 51 = .ok (.if_icmp .ge 33, 3) := by decide +kernel
theorem dX2_digestAbsence_54 : decode cX2_digestAbsence 54 = .ok (.ldc2_w 201, 3) := by decide +kernel
theorem dX2_digestAbsence_57 : decode cX2_digestAbsence 57 = .ok (.lload 4, 2) := by decide +kernel
theorem dX2_digestAbsence_59 : decode cX2_digestAbsence 59 = .ok (.lmul, 1) := by decide +kernel
theorem dX2_digestAbsence_60 : decode cX2_digestAbsence 60 = .ok (.aload_n 0, 1) := by decide +kernel
theorem dX2_digestAbsence_61 : decode cX2_digestAbsence 61 = .ok (.getfield 12, 3) := by decide +kernel
theorem dX2_digestAbsence_64 : decode cX2_digestAbsence 64 = .ok (.getfield 99, 3) := by decide +kernel
theorem dX2_digestAbsence_67 : decode cX2_digestAbsence 67 = .ok (.iload 6, 2) := by decide +kernel
theorem dX2_digestAbsence_69 : decode cX2_digestAbsence 69 = .ok (.iload_n 3, 1) := by decide +kernel
theorem dX2_digestAbsence_70 : decode cX2_digestAbsence 70 = .ok (.invokestatic 102, 3) := by decide +kernel
theorem dX2_digestAbsence_73 : decode cX2_digestAbsence 73 = .ok (.iaload, 1) := by decide +kernel
theorem dX2_digestAbsence_74 : decode cX2_digestAbsence 74 = .ok (.i2l, 1) := by decide +kernel
theorem dX2_digestAbsence_75 : decode cX2_digestAbsence 75 = .ok (.ladd, 1) := by decide +kernel
theorem dX2_digestAbsence_76 : decode cX2_digestAbsence 76 = .ok (.lstore 4, 2) := by decide +kernel
theorem dX2_digestAbsence_78 : decode cX2_digestAbsence 78 = .ok (.iinc 6 1, 3) := by decide +kernel
theorem dX2_digestAbsence_81 : decode cX2_digestAbsence 81 = .ok (.goto (-39), 3) := by decide +kernel
theorem dX2_digestAbsence_84 : decode cX2_digestAbsence 84 = .ok (.lload 4, 2) := by decide +kernel
theorem dX2_digestAbsence_86 : decode cX2_digestAbsence 86 = .ok (.lreturn, 1) := by decide +kernel
set_option maxRecDepth 20000 in
theorem ggX2_needPerson_X1_hasPerson : GoodIn wsX2_needPerson wsX1_hasPerson := goodIn_r _ [8, 9, 15, 16, 17, 18, 19, 20, 21, 22, 23, 24, 25, 26, 27, 28, 29] (by decide +kernel) (by decide +kernel)
set_option maxRecDepth 20000 in
theorem gX2_needPerson_X1_hasPerson : GoodIn wsX2_needPerson (wsV RX2 213 RX1 yX1_hasPerson wsX1_hasPerson) := goodIn_app (goodIn_of _ (by decide +kernel)) ggX2_needPerson_X1_hasPerson
theorem dX2_needPerson_0 : decode cX2_needPerson 0 = .ok (.aload_n 0, 1) := by decide +kernel
theorem dX2_needPerson_1 : decode cX2_needPerson 1 = .ok (.getfield 12, 3) := by decide +kernel
theorem dX2_needPerson_4 : decode cX2_needPerson 4 = .ok (.iload_n 1, 1) := by decide +kernel
theorem dX2_needPerson_5 : decode cX2_needPerson 5 = .ok (.invokevirtual 213, 3) := by decide +kernel
theorem dX2_needPerson_8 : decode cX2_needPerson 8 = .ok (.ifCond .ne 13, 3) := by decide +kernel
theorem dX2_needPerson_11 : decode cX2_needPerson 11 = .ok (.new 216, 3) := by decide +kernel
theorem dX2_needPerson_14 : decode cX2_needPerson 14 = .ok (.dup, 1) := by decide +kernel
theorem dX2_needPerson_15 : decode cX2_needPerson 15 = .ok (.ldc 218, 2) := by decide +kernel
theorem dX2_needPerson_17 : decode cX2_needPerson 17 = .ok (.invokespecial 220, 3) := by decide +kernel
theorem dX2_needPerson_20 : decode cX2_needPerson 20 = .ok (.athrow, 1) := by decide +kernel
theorem dX2_needPerson_21 : decode cX2_needPerson 21 = .ok (.return_, 1) := by decide +kernel
set_option maxRecDepth 20000 in
theorem ggX2_needAbsence_X1_hasAbsence : GoodIn wsX2_needAbsence wsX1_hasAbsence := goodIn_r _ [8, 9, 15, 16, 17, 18, 19, 20, 21, 22, 23, 24, 25, 26, 27, 28, 29] (by decide +kernel) (by decide +kernel)
set_option maxRecDepth 20000 in
theorem gX2_needAbsence_X1_hasAbsence : GoodIn wsX2_needAbsence (wsV RX2 221 RX1 yX1_hasAbsence wsX1_hasAbsence) := goodIn_app (goodIn_of _ (by decide +kernel)) ggX2_needAbsence_X1_hasAbsence
theorem dX2_needAbsence_0 : decode cX2_needAbsence 0 = .ok (.aload_n 0, 1) := by decide +kernel
theorem dX2_needAbsence_1 : decode cX2_needAbsence 1 = .ok (.getfield 12, 3) := by decide +kernel
theorem dX2_needAbsence_4 : decode cX2_needAbsence 4 = .ok (.iload_n 1, 1) := by decide +kernel
theorem dX2_needAbsence_5 : decode cX2_needAbsence 5 = .ok (.invokevirtual 221, 3) := by decide +kernel
theorem dX2_needAbsence_8 : decode cX2_needAbsence 8 = .ok (.ifCond .ne 13, 3) := by decide +kernel
theorem dX2_needAbsence_11 : decode cX2_needAbsence 11 = .ok (.new 216, 3) := by decide +kernel
theorem dX2_needAbsence_14 : decode cX2_needAbsence 14 = .ok (.dup, 1) := by decide +kernel
theorem dX2_needAbsence_15 : decode cX2_needAbsence 15 = .ok (.ldc 224, 2) := by decide +kernel
theorem dX2_needAbsence_17 : decode cX2_needAbsence 17 = .ok (.invokespecial 220, 3) := by decide +kernel
theorem dX2_needAbsence_20 : decode cX2_needAbsence 20 = .ok (.athrow, 1) := by decide +kernel
theorem dX2_needAbsence_21 : decode cX2_needAbsence 21 = .ok (.return_, 1) := by decide +kernel
theorem dX2_needInRange_0 : decode cX2_needInRange 0 = .ok (.iload_n 0, 1) := by decide +kernel
theorem dX2_needInRange_1 : decode cX2_needInRange 1 = .ok (.iload_n 1, 1) := by decide +kernel
theorem dX2_needInRange_2 : decode cX2_needInRange 2 = .ok (.if_icmp .lt 8, 3) := by decide +kernel
theorem dX2_needInRange_5 : decode cX2_needInRange 5 = .ok (.iload_n 0, 1) := by decide +kernel
theorem dX2_needInRange_6 : decode cX2_needInRange 6 = .ok (.iload_n 2, 1) := by decide +kernel
theorem dX2_needInRange_7 : decode cX2_needInRange 7 = .ok (.if_icmp .le 13, 3) := by decide +kernel
theorem dX2_needInRange_10 : decode cX2_needInRange 10 = .ok (.new 49, 3) := by decide +kernel
theorem dX2_needInRange_13 : decode cX2_needInRange 13 = .ok (.dup, 1) := by decide +kernel
theorem dX2_needInRange_14 : decode cX2_needInRange 14 = .ok (.ldc 226, 2) := by decide +kernel
theorem dX2_needInRange_16 : decode cX2_needInRange 16 = .ok (.invokespecial 53, 3) := by decide +kernel
theorem dX2_needInRange_19 : decode cX2_needInRange 19 = .ok (.athrow, 1) := by decide +kernel
theorem dX2_needInRange_20 : decode cX2_needInRange 20 = .ok (.return_, 1) := by decide +kernel
theorem dX2_needAllowed_0 : decode cX2_needAllowed 0 = .ok (.iload_n 0, 1) := by decide +kernel
theorem dX2_needAllowed_1 : decode cX2_needAllowed 1 = .ok (.ifCond .ne 13, 3) := by decide +kernel
theorem dX2_needAllowed_4 : decode cX2_needAllowed 4 = .ok (.new 228, 3) := by decide +kernel
theorem dX2_needAllowed_7 : decode cX2_needAllowed 7 = .ok (.dup, 1) := by decide +kernel
theorem dX2_needAllowed_8 : decode cX2_needAllowed 8 = .ok (.ldc 230, 2) := by decide +kernel
theorem dX2_needAllowed_10 : decode cX2_needAllowed 10 = .ok (.invokespecial 232, 3) := by decide +kernel
theorem dX2_needAllowed_13 : decode cX2_needAllowed 13 = .ok (.athrow, 1) := by decide +kernel
theorem dX2_needAllowed_14 : decode cX2_needAllowed 14 = .ok (.return_, 1) := by decide +kernel
set_option maxRecDepth 20000 in
theorem ggX2_save_X2_dropOldest : GoodIn wsX2_save wsX2_dropOldest := goodIn_r _ [8, 2, 1, 33, 34, 35, 36, 37] (by decide +kernel) (by decide +kernel)
set_option maxRecDepth 20000 in
theorem gX2_save_X2_dropOldest : GoodIn wsX2_save (wsV RX2 233 RX2 yX2_dropOldest wsX2_dropOldest) := goodIn_app (goodIn_of _ (by decide +kernel)) ggX2_save_X2_dropOldest
set_option maxRecDepth 20000 in
theorem ggX2_save_X1_copyFrom : GoodIn wsX2_save wsX1_copyFrom := goodIn_r _ [13, 14, 15, 16, 17, 18, 19, 20, 21, 22, 23, 24, 25, 26, 27, 28, 29, 30, 31, 32, 38, 39, 40, 41, 42, 43, 44, 45, 46, 47, 48, 49, 50, 51, 52] (by decide +kernel) (by decide +kernel)
set_option maxRecDepth 20000 in
theorem gX2_save_X1_copyFrom : GoodIn wsX2_save (wsV RX2 152 RX1 yX1_copyFrom wsX1_copyFrom) := goodIn_app (goodIn_of _ (by decide +kernel)) ggX2_save_X1_copyFrom
theorem dX2_save_0 : decode cX2_save 0 = .ok (.aload_n 0, 1) := by decide +kernel
theorem dX2_save_1 : decode cX2_save 1 = .ok (.getfield 196, 3) := by decide +kernel
theorem dX2_save_4 : decode cX2_save 4 = .ok (.iconst 4, 1) := by decide +kernel
theorem dX2_save_5 : decode cX2_save 5 = .ok (.if_icmp .ne 7, 3) := by decide +kernel
theorem dX2_save_8 : decode cX2_save 8 = .ok (.aload_n 0, 1) := by decide +kernel
theorem dX2_save_9 : decode cX2_save 9 = .ok (.invokevirtual 233, 3) := by decide +kernel
theorem dX2_save_12 : decode cX2_save 12 = .ok (.aload_n 0, 1) := by decide +kernel
theorem dX2_save_13 : decode cX2_save 13 = .ok (.getfield 19, 3) := by decide +kernel
theorem dX2_save_16 : decode cX2_save 16 = .ok (.aload_n 0, 1) := by decide +kernel
theorem dX2_save_17 : decode cX2_save 17 = .ok (.getfield 196, 3) := by decide +kernel
theorem dX2_save_20 : decode cX2_save 20 = .ok (.aaload, 1) := by decide +kernel
theorem dX2_save_21 : decode cX2_save 21 = .ok (.aload_n 0, 1) := by decide +kernel
theorem dX2_save_22 : decode cX2_save 22 = .ok (.getfield 12, 3) := by decide +kernel
theorem dX2_save_25 : decode cX2_save 25 = .ok (.invokevirtual 152, 3) := by decide +kernel
theorem dX2_save_28 : decode cX2_save 28 = .ok (.aload_n 0, 1) := by decide +kernel
theorem dX2_save_29 : decode cX2_save 29 = .ok (.dup, 1) := by decide +kernel
theorem dX2_save_30 : decode cX2_save 30 = .ok (.getfield 196, 3) := by decide +kernel
theorem dX2_save_33 : decode cX2_save 33 = .ok (.iconst 1, 1) := by decide +kernel
theorem dX2_save_34 : decode cX2_save 34 = .ok (.iadd, 1) := by decide +kernel
theorem dX2_save_35 : decode cX2_save 35 = .ok (.putfield 196, 3) := by decide +kernel
theorem dX2_save_38 : decode cX2_save 38 = .ok (.return_, 1) := by decide +kernel
theorem dX2_dropOldest_0 : decode cX2_dropOldest 0 = .ok (.aload_n 0, 1) := by decide +kernel
theorem dX2_dropOldest_1 : decode cX2_dropOldest 1 = .ok (.getfield 19, 3) := by decide +kernel
theorem dX2_dropOldest_4 : decode cX2_dropOldest 4 = .ok (.iconst 0, 1) := by decide +kernel
theorem dX2_dropOldest_5 : decode cX2_dropOldest 5 = .ok (.aaload, 1) := by decide +kernel
theorem dX2_dropOldest_6 : decode cX2_dropOldest 6 = .ok (.astore_n 1, 1) := by decide +kernel
theorem dX2_dropOldest_7 : decode cX2_dropOldest 7 = .ok (.iconst 1, 1) := by decide +kernel
theorem dX2_dropOldest_8 : decode cX2_dropOldest 8 = .ok (.istore_n 2, 1) := by decide +kernel
theorem dX2_dropOldest_9 : decode cX2_dropOldest 9 = .ok (.iload_n 2, 1) := by decide +kernel
theorem dX2_dropOldest_10 : decode cX2_dropOldest 10 = .ok (.iconst 4, 1) := by decide +kernel
theorem dX2_dropOldest_11 : decode cX2_dropOldest 11 = .ok (.if_icmp .ge 23, 3) := by decide +kernel
theorem dX2_dropOldest_14 : decode cX2_dropOldest 14 = .ok (.aload_n 0, 1) := by decide +kernel
theorem dX2_dropOldest_15 : decode cX2_dropOldest 15 = .ok (.getfield 19, 3) := by decide +kernel
theorem dX2_dropOldest_18 : decode cX2_dropOldest 18 = .ok (.iload_n 2, 1) := by decide +kernel
theorem dX2_dropOldest_19 : decode cX2_dropOldest 19 = .ok (.iconst 1, 1) := by decide +kernel
theorem dX2_dropOldest_20 : decode cX2_dropOldest 20 = .ok (.isub, 1) := by decide +kernel
theorem dX2_dropOldest_21 : decode cX2_dropOldest 21 = .ok (.aload_n 0, 1) := by decide +kernel
theorem dX2_dropOldest_22 : decode cX2_dropOldest 22 = .ok (.getfield 19, 3) := by decide +kernel
theorem dX2_dropOldest_25 : decode cX2_dropOldest 25 = .ok (.iload_n 2, 1) := by decide +kernel
theorem dX2_dropOldest_26 : decode cX2_dropOldest 26 = .ok (.aaload, 1) := by decide +kernel
theorem dX2_dropOldest_27 : decode cX2_dropOldest 27 = .ok (.aastore, 1) := by decide +kernel
theorem dX2_dropOldest_28 : decode cX2_dropOldest 28 = .ok (.iinc 2 1, 3) := by decide +kernel
theorem dX2_dropOldest_31 : decode cX2_dropOldest 31 = .ok (.goto (-22), 3) := by decide +kernel
theorem dX2_dropOldest_34 : decode cX2_dropOldest 34 = .ok (.aload_n 0, 1) := by decide +kernel
theorem dX2_dropOldest_35 : decode cX2_dropOldest 35 = .ok (.getfield 19, 3) := by decide +kernel
theorem dX2_dropOldest_38 : decode cX2_dropOldest 38 = .ok (.iconst 3, 1) := by decide +kernel
theorem dX2_dropOldest_39 : decode cX2_dropOldest 39 = .ok (.aload_n 1, 1) := by decide +kernel
theorem dX2_dropOldest_40 : decode cX2_dropOldest 40 = .ok (.aastore, 1) := by decide +kernel
theorem dX2_dropOldest_41 : decode cX2_dropOldest 41 = .ok (.aload_n 0, 1) := by decide +kernel
theorem dX2_dropOldest_42 : decode cX2_dropOldest 42 = .ok (.dup, 1) := by decide +kernel
theorem dX2_dropOldest_43 : decode cX2_dropOldest 43 = .ok (.getfield 196, 3) := by decide +kernel
theorem dX2_dropOldest_46 : decode cX2_dropOldest 46 = .ok (.iconst 1, 1) := by decide +kernel
theorem dX2_dropOldest_47 : decode cX2_dropOldest 47 = .ok (.isub, 1) := by decide +kernel
theorem dX2_dropOldest_48 : decode cX2_dropOldest 48 = .ok (.putfield 196, 3) := by decide +kernel
theorem dX2_dropOldest_51 : decode cX2_dropOldest 51 = .ok (.return_, 1) := by decide +kernel
theorem dX2_bidIndex_0 : decode cX2_bidIndex 0 = .ok (.iload_n 1, 1) := by decide +kernel
theorem dX2_bidIndex_1 : decode cX2_bidIndex 1 = .ok (.bipush 8, 2) := by decide +kernel
theorem dX2_bidIndex_3 : decode cX2_bidIndex 3 = .ok (.imul, 1) := by decide +kernel
theorem dX2_bidIndex_4 : decode cX2_bidIndex 4 = .ok (.iload_n 0, 1) := by decide +kernel
theorem dX2_bidIndex_5 : decode cX2_bidIndex 5 = .ok (.iadd, 1) := by decide +kernel
theorem dX2_bidIndex_6 : decode cX2_bidIndex 6 = .ok (.ireturn, 1) := by decide +kernel
theorem dJ13_bitCount_95d88_0 : decode cJ13_bitCount_95d88 0 = .ok (.lload_n 0, 1) := by decide +kernel
theorem dJ13_bitCount_95d88_1 : decode cJ13_bitCount_95d88 1 = .ok (.lload_n 0, 1) := by decide +kernel
theorem dJ13_bitCount_95d88_2 : decode cJ13_bitCount_95d88 2 = .ok (.iconst 1, 1) := by decide +kernel
theorem dJ13_bitCount_95d88_3 : decode cJ13_bitCount_95d88 3 = .ok (.lushr, 1) := by decide +kernel
theorem dJ13_bitCount_95d88_4 : decode cJ13_bitCount_95d88 4 = .ok (.ldc2_w 314, 3) := by decide +kernel
theorem dJ13_bitCount_95d88_7 : decode cJ13_bitCount_95d88 7 = .ok (.land, 1) := by decide +kernel
theorem dJ13_bitCount_95d88_8 : decode cJ13_bitCount_95d88 8 = .ok (.lsub, 1) := by decide +kernel
theorem dJ13_bitCount_95d88_9 : decode cJ13_bitCount_95d88 9 = .ok (.lstore_n 0, 1) := by decide +kernel
theorem dJ13_bitCount_95d88_10 : decode cJ13_bitCount_95d88 10 = .ok (.lload_n 0, 1) := by decide +kernel
theorem dJ13_bitCount_95d88_11 : decode cJ13_bitCount_95d88 11 = .ok (.ldc2_w 316, 3) := by decide +kernel
theorem dJ13_bitCount_95d88_14 : decode cJ13_bitCount_95d88 14 = .ok (.land, 1) := by decide +kernel
theorem dJ13_bitCount_95d88_15 : decode cJ13_bitCount_95d88 15 = .ok (.lload_n 0, 1) := by decide +kernel
theorem dJ13_bitCount_95d88_16 : decode cJ13_bitCount_95d88 16 = .ok (.iconst 2, 1) := by decide +kernel
theorem dJ13_bitCount_95d88_17 : decode cJ13_bitCount_95d88 17 = .ok (.lushr, 1) := by decide +kernel
theorem dJ13_bitCount_95d88_18 : decode cJ13_bitCount_95d88 18 = .ok (.ldc2_w 316, 3) := by decide +kernel
theorem dJ13_bitCount_95d88_21 : decode cJ13_bitCount_95d88 21 = .ok (.land, 1) := by decide +kernel
theorem dJ13_bitCount_95d88_22 : decode cJ13_bitCount_95d88 22 = .ok (.ladd, 1) := by decide +kernel
theorem dJ13_bitCount_95d88_23 : decode cJ13_bitCount_95d88 23 = .ok (.lstore_n 0, 1) := by decide +kernel
theorem dJ13_bitCount_95d88_24 : decode cJ13_bitCount_95d88 24 = .ok (.lload_n 0, 1) := by decide +kernel
theorem dJ13_bitCount_95d88_25 : decode cJ13_bitCount_95d88 25 = .ok (.lload_n 0, 1) := by decide +kernel
theorem dJ13_bitCount_95d88_26 : decode cJ13_bitCount_95d88 26 = .ok (.iconst 4, 1) := by decide +kernel
theorem dJ13_bitCount_95d88_27 : decode cJ13_bitCount_95d88 27 = .ok (.lushr, 1) := by decide +kernel
theorem dJ13_bitCount_95d88_28 : decode cJ13_bitCount_95d88 28 = .ok (.ladd, 1) := by decide +kernel
theorem dJ13_bitCount_95d88_29 : decode cJ13_bitCount_95d88 29 = .ok (.ldc2_w 318, 3) := by decide +kernel
theorem dJ13_bitCount_95d88_32 : decode cJ13_bitCount_95d88 32 = .ok (.land, 1) := by decide +kernel
theorem dJ13_bitCount_95d88_33 : decode cJ13_bitCount_95d88 33 = .ok (.lstore_n 0, 1) := by decide +kernel
theorem dJ13_bitCount_95d88_34 : decode cJ13_bitCount_95d88 34 = .ok (.lload_n 0, 1) := by decide +kernel
theorem dJ13_bitCount_95d88_35 : decode cJ13_bitCount_95d88 35 = .ok (.lload_n 0, 1) := by decide +kernel
theorem dJ13_bitCount_95d88_36 : decode cJ13_bitCount_95d88 36 = .ok (.bipush 8, 2) := by decide +kernel
theorem dJ13_bitCount_95d88_38 : decode cJ13_bitCount_95d88 38 = .ok (.lushr, 1) := by decide +kernel
theorem dJ13_bitCount_95d88_39 : decode cJ13_bitCount_95d88 39 = .ok (.ladd, 1) := by decide +kernel
theorem dJ13_bitCount_95d88_40 : decode cJ13_bitCount_95d88 40 = .ok (.lstore_n 0, 1) := by decide +kernel
theorem dJ13_bitCount_95d88_41 : decode cJ13_bitCount_95d88 41 = .ok (.lload_n 0, 1) := by decide +kernel
theorem dJ13_bitCount_95d88_42 : decode cJ13_bitCount_95d88 42 = .ok (.lload_n 0, 1) := by decide +kernel
theorem dJ13_bitCount_95d88_43 : decode cJ13_bitCount_95d88 43 = .ok (.bipush 16, 2) := by decide +kernel
theorem dJ13_bitCount_95d88_45 : decode cJ13_bitCount_95d88 45 = .ok (.lushr, 1) := by decide +kernel
theorem dJ13_bitCount_95d88_46 : decode cJ13_bitCount_95d88 46 = .ok (.ladd, 1) := by decide +kernel
theorem dJ13_bitCount_95d88_47 : decode cJ13_bitCount_95d88 47 = .ok (.lstore_n 0, 1) := by decide +kernel
theorem dJ13_bitCount_95d88_48 : decode cJ13_bitCount_95d88 48 = .ok (.lload_n 0, 1) := by decide +kernel
theorem dJ13_bitCount_95d88_49 : decode cJ13_bitCount_95d88 49 = .ok (.lload_n 0, 1) := by decide +kernel
theorem dJ13_bitCount_95d88_50 : decode cJ13_bitCount_95d88 50 = .ok (.bipush 32, 2) := by decide +kernel
theorem dJ13_bitCount_95d88_52 : decode cJ13_bitCount_95d88 52 = .ok (.lushr, 1) := by decide +kernel
theorem dJ13_bitCount_95d88_53 : decode cJ13_bitCount_95d88 53 = .ok (.ladd, 1) := by decide +kernel
theorem dJ13_bitCount_95d88_54 : decode cJ13_bitCount_95d88 54 = .ok (.lstore_n 0, 1) := by decide +kernel
theorem dJ13_bitCount_95d88_55 : decode cJ13_bitCount_95d88 55 = .ok (.lload_n 0, 1) := by decide +kernel
theorem dJ13_bitCount_95d88_56 : decode cJ13_bitCount_95d88 56 = .ok (.l2i, 1) := by decide +kernel
theorem dJ13_bitCount_95d88_57 : decode cJ13_bitCount_95d88 57 = .ok (.bipush 127, 2) := by decide +kernel
theorem dJ13_bitCount_95d88_59 : decode cJ13_bitCount_95d88 59 = .ok (.iand, 1) := by decide +kernel
theorem dJ13_bitCount_95d88_60 : decode cJ13_bitCount_95d88 60 = .ok (.ireturn, 1) := by decide +kernel
theorem dJ9_max_7cf53_0 : decode cJ9_max_7cf53 0 = .ok (.iload_n 0, 1) := by decide +kernel
theorem dJ9_max_7cf53_1 : decode cJ9_max_7cf53 1 = .ok (.iload_n 1, 1) := by decide +kernel
theorem dJ9_max_7cf53_2 : decode cJ9_max_7cf53 2 = .ok (.if_icmp .lt 7, 3) := by decide +kernel
theorem dJ9_max_7cf53_5 : decode cJ9_max_7cf53 5 = .ok (.iload_n 0, 1) := by decide +kernel
theorem dJ9_max_7cf53_6 : decode cJ9_max_7cf53 6 = .ok (.goto 4, 3) := by decide +kernel
theorem dJ9_max_7cf53_9 : decode cJ9_max_7cf53 9 = .ok (.iload_n 1, 1) := by decide +kernel
theorem dJ9_max_7cf53_10 : decode cJ9_max_7cf53 10 = .ok (.ireturn, 1) := by decide +kernel
theorem dJ9_min_7cf53_0 : decode cJ9_min_7cf53 0 = .ok (.iload_n 0, 1) := by decide +kernel
theorem dJ9_min_7cf53_1 : decode cJ9_min_7cf53 1 = .ok (.iload_n 1, 1) := by decide +kernel
theorem dJ9_min_7cf53_2 : decode cJ9_min_7cf53 2 = .ok (.if_icmp .gt 7, 3) := by decide +kernel
theorem dJ9_min_7cf53_5 : decode cJ9_min_7cf53 5 = .ok (.iload_n 0, 1) := by decide +kernel
theorem dJ9_min_7cf53_6 : decode cJ9_min_7cf53 6 = .ok (.goto 4, 3) := by decide +kernel
theorem dJ9_min_7cf53_9 : decode cJ9_min_7cf53 9 = .ok (.iload_n 1, 1) := by decide +kernel
theorem dJ9_min_7cf53_10 : decode cJ9_min_7cf53 10 = .ok (.ireturn, 1) := by decide +kernel
theorem dL_cell_0 : decode cL_cell 0 = .ok (.iload_n 1, 1) := by decide +kernel
theorem dL_cell_1 : decode cL_cell 1 = .ok (.aload_n 0, 1) := by decide +kernel
theorem dL_cell_2 : decode cL_cell 2 = .ok (.arraylength, 1) := by decide +kernel
theorem dL_cell_3 : decode cL_cell 3 = .ok (.if_icmp .ge 9, 3) := by decide +kernel
theorem dL_cell_6 : decode cL_cell 6 = .ok (.aload_n 0, 1) := by decide +kernel
theorem dL_cell_7 : decode cL_cell 7 = .ok (.iload_n 1, 1) := by decide +kernel
theorem dL_cell_8 : decode cL_cell 8 = .ok (.iaload, 1) := by decide +kernel
theorem dL_cell_9 : decode cL_cell 9 = .ok (.goto 9, 3) := by decide +kernel
theorem dL_cell_12 : decode cL_cell 12 = .ok (.ldc 7, 2) := by decide +kernel
theorem dL_cell_14 : decode cL_cell 14 = .ok (.iload_n 1, 1) := by decide +kernel
theorem dL_cell_15 : decode cL_cell 15 = .ok (.iconst 3, 1) := by decide +kernel
theorem dL_cell_16 : decode cL_cell 16 = .ok (.iadd, 1) := by decide +kernel
theorem dL_cell_17 : decode cL_cell 17 = .ok (.imul, 1) := by decide +kernel
theorem dL_cell_18 : decode cL_cell 18 = .ok (.ireturn, 1) := by decide +kernel
theorem dL_up_0 : decode cL_up 0 = .ok (.iload_n 0, 1) := by decide +kernel
theorem dL_up_1 : decode cL_up 1 = .ok (.ldc 8, 2) := by decide +kernel
theorem dL_up_3 : decode cL_up 3 = .ok (.iand, 1) := by decide +kernel
theorem dL_up_4 : decode cL_up 4 = .ok (.iload_n 1, 1) := by decide +kernel
theorem dL_up_5 : decode cL_up 5 = .ok (.irem, 1) := by decide +kernel
theorem dL_up_6 : decode cL_up 6 = .ok (.ireturn, 1) := by decide +kernel
theorem dL_some_0 : decode cL_some 0 = .ok (.iload_n 0, 1) := by decide +kernel
theorem dL_some_1 : decode cL_some 1 = .ok (.i2l, 1) := by decide +kernel
theorem dL_some_2 : decode cL_some 2 = .ok (.bipush 16, 2) := by decide +kernel
theorem dL_some_4 : decode cL_some 4 = .ok (.lshl, 1) := by decide +kernel
theorem dL_some_5 : decode cL_some 5 = .ok (.iload_n 1, 1) := by decide +kernel
theorem dL_some_6 : decode cL_some 6 = .ok (.i2l, 1) := by decide +kernel
theorem dL_some_7 : decode cL_some 7 = .ok (.ldc2_w 9, 3) := by decide +kernel
theorem dL_some_10 : decode cL_some 10 = .ok (.land, 1) := by decide +kernel
theorem dL_some_11 : decode cL_some 11 = .ok (.lxor, 1) := by decide +kernel
theorem dL_some_12 : decode cL_some 12 = .ok (.iload_n 1, 1) := by decide +kernel
theorem dL_some_13 : decode cL_some 13 = .ok (.i2l, 1) := by decide +kernel
theorem dL_some_14 : decode cL_some 14 = .ok (.ldc2_w 11, 3) := by decide +kernel
theorem dL_some_17 : decode cL_some 17 = .ok (.lmul, 1) := by decide +kernel
theorem dL_some_18 : decode cL_some 18 = .ok (.land, 1) := by decide +kernel
theorem dL_some_19 : decode cL_some 19 = .ok (.ldc2_w 13, 3) := by decide +kernel
theorem dL_some_22 : decode cL_some 22 = .ok (.land, 1) := by decide +kernel
theorem dL_some_23 : decode cL_some 23 = .ok (.lreturn, 1) := by decide +kernel
set_option maxRecDepth 20000 in
theorem ggL_view_X2_value : GoodIn wsL_view wsX2_value := goodIn_ca (goodIn_r _ [7, 8, 9, 10, 6, 11, 12, 13, 14, 15, 16, 17, 18, 19, 20, 21, 22, 23, 24, 25, 26, 27, 28, 29, 30, 31, 32, 33, 34, 35, 36, 37, 38, 39, 40, 41, 42, 43, 44, 45, 46, 47, 48, 49, 50, 51, 52, 53, 54, 55, 56, 57, 58, 149, 150, 151, 152, 153, 154, 155, 156, 157, 158, 159, 160, 161, 162, 163, 164, 165, 166, 167, 168] (by decide +kernel) (by decide +kernel)) (goodIn_sub (fun _ h => List.mem_cons_of_mem _ (List.mem_append_left _ (List.mem_append_right _ h))) (by decide +kernel))
set_option maxRecDepth 20000 in
theorem gL_view_X2_value : GoodIn wsL_view (wsV RL 19 RX2 yX2_value wsX2_value) := goodIn_app (goodIn_of _ (by decide +kernel)) ggL_view_X2_value
set_option maxRecDepth 20000 in
theorem ggL_view_X2_setting : GoodIn wsL_view wsX2_setting := goodIn_ca (goodIn_r _ [62, 8, 63, 9, 10, 6, 11, 12, 13, 149, 150, 151, 152, 153, 154, 155, 156, 157, 158, 159, 160, 161, 162, 163, 164, 165, 166, 167, 168] (by decide +kernel) (by decide +kernel)) (goodIn_sub (fun _ h => List.mem_cons_of_mem _ (List.mem_append_left _ (List.mem_append_right _ h))) (by decide +kernel))
set_option maxRecDepth 20000 in
theorem gL_view_X2_setting : GoodIn wsL_view (wsV RL 25 RX2 yX2_setting wsX2_setting) := goodIn_app (goodIn_of _ (by decide +kernel)) ggL_view_X2_setting
set_option maxRecDepth 20000 in
theorem ggL_view_X2_person : GoodIn wsL_view wsX2_person := goodIn_ca (goodIn_ca (goodIn_r _ [67, 8, 68, 69, 70, 6, 71, 72, 73, 74, 75, 76, 17, 77, 19, 9, 10, 11, 12, 13, 78, 79, 80, 81, 82, 83, 84, 31, 85, 86, 87, 88, 89, 90, 91, 92, 93, 94, 95, 96, 97, 98, 99, 100, 101, 20, 51, 52, 53, 149, 150, 151, 152, 153, 154, 155, 156, 157, 158, 159, 160, 161, 162, 163, 164, 165, 166, 167, 168] (by decide +kernel) (by decide +kernel)) (goodIn_sub (fun _ h => List.mem_cons_of_mem _ (List.mem_append_right _ h)) (by decide +kernel))) (goodIn_sub (fun _ h => List.mem_cons_of_mem _ (List.mem_append_left _ (List.mem_append_right _ h))) (by decide +kernel))
set_option maxRecDepth 20000 in
theorem gL_view_X2_person : GoodIn wsL_view (wsV RL 28 RX2 yX2_person wsX2_person) := goodIn_app (goodIn_of _ (by decide +kernel)) ggL_view_X2_person
set_option maxRecDepth 20000 in
theorem ggL_view_X2_work : GoodIn wsL_view wsX2_work := goodIn_ca (goodIn_r _ [105, 8, 68, 69, 70, 6, 71, 72, 73, 74, 75, 76, 17, 77, 19, 106, 94, 95, 96, 82, 83, 97, 84, 149, 150, 151, 152, 153, 154, 155, 156, 157, 158, 159, 160, 161, 162, 163, 164, 165, 166, 167, 168] (by decide +kernel) (by decide +kernel)) (goodIn_sub (fun _ h => List.mem_cons_of_mem _ (List.mem_append_right _ h)) (by decide +kernel))
set_option maxRecDepth 20000 in
theorem gL_view_X2_work : GoodIn wsL_view (wsV RL 32 RX2 yX2_work wsX2_work) := goodIn_app (goodIn_of _ (by decide +kernel)) ggL_view_X2_work
set_option maxRecDepth 20000 in
theorem ggL_view_X2_absence : GoodIn wsL_view wsX2_absence := goodIn_ca (goodIn_ca (goodIn_r _ [110, 8, 111, 112, 113, 6, 114, 72, 73, 115, 116, 117, 17, 118, 20, 9, 10, 11, 12, 13, 119, 120, 121, 122, 123, 124, 26, 125, 58, 47, 48, 49, 50, 19, 51, 52, 53, 126, 127, 128, 129, 130, 131, 132, 133, 83, 93, 94, 95, 96, 82, 97, 84, 134, 135, 136, 137, 138, 139, 140, 141, 142, 149, 150, 151, 152, 153, 154, 155, 156, 157, 158, 159, 160, 161, 162, 163, 164, 165, 166, 167, 168] (by decide +kernel) (by decide +kernel)) (goodIn_sub (fun _ h => List.mem_cons_of_mem _ (List.mem_append_right _ h)) (by decide +kernel))) (goodIn_sub (fun _ h => List.mem_cons_of_mem _ (List.mem_append_left _ (List.mem_append_right _ h))) (by decide +kernel))
set_option maxRecDepth 20000 in
theorem gL_view_X2_absence : GoodIn wsL_view (wsV RL 36 RX2 yX2_absence wsX2_absence) := goodIn_app (goodIn_of _ (by decide +kernel)) ggL_view_X2_absence
set_option maxRecDepth 20000 in
theorem ggL_view_X2_bidOf : GoodIn wsL_view wsX2_bidOf := goodIn_ca (goodIn_r _ [146, 8, 147, 68, 69, 70, 6, 71, 72, 73, 74, 75, 76, 17, 77, 19, 111, 112, 113, 114, 115, 116, 117, 118, 20, 148, 52, 53, 149, 150, 151, 152, 153, 154, 155, 156, 157, 158, 159, 160, 161, 162, 163, 164, 165, 166, 167, 168] (by decide +kernel) (by decide +kernel)) (goodIn_sub (fun _ h => List.mem_cons_of_mem _ (List.mem_append_right _ h)) (by decide +kernel))
set_option maxRecDepth 20000 in
theorem gL_view_X2_bidOf : GoodIn wsL_view (wsV RL 39 RX2 yX2_bidOf wsX2_bidOf) := goodIn_app (goodIn_of _ (by decide +kernel)) ggL_view_X2_bidOf
theorem dL_view_0 : decode cL_view 0 = .ok (.ldc2_w 15, 3) := by decide +kernel
theorem dL_view_3 : decode cL_view 3 = .ok (.lstore_n 1, 1) := by decide +kernel
theorem dL_view_4 : decode cL_view 4 = .ok (.iconst 0, 1) := by decide +kernel
theorem dL_view_5 : decode cL_view 5 = .ok (.istore_n 3, 1) := by decide +kernel
theorem dL_view_6 : decode cL_view 6 = .ok (.iload_n 3, 1) := by decide +kernel
theorem dL_view_7 : decode cL_view 7 = .ok (.bipush 11, 2) := by decide +kernel
theorem dL_view_9 : decode cL_view 9 = .ok (.if_icmp .ge 22, 3) := by decide +kernel
theorem dL_view_12 : decode cL_view 12 = .ok (.ldc2_w 17, 3) := by decide +kernel
theorem dL_view_15 : decode cL_view 15 = .ok (.lload_n 1, 1) := by decide +kernel
theorem dL_view_16 : decode cL_view 16 = .ok (.lmul, 1) := by decide +kernel
theorem dL_view_17 : decode cL_view 17 = .ok (.aload_n 0, 1) := by decide +kernel
theorem dL_view_18 : decode cL_view 18 = .ok (.iload_n 3, 1) := by decide +kernel
theorem dL_view_19 : decode cL_view 19 = .ok (.invokevirtual 19, 3) := by decide +kernel
theorem dL_view_22 : decode cL_view 22 = .ok (.i2l, 1) := by decide +kernel
theorem dL_view_23 : decode cL_view 23 = .ok (.ladd, 1) := by decide +kernel
theorem dL_view_24 : decode cL_view 24 = .ok (.lstore_n 1, 1) := by decide +kernel
theorem dL_view_25 : decode cL_view 25 = .ok (.iinc 3 1, 3) := by decide +kernel
theorem dL_view_28 : decode cL_view 28 = .ok (.goto (-22), 3) := by decide +kernel
theorem dL_view_31 : decode cL_view 31 = .ok (.iconst 0, 1) := by decide +kernel
theorem dL_view_32 : decode cL_view 32 = .ok (.istore_n 3, 1) := by decide +kernel
theorem dL_view_33 : decode cL_view 33 = .ok (.iload_n 3, 1) := by decide +kernel
theorem dL_view_34 : decode cL_view 34 = .ok (.iconst 3, 1) := by decide +kernel
theorem dL_view_35 : decode cL_view 35 = .ok (.if_icmp .ge 22, 3) := by decide +kernel
theorem dL_view_38 : decode cL_view 38 = .ok (.ldc2_w 17, 3) := by decide +kernel
theorem dL_view_41 : decode cL_view 41 = .ok (.lload_n 1, 1) := by decide +kernel
theorem dL_view_42 : decode cL_view 42 = .ok (.lmul, 1) := by decide +kernel
theorem dL_view_43 : decode cL_view 43 = .ok (.aload_n 0, 1) := by decide +kernel
theorem dL_view_44 : decode cL_view 44 = .ok (.iload_n 3, 1) := by decide +kernel
theorem dL_view_45 : decode cL_view 45 = .ok (.invokevirtual 25, 3) := by decide +kernel
theorem dL_view_48 : decode cL_view 48 = .ok (.i2l, 1) := by decide +kernel
theorem dL_view_49 : decode cL_view 49 = .ok (.ladd, 1) := by decide +kernel
theorem dL_view_50 : decode cL_view 50 = .ok (.lstore_n 1, 1) := by decide +kernel
theorem dL_view_51 : decode cL_view 51 = .ok (.iinc 3 1, 3) := by decide +kernel
theorem dL_view_54 : decode cL_view 54 = .ok (.goto (-21), 3) := by decide +kernel
theorem dL_view_57 : decode cL_view 57 = .ok (.iconst 0, 1) := by decide +kernel
theorem dL_view_58 : decode cL_view 58 = .ok (.istore_n 3, 1) := by decide +kernel
theorem dL_view_59 : decode cL_view 59 = .ok (.iload_n 3, 1) := by decide +kernel
theorem dL_view_60 : decode cL_view 60 = .ok (.aload_n 0, 1) := by decide +kernel
theorem dL_view_61 : decode cL_view 61 = .ok (.iconst 0, 1) := by decide +kernel
theorem dL_view_62 : decode cL_view 62 = .ok (.invokevirtual 19, 3) := by decide +kernel
theorem dL_view_65 : decode cL_view 65 = .ok (.if_icmp .ge 52, 3) := by decide +kernel
theorem dL_view_68 : decode cL_view 68 = .ok (.iconst 0, 1) := by decide +kernel
theorem dL_view_69 : decode cL_view 69 = .ok (.istore 4, 2) := by decide +kernel
theorem dL_view_71 : decode cL_view 71 = .ok (.iload 4, 2) := by decide +kernel
theorem dL_view_73 : decode cL_view 73 = .ok (.bipush 7, 2) := by decide +kernel
theorem dL_view_75 : decode cL_view 75 = .ok (.if_icmp .ge 24, 3) := by decide +kernel
theorem dL_view_78 : decode cL_view 78 = .ok (.ldc2_w 17, 3) := by decide +kernel
theorem dL_view_81 : decode cL_view 81 = .ok (.lload_n 1, 1) := by decide +kernel
theorem dL_view_82 : decode cL_view 82 = .ok (.lmul, 1) := by decide +kernel
theorem dL_view_83 : decode cL_view 83 = .ok (.aload_n 0, 1) := by decide +kernel
theorem dL_view_84 : decode cL_view 84 = .ok (.iload_n 3, 1) := by decide +kernel
theorem dL_view_85 : decode cL_view 85 = .ok (.iload 4, 2) := by decide +kernel
theorem dL_view_87 : decode cL_view 87 = .ok (.invokevirtual 28, 3) := by decide +kernel
theorem dL_view_90 : decode cL_view 90 = .ok (.i2l, 1) := by decide +kernel
theorem dL_view_91 : decode cL_view 91 = .ok (.ladd, 1) := by decide +kernel
theorem dL_view_92 : decode cL_view 92 = .ok (.lstore_n 1, 1) := by decide +kernel
theorem dL_view_93 : decode cL_view 93 = .ok (.iinc 4 1, 3) := by decide +kernel
theorem dL_view_96 : decode cL_view 96 = .ok (.goto (-25), 3) := by decide +kernel
theorem dL_view_99 : decode cL_view 99 = .ok (.ldc2_w 17, 3) := by decide +kernel
theorem dL_view_102 : decode cL_view 102 = .ok (.lload_n 1, 1) := by decide +kernel
theorem dL_view_103 : decode cL_view 103 = .ok (.lmul, 1) := by decide +kernel
theorem dL_view_104 : decode cL_view 104 = .ok (.aload_n 0, 1) := by decide +kernel
theorem dL_view_105 : decode cL_view 105 = .ok (.iload_n 3, 1) := by decide +kernel
theorem dL_view_106 : decode cL_view 106 = .ok (.invokevirtual 32, 3) := by decide +kernel
theorem dL_view_109 : decode cL_view 109 = .ok (.ladd, 1) := by decide +kernel
theorem dL_view_110 : decode cL_view 110 = .ok (.lstore_n 1, 1) := by decide +kernel
theorem dL_view_111 : decode cL_view 111 = .ok (.iinc 3 1, 3) := by decide +kernel
theorem dL_view_114 : decode cL_view 114 = .ok (.goto (-55), 3) := by decide +kernel
theorem dL_view_117 : decode cL_view 117 = .ok (.iconst 0, 1) := by decide +kernel
theorem dL_view_118 : decode cL_view 118 = .ok (.istore_n 3, 1) := by decide +kernel
theorem dL_view_119 : decode cL_view 119 = .ok (.iload_n 3, 1) := by decide +kernel
theorem dL_view_120 : decode cL_view 120 = .ok (.aload_n 0, 1) := by decide +kernel
theorem dL_view_121 : decode cL_view 121 = .ok (.iconst 1, 1) := by decide +kernel
theorem dL_view_122 : decode cL_view 122 = .ok (.invokevirtual 19, 3) := by decide +kernel
theorem dL_view_125 : decode cL_view 125 = .ok (.if_icmp .ge 74, 3) := by decide +kernel
theorem dL_view_128 : decode cL_view 128 = .ok (.iconst 0, 1) := by decide +kernel
theorem dL_view_129 : decode cL_view 129 = .ok (.istore 4, 2) := by decide +kernel
theorem dL_view_131 : decode cL_view 131 = .ok (.iload 4, 2) := by decide +kernel
theorem dL_view_133 : decode cL_view 133 = .ok (.bipush 7, 2) := by decide +kernel
theorem dL_view_135 : decode cL_view 135 = .ok (.if_icmp .ge 24, 3) := by decide +kernel
theorem dL_view_138 : decode cL_view 138 = .ok (.ldc2_w 17, 3) := by decide +kernel
theorem dL_view_141 : decode cL_view 141 = .ok (.lload_n 1, 1) := by decide +kernel
theorem dL_view_142 : decode cL_view 142 = .ok (.lmul, 1) := by decide +kernel
theorem dL_view_143 : decode cL_view 143 = .ok (.aload_n 0, 1) := by decide +kernel
theorem dL_view_144 : decode cL_view 144 = .ok (.iload_n 3, 1) := by decide +kernel
theorem dL_view_145 : decode cL_view 145 = .ok (.iload 4, 2) := by decide +kernel
theorem dL_view_147 : decode cL_view 147 = .ok (.invokevirtual 36, 3) := by decide +kernel
theorem dL_view_150 : decode cL_view 150 = .ok (.i2l, 1) := by decide +kernel
theorem dL_view_151 : decode cL_view 151 = .ok (.ladd, 1) := by decide +kernel
theorem dL_view_152 : decode cL_view 152 = .ok (.lstore_n 1, 1) := by decide +kernel
theorem dL_view_153 : decode cL_view 153 = .ok (.iinc 4 1, 3) := by decide +kernel
theorem dL_view_156 : decode cL_view 156 = .ok (.goto (-25), 3) := by decide +kernel
theorem dL_view_159 : decode cL_view 159 = .ok (.iconst 0, 1) := by decide +kernel
theorem dL_view_160 : decode cL_view 160 = .ok (.istore 4, 2) := by decide +kernel
theorem dL_view_162 : decode cL_view 162 = .ok (.iload 4, 2) := by decide +kernel
theorem dL_view_164 : decode cL_view 164 = .ok (.aload_n 0, 1) := by decide +kernel
theorem dL_view_165 : decode cL_view 165 = .ok (.iconst 0, 1) := by decide +kernel
theorem dL_view_166 : decode cL_view 166 = .ok (.invokevirtual 19, 3) := by decide +kernel
theorem dL_view_169 : decode cL_view 169 = .ok (.if_icmp .ge 24, 3) := by decide +kernel
theorem dL_view_172 : decode cL_view 172 = .ok (.ldc2_w 17, 3) := by decide +kernel
theorem dL_view_175 : decode cL_view 175 = .ok (.lload_n 1, 1) := by decide +kernel
theorem dL_view_176 : decode cL_view 176 = .ok (.lmul, 1) := by decide +kernel
theorem dL_view_177 : decode cL_view 177 = .ok (.aload_n 0, 1) := by decide +kernel
theorem dL_view_178 : decode cL_view 178 = .ok (.iload 4, 2) := by decide +kernel
theorem dL_view_180 : decode cL_view 180 = .ok (.iload_n 3, 1) := by decide +kernel
theorem dL_view_181 : decode cL_view 181 = .ok (.invokevirtual 39, 3) := by decide +kernel
theorem dL_view_184 : decode cL_view 184 = .ok (.i2l, 1) := by decide +kernel
theorem dL_view_185 : decode cL_view 185 = .ok (.ladd, 1) := by decide +kernel
theorem dL_view_186 : decode cL_view 186 = .ok (.lstore_n 1, 1) := by decide +kernel
theorem dL_view_187 : decode cL_view 187 = .ok (.iinc 4 1, 3) := by decide +kernel
theorem dL_view_190 : decode cL_view 190 = .ok (.goto (-28), 3) := by decide +kernel
theorem dL_view_193 : decode cL_view 193 = .ok (.iinc 3 1, 3) := by decide +kernel
theorem dL_view_196 : decode cL_view 196 = .ok (.goto (-77), 3) := by decide +kernel
theorem dL_view_199 : decode cL_view 199 = .ok (.lload_n 1, 1) := by decide +kernel
theorem dL_view_200 : decode cL_view 200 = .ok (.lreturn, 1) := by decide +kernel
set_option maxRecDepth 20000 in
theorem ggL_any_X2_set : GoodIn wsL_any wsX2_set := goodIn_ca (goodIn_r _ [5, 6, 7, 8, 9, 10, 11, 4, 12, 13, 14, 15, 16, 17, 18, 19, 20, 21, 22, 23, 24, 25, 26, 27, 28, 29, 30, 31, 32, 33, 34, 35, 36, 37, 38, 39, 40, 41, 42, 43, 44, 45, 46, 47, 48, 187, 188, 189, 190, 191, 192, 193, 194, 195, 196, 197, 198, 199, 200, 201, 202, 203, 204, 205, 206] (by decide +kernel) (by decide +kernel)) (goodIn_sub (fun _ h => List.mem_cons_of_mem _ (List.mem_append_left _ (List.mem_append_left _ (List.mem_append_right _ h)))) (by decide +kernel))
set_option maxRecDepth 20000 in
theorem gL_any_X2_set : GoodIn wsL_any (wsV RL 42 RX2 yX2_set wsX2_set) := goodIn_app (goodIn_of _ (by decide +kernel)) ggL_any_X2_set
set_option maxRecDepth 20000 in
theorem ggL_any_X2_addPerson : GoodIn wsL_any wsX2_addPerson := goodIn_ca (goodIn_ca (goodIn_r _ [52, 13, 14, 53, 8, 54, 55, 56, 4, 57, 58, 59, 15, 16, 17, 18, 19, 20, 21, 22, 23, 24, 25, 26, 27, 28, 29, 30, 31, 32, 33, 34, 35, 36, 37, 38, 39, 40, 41, 42, 43, 44, 45, 46, 47, 48, 60, 61, 62, 63, 187, 188, 189, 190, 191, 192, 193, 194, 195, 196, 197, 198, 199, 200, 201, 202, 203, 204, 205, 206] (by decide +kernel) (by decide +kernel)) (goodIn_sub (fun _ h => List.mem_cons_of_mem _ (List.mem_append_left _ (List.mem_append_left _ (List.mem_append_right _ h)))) (by decide +kernel))) (goodIn_sub (fun _ h => List.mem_cons_of_mem _ (List.mem_append_left _ (List.mem_append_right _ h))) (by decide +kernel))
set_option maxRecDepth 20000 in
theorem gL_any_X2_addPerson : GoodIn wsL_any (wsV RL 45 RX2 yX2_addPerson wsX2_addPerson) := goodIn_app (goodIn_of _ (by decide +kernel)) ggL_any_X2_addPerson
set_option maxRecDepth 20000 in
theorem ggL_any_X2_roster : GoodIn wsL_any wsX2_roster := goodIn_ca (goodIn_ca (goodIn_ca (goodIn_r _ [67, 8, 68, 69, 70, 71, 4, 72, 73, 74, 75, 76, 77, 28, 78, 36, 10, 11, 12, 13, 14, 79, 80, 81, 82, 37, 38, 39, 55, 56, 57, 58, 59, 15, 16, 17, 18, 19, 20, 21, 22, 23, 24, 25, 26, 27, 29, 30, 31, 32, 33, 34, 35, 40, 41, 42, 43, 44, 45, 46, 47, 48, 83, 84, 85, 86, 87, 88, 89, 187, 188, 189, 190, 191, 192, 193, 194, 195, 196, 197, 198, 199, 200, 201, 202, 203, 204, 205, 206] (by decide +kernel) (by decide +kernel)) (goodIn_sub (fun _ h => List.mem_cons_of_mem _ (List.mem_append_right _ h)) (by decide +kernel))) (goodIn_sub (fun _ h => List.mem_cons_of_mem _ (List.mem_append_left _ (List.mem_append_left _ (List.mem_append_right _ h)))) (by decide +kernel))) (goodIn_sub (fun _ h => List.mem_cons_of_mem _ (List.mem_append_left _ (List.mem_append_right _ h))) (by decide +kernel))
set_option maxRecDepth 20000 in
theorem gL_any_X2_roster : GoodIn wsL_any (wsV RL 49 RX2 yX2_roster wsX2_roster) := goodIn_app (goodIn_of _ (by decide +kernel)) ggL_any_X2_roster
set_option maxRecDepth 20000 in
theorem ggL_any_X2_absent : GoodIn wsL_any wsX2_absent := goodIn_ca (goodIn_ca (goodIn_ca (goodIn_r _ [93, 8, 69, 70, 71, 4, 72, 73, 74, 75, 76, 77, 28, 78, 36, 10, 11, 12, 13, 14, 94, 95, 96, 97, 37, 38, 98, 42, 55, 56, 57, 58, 59, 15, 16, 17, 18, 19, 20, 21, 22, 23, 24, 25, 26, 27, 29, 30, 31, 32, 33, 34, 35, 39, 40, 41, 43, 44, 45, 46, 47, 48, 99, 100, 101, 102, 103, 104, 105, 106, 107, 108, 187, 188, 189, 190, 191, 192, 193, 194, 195, 196, 197, 198, 199, 200, 201, 202, 203, 204, 205, 206] (by decide +kernel) (by decide +kernel)) (goodIn_sub (fun _ h => List.mem_cons_of_mem _ (List.mem_append_right _ h)) (by decide +kernel))) (goodIn_sub (fun _ h => List.mem_cons_of_mem _ (List.mem_append_left _ (List.mem_append_left _ (List.mem_append_right _ h)))) (by decide +kernel))) (goodIn_sub (fun _ h => List.mem_cons_of_mem _ (List.mem_append_left _ (List.mem_append_right _ h))) (by decide +kernel))
set_option maxRecDepth 20000 in
theorem gL_any_X2_absent : GoodIn wsL_any (wsV RL 53 RX2 yX2_absent wsX2_absent) := goodIn_app (goodIn_of _ (by decide +kernel)) ggL_any_X2_absent
set_option maxRecDepth 20000 in
theorem ggL_any_X2_bid : GoodIn wsL_any wsX2_bid := goodIn_ca (goodIn_ca (goodIn_ca (goodIn_r _ [112, 8, 9, 113, 69, 70, 71, 4, 72, 73, 74, 75, 76, 77, 28, 78, 36, 114, 115, 116, 117, 118, 119, 120, 121, 42, 10, 11, 12, 13, 14, 122, 123, 124, 125, 45, 43, 55, 56, 57, 58, 59, 15, 16, 17, 18, 19, 20, 21, 22, 23, 24, 25, 26, 27, 29, 30, 31, 32, 33, 34, 35, 37, 38, 39, 40, 41, 44, 46, 47, 48, 126, 107, 108, 127, 128, 129, 130, 187, 188, 189, 190, 191, 192, 193, 194, 195, 196, 197, 198, 199, 200, 201, 202, 203, 204, 205, 206] (by decide +kernel) (by decide +kernel)) (goodIn_sub (fun _ h => List.mem_cons_of_mem _ (List.mem_append_right _ h)) (by decide +kernel))) (goodIn_sub (fun _ h => List.mem_cons_of_mem _ (List.mem_append_left _ (List.mem_append_left _ (List.mem_append_right _ h)))) (by decide +kernel))) (goodIn_sub (fun _ h => List.mem_cons_of_mem _ (List.mem_append_left _ (List.mem_append_right _ h))) (by decide +kernel))
set_option maxRecDepth 20000 in
theorem gL_any_X2_bid : GoodIn wsL_any (wsV RL 56 RX2 yX2_bid wsX2_bid) := goodIn_app (goodIn_of _ (by decide +kernel)) ggL_any_X2_bid
set_option maxRecDepth 20000 in
theorem ggL_any_X2_cover : GoodIn wsL_any wsX2_cover := goodIn_ca (goodIn_ca (goodIn_r _ [134, 8, 135, 114, 115, 116, 4, 117, 73, 74, 118, 119, 120, 28, 121, 42, 136, 137, 138, 139, 45, 36, 140, 141, 142, 143, 43, 44, 38, 144, 145, 146, 147, 37, 98, 39, 148, 149, 150, 151, 30, 152, 153, 154, 155, 156, 157, 158, 159, 48, 41, 40, 107, 108, 160, 161, 162, 55, 56, 57, 58, 59, 15, 16, 17, 18, 19, 20, 21, 22, 23, 24, 25, 26, 27, 29, 31, 32, 33, 34, 35, 46, 47, 163, 164, 165, 166, 167, 103, 104, 105, 106, 187, 188, 189, 190, 191, 192, 193, 194, 195, 196, 197, 198, 199, 200, 201, 202, 203, 204, 205, 206] (by decide +kernel) (by decide +kernel)) (goodIn_sub (fun _ h => List.mem_cons_of_mem _ (List.mem_append_right _ h)) (by decide +kernel))) (goodIn_sub (fun _ h => List.mem_cons_of_mem _ (List.mem_append_left _ (List.mem_append_right _ h))) (by decide +kernel))
set_option maxRecDepth 20000 in
theorem gL_any_X2_cover : GoodIn wsL_any (wsV RL 60 RX2 yX2_cover wsX2_cover) := goodIn_app (goodIn_of _ (by decide +kernel)) ggL_any_X2_cover
set_option maxRecDepth 20000 in
theorem ggL_any_X2_handOver : GoodIn wsL_any wsX2_handOver := goodIn_ca (goodIn_ca (goodIn_r _ [171, 8, 135, 114, 115, 116, 4, 117, 73, 74, 118, 119, 120, 28, 121, 42, 69, 70, 71, 72, 75, 76, 77, 78, 36, 172, 173, 174, 175, 45, 176, 141, 142, 143, 43, 44, 38, 144, 145, 146, 147, 37, 98, 39, 148, 149, 150, 151, 30, 152, 153, 154, 155, 55, 56, 57, 58, 59, 15, 16, 17, 18, 19, 20, 21, 22, 23, 24, 25, 26, 27, 29, 31, 32, 33, 34, 35, 40, 41, 46, 47, 48, 177, 178, 179, 180, 187, 188, 189, 190, 191, 192, 193, 194, 195, 196, 197, 198, 199, 200, 201, 202, 203, 204, 205, 206] (by decide +kernel) (by decide +kernel)) (goodIn_sub (fun _ h => List.mem_cons_of_mem _ (List.mem_append_right _ h)) (by decide +kernel))) (goodIn_sub (fun _ h => List.mem_cons_of_mem _ (List.mem_append_left _ (List.mem_append_right _ h))) (by decide +kernel))
set_option maxRecDepth 20000 in
theorem gL_any_X2_handOver : GoodIn wsL_any (wsV RL 63 RX2 yX2_handOver wsX2_handOver) := goodIn_app (goodIn_of _ (by decide +kernel)) ggL_any_X2_handOver
set_option maxRecDepth 20000 in
theorem ggL_any_X2_giveUp : GoodIn wsL_any wsX2_giveUp := goodIn_ca (goodIn_ca (goodIn_r _ [184, 8, 185, 114, 115, 116, 4, 117, 73, 74, 118, 119, 120, 28, 121, 42, 55, 56, 57, 58, 59, 15, 16, 17, 18, 19, 20, 21, 22, 23, 24, 25, 26, 27, 29, 30, 31, 32, 33, 34, 35, 36, 37, 38, 39, 40, 41, 43, 44, 45, 46, 47, 48, 127, 128, 129, 130, 107, 108, 186, 104, 105, 106, 187, 188, 189, 190, 191, 192, 193, 194, 195, 196, 197, 198, 199, 200, 201, 202, 203, 204, 205, 206] (by decide +kernel) (by decide +kernel)) (goodIn_sub (fun _ h => List.mem_cons_of_mem _ (List.mem_append_right _ h)) (by decide +kernel))) (goodIn_sub (fun _ h => List.mem_cons_of_mem _ (List.mem_append_left _ (List.mem_append_right _ h))) (by decide +kernel))
set_option maxRecDepth 20000 in
theorem gL_any_X2_giveUp : GoodIn wsL_any (wsV RL 66 RX2 yX2_giveUp wsX2_giveUp) := goodIn_app (goodIn_of _ (by decide +kernel)) ggL_any_X2_giveUp
theorem dL_any_0 : decode cL_any 0 = .ok (.iload_n 2, 1) := by decide +kernel
theorem dL_any_1 : decode cL_any 1 = .ok (.bipush 7, 2) := by decide +kernel
theorem dL_any_3 : decode cL_any 3 = .ok (.iand, 1) := by decide +kernel
theorem dL_any_4 : decode cL_any 4 = .ok (.tableswitch 97 0 6 #[44, 51, 61, 69, 76, 84, 90], 44) := by decide +kernel
theorem dL_any_48 : decode cL_any 48 = .ok (.aload_n 0, 1) := by decide +kernel
theorem dL_any_49 : decode cL_any 49 = .ok (.iload_n 1, 1) := by decide +kernel
theorem dL_any_50 : decode cL_any 50 = .ok (.iload_n 2, 1) := by decide +kernel
theorem dL_any_51 : decode cL_any 51 = .ok (.invokevirtual 42, 3) := by decide +kernel
theorem dL_any_54 : decode cL_any 54 = .ok (.ireturn, 1) := by decide +kernel
theorem dL_any_55 : decode cL_any 55 = .ok (.aload_n 0, 1) := by decide +kernel
theorem dL_any_56 : decode cL_any 56 = .ok (.iload_n 1, 1) := by decide +kernel
theorem dL_any_57 : decode cL_any 57 = .ok (.i2l, 1) := by decide +kernel
theorem dL_any_58 : decode cL_any 58 = .ok (.iload_n 2, 1) := by decide +kernel
theorem dL_any_59 : decode cL_any 59 = .ok (.i2l, 1) := by decide +kernel
theorem dL_any_60 : decode cL_any 60 = .ok (.lmul, 1) := by decide +kernel
theorem dL_any_61 : decode cL_any 61 = .ok (.invokevirtual 45, 3) := by decide +kernel
theorem dL_any_64 : decode cL_any 64 = .ok (.ireturn, 1) := by decide +kernel
theorem dL_any_65 : decode cL_any 65 = .ok (.aload_n 0, 1) := by decide +kernel
theorem dL_any_66 : decode cL_any 66 = .ok (.iload_n 1, 1) := by decide +kernel
theorem dL_any_67 : decode cL_any 67 = .ok (.iload_n 2, 1) := by decide +kernel
theorem dL_any_68 : decode cL_any 68 = .ok (.iconst 1, 1) := by decide +kernel
theorem dL_any_69 : decode cL_any 69 = .ok (.invokevirtual 49, 3) := by decide +kernel
theorem dL_any_72 : decode cL_any 72 = .ok (.ireturn, 1) := by decide +kernel
theorem dL_any_73 : decode cL_any 73 = .ok (.aload_n 0, 1) := by decide +kernel
theorem dL_any_74 : decode cL_any 74 = .ok (.iload_n 1, 1) := by decide +kernel
theorem dL_any_75 : decode cL_any 75 = .ok (.iload_n 2, 1) := by decide +kernel
theorem dL_any_76 : decode cL_any 76 = .ok (.invokevirtual 53, 3) := by decide +kernel
theorem dL_any_79 : decode cL_any 79 = .ok (.ireturn, 1) := by decide +kernel
theorem dL_any_80 : decode cL_any 80 = .ok (.aload_n 0, 1) := by decide +kernel
theorem dL_any_81 : decode cL_any 81 = .ok (.iload_n 1, 1) := by decide +kernel
theorem dL_any_82 : decode cL_any 82 = .ok (.iload_n 2, 1) := by decide +kernel
theorem dL_any_83 : decode cL_any 83 = .ok (.iload_n 1, 1) := by decide +kernel
theorem dL_any_84 : decode cL_any 84 = .ok (.invokevirtual 56, 3) := by decide +kernel
theorem dL_any_87 : decode cL_any 87 = .ok (.ireturn, 1) := by decide +kernel
theorem dL_any_88 : decode cL_any 88 = .ok (.aload_n 0, 1) := by decide +kernel
theorem dL_any_89 : decode cL_any 89 = .ok (.iload_n 1, 1) := by decide +kernel
theorem dL_any_90 : decode cL_any 90 = .ok (.invokevirtual 60, 3) := by decide +kernel
theorem dL_any_93 : decode cL_any 93 = .ok (.ireturn, 1) := by decide +kernel
theorem dL_any_94 : decode cL_any 94 = .ok (.aload_n 0, 1) := by decide +kernel
theorem dL_any_95 : decode cL_any 95 = .ok (.iload_n 1, 1) := by decide +kernel
theorem dL_any_96 : decode cL_any 96 = .ok (.iload_n 2, 1) := by decide +kernel
theorem dL_any_97 : decode cL_any 97 = .ok (.invokevirtual 63, 3) := by decide +kernel
theorem dL_any_100 : decode cL_any 100 = .ok (.ireturn, 1) := by decide +kernel
theorem dL_any_101 : decode cL_any 101 = .ok (.aload_n 0, 1) := by decide +kernel
theorem dL_any_102 : decode cL_any 102 = .ok (.iload_n 1, 1) := by decide +kernel
theorem dL_any_103 : decode cL_any 103 = .ok (.invokevirtual 66, 3) := by decide +kernel
theorem dL_any_106 : decode cL_any 106 = .ok (.ireturn, 1) := by decide +kernel
set_option maxRecDepth 20000 in
theorem ggL_turn_L_up : GoodIn wsL_turn wsL_up := goodIn_r _ [4, 5] (by decide +kernel) (by decide +kernel)
set_option maxRecDepth 20000 in
theorem gL_turn_L_up : GoodIn wsL_turn (va_wsS RL 69 yL_up wsL_up) := goodIn_app (goodIn_of _ (by decide +kernel)) ggL_turn_L_up
set_option maxRecDepth 20000 in
theorem ggL_turn_X2_set : GoodIn wsL_turn wsX2_set := goodIn_ca (goodIn_r _ [10, 11, 12, 13, 14, 15, 16, 9, 17, 18, 19, 20, 21, 22, 23, 24, 25, 26, 27, 28, 29, 30, 31, 32, 33, 34, 35, 36, 37, 38, 39, 40, 41, 42, 43, 44, 45, 46, 47, 48, 49, 50, 51, 52, 53, 214, 215, 216, 217, 218, 219, 220, 221, 222, 223, 224, 225, 226, 227, 228, 229, 230, 231, 232, 233] (by decide +kernel) (by decide +kernel)) (goodIn_sub (fun _ h => List.mem_cons_of_mem _ (List.mem_append_left _ (List.mem_append_left _ (List.mem_append_right _ h)))) (by decide +kernel))
set_option maxRecDepth 20000 in
theorem gL_turn_X2_set : GoodIn wsL_turn (wsV RL 42 RX2 yX2_set wsX2_set) := goodIn_app (goodIn_of _ (by decide +kernel)) ggL_turn_X2_set
set_option maxRecDepth 20000 in
theorem ggL_turn_L_some : GoodIn wsL_turn wsL_some := goodIn_r _ [56, 57, 58, 59] (by decide +kernel) (by decide +kernel)
set_option maxRecDepth 20000 in
theorem gL_turn_L_some : GoodIn wsL_turn (va_wsS RL 74 yL_some wsL_some) := goodIn_app (goodIn_of _ (by decide +kernel)) ggL_turn_L_some
set_option maxRecDepth 20000 in
theorem ggL_turn_X2_addPerson : GoodIn wsL_turn wsX2_addPerson := goodIn_ca (goodIn_ca (goodIn_r _ [63, 18, 19, 64, 13, 65, 66, 67, 9, 68, 69, 70, 20, 21, 22, 23, 24, 25, 26, 27, 28, 29, 30, 31, 32, 33, 34, 35, 36, 37, 38, 39, 40, 41, 42, 43, 44, 45, 46, 47, 48, 49, 50, 51, 52, 53, 71, 72, 73, 74, 214, 215, 216, 217, 218, 219, 220, 221, 222, 223, 224, 225, 226, 227, 228, 229, 230, 231, 232, 233] (by decide +kernel) (by decide +kernel)) (goodIn_sub (fun _ h => List.mem_cons_of_mem _ (List.mem_append_left _ (List.mem_append_left _ (List.mem_append_right _ h)))) (by decide +kernel))) (goodIn_sub (fun _ h => List.mem_cons_of_mem _ (List.mem_append_left _ (List.mem_append_right _ h))) (by decide +kernel))
set_option maxRecDepth 20000 in
theorem gL_turn_X2_addPerson : GoodIn wsL_turn (wsV RL 45 RX2 yX2_addPerson wsX2_addPerson) := goodIn_app (goodIn_of _ (by decide +kernel)) ggL_turn_X2_addPerson
set_option maxRecDepth 20000 in
theorem ggL_turn_X2_roster : GoodIn wsL_turn wsX2_roster := goodIn_ca (goodIn_ca (goodIn_ca (goodIn_r _ [78, 13, 79, 80, 81, 82, 9, 83, 84, 85, 86, 87, 88, 33, 89, 41, 15, 16, 17, 18, 19, 90, 91, 92, 93, 42, 43, 44, 66, 67, 68, 69, 70, 20, 21, 22, 23, 24, 25, 26, 27, 28, 29, 30, 31, 32, 34, 35, 36, 37, 38, 39, 40, 45, 46, 47, 48, 49, 50, 51, 52, 53, 94, 95, 96, 97, 98, 99, 100, 214, 215, 216, 217, 218, 219, 220, 221, 222, 223, 224, 225, 226, 227, 228, 229, 230, 231, 232, 233] (by decide +kernel) (by decide +kernel)) (goodIn_sub (fun _ h => List.mem_cons_of_mem _ (List.mem_append_right _ h)) (by decide +kernel))) (goodIn_sub (fun _ h => List.mem_cons_of_mem _ (List.mem_append_left _ (List.mem_append_left _ (List.mem_append_right _ h)))) (by decide +kernel))) (goodIn_sub (fun _ h => List.mem_cons_of_mem _ (List.mem_append_left _ (List.mem_append_right _ h))) (by decide +kernel))
set_option maxRecDepth 20000 in
theorem gL_turn_X2_roster : GoodIn wsL_turn (wsV RL 49 RX2 yX2_roster wsX2_roster) := goodIn_app (goodIn_of _ (by decide +kernel)) ggL_turn_X2_roster
set_option maxRecDepth 20000 in
theorem ggL_turn_X2_absent : GoodIn wsL_turn wsX2_absent := goodIn_ca (goodIn_ca (goodIn_ca (goodIn_r _ [104, 13, 80, 81, 82, 9, 83, 84, 85, 86, 87, 88, 33, 89, 41, 15, 16, 17, 18, 19, 105, 106, 107, 108, 42, 43, 109, 47, 66, 67, 68, 69, 70, 20, 21, 22, 23, 24, 25, 26, 27, 28, 29, 30, 31, 32, 34, 35, 36, 37, 38, 39, 40, 44, 45, 46, 48, 49, 50, 51, 52, 53, 110, 111, 112, 113, 114, 115, 116, 117, 118, 119, 214, 215, 216, 217, 218, 219, 220, 221, 222, 223, 224, 225, 226, 227, 228, 229, 230, 231, 232, 233] (by decide +kernel) (by decide +kernel)) (goodIn_sub (fun _ h => List.mem_cons_of_mem _ (List.mem_append_right _ h)) (by decide +kernel))) (goodIn_sub (fun _ h => List.mem_cons_of_mem _ (List.mem_append_left _ (List.mem_append_left _ (List.mem_append_right _ h)))) (by decide +kernel))) (goodIn_sub (fun _ h => List.mem_cons_of_mem _ (List.mem_append_left _ (List.mem_append_right _ h))) (by decide +kernel))
set_option maxRecDepth 20000 in
theorem gL_turn_X2_absent : GoodIn wsL_turn (wsV RL 53 RX2 yX2_absent wsX2_absent) := goodIn_app (goodIn_of _ (by decide +kernel)) ggL_turn_X2_absent
set_option maxRecDepth 20000 in
theorem ggL_turn_X2_bid : GoodIn wsL_turn wsX2_bid := goodIn_ca (goodIn_ca (goodIn_ca (goodIn_r _ [123, 13, 14, 124, 80, 81, 82, 9, 83, 84, 85, 86, 87, 88, 33, 89, 41, 125, 126, 127, 128, 129, 130, 131, 132, 47, 15, 16, 17, 18, 19, 133, 134, 135, 136, 50, 48, 66, 67, 68, 69, 70, 20, 21, 22, 23, 24, 25, 26, 27, 28, 29, 30, 31, 32, 34, 35, 36, 37, 38, 39, 40, 42, 43, 44, 45, 46, 49, 51, 52, 53, 137, 118, 119, 138, 139, 140, 141, 214, 215, 216, 217, 218, 219, 220, 221, 222, 223, 224, 225, 226, 227, 228, 229, 230, 231, 232, 233] (by decide +kernel) (by decide +kernel)) (goodIn_sub (fun _ h => List.mem_cons_of_mem _ (List.mem_append_right _ h)) (by decide +kernel))) (goodIn_sub (fun _ h => List.mem_cons_of_mem _ (List.mem_append_left _ (List.mem_append_left _ (List.mem_append_right _ h)))) (by decide +kernel))) (goodIn_sub (fun _ h => List.mem_cons_of_mem _ (List.mem_append_left _ (List.mem_append_right _ h))) (by decide +kernel))
set_option maxRecDepth 20000 in
theorem gL_turn_X2_bid : GoodIn wsL_turn (wsV RL 56 RX2 yX2_bid wsX2_bid) := goodIn_app (goodIn_of _ (by decide +kernel)) ggL_turn_X2_bid
set_option maxRecDepth 20000 in
theorem ggL_turn_X2_takeBack : GoodIn wsL_turn wsX2_takeBack := goodIn_ca (goodIn_ca (goodIn_r _ [145, 13, 124, 80, 81, 82, 9, 83, 84, 85, 86, 87, 88, 33, 89, 41, 125, 126, 127, 128, 129, 130, 131, 132, 47, 137, 118, 119, 66, 67, 68, 69, 70, 20, 21, 22, 23, 24, 25, 26, 27, 28, 29, 30, 31, 32, 34, 35, 36, 37, 38, 39, 40, 42, 43, 44, 45, 46, 48, 49, 50, 51, 52, 53, 214, 215, 216, 217, 218, 219, 220, 221, 222, 223, 224, 225, 226, 227, 228, 229, 230, 231, 232, 233] (by decide +kernel) (by decide +kernel)) (goodIn_sub (fun _ h => List.mem_cons_of_mem _ (List.mem_append_right _ h)) (by decide +kernel))) (goodIn_sub (fun _ h => List.mem_cons_of_mem _ (List.mem_append_left _ (List.mem_append_right _ h))) (by decide +kernel))
set_option maxRecDepth 20000 in
theorem gL_turn_X2_takeBack : GoodIn wsL_turn (wsV RL 78 RX2 yX2_takeBack wsX2_takeBack) := goodIn_app (goodIn_of _ (by decide +kernel)) ggL_turn_X2_takeBack
set_option maxRecDepth 20000 in
theorem ggL_turn_X2_cover : GoodIn wsL_turn wsX2_cover := goodIn_ca (goodIn_ca (goodIn_r _ [149, 13, 150, 125, 126, 127, 9, 128, 84, 85, 129, 130, 131, 33, 132, 47, 151, 152, 153, 154, 50, 41, 155, 156, 157, 158, 48, 49, 43, 159, 160, 161, 162, 42, 109, 44, 163, 164, 165, 166, 35, 167, 168, 169, 170, 171, 172, 173, 174, 53, 46, 45, 118, 119, 175, 176, 177, 66, 67, 68, 69, 70, 20, 21, 22, 23, 24, 25, 26, 27, 28, 29, 30, 31, 32, 34, 36, 37, 38, 39, 40, 51, 52, 178, 179, 180, 181, 182, 114, 115, 116, 117, 214, 215, 216, 217, 218, 219, 220, 221, 222, 223, 224, 225, 226, 227, 228, 229, 230, 231, 232, 233] (by decide +kernel) (by decide +kernel)) (goodIn_sub (fun _ h => List.mem_cons_of_mem _ (List.mem_append_right _ h)) (by decide +kernel))) (goodIn_sub (fun _ h => List.mem_cons_of_mem _ (List.mem_append_left _ (List.mem_append_right _ h))) (by decide +kernel))
set_option maxRecDepth 20000 in
theorem gL_turn_X2_cover : GoodIn wsL_turn (wsV RL 60 RX2 yX2_cover wsX2_cover) := goodIn_app (goodIn_of _ (by decide +kernel)) ggL_turn_X2_cover
set_option maxRecDepth 20000 in
theorem ggL_turn_X2_coverAll : GoodIn wsL_turn wsX2_coverAll := goodIn_r _ [186, 13, 20, 21, 22, 9, 23, 24, 25, 26, 27, 28, 29, 30, 31, 32, 33, 34, 35, 36, 37, 38, 39, 40, 41, 42, 43, 44, 45, 46, 47, 48, 49, 50, 51, 52, 53, 187, 188, 189, 190, 191, 179, 180, 181, 182, 152, 153, 154, 155, 156, 157, 158, 159, 160, 161, 162, 109, 163, 164, 165, 166, 167, 168, 169, 170, 171, 172, 173, 174, 118, 119, 175, 176, 177, 114, 115, 116, 117, 214, 215, 216, 217, 218, 219, 220, 221, 222, 223, 224, 225, 226, 227, 228, 229, 230, 231, 232, 233] (by decide +kernel) (by decide +kernel)
set_option maxRecDepth 20000 in
theorem gL_turn_X2_coverAll : GoodIn wsL_turn (wsV RL 81 RX2 yX2_coverAll wsX2_coverAll) := goodIn_app (goodIn_of _ (by decide +kernel)) ggL_turn_X2_coverAll
set_option maxRecDepth 20000 in
theorem ggL_turn_X2_handOver : GoodIn wsL_turn wsX2_handOver := goodIn_ca (goodIn_ca (goodIn_r _ [195, 13, 150, 125, 126, 127, 9, 128, 84, 85, 129, 130, 131, 33, 132, 47, 80, 81, 82, 83, 86, 87, 88, 89, 41, 196, 197, 198, 199, 50, 200, 156, 157, 158, 48, 49, 43, 159, 160, 161, 162, 42, 109, 44, 163, 164, 165, 166, 35, 167, 168, 169, 170, 66, 67, 68, 69, 70, 20, 21, 22, 23, 24, 25, 26, 27, 28, 29, 30, 31, 32, 34, 36, 37, 38, 39, 40, 45, 46, 51, 52, 53, 201, 202, 203, 204, 214, 215, 216, 217, 218, 219, 220, 221, 222, 223, 224, 225, 226, 227, 228, 229, 230, 231, 232, 233] (by decide +kernel) (by decide +kernel)) (goodIn_sub (fun _ h => List.mem_cons_of_mem _ (List.mem_append_right _ h)) (by decide +kernel))) (goodIn_sub (fun _ h => List.mem_cons_of_mem _ (List.mem_append_left _ (List.mem_append_right _ h))) (by decide +kernel))
set_option maxRecDepth 20000 in
theorem gL_turn_X2_handOver : GoodIn wsL_turn (wsV RL 63 RX2 yX2_handOver wsX2_handOver) := goodIn_app (goodIn_of _ (by decide +kernel)) ggL_turn_X2_handOver
set_option maxRecDepth 20000 in
theorem ggL_turn_X2_giveUp : GoodIn wsL_turn wsX2_giveUp := goodIn_ca (goodIn_ca (goodIn_r _ [208, 13, 209, 125, 126, 127, 9, 128, 84, 85, 129, 130, 131, 33, 132, 47, 66, 67, 68, 69, 70, 20, 21, 22, 23, 24, 25, 26, 27, 28, 29, 30, 31, 32, 34, 35, 36, 37, 38, 39, 40, 41, 42, 43, 44, 45, 46, 48, 49, 50, 51, 52, 53, 138, 139, 140, 141, 118, 119, 210, 115, 116, 117, 214, 215, 216, 217, 218, 219, 220, 221, 222, 223, 224, 225, 226, 227, 228, 229, 230, 231, 232, 233] (by decide +kernel) (by decide +kernel)) (goodIn_sub (fun _ h => List.mem_cons_of_mem _ (List.mem_append_right _ h)) (by decide +kernel))) (goodIn_sub (fun _ h => List.mem_cons_of_mem _ (List.mem_append_left _ (List.mem_append_right _ h))) (by decide +kernel))
set_option maxRecDepth 20000 in
theorem gL_turn_X2_giveUp : GoodIn wsL_turn (wsV RL 66 RX2 yX2_giveUp wsX2_giveUp) := goodIn_app (goodIn_of _ (by decide +kernel)) ggL_turn_X2_giveUp
set_option maxRecDepth 20000 in
theorem ggL_turn_L_any : GoodIn wsL_turn wsL_any := goodIn_ca (goodIn_ca (goodIn_ca (goodIn_r _ [213, 6, 7, 8, 9, 10, 11, 12, 13, 14, 15, 16, 17, 18, 19, 20, 21, 22, 23, 24, 25, 26, 27, 28, 29, 30, 31, 32, 33, 34, 35, 36, 37, 38, 39, 40, 41, 42, 43, 44, 45, 46, 47, 48, 49, 50, 51, 52, 53, 60, 61, 62, 63, 64, 65, 66, 67, 68, 69, 70, 71, 72, 73, 74, 75, 76, 77, 78, 79, 80, 81, 82, 83, 84, 85, 86, 87, 88, 89, 90, 91, 92, 93, 94, 95, 96, 97, 98, 99, 100, 101, 102, 103, 104, 105, 106, 107, 108, 109, 110, 111, 112, 113, 114, 115, 116, 117, 118, 119, 120, 121, 122, 123, 124, 125, 126, 127, 128, 129, 130, 131, 132, 133, 134, 135, 136, 137, 138, 139, 140, 141, 146, 147, 148, 149, 150, 151, 152, 153, 154, 155, 156, 157, 158, 159, 160, 161, 162, 163, 164, 165, 166, 167, 168, 169, 170, 171, 172, 173, 174, 175, 176, 177, 178, 179, 180, 181, 182, 192, 193, 194, 195, 196, 197, 198, 199, 200, 201, 202, 203, 204, 205, 206, 207, 208, 209, 210, 214, 215, 216, 217, 218, 219, 220, 221, 222, 223, 224, 225, 226, 227, 228, 229, 230, 231, 232, 233] (by decide +kernel) (by decide +kernel)) (goodIn_sub (fun _ h => List.mem_cons_of_mem _ (List.mem_append_left _ (List.mem_append_left _ (List.mem_append_right _ h)))) (by decide +kernel))) (goodIn_sub (fun _ h => List.mem_cons_of_mem _ (List.mem_append_left _ (List.mem_append_right _ h))) (by decide +kernel))) (goodIn_sub (fun _ h => List.mem_cons_of_mem _ (List.mem_append_right _ h)) (by decide +kernel))
set_option maxRecDepth 20000 in
theorem gL_turn_L_any : GoodIn wsL_turn (va_wsS RL 85 yL_any wsL_any) := goodIn_app (goodIn_of _ (by decide +kernel)) ggL_turn_L_any
theorem dL_turn_0 : decode cL_turn 0 = .ok (.iload_n 2, 1) := by decide +kernel
theorem dL_turn_1 : decode cL_turn 1 = .ok (.bipush 6, 2) := by decide +kernel
theorem dL_turn_3 : decode cL_turn 3 = .ok (.invokestatic 69, 3) := by decide +kernel
theorem dL_turn_6 : decode cL_turn 6 = .ok (.istore 4, 2) := by decide +kernel
theorem dL_turn_8 : decode cL_turn 8 = .ok (.iload_n 3, 1) := by decide +kernel
theorem dL_turn_9 : decode cL_turn 9 = .ok (.bipush 8, 2) := by decide +kernel
theorem dL_turn_11 : decode cL_turn 11 = .ok (.invokestatic 69, 3) := by decide +kernel
theorem dL_turn_14 : decode cL_turn 14 = .ok (.istore 5, 2) := by decide +kernel
theorem dL_turn_16 : decode cL_turn 16 = .ok (.iload_n 1, 1) := by decide +kernel
theorem dL_turn_17 : decode cL_turn 17 = .ok (.tableswitch 216 0 14 #[75, 102, 112, 137, 137, 137, 162, 162, 162, 179, 188, 188, 195, 200, 209], 75) := by decide +kernel
theorem dL_turn_92 : decode cL_turn 92 = .ok (.aload_n 0, 1) := by decide +kernel
theorem dL_turn_93 : decode cL_turn 93 = .ok (.iload_n 2, 1) := by decide +kernel
theorem dL_turn_94 : decode cL_turn 94 = .ok (.iconst 3, 1) := by decide +kernel
theorem dL_turn_95 : decode cL_turn 95 = .ok (.invokestatic 69, 3) := by decide +kernel
theorem dL_turn_98 : decode cL_turn 98 = .ok (.iload_n 3, 1) := by decide +kernel
theorem dL_turn_99 : decode cL_turn 99 = .ok (.iload_n 2, 1) := by decide +kernel
theorem dL_turn_100 : decode cL_turn 100 = .ok (.iconst 4, 1) := by decide +kernel
theorem dL_turn_101 : decode cL_turn 101 = .ok (.iand, 1) := by decide +kernel
theorem dL_turn_102 : decode cL_turn 102 = .ok (.ifCond .ne 8, 3) := by decide +kernel
theorem dL_turn_105 : decode cL_turn 105 = .ok (.bipush 6, 2) := by decide +kernel
theorem dL_turn_107 : decode cL_turn 107 = .ok (.goto 5, 3) := by decide +kernel
theorem dL_turn_110 : decode cL_turn 110 = .ok (.bipush 51, 2) := by decide +kernel
theorem dL_turn_112 : decode cL_turn 112 = .ok (.invokestatic 69, 3) := by decide +kernel
theorem dL_turn_115 : decode cL_turn 115 = .ok (.invokevirtual 42, 3) := by decide +kernel
theorem dL_turn_118 : decode cL_turn 118 = .ok (.ireturn, 1) := by decide +kernel
theorem dL_turn_119 : decode cL_turn 119 = .ok (.aload_n 0, 1) := by decide +kernel
theorem dL_turn_120 : decode cL_turn 120 = .ok (.iload_n 2, 1) := by decide +kernel
theorem dL_turn_121 : decode cL_turn 121 = .ok (.iload_n 3, 1) := by decide +kernel
theorem dL_turn_122 : decode cL_turn 122 = .ok (.invokestatic 74, 3) := by decide +kernel
theorem dL_turn_125 : decode cL_turn 125 = .ok (.invokevirtual 45, 3) := by decide +kernel
theorem dL_turn_128 : decode cL_turn 128 = .ok (.ireturn, 1) := by decide +kernel
theorem dL_turn_129 : decode cL_turn 129 = .ok (.aload_n 0, 1) := by decide +kernel
theorem dL_turn_130 : decode cL_turn 130 = .ok (.iload 4, 2) := by decide +kernel
theorem dL_turn_132 : decode cL_turn 132 = .ok (.iload_n 3, 1) := by decide +kernel
theorem dL_turn_133 : decode cL_turn 133 = .ok (.bipush 42, 2) := by decide +kernel
theorem dL_turn_135 : decode cL_turn 135 = .ok (.invokestatic 69, 3) := by decide +kernel
theorem dL_turn_138 : decode cL_turn 138 = .ok (.iload_n 2, 1) := by decide +kernel
theorem dL_turn_139 : decode cL_turn 139 = .ok (.bipush 64, 2) := by decide +kernel
theorem dL_turn_141 : decode cL_turn 141 = .ok (.iand, 1) := by decide +kernel
theorem dL_turn_142 : decode cL_turn 142 = .ok (.ifCond .ne 7, 3) := by decide +kernel
theorem dL_turn_145 : decode cL_turn 145 = .ok (.iconst 1, 1) := by decide +kernel
theorem dL_turn_146 : decode cL_turn 146 = .ok (.goto 4, 3) := by decide +kernel
theorem dL_turn_149 : decode cL_turn 149 = .ok (.iconst 0, 1) := by decide +kernel
theorem dL_turn_150 : decode cL_turn 150 = .ok (.invokevirtual 49, 3) := by decide +kernel
theorem dL_turn_153 : decode cL_turn 153 = .ok (.ireturn, 1) := by decide +kernel
theorem dL_turn_154 : decode cL_turn 154 = .ok (.aload_n 0, 1) := by decide +kernel
theorem dL_turn_155 : decode cL_turn 155 = .ok (.iload 4, 2) := by decide +kernel
theorem dL_turn_157 : decode cL_turn 157 = .ok (.iload_n 3, 1) := by decide +kernel
theorem dL_turn_158 : decode cL_turn 158 = .ok (.iload_n 2, 1) := by decide +kernel
theorem dL_turn_159 : decode cL_turn 159 = .ok (.bipush 64, 2) := by decide +kernel
theorem dL_turn_161 : decode cL_turn 161 = .ok (.iand, 1) := by decide +kernel
theorem dL_turn_162 : decode cL_turn 162 = .ok (.ifCond .ne 8, 3) := by decide +kernel
theorem dL_turn_165 : decode cL_turn 165 = .ok (.bipush 12, 2) := by decide +kernel
theorem dL_turn_167 : decode cL_turn 167 = .ok (.goto 5, 3) := by decide +kernel
theorem dL_turn_170 : decode cL_turn 170 = .ok (.bipush 42, 2) := by decide +kernel
theorem dL_turn_172 : decode cL_turn 172 = .ok (.invokestatic 69, 3) := by decide +kernel
theorem dL_turn_175 : decode cL_turn 175 = .ok (.invokevirtual 53, 3) := by decide +kernel
theorem dL_turn_178 : decode cL_turn 178 = .ok (.ireturn, 1) := by decide +kernel
theorem dL_turn_179 : decode cL_turn 179 = .ok (.aload_n 0, 1) := by decide +kernel
theorem dL_turn_180 : decode cL_turn 180 = .ok (.iload 4, 2) := by decide +kernel
theorem dL_turn_182 : decode cL_turn 182 = .ok (.iload 5, 2) := by decide +kernel
theorem dL_turn_184 : decode cL_turn 184 = .ok (.iload_n 2, 1) := by decide +kernel
theorem dL_turn_185 : decode cL_turn 185 = .ok (.iconst 4, 1) := by decide +kernel
theorem dL_turn_186 : decode cL_turn 186 = .ok (.ishr, 1) := by decide +kernel
theorem dL_turn_187 : decode cL_turn 187 = .ok (.bipush 21, 2) := by decide +kernel
theorem dL_turn_189 : decode cL_turn 189 = .ok (.invokestatic 69, 3) := by decide +kernel
theorem dL_turn_192 : decode cL_turn 192 = .ok (.invokevirtual 56, 3) := by decide +kernel
theorem dL_turn_195 : decode cL_turn 195 = .ok (.ireturn, 1) := by decide +kernel
theorem dL_turn_196 : decode cL_turn 196 = .ok (.aload_n 0, 1) := by decide +kernel
theorem dL_turn_197 : decode cL_turn 197 = .ok (.iload 4, 2) := by decide +kernel
theorem dL_turn_199 : decode cL_turn 199 = .ok (.iload 5, 2) := by decide +kernel
theorem dL_turn_201 : decode cL_turn 201 = .ok (.invokevirtual 78, 3) := by decide +kernel
theorem dL_turn_204 : decode cL_turn 204 = .ok (.ireturn, 1) := by decide +kernel
theorem dL_turn_205 : decode cL_turn 205 = .ok (.aload_n 0, 1) := by decide +kernel
theorem dL_turn_206 : decode cL_turn 206 = .ok (.iload 5, 2) := by decide +kernel
theorem dL_turn_208 : decode cL_turn 208 = .ok (.invokevirtual 60, 3) := by decide +kernel
theorem dL_turn_211 : decode cL_turn 211 = .ok (.ireturn, 1) := by decide +kernel
theorem dL_turn_212 : decode cL_turn 212 = .ok (.aload_n 0, 1) := by decide +kernel
theorem dL_turn_213 : decode cL_turn 213 = .ok (.invokevirtual 81, 3) := by decide +kernel
theorem dL_turn_216 : decode cL_turn 216 = .ok (.ireturn, 1) := by decide +kernel
theorem dL_turn_217 : decode cL_turn 217 = .ok (.aload_n 0, 1) := by decide +kernel
theorem dL_turn_218 : decode cL_turn 218 = .ok (.iload 5, 2) := by decide +kernel
theorem dL_turn_220 : decode cL_turn 220 = .ok (.iload 4, 2) := by decide +kernel
theorem dL_turn_222 : decode cL_turn 222 = .ok (.invokevirtual 63, 3) := by decide +kernel
theorem dL_turn_225 : decode cL_turn 225 = .ok (.ireturn, 1) := by decide +kernel
theorem dL_turn_226 : decode cL_turn 226 = .ok (.aload_n 0, 1) := by decide +kernel
theorem dL_turn_227 : decode cL_turn 227 = .ok (.iload 5, 2) := by decide +kernel
theorem dL_turn_229 : decode cL_turn 229 = .ok (.invokevirtual 66, 3) := by decide +kernel
theorem dL_turn_232 : decode cL_turn 232 = .ok (.ireturn, 1) := by decide +kernel
theorem dL_turn_233 : decode cL_turn 233 = .ok (.aload_n 0, 1) := by decide +kernel
theorem dL_turn_234 : decode cL_turn 234 = .ok (.iload_n 2, 1) := by decide +kernel
theorem dL_turn_235 : decode cL_turn 235 = .ok (.iload_n 3, 1) := by decide +kernel
theorem dL_turn_236 : decode cL_turn 236 = .ok (.invokestatic 85, 3) := by decide +kernel
theorem dL_turn_239 : decode cL_turn 239 = .ok (.ireturn, 1) := by decide +kernel
set_option maxRecDepth 20000 in
theorem ggL_tries_L_turn : GoodIn wsL_tries wsL_turn := goodIn_ca (goodIn_ca (goodIn_ca (goodIn_r _ [8, 9, 10, 7, 11, 12, 13, 14, 15, 16, 17, 18, 19, 20, 21, 22, 23, 24, 25, 26, 27, 28, 29, 30, 31, 32, 33, 34, 35, 36, 37, 38, 39, 40, 41, 42, 43, 44, 45, 46, 47, 48, 49, 50, 51, 52, 53, 54, 55, 56, 57, 58, 59, 60, 61, 62, 63, 64, 65, 66, 67, 68, 69, 70, 71, 72, 73, 74, 75, 76, 77, 78, 79, 80, 81, 82, 83, 84, 85, 86, 87, 88, 89, 90, 91, 92, 93, 94, 95, 96, 97, 98, 99, 100, 101, 102, 103, 104, 105, 106, 107, 108, 109, 110, 111, 112, 113, 114, 115, 116, 117, 118, 119, 120, 121, 122, 123, 124, 125, 126, 127, 128, 129, 130, 131, 132, 133, 134, 135, 136, 137, 138, 139, 140, 141, 142, 143, 144, 145, 146, 147, 148, 149, 150, 151, 152, 153, 154, 155, 156, 157, 158, 159, 160, 161, 162, 163, 164, 165, 166, 167, 168, 169, 170, 171, 172, 173, 174, 175, 176, 177, 178, 179, 180, 181, 182, 183, 184, 185, 186, 187, 188, 189, 190, 191, 192, 193, 194, 195, 196, 197, 198, 199, 200, 201, 202, 203, 204, 205, 206, 207, 208, 209, 210, 211, 212, 213, 214, 215, 216, 217, 218, 219, 220, 221, 222, 223, 224, 225, 226, 227, 228, 229, 230, 231, 232, 233, 234, 235, 236, 237, 238, 239, 240] (by decide +kernel) (by decide +kernel)) (goodIn_sub (fun _ h => List.mem_cons_of_mem _ (List.mem_append_left _ (List.mem_append_left _ (List.mem_append_right _ h)))) (by decide +kernel))) (goodIn_sub (fun _ h => List.mem_cons_of_mem _ (List.mem_append_left _ (List.mem_append_right _ h))) (by decide +kernel))) (goodIn_sub (fun _ h => List.mem_cons_of_mem _ (List.mem_append_right _ h)) (by decide +kernel))
set_option maxRecDepth 20000 in
theorem gL_tries_L_turn : GoodIn wsL_tries (va_wsS RL 89 yL_turn wsL_turn) := goodIn_app (goodIn_of _ (by decide +kernel)) ggL_tries_L_turn
theorem dL_tries_0 : decode cL_tries 0 = .ok (.aload_n 0, 1) := by decide +kernel
theorem dL_tries_1 : decode cL_tries 1 = .ok (.iload_n 1, 1) := by decide +kernel
theorem dL_tries_2 : decode cL_tries 2 = .ok (.iload_n 2, 1) := by decide +kernel
theorem dL_tries_3 : decode cL_tries 3 = .ok (.iload_n 3, 1) := by decide +kernel
theorem dL_tries_4 : decode cL_tries 4 = .ok (.invokestatic 89, 3) := by decide +kernel
theorem dL_tries_7 : decode cL_tries 7 = .ok (.ireturn, 1) := by decide +kernel
theorem dL_tries_8 : decode cL_tries 8 = .ok (.astore 4, 2) := by decide +kernel
theorem dL_tries_10 : decode cL_tries 10 = .ok (.ldc 95, 2) := by decide +kernel
theorem dL_tries_12 : decode cL_tries 12 = .ok (.ireturn, 1) := by decide +kernel
theorem dL_tries_13 : decode cL_tries 13 = .ok (.astore 4, 2) := by decide +kernel
theorem dL_tries_15 : decode cL_tries 15 = .ok (.ldc 95, 2) := by decide +kernel
theorem dL_tries_17 : decode cL_tries 17 = .ok (.ireturn, 1) := by decide +kernel
theorem dL_tries_18 : decode cL_tries 18 = .ok (.astore 4, 2) := by decide +kernel
theorem dL_tries_20 : decode cL_tries 20 = .ok (.ldc 95, 2) := by decide +kernel
theorem dL_tries_22 : decode cL_tries 22 = .ok (.ireturn, 1) := by decide +kernel
set_option maxRecDepth 20000 in
theorem ggL_isAbsenceRight_X2_absence : GoodIn wsL_isAbsenceRight wsX2_absence := goodIn_ca (goodIn_ca (goodIn_r _ [5, 6, 7, 8, 9, 4, 10, 11, 12, 13, 14, 15, 16, 17, 18, 19, 20, 21, 22, 23, 24, 25, 26, 27, 28, 29, 30, 31, 32, 33, 34, 35, 36, 37, 38, 39, 40, 41, 42, 43, 44, 45, 46, 47, 48, 49, 50, 51, 52, 53, 54, 55, 56, 57, 58, 59, 60, 61, 62, 63, 64, 65, 79, 80, 81, 82, 83, 84, 85, 86, 87, 88, 89, 90, 91, 92, 93, 94, 95, 96, 97, 98] (by decide +kernel) (by decide +kernel)) (goodIn_sub (fun _ h => List.mem_cons_of_mem _ (List.mem_append_left _ (List.mem_append_right _ h))) (by decide +kernel))) (goodIn_sub (fun _ h => List.mem_cons_of_mem _ (List.mem_append_right _ h)) (by decide +kernel))
set_option maxRecDepth 20000 in
theorem gL_isAbsenceRight_X2_absence : GoodIn wsL_isAbsenceRight (wsV RL 36 RX2 yX2_absence wsX2_absence) := goodIn_app (goodIn_of _ (by decide +kernel)) ggL_isAbsenceRight_X2_absence
set_option maxRecDepth 20000 in
theorem ggL_isAbsenceRight_X2_work : GoodIn wsL_isAbsenceRight wsX2_work := goodIn_ca (goodIn_r _ [69, 6, 70, 71, 72, 4, 73, 11, 12, 74, 75, 76, 16, 77, 37, 78, 51, 52, 53, 54, 49, 55, 56, 79, 80, 81, 82, 83, 84, 85, 86, 87, 88, 89, 90, 91, 92, 93, 94, 95, 96, 97, 98] (by decide +kernel) (by decide +kernel)) (goodIn_sub (fun _ h => List.mem_cons_of_mem _ (List.mem_append_left _ (List.mem_append_right _ h))) (by decide +kernel))
set_option maxRecDepth 20000 in
theorem gL_isAbsenceRight_X2_work : GoodIn wsL_isAbsenceRight (wsV RL 32 RX2 yX2_work wsX2_work) := goodIn_app (goodIn_of _ (by decide +kernel)) ggL_isAbsenceRight_X2_work
theorem dL_isAbsenceRight_0 : decode cL_isAbsenceRight 0 = .ok (.aload_n 0, 1) := by decide +kernel
theorem dL_isAbsenceRight_1 : decode cL_isAbsenceRight 1 = .ok (.iload_n 1, 1) := by decide +kernel
theorem dL_isAbsenceRight_2 : decode cL_isAbsenceRight 2 = .ok (.iconst 1, 1) := by decide +kernel
theorem dL_isAbsenceRight_3 : decode cL_isAbsenceRight 3 = .ok (.invokevirtual 36, 3) := by decide +kernel
theorem dL_isAbsenceRight_6 : decode cL_isAbsenceRight 6 = .ok (.istore_n 2, 1) := by decide +kernel
theorem dL_isAbsenceRight_7 : decode cL_isAbsenceRight 7 = .ok (.aload_n 0, 1) := by decide +kernel
theorem dL_isAbsenceRight_8 : decode cL_isAbsenceRight 8 = .ok (.iload_n 1, 1) := by decide +kernel
theorem dL_isAbsenceRight_9 : decode cL_isAbsenceRight 9 = .ok (.iconst 2, 1) := by decide +kernel
theorem dL_isAbsenceRight_10 : decode cL_isAbsenceRight 10 = .ok (.invokevirtual 36, 3) := by decide +kernel
theorem dL_isAbsenceRight_13 : decode cL_isAbsenceRight 13 = .ok (.istore_n 3, 1) := by decide +kernel
theorem dL_isAbsenceRight_14 : decode cL_isAbsenceRight 14 = .ok (.aload_n 0, 1) := by decide +kernel
theorem dL_isAbsenceRight_15 : decode cL_isAbsenceRight 15 = .ok (.iload_n 1, 1) := by decide +kernel
theorem dL_isAbsenceRight_16 : decode cL_isAbsenceRight 16 = .ok (.iconst 3, 1) := by decide +kernel
theorem dL_isAbsenceRight_17 : decode cL_isAbsenceRight 17 = .ok (.invokevirtual 36, 3) := by decide +kernel
theorem dL_isAbsenceRight_20 : decode cL_isAbsenceRight 20 = .ok (.istore 4, 2) := by decide +kernel
theorem dL_isAbsenceRight_22 : decode cL_isAbsenceRight 22 = .ok (.iload_n 3, 1) := by decide +kernel
theorem dL_isAbsenceRight_23 : decode cL_isAbsenceRight 23 = .ok (.iconst 1, 1) := by decide +kernel
theorem dL_isAbsenceRight_24 : decode cL_isAbsenceRight 24 = .ok (.if_icmp .eq 8, 3) := by decide +kernel
theorem dL_isAbsenceRight_27 : decode cL_isAbsenceRight 27 = .ok (.iload_n 3, 1) := by decide +kernel
theorem dL_isAbsenceRight_28 : decode cL_isAbsenceRight 28 = .ok (.iconst 2, 1) := by decide +kernel
theorem dL_isAbsenceRight_29 : decode cL_isAbsenceRight 29 = .ok (.if_icmp .ne 7, 3) := by decide +kernel
theorem dL_isAbsenceRight_32 : decode cL_isAbsenceRight 32 = .ok (.iconst 1, 1) := by decide +kernel
theorem dL_isAbsenceRight_33 : decode cL_isAbsenceRight 33 = .ok (.goto 4, 3) := by decide +kernel
theorem dL_isAbsenceRight_36 : decode cL_isAbsenceRight 36 = .ok (.iconst 0, 1) := by decide +kernel
theorem dL_isAbsenceRight_37 : decode cL_isAbsenceRight 37 = .ok (.istore 5, 2) := by decide +kernel
theorem dL_isAbsenceRight_39 : decode cL_isAbsenceRight 39 = .ok (.iload_n 3, 1) := by decide +kernel
theorem dL_isAbsenceRight_40 : decode cL_isAbsenceRight 40 = .ok (.ifCond .lt 47, 3) := by decide +kernel
theorem dL_isAbsenceRight_43 : decode cL_isAbsenceRight 43 = .ok (.iload_n 3, 1) := by decide +kernel
theorem dL_isAbsenceRight_44 : decode cL_isAbsenceRight 44 = .ok (.iconst 4, 1) := by decide +kernel
theorem dL_isAbsenceRight_45 : decode cL_isAbsenceRight 45 = .ok (.if_icmp .ge 42, 3) := by decide +kernel
theorem dL_isAbsenceRight_48 : decode cL_isAbsenceRight 48 = .ok (.iload 5, 2) := by decide +kernel
theorem dL_isAbsenceRight_50 : decode cL_isAbsenceRight 50 = .ok (.iload 4, 2) := by decide +kernel
theorem dL_isAbsenceRight_52 : decode cL_isAbsenceRight 52 = .ok (.iconst (-1), 1) := by decide +kernel
theorem dL_isAbsenceRight_53 : decode cL_isAbsenceRight 53 = .ok (.if_icmp .eq 7, 3) := by decide +kernel
theorem dL_isAbsenceRight_56 : decode cL_isAbsenceRight 56 = .ok (.iconst 1, 1) := by decide +kernel
theorem dL_isAbsenceRight_57 : decode cL_isAbsenceRight 57 = .ok (.goto 4, 3) := by decide +kernel
theorem dL_isAbsenceRight_60 : decode cL_isAbsenceRight 60 = .ok (.iconst 0, 1) := by decide +kernel
theorem dL_isAbsenceRight_61 : decode cL_isAbsenceRight 61 = .ok (.if_icmp .ne 26, 3) := by decide +kernel
theorem dL_isAbsenceRight_64 : decode cL_isAbsenceRight 64 = .ok (.aload_n 0, 1) := by decide +kernel
theorem dL_isAbsenceRight_65 : decode cL_isAbsenceRight 65 = .ok (.aload_n 0, 1) := by decide +kernel
theorem dL_isAbsenceRight_66 : decode cL_isAbsenceRight 66 = .ok (.iload_n 1, 1) := by decide +kernel
theorem dL_isAbsenceRight_67 : decode cL_isAbsenceRight 67 = .ok (.iconst 0, 1) := by decide +kernel
theorem dL_isAbsenceRight_68 : decode cL_isAbsenceRight 68 = .ok (.invokevirtual 36, 3) := by decide +kernel
theorem dL_isAbsenceRight_71 : decode cL_isAbsenceRight 71 = .ok (.invokevirtual 32, 3) := by decide +kernel
theorem dL_isAbsenceRight_74 : decode cL_isAbsenceRight 74 = .ok (.iload_n 2, 1) := by decide +kernel
theorem dL_isAbsenceRight_75 : decode cL_isAbsenceRight 75 = .ok (.lshr, 1) := by decide +kernel
theorem dL_isAbsenceRight_76 : decode cL_isAbsenceRight 76 = .ok (.lconst 1, 1) := by decide +kernel
theorem dL_isAbsenceRight_77 : decode cL_isAbsenceRight 77 = .ok (.land, 1) := by decide +kernel
theorem dL_isAbsenceRight_78 : decode cL_isAbsenceRight 78 = .ok (.lconst 0, 1) := by decide +kernel
theorem dL_isAbsenceRight_79 : decode cL_isAbsenceRight 79 = .ok (.lcmp, 1) := by decide +kernel
theorem dL_isAbsenceRight_80 : decode cL_isAbsenceRight 80 = .ok (.ifCond .ne 7, 3) := by decide +kernel
theorem dL_isAbsenceRight_83 : decode cL_isAbsenceRight 83 = .ok (.iconst 1, 1) := by decide +kernel
theorem dL_isAbsenceRight_84 : decode cL_isAbsenceRight 84 = .ok (.goto 4, 3) := by decide +kernel
theorem dL_isAbsenceRight_87 : decode cL_isAbsenceRight 87 = .ok (.iconst 0, 1) := by decide +kernel
theorem dL_isAbsenceRight_88 : decode cL_isAbsenceRight 88 = .ok (.istore 6, 2) := by decide +kernel
theorem dL_isAbsenceRight_90 : decode cL_isAbsenceRight 90 = .ok (.iload 6, 2) := by decide +kernel
theorem dL_isAbsenceRight_92 : decode cL_isAbsenceRight 92 = .ok (.ifCond .eq 38, 3) := by decide +kernel
theorem dL_isAbsenceRight_95 : decode cL_isAbsenceRight 95 = .ok (.iload 5, 2) := by decide +kernel
theorem dL_isAbsenceRight_97 : decode cL_isAbsenceRight 97 = .ok (.ifCond .eq 29, 3) := by decide +kernel
theorem dL_isAbsenceRight_100 : decode cL_isAbsenceRight 100 = .ok (.aload_n 0, 1) := by decide +kernel
theorem dL_isAbsenceRight_101 : decode cL_isAbsenceRight 101 = .ok (.iload 4, 2) := by decide +kernel
theorem dL_isAbsenceRight_103 : decode cL_isAbsenceRight 103 = .ok (.invokevirtual 32, 3) := by decide +kernel
theorem dL_isAbsenceRight_106 : decode cL_isAbsenceRight 106 = .ok (.iload_n 2, 1) := by decide +kernel
theorem dL_isAbsenceRight_107 : decode cL_isAbsenceRight 107 = .ok (.lshr, 1) := by decide +kernel
theorem dL_isAbsenceRight_108 : decode cL_isAbsenceRight 108 = .ok (.lconst 1, 1) := by decide +kernel
theorem dL_isAbsenceRight_109 : decode cL_isAbsenceRight 109 = .ok (.land, 1) := by decide +kernel
theorem dL_isAbsenceRight_110 : decode cL_isAbsenceRight 110 = .ok (.lconst 1, 1) := by decide +kernel
theorem dL_isAbsenceRight_111 : decode cL_isAbsenceRight 111 = .ok (.lcmp, 1) := by decide +kernel
theorem dL_isAbsenceRight_112 : decode cL_isAbsenceRight 112 = .ok (.ifCond .ne 18, 3) := by decide +kernel
theorem dL_isAbsenceRight_115 : decode cL_isAbsenceRight 115 = .ok (.iload 4, 2) := by decide +kernel
theorem dL_isAbsenceRight_117 : decode cL_isAbsenceRight 117 = .ok (.aload_n 0, 1) := by decide +kernel
theorem dL_isAbsenceRight_118 : decode cL_isAbsenceRight 118 = .ok (.iload_n 1, 1) := by decide +kernel
theorem dL_isAbsenceRight_119 : decode cL_isAbsenceRight 119 = .ok (.iconst 0, 1) := by decide +kernel
theorem dL_isAbsenceRight_120 : decode cL_isAbsenceRight 120 = .ok (.invokevirtual 36, 3) := by decide +kernel
theorem dL_isAbsenceRight_123 : decode cL_isAbsenceRight 123 = .ok (.if_icmp .eq 7, 3) := by decide +kernel
theorem dL_isAbsenceRight_126 : decode cL_isAbsenceRight 126 = .ok (.iconst 1, 1) := by decide +kernel
theorem dL_isAbsenceRight_127 : decode cL_isAbsenceRight 127 = .ok (.goto 4, 3) := by decide +kernel
theorem dL_isAbsenceRight_130 : decode cL_isAbsenceRight 130 = .ok (.iconst 0, 1) := by decide +kernel
theorem dL_isAbsenceRight_131 : decode cL_isAbsenceRight 131 = .ok (.istore 6, 2) := by decide +kernel
theorem dL_isAbsenceRight_133 : decode cL_isAbsenceRight 133 = .ok (.iload 6, 2) := by decide +kernel
theorem dL_isAbsenceRight_135 : decode cL_isAbsenceRight 135 = .ok (.ifCond .eq 34, 3) := by decide +kernel
theorem dL_isAbsenceRight_138 : decode cL_isAbsenceRight 138 = .ok (.iload_n 3, 1) := by decide +kernel
theorem dL_isAbsenceRight_139 : decode cL_isAbsenceRight 139 = .ok (.ifCond .eq 12, 3) := by decide +kernel
theorem dL_isAbsenceRight_142 : decode cL_isAbsenceRight 142 = .ok (.aload_n 0, 1) := by decide +kernel
theorem dL_isAbsenceRight_143 : decode cL_isAbsenceRight 143 = .ok (.iload_n 1, 1) := by decide +kernel
theorem dL_isAbsenceRight_144 : decode cL_isAbsenceRight 144 = .ok (.iconst 5, 1) := by decide +kernel
theorem dL_isAbsenceRight_145 : decode cL_isAbsenceRight 145 = .ok (.invokevirtual 36, 3) := by decide +kernel
theorem dL_isAbsenceRight_148 : decode cL_isAbsenceRight 148 = .ok (.ifCond .ne 21, 3) := by decide +kernel
theorem dL_isAbsenceRight_151 : decode cL_isAbsenceRight 151 = .ok (.iload 5, 2) := by decide +kernel
theorem dL_isAbsenceRight_153 : decode cL_isAbsenceRight 153 = .ok (.ifCond .ne 12, 3) := by decide +kernel
theorem dL_isAbsenceRight_156 : decode cL_isAbsenceRight 156 = .ok (.aload_n 0, 1) := by decide +kernel
theorem dL_isAbsenceRight_157 : decode cL_isAbsenceRight 157 = .ok (.iload_n 1, 1) := by decide +kernel
theorem dL_isAbsenceRight_158 : decode cL_isAbsenceRight 158 = .ok (.iconst 4, 1) := by decide +kernel
theorem dL_isAbsenceRight_159 : decode cL_isAbsenceRight 159 = .ok (.invokevirtual 36, 3) := by decide +kernel
theorem dL_isAbsenceRight_162 : decode cL_isAbsenceRight 162 = .ok (.ifCond .ne 7, 3) := by decide +kernel
theorem dL_isAbsenceRight_165 : decode cL_isAbsenceRight 165 = .ok (.iconst 1, 1) := by decide +kernel
theorem dL_isAbsenceRight_166 : decode cL_isAbsenceRight 166 = .ok (.goto 4, 3) := by decide +kernel
theorem dL_isAbsenceRight_169 : decode cL_isAbsenceRight 169 = .ok (.iconst 0, 1) := by decide +kernel
theorem dL_isAbsenceRight_170 : decode cL_isAbsenceRight 170 = .ok (.ireturn, 1) := by decide +kernel
theorem dL_ones_0 : decode cL_ones 0 = .ok (.iconst 0, 1) := by decide +kernel
theorem dL_ones_1 : decode cL_ones 1 = .ok (.istore_n 2, 1) := by decide +kernel
theorem dL_ones_2 : decode cL_ones 2 = .ok (.iconst 0, 1) := by decide +kernel
theorem dL_ones_3 : decode cL_ones 3 = .ok (.istore_n 3, 1) := by decide +kernel
theorem dL_ones_4 : decode cL_ones 4 = .ok (.iload_n 3, 1) := by decide +kernel
theorem dL_ones_5 : decode cL_ones 5 = .ok (.bipush 42, 2) := by decide +kernel
theorem dL_ones_7 : decode cL_ones 7 = .ok (.if_icmp .ge 18, 3) := by decide +kernel
theorem dL_ones_10 : decode cL_ones 10 = .ok (.iload_n 2, 1) := by decide +kernel
theorem dL_ones_11 : decode cL_ones 11 = .ok (.lload_n 0, 1) := by decide +kernel
theorem dL_ones_12 : decode cL_ones 12 = .ok (.iload_n 3, 1) := by decide +kernel
theorem dL_ones_13 : decode cL_ones 13 = .ok (.lshr, 1) := by decide +kernel
theorem dL_ones_14 : decode cL_ones 14 = .ok (.lconst 1, 1) := by decide +kernel
theorem dL_ones_15 : decode cL_ones 15 = .ok (.land, 1) := by decide +kernel
theorem dL_ones_16 : decode cL_ones 16 = .ok (.l2i, 1) := by decide +kernel
theorem dL_ones_17 : decode cL_ones 17 = .ok (.iadd, 1) := by decide +kernel
theorem dL_ones_18 : decode cL_ones 18 = .ok (.istore_n 2, 1) := by decide +kernel
theorem dL_ones_19 : decode cL_ones 19 = .ok (.iinc 3 1, 3) := by decide +kernel
theorem dL_ones_22 : decode cL_ones 22 = .ok (.goto (-18), 3) := by decide +kernel
theorem dL_ones_25 : decode cL_ones 25 = .ok (.iload_n 2, 1) := by decide +kernel
theorem dL_ones_26 : decode cL_ones 26 = .ok (.ireturn, 1) := by decide +kernel
set_option maxRecDepth 20000 in
theorem ggL_areRight_X2_value : GoodIn wsL_areRight wsX2_value := goodIn_ca (goodIn_r _ [5, 6, 7, 8, 4, 9, 10, 11, 12, 13, 14, 15, 16, 17, 18, 19, 20, 21, 22, 23, 24, 25, 26, 27, 28, 29, 30, 31, 32, 33, 34, 35, 36, 37, 38, 39, 40, 41, 42, 43, 44, 45, 46, 47, 48, 49, 50, 51, 52, 53, 54, 55, 56, 143, 144, 145, 146, 147, 148, 149, 150, 151, 152, 153, 154, 155, 156, 157, 158, 159, 160, 161, 162] (by decide +kernel) (by decide +kernel)) (goodIn_sub (fun _ h => List.mem_cons_of_mem _ (List.mem_append_left _ (List.mem_append_right _ h))) (by decide +kernel))
set_option maxRecDepth 20000 in
theorem gL_areRight_X2_value : GoodIn wsL_areRight (wsV RL 19 RX2 yX2_value wsX2_value) := goodIn_app (goodIn_of _ (by decide +kernel)) ggL_areRight_X2_value
set_option maxRecDepth 20000 in
theorem ggL_areRight_X2_person : GoodIn wsL_areRight wsX2_person := goodIn_ca (goodIn_ca (goodIn_r _ [60, 6, 61, 62, 63, 4, 64, 65, 66, 67, 68, 69, 15, 70, 17, 7, 8, 9, 10, 11, 71, 72, 73, 74, 75, 76, 77, 29, 78, 79, 80, 81, 82, 83, 84, 85, 86, 87, 88, 89, 90, 91, 92, 93, 94, 18, 49, 50, 51, 143, 144, 145, 146, 147, 148, 149, 150, 151, 152, 153, 154, 155, 156, 157, 158, 159, 160, 161, 162] (by decide +kernel) (by decide +kernel)) (goodIn_sub (fun _ h => List.mem_cons_of_mem _ (List.mem_append_right _ h)) (by decide +kernel))) (goodIn_sub (fun _ h => List.mem_cons_of_mem _ (List.mem_append_left _ (List.mem_append_right _ h))) (by decide +kernel))
set_option maxRecDepth 20000 in
theorem gL_areRight_X2_person : GoodIn wsL_areRight (wsV RL 28 RX2 yX2_person wsX2_person) := goodIn_app (goodIn_of _ (by decide +kernel)) ggL_areRight_X2_person
set_option maxRecDepth 20000 in
theorem ggL_areRight_X2_work : GoodIn wsL_areRight wsX2_work := goodIn_ca (goodIn_r _ [98, 6, 61, 62, 63, 4, 64, 65, 66, 67, 68, 69, 15, 70, 17, 99, 87, 88, 89, 75, 76, 90, 77, 143, 144, 145, 146, 147, 148, 149, 150, 151, 152, 153, 154, 155, 156, 157, 158, 159, 160, 161, 162] (by decide +kernel) (by decide +kernel)) (goodIn_sub (fun _ h => List.mem_cons_of_mem _ (List.mem_append_right _ h)) (by decide +kernel))
set_option maxRecDepth 20000 in
theorem gL_areRight_X2_work : GoodIn wsL_areRight (wsV RL 32 RX2 yX2_work wsX2_work) := goodIn_app (goodIn_of _ (by decide +kernel)) ggL_areRight_X2_work
set_option maxRecDepth 20000 in
theorem ggL_areRight_L_ones : GoodIn wsL_areRight wsL_ones := goodIn_r _ [103] (by decide +kernel) (by decide +kernel)
set_option maxRecDepth 20000 in
theorem gL_areRight_L_ones : GoodIn wsL_areRight (va_wsS RL 100 yL_ones wsL_ones) := goodIn_app (goodIn_of _ (by decide +kernel)) ggL_areRight_L_ones
set_option maxRecDepth 20000 in
theorem ggL_areRight_L_isAbsenceRight : GoodIn wsL_areRight wsL_isAbsenceRight := goodIn_ca (goodIn_ca (goodIn_r _ [106, 107, 108, 109, 4, 110, 6, 111, 112, 113, 114, 65, 66, 115, 116, 117, 15, 118, 18, 7, 8, 9, 10, 11, 119, 120, 121, 122, 123, 124, 24, 125, 56, 45, 46, 47, 48, 17, 49, 50, 51, 126, 127, 128, 129, 130, 131, 132, 133, 76, 86, 87, 88, 89, 75, 90, 77, 134, 135, 136, 137, 138, 139, 140, 141, 142, 95, 96, 97, 98, 61, 62, 63, 64, 67, 68, 69, 70, 99, 143, 144, 145, 146, 147, 148, 149, 150, 151, 152, 153, 154, 155, 156, 157, 158, 159, 160, 161, 162] (by decide +kernel) (by decide +kernel)) (goodIn_sub (fun _ h => List.mem_cons_of_mem _ (List.mem_append_right _ h)) (by decide +kernel))) (goodIn_sub (fun _ h => List.mem_cons_of_mem _ (List.mem_append_left _ (List.mem_append_right _ h))) (by decide +kernel))
set_option maxRecDepth 20000 in
theorem gL_areRight_L_isAbsenceRight : GoodIn wsL_areRight (va_wsS RL 103 yL_isAbsenceRight wsL_isAbsenceRight) := goodIn_app (goodIn_of _ (by decide +kernel)) ggL_areRight_L_isAbsenceRight
theorem dL_areRight_0 : decode cL_areRight 0 = .ok (.lconst 0, 1) := by decide +kernel
theorem dL_areRight_1 : decode cL_areRight 1 = .ok (.lstore_n 1, 1) := by decide +kernel
theorem dL_areRight_2 : decode cL_areRight 2 = .ok (.iconst 0, 1) := by decide +kernel
theorem dL_areRight_3 : decode cL_areRight 3 = .ok (.istore_n 3, 1) := by decide +kernel
theorem dL_areRight_4 : decode cL_areRight 4 = .ok (.iconst 0, 1) := by decide +kernel
theorem dL_areRight_5 : decode cL_areRight 5 = .ok (.istore 4, 2) := by decide +kernel
theorem dL_areRight_7 : decode cL_areRight 7 = .ok (.iconst 1, 1) := by decide +kernel
theorem dL_areRight_8 : decode cL_areRight 8 = .ok (.istore 5, 2) := by decide +kernel
theorem dL_areRight_10 : decode cL_areRight 10 = .ok (.iconst 0, 1) := by decide +kernel
theorem dL_areRight_11 : decode cL_areRight 11 = .ok (.istore 6, 2) := by decide +kernel
theorem dL_areRight_13 : decode cL_areRight 13 = .ok (.iload 6, 2) := by decide +kernel
theorem dL_areRight_15 : decode cL_areRight 15 = .ok (.aload_n 0, 1) := by decide +kernel
theorem dL_areRight_16 : decode cL_areRight 16 = .ok (.iconst 0, 1) := by decide +kernel
theorem dL_areRight_17 : decode cL_areRight 17 = .ok (.invokevirtual 19, 3) := by decide +kernel
theorem dL_areRight_20 : decode cL_areRight 20 = .ok (.if_icmp .ge 106, 3) := by decide +kernel
theorem dL_areRight_23 : decode cL_areRight 23 = .ok (.iload 5, 2) := by decide +kernel
theorem dL_areRight_25 : decode cL_areRight 25 = .ok (.ifCond .eq 101, 3) := by decide +kernel
theorem dL_areRight_28 : decode cL_areRight 28 = .ok (.lload_n 1, 1) := by decide +kernel
theorem dL_areRight_29 : decode cL_areRight 29 = .ok (.aload_n 0, 1) := by decide +kernel
theorem dL_areRight_30 : decode cL_areRight 30 = .ok (.iload 6, 2) := by decide +kernel
theorem dL_areRight_32 : decode cL_areRight 32 = .ok (.iconst 3, 1) := by decide +kernel
theorem dL_areRight_33 : decode cL_areRight 33 = .ok (.invokevirtual 28, 3) := by decide +kernel
theorem dL_areRight_36 : decode cL_areRight 36 = .ok (.i2l, 1) := by decide +kernel
theorem dL_areRight_37 : decode cL_areRight 37 = .ok (.ladd, 1) := by decide +kernel
theorem dL_areRight_38 : decode cL_areRight 38 = .ok (.lstore_n 1, 1) := by decide +kernel
theorem dL_areRight_39 : decode cL_areRight 39 = .ok (.iload_n 3, 1) := by decide +kernel
theorem dL_areRight_40 : decode cL_areRight 40 = .ok (.aload_n 0, 1) := by decide +kernel
theorem dL_areRight_41 : decode cL_areRight 41 = .ok (.iload 6, 2) := by decide +kernel
theorem dL_areRight_43 : decode cL_areRight 43 = .ok (.iconst 1, 1) := by decide +kernel
theorem dL_areRight_44 : decode cL_areRight 44 = .ok (.invokevirtual 28, 3) := by decide +kernel
theorem dL_areRight_47 : decode cL_areRight 47 = .ok (.iadd, 1) := by decide +kernel
theorem dL_areRight_48 : decode cL_areRight 48 = .ok (.istore_n 3, 1) := by decide +kernel
theorem dL_areRight_49 : decode cL_areRight 49 = .ok (.iload 4, 2) := by decide +kernel
theorem dL_areRight_51 : decode cL_areRight 51 = .ok (.aload_n 0, 1) := by decide +kernel
theorem dL_areRight_52 : decode cL_areRight 52 = .ok (.iload 6, 2) := by decide +kernel
theorem dL_areRight_54 : decode cL_areRight 54 = .ok (.iconst 2, 1) := by decide +kernel
theorem dL_areRight_55 : decode cL_areRight 55 = .ok (.invokevirtual 28, 3) := by decide +kernel
theorem dL_areRight_58 : decode cL_areRight 58 = .ok (.iadd, 1) := by decide +kernel
theorem dL_areRight_59 : decode cL_areRight 59 = .ok (.istore 4, 2) := by decide +kernel
theorem dL_areRight_61 : decode cL_areRight 61 = .ok (.aload_n 0, 1) := by decide +kernel
theorem dL_areRight_62 : decode cL_areRight 62 = .ok (.iload 6, 2) := by decide +kernel
theorem dL_areRight_64 : decode cL_areRight 64 = .ok (.iconst 5, 1) := by decide +kernel
theorem dL_areRight_65 : decode cL_areRight 65 = .ok (.invokevirtual 28, 3) := by decide +kernel
theorem dL_areRight_68 : decode cL_areRight 68 = .ok (.aload_n 0, 1) := by decide +kernel
theorem dL_areRight_69 : decode cL_areRight 69 = .ok (.iload 6, 2) := by decide +kernel
theorem dL_areRight_71 : decode cL_areRight 71 = .ok (.invokevirtual 32, 3) := by decide +kernel
theorem dL_areRight_74 : decode cL_areRight 74 = .ok (.invokestatic 100, 3) := by decide +kernel
theorem dL_areRight_77 : decode cL_areRight 77 = .ok (.if_icmp .ne 40, 3) := by decide +kernel
theorem dL_areRight_80 : decode cL_areRight 80 = .ok (.aload_n 0, 1) := by decide +kernel
theorem dL_areRight_81 : decode cL_areRight 81 = .ok (.iload 6, 2) := by decide +kernel
theorem dL_areRight_83 : decode cL_areRight 83 = .ok (.iconst 5, 1) := by decide +kernel
theorem dL_areRight_84 : decode cL_areRight 84 = .ok (.invokevirtual 28, 3) := by decide +kernel
theorem dL_areRight_87 : decode cL_areRight 87 = .ok (.aload_n 0, 1) := by decide +kernel
theorem dL_areRight_88 : decode cL_areRight 88 = .ok (.iload 6, 2) := by decide +kernel
theorem dL_areRight_90 : decode cL_areRight 90 = .ok (.iconst 0, 1) := by decide +kernel
theorem dL_areRight_91 : decode cL_areRight 91 = .ok (.invokevirtual 28, 3) := by decide +kernel
theorem dL_areRight_94 : decode cL_areRight 94 = .ok (.aload_n 0, 1) := by decide +kernel
theorem dL_areRight_95 : decode cL_areRight 95 = .ok (.iload 6, 2) := by decide +kernel
theorem dL_areRight_97 : decode cL_areRight 97 = .ok (.iconst 1, 1) := by decide +kernel
theorem dL_areRight_98 : decode cL_areRight 98 = .ok (.invokevirtual 28, 3) := by decide +kernel
theorem dL_areRight_101 : decode cL_areRight 101 = .ok (.isub, 1) := by decide +kernel
theorem dL_areRight_102 : decode cL_areRight 102 = .ok (.aload_n 0, 1) := by decide +kernel
theorem dL_areRight_103 : decode cL_areRight 103 = .ok (.iload 6, 2) := by decide +kernel
theorem dL_areRight_105 : decode cL_areRight 105 = .ok (.iconst 2, 1) := by decide +kernel
theorem dL_areRight_106 : decode cL_areRight 106 = .ok (.invokevirtual 28, 3) := by decide +kernel
theorem dL_areRight_109 : decode cL_areRight 109 = .ok (.iadd, 1) := by decide +kernel
theorem dL_areRight_110 : decode cL_areRight 110 = .ok (.if_icmp .ne 7, 3) := by decide +kernel
theorem dL_areRight_113 : decode cL_areRight 113 = .ok (.iconst 1, 1) := by decide +kernel
theorem dL_areRight_114 : decode cL_areRight 114 = .ok (.goto 4, 3) := by decide +kernel
theorem dL_areRight_117 : decode cL_areRight 117 = .ok (.iconst 0, 1) := by decide +kernel
theorem dL_areRight_118 : decode cL_areRight 118 = .ok (.istore 5, 2) := by decide +kernel
theorem dL_areRight_120 : decode cL_areRight 120 = .ok (.iinc 6 1, 3) := by decide +kernel
theorem dL_areRight_123 : decode cL_areRight 123 = .ok (.goto (-110), 3) := by decide +kernel
theorem dL_areRight_126 : decode cL_areRight 126 = .ok (.iconst 0, 1) := by decide +kernel
theorem dL_areRight_127 : decode cL_areRight 127 = .ok (.istore 6, 2) := by decide +kernel
theorem dL_areRight_129 : decode cL_areRight 129 = .ok (.iload 6, 2) := by decide +kernel
theorem dL_areRight_131 : decode cL_areRight 131 = .ok (.aload_n 0, 1) := by decide +kernel
theorem dL_areRight_132 : decode cL_areRight 132 = .ok (.iconst 1, 1) := by decide +kernel
theorem dL_areRight_133 : decode cL_areRight 133 = .ok (.invokevirtual 19, 3) := by decide +kernel
theorem dL_areRight_136 : decode cL_areRight 136 = .ok (.if_icmp .ge 22, 3) := by decide +kernel
theorem dL_areRight_139 : decode cL_areRight 139 = .ok (.iload 5, 2) := by decide +kernel
theorem dL_areRight_141 : decode cL_areRight 141 = .ok (.ifCond .eq 17, 3) := by decide +kernel
theorem dL_areRight_144 : decode cL_areRight 144 = .ok (.aload_n 0, 1) := by decide +kernel
theorem dL_areRight_145 : decode cL_areRight 145 = .ok (.iload 6, 2) := by decide +kernel
theorem dL_areRight_147 : decode cL_areRight 147 = .ok (.invokestatic 103, 3) := by decide +kernel
theorem dL_areRight_150 : decode cL_areRight 150 = .ok (.istore 5, 2) := by decide +kernel
theorem dL_areRight_152 : decode cL_areRight 152 = .ok (.iinc 6 1, 3) := by decide +kernel
theorem dL_areRight_155 : decode cL_areRight 155 = .ok (.goto (-26), 3) := by decide +kernel
theorem dL_areRight_158 : decode cL_areRight 158 = .ok (.aload_n 0, 1) := by decide +kernel
theorem dL_areRight_159 : decode cL_areRight 159 = .ok (.iconst 2, 1) := by decide +kernel
theorem dL_areRight_160 : decode cL_areRight 160 = .ok (.invokevirtual 19, 3) := by decide +kernel
theorem dL_areRight_163 : decode cL_areRight 163 = .ok (.aload_n 0, 1) := by decide +kernel
theorem dL_areRight_164 : decode cL_areRight 164 = .ok (.iconst 3, 1) := by decide +kernel
theorem dL_areRight_165 : decode cL_areRight 165 = .ok (.invokevirtual 19, 3) := by decide +kernel
theorem dL_areRight_168 : decode cL_areRight 168 = .ok (.iadd, 1) := by decide +kernel
theorem dL_areRight_169 : decode cL_areRight 169 = .ok (.aload_n 0, 1) := by decide +kernel
theorem dL_areRight_170 : decode cL_areRight 170 = .ok (.iconst 4, 1) := by decide +kernel
theorem dL_areRight_171 : decode cL_areRight 171 = .ok (.invokevirtual 19, 3) := by decide +kernel
theorem dL_areRight_174 : decode cL_areRight 174 = .ok (.iadd, 1) := by decide +kernel
theorem dL_areRight_175 : decode cL_areRight 175 = .ok (.aload_n 0, 1) := by decide +kernel
theorem dL_areRight_176 : decode cL_areRight 176 = .ok (.iconst 5, 1) := by decide +kernel
theorem dL_areRight_177 : decode cL_areRight 177 = .ok (.invokevirtual 19, 3) := by decide +kernel
theorem dL_areRight_180 : decode cL_areRight 180 = .ok (.iadd, 1) := by decide +kernel
theorem dL_areRight_181 : decode cL_areRight 181 = .ok (.aload_n 0, 1) := by decide +kernel
theorem dL_areRight_182 : decode cL_areRight 182 = .ok (.iconst 1, 1) := by decide +kernel
theorem dL_areRight_183 : decode cL_areRight 183 = .ok (.invokevirtual 19, 3) := by decide +kernel
theorem dL_areRight_186 : decode cL_areRight 186 = .ok (.if_icmp .ne 23, 3) := by decide +kernel
theorem dL_areRight_189 : decode cL_areRight 189 = .ok (.iload 4, 2) := by decide +kernel
theorem dL_areRight_191 : decode cL_areRight 191 = .ok (.aload_n 0, 1) := by decide +kernel
theorem dL_areRight_192 : decode cL_areRight 192 = .ok (.iconst 3, 1) := by decide +kernel
theorem dL_areRight_193 : decode cL_areRight 193 = .ok (.invokevirtual 19, 3) := by decide +kernel
theorem dL_areRight_196 : decode cL_areRight 196 = .ok (.aload_n 0, 1) := by decide +kernel
theorem dL_areRight_197 : decode cL_areRight 197 = .ok (.iconst 4, 1) := by decide +kernel
theorem dL_areRight_198 : decode cL_areRight 198 = .ok (.invokevirtual 19, 3) := by decide +kernel
theorem dL_areRight_201 : decode cL_areRight 201 = .ok (.iadd, 1) := by decide +kernel
theorem dL_areRight_202 : decode cL_areRight 202 = .ok (.if_icmp .ne 7, 3) := by decide +kernel
theorem dL_areRight_205 : decode cL_areRight 205 = .ok (.iconst 1, 1) := by decide +kernel
theorem dL_areRight_206 : decode cL_areRight 206 = .ok (.goto 4, 3) := by decide +kernel
theorem dL_areRight_209 : decode cL_areRight 209 = .ok (.iconst 0, 1) := by decide +kernel
theorem dL_areRight_210 : decode cL_areRight 210 = .ok (.istore 6, 2) := by decide +kernel
theorem dL_areRight_212 : decode cL_areRight 212 = .ok (.iload 5, 2) := by decide +kernel
theorem dL_areRight_214 : decode cL_areRight 214 = .ok (.ifCond .eq 27, 3) := by decide +kernel
theorem dL_areRight_217 : decode cL_areRight 217 = .ok (.lload_n 1, 1) := by decide +kernel
theorem dL_areRight_218 : decode cL_areRight 218 = .ok (.lconst 0, 1) := by decide +kernel
theorem dL_areRight_219 : decode cL_areRight 219 = .ok (.lcmp, 1) := by decide +kernel
theorem dL_areRight_220 : decode cL_areRight 220 = .ok (.ifCond .ne 21, 3) := by decide +kernel
theorem dL_areRight_223 : decode cL_areRight 223 = .ok (.iload_n 3, 1) := by decide +kernel
theorem dL_areRight_224 : decode cL_areRight 224 = .ok (.aload_n 0, 1) := by decide +kernel
theorem dL_areRight_225 : decode cL_areRight 225 = .ok (.iconst 1, 1) := by decide +kernel
theorem dL_areRight_226 : decode cL_areRight 226 = .ok (.invokevirtual 19, 3) := by decide +kernel
theorem dL_areRight_229 : decode cL_areRight 229 = .ok (.if_icmp .ne 12, 3) := by decide +kernel
theorem dL_areRight_232 : decode cL_areRight 232 = .ok (.iload 6, 2) := by decide +kernel
theorem dL_areRight_234 : decode cL_areRight 234 = .ok (.ifCond .eq 7, 3) := by decide +kernel
theorem dL_areRight_237 : decode cL_areRight 237 = .ok (.iconst 1, 1) := by decide +kernel
theorem dL_areRight_238 : decode cL_areRight 238 = .ok (.goto 4, 3) := by decide +kernel
theorem dL_areRight_241 : decode cL_areRight 241 = .ok (.iconst 0, 1) := by decide +kernel
theorem dL_areRight_242 : decode cL_areRight 242 = .ok (.ireturn, 1) := by decide +kernel
set_option maxRecDepth 20000 in
theorem ggL_isUndone_L_view : GoodIn wsL_isUndone wsL_view := goodIn_ca (goodIn_ca (goodIn_r _ [4, 5, 6, 7, 8, 9, 10, 11, 12, 13, 14, 15, 16, 17, 18, 19, 20, 21, 22, 23, 24, 25, 26, 27, 28, 29, 30, 31, 32, 33, 34, 35, 36, 37, 38, 39, 40, 41, 42, 43, 44, 45, 46, 47, 48, 49, 50, 51, 52, 53, 54, 55, 56, 57, 58, 59, 60, 61, 62, 63, 64, 65, 66, 67, 68, 69, 70, 71, 72, 73, 74, 75, 76, 77, 78, 79, 80, 81, 82, 83, 84, 85, 86, 87, 88, 89, 90, 91, 92, 93, 94, 95, 96, 97, 98, 99, 100, 101, 102, 103, 104, 105, 106, 107, 108, 109, 110, 111, 112, 113, 114, 115, 116, 117, 118, 119, 120, 121, 122, 123, 124, 125, 126, 127, 128, 129, 130, 131, 132, 133, 134, 135, 136, 137, 138, 139, 140, 141, 142, 143, 144, 145, 146, 147, 148, 149, 150, 151, 152, 307, 308, 309, 310, 311, 312, 313, 314, 315, 316, 317, 318, 319, 320, 321, 322, 323, 324, 325, 326] (by decide +kernel) (by decide +kernel)) (goodIn_sub (fun _ h => List.mem_cons_of_mem _ (List.mem_append_left _ (List.mem_append_left _ (List.mem_append_right _ h)))) (by decide +kernel))) (goodIn_sub (fun _ h => List.mem_cons_of_mem _ (List.mem_append_left _ (List.mem_append_right _ h))) (by decide +kernel))
set_option maxRecDepth 20000 in
theorem gL_isUndone_L_view : GoodIn wsL_isUndone (va_wsS RL 107 yL_view wsL_view) := goodIn_app (goodIn_of _ (by decide +kernel)) ggL_isUndone_L_view
set_option maxRecDepth 20000 in
theorem ggL_isUndone_X2_undo : GoodIn wsL_isUndone wsX2_undo := goodIn_ca (goodIn_r _ [156, 157, 12, 158, 159, 160, 10, 161, 162, 163, 164, 165, 166, 21, 167, 142, 168, 169, 170, 171, 25, 23, 86, 87, 88, 35, 89, 24, 127, 128, 30, 129, 62, 55, 307, 308, 309, 310, 311, 312, 313, 314, 315, 316, 317, 318, 319, 320, 321, 322, 323, 324, 325, 326] (by decide +kernel) (by decide +kernel)) (goodIn_sub (fun _ h => List.mem_cons_of_mem _ (List.mem_append_right _ h)) (by decide +kernel))
set_option maxRecDepth 20000 in
theorem gL_isUndone_X2_undo : GoodIn wsL_isUndone (wsV RL 111 RX2 yX2_undo wsX2_undo) := goodIn_app (goodIn_of _ (by decide +kernel)) ggL_isUndone_X2_undo
set_option maxRecDepth 20000 in
theorem ggL_isUndone_L_tries : GoodIn wsL_isUndone wsL_tries := goodIn_ca (goodIn_ca (goodIn_ca (goodIn_r _ [174, 175, 176, 177, 178, 179, 180, 3, 181, 182, 183, 184, 185, 186, 187, 188, 10, 189, 190, 191, 12, 67, 13, 14, 15, 16, 17, 192, 193, 194, 195, 157, 158, 196, 197, 198, 199, 164, 165, 166, 21, 167, 142, 168, 169, 170, 171, 25, 23, 86, 87, 88, 35, 89, 24, 127, 128, 30, 129, 62, 55, 200, 201, 202, 203, 204, 205, 206, 207, 208, 209, 210, 211, 159, 160, 161, 162, 163, 212, 213, 214, 215, 216, 217, 218, 219, 220, 72, 73, 74, 75, 76, 77, 78, 79, 80, 81, 221, 222, 223, 224, 225, 91, 92, 93, 94, 95, 96, 226, 227, 228, 229, 230, 231, 232, 233, 101, 234, 235, 236, 237, 238, 239, 240, 241, 56, 57, 242, 243, 244, 245, 151, 115, 116, 117, 118, 119, 120, 121, 122, 246, 247, 248, 249, 152, 250, 52, 53, 54, 251, 252, 253, 254, 255, 256, 257, 258, 259, 260, 261, 262, 263, 134, 135, 136, 137, 97, 98, 99, 100, 138, 139, 140, 141, 143, 144, 145, 146, 264, 265, 266, 267, 268, 269, 270, 271, 272, 273, 274, 275, 276, 277, 278, 279, 280, 281, 282, 283, 284, 285, 286, 287, 288, 289, 290, 291, 292, 293, 294, 295, 296, 297, 298, 299, 300, 301, 302, 303, 304, 305, 306, 307, 308, 309, 310, 311, 312, 313, 314, 315, 316, 317, 318, 319, 320, 321, 322, 323, 324, 325, 326] (by decide +kernel) (by decide +kernel)) (goodIn_sub (fun _ h => List.mem_cons_of_mem _ (List.mem_append_left _ (List.mem_append_left _ (List.mem_append_right _ h)))) (by decide +kernel))) (goodIn_sub (fun _ h => List.mem_cons_of_mem _ (List.mem_append_right _ h)) (by decide +kernel))) (goodIn_sub (fun _ h => List.mem_cons_of_mem _ (List.mem_append_left _ (List.mem_append_right _ h))) (by decide +kernel))
set_option maxRecDepth 20000 in
theorem gL_isUndone_L_tries : GoodIn wsL_isUndone (va_wsS RL 114 yL_tries wsL_tries) := goodIn_app (goodIn_of _ (by decide +kernel)) ggL_isUndone_L_tries
theorem dL_isUndone_0 : decode cL_isUndone 0 = .ok (.aload_n 0, 1) := by decide +kernel
theorem dL_isUndone_1 : decode cL_isUndone 1 = .ok (.invokestatic 107, 3) := by decide +kernel
theorem dL_isUndone_4 : decode cL_isUndone 4 = .ok (.lstore 7, 2) := by decide +kernel
theorem dL_isUndone_6 : decode cL_isUndone 6 = .ok (.aload_n 0, 1) := by decide +kernel
theorem dL_isUndone_7 : decode cL_isUndone 7 = .ok (.invokevirtual 111, 3) := by decide +kernel
theorem dL_isUndone_10 : decode cL_isUndone 10 = .ok (.pop, 1) := by decide +kernel
theorem dL_isUndone_11 : decode cL_isUndone 11 = .ok (.aload_n 0, 1) := by decide +kernel
theorem dL_isUndone_12 : decode cL_isUndone 12 = .ok (.invokestatic 107, 3) := by decide +kernel
theorem dL_isUndone_15 : decode cL_isUndone 15 = .ok (.lload 5, 2) := by decide +kernel
theorem dL_isUndone_17 : decode cL_isUndone 17 = .ok (.lcmp, 1) := by decide +kernel
theorem dL_isUndone_18 : decode cL_isUndone 18 = .ok (.ifCond .ne 29, 3) := by decide +kernel
theorem dL_isUndone_21 : decode cL_isUndone 21 = .ok (.aload_n 0, 1) := by decide +kernel
theorem dL_isUndone_22 : decode cL_isUndone 22 = .ok (.iload_n 1, 1) := by decide +kernel
theorem dL_isUndone_23 : decode cL_isUndone 23 = .ok (.iload_n 2, 1) := by decide +kernel
theorem dL_isUndone_24 : decode cL_isUndone 24 = .ok (.iload_n 3, 1) := by decide +kernel
theorem dL_isUndone_25 : decode cL_isUndone 25 = .ok (.invokestatic 114, 3) := by decide +kernel
theorem dL_isUndone_28 : decode cL_isUndone 28 = .ok (.iload 4, 2) := by decide +kernel
theorem dL_isUndone_30 : decode cL_isUndone 30 = .ok (.if_icmp .ne 17, 3) := by decide +kernel
theorem dL_isUndone_33 : decode cL_isUndone 33 = .ok (.aload_n 0, 1) := by decide +kernel
theorem dL_isUndone_34 : decode cL_isUndone 34 = .ok (.invokestatic 107, 3) := by decide +kernel
theorem dL_isUndone_37 : decode cL_isUndone 37 = .ok (.lload 7, 2) := by decide +kernel
theorem dL_isUndone_39 : decode cL_isUndone 39 = .ok (.lcmp, 1) := by decide +kernel
theorem dL_isUndone_40 : decode cL_isUndone 40 = .ok (.ifCond .ne 7, 3) := by decide +kernel
theorem dL_isUndone_43 : decode cL_isUndone 43 = .ok (.iconst 1, 1) := by decide +kernel
theorem dL_isUndone_44 : decode cL_isUndone 44 = .ok (.goto 4, 3) := by decide +kernel
theorem dL_isUndone_47 : decode cL_isUndone 47 = .ok (.iconst 0, 1) := by decide +kernel
theorem dL_isUndone_48 : decode cL_isUndone 48 = .ok (.ireturn, 1) := by decide +kernel
set_option maxRecDepth 20000 in
theorem ggL_law_X2_init : GoodIn wsL_law wsX2_init := goodIn_r _ [6, 7, 8, 9, 10, 11, 12, 13, 14, 15, 16, 17, 18, 19, 20, 21, 22, 23, 24, 25, 26, 27, 28, 29, 30, 31, 32, 33, 34, 35, 36, 37, 38, 39, 40, 41, 42, 43, 44, 45, 368, 369, 370, 371, 372, 373, 374, 375, 376, 377, 378, 379, 380, 381, 382, 363, 364, 365, 366, 367, 383, 384, 385, 386, 387, 388, 389, 390] (by decide +kernel) (by decide +kernel)
set_option maxRecDepth 20000 in
theorem gL_law_X2_init : GoodIn wsL_law (wsX2_init) := ggL_law_X2_init
set_option maxRecDepth 20000 in
theorem ggL_law_L_cell : GoodIn wsL_law wsL_cell := goodIn_r _ [49, 50] (by decide +kernel) (by decide +kernel)
set_option maxRecDepth 20000 in
theorem gL_law_L_cell : GoodIn wsL_law (va_wsS RL 118 yL_cell wsL_cell) := goodIn_app (goodIn_of _ (by decide +kernel)) ggL_law_L_cell
set_option maxRecDepth 20000 in
theorem ggL_law_L_view : GoodIn wsL_law wsL_view := goodIn_ca (goodIn_ca (goodIn_r _ [53, 54, 55, 56, 57, 58, 2, 59, 13, 60, 61, 62, 63, 64, 65, 66, 67, 12, 68, 69, 70, 71, 72, 73, 74, 75, 34, 76, 77, 78, 79, 30, 80, 81, 82, 83, 84, 85, 86, 87, 88, 89, 90, 91, 92, 93, 94, 95, 96, 97, 98, 37, 99, 100, 101, 102, 103, 104, 36, 105, 106, 107, 108, 109, 110, 111, 112, 113, 114, 115, 116, 117, 118, 119, 120, 121, 122, 123, 124, 125, 126, 127, 27, 28, 29, 31, 128, 129, 130, 131, 132, 133, 134, 135, 136, 137, 138, 139, 140, 141, 142, 143, 144, 145, 146, 147, 148, 149, 150, 151, 152, 153, 154, 155, 156, 157, 158, 159, 160, 161, 162, 163, 164, 32, 33, 35, 165, 166, 167, 168, 169, 170, 171, 172, 173, 174, 175, 176, 25, 177, 178, 179, 180, 181, 182, 183, 184, 185, 186, 363, 364, 365, 366, 367, 368, 369, 370, 371, 372, 373, 374, 375, 376, 377, 378, 379, 380, 381, 382] (by decide +kernel) (by decide +kernel)) (goodIn_sub (fun _ h => List.mem_append_left _ (List.mem_append_left _ (List.mem_append_right _ h))) (by decide +kernel))) (goodIn_sub (fun _ h => List.mem_append_left _ (List.mem_append_right _ h)) (by decide +kernel))
set_option maxRecDepth 20000 in
theorem gL_law_L_view : GoodIn wsL_law (va_wsS RL 107 yL_view wsL_view) := goodIn_app (goodIn_of _ (by decide +kernel)) ggL_law_L_view
set_option maxRecDepth 20000 in
theorem ggL_law_X2_digest : GoodIn wsL_law wsX2_digest := goodIn_r _ [190, 191, 19, 192, 193, 13, 109, 194, 195, 196, 65, 66, 67, 12, 68, 69, 70, 71, 72, 73, 74, 75, 34, 76, 77, 78, 79, 30, 80, 81, 82, 83, 84, 85, 86, 87, 88, 89, 90, 91, 92, 93, 94, 95, 96, 97, 98, 37, 99, 2, 100, 101, 102, 103, 104, 36, 197, 198, 199, 200, 124, 125, 126, 127, 27, 28, 29, 31, 128, 129, 130, 131, 132, 133, 134, 135, 136, 137, 138, 139, 140, 141, 142, 143, 148, 201, 202, 203, 204, 185, 161, 162, 163, 164, 32, 33, 35, 165, 166, 167, 168, 169, 170, 171, 172, 173, 174, 175, 176, 25, 177, 178, 179, 180, 186, 363, 364, 365, 366, 367, 383, 384, 385, 386, 387, 388, 389, 390, 368, 369, 370, 371, 372, 373, 374, 375, 376, 377, 378, 379, 380, 381, 382] (by decide +kernel) (by decide +kernel)
set_option maxRecDepth 20000 in
theorem gL_law_X2_digest : GoodIn wsL_law (wsV RL 122 RX2 yX2_digest wsX2_digest) := goodIn_app (goodIn_of _ (by decide +kernel)) ggL_law_X2_digest
set_option maxRecDepth 20000 in
theorem ggL_law_L_tries : GoodIn wsL_law wsL_tries := goodIn_ca (goodIn_ca (goodIn_ca (goodIn_r _ [207, 208, 209, 210, 3, 211, 212, 48, 213, 214, 215, 216, 217, 218, 219, 220, 2, 221, 222, 223, 13, 109, 60, 61, 62, 63, 64, 224, 225, 226, 227, 196, 15, 228, 229, 230, 231, 232, 233, 234, 12, 235, 25, 38, 39, 40, 41, 71, 69, 27, 28, 29, 30, 31, 70, 32, 33, 34, 35, 36, 37, 236, 237, 238, 239, 240, 241, 242, 243, 244, 245, 246, 194, 247, 248, 249, 250, 251, 252, 253, 254, 255, 256, 257, 258, 259, 260, 114, 115, 116, 117, 118, 119, 120, 121, 122, 123, 261, 262, 263, 264, 265, 129, 130, 131, 132, 133, 134, 266, 267, 268, 269, 270, 271, 272, 273, 139, 274, 275, 276, 277, 278, 279, 280, 281, 99, 100, 282, 283, 284, 285, 185, 153, 154, 155, 156, 157, 158, 159, 160, 286, 287, 288, 289, 186, 290, 96, 97, 98, 291, 292, 293, 294, 295, 296, 297, 298, 299, 300, 301, 302, 303, 169, 170, 171, 172, 135, 136, 137, 138, 173, 174, 175, 176, 177, 178, 179, 180, 304, 305, 306, 307, 308, 309, 310, 311, 312, 313, 314, 315, 316, 317, 318, 319, 320, 321, 322, 323, 324, 325, 326, 327, 328, 329, 330, 331, 332, 333, 334, 335, 336, 337, 338, 339, 340, 341, 342, 343, 344, 345, 346, 363, 364, 365, 366, 367, 368, 369, 370, 371, 372, 373, 374, 375, 376, 377, 378, 379, 380, 381, 382] (by decide +kernel) (by decide +kernel)) (goodIn_sub (fun _ h => List.mem_append_left _ (List.mem_append_left _ (List.mem_append_right _ h))) (by decide +kernel))) (goodIn_sub (fun _ h => List.mem_append_right _ h) (by decide +kernel))) (goodIn_sub (fun _ h => List.mem_append_left _ (List.mem_append_right _ h)) (by decide +kernel))
set_option maxRecDepth 20000 in
theorem gL_law_L_tries : GoodIn wsL_law (va_wsS RL 114 yL_tries wsL_tries) := goodIn_app (goodIn_of _ (by decide +kernel)) ggL_law_L_tries
set_option maxRecDepth 20000 in
theorem ggL_law_L_isUndone : GoodIn wsL_law wsL_isUndone := goodIn_ca (goodIn_ca (goodIn_ca (goodIn_r _ [349, 51, 52, 48, 53, 54, 55, 56, 57, 58, 2, 59, 13, 60, 61, 62, 63, 64, 65, 66, 67, 12, 68, 69, 70, 71, 72, 73, 74, 75, 34, 76, 77, 78, 79, 30, 80, 81, 82, 83, 84, 85, 86, 87, 88, 89, 90, 91, 92, 93, 94, 95, 96, 97, 98, 37, 99, 100, 101, 102, 103, 104, 36, 105, 106, 107, 108, 109, 110, 111, 112, 113, 114, 115, 116, 117, 118, 119, 120, 121, 122, 123, 124, 125, 126, 127, 27, 28, 29, 31, 128, 129, 130, 131, 132, 133, 134, 135, 136, 137, 138, 139, 140, 141, 142, 143, 144, 145, 146, 147, 148, 149, 150, 151, 152, 153, 154, 155, 156, 157, 158, 159, 160, 161, 162, 163, 164, 32, 33, 35, 165, 166, 167, 168, 169, 170, 171, 172, 173, 174, 175, 176, 25, 177, 178, 179, 180, 181, 182, 183, 184, 185, 186, 350, 351, 352, 353, 196, 15, 247, 248, 249, 250, 251, 232, 233, 234, 235, 38, 39, 40, 41, 205, 206, 207, 208, 209, 210, 3, 211, 212, 213, 214, 215, 216, 217, 218, 219, 220, 221, 222, 223, 224, 225, 226, 227, 228, 229, 230, 231, 236, 237, 238, 239, 240, 241, 242, 243, 244, 245, 246, 194, 252, 253, 254, 255, 256, 257, 258, 259, 260, 261, 262, 263, 264, 265, 266, 267, 268, 269, 270, 271, 272, 273, 274, 275, 276, 277, 278, 279, 280, 281, 282, 283, 284, 285, 286, 287, 288, 289, 290, 291, 292, 293, 294, 295, 296, 297, 298, 299, 300, 301, 302, 303, 304, 305, 306, 307, 308, 309, 310, 311, 312, 313, 314, 315, 316, 317, 318, 319, 320, 321, 322, 323, 324, 325, 326, 327, 328, 329, 330, 331, 332, 333, 334, 335, 336, 337, 338, 339, 340, 341, 342, 343, 344, 345, 346, 363, 364, 365, 366, 367, 368, 369, 370, 371, 372, 373, 374, 375, 376, 377, 378, 379, 380, 381, 382] (by decide +kernel) (by decide +kernel)) (goodIn_sub (fun _ h => List.mem_append_left _ (List.mem_append_left _ (List.mem_append_right _ h))) (by decide +kernel))) (goodIn_sub (fun _ h => List.mem_append_left _ (List.mem_append_right _ h)) (by decide +kernel))) (goodIn_sub (fun _ h => List.mem_append_right _ h) (by decide +kernel))
set_option maxRecDepth 20000 in
theorem gL_law_L_isUndone : GoodIn wsL_law (va_wsS RL 126 yL_isUndone wsL_isUndone) := goodIn_app (goodIn_of _ (by decide +kernel)) ggL_law_L_isUndone
set_option maxRecDepth 20000 in
theorem ggL_law_L_areRight : GoodIn wsL_law wsL_areRight := goodIn_ca (goodIn_ca (goodIn_r _ [356, 56, 57, 58, 2, 59, 13, 60, 61, 62, 63, 64, 65, 66, 67, 12, 68, 69, 70, 71, 72, 73, 74, 75, 34, 76, 77, 78, 79, 30, 80, 81, 82, 83, 84, 85, 86, 87, 88, 89, 90, 91, 92, 93, 94, 95, 96, 97, 98, 37, 99, 100, 101, 102, 103, 104, 36, 110, 111, 112, 113, 114, 115, 116, 117, 118, 119, 120, 121, 122, 123, 124, 125, 126, 127, 27, 28, 29, 31, 128, 129, 130, 131, 132, 133, 134, 135, 136, 137, 138, 139, 140, 141, 142, 143, 144, 145, 146, 147, 148, 357, 358, 48, 359, 360, 361, 362, 149, 150, 151, 152, 153, 154, 155, 156, 157, 158, 159, 160, 161, 162, 163, 164, 32, 33, 35, 165, 166, 167, 168, 169, 170, 171, 172, 173, 174, 175, 176, 25, 177, 178, 179, 180, 363, 364, 365, 366, 367, 368, 369, 370, 371, 372, 373, 374, 375, 376, 377, 378, 379, 380, 381, 382] (by decide +kernel) (by decide +kernel)) (goodIn_sub (fun _ h => List.mem_append_left _ (List.mem_append_left _ (List.mem_append_right _ h))) (by decide +kernel))) (goodIn_sub (fun _ h => List.mem_append_left _ (List.mem_append_right _ h)) (by decide +kernel))
set_option maxRecDepth 20000 in
theorem gL_law_L_areRight : GoodIn wsL_law (va_wsS RL 130 yL_areRight wsL_areRight) := goodIn_app (goodIn_of _ (by decide +kernel)) ggL_law_L_areRight
theorem dL_law_0 : decode cL_law 0 = .ok (.new 20, 3) := by decide +kernel
theorem dL_law_3 : decode cL_law 3 = .ok (.dup, 1) := by decide +kernel
theorem dL_law_4 : decode cL_law 4 = .ok (.invokespecial 117, 3) := by decide +kernel
theorem dL_law_7 : decode cL_law 7 = .ok (.astore_n 1, 1) := by decide +kernel
theorem dL_law_8 : decode cL_law 8 = .ok (.aload_n 0, 1) := by decide +kernel
theorem dL_law_9 : decode cL_law 9 = .ok (.arraylength, 1) := by decide +kernel
theorem dL_law_10 : decode cL_law 10 = .ok (.iconst 3, 1) := by decide +kernel
theorem dL_law_11 : decode cL_law 11 = .ok (.idiv, 1) := by decide +kernel
theorem dL_law_12 : decode cL_law 12 = .ok (.bipush 36, 2) := by decide +kernel
theorem dL_law_14 : decode cL_law 14 = .ok (.if_icmp .ge 10, 3) := by decide +kernel
theorem dL_law_17 : decode cL_law 17 = .ok (.aload_n 0, 1) := by decide +kernel
theorem dL_law_18 : decode cL_law 18 = .ok (.arraylength, 1) := by decide +kernel
theorem dL_law_19 : decode cL_law 19 = .ok (.iconst 3, 1) := by decide +kernel
theorem dL_law_20 : decode cL_law 20 = .ok (.idiv, 1) := by decide +kernel
theorem dL_law_21 : decode cL_law 21 = .ok (.goto 5, 3) := by decide +kernel
theorem dL_law_24 : decode cL_law 24 = .ok (.bipush 36, 2) := by decide +kernel
theorem dL_law_26 : decode cL_law 26 = .ok (.istore_n 2, 1) := by decide +kernel
theorem dL_law_27 : decode cL_law 27 = .ok (.iconst 0, 1) := by decide +kernel
theorem dL_law_28 : decode cL_law 28 = .ok (.istore_n 3, 1) := by decide +kernel
theorem dL_law_29 : decode cL_law 29 = .ok (.iload_n 3, 1) := by decide +kernel
theorem dL_law_30 : decode cL_law 30 = .ok (.iload_n 2, 1) := by decide +kernel
theorem dL_law_31 : decode cL_law 31 = .ok (.if_icmp .ge 145, 3) := by decide +kernel
theorem dL_law_34 : decode cL_law 34 = .ok (.aload_n 0, 1) := by decide +kernel
theorem dL_law_35 : decode cL_law 35 = .ok (.iconst 3, 1) := by decide +kernel
theorem dL_law_36 : decode cL_law 36 = .ok (.iload_n 3, 1) := by decide +kernel
theorem dL_law_37 : decode cL_law 37 = .ok (.imul, 1) := by decide +kernel
theorem dL_law_38 : decode cL_law 38 = .ok (.invokestatic 118, 3) := by decide +kernel
theorem dL_law_41 : decode cL_law 41 = .ok (.istore 4, 2) := by decide +kernel
theorem dL_law_43 : decode cL_law 43 = .ok (.aload_n 0, 1) := by decide +kernel
theorem dL_law_44 : decode cL_law 44 = .ok (.iconst 3, 1) := by decide +kernel
theorem dL_law_45 : decode cL_law 45 = .ok (.iload_n 3, 1) := by decide +kernel
theorem dL_law_46 : decode cL_law 46 = .ok (.imul, 1) := by decide +kernel
theorem dL_law_47 : decode cL_law 47 = .ok (.iconst 1, 1) := by decide +kernel
theorem dL_law_48 : decode cL_law 48 = .ok (.iadd, 1) := by decide +kernel
theorem dL_law_49 : decode cL_law 49 = .ok (.invokestatic 118, 3) := by decide +kernel
theorem dL_law_52 : decode cL_law 52 = .ok (.istore 5, 2) := by decide +kernel
theorem dL_law_54 : decode cL_law 54 = .ok (.aload_n 0, 1) := by decide +kernel
theorem dL_law_55 : decode cL_law 55 = .ok (.iconst 3, 1) := by decide +kernel
theorem dL_law_56 : decode cL_law 56 = .ok (.iload_n 3, 1) := by decide +kernel
theorem dL_law_57 : decode cL_law 57 = .ok (.imul, 1) := by decide +kernel
theorem dL_law_58 : decode cL_law 58 = .ok (.iconst 2, 1) := by decide +kernel
theorem dL_law_59 : decode cL_law 59 = .ok (.iadd, 1) := by decide +kernel
theorem dL_law_60 : decode cL_law 60 = .ok (.invokestatic 118, 3) := by decide +kernel
theorem dL_law_63 : decode cL_law 63 = .ok (.istore 6, 2) := by decide +kernel
theorem dL_law_65 : decode cL_law 65 = .ok (.iload_n 3, 1) := by decide +kernel
theorem dL_law_66 : decode cL_law 66 = .ok (.iconst 3, 1) := by decide +kernel
theorem dL_law_67 : decode cL_law 67 = .ok (.if_icmp .ge 7, 3) := by decide +kernel
theorem dL_law_70 : decode cL_law 70 = .ok (.iconst 1, 1) := by decide +kernel
theorem dL_law_71 : decode cL_law 71 = .ok (.goto 8, 3) := by decide +kernel
theorem dL_law_74 : decode cL_law 74 = .ok (.iload 4, 2) := by decide +kernel
theorem dL_law_76 : decode cL_law 76 = .ok (.bipush 15, 2) := by decide +kernel
theorem dL_law_78 : decode cL_law 78 = .ok (.iand, 1) := by decide +kernel
theorem dL_law_79 : decode cL_law 79 = .ok (.istore 7, 2) := by decide +kernel
theorem dL_law_81 : decode cL_law 81 = .ok (.aload_n 1, 1) := by decide +kernel
theorem dL_law_82 : decode cL_law 82 = .ok (.invokestatic 107, 3) := by decide +kernel
theorem dL_law_85 : decode cL_law 85 = .ok (.lstore 8, 2) := by decide +kernel
theorem dL_law_87 : decode cL_law 87 = .ok (.aload_n 1, 1) := by decide +kernel
theorem dL_law_88 : decode cL_law 88 = .ok (.invokevirtual 122, 3) := by decide +kernel
theorem dL_law_91 : decode cL_law 91 = .ok (.lstore 10, 2) := by decide +kernel
theorem dL_law_93 : decode cL_law 93 = .ok (.aload_n 1, 1) := by decide +kernel
theorem dL_law_94 : decode cL_law 94 = .ok (.iload 7, 2) := by decide +kernel
theorem dL_law_96 : decode cL_law 96 = .ok (.iload 5, 2) := by decide +kernel
theorem dL_law_98 : decode cL_law 98 = .ok (.iload 6, 2) := by decide +kernel
theorem dL_law_100 : decode cL_law 100 = .ok (.invokestatic 114, 3) := by decide +kernel
theorem dL_law_103 : decode cL_law 103 = .ok (.istore 12, 2) := by decide +kernel
theorem dL_law_105 : decode cL_law 105 = .ok (.iload 12, 2) := by decide +kernel
theorem dL_law_107 : decode cL_law 107 = .ok (.ldc 95, 2) := by decide +kernel
theorem dL_law_109 : decode cL_law 109 = .ok (.if_icmp .ne 25, 3) := by decide +kernel
theorem dL_law_112 : decode cL_law 112 = .ok (.aload_n 1, 1) := by decide +kernel
theorem dL_law_113 : decode cL_law 113 = .ok (.invokestatic 107, 3) := by decide +kernel
theorem dL_law_116 : decode cL_law 116 = .ok (.lload 8, 2) := by decide +kernel
theorem dL_law_118 : decode cL_law 118 = .ok (.lcmp, 1) := by decide +kernel
theorem dL_law_119 : decode cL_law 119 = .ok (.ifCond .ne 13, 3) := by decide +kernel
theorem dL_law_122 : decode cL_law 122 = .ok (.aload_n 1, 1) := by decide +kernel
theorem dL_law_123 : decode cL_law 123 = .ok (.invokevirtual 122, 3) := by decide +kernel
theorem dL_law_126 : decode cL_law 126 = .ok (.lload 10, 2) := by decide +kernel
theorem dL_law_128 : decode cL_law 128 = .ok (.lcmp, 1) := by decide +kernel
theorem dL_law_129 : decode cL_law 129 = .ok (.ifCond .eq 32, 3) := by decide +kernel
theorem dL_law_132 : decode cL_law 132 = .ok (.iconst 0, 1) := by decide +kernel
theorem dL_law_133 : decode cL_law 133 = .ok (.ireturn, 1) := by decide +kernel
theorem dL_law_134 : decode cL_law 134 = .ok (.iload 4, 2) := by decide +kernel
theorem dL_law_136 : decode cL_law 136 = .ok (.bipush 16, 2) := by decide +kernel
theorem dL_law_138 : decode cL_law 138 = .ok (.iand, 1) := by decide +kernel
theorem dL_law_139 : decode cL_law 139 = .ok (.ifCond .ne 22, 3) := by decide +kernel
theorem dL_law_142 : decode cL_law 142 = .ok (.aload_n 1, 1) := by decide +kernel
theorem dL_law_143 : decode cL_law 143 = .ok (.iload 7, 2) := by decide +kernel
theorem dL_law_145 : decode cL_law 145 = .ok (.iload 5, 2) := by decide +kernel
theorem dL_law_147 : decode cL_law 147 = .ok (.iload 6, 2) := by decide +kernel
theorem dL_law_149 : decode cL_law 149 = .ok (.iload 12, 2) := by decide +kernel
theorem dL_law_151 : decode cL_law 151 = .ok (.lload 8, 2) := by decide +kernel
theorem dL_law_153 : decode cL_law 153 = .ok (.invokestatic 126, 3) := by decide +kernel
theorem dL_law_156 : decode cL_law 156 = .ok (.ifCond .ne 5, 3) := by decide +kernel
theorem dL_law_159 : decode cL_law 159 = .ok (.iconst 0, 1) := by decide +kernel
theorem dL_law_160 : decode cL_law 160 = .ok (.ireturn, 1) := by decide +kernel
theorem dL_law_161 : decode cL_law 161 = .ok (.aload_n 1, 1) := by decide +kernel
theorem dL_law_162 : decode cL_law 162 = .ok (.invokestatic 130, 3) := by decide +kernel
theorem dL_law_165 : decode cL_law 165 = .ok (.ifCond .ne 5, 3) := by decide +kernel
theorem dL_law_168 : decode cL_law 168 = .ok (.iconst 0, 1) := by decide +kernel
theorem dL_law_169 : decode cL_law 169 = .ok (.ireturn, 1) := by decide +kernel
theorem dL_law_170 : decode cL_law 170 = .ok (.iinc 3 1, 3) := by decide +kernel
theorem dL_law_173 : decode cL_law 173 = .ok (.goto (-144), 3) := by decide +kernel
theorem dL_law_176 : decode cL_law 176 = .ok (.iconst 1, 1) := by decide +kernel
theorem dL_law_177 : decode cL_law 177 = .ok (.ireturn, 1) := by decide +kernel
abbrev vwCl : List vw_C := [(RX0, TX0, 8), (RX1, TX1, 15), (RX2, TX2, 5)]
end
