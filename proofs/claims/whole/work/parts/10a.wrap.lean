def wLW (cI cJ cS : ClassId) (A : Nat → Nat → Nat) (g : Nat → Option Nat) (B : Nat → Nat → Nat) (k0 : Nat) (S : CM) (O : Nat → Int64) : va_W := (k0, .inl (cJ, 1, .inr (.inl O))) :: wCM cI cJ cS A g B S
def q_EN (U : State) : Prop := va_Nc "java/lang/IllegalStateException" "java/lang/IndexOutOfBoundsException" U ∧ va_Nc "java/lang/IllegalStateException" "java/lang/IllegalArgumentException" U ∧ va_Nc "java/lang/IllegalArgumentException" "java/lang/IndexOutOfBoundsException" U
theorem q_EN.moved {u U : State} (hv : u.vm.Alike U.vm) (h : q_EN u) : q_EN U := ⟨va_Nc.moved hv h.1, va_Nc.moved hv h.2.1, va_Nc.moved hv h.2.2⟩
def q_BL (D : va_G) (cI cJ cS : ClassId) (sa : Nat → Nat) (w : va_W) (sz : Nat) (U : State) : Prop := q_BWX D cI cJ cS sa w sz U ∧ q_EN U
theorem q_blindL {D : va_G} {cI cJ cS : ClassId} {sa : Nat → Nat} {w : va_W} {sz : Nat} {av : List Value} : FrameBlind (va_Pc av (q_BL D cI cJ cS sa w sz)) := fun a U g mk q => ⟨q.1, (q_blindWX (av := av) (D := D) (cI := cI) (cJ := cJ) (cS := cS) (sa := sa) (w := w) (sz := sz) a U g mk ⟨q.1, q.2.1⟩).2, q_EN.moved (u := U) (U := U.calling g mk a) (Vm.Alike.refl _) q.2.2⟩
def q_PL (cI cJ cS : ClassId) (A : Nat → Nat → Nat) (k0 : Nat) (S : CM) (O : Nat → Int64) (w' : va_W) : Prop := ∃ (g : Nat → Option Nat) (B : Nat → Nat → Nat), (∀ i, i < 4 → g i = some (B i 0)) ∧ w' = wLW cI cJ cS A g B k0 S O
def q_LQ (o : Int32 × CM × (Nat → Int64)) (D : va_G) (cI cJ cS : ClassId) (A : Nat → Nat → Nat) (k0 : Nat) (w : va_W) (sz : Nat) : Array Value → State → Outcome → State → Prop := fun _ st oc t => oc = .returned (some (.int o.1)) ∧ (∃ w', q_PL cI cJ cS A k0 o.2.1 o.2.2 w' ∧ va_P D vwCl w' t.heap ∧ va_D (va_A w sz) w') ∧ va_F (va_A w sz) st t
def q_LX : String → State → State → Prop := fun _ _ _ => False
def q_out (x : String ⊕ (Int32 × CM)) (O : Nat → Int64) (code : String → Option Int32) (S : CM) : Option (Int32 × CM × (Nat → Int64)) := match x with
  | .inl E => (code E).bind fun k => some (k, S, O)
  | .inr r => some (0, r.2, vp_updL O (0 : Int32).toNatClampNeg ((r.1 : Int32).toInt64))
def q_outR (x : String ⊕ Int32) (O : Nat → Int64) (code : String → Option Int32) (S : CM) : Option (Int32 × CM × (Nat → Int64)) := match x with
  | .inl E => (code E).bind fun k => some (k, S, O)
  | .inr r => some (0, S, vp_updL O (0 : Int32).toNatClampNeg ((r : Int32).toInt64))
def q_outJ (x : String ⊕ Int64) (O : Nat → Int64) (code : String → Option Int32) (S : CM) : Option (Int32 × CM × (Nat → Int64)) := match x with
  | .inl E => (code E).bind fun k => some (k, S, O)
  | .inr r => some (0, S, vp_updL O (0 : Int32).toNatClampNeg r)
section QL
variable {p : Program} {l : Launch} {e : Env} {R : Room} {s : State} {m : MethodId} {args : Array Value} {below : List Frame} {meth : Method} {c : Code} {Q : State → Prop}
variable {pc : Nat} {ls : Array Slot} {rest st0 : List Value} {a : Array Value} {mc ms : Nat} {D : va_G} {cI cJ cS : ClassId} {A : Nat → Nat → Nat} {g : Nat → Option Nat} {B : Nat → Nat → Nat} {k0 : Nat} {S : CM} {O : Nat → Int64}
theorem q_lcR {ρ : Type} {V : ρ → Option Value} {x : String ⊕ ρ} (hr : vx_Run p l e R s m args below meth c s.heap [] 0 0 mc ms (F0 m pc ls st0) rest (q_XR V x a) (q_XC x) (fun _ => False))
    (kx : ∀ (E : String) (ce : Cell) (q : Addr) (H1 : Heap), x = .inl E → H1[q]? = some ce → ce.vm = .none → s.vm.findClass E = some ce.cls → s.heap.size ≤ H1.size → (∀ q : Nat, q < s.heap.size → H1[q]? = s.heap[q]?) → vx_W p l e R s m args below meth c H1 [] (0 + mc) (0 + ms) Q (F0 m pc ls rest) q)
    (kk : ∀ r, x = .inr r → W p l e R s m args below meth c s.heap [] (0 + mc) (0 + ms) Q (F0 m (pc + 3) ls ((V r).toList ++ rest))) : W p l e R s m args below meth c s.heap [] 0 0 Q (F0 m pc ls st0) := by
  intro T hT X
  rcases hr T hT X with ⟨v, st₀, t, T', L, h0, X', hL, e1, e2, ⟨r, hx1, hv, hh⟩, st⟩ | ⟨q, st₀, t, T', L, E, ce, h0, X', hL, e1, e2, ⟨hx1, hF⟩, hce, hcv, hcl, st⟩
  · cases hv
    obtain ⟨t2, a1, b1⟩ := kk r hx1 T' (by rw [e1, hh, h0]) (Stand.forget X' (fun q h => (hL q h).elim))
    exact ⟨t2, st t2 a1, b1⟩
  · have X'' := Stand.forget (locs := []) X' (fun q h => (hL q h).elim)
    obtain ⟨t2, a1, b1⟩ := kx E ce q T'.heap hx1 (by rw [e1]; exact hce) hcv hcl (by rw [e1, ← h0]; exact hF.1) (fun q hq => by rw [e1, ← h0]; exact hF.2 q (by rw [h0]; exact hq) (by rw [h0]; exact Nat.not_le.mpr hq)) T' rfl X''
    exact ⟨t2, st.trans a1, b1⟩
set_option maxRecDepth 20000 in
theorem q_lcW {ρ : Type} {V : ρ → Option Value} {x : String ⊕ (ρ × CM)} (hP : va_P D vwCl (wLW cI cJ cS A g B k0 S O) s.heap) (hD : va_D (va_A (wLW cI cJ cS A g B k0 S O) s.heap.size) (wLW cI cJ cS A g B k0 S O)) (hr : vx_Run p l e R s m args below meth c s.heap [] 0 0 mc ms (F0 m pc ls st0) rest (q_XW V x D cI cJ cS A (wCM cI cJ cS A g B S) s.heap.size a) (q_XC x) (va_A (wCM cI cJ cS A g B S) s.heap.size))
    (kx : ∀ (E : String) (ce : Cell) (q : Addr) (H1 : Heap) (locs1 : List Loc), x = .inl E → H1[q]? = some ce → ce.vm = .none → s.vm.findClass E = some ce.cls → s.heap.size ≤ H1.size → (∀ q : Nat, q < s.heap.size → H1[q]? = s.heap[q]?) → (∀ z ∈ locs1, va_A (wLW cI cJ cS A g B k0 S O) s.heap.size z.base) → vx_W p l e R s m args below meth c H1 locs1 (0 + mc) (0 + ms) Q (F0 m pc ls rest) q)
    (kk : ∀ (r : ρ × CM) (g' : Nat → Option Nat) (B' : Nat → Nat → Nat) (H1 : Heap) (locs1 : List Loc), x = .inr r → (∀ i, i < 4 → g' i = some (B' i 0)) → va_P D vwCl (wLW cI cJ cS A g' B' k0 r.2 O) H1 → va_D (va_A (wLW cI cJ cS A g B k0 S O) s.heap.size) (wLW cI cJ cS A g' B' k0 r.2 O) → va_S (va_A (wLW cI cJ cS A g B k0 S O) s.heap.size) s.heap H1 locs1 → W p l e R s m args below meth c H1 locs1 (0 + mc) (0 + ms) Q (F0 m (pc + 3) ls ((V r.1).toList ++ rest))) : W p l e R s m args below meth c s.heap [] 0 0 Q (F0 m pc ls st0) := by
  have hF : ∀ q, va_A (wCM cI cJ cS A g B S) s.heap.size q → va_A (wLW cI cJ cS A g B k0 S O) s.heap.size q := fun q h => h.elim (fun ⟨k, e9, he⟩ => Or.inl ⟨k + 1, e9, he⟩) (fun h => Or.inr h)
  intro T hT X
  rcases hr T hT X with ⟨v, st₀, t, T', L, h0, X', hL, e1, e2, ⟨r, hx1, hv, ⟨w', ⟨g', B', hg', rfl⟩, hp, hd⟩, hz, hk⟩, st⟩ | ⟨q, st₀, t, T', L, E, ce, h0, X', hL, e1, e2, ⟨hx1, hX⟩, hce, hcv, hcl, st⟩
  · cases hv
    rw [h0] at hz hk
    obtain ⟨h1, h2⟩ := va_join (H1 := T'.heap) (wr := [(k0, .inl (cJ, 1, .inr (.inl O)))]) (w1 := wCM cI cJ cS A g' B' r.2) (wc := wCM cI cJ cS A g B S) hP hD [1, 2, 3, 4, 5, 6, 7, 8, 9, 10, 11, 12, 13, 14, 15, 16, 17, 18, 19, 20, 21, 22, 23, 24, 25, 26, 27, 28, 29, 30, 31, 32, 33, 34, 35, 36, 37, 38, 39, 40, 41, 42, 43, 44, 45, 46, 47, 48, 49, 50, 51, 52, 53, 54, 55, 56, 57, 58, 59, 60, 61, 62, 63, 64, 65, 66, 67, 68, 69, 70, 71, 72, 73, 74, 75, 76, 77, 78, 79, 80, 81, 82] [0] rfl rfl (by decide +kernel) (by decide +kernel) (fun q a1 a2 => by rw [e1]; exact hk q a1 a2) hF (by rw [e1]; exact hp) hd
    obtain ⟨t2, a1, b1⟩ := kk r g' B' T'.heap ([] ++ L) hx1 hg' h1 h2 ⟨by rw [e1]; exact hz, fun q a1 a2 => by rw [e1]; exact hk q a1 (fun z => a2 (hF q z)), fun z hz => hF _ (hL z hz)⟩ T' rfl X'
    exact ⟨t2, st t2 a1, b1⟩
  · obtain ⟨t2, a1, b1⟩ := kx E ce q T'.heap ([] ++ L) hx1 (by rw [e1]; exact hce) hcv hcl (by rw [e1, ← h0]; exact hX.1) (fun q hq => by rw [e1, ← h0]; exact hX.2 q (by rw [h0]; exact hq) (by rw [h0]; exact Nat.not_le.mpr hq)) (fun z hz => hF _ (hL z hz)) T' rfl X'
    exact ⟨t2, st.trans a1, b1⟩
end QL
def f_L_set (S : CM) (O : Nat → Int64) (p1 : Int32) (p2 : Int32) : Option (Int32 × CM × (Nat → Int64)) := (f_X2_set S p1 p2).bind fun x => q_out x O (fun E => if E = "java/lang/IllegalArgumentException" then some 1 else none) S
abbrev rL_set : Room := { frames := 8, cells := 2, slots := 12, locals := 135 }
set_option maxRecDepth 100000 in
set_option maxHeartbeats 4000000 in
theorem c_L_set (l : Launch) (hlt : l.stackTraces = false) (D : va_G) (cI cJ cS : ClassId) (sa : Nat → Nat) (A : Nat → Nat → Nat) (g : Nat → Option Nat) (B : Nat → Nat → Nat) (hg : ∀ i, i < 4 → g i = some (B i 0)) (k0 : Nat) (S : CM) (O : Nat → Int64) (sz : Nat) (p1 : Int32) (p2 : Int32) (o : Int32 × CM × (Nat → Int64)) (hf : f_L_set S O p1 p2 = some o) : vx_Met l yL_set wsL_set rL_set (va_Pc [.ref (A 3 0), .int p1, .int p2, .ref k0] (q_BL D cI cJ cS sa (wLW cI cJ cS A g B k0 S O) sz)) (q_LQ o D cI cJ cS A k0 (wLW cI cJ cS A g B k0 S O) sz) q_LX 2 12 (va_A (wLW cI cJ cS A g B k0 S O) sz) := by
  refine vx_ofWH (cc := cL_set) (maxL := 5) (ret := some .int) (hh := [(0, 10, 13, 13)]) (by decide) rfl ?_
  intro p e s m args below meth c s₁ B9 hml hv
  obtain ⟨rfl, ⟨hsz, hP, hE, hD0, hES, hZ⟩, hN⟩ := hv
  have hx := B9.exec
  have hb := B9.bytes
  have hr := B9.returns
  have hts := atoms_spec (ws := wsL_set) B9.pre
  have hown : s.vm.findClass RL = some m.cls := findClass_of_methodNamed B9.named
  have hlocks := B9.notSynchronized
  have htab : c.exceptionTable.toList = [⟨0, 10, 13, 13⟩] := vx_table (x := yL_set) B9 (hts _ List.mem_cons_self)
  subst hsz
  have hD := hD0.self (sz := s.heap.size)
  have hPc : va_P D vwCl (wCM cI cJ cS A g B S) s.heap := hP.sub [1, 2, 3, 4, 5, 6, 7, 8, 9, 10, 11, 12, 13, 14, 15, 16, 17, 18, 19, 20, 21, 22, 23, 24, 25, 26, 27, 28, 29, 30, 31, 32, 33, 34, 35, 36, 37, 38, 39, 40, 41, 42, 43, 44, 45, 46, 47, 48, 49, 50, 51, 52, 53, 54, 55, 56, 57, 58, 59, 60, 61, 62, 63, 64, 65, 66, 67, 68, 69, 70, 71, 72, 73, 74, 75, 76, 77, 78, 79, 80, 81, 82] rfl
  have hDc : va_D (va_A (wLW cI cJ cS A g B k0 S O) s.heap.size) (wCM cI cJ cS A g B S) := hD.sub [1, 2, 3, 4, 5, 6, 7, 8, 9, 10, 11, 12, 13, 14, 15, 16, 17, 18, 19, 20, 21, 22, 23, 24, 25, 26, 27, 28, 29, 30, 31, 32, 33, 34, 35, 36, 37, 38, 39, 40, 41, 42, 43, 44, 45, 46, 47, 48, 49, 50, 51, 52, 53, 54, 55, 56, 57, 58, 59, 60, 61, 62, 63, 64, 65, 66, 67, 68, 69, 70, 71, 72, 73, 74, 75, 76, 77, 78, 79, 80, 81, 82] (by decide +kernel) rfl
  have hAc : ∀ q, va_A (wCM cI cJ cS A g B S) s.heap.size q → (va_A (wLW cI cJ cS A g B k0 S O) s.heap.size) q := fun q h => h.elim (fun ⟨k, e9, he⟩ => Or.inl ⟨k + 1, e9, he⟩) (fun h => Or.inr h)
  have hAr : ∀ q, va_A (wCR cI cJ A S) s.heap.size q → (va_A (wLW cI cJ cS A g B k0 S O) s.heap.size) q := fun q h => h.elim (fun ⟨k, e9, he⟩ => (qd_CR hDc).2 k _ he) (fun h => Or.inr h)
  have hl := lv_entry ([.ref (A 3 0), .int p1, .int p2, .ref k0]) (n := 5) (Nat.le_of_ble_eq_true rfl)
  rw [lg_entry_eq]
  generalize (lg_sl ([.ref (A 3 0), .int p1, .int p2, .ref k0]) ++ List.replicate (5 - (lg_sl ([.ref (A 3 0), .int p1, .int p2, .ref k0])).length) Slot.unset).toArray = ls at hl ⊢
  have hl : lv_has ls 5 [(0, .ref (A 3 0)), (1, .int p1), (2, .int p2), (3, .ref k0)] := hl
  unfold f_L_set at hf
  refine lv_aload_n hx hb dL_set_0 rfl (lv_at hl 3 rfl) ?_
  refine lv_iconst (v := 0) hx hb dL_set_1 (by decide) ?_
  refine lv_aload_n hx hb dL_set_2 rfl (lv_at hl 0 rfl) ?_
  refine lv_iload_n hx hb dL_set_3 rfl (lv_at hl 1 rfl) ?_
  refine lv_iload_n hx hb dL_set_4 rfl (lv_at hl 2 rfl) ?_
  obtain ⟨x, hx1, hf⟩ := q_bd_go hf
  refine q_lcW hP hD (vx_runV (As := [.int p1, .int p2]) (rest := [.int 0, .ref k0]) ⟨hx, hb, hml, hown, hts⟩ (c_X2_set l hlt D cI cJ cS sa A g B hg S _ p1 p2 _ hx1) (cwV 2 hts gL_set_X2_set rfl rfl rfl (by decide +kernel) ⟨(Nat.le_of_ble_eq_true rfl), (Nat.le_of_ble_eq_true rfl)⟩) ⟨q_blindWX, va_recv hE.1 hPc (ci := 2) (q0 := 0) rfl rfl, fun U hU hW => ⟨rfl, by rw [hU], by rw [hU]; exact hPc, q_E.warm hW hE, hDc.weaken (fun _ _ _ _ => trivial), q_ES.warm hW hES, by rw [hU]; exact q_EZ.moved hW.alike (hZ.narrow hAc)⟩⟩ rfl rfl hl.1 rfl (lv_room (Nat.le_of_ble_eq_true rfl)) dL_set_5 ⟨(Nat.le_of_ble_eq_true rfl), (Nat.le_of_ble_eq_true rfl)⟩) (fun E ce q H1 locs1 eE hce hcv hcl hz hk hlo => ?_) (fun r g2 B2 H locs er hg2 hP hD hS => ?_)
  · rw [eE] at hf
    have hS1 : va_S (va_A (wLW cI cJ cS A g B k0 S O) s.heap.size) s.heap H1 locs1 := ⟨hz, fun q h1 _ => hk q h1, hlo⟩
    have hP1 : va_P D vwCl (wLW cI cJ cS A g B k0 S O) H1 := hP.kept (fun k q h => hk q.1 (vx_lt hP h))
    by_cases cE : E = "java/lang/IllegalArgumentException"
    · subst cE
      have hf : some ((1 : Int32), S, O) = some o := hf
      refine vx_catch (name := "java/lang/IllegalArgumentException") hown [] ⟨0, 10, 13, 13⟩ [] htab (fun z hz => nomatch hz) (by decide) (by decide) (hts (.classLink RL 13 "java/lang/IllegalArgumentException") (List.mem_of_getElem? (i := 1) rfl)) (va_Nw.use rfl hES.2.2.1) hce hcv hcl ?_
      refine lv_astore (lv' := [(4, .ref q), (0, .ref (A 3 0)), (1, .int p1), (2, .int p2), (3, .ref k0)]) hx hb dL_set_13 hl (by decide) rfl (fun ls hl => ?_)
      refine lv_iconst (v := 1) hx hb dL_set_15 (by decide) ?_
      have ho := q_some hf
      subst ho
      refine vx_ret ?_
      exact W.iret hx hb hr (fun t ht hW => ⟨rfl, ⟨_, ⟨g, B, hg, rfl⟩, by rw [ht]; exact hP1, hD⟩, hS1.F ht⟩) hS1.2.2 dL_set_16
    have hn : q_out (.inl E) O (fun E => if E = "java/lang/IllegalArgumentException" then some 1 else none) S = none := by simp [q_out, *]
    rw [hn] at hf
    cases hf
  · rw [er] at hf
    refine lv_i2l (v := ((r.1 : Int32).toInt64)) hx hb dL_set_8 rfl ?_
    refine va_last hx hb hE.1 hP hD hS 0 1 rfl rfl (by unfold vp_in; decide) dL_set_9 (fun H locs hP hD hS => ?_)
    have hP : va_P D vwCl (wLW cI cJ cS A g2 B2 k0 r.2 (vp_updL O (0 : Int32).toNatClampNeg ((r.1 : Int32).toInt64))) H := hP
    have hD : va_D (va_A (wLW cI cJ cS A g B k0 S O) s.heap.size) (wLW cI cJ cS A g2 B2 k0 r.2 (vp_updL O (0 : Int32).toNatClampNeg ((r.1 : Int32).toInt64))) := hD
    refine lv_goto (tgt := 17) hx hb dL_set_10 (by decide) ?_
    refine lv_iconst (v := 0) hx hb dL_set_17 (by decide) ?_
    have ho := q_some hf
    subst ho
    refine vx_ret ?_
    exact W.iret hx hb hr (fun t ht hW => ⟨rfl, ⟨_, ⟨g2, B2, hg2, rfl⟩, by rw [ht]; exact hP, hD⟩, hS.F ht⟩) hS.2.2 dL_set_18
def f_L_addPerson (S : CM) (O : Nat → Int64) (p1 : Int64) : Option (Int32 × CM × (Nat → Int64)) := (f_X2_addPerson S p1).bind fun x => q_out x O (fun E => if E = "java/lang/IllegalArgumentException" then some 1 else if E = "java/lang/IllegalStateException" then some 2 else none) S
abbrev rL_addPerson : Room := { frames := 8, cells := 1, slots := 6, locals := 132 }
set_option maxRecDepth 100000 in
set_option maxHeartbeats 4000000 in
theorem c_L_addPerson (l : Launch) (hlt : l.stackTraces = false) (D : va_G) (cI cJ cS : ClassId) (sa : Nat → Nat) (A : Nat → Nat → Nat) (g : Nat → Option Nat) (B : Nat → Nat → Nat) (hg : ∀ i, i < 4 → g i = some (B i 0)) (k0 : Nat) (S : CM) (O : Nat → Int64) (sz : Nat) (p1 : Int64) (o : Int32 × CM × (Nat → Int64)) (hf : f_L_addPerson S O p1 = some o) : vx_Met l yL_addPerson wsL_addPerson rL_addPerson (va_Pc [.ref (A 3 0), .long p1, .ref k0] (q_BL D cI cJ cS sa (wLW cI cJ cS A g B k0 S O) sz)) (q_LQ o D cI cJ cS A k0 (wLW cI cJ cS A g B k0 S O) sz) q_LX 1 6 (va_A (wLW cI cJ cS A g B k0 S O) sz) := by
  refine vx_ofWH (cc := cL_addPerson) (maxL := 5) (ret := some .int) (hh := [(0, 9, 12, 13), (0, 9, 16, 19)]) (by decide) rfl ?_
  intro p e s m args below meth c s₁ B9 hml hv
  obtain ⟨rfl, ⟨hsz, hP, hE, hD0, hES, hZ⟩, hN⟩ := hv
  have hx := B9.exec
  have hb := B9.bytes
  have hr := B9.returns
  have hts := atoms_spec (ws := wsL_addPerson) B9.pre
  have hown : s.vm.findClass RL = some m.cls := findClass_of_methodNamed B9.named
  have hlocks := B9.notSynchronized
  have htab : c.exceptionTable.toList = [⟨0, 9, 12, 13⟩, ⟨0, 9, 16, 19⟩] := vx_table (x := yL_addPerson) B9 (hts _ List.mem_cons_self)
  subst hsz
  have hD := hD0.self (sz := s.heap.size)
  have hPc : va_P D vwCl (wCM cI cJ cS A g B S) s.heap := hP.sub [1, 2, 3, 4, 5, 6, 7, 8, 9, 10, 11, 12, 13, 14, 15, 16, 17, 18, 19, 20, 21, 22, 23, 24, 25, 26, 27, 28, 29, 30, 31, 32, 33, 34, 35, 36, 37, 38, 39, 40, 41, 42, 43, 44, 45, 46, 47, 48, 49, 50, 51, 52, 53, 54, 55, 56, 57, 58, 59, 60, 61, 62, 63, 64, 65, 66, 67, 68, 69, 70, 71, 72, 73, 74, 75, 76, 77, 78, 79, 80, 81, 82] rfl
  have hDc : va_D (va_A (wLW cI cJ cS A g B k0 S O) s.heap.size) (wCM cI cJ cS A g B S) := hD.sub [1, 2, 3, 4, 5, 6, 7, 8, 9, 10, 11, 12, 13, 14, 15, 16, 17, 18, 19, 20, 21, 22, 23, 24, 25, 26, 27, 28, 29, 30, 31, 32, 33, 34, 35, 36, 37, 38, 39, 40, 41, 42, 43, 44, 45, 46, 47, 48, 49, 50, 51, 52, 53, 54, 55, 56, 57, 58, 59, 60, 61, 62, 63, 64, 65, 66, 67, 68, 69, 70, 71, 72, 73, 74, 75, 76, 77, 78, 79, 80, 81, 82] (by decide +kernel) rfl
  have hAc : ∀ q, va_A (wCM cI cJ cS A g B S) s.heap.size q → (va_A (wLW cI cJ cS A g B k0 S O) s.heap.size) q := fun q h => h.elim (fun ⟨k, e9, he⟩ => Or.inl ⟨k + 1, e9, he⟩) (fun h => Or.inr h)
  have hAr : ∀ q, va_A (wCR cI cJ A S) s.heap.size q → (va_A (wLW cI cJ cS A g B k0 S O) s.heap.size) q := fun q h => h.elim (fun ⟨k, e9, he⟩ => (qd_CR hDc).2 k _ he) (fun h => Or.inr h)
  have hl := lv_entry ([.ref (A 3 0), .long p1, .ref k0]) (n := 5) (Nat.le_of_ble_eq_true rfl)
  rw [lg_entry_eq]
  generalize (lg_sl ([.ref (A 3 0), .long p1, .ref k0]) ++ List.replicate (5 - (lg_sl ([.ref (A 3 0), .long p1, .ref k0])).length) Slot.unset).toArray = ls at hl ⊢
  have hl : lv_has ls 5 [(0, .ref (A 3 0)), (1, .long p1), (3, .ref k0)] := hl
  unfold f_L_addPerson at hf
  refine lv_aload_n hx hb dL_addPerson_0 rfl (lv_at hl 2 rfl) ?_
  refine lv_iconst (v := 0) hx hb dL_addPerson_1 (by decide) ?_
  refine lv_aload_n hx hb dL_addPerson_2 rfl (lv_at hl 0 rfl) ?_
  refine lv_lload_n hx hb dL_addPerson_3 rfl (lv_at hl 1 rfl) ?_
  obtain ⟨x, hx1, hf⟩ := q_bd_go hf
  refine q_lcW hP hD (vx_runV (As := [.long p1]) (rest := [.int 0, .ref k0]) ⟨hx, hb, hml, hown, hts⟩ (c_X2_addPerson l hlt D cI cJ cS sa A g B hg S _ p1 _ hx1) (cwV 1 hts gL_addPerson_X2_addPerson rfl rfl rfl (by decide +kernel) ⟨(Nat.le_of_ble_eq_true rfl), (Nat.le_of_ble_eq_true rfl)⟩) ⟨q_blindWX, va_recv hE.1 hPc (ci := 2) (q0 := 0) rfl rfl, fun U hU hW => ⟨rfl, by rw [hU], by rw [hU]; exact hPc, q_E.warm hW hE, hDc.weaken (fun _ _ _ _ => trivial), q_ES.warm hW hES, by rw [hU]; exact q_EZ.moved hW.alike (hZ.narrow hAc)⟩⟩ rfl rfl hl.1 rfl (lv_room (Nat.le_of_ble_eq_true rfl)) dL_addPerson_4 ⟨(Nat.le_of_ble_eq_true rfl), (Nat.le_of_ble_eq_true rfl)⟩) (fun E ce q H1 locs1 eE hce hcv hcl hz hk hlo => ?_) (fun r g2 B2 H locs er hg2 hP hD hS => ?_)
  · rw [eE] at hf
    have hS1 : va_S (va_A (wLW cI cJ cS A g B k0 S O) s.heap.size) s.heap H1 locs1 := ⟨hz, fun q h1 _ => hk q h1, hlo⟩
    have hP1 : va_P D vwCl (wLW cI cJ cS A g B k0 S O) H1 := hP.kept (fun k q h => hk q.1 (vx_lt hP h))
    by_cases cE : E = "java/lang/IllegalArgumentException"
    · subst cE
      have hf : some ((1 : Int32), S, O) = some o := hf
      refine vx_catch (name := "java/lang/IllegalArgumentException") hown [] ⟨0, 9, 12, 13⟩ [⟨0, 9, 16, 19⟩] htab (fun z hz => nomatch hz) (by decide) (by decide) (hts (.classLink RL 13 "java/lang/IllegalArgumentException") (List.mem_of_getElem? (i := 1) rfl)) (va_Nw.use rfl hES.2.2.1) hce hcv hcl ?_
      refine lv_astore (lv' := [(4, .ref q), (0, .ref (A 3 0)), (1, .long p1), (3, .ref k0)]) hx hb dL_addPerson_12 hl (by decide) rfl (fun ls hl => ?_)
      refine lv_iconst (v := 1) hx hb dL_addPerson_14 (by decide) ?_
      have ho := q_some hf
      subst ho
      refine vx_ret ?_
      exact W.iret hx hb hr (fun t ht hW => ⟨rfl, ⟨_, ⟨g, B, hg, rfl⟩, by rw [ht]; exact hP1, hD⟩, hS1.F ht⟩) hS1.2.2 dL_addPerson_15
    by_cases cE : E = "java/lang/IllegalStateException"
    · subst cE
      have hf : some ((2 : Int32), S, O) = some o := hf
      refine vx_catch (name := "java/lang/IllegalStateException") hown [⟨0, 9, 12, 13⟩] ⟨0, 9, 16, 19⟩ [] htab (by intro z hz; simp only [List.mem_cons, List.not_mem_nil, or_false] at hz; rcases hz with rfl; exact Or.inr ⟨by decide, _, (hts (.classLink RL 13 "java/lang/IllegalArgumentException") (List.mem_of_getElem? (i := 1) rfl)), hN.2.1⟩) (by decide) (by decide) (hts (.classLink RL 19 "java/lang/IllegalStateException") (List.mem_of_getElem? (i := 2) rfl)) (va_Nw.use rfl hES.2.2.2.1) hce hcv hcl ?_
      refine lv_astore (lv' := [(4, .ref q), (0, .ref (A 3 0)), (1, .long p1), (3, .ref k0)]) hx hb dL_addPerson_16 hl (by decide) rfl (fun ls hl => ?_)
      refine lv_iconst (v := 2) hx hb dL_addPerson_18 (by decide) ?_
      have ho := q_some hf
      subst ho
      refine vx_ret ?_
      exact W.iret hx hb hr (fun t ht hW => ⟨rfl, ⟨_, ⟨g, B, hg, rfl⟩, by rw [ht]; exact hP1, hD⟩, hS1.F ht⟩) hS1.2.2 dL_addPerson_19
    have hn : q_out (.inl E) O (fun E => if E = "java/lang/IllegalArgumentException" then some 1 else if E = "java/lang/IllegalStateException" then some 2 else none) S = none := by simp [q_out, *]
    rw [hn] at hf
    cases hf
  · rw [er] at hf
    refine lv_i2l (v := ((r.1 : Int32).toInt64)) hx hb dL_addPerson_7 rfl ?_
    refine va_last hx hb hE.1 hP hD hS 0 1 rfl rfl (by unfold vp_in; decide) dL_addPerson_8 (fun H locs hP hD hS => ?_)
    have hP : va_P D vwCl (wLW cI cJ cS A g2 B2 k0 r.2 (vp_updL O (0 : Int32).toNatClampNeg ((r.1 : Int32).toInt64))) H := hP
    have hD : va_D (va_A (wLW cI cJ cS A g B k0 S O) s.heap.size) (wLW cI cJ cS A g2 B2 k0 r.2 (vp_updL O (0 : Int32).toNatClampNeg ((r.1 : Int32).toInt64))) := hD
    refine lv_goto (tgt := 20) hx hb dL_addPerson_9 (by decide) ?_
    refine lv_iconst (v := 0) hx hb dL_addPerson_20 (by decide) ?_
    have ho := q_some hf
    subst ho
    refine vx_ret ?_
    exact W.iret hx hb hr (fun t ht hW => ⟨rfl, ⟨_, ⟨g2, B2, hg2, rfl⟩, by rw [ht]; exact hP, hD⟩, hS.F ht⟩) hS.2.2 dL_addPerson_21
def f_L_roster (S : CM) (O : Nat → Int64) (p1 : Int32) (p2 : Int32) (p3 : Int32) : Option (Int32 × CM × (Nat → Int64)) := (f_X2_roster S p1 p2 p3).bind fun x => q_out x O (fun E => if E = "java/lang/IndexOutOfBoundsException" then some 1 else if E = "java/lang/IllegalArgumentException" then some 2 else if E = "java/lang/IllegalStateException" then some 3 else none) S
abbrev rL_roster : Room := { frames := 8, cells := 3, slots := 18, locals := 135 }
set_option maxRecDepth 100000 in
set_option maxHeartbeats 4000000 in
theorem c_L_roster (l : Launch) (hlt : l.stackTraces = false) (D : va_G) (cI cJ cS : ClassId) (sa : Nat → Nat) (A : Nat → Nat → Nat) (g : Nat → Option Nat) (B : Nat → Nat → Nat) (hg : ∀ i, i < 4 → g i = some (B i 0)) (k0 : Nat) (S : CM) (O : Nat → Int64) (sz : Nat) (p1 : Int32) (p2 : Int32) (p3 : Int32) (o : Int32 × CM × (Nat → Int64)) (hf : f_L_roster S O p1 p2 p3 = some o) : vx_Met l yL_roster wsL_roster rL_roster (va_Pc [.ref (A 3 0), .int p1, .int p2, .int p3, .ref k0] (q_BL D cI cJ cS sa (wLW cI cJ cS A g B k0 S O) sz)) (q_LQ o D cI cJ cS A k0 (wLW cI cJ cS A g B k0 S O) sz) q_LX 3 18 (va_A (wLW cI cJ cS A g B k0 S O) sz) := by
  refine vx_ofWH (cc := cL_roster) (maxL := 6) (ret := some .int) (hh := [(0, 12, 15, 25), (0, 12, 19, 13), (0, 12, 23, 19)]) (by decide) rfl ?_
  intro p e s m args below meth c s₁ B9 hml hv
  obtain ⟨rfl, ⟨hsz, hP, hE, hD0, hES, hZ⟩, hN⟩ := hv
  have hx := B9.exec
  have hb := B9.bytes
  have hr := B9.returns
  have hts := atoms_spec (ws := wsL_roster) B9.pre
  have hown : s.vm.findClass RL = some m.cls := findClass_of_methodNamed B9.named
  have hlocks := B9.notSynchronized
  have htab : c.exceptionTable.toList = [⟨0, 12, 15, 25⟩, ⟨0, 12, 19, 13⟩, ⟨0, 12, 23, 19⟩] := vx_table (x := yL_roster) B9 (hts _ List.mem_cons_self)
  subst hsz
  have hD := hD0.self (sz := s.heap.size)
  have hPc : va_P D vwCl (wCM cI cJ cS A g B S) s.heap := hP.sub [1, 2, 3, 4, 5, 6, 7, 8, 9, 10, 11, 12, 13, 14, 15, 16, 17, 18, 19, 20, 21, 22, 23, 24, 25, 26, 27, 28, 29, 30, 31, 32, 33, 34, 35, 36, 37, 38, 39, 40, 41, 42, 43, 44, 45, 46, 47, 48, 49, 50, 51, 52, 53, 54, 55, 56, 57, 58, 59, 60, 61, 62, 63, 64, 65, 66, 67, 68, 69, 70, 71, 72, 73, 74, 75, 76, 77, 78, 79, 80, 81, 82] rfl
  have hDc : va_D (va_A (wLW cI cJ cS A g B k0 S O) s.heap.size) (wCM cI cJ cS A g B S) := hD.sub [1, 2, 3, 4, 5, 6, 7, 8, 9, 10, 11, 12, 13, 14, 15, 16, 17, 18, 19, 20, 21, 22, 23, 24, 25, 26, 27, 28, 29, 30, 31, 32, 33, 34, 35, 36, 37, 38, 39, 40, 41, 42, 43, 44, 45, 46, 47, 48, 49, 50, 51, 52, 53, 54, 55, 56, 57, 58, 59, 60, 61, 62, 63, 64, 65, 66, 67, 68, 69, 70, 71, 72, 73, 74, 75, 76, 77, 78, 79, 80, 81, 82] (by decide +kernel) rfl
  have hAc : ∀ q, va_A (wCM cI cJ cS A g B S) s.heap.size q → (va_A (wLW cI cJ cS A g B k0 S O) s.heap.size) q := fun q h => h.elim (fun ⟨k, e9, he⟩ => Or.inl ⟨k + 1, e9, he⟩) (fun h => Or.inr h)
  have hAr : ∀ q, va_A (wCR cI cJ A S) s.heap.size q → (va_A (wLW cI cJ cS A g B k0 S O) s.heap.size) q := fun q h => h.elim (fun ⟨k, e9, he⟩ => (qd_CR hDc).2 k _ he) (fun h => Or.inr h)
  have hl := lv_entry ([.ref (A 3 0), .int p1, .int p2, .int p3, .ref k0]) (n := 6) (Nat.le_of_ble_eq_true rfl)
  rw [lg_entry_eq]
  generalize (lg_sl ([.ref (A 3 0), .int p1, .int p2, .int p3, .ref k0]) ++ List.replicate (6 - (lg_sl ([.ref (A 3 0), .int p1, .int p2, .int p3, .ref k0])).length) Slot.unset).toArray = ls at hl ⊢
  have hl : lv_has ls 6 [(0, .ref (A 3 0)), (1, .int p1), (2, .int p2), (3, .int p3), (4, .ref k0)] := hl
  unfold f_L_roster at hf
  refine lv_aload hx hb dL_roster_0 (lv_at hl 4 rfl) ?_
  refine lv_iconst (v := 0) hx hb dL_roster_2 (by decide) ?_
  refine lv_aload_n hx hb dL_roster_3 rfl (lv_at hl 0 rfl) ?_
  refine lv_iload_n hx hb dL_roster_4 rfl (lv_at hl 1 rfl) ?_
  refine lv_iload_n hx hb dL_roster_5 rfl (lv_at hl 2 rfl) ?_
  refine lv_iload_n hx hb dL_roster_6 rfl (lv_at hl 3 rfl) ?_
  obtain ⟨x, hx1, hf⟩ := q_bd_go hf
  refine q_lcW hP hD (vx_runV (As := [.int p1, .int p2, .int p3]) (rest := [.int 0, .ref k0]) ⟨hx, hb, hml, hown, hts⟩ (c_X2_roster l hlt D cI cJ cS sa A g B hg S _ p1 p2 p3 _ hx1) (cwV 3 hts gL_roster_X2_roster rfl rfl rfl (by decide +kernel) ⟨(Nat.le_of_ble_eq_true rfl), (Nat.le_of_ble_eq_true rfl)⟩) ⟨q_blindWX, va_recv hE.1 hPc (ci := 2) (q0 := 0) rfl rfl, fun U hU hW => ⟨rfl, by rw [hU], by rw [hU]; exact hPc, q_E.warm hW hE, hDc.weaken (fun _ _ _ _ => trivial), q_ES.warm hW hES, by rw [hU]; exact q_EZ.moved hW.alike (hZ.narrow hAc)⟩⟩ rfl rfl hl.1 rfl (lv_room (Nat.le_of_ble_eq_true rfl)) dL_roster_7 ⟨(Nat.le_of_ble_eq_true rfl), (Nat.le_of_ble_eq_true rfl)⟩) (fun E ce q H1 locs1 eE hce hcv hcl hz hk hlo => ?_) (fun r g2 B2 H locs er hg2 hP hD hS => ?_)
  · rw [eE] at hf
    have hS1 : va_S (va_A (wLW cI cJ cS A g B k0 S O) s.heap.size) s.heap H1 locs1 := ⟨hz, fun q h1 _ => hk q h1, hlo⟩
    have hP1 : va_P D vwCl (wLW cI cJ cS A g B k0 S O) H1 := hP.kept (fun k q h => hk q.1 (vx_lt hP h))
    by_cases cE : E = "java/lang/IndexOutOfBoundsException"
    · subst cE
      have hf : some ((1 : Int32), S, O) = some o := hf
      refine vx_catch (name := "java/lang/IndexOutOfBoundsException") hown [] ⟨0, 12, 15, 25⟩ [⟨0, 12, 19, 13⟩, ⟨0, 12, 23, 19⟩] htab (fun z hz => nomatch hz) (by decide) (by decide) (hts (.classLink RL 25 "java/lang/IndexOutOfBoundsException") (List.mem_of_getElem? (i := 1) rfl)) (va_Nw.use rfl hES.2.1) hce hcv hcl ?_
      refine lv_astore (lv' := [(5, .ref q), (0, .ref (A 3 0)), (1, .int p1), (2, .int p2), (3, .int p3), (4, .ref k0)]) hx hb dL_roster_15 hl (by decide) rfl (fun ls hl => ?_)
      refine lv_iconst (v := 1) hx hb dL_roster_17 (by decide) ?_
      have ho := q_some hf
      subst ho
      refine vx_ret ?_
      exact W.iret hx hb hr (fun t ht hW => ⟨rfl, ⟨_, ⟨g, B, hg, rfl⟩, by rw [ht]; exact hP1, hD⟩, hS1.F ht⟩) hS1.2.2 dL_roster_18
    by_cases cE : E = "java/lang/IllegalArgumentException"
    · subst cE
      have hf : some ((2 : Int32), S, O) = some o := hf
      refine vx_catch (name := "java/lang/IllegalArgumentException") hown [⟨0, 12, 15, 25⟩] ⟨0, 12, 19, 13⟩ [⟨0, 12, 23, 19⟩] htab (by intro z hz; simp only [List.mem_cons, List.not_mem_nil, or_false] at hz; rcases hz with rfl; exact Or.inr ⟨by decide, _, (hts (.classLink RL 25 "java/lang/IndexOutOfBoundsException") (List.mem_of_getElem? (i := 1) rfl)), hN.2.2⟩) (by decide) (by decide) (hts (.classLink RL 13 "java/lang/IllegalArgumentException") (List.mem_of_getElem? (i := 2) rfl)) (va_Nw.use rfl hES.2.2.1) hce hcv hcl ?_
      refine lv_astore (lv' := [(5, .ref q), (0, .ref (A 3 0)), (1, .int p1), (2, .int p2), (3, .int p3), (4, .ref k0)]) hx hb dL_roster_19 hl (by decide) rfl (fun ls hl => ?_)
      refine lv_iconst (v := 2) hx hb dL_roster_21 (by decide) ?_
      have ho := q_some hf
      subst ho
      refine vx_ret ?_
      exact W.iret hx hb hr (fun t ht hW => ⟨rfl, ⟨_, ⟨g, B, hg, rfl⟩, by rw [ht]; exact hP1, hD⟩, hS1.F ht⟩) hS1.2.2 dL_roster_22
    by_cases cE : E = "java/lang/IllegalStateException"
    · subst cE
      have hf : some ((3 : Int32), S, O) = some o := hf
      refine vx_catch (name := "java/lang/IllegalStateException") hown [⟨0, 12, 15, 25⟩, ⟨0, 12, 19, 13⟩] ⟨0, 12, 23, 19⟩ [] htab (by intro z hz; simp only [List.mem_cons, List.not_mem_nil, or_false] at hz; rcases hz with rfl | rfl; exact Or.inr ⟨by decide, _, (hts (.classLink RL 25 "java/lang/IndexOutOfBoundsException") (List.mem_of_getElem? (i := 1) rfl)), hN.1⟩; exact Or.inr ⟨by decide, _, (hts (.classLink RL 13 "java/lang/IllegalArgumentException") (List.mem_of_getElem? (i := 2) rfl)), hN.2.1⟩) (by decide) (by decide) (hts (.classLink RL 19 "java/lang/IllegalStateException") (List.mem_of_getElem? (i := 3) rfl)) (va_Nw.use rfl hES.2.2.2.1) hce hcv hcl ?_
      refine lv_astore (lv' := [(5, .ref q), (0, .ref (A 3 0)), (1, .int p1), (2, .int p2), (3, .int p3), (4, .ref k0)]) hx hb dL_roster_23 hl (by decide) rfl (fun ls hl => ?_)
      refine lv_iconst (v := 3) hx hb dL_roster_25 (by decide) ?_
      have ho := q_some hf
      subst ho
      refine vx_ret ?_
      exact W.iret hx hb hr (fun t ht hW => ⟨rfl, ⟨_, ⟨g, B, hg, rfl⟩, by rw [ht]; exact hP1, hD⟩, hS1.F ht⟩) hS1.2.2 dL_roster_26
    have hn : q_out (.inl E) O (fun E => if E = "java/lang/IndexOutOfBoundsException" then some 1 else if E = "java/lang/IllegalArgumentException" then some 2 else if E = "java/lang/IllegalStateException" then some 3 else none) S = none := by simp [q_out, *]
    rw [hn] at hf
    cases hf
  · rw [er] at hf
    refine lv_i2l (v := ((r.1 : Int32).toInt64)) hx hb dL_roster_10 rfl ?_
    refine va_last hx hb hE.1 hP hD hS 0 1 rfl rfl (by unfold vp_in; decide) dL_roster_11 (fun H locs hP hD hS => ?_)
    have hP : va_P D vwCl (wLW cI cJ cS A g2 B2 k0 r.2 (vp_updL O (0 : Int32).toNatClampNeg ((r.1 : Int32).toInt64))) H := hP
    have hD : va_D (va_A (wLW cI cJ cS A g B k0 S O) s.heap.size) (wLW cI cJ cS A g2 B2 k0 r.2 (vp_updL O (0 : Int32).toNatClampNeg ((r.1 : Int32).toInt64))) := hD
    refine lv_goto (tgt := 27) hx hb dL_roster_12 (by decide) ?_
    refine lv_iconst (v := 0) hx hb dL_roster_27 (by decide) ?_
    have ho := q_some hf
    subst ho
    refine vx_ret ?_
    exact W.iret hx hb hr (fun t ht hW => ⟨rfl, ⟨_, ⟨g2, B2, hg2, rfl⟩, by rw [ht]; exact hP, hD⟩, hS.F ht⟩) hS.2.2 dL_roster_28
def f_L_absent (S : CM) (O : Nat → Int64) (p1 : Int32) (p2 : Int32) : Option (Int32 × CM × (Nat → Int64)) := (f_X2_absent S p1 p2).bind fun x => q_out x O (fun E => if E = "java/lang/IndexOutOfBoundsException" then some 1 else if E = "java/lang/IllegalArgumentException" then some 2 else if E = "java/lang/IllegalStateException" then some 3 else none) S
abbrev rL_absent : Room := { frames := 8, cells := 3, slots := 18, locals := 134 }
set_option maxRecDepth 100000 in
set_option maxHeartbeats 4000000 in
theorem c_L_absent (l : Launch) (hlt : l.stackTraces = false) (D : va_G) (cI cJ cS : ClassId) (sa : Nat → Nat) (A : Nat → Nat → Nat) (g : Nat → Option Nat) (B : Nat → Nat → Nat) (hg : ∀ i, i < 4 → g i = some (B i 0)) (k0 : Nat) (S : CM) (O : Nat → Int64) (sz : Nat) (p1 : Int32) (p2 : Int32) (o : Int32 × CM × (Nat → Int64)) (hf : f_L_absent S O p1 p2 = some o) : vx_Met l yL_absent wsL_absent rL_absent (va_Pc [.ref (A 3 0), .int p1, .int p2, .ref k0] (q_BL D cI cJ cS sa (wLW cI cJ cS A g B k0 S O) sz)) (q_LQ o D cI cJ cS A k0 (wLW cI cJ cS A g B k0 S O) sz) q_LX 3 18 (va_A (wLW cI cJ cS A g B k0 S O) sz) := by
  refine vx_ofWH (cc := cL_absent) (maxL := 5) (ret := some .int) (hh := [(0, 10, 13, 25), (0, 10, 17, 13), (0, 10, 21, 19)]) (by decide) rfl ?_
  intro p e s m args below meth c s₁ B9 hml hv
  obtain ⟨rfl, ⟨hsz, hP, hE, hD0, hES, hZ⟩, hN⟩ := hv
  have hx := B9.exec
  have hb := B9.bytes
  have hr := B9.returns
  have hts := atoms_spec (ws := wsL_absent) B9.pre
  have hown : s.vm.findClass RL = some m.cls := findClass_of_methodNamed B9.named
  have hlocks := B9.notSynchronized
  have htab : c.exceptionTable.toList = [⟨0, 10, 13, 25⟩, ⟨0, 10, 17, 13⟩, ⟨0, 10, 21, 19⟩] := vx_table (x := yL_absent) B9 (hts _ List.mem_cons_self)
  subst hsz
  have hD := hD0.self (sz := s.heap.size)
  have hPc : va_P D vwCl (wCM cI cJ cS A g B S) s.heap := hP.sub [1, 2, 3, 4, 5, 6, 7, 8, 9, 10, 11, 12, 13, 14, 15, 16, 17, 18, 19, 20, 21, 22, 23, 24, 25, 26, 27, 28, 29, 30, 31, 32, 33, 34, 35, 36, 37, 38, 39, 40, 41, 42, 43, 44, 45, 46, 47, 48, 49, 50, 51, 52, 53, 54, 55, 56, 57, 58, 59, 60, 61, 62, 63, 64, 65, 66, 67, 68, 69, 70, 71, 72, 73, 74, 75, 76, 77, 78, 79, 80, 81, 82] rfl
  have hDc : va_D (va_A (wLW cI cJ cS A g B k0 S O) s.heap.size) (wCM cI cJ cS A g B S) := hD.sub [1, 2, 3, 4, 5, 6, 7, 8, 9, 10, 11, 12, 13, 14, 15, 16, 17, 18, 19, 20, 21, 22, 23, 24, 25, 26, 27, 28, 29, 30, 31, 32, 33, 34, 35, 36, 37, 38, 39, 40, 41, 42, 43, 44, 45, 46, 47, 48, 49, 50, 51, 52, 53, 54, 55, 56, 57, 58, 59, 60, 61, 62, 63, 64, 65, 66, 67, 68, 69, 70, 71, 72, 73, 74, 75, 76, 77, 78, 79, 80, 81, 82] (by decide +kernel) rfl
  have hAc : ∀ q, va_A (wCM cI cJ cS A g B S) s.heap.size q → (va_A (wLW cI cJ cS A g B k0 S O) s.heap.size) q := fun q h => h.elim (fun ⟨k, e9, he⟩ => Or.inl ⟨k + 1, e9, he⟩) (fun h => Or.inr h)
  have hAr : ∀ q, va_A (wCR cI cJ A S) s.heap.size q → (va_A (wLW cI cJ cS A g B k0 S O) s.heap.size) q := fun q h => h.elim (fun ⟨k, e9, he⟩ => (qd_CR hDc).2 k _ he) (fun h => Or.inr h)
  have hl := lv_entry ([.ref (A 3 0), .int p1, .int p2, .ref k0]) (n := 5) (Nat.le_of_ble_eq_true rfl)
  rw [lg_entry_eq]
  generalize (lg_sl ([.ref (A 3 0), .int p1, .int p2, .ref k0]) ++ List.replicate (5 - (lg_sl ([.ref (A 3 0), .int p1, .int p2, .ref k0])).length) Slot.unset).toArray = ls at hl ⊢
  have hl : lv_has ls 5 [(0, .ref (A 3 0)), (1, .int p1), (2, .int p2), (3, .ref k0)] := hl
  unfold f_L_absent at hf
  refine lv_aload_n hx hb dL_absent_0 rfl (lv_at hl 3 rfl) ?_
  refine lv_iconst (v := 0) hx hb dL_absent_1 (by decide) ?_
  refine lv_aload_n hx hb dL_absent_2 rfl (lv_at hl 0 rfl) ?_
  refine lv_iload_n hx hb dL_absent_3 rfl (lv_at hl 1 rfl) ?_
  refine lv_iload_n hx hb dL_absent_4 rfl (lv_at hl 2 rfl) ?_
  obtain ⟨x, hx1, hf⟩ := q_bd_go hf
  refine q_lcW hP hD (vx_runV (As := [.int p1, .int p2]) (rest := [.int 0, .ref k0]) ⟨hx, hb, hml, hown, hts⟩ (c_X2_absent l hlt D cI cJ cS sa A g B hg S _ p1 p2 _ hx1) (cwV 2 hts gL_absent_X2_absent rfl rfl rfl (by decide +kernel) ⟨(Nat.le_of_ble_eq_true rfl), (Nat.le_of_ble_eq_true rfl)⟩) ⟨q_blindWX, va_recv hE.1 hPc (ci := 2) (q0 := 0) rfl rfl, fun U hU hW => ⟨rfl, by rw [hU], by rw [hU]; exact hPc, q_E.warm hW hE, hDc.weaken (fun _ _ _ _ => trivial), q_ES.warm hW hES, by rw [hU]; exact q_EZ.moved hW.alike (hZ.narrow hAc)⟩⟩ rfl rfl hl.1 rfl (lv_room (Nat.le_of_ble_eq_true rfl)) dL_absent_5 ⟨(Nat.le_of_ble_eq_true rfl), (Nat.le_of_ble_eq_true rfl)⟩) (fun E ce q H1 locs1 eE hce hcv hcl hz hk hlo => ?_) (fun r g2 B2 H locs er hg2 hP hD hS => ?_)
  · rw [eE] at hf
    have hS1 : va_S (va_A (wLW cI cJ cS A g B k0 S O) s.heap.size) s.heap H1 locs1 := ⟨hz, fun q h1 _ => hk q h1, hlo⟩
    have hP1 : va_P D vwCl (wLW cI cJ cS A g B k0 S O) H1 := hP.kept (fun k q h => hk q.1 (vx_lt hP h))
    by_cases cE : E = "java/lang/IndexOutOfBoundsException"
    · subst cE
      have hf : some ((1 : Int32), S, O) = some o := hf
      refine vx_catch (name := "java/lang/IndexOutOfBoundsException") hown [] ⟨0, 10, 13, 25⟩ [⟨0, 10, 17, 13⟩, ⟨0, 10, 21, 19⟩] htab (fun z hz => nomatch hz) (by decide) (by decide) (hts (.classLink RL 25 "java/lang/IndexOutOfBoundsException") (List.mem_of_getElem? (i := 1) rfl)) (va_Nw.use rfl hES.2.1) hce hcv hcl ?_
      refine lv_astore (lv' := [(4, .ref q), (0, .ref (A 3 0)), (1, .int p1), (2, .int p2), (3, .ref k0)]) hx hb dL_absent_13 hl (by decide) rfl (fun ls hl => ?_)
      refine lv_iconst (v := 1) hx hb dL_absent_15 (by decide) ?_
      have ho := q_some hf
      subst ho
      refine vx_ret ?_
      exact W.iret hx hb hr (fun t ht hW => ⟨rfl, ⟨_, ⟨g, B, hg, rfl⟩, by rw [ht]; exact hP1, hD⟩, hS1.F ht⟩) hS1.2.2 dL_absent_16
    by_cases cE : E = "java/lang/IllegalArgumentException"
    · subst cE
      have hf : some ((2 : Int32), S, O) = some o := hf
      refine vx_catch (name := "java/lang/IllegalArgumentException") hown [⟨0, 10, 13, 25⟩] ⟨0, 10, 17, 13⟩ [⟨0, 10, 21, 19⟩] htab (by intro z hz; simp only [List.mem_cons, List.not_mem_nil, or_false] at hz; rcases hz with rfl; exact Or.inr ⟨by decide, _, (hts (.classLink RL 25 "java/lang/IndexOutOfBoundsException") (List.mem_of_getElem? (i := 1) rfl)), hN.2.2⟩) (by decide) (by decide) (hts (.classLink RL 13 "java/lang/IllegalArgumentException") (List.mem_of_getElem? (i := 2) rfl)) (va_Nw.use rfl hES.2.2.1) hce hcv hcl ?_
      refine lv_astore (lv' := [(4, .ref q), (0, .ref (A 3 0)), (1, .int p1), (2, .int p2), (3, .ref k0)]) hx hb dL_absent_17 hl (by decide) rfl (fun ls hl => ?_)
      refine lv_iconst (v := 2) hx hb dL_absent_19 (by decide) ?_
      have ho := q_some hf
      subst ho
      refine vx_ret ?_
      exact W.iret hx hb hr (fun t ht hW => ⟨rfl, ⟨_, ⟨g, B, hg, rfl⟩, by rw [ht]; exact hP1, hD⟩, hS1.F ht⟩) hS1.2.2 dL_absent_20
    by_cases cE : E = "java/lang/IllegalStateException"
    · subst cE
      have hf : some ((3 : Int32), S, O) = some o := hf
      refine vx_catch (name := "java/lang/IllegalStateException") hown [⟨0, 10, 13, 25⟩, ⟨0, 10, 17, 13⟩] ⟨0, 10, 21, 19⟩ [] htab (by intro z hz; simp only [List.mem_cons, List.not_mem_nil, or_false] at hz; rcases hz with rfl | rfl; exact Or.inr ⟨by decide, _, (hts (.classLink RL 25 "java/lang/IndexOutOfBoundsException") (List.mem_of_getElem? (i := 1) rfl)), hN.1⟩; exact Or.inr ⟨by decide, _, (hts (.classLink RL 13 "java/lang/IllegalArgumentException") (List.mem_of_getElem? (i := 2) rfl)), hN.2.1⟩) (by decide) (by decide) (hts (.classLink RL 19 "java/lang/IllegalStateException") (List.mem_of_getElem? (i := 3) rfl)) (va_Nw.use rfl hES.2.2.2.1) hce hcv hcl ?_
      refine lv_astore (lv' := [(4, .ref q), (0, .ref (A 3 0)), (1, .int p1), (2, .int p2), (3, .ref k0)]) hx hb dL_absent_21 hl (by decide) rfl (fun ls hl => ?_)
      refine lv_iconst (v := 3) hx hb dL_absent_23 (by decide) ?_
      have ho := q_some hf
      subst ho
      refine vx_ret ?_
      exact W.iret hx hb hr (fun t ht hW => ⟨rfl, ⟨_, ⟨g, B, hg, rfl⟩, by rw [ht]; exact hP1, hD⟩, hS1.F ht⟩) hS1.2.2 dL_absent_24
    have hn : q_out (.inl E) O (fun E => if E = "java/lang/IndexOutOfBoundsException" then some 1 else if E = "java/lang/IllegalArgumentException" then some 2 else if E = "java/lang/IllegalStateException" then some 3 else none) S = none := by simp [q_out, *]
    rw [hn] at hf
    cases hf
  · rw [er] at hf
    refine lv_i2l (v := ((r.1 : Int32).toInt64)) hx hb dL_absent_8 rfl ?_
    refine va_last hx hb hE.1 hP hD hS 0 1 rfl rfl (by unfold vp_in; decide) dL_absent_9 (fun H locs hP hD hS => ?_)
    have hP : va_P D vwCl (wLW cI cJ cS A g2 B2 k0 r.2 (vp_updL O (0 : Int32).toNatClampNeg ((r.1 : Int32).toInt64))) H := hP
    have hD : va_D (va_A (wLW cI cJ cS A g B k0 S O) s.heap.size) (wLW cI cJ cS A g2 B2 k0 r.2 (vp_updL O (0 : Int32).toNatClampNeg ((r.1 : Int32).toInt64))) := hD
    refine lv_goto (tgt := 25) hx hb dL_absent_10 (by decide) ?_
    refine lv_iconst (v := 0) hx hb dL_absent_25 (by decide) ?_
    have ho := q_some hf
    subst ho
    refine vx_ret ?_
    exact W.iret hx hb hr (fun t ht hW => ⟨rfl, ⟨_, ⟨g2, B2, hg2, rfl⟩, by rw [ht]; exact hP, hD⟩, hS.F ht⟩) hS.2.2 dL_absent_26
def f_L_bid (S : CM) (O : Nat → Int64) (p1 : Int32) (p2 : Int32) (p3 : Int32) : Option (Int32 × CM × (Nat → Int64)) := (f_X2_bid S p1 p2 p3).bind fun x => q_out x O (fun E => if E = "java/lang/IndexOutOfBoundsException" then some 1 else if E = "java/lang/IllegalArgumentException" then some 2 else if E = "java/lang/IllegalStateException" then some 3 else none) S
abbrev rL_bid : Room := { frames := 8, cells := 4, slots := 24, locals := 135 }
set_option maxRecDepth 100000 in
set_option maxHeartbeats 4000000 in
theorem c_L_bid (l : Launch) (hlt : l.stackTraces = false) (D : va_G) (cI cJ cS : ClassId) (sa : Nat → Nat) (A : Nat → Nat → Nat) (g : Nat → Option Nat) (B : Nat → Nat → Nat) (hg : ∀ i, i < 4 → g i = some (B i 0)) (k0 : Nat) (S : CM) (O : Nat → Int64) (sz : Nat) (p1 : Int32) (p2 : Int32) (p3 : Int32) (o : Int32 × CM × (Nat → Int64)) (hf : f_L_bid S O p1 p2 p3 = some o) : vx_Met l yL_bid wsL_bid rL_bid (va_Pc [.ref (A 3 0), .int p1, .int p2, .int p3, .ref k0] (q_BL D cI cJ cS sa (wLW cI cJ cS A g B k0 S O) sz)) (q_LQ o D cI cJ cS A k0 (wLW cI cJ cS A g B k0 S O) sz) q_LX 4 24 (va_A (wLW cI cJ cS A g B k0 S O) sz) := by
  refine vx_ofWH (cc := cL_bid) (maxL := 6) (ret := some .int) (hh := [(0, 12, 15, 25), (0, 12, 19, 13), (0, 12, 23, 19)]) (by decide) rfl ?_
  intro p e s m args below meth c s₁ B9 hml hv
  obtain ⟨rfl, ⟨hsz, hP, hE, hD0, hES, hZ⟩, hN⟩ := hv
  have hx := B9.exec
  have hb := B9.bytes
  have hr := B9.returns
  have hts := atoms_spec (ws := wsL_bid) B9.pre
  have hown : s.vm.findClass RL = some m.cls := findClass_of_methodNamed B9.named
  have hlocks := B9.notSynchronized
  have htab : c.exceptionTable.toList = [⟨0, 12, 15, 25⟩, ⟨0, 12, 19, 13⟩, ⟨0, 12, 23, 19⟩] := vx_table (x := yL_bid) B9 (hts _ List.mem_cons_self)
  subst hsz
  have hD := hD0.self (sz := s.heap.size)
  have hPc : va_P D vwCl (wCM cI cJ cS A g B S) s.heap := hP.sub [1, 2, 3, 4, 5, 6, 7, 8, 9, 10, 11, 12, 13, 14, 15, 16, 17, 18, 19, 20, 21, 22, 23, 24, 25, 26, 27, 28, 29, 30, 31, 32, 33, 34, 35, 36, 37, 38, 39, 40, 41, 42, 43, 44, 45, 46, 47, 48, 49, 50, 51, 52, 53, 54, 55, 56, 57, 58, 59, 60, 61, 62, 63, 64, 65, 66, 67, 68, 69, 70, 71, 72, 73, 74, 75, 76, 77, 78, 79, 80, 81, 82] rfl
  have hDc : va_D (va_A (wLW cI cJ cS A g B k0 S O) s.heap.size) (wCM cI cJ cS A g B S) := hD.sub [1, 2, 3, 4, 5, 6, 7, 8, 9, 10, 11, 12, 13, 14, 15, 16, 17, 18, 19, 20, 21, 22, 23, 24, 25, 26, 27, 28, 29, 30, 31, 32, 33, 34, 35, 36, 37, 38, 39, 40, 41, 42, 43, 44, 45, 46, 47, 48, 49, 50, 51, 52, 53, 54, 55, 56, 57, 58, 59, 60, 61, 62, 63, 64, 65, 66, 67, 68, 69, 70, 71, 72, 73, 74, 75, 76, 77, 78, 79, 80, 81, 82] (by decide +kernel) rfl
  have hAc : ∀ q, va_A (wCM cI cJ cS A g B S) s.heap.size q → (va_A (wLW cI cJ cS A g B k0 S O) s.heap.size) q := fun q h => h.elim (fun ⟨k, e9, he⟩ => Or.inl ⟨k + 1, e9, he⟩) (fun h => Or.inr h)
  have hAr : ∀ q, va_A (wCR cI cJ A S) s.heap.size q → (va_A (wLW cI cJ cS A g B k0 S O) s.heap.size) q := fun q h => h.elim (fun ⟨k, e9, he⟩ => (qd_CR hDc).2 k _ he) (fun h => Or.inr h)
  have hl := lv_entry ([.ref (A 3 0), .int p1, .int p2, .int p3, .ref k0]) (n := 6) (Nat.le_of_ble_eq_true rfl)
  rw [lg_entry_eq]
  generalize (lg_sl ([.ref (A 3 0), .int p1, .int p2, .int p3, .ref k0]) ++ List.replicate (6 - (lg_sl ([.ref (A 3 0), .int p1, .int p2, .int p3, .ref k0])).length) Slot.unset).toArray = ls at hl ⊢
  have hl : lv_has ls 6 [(0, .ref (A 3 0)), (1, .int p1), (2, .int p2), (3, .int p3), (4, .ref k0)] := hl
  unfold f_L_bid at hf
  refine lv_aload hx hb dL_bid_0 (lv_at hl 4 rfl) ?_
  refine lv_iconst (v := 0) hx hb dL_bid_2 (by decide) ?_
  refine lv_aload_n hx hb dL_bid_3 rfl (lv_at hl 0 rfl) ?_
  refine lv_iload_n hx hb dL_bid_4 rfl (lv_at hl 1 rfl) ?_
  refine lv_iload_n hx hb dL_bid_5 rfl (lv_at hl 2 rfl) ?_
  refine lv_iload_n hx hb dL_bid_6 rfl (lv_at hl 3 rfl) ?_
  obtain ⟨x, hx1, hf⟩ := q_bd_go hf
  refine q_lcW hP hD (vx_runV (As := [.int p1, .int p2, .int p3]) (rest := [.int 0, .ref k0]) ⟨hx, hb, hml, hown, hts⟩ (c_X2_bid l hlt D cI cJ cS sa A g B hg S _ p1 p2 p3 _ hx1) (cwV 3 hts gL_bid_X2_bid rfl rfl rfl (by decide +kernel) ⟨(Nat.le_of_ble_eq_true rfl), (Nat.le_of_ble_eq_true rfl)⟩) ⟨q_blindWX, va_recv hE.1 hPc (ci := 2) (q0 := 0) rfl rfl, fun U hU hW => ⟨rfl, by rw [hU], by rw [hU]; exact hPc, q_E.warm hW hE, hDc.weaken (fun _ _ _ _ => trivial), q_ES.warm hW hES, by rw [hU]; exact q_EZ.moved hW.alike (hZ.narrow hAc)⟩⟩ rfl rfl hl.1 rfl (lv_room (Nat.le_of_ble_eq_true rfl)) dL_bid_7 ⟨(Nat.le_of_ble_eq_true rfl), (Nat.le_of_ble_eq_true rfl)⟩) (fun E ce q H1 locs1 eE hce hcv hcl hz hk hlo => ?_) (fun r g2 B2 H locs er hg2 hP hD hS => ?_)
  · rw [eE] at hf
    have hS1 : va_S (va_A (wLW cI cJ cS A g B k0 S O) s.heap.size) s.heap H1 locs1 := ⟨hz, fun q h1 _ => hk q h1, hlo⟩
    have hP1 : va_P D vwCl (wLW cI cJ cS A g B k0 S O) H1 := hP.kept (fun k q h => hk q.1 (vx_lt hP h))
    by_cases cE : E = "java/lang/IndexOutOfBoundsException"
    · subst cE
      have hf : some ((1 : Int32), S, O) = some o := hf
      refine vx_catch (name := "java/lang/IndexOutOfBoundsException") hown [] ⟨0, 12, 15, 25⟩ [⟨0, 12, 19, 13⟩, ⟨0, 12, 23, 19⟩] htab (fun z hz => nomatch hz) (by decide) (by decide) (hts (.classLink RL 25 "java/lang/IndexOutOfBoundsException") (List.mem_of_getElem? (i := 1) rfl)) (va_Nw.use rfl hES.2.1) hce hcv hcl ?_
      refine lv_astore (lv' := [(5, .ref q), (0, .ref (A 3 0)), (1, .int p1), (2, .int p2), (3, .int p3), (4, .ref k0)]) hx hb dL_bid_15 hl (by decide) rfl (fun ls hl => ?_)
      refine lv_iconst (v := 1) hx hb dL_bid_17 (by decide) ?_
      have ho := q_some hf
      subst ho
      refine vx_ret ?_
      exact W.iret hx hb hr (fun t ht hW => ⟨rfl, ⟨_, ⟨g, B, hg, rfl⟩, by rw [ht]; exact hP1, hD⟩, hS1.F ht⟩) hS1.2.2 dL_bid_18
    by_cases cE : E = "java/lang/IllegalArgumentException"
    · subst cE
      have hf : some ((2 : Int32), S, O) = some o := hf
      refine vx_catch (name := "java/lang/IllegalArgumentException") hown [⟨0, 12, 15, 25⟩] ⟨0, 12, 19, 13⟩ [⟨0, 12, 23, 19⟩] htab (by intro z hz; simp only [List.mem_cons, List.not_mem_nil, or_false] at hz; rcases hz with rfl; exact Or.inr ⟨by decide, _, (hts (.classLink RL 25 "java/lang/IndexOutOfBoundsException") (List.mem_of_getElem? (i := 1) rfl)), hN.2.2⟩) (by decide) (by decide) (hts (.classLink RL 13 "java/lang/IllegalArgumentException") (List.mem_of_getElem? (i := 2) rfl)) (va_Nw.use rfl hES.2.2.1) hce hcv hcl ?_
      refine lv_astore (lv' := [(5, .ref q), (0, .ref (A 3 0)), (1, .int p1), (2, .int p2), (3, .int p3), (4, .ref k0)]) hx hb dL_bid_19 hl (by decide) rfl (fun ls hl => ?_)
      refine lv_iconst (v := 2) hx hb dL_bid_21 (by decide) ?_
      have ho := q_some hf
      subst ho
      refine vx_ret ?_
      exact W.iret hx hb hr (fun t ht hW => ⟨rfl, ⟨_, ⟨g, B, hg, rfl⟩, by rw [ht]; exact hP1, hD⟩, hS1.F ht⟩) hS1.2.2 dL_bid_22
    by_cases cE : E = "java/lang/IllegalStateException"
    · subst cE
      have hf : some ((3 : Int32), S, O) = some o := hf
      refine vx_catch (name := "java/lang/IllegalStateException") hown [⟨0, 12, 15, 25⟩, ⟨0, 12, 19, 13⟩] ⟨0, 12, 23, 19⟩ [] htab (by intro z hz; simp only [List.mem_cons, List.not_mem_nil, or_false] at hz; rcases hz with rfl | rfl; exact Or.inr ⟨by decide, _, (hts (.classLink RL 25 "java/lang/IndexOutOfBoundsException") (List.mem_of_getElem? (i := 1) rfl)), hN.1⟩; exact Or.inr ⟨by decide, _, (hts (.classLink RL 13 "java/lang/IllegalArgumentException") (List.mem_of_getElem? (i := 2) rfl)), hN.2.1⟩) (by decide) (by decide) (hts (.classLink RL 19 "java/lang/IllegalStateException") (List.mem_of_getElem? (i := 3) rfl)) (va_Nw.use rfl hES.2.2.2.1) hce hcv hcl ?_
      refine lv_astore (lv' := [(5, .ref q), (0, .ref (A 3 0)), (1, .int p1), (2, .int p2), (3, .int p3), (4, .ref k0)]) hx hb dL_bid_23 hl (by decide) rfl (fun ls hl => ?_)
      refine lv_iconst (v := 3) hx hb dL_bid_25 (by decide) ?_
      have ho := q_some hf
      subst ho
      refine vx_ret ?_
      exact W.iret hx hb hr (fun t ht hW => ⟨rfl, ⟨_, ⟨g, B, hg, rfl⟩, by rw [ht]; exact hP1, hD⟩, hS1.F ht⟩) hS1.2.2 dL_bid_26
    have hn : q_out (.inl E) O (fun E => if E = "java/lang/IndexOutOfBoundsException" then some 1 else if E = "java/lang/IllegalArgumentException" then some 2 else if E = "java/lang/IllegalStateException" then some 3 else none) S = none := by simp [q_out, *]
    rw [hn] at hf
    cases hf
  · rw [er] at hf
    refine lv_i2l (v := ((r.1 : Int32).toInt64)) hx hb dL_bid_10 rfl ?_
    refine va_last hx hb hE.1 hP hD hS 0 1 rfl rfl (by unfold vp_in; decide) dL_bid_11 (fun H locs hP hD hS => ?_)
    have hP : va_P D vwCl (wLW cI cJ cS A g2 B2 k0 r.2 (vp_updL O (0 : Int32).toNatClampNeg ((r.1 : Int32).toInt64))) H := hP
    have hD : va_D (va_A (wLW cI cJ cS A g B k0 S O) s.heap.size) (wLW cI cJ cS A g2 B2 k0 r.2 (vp_updL O (0 : Int32).toNatClampNeg ((r.1 : Int32).toInt64))) := hD
    refine lv_goto (tgt := 27) hx hb dL_bid_12 (by decide) ?_
    refine lv_iconst (v := 0) hx hb dL_bid_27 (by decide) ?_
    have ho := q_some hf
    subst ho
    refine vx_ret ?_
    exact W.iret hx hb hr (fun t ht hW => ⟨rfl, ⟨_, ⟨g2, B2, hg2, rfl⟩, by rw [ht]; exact hP, hD⟩, hS.F ht⟩) hS.2.2 dL_bid_28
def f_L_takeBack (S : CM) (O : Nat → Int64) (p1 : Int32) (p2 : Int32) : Option (Int32 × CM × (Nat → Int64)) := (f_X2_takeBack S p1 p2).bind fun x => q_out x O (fun E => if E = "java/lang/IndexOutOfBoundsException" then some 1 else if E = "java/lang/IllegalStateException" then some 2 else none) S
abbrev rL_takeBack : Room := { frames := 8, cells := 3, slots := 18, locals := 135 }
set_option maxRecDepth 100000 in
set_option maxHeartbeats 4000000 in
theorem c_L_takeBack (l : Launch) (hlt : l.stackTraces = false) (D : va_G) (cI cJ cS : ClassId) (sa : Nat → Nat) (A : Nat → Nat → Nat) (g : Nat → Option Nat) (B : Nat → Nat → Nat) (hg : ∀ i, i < 4 → g i = some (B i 0)) (k0 : Nat) (S : CM) (O : Nat → Int64) (sz : Nat) (p1 : Int32) (p2 : Int32) (o : Int32 × CM × (Nat → Int64)) (hf : f_L_takeBack S O p1 p2 = some o) : vx_Met l yL_takeBack wsL_takeBack rL_takeBack (va_Pc [.ref (A 3 0), .int p1, .int p2, .ref k0] (q_BL D cI cJ cS sa (wLW cI cJ cS A g B k0 S O) sz)) (q_LQ o D cI cJ cS A k0 (wLW cI cJ cS A g B k0 S O) sz) q_LX 3 18 (va_A (wLW cI cJ cS A g B k0 S O) sz) := by
  refine vx_ofWH (cc := cL_takeBack) (maxL := 5) (ret := some .int) (hh := [(0, 10, 13, 25), (0, 10, 17, 19)]) (by decide) rfl ?_
  intro p e s m args below meth c s₁ B9 hml hv
  obtain ⟨rfl, ⟨hsz, hP, hE, hD0, hES, hZ⟩, hN⟩ := hv
  have hx := B9.exec
  have hb := B9.bytes
  have hr := B9.returns
  have hts := atoms_spec (ws := wsL_takeBack) B9.pre
  have hown : s.vm.findClass RL = some m.cls := findClass_of_methodNamed B9.named
  have hlocks := B9.notSynchronized
  have htab : c.exceptionTable.toList = [⟨0, 10, 13, 25⟩, ⟨0, 10, 17, 19⟩] := vx_table (x := yL_takeBack) B9 (hts _ List.mem_cons_self)
  subst hsz
  have hD := hD0.self (sz := s.heap.size)
  have hPc : va_P D vwCl (wCM cI cJ cS A g B S) s.heap := hP.sub [1, 2, 3, 4, 5, 6, 7, 8, 9, 10, 11, 12, 13, 14, 15, 16, 17, 18, 19, 20, 21, 22, 23, 24, 25, 26, 27, 28, 29, 30, 31, 32, 33, 34, 35, 36, 37, 38, 39, 40, 41, 42, 43, 44, 45, 46, 47, 48, 49, 50, 51, 52, 53, 54, 55, 56, 57, 58, 59, 60, 61, 62, 63, 64, 65, 66, 67, 68, 69, 70, 71, 72, 73, 74, 75, 76, 77, 78, 79, 80, 81, 82] rfl
  have hDc : va_D (va_A (wLW cI cJ cS A g B k0 S O) s.heap.size) (wCM cI cJ cS A g B S) := hD.sub [1, 2, 3, 4, 5, 6, 7, 8, 9, 10, 11, 12, 13, 14, 15, 16, 17, 18, 19, 20, 21, 22, 23, 24, 25, 26, 27, 28, 29, 30, 31, 32, 33, 34, 35, 36, 37, 38, 39, 40, 41, 42, 43, 44, 45, 46, 47, 48, 49, 50, 51, 52, 53, 54, 55, 56, 57, 58, 59, 60, 61, 62, 63, 64, 65, 66, 67, 68, 69, 70, 71, 72, 73, 74, 75, 76, 77, 78, 79, 80, 81, 82] (by decide +kernel) rfl
  have hAc : ∀ q, va_A (wCM cI cJ cS A g B S) s.heap.size q → (va_A (wLW cI cJ cS A g B k0 S O) s.heap.size) q := fun q h => h.elim (fun ⟨k, e9, he⟩ => Or.inl ⟨k + 1, e9, he⟩) (fun h => Or.inr h)
  have hAr : ∀ q, va_A (wCR cI cJ A S) s.heap.size q → (va_A (wLW cI cJ cS A g B k0 S O) s.heap.size) q := fun q h => h.elim (fun ⟨k, e9, he⟩ => (qd_CR hDc).2 k _ he) (fun h => Or.inr h)
  have hl := lv_entry ([.ref (A 3 0), .int p1, .int p2, .ref k0]) (n := 5) (Nat.le_of_ble_eq_true rfl)
  rw [lg_entry_eq]
  generalize (lg_sl ([.ref (A 3 0), .int p1, .int p2, .ref k0]) ++ List.replicate (5 - (lg_sl ([.ref (A 3 0), .int p1, .int p2, .ref k0])).length) Slot.unset).toArray = ls at hl ⊢
  have hl : lv_has ls 5 [(0, .ref (A 3 0)), (1, .int p1), (2, .int p2), (3, .ref k0)] := hl
  unfold f_L_takeBack at hf
  refine lv_aload_n hx hb dL_takeBack_0 rfl (lv_at hl 3 rfl) ?_
  refine lv_iconst (v := 0) hx hb dL_takeBack_1 (by decide) ?_
  refine lv_aload_n hx hb dL_takeBack_2 rfl (lv_at hl 0 rfl) ?_
  refine lv_iload_n hx hb dL_takeBack_3 rfl (lv_at hl 1 rfl) ?_
  refine lv_iload_n hx hb dL_takeBack_4 rfl (lv_at hl 2 rfl) ?_
  obtain ⟨x, hx1, hf⟩ := q_bd_go hf
  refine q_lcW hP hD (vx_runV (As := [.int p1, .int p2]) (rest := [.int 0, .ref k0]) ⟨hx, hb, hml, hown, hts⟩ (c_X2_takeBack l hlt D cI cJ cS sa A g B hg S _ p1 p2 _ hx1) (cwV 2 hts gL_takeBack_X2_takeBack rfl rfl rfl (by decide +kernel) ⟨(Nat.le_of_ble_eq_true rfl), (Nat.le_of_ble_eq_true rfl)⟩) ⟨q_blindWX, va_recv hE.1 hPc (ci := 2) (q0 := 0) rfl rfl, fun U hU hW => ⟨rfl, by rw [hU], by rw [hU]; exact hPc, q_E.warm hW hE, hDc.weaken (fun _ _ _ _ => trivial), q_ES.warm hW hES, by rw [hU]; exact q_EZ.moved hW.alike (hZ.narrow hAc)⟩⟩ rfl rfl hl.1 rfl (lv_room (Nat.le_of_ble_eq_true rfl)) dL_takeBack_5 ⟨(Nat.le_of_ble_eq_true rfl), (Nat.le_of_ble_eq_true rfl)⟩) (fun E ce q H1 locs1 eE hce hcv hcl hz hk hlo => ?_) (fun r g2 B2 H locs er hg2 hP hD hS => ?_)
  · rw [eE] at hf
    have hS1 : va_S (va_A (wLW cI cJ cS A g B k0 S O) s.heap.size) s.heap H1 locs1 := ⟨hz, fun q h1 _ => hk q h1, hlo⟩
    have hP1 : va_P D vwCl (wLW cI cJ cS A g B k0 S O) H1 := hP.kept (fun k q h => hk q.1 (vx_lt hP h))
    by_cases cE : E = "java/lang/IndexOutOfBoundsException"
    · subst cE
      have hf : some ((1 : Int32), S, O) = some o := hf
      refine vx_catch (name := "java/lang/IndexOutOfBoundsException") hown [] ⟨0, 10, 13, 25⟩ [⟨0, 10, 17, 19⟩] htab (fun z hz => nomatch hz) (by decide) (by decide) (hts (.classLink RL 25 "java/lang/IndexOutOfBoundsException") (List.mem_of_getElem? (i := 1) rfl)) (va_Nw.use rfl hES.2.1) hce hcv hcl ?_
      refine lv_astore (lv' := [(4, .ref q), (0, .ref (A 3 0)), (1, .int p1), (2, .int p2), (3, .ref k0)]) hx hb dL_takeBack_13 hl (by decide) rfl (fun ls hl => ?_)
      refine lv_iconst (v := 1) hx hb dL_takeBack_15 (by decide) ?_
      have ho := q_some hf
      subst ho
      refine vx_ret ?_
      exact W.iret hx hb hr (fun t ht hW => ⟨rfl, ⟨_, ⟨g, B, hg, rfl⟩, by rw [ht]; exact hP1, hD⟩, hS1.F ht⟩) hS1.2.2 dL_takeBack_16
    by_cases cE : E = "java/lang/IllegalStateException"
    · subst cE
      have hf : some ((2 : Int32), S, O) = some o := hf
      refine vx_catch (name := "java/lang/IllegalStateException") hown [⟨0, 10, 13, 25⟩] ⟨0, 10, 17, 19⟩ [] htab (by intro z hz; simp only [List.mem_cons, List.not_mem_nil, or_false] at hz; rcases hz with rfl; exact Or.inr ⟨by decide, _, (hts (.classLink RL 25 "java/lang/IndexOutOfBoundsException") (List.mem_of_getElem? (i := 1) rfl)), hN.1⟩) (by decide) (by decide) (hts (.classLink RL 19 "java/lang/IllegalStateException") (List.mem_of_getElem? (i := 2) rfl)) (va_Nw.use rfl hES.2.2.2.1) hce hcv hcl ?_
      refine lv_astore (lv' := [(4, .ref q), (0, .ref (A 3 0)), (1, .int p1), (2, .int p2), (3, .ref k0)]) hx hb dL_takeBack_17 hl (by decide) rfl (fun ls hl => ?_)
      refine lv_iconst (v := 2) hx hb dL_takeBack_19 (by decide) ?_
      have ho := q_some hf
      subst ho
      refine vx_ret ?_
      exact W.iret hx hb hr (fun t ht hW => ⟨rfl, ⟨_, ⟨g, B, hg, rfl⟩, by rw [ht]; exact hP1, hD⟩, hS1.F ht⟩) hS1.2.2 dL_takeBack_20
    have hn : q_out (.inl E) O (fun E => if E = "java/lang/IndexOutOfBoundsException" then some 1 else if E = "java/lang/IllegalStateException" then some 2 else none) S = none := by simp [q_out, *]
    rw [hn] at hf
    cases hf
  · rw [er] at hf
    refine lv_i2l (v := ((r.1 : Int32).toInt64)) hx hb dL_takeBack_8 rfl ?_
    refine va_last hx hb hE.1 hP hD hS 0 1 rfl rfl (by unfold vp_in; decide) dL_takeBack_9 (fun H locs hP hD hS => ?_)
    have hP : va_P D vwCl (wLW cI cJ cS A g2 B2 k0 r.2 (vp_updL O (0 : Int32).toNatClampNeg ((r.1 : Int32).toInt64))) H := hP
    have hD : va_D (va_A (wLW cI cJ cS A g B k0 S O) s.heap.size) (wLW cI cJ cS A g2 B2 k0 r.2 (vp_updL O (0 : Int32).toNatClampNeg ((r.1 : Int32).toInt64))) := hD
    refine lv_goto (tgt := 21) hx hb dL_takeBack_10 (by decide) ?_
    refine lv_iconst (v := 0) hx hb dL_takeBack_21 (by decide) ?_
    have ho := q_some hf
    subst ho
    refine vx_ret ?_
    exact W.iret hx hb hr (fun t ht hW => ⟨rfl, ⟨_, ⟨g2, B2, hg2, rfl⟩, by rw [ht]; exact hP, hD⟩, hS.F ht⟩) hS.2.2 dL_takeBack_22
def f_L_cover (S : CM) (O : Nat → Int64) (p1 : Int32) : Option (Int32 × CM × (Nat → Int64)) := (f_X2_cover S p1).bind fun x => q_out x O (fun E => if E = "java/lang/IndexOutOfBoundsException" then some 1 else if E = "java/lang/IllegalStateException" then some 2 else none) S
abbrev rL_cover : Room := { frames := 8, cells := 2, slots := 12, locals := 132 }
set_option maxRecDepth 100000 in
set_option maxHeartbeats 4000000 in
theorem c_L_cover (l : Launch) (hlt : l.stackTraces = false) (D : va_G) (cI cJ cS : ClassId) (sa : Nat → Nat) (A : Nat → Nat → Nat) (g : Nat → Option Nat) (B : Nat → Nat → Nat) (hg : ∀ i, i < 4 → g i = some (B i 0)) (k0 : Nat) (S : CM) (O : Nat → Int64) (sz : Nat) (p1 : Int32) (o : Int32 × CM × (Nat → Int64)) (hf : f_L_cover S O p1 = some o) : vx_Met l yL_cover wsL_cover rL_cover (va_Pc [.ref (A 3 0), .int p1, .ref k0] (q_BL D cI cJ cS sa (wLW cI cJ cS A g B k0 S O) sz)) (q_LQ o D cI cJ cS A k0 (wLW cI cJ cS A g B k0 S O) sz) q_LX 2 12 (va_A (wLW cI cJ cS A g B k0 S O) sz) := by
  refine vx_ofWH (cc := cL_cover) (maxL := 4) (ret := some .int) (hh := [(0, 9, 12, 25), (0, 9, 15, 19)]) (by decide) rfl ?_
  intro p e s m args below meth c s₁ B9 hml hv
  obtain ⟨rfl, ⟨hsz, hP, hE, hD0, hES, hZ⟩, hN⟩ := hv
  have hx := B9.exec
  have hb := B9.bytes
  have hr := B9.returns
  have hts := atoms_spec (ws := wsL_cover) B9.pre
  have hown : s.vm.findClass RL = some m.cls := findClass_of_methodNamed B9.named
  have hlocks := B9.notSynchronized
  have htab : c.exceptionTable.toList = [⟨0, 9, 12, 25⟩, ⟨0, 9, 15, 19⟩] := vx_table (x := yL_cover) B9 (hts _ List.mem_cons_self)
  subst hsz
  have hD := hD0.self (sz := s.heap.size)
  have hPc : va_P D vwCl (wCM cI cJ cS A g B S) s.heap := hP.sub [1, 2, 3, 4, 5, 6, 7, 8, 9, 10, 11, 12, 13, 14, 15, 16, 17, 18, 19, 20, 21, 22, 23, 24, 25, 26, 27, 28, 29, 30, 31, 32, 33, 34, 35, 36, 37, 38, 39, 40, 41, 42, 43, 44, 45, 46, 47, 48, 49, 50, 51, 52, 53, 54, 55, 56, 57, 58, 59, 60, 61, 62, 63, 64, 65, 66, 67, 68, 69, 70, 71, 72, 73, 74, 75, 76, 77, 78, 79, 80, 81, 82] rfl
  have hDc : va_D (va_A (wLW cI cJ cS A g B k0 S O) s.heap.size) (wCM cI cJ cS A g B S) := hD.sub [1, 2, 3, 4, 5, 6, 7, 8, 9, 10, 11, 12, 13, 14, 15, 16, 17, 18, 19, 20, 21, 22, 23, 24, 25, 26, 27, 28, 29, 30, 31, 32, 33, 34, 35, 36, 37, 38, 39, 40, 41, 42, 43, 44, 45, 46, 47, 48, 49, 50, 51, 52, 53, 54, 55, 56, 57, 58, 59, 60, 61, 62, 63, 64, 65, 66, 67, 68, 69, 70, 71, 72, 73, 74, 75, 76, 77, 78, 79, 80, 81, 82] (by decide +kernel) rfl
  have hAc : ∀ q, va_A (wCM cI cJ cS A g B S) s.heap.size q → (va_A (wLW cI cJ cS A g B k0 S O) s.heap.size) q := fun q h => h.elim (fun ⟨k, e9, he⟩ => Or.inl ⟨k + 1, e9, he⟩) (fun h => Or.inr h)
  have hAr : ∀ q, va_A (wCR cI cJ A S) s.heap.size q → (va_A (wLW cI cJ cS A g B k0 S O) s.heap.size) q := fun q h => h.elim (fun ⟨k, e9, he⟩ => (qd_CR hDc).2 k _ he) (fun h => Or.inr h)
  have hl := lv_entry ([.ref (A 3 0), .int p1, .ref k0]) (n := 4) (Nat.le_of_ble_eq_true rfl)
  rw [lg_entry_eq]
  generalize (lg_sl ([.ref (A 3 0), .int p1, .ref k0]) ++ List.replicate (4 - (lg_sl ([.ref (A 3 0), .int p1, .ref k0])).length) Slot.unset).toArray = ls at hl ⊢
  have hl : lv_has ls 4 [(0, .ref (A 3 0)), (1, .int p1), (2, .ref k0)] := hl
  unfold f_L_cover at hf
  refine lv_aload_n hx hb dL_cover_0 rfl (lv_at hl 2 rfl) ?_
  refine lv_iconst (v := 0) hx hb dL_cover_1 (by decide) ?_
  refine lv_aload_n hx hb dL_cover_2 rfl (lv_at hl 0 rfl) ?_
  refine lv_iload_n hx hb dL_cover_3 rfl (lv_at hl 1 rfl) ?_
  obtain ⟨x, hx1, hf⟩ := q_bd_go hf
  refine q_lcW hP hD (vx_runV (As := [.int p1]) (rest := [.int 0, .ref k0]) ⟨hx, hb, hml, hown, hts⟩ (c_X2_cover l hlt D cI cJ cS sa A g B hg S _ p1 _ hx1) (cwV 1 hts gL_cover_X2_cover rfl rfl rfl (by decide +kernel) ⟨(Nat.le_of_ble_eq_true rfl), (Nat.le_of_ble_eq_true rfl)⟩) ⟨q_blindWX, va_recv hE.1 hPc (ci := 2) (q0 := 0) rfl rfl, fun U hU hW => ⟨rfl, by rw [hU], by rw [hU]; exact hPc, q_E.warm hW hE, hDc.weaken (fun _ _ _ _ => trivial), q_ES.warm hW hES, by rw [hU]; exact q_EZ.moved hW.alike (hZ.narrow hAc)⟩⟩ rfl rfl hl.1 rfl (lv_room (Nat.le_of_ble_eq_true rfl)) dL_cover_4 ⟨(Nat.le_of_ble_eq_true rfl), (Nat.le_of_ble_eq_true rfl)⟩) (fun E ce q H1 locs1 eE hce hcv hcl hz hk hlo => ?_) (fun r g2 B2 H locs er hg2 hP hD hS => ?_)
  · rw [eE] at hf
    have hS1 : va_S (va_A (wLW cI cJ cS A g B k0 S O) s.heap.size) s.heap H1 locs1 := ⟨hz, fun q h1 _ => hk q h1, hlo⟩
    have hP1 : va_P D vwCl (wLW cI cJ cS A g B k0 S O) H1 := hP.kept (fun k q h => hk q.1 (vx_lt hP h))
    by_cases cE : E = "java/lang/IndexOutOfBoundsException"
    · subst cE
      have hf : some ((1 : Int32), S, O) = some o := hf
      refine vx_catch (name := "java/lang/IndexOutOfBoundsException") hown [] ⟨0, 9, 12, 25⟩ [⟨0, 9, 15, 19⟩] htab (fun z hz => nomatch hz) (by decide) (by decide) (hts (.classLink RL 25 "java/lang/IndexOutOfBoundsException") (List.mem_of_getElem? (i := 1) rfl)) (va_Nw.use rfl hES.2.1) hce hcv hcl ?_
      refine lv_astore_n (lv' := [(3, .ref q), (0, .ref (A 3 0)), (1, .int p1), (2, .ref k0)]) hx hb dL_cover_12 rfl hl (by decide) rfl (fun ls hl => ?_)
      refine lv_iconst (v := 1) hx hb dL_cover_13 (by decide) ?_
      have ho := q_some hf
      subst ho
      refine vx_ret ?_
      exact W.iret hx hb hr (fun t ht hW => ⟨rfl, ⟨_, ⟨g, B, hg, rfl⟩, by rw [ht]; exact hP1, hD⟩, hS1.F ht⟩) hS1.2.2 dL_cover_14
    by_cases cE : E = "java/lang/IllegalStateException"
    · subst cE
      have hf : some ((2 : Int32), S, O) = some o := hf
      refine vx_catch (name := "java/lang/IllegalStateException") hown [⟨0, 9, 12, 25⟩] ⟨0, 9, 15, 19⟩ [] htab (by intro z hz; simp only [List.mem_cons, List.not_mem_nil, or_false] at hz; rcases hz with rfl; exact Or.inr ⟨by decide, _, (hts (.classLink RL 25 "java/lang/IndexOutOfBoundsException") (List.mem_of_getElem? (i := 1) rfl)), hN.1⟩) (by decide) (by decide) (hts (.classLink RL 19 "java/lang/IllegalStateException") (List.mem_of_getElem? (i := 2) rfl)) (va_Nw.use rfl hES.2.2.2.1) hce hcv hcl ?_
      refine lv_astore_n (lv' := [(3, .ref q), (0, .ref (A 3 0)), (1, .int p1), (2, .ref k0)]) hx hb dL_cover_15 rfl hl (by decide) rfl (fun ls hl => ?_)
      refine lv_iconst (v := 2) hx hb dL_cover_16 (by decide) ?_
      have ho := q_some hf
      subst ho
      refine vx_ret ?_
      exact W.iret hx hb hr (fun t ht hW => ⟨rfl, ⟨_, ⟨g, B, hg, rfl⟩, by rw [ht]; exact hP1, hD⟩, hS1.F ht⟩) hS1.2.2 dL_cover_17
    have hn : q_out (.inl E) O (fun E => if E = "java/lang/IndexOutOfBoundsException" then some 1 else if E = "java/lang/IllegalStateException" then some 2 else none) S = none := by simp [q_out, *]
    rw [hn] at hf
    cases hf
  · rw [er] at hf
    refine lv_i2l (v := ((r.1 : Int32).toInt64)) hx hb dL_cover_7 rfl ?_
    refine va_last hx hb hE.1 hP hD hS 0 1 rfl rfl (by unfold vp_in; decide) dL_cover_8 (fun H locs hP hD hS => ?_)
    have hP : va_P D vwCl (wLW cI cJ cS A g2 B2 k0 r.2 (vp_updL O (0 : Int32).toNatClampNeg ((r.1 : Int32).toInt64))) H := hP
    have hD : va_D (va_A (wLW cI cJ cS A g B k0 S O) s.heap.size) (wLW cI cJ cS A g2 B2 k0 r.2 (vp_updL O (0 : Int32).toNatClampNeg ((r.1 : Int32).toInt64))) := hD
    refine lv_goto (tgt := 18) hx hb dL_cover_9 (by decide) ?_
    refine lv_iconst (v := 0) hx hb dL_cover_18 (by decide) ?_
    have ho := q_some hf
    subst ho
    refine vx_ret ?_
    exact W.iret hx hb hr (fun t ht hW => ⟨rfl, ⟨_, ⟨g2, B2, hg2, rfl⟩, by rw [ht]; exact hP, hD⟩, hS.F ht⟩) hS.2.2 dL_cover_19
def f_L_handOver (S : CM) (O : Nat → Int64) (p1 : Int32) (p2 : Int32) : Option (Int32 × CM × (Nat → Int64)) := (f_X2_handOver S p1 p2).bind fun x => q_out x O (fun E => if E = "java/lang/IndexOutOfBoundsException" then some 1 else if E = "java/lang/IllegalStateException" then some 2 else none) S
abbrev rL_handOver : Room := { frames := 8, cells := 3, slots := 18, locals := 134 }
set_option maxRecDepth 100000 in
set_option maxHeartbeats 4000000 in
theorem c_L_handOver (l : Launch) (hlt : l.stackTraces = false) (D : va_G) (cI cJ cS : ClassId) (sa : Nat → Nat) (A : Nat → Nat → Nat) (g : Nat → Option Nat) (B : Nat → Nat → Nat) (hg : ∀ i, i < 4 → g i = some (B i 0)) (k0 : Nat) (S : CM) (O : Nat → Int64) (sz : Nat) (p1 : Int32) (p2 : Int32) (o : Int32 × CM × (Nat → Int64)) (hf : f_L_handOver S O p1 p2 = some o) : vx_Met l yL_handOver wsL_handOver rL_handOver (va_Pc [.ref (A 3 0), .int p1, .int p2, .ref k0] (q_BL D cI cJ cS sa (wLW cI cJ cS A g B k0 S O) sz)) (q_LQ o D cI cJ cS A k0 (wLW cI cJ cS A g B k0 S O) sz) q_LX 3 18 (va_A (wLW cI cJ cS A g B k0 S O) sz) := by
  refine vx_ofWH (cc := cL_handOver) (maxL := 5) (ret := some .int) (hh := [(0, 10, 13, 25), (0, 10, 17, 19)]) (by decide) rfl ?_
  intro p e s m args below meth c s₁ B9 hml hv
  obtain ⟨rfl, ⟨hsz, hP, hE, hD0, hES, hZ⟩, hN⟩ := hv
  have hx := B9.exec
  have hb := B9.bytes
  have hr := B9.returns
  have hts := atoms_spec (ws := wsL_handOver) B9.pre
  have hown : s.vm.findClass RL = some m.cls := findClass_of_methodNamed B9.named
  have hlocks := B9.notSynchronized
  have htab : c.exceptionTable.toList = [⟨0, 10, 13, 25⟩, ⟨0, 10, 17, 19⟩] := vx_table (x := yL_handOver) B9 (hts _ List.mem_cons_self)
  subst hsz
  have hD := hD0.self (sz := s.heap.size)
  have hPc : va_P D vwCl (wCM cI cJ cS A g B S) s.heap := hP.sub [1, 2, 3, 4, 5, 6, 7, 8, 9, 10, 11, 12, 13, 14, 15, 16, 17, 18, 19, 20, 21, 22, 23, 24, 25, 26, 27, 28, 29, 30, 31, 32, 33, 34, 35, 36, 37, 38, 39, 40, 41, 42, 43, 44, 45, 46, 47, 48, 49, 50, 51, 52, 53, 54, 55, 56, 57, 58, 59, 60, 61, 62, 63, 64, 65, 66, 67, 68, 69, 70, 71, 72, 73, 74, 75, 76, 77, 78, 79, 80, 81, 82] rfl
  have hDc : va_D (va_A (wLW cI cJ cS A g B k0 S O) s.heap.size) (wCM cI cJ cS A g B S) := hD.sub [1, 2, 3, 4, 5, 6, 7, 8, 9, 10, 11, 12, 13, 14, 15, 16, 17, 18, 19, 20, 21, 22, 23, 24, 25, 26, 27, 28, 29, 30, 31, 32, 33, 34, 35, 36, 37, 38, 39, 40, 41, 42, 43, 44, 45, 46, 47, 48, 49, 50, 51, 52, 53, 54, 55, 56, 57, 58, 59, 60, 61, 62, 63, 64, 65, 66, 67, 68, 69, 70, 71, 72, 73, 74, 75, 76, 77, 78, 79, 80, 81, 82] (by decide +kernel) rfl
  have hAc : ∀ q, va_A (wCM cI cJ cS A g B S) s.heap.size q → (va_A (wLW cI cJ cS A g B k0 S O) s.heap.size) q := fun q h => h.elim (fun ⟨k, e9, he⟩ => Or.inl ⟨k + 1, e9, he⟩) (fun h => Or.inr h)
  have hAr : ∀ q, va_A (wCR cI cJ A S) s.heap.size q → (va_A (wLW cI cJ cS A g B k0 S O) s.heap.size) q := fun q h => h.elim (fun ⟨k, e9, he⟩ => (qd_CR hDc).2 k _ he) (fun h => Or.inr h)
  have hl := lv_entry ([.ref (A 3 0), .int p1, .int p2, .ref k0]) (n := 5) (Nat.le_of_ble_eq_true rfl)
  rw [lg_entry_eq]
  generalize (lg_sl ([.ref (A 3 0), .int p1, .int p2, .ref k0]) ++ List.replicate (5 - (lg_sl ([.ref (A 3 0), .int p1, .int p2, .ref k0])).length) Slot.unset).toArray = ls at hl ⊢
  have hl : lv_has ls 5 [(0, .ref (A 3 0)), (1, .int p1), (2, .int p2), (3, .ref k0)] := hl
  unfold f_L_handOver at hf
  refine lv_aload_n hx hb dL_handOver_0 rfl (lv_at hl 3 rfl) ?_
  refine lv_iconst (v := 0) hx hb dL_handOver_1 (by decide) ?_
  refine lv_aload_n hx hb dL_handOver_2 rfl (lv_at hl 0 rfl) ?_
  refine lv_iload_n hx hb dL_handOver_3 rfl (lv_at hl 1 rfl) ?_
  refine lv_iload_n hx hb dL_handOver_4 rfl (lv_at hl 2 rfl) ?_
  obtain ⟨x, hx1, hf⟩ := q_bd_go hf
  refine q_lcW hP hD (vx_runV (As := [.int p1, .int p2]) (rest := [.int 0, .ref k0]) ⟨hx, hb, hml, hown, hts⟩ (c_X2_handOver l hlt D cI cJ cS sa A g B hg S _ p1 p2 _ hx1) (cwV 2 hts gL_handOver_X2_handOver rfl rfl rfl (by decide +kernel) ⟨(Nat.le_of_ble_eq_true rfl), (Nat.le_of_ble_eq_true rfl)⟩) ⟨q_blindWX, va_recv hE.1 hPc (ci := 2) (q0 := 0) rfl rfl, fun U hU hW => ⟨rfl, by rw [hU], by rw [hU]; exact hPc, q_E.warm hW hE, hDc.weaken (fun _ _ _ _ => trivial), q_ES.warm hW hES, by rw [hU]; exact q_EZ.moved hW.alike (hZ.narrow hAc)⟩⟩ rfl rfl hl.1 rfl (lv_room (Nat.le_of_ble_eq_true rfl)) dL_handOver_5 ⟨(Nat.le_of_ble_eq_true rfl), (Nat.le_of_ble_eq_true rfl)⟩) (fun E ce q H1 locs1 eE hce hcv hcl hz hk hlo => ?_) (fun r g2 B2 H locs er hg2 hP hD hS => ?_)
  · rw [eE] at hf
    have hS1 : va_S (va_A (wLW cI cJ cS A g B k0 S O) s.heap.size) s.heap H1 locs1 := ⟨hz, fun q h1 _ => hk q h1, hlo⟩
    have hP1 : va_P D vwCl (wLW cI cJ cS A g B k0 S O) H1 := hP.kept (fun k q h => hk q.1 (vx_lt hP h))
    by_cases cE : E = "java/lang/IndexOutOfBoundsException"
    · subst cE
      have hf : some ((1 : Int32), S, O) = some o := hf
      refine vx_catch (name := "java/lang/IndexOutOfBoundsException") hown [] ⟨0, 10, 13, 25⟩ [⟨0, 10, 17, 19⟩] htab (fun z hz => nomatch hz) (by decide) (by decide) (hts (.classLink RL 25 "java/lang/IndexOutOfBoundsException") (List.mem_of_getElem? (i := 1) rfl)) (va_Nw.use rfl hES.2.1) hce hcv hcl ?_
      refine lv_astore (lv' := [(4, .ref q), (0, .ref (A 3 0)), (1, .int p1), (2, .int p2), (3, .ref k0)]) hx hb dL_handOver_13 hl (by decide) rfl (fun ls hl => ?_)
      refine lv_iconst (v := 1) hx hb dL_handOver_15 (by decide) ?_
      have ho := q_some hf
      subst ho
      refine vx_ret ?_
      exact W.iret hx hb hr (fun t ht hW => ⟨rfl, ⟨_, ⟨g, B, hg, rfl⟩, by rw [ht]; exact hP1, hD⟩, hS1.F ht⟩) hS1.2.2 dL_handOver_16
    by_cases cE : E = "java/lang/IllegalStateException"
    · subst cE
      have hf : some ((2 : Int32), S, O) = some o := hf
      refine vx_catch (name := "java/lang/IllegalStateException") hown [⟨0, 10, 13, 25⟩] ⟨0, 10, 17, 19⟩ [] htab (by intro z hz; simp only [List.mem_cons, List.not_mem_nil, or_false] at hz; rcases hz with rfl; exact Or.inr ⟨by decide, _, (hts (.classLink RL 25 "java/lang/IndexOutOfBoundsException") (List.mem_of_getElem? (i := 1) rfl)), hN.1⟩) (by decide) (by decide) (hts (.classLink RL 19 "java/lang/IllegalStateException") (List.mem_of_getElem? (i := 2) rfl)) (va_Nw.use rfl hES.2.2.2.1) hce hcv hcl ?_
      refine lv_astore (lv' := [(4, .ref q), (0, .ref (A 3 0)), (1, .int p1), (2, .int p2), (3, .ref k0)]) hx hb dL_handOver_17 hl (by decide) rfl (fun ls hl => ?_)
      refine lv_iconst (v := 2) hx hb dL_handOver_19 (by decide) ?_
      have ho := q_some hf
      subst ho
      refine vx_ret ?_
      exact W.iret hx hb hr (fun t ht hW => ⟨rfl, ⟨_, ⟨g, B, hg, rfl⟩, by rw [ht]; exact hP1, hD⟩, hS1.F ht⟩) hS1.2.2 dL_handOver_20
    have hn : q_out (.inl E) O (fun E => if E = "java/lang/IndexOutOfBoundsException" then some 1 else if E = "java/lang/IllegalStateException" then some 2 else none) S = none := by simp [q_out, *]
    rw [hn] at hf
    cases hf
  · rw [er] at hf
    refine lv_i2l (v := ((r.1 : Int32).toInt64)) hx hb dL_handOver_8 rfl ?_
    refine va_last hx hb hE.1 hP hD hS 0 1 rfl rfl (by unfold vp_in; decide) dL_handOver_9 (fun H locs hP hD hS => ?_)
    have hP : va_P D vwCl (wLW cI cJ cS A g2 B2 k0 r.2 (vp_updL O (0 : Int32).toNatClampNeg ((r.1 : Int32).toInt64))) H := hP
    have hD : va_D (va_A (wLW cI cJ cS A g B k0 S O) s.heap.size) (wLW cI cJ cS A g2 B2 k0 r.2 (vp_updL O (0 : Int32).toNatClampNeg ((r.1 : Int32).toInt64))) := hD
    refine lv_goto (tgt := 21) hx hb dL_handOver_10 (by decide) ?_
    refine lv_iconst (v := 0) hx hb dL_handOver_21 (by decide) ?_
    have ho := q_some hf
    subst ho
    refine vx_ret ?_
    exact W.iret hx hb hr (fun t ht hW => ⟨rfl, ⟨_, ⟨g2, B2, hg2, rfl⟩, by rw [ht]; exact hP, hD⟩, hS.F ht⟩) hS.2.2 dL_handOver_22
def f_L_giveUp (S : CM) (O : Nat → Int64) (p1 : Int32) : Option (Int32 × CM × (Nat → Int64)) := (f_X2_giveUp S p1).bind fun x => q_out x O (fun E => if E = "java/lang/IndexOutOfBoundsException" then some 1 else if E = "java/lang/IllegalStateException" then some 2 else none) S
abbrev rL_giveUp : Room := { frames := 8, cells := 2, slots := 12, locals := 133 }
set_option maxRecDepth 100000 in
set_option maxHeartbeats 4000000 in
theorem c_L_giveUp (l : Launch) (hlt : l.stackTraces = false) (D : va_G) (cI cJ cS : ClassId) (sa : Nat → Nat) (A : Nat → Nat → Nat) (g : Nat → Option Nat) (B : Nat → Nat → Nat) (hg : ∀ i, i < 4 → g i = some (B i 0)) (k0 : Nat) (S : CM) (O : Nat → Int64) (sz : Nat) (p1 : Int32) (o : Int32 × CM × (Nat → Int64)) (hf : f_L_giveUp S O p1 = some o) : vx_Met l yL_giveUp wsL_giveUp rL_giveUp (va_Pc [.ref (A 3 0), .int p1, .ref k0] (q_BL D cI cJ cS sa (wLW cI cJ cS A g B k0 S O) sz)) (q_LQ o D cI cJ cS A k0 (wLW cI cJ cS A g B k0 S O) sz) q_LX 2 12 (va_A (wLW cI cJ cS A g B k0 S O) sz) := by
  refine vx_ofWH (cc := cL_giveUp) (maxL := 4) (ret := some .int) (hh := [(0, 9, 12, 25), (0, 9, 15, 19)]) (by decide) rfl ?_
  intro p e s m args below meth c s₁ B9 hml hv
  obtain ⟨rfl, ⟨hsz, hP, hE, hD0, hES, hZ⟩, hN⟩ := hv
  have hx := B9.exec
  have hb := B9.bytes
  have hr := B9.returns
  have hts := atoms_spec (ws := wsL_giveUp) B9.pre
  have hown : s.vm.findClass RL = some m.cls := findClass_of_methodNamed B9.named
  have hlocks := B9.notSynchronized
  have htab : c.exceptionTable.toList = [⟨0, 9, 12, 25⟩, ⟨0, 9, 15, 19⟩] := vx_table (x := yL_giveUp) B9 (hts _ List.mem_cons_self)
  subst hsz
  have hD := hD0.self (sz := s.heap.size)
  have hPc : va_P D vwCl (wCM cI cJ cS A g B S) s.heap := hP.sub [1, 2, 3, 4, 5, 6, 7, 8, 9, 10, 11, 12, 13, 14, 15, 16, 17, 18, 19, 20, 21, 22, 23, 24, 25, 26, 27, 28, 29, 30, 31, 32, 33, 34, 35, 36, 37, 38, 39, 40, 41, 42, 43, 44, 45, 46, 47, 48, 49, 50, 51, 52, 53, 54, 55, 56, 57, 58, 59, 60, 61, 62, 63, 64, 65, 66, 67, 68, 69, 70, 71, 72, 73, 74, 75, 76, 77, 78, 79, 80, 81, 82] rfl
  have hDc : va_D (va_A (wLW cI cJ cS A g B k0 S O) s.heap.size) (wCM cI cJ cS A g B S) := hD.sub [1, 2, 3, 4, 5, 6, 7, 8, 9, 10, 11, 12, 13, 14, 15, 16, 17, 18, 19, 20, 21, 22, 23, 24, 25, 26, 27, 28, 29, 30, 31, 32, 33, 34, 35, 36, 37, 38, 39, 40, 41, 42, 43, 44, 45, 46, 47, 48, 49, 50, 51, 52, 53, 54, 55, 56, 57, 58, 59, 60, 61, 62, 63, 64, 65, 66, 67, 68, 69, 70, 71, 72, 73, 74, 75, 76, 77, 78, 79, 80, 81, 82] (by decide +kernel) rfl
  have hAc : ∀ q, va_A (wCM cI cJ cS A g B S) s.heap.size q → (va_A (wLW cI cJ cS A g B k0 S O) s.heap.size) q := fun q h => h.elim (fun ⟨k, e9, he⟩ => Or.inl ⟨k + 1, e9, he⟩) (fun h => Or.inr h)
  have hAr : ∀ q, va_A (wCR cI cJ A S) s.heap.size q → (va_A (wLW cI cJ cS A g B k0 S O) s.heap.size) q := fun q h => h.elim (fun ⟨k, e9, he⟩ => (qd_CR hDc).2 k _ he) (fun h => Or.inr h)
  have hl := lv_entry ([.ref (A 3 0), .int p1, .ref k0]) (n := 4) (Nat.le_of_ble_eq_true rfl)
  rw [lg_entry_eq]
  generalize (lg_sl ([.ref (A 3 0), .int p1, .ref k0]) ++ List.replicate (4 - (lg_sl ([.ref (A 3 0), .int p1, .ref k0])).length) Slot.unset).toArray = ls at hl ⊢
  have hl : lv_has ls 4 [(0, .ref (A 3 0)), (1, .int p1), (2, .ref k0)] := hl
  unfold f_L_giveUp at hf
  refine lv_aload_n hx hb dL_giveUp_0 rfl (lv_at hl 2 rfl) ?_
  refine lv_iconst (v := 0) hx hb dL_giveUp_1 (by decide) ?_
  refine lv_aload_n hx hb dL_giveUp_2 rfl (lv_at hl 0 rfl) ?_
  refine lv_iload_n hx hb dL_giveUp_3 rfl (lv_at hl 1 rfl) ?_
  obtain ⟨x, hx1, hf⟩ := q_bd_go hf
  refine q_lcW hP hD (vx_runV (As := [.int p1]) (rest := [.int 0, .ref k0]) ⟨hx, hb, hml, hown, hts⟩ (c_X2_giveUp l hlt D cI cJ cS sa A g B hg S _ p1 _ hx1) (cwV 1 hts gL_giveUp_X2_giveUp rfl rfl rfl (by decide +kernel) ⟨(Nat.le_of_ble_eq_true rfl), (Nat.le_of_ble_eq_true rfl)⟩) ⟨q_blindWX, va_recv hE.1 hPc (ci := 2) (q0 := 0) rfl rfl, fun U hU hW => ⟨rfl, by rw [hU], by rw [hU]; exact hPc, q_E.warm hW hE, hDc.weaken (fun _ _ _ _ => trivial), q_ES.warm hW hES, by rw [hU]; exact q_EZ.moved hW.alike (hZ.narrow hAc)⟩⟩ rfl rfl hl.1 rfl (lv_room (Nat.le_of_ble_eq_true rfl)) dL_giveUp_4 ⟨(Nat.le_of_ble_eq_true rfl), (Nat.le_of_ble_eq_true rfl)⟩) (fun E ce q H1 locs1 eE hce hcv hcl hz hk hlo => ?_) (fun r g2 B2 H locs er hg2 hP hD hS => ?_)
  · rw [eE] at hf
    have hS1 : va_S (va_A (wLW cI cJ cS A g B k0 S O) s.heap.size) s.heap H1 locs1 := ⟨hz, fun q h1 _ => hk q h1, hlo⟩
    have hP1 : va_P D vwCl (wLW cI cJ cS A g B k0 S O) H1 := hP.kept (fun k q h => hk q.1 (vx_lt hP h))
    by_cases cE : E = "java/lang/IndexOutOfBoundsException"
    · subst cE
      have hf : some ((1 : Int32), S, O) = some o := hf
      refine vx_catch (name := "java/lang/IndexOutOfBoundsException") hown [] ⟨0, 9, 12, 25⟩ [⟨0, 9, 15, 19⟩] htab (fun z hz => nomatch hz) (by decide) (by decide) (hts (.classLink RL 25 "java/lang/IndexOutOfBoundsException") (List.mem_of_getElem? (i := 1) rfl)) (va_Nw.use rfl hES.2.1) hce hcv hcl ?_
      refine lv_astore_n (lv' := [(3, .ref q), (0, .ref (A 3 0)), (1, .int p1), (2, .ref k0)]) hx hb dL_giveUp_12 rfl hl (by decide) rfl (fun ls hl => ?_)
      refine lv_iconst (v := 1) hx hb dL_giveUp_13 (by decide) ?_
      have ho := q_some hf
      subst ho
      refine vx_ret ?_
      exact W.iret hx hb hr (fun t ht hW => ⟨rfl, ⟨_, ⟨g, B, hg, rfl⟩, by rw [ht]; exact hP1, hD⟩, hS1.F ht⟩) hS1.2.2 dL_giveUp_14
    by_cases cE : E = "java/lang/IllegalStateException"
    · subst cE
      have hf : some ((2 : Int32), S, O) = some o := hf
      refine vx_catch (name := "java/lang/IllegalStateException") hown [⟨0, 9, 12, 25⟩] ⟨0, 9, 15, 19⟩ [] htab (by intro z hz; simp only [List.mem_cons, List.not_mem_nil, or_false] at hz; rcases hz with rfl; exact Or.inr ⟨by decide, _, (hts (.classLink RL 25 "java/lang/IndexOutOfBoundsException") (List.mem_of_getElem? (i := 1) rfl)), hN.1⟩) (by decide) (by decide) (hts (.classLink RL 19 "java/lang/IllegalStateException") (List.mem_of_getElem? (i := 2) rfl)) (va_Nw.use rfl hES.2.2.2.1) hce hcv hcl ?_
      refine lv_astore_n (lv' := [(3, .ref q), (0, .ref (A 3 0)), (1, .int p1), (2, .ref k0)]) hx hb dL_giveUp_15 rfl hl (by decide) rfl (fun ls hl => ?_)
      refine lv_iconst (v := 2) hx hb dL_giveUp_16 (by decide) ?_
      have ho := q_some hf
      subst ho
      refine vx_ret ?_
      exact W.iret hx hb hr (fun t ht hW => ⟨rfl, ⟨_, ⟨g, B, hg, rfl⟩, by rw [ht]; exact hP1, hD⟩, hS1.F ht⟩) hS1.2.2 dL_giveUp_17
    have hn : q_out (.inl E) O (fun E => if E = "java/lang/IndexOutOfBoundsException" then some 1 else if E = "java/lang/IllegalStateException" then some 2 else none) S = none := by simp [q_out, *]
    rw [hn] at hf
    cases hf
  · rw [er] at hf
    refine lv_i2l (v := ((r.1 : Int32).toInt64)) hx hb dL_giveUp_7 rfl ?_
    refine va_last hx hb hE.1 hP hD hS 0 1 rfl rfl (by unfold vp_in; decide) dL_giveUp_8 (fun H locs hP hD hS => ?_)
    have hP : va_P D vwCl (wLW cI cJ cS A g2 B2 k0 r.2 (vp_updL O (0 : Int32).toNatClampNeg ((r.1 : Int32).toInt64))) H := hP
    have hD : va_D (va_A (wLW cI cJ cS A g B k0 S O) s.heap.size) (wLW cI cJ cS A g2 B2 k0 r.2 (vp_updL O (0 : Int32).toNatClampNeg ((r.1 : Int32).toInt64))) := hD
    refine lv_goto (tgt := 18) hx hb dL_giveUp_9 (by decide) ?_
    refine lv_iconst (v := 0) hx hb dL_giveUp_18 (by decide) ?_
    have ho := q_some hf
    subst ho
    refine vx_ret ?_
    exact W.iret hx hb hr (fun t ht hW => ⟨rfl, ⟨_, ⟨g2, B2, hg2, rfl⟩, by rw [ht]; exact hP, hD⟩, hS.F ht⟩) hS.2.2 dL_giveUp_19
def f_L_person (S : CM) (O : Nat → Int64) (p1 : Int32) (p2 : Int32) : Option (Int32 × CM × (Nat → Int64)) := (f_X2_person S p1 p2).bind fun x => q_outR x O (fun E => if E = "java/lang/IndexOutOfBoundsException" then some 1 else if E = "java/lang/IllegalArgumentException" then some 2 else none) S
abbrev rL_person : Room := { frames := 8, cells := 2, slots := 12, locals := 134 }
set_option maxRecDepth 100000 in
set_option maxHeartbeats 4000000 in
theorem c_L_person (l : Launch) (hlt : l.stackTraces = false) (D : va_G) (cI cJ cS : ClassId) (sa : Nat → Nat) (A : Nat → Nat → Nat) (g : Nat → Option Nat) (B : Nat → Nat → Nat) (hg : ∀ i, i < 4 → g i = some (B i 0)) (k0 : Nat) (S : CM) (O : Nat → Int64) (sz : Nat) (p1 : Int32) (p2 : Int32) (o : Int32 × CM × (Nat → Int64)) (hf : f_L_person S O p1 p2 = some o) : vx_Met l yL_person wsL_person rL_person (va_Pc [.ref (A 3 0), .int p1, .int p2, .ref k0] (q_BL D cI cJ cS sa (wLW cI cJ cS A g B k0 S O) sz)) (q_LQ o D cI cJ cS A k0 (wLW cI cJ cS A g B k0 S O) sz) q_LX 2 12 (va_A (wLW cI cJ cS A g B k0 S O) sz) := by
  refine vx_ofWH (cc := cL_person) (maxL := 5) (ret := some .int) (hh := [(0, 10, 13, 25), (0, 10, 17, 13)]) (by decide) rfl ?_
  intro p e s m args below meth c s₁ B9 hml hv
  obtain ⟨rfl, ⟨hsz, hP, hE, hD0, hES, hZ⟩, hN⟩ := hv
  have hx := B9.exec
  have hb := B9.bytes
  have hr := B9.returns
  have hts := atoms_spec (ws := wsL_person) B9.pre
  have hown : s.vm.findClass RL = some m.cls := findClass_of_methodNamed B9.named
  have hlocks := B9.notSynchronized
  have htab : c.exceptionTable.toList = [⟨0, 10, 13, 25⟩, ⟨0, 10, 17, 13⟩] := vx_table (x := yL_person) B9 (hts _ List.mem_cons_self)
  subst hsz
  have hD := hD0.self (sz := s.heap.size)
  have hPc : va_P D vwCl (wCM cI cJ cS A g B S) s.heap := hP.sub [1, 2, 3, 4, 5, 6, 7, 8, 9, 10, 11, 12, 13, 14, 15, 16, 17, 18, 19, 20, 21, 22, 23, 24, 25, 26, 27, 28, 29, 30, 31, 32, 33, 34, 35, 36, 37, 38, 39, 40, 41, 42, 43, 44, 45, 46, 47, 48, 49, 50, 51, 52, 53, 54, 55, 56, 57, 58, 59, 60, 61, 62, 63, 64, 65, 66, 67, 68, 69, 70, 71, 72, 73, 74, 75, 76, 77, 78, 79, 80, 81, 82] rfl
  have hDc : va_D (va_A (wLW cI cJ cS A g B k0 S O) s.heap.size) (wCM cI cJ cS A g B S) := hD.sub [1, 2, 3, 4, 5, 6, 7, 8, 9, 10, 11, 12, 13, 14, 15, 16, 17, 18, 19, 20, 21, 22, 23, 24, 25, 26, 27, 28, 29, 30, 31, 32, 33, 34, 35, 36, 37, 38, 39, 40, 41, 42, 43, 44, 45, 46, 47, 48, 49, 50, 51, 52, 53, 54, 55, 56, 57, 58, 59, 60, 61, 62, 63, 64, 65, 66, 67, 68, 69, 70, 71, 72, 73, 74, 75, 76, 77, 78, 79, 80, 81, 82] (by decide +kernel) rfl
  have hAc : ∀ q, va_A (wCM cI cJ cS A g B S) s.heap.size q → (va_A (wLW cI cJ cS A g B k0 S O) s.heap.size) q := fun q h => h.elim (fun ⟨k, e9, he⟩ => Or.inl ⟨k + 1, e9, he⟩) (fun h => Or.inr h)
  have hAr : ∀ q, va_A (wCR cI cJ A S) s.heap.size q → (va_A (wLW cI cJ cS A g B k0 S O) s.heap.size) q := fun q h => h.elim (fun ⟨k, e9, he⟩ => (qd_CR hDc).2 k _ he) (fun h => Or.inr h)
  have hl := lv_entry ([.ref (A 3 0), .int p1, .int p2, .ref k0]) (n := 5) (Nat.le_of_ble_eq_true rfl)
  rw [lg_entry_eq]
  generalize (lg_sl ([.ref (A 3 0), .int p1, .int p2, .ref k0]) ++ List.replicate (5 - (lg_sl ([.ref (A 3 0), .int p1, .int p2, .ref k0])).length) Slot.unset).toArray = ls at hl ⊢
  have hl : lv_has ls 5 [(0, .ref (A 3 0)), (1, .int p1), (2, .int p2), (3, .ref k0)] := hl
  unfold f_L_person at hf
  refine lv_aload_n hx hb dL_person_0 rfl (lv_at hl 3 rfl) ?_
  refine lv_iconst (v := 0) hx hb dL_person_1 (by decide) ?_
  refine lv_aload_n hx hb dL_person_2 rfl (lv_at hl 0 rfl) ?_
  refine lv_iload_n hx hb dL_person_3 rfl (lv_at hl 1 rfl) ?_
  refine lv_iload_n hx hb dL_person_4 rfl (lv_at hl 2 rfl) ?_
  obtain ⟨x, hx1, hf⟩ := q_bd_go hf
  refine q_lcR (vx_runV (As := [.int p1, .int p2]) (rest := [.int 0, .ref k0]) ⟨hx, hb, hml, hown, hts⟩ (c_X2_person l hlt D cI cJ cS sa A S p1 p2 _ hx1) (cwV 2 hts gL_person_X2_person rfl rfl rfl (by decide +kernel) ⟨(Nat.le_of_ble_eq_true rfl), (Nat.le_of_ble_eq_true rfl)⟩) ⟨q_blindX, va_recv hE.1 (qp_CR hPc) (ci := 2) (q0 := 0) rfl rfl, fun U hU hW => ⟨rfl, by rw [hU]; exact qp_CR hPc, q_E.warm hW hE, q_ES.warm hW hES, by rw [hU]; exact q_EZ.moved hW.alike (hZ.narrow hAr)⟩⟩ rfl rfl hl.1 rfl (lv_room (Nat.le_of_ble_eq_true rfl)) dL_person_5 ⟨(Nat.le_of_ble_eq_true rfl), (Nat.le_of_ble_eq_true rfl)⟩) (fun E ce q H1 eE hce hcv hcl hz hk => ?_) (fun r er => ?_)
  · rw [eE] at hf
    have hS1 : va_S (va_A (wLW cI cJ cS A g B k0 S O) s.heap.size) s.heap H1 [] := ⟨hz, fun q h1 _ => hk q h1, (fun z h => nomatch h)⟩
    have hP1 : va_P D vwCl (wLW cI cJ cS A g B k0 S O) H1 := hP.kept (fun k q h => hk q.1 (vx_lt hP h))
    by_cases cE : E = "java/lang/IndexOutOfBoundsException"
    · subst cE
      have hf : some ((1 : Int32), S, O) = some o := hf
      refine vx_catch (name := "java/lang/IndexOutOfBoundsException") hown [] ⟨0, 10, 13, 25⟩ [⟨0, 10, 17, 13⟩] htab (fun z hz => nomatch hz) (by decide) (by decide) (hts (.classLink RL 25 "java/lang/IndexOutOfBoundsException") (List.mem_of_getElem? (i := 1) rfl)) (va_Nw.use rfl hES.2.1) hce hcv hcl ?_
      refine lv_astore (lv' := [(4, .ref q), (0, .ref (A 3 0)), (1, .int p1), (2, .int p2), (3, .ref k0)]) hx hb dL_person_13 hl (by decide) rfl (fun ls hl => ?_)
      refine lv_iconst (v := 1) hx hb dL_person_15 (by decide) ?_
      have ho := q_some hf
      subst ho
      refine vx_ret ?_
      exact W.iret hx hb hr (fun t ht hW => ⟨rfl, ⟨_, ⟨g, B, hg, rfl⟩, by rw [ht]; exact hP1, hD⟩, hS1.F ht⟩) hS1.2.2 dL_person_16
    by_cases cE : E = "java/lang/IllegalArgumentException"
    · subst cE
      have hf : some ((2 : Int32), S, O) = some o := hf
      refine vx_catch (name := "java/lang/IllegalArgumentException") hown [⟨0, 10, 13, 25⟩] ⟨0, 10, 17, 13⟩ [] htab (by intro z hz; simp only [List.mem_cons, List.not_mem_nil, or_false] at hz; rcases hz with rfl; exact Or.inr ⟨by decide, _, (hts (.classLink RL 25 "java/lang/IndexOutOfBoundsException") (List.mem_of_getElem? (i := 1) rfl)), hN.2.2⟩) (by decide) (by decide) (hts (.classLink RL 13 "java/lang/IllegalArgumentException") (List.mem_of_getElem? (i := 2) rfl)) (va_Nw.use rfl hES.2.2.1) hce hcv hcl ?_
      refine lv_astore (lv' := [(4, .ref q), (0, .ref (A 3 0)), (1, .int p1), (2, .int p2), (3, .ref k0)]) hx hb dL_person_17 hl (by decide) rfl (fun ls hl => ?_)
      refine lv_iconst (v := 2) hx hb dL_person_19 (by decide) ?_
      have ho := q_some hf
      subst ho
      refine vx_ret ?_
      exact W.iret hx hb hr (fun t ht hW => ⟨rfl, ⟨_, ⟨g, B, hg, rfl⟩, by rw [ht]; exact hP1, hD⟩, hS1.F ht⟩) hS1.2.2 dL_person_20
    have hn : q_outR (.inl E) O (fun E => if E = "java/lang/IndexOutOfBoundsException" then some 1 else if E = "java/lang/IllegalArgumentException" then some 2 else none) S = none := by simp [q_outR, *]
    rw [hn] at hf
    cases hf
  · rw [er] at hf
    have hS : va_S (va_A (wLW cI cJ cS A g B k0 S O) s.heap.size) s.heap s.heap [] := va_S.rf
    refine lv_i2l (v := ((r : Int32).toInt64)) hx hb dL_person_8 rfl ?_
    refine va_last hx hb hE.1 hP hD hS 0 1 rfl rfl (by unfold vp_in; decide) dL_person_9 (fun H locs hP hD hS => ?_)
    have hP : va_P D vwCl (wLW cI cJ cS A g B k0 S (vp_updL O (0 : Int32).toNatClampNeg ((r : Int32).toInt64))) H := hP
    have hD : va_D (va_A (wLW cI cJ cS A g B k0 S O) s.heap.size) (wLW cI cJ cS A g B k0 S (vp_updL O (0 : Int32).toNatClampNeg ((r : Int32).toInt64))) := hD
    refine lv_goto (tgt := 21) hx hb dL_person_10 (by decide) ?_
    refine lv_iconst (v := 0) hx hb dL_person_21 (by decide) ?_
    have ho := q_some hf
    subst ho
    refine vx_ret ?_
    exact W.iret hx hb hr (fun t ht hW => ⟨rfl, ⟨_, ⟨g, B, hg, rfl⟩, by rw [ht]; exact hP, hD⟩, hS.F ht⟩) hS.2.2 dL_person_22
