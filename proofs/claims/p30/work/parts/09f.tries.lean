def q_tr (x : String ⊕ (Int32 × CM)) (S : CM) : Option (Int32 × CM) := match x with
  | .inl E => if E = "java/lang/IndexOutOfBoundsException" then some ((-1000000000), S) else if E = "java/lang/IllegalArgumentException" then some ((-1000000000), S) else if E = "java/lang/IllegalStateException" then some ((-1000000000), S) else none
  | .inr r => some r
def f_L_tries (S : CM) (p1 : Int32) (p2 : Int32) (p3 : Int32) : Option (Int32 × CM) := (f_L_turn S p1 p2 p3).bind fun x => q_tr x S
abbrev rL_tries : Room := { frames := 10, cells := 4, slots := 24, locals := 182 }
section QZ
variable {p : Program} {l : Launch} {e : Env} {R : Room} {s : State} {m : MethodId} {args : Array Value} {below : List Frame} {meth : Method} {c : Code} {Q : State → Prop}
variable {pc : Nat} {ls : Array Slot} {rest st0 : List Value} {a : Array Value} {mc ms : Nat} {D : va_G} {cI cJ cS : ClassId} {A : Nat → Nat → Nat} {g : Nat → Option Nat} {B : Nat → Nat → Nat} {S : CM}
theorem q_trW {ρ : Type} {V : ρ → Option Value} {x : String ⊕ (ρ × CM)} (hP : va_P D vwCl (wCM cI cJ cS A g B S) s.heap) (hD : va_D (va_A (wCM cI cJ cS A g B S) s.heap.size) (wCM cI cJ cS A g B S)) (hr : vx_Run p l e R s m args below meth c s.heap [] 0 0 mc ms (F0 m pc ls st0) rest (q_XW V x D cI cJ cS A (wCM cI cJ cS A g B S) s.heap.size a) (q_XC x) (va_A (wCM cI cJ cS A g B S) s.heap.size))
    (kx : ∀ (E : String) (ce : Cell) (q : Addr) (H1 : Heap) (locs1 : List Loc), x = .inl E → H1[q]? = some ce → ce.vm = .none → s.vm.findClass E = some ce.cls → s.heap.size ≤ H1.size → (∀ q : Nat, q < s.heap.size → H1[q]? = s.heap[q]?) → (∀ z ∈ locs1, (va_A (wCM cI cJ cS A g B S) s.heap.size) z.base) → vx_W p l e R s m args below meth c H1 locs1 (0 + mc) (0 + ms) Q (F0 m pc ls rest) q)
    (kk : ∀ (r : ρ × CM) (g' : Nat → Option Nat) (B' : Nat → Nat → Nat) (H1 : Heap) (locs1 : List Loc), x = .inr r → (∀ i, i < 4 → g' i = some (B' i 0)) → va_P D vwCl (wCM cI cJ cS A g' B' r.2) H1 → va_D (va_A (wCM cI cJ cS A g B S) s.heap.size) (wCM cI cJ cS A g' B' r.2) → va_S (va_A (wCM cI cJ cS A g B S) s.heap.size) s.heap H1 locs1 → W p l e R s m args below meth c H1 locs1 (0 + mc) (0 + ms) Q (F0 m (pc + 3) ls ((V r.1).toList ++ rest))) : W p l e R s m args below meth c s.heap [] 0 0 Q (F0 m pc ls st0) := by
  intro T hT X
  rcases hr T hT X with ⟨v, st₀, t, T', L, h0, X', hL, e1, e2, ⟨r, hx1, hv, ⟨w', ⟨g', B', hg', rfl⟩, hp, hd⟩, hz, hk⟩, st⟩ | ⟨q, st₀, t, T', L, E, ce, h0, X', hL, e1, e2, ⟨hx1, hX⟩, hce, hcv, hcl, st⟩
  · cases hv
    rw [h0] at hz hk
    obtain ⟨t2, a1, b1⟩ := kk r g' B' T'.heap ([] ++ L) hx1 hg' (by rw [e1]; exact hp) hd ⟨by rw [e1]; exact hz, fun q a1 a2 => by rw [e1]; exact hk q a1 a2, fun z hz => hL z hz⟩ T' rfl X'
    exact ⟨t2, st t2 a1, b1⟩
  · obtain ⟨t2, a1, b1⟩ := kx E ce q T'.heap ([] ++ L) hx1 (by rw [e1]; exact hce) hcv hcl (by rw [e1, ← h0]; exact hX.1) (fun q hq => by rw [e1, ← h0]; exact hX.2 q (by rw [h0]; exact hq) (by rw [h0]; exact Nat.not_le.mpr hq)) (fun z hz => hL z hz) T' rfl X'
    exact ⟨t2, st.trans a1, b1⟩
end QZ
set_option maxRecDepth 100000 in
set_option maxHeartbeats 4000000 in
theorem c_L_tries (l : Launch) (hlt : l.stackTraces = false) (D : va_G) (cI cJ cS : ClassId) (sa : Nat → Nat) (A : Nat → Nat → Nat) (g : Nat → Option Nat) (B : Nat → Nat → Nat) (hg : ∀ i, i < 4 → g i = some (B i 0)) (S : CM) (sz : Nat) (p1 p2 p3 : Int32) (o : Int32 × CM) (hf : f_L_tries S p1 p2 p3 = some o) : vx_Met l yL_tries wsL_tries rL_tries (va_Pc [.ref (A 3 0), .int p1, .int p2, .int p3] (q_BL D cI cJ cS sa (wCM cI cJ cS A g B S) sz)) (q_WE (some (.int o.1)) D cI cJ cS A o.2 (wCM cI cJ cS A g B S) sz) q_LX 4 24 (va_A (wCM cI cJ cS A g B S) sz) := by
  refine vx_ofWH (cc := cL_tries) (maxL := 5) (ret := some .int) (hh := [(0, 7, 8, 93), (0, 7, 13, 96), (0, 7, 18, 98)]) (by decide) rfl ?_
  intro p e s m args below meth c s₁ B9 hml hv
  obtain ⟨rfl, ⟨hsz, hP, hE, hD0, hES, hZ⟩, hN⟩ := hv
  have hx := B9.exec
  have hb := B9.bytes
  have hr := B9.returns
  have hts := atoms_spec (ws := wsL_tries) B9.pre
  have hown : s.vm.findClass RL = some m.cls := findClass_of_methodNamed B9.named
  have hlocks := B9.notSynchronized
  have htab : c.exceptionTable.toList = [⟨0, 7, 8, 93⟩, ⟨0, 7, 13, 96⟩, ⟨0, 7, 18, 98⟩] := vx_table (x := yL_tries) B9 (hts _ List.mem_cons_self)
  subst hsz
  have hD := hD0.self (sz := s.heap.size)
  have hl := lv_entry ([.ref (A 3 0), .int p1, .int p2, .int p3]) (n := 5) (Nat.le_of_ble_eq_true rfl)
  rw [lg_entry_eq]
  generalize (lg_sl ([.ref (A 3 0), .int p1, .int p2, .int p3]) ++ List.replicate (5 - (lg_sl ([.ref (A 3 0), .int p1, .int p2, .int p3])).length) Slot.unset).toArray = ls at hl ⊢
  have hl : lv_has ls 5 [(0, .ref (A 3 0)), (1, .int p1), (2, .int p2), (3, .int p3)] := hl
  unfold f_L_tries at hf
  refine lv_aload_n hx hb dL_tries_0 rfl (lv_at hl 0 rfl) ?_
  refine lv_iload_n hx hb dL_tries_1 rfl (lv_at hl 1 rfl) ?_
  refine lv_iload_n hx hb dL_tries_2 rfl (lv_at hl 2 rfl) ?_
  refine lv_iload_n hx hb dL_tries_3 rfl (lv_at hl 3 rfl) ?_
  obtain ⟨x, hx1, hf⟩ := q_bd_go hf
  refine q_trW hP hD (vx_runS (As := [.ref (A 3 0), .int p1, .int p2, .int p3]) (rest := []) ⟨hx, hb, hml, hown, hts⟩ (c_L_turn l hlt D cI cJ cS sa A g B hg S _ p1 p2 p3 _ hx1) (va_cwS 4 hts gL_tries_L_turn rfl rfl rfl (by decide +kernel) ⟨(Nat.le_of_ble_eq_true rfl), (Nat.le_of_ble_eq_true rfl)⟩) ⟨q_blindWX, fun U hU hW => ⟨rfl, by rw [hU], by rw [hU]; exact hP, q_E.warm hW hE, hD.weaken (fun _ _ _ _ => trivial), q_ES.warm hW hES, by rw [hU]; exact q_EZ.moved hW.alike hZ⟩⟩ rfl rfl hl.1 rfl (lv_room (Nat.le_of_ble_eq_true rfl)) dL_tries_4 ⟨(Nat.le_of_ble_eq_true rfl), (Nat.le_of_ble_eq_true rfl)⟩) (fun E ce q H1 locs1 eE hce hcv hcl hz hk hlo => ?_) (fun r g2 B2 H locs er hg2 hP hD hS => ?_)
  · rw [eE] at hf
    have hS1 : va_S (va_A (wCM cI cJ cS A g B S) s.heap.size) s.heap H1 locs1 := ⟨hz, fun q h1 _ => hk q h1, hlo⟩
    have hP1 : va_P D vwCl (wCM cI cJ cS A g B S) H1 := hP.kept (fun k q h => hk q.1 (vx_lt hP h))
    by_cases cE : E = "java/lang/IndexOutOfBoundsException"
    · subst cE
      have hf : some (((-1000000000) : Int32), S) = some o := hf
      refine vx_catch (name := "java/lang/IndexOutOfBoundsException") hown [] ⟨0, 7, 8, 93⟩ [⟨0, 7, 13, 96⟩, ⟨0, 7, 18, 98⟩] htab (fun z hz => nomatch hz) (by decide) (by decide) (hts (.classLink RL 93 "java/lang/IndexOutOfBoundsException") (List.mem_of_getElem? (i := 1) rfl)) (va_Nw.use rfl hES.2.1) hce hcv hcl ?_
      refine lv_astore (lv' := [(4, .ref q), (0, .ref (A 3 0)), (1, .int p1), (2, .int p2), (3, .int p3)]) hx hb dL_tries_8 hl (by decide) rfl (fun ls hl => ?_)
      refine lv_ldc (v := (-1000000000)) hx hb hown (hts (.constant RL 95 (-1000000000)) (List.mem_of_getElem? (i := 4) rfl)) dL_tries_10 ?_
      have ho := q_some hf
      subst ho
      refine vx_ret ?_
      exact W.iret hx hb hr (fun t ht hW => ⟨rfl, ⟨_, ⟨g, B, hg, rfl⟩, by rw [ht]; exact hP1, hD⟩, hS1.F ht⟩) hS1.2.2 dL_tries_12
    by_cases cE : E = "java/lang/IllegalArgumentException"
    · subst cE
      have hf : some (((-1000000000) : Int32), S) = some o := hf
      refine vx_catch (name := "java/lang/IllegalArgumentException") hown [⟨0, 7, 8, 93⟩] ⟨0, 7, 13, 96⟩ [⟨0, 7, 18, 98⟩] htab (by intro z hz; simp only [List.mem_cons, List.not_mem_nil, or_false] at hz; rcases hz with rfl; exact Or.inr ⟨by decide, _, (hts (.classLink RL 93 "java/lang/IndexOutOfBoundsException") (List.mem_of_getElem? (i := 1) rfl)), hN.2.2⟩) (by decide) (by decide) (hts (.classLink RL 96 "java/lang/IllegalArgumentException") (List.mem_of_getElem? (i := 2) rfl)) (va_Nw.use rfl hES.2.2.1) hce hcv hcl ?_
      refine lv_astore (lv' := [(4, .ref q), (0, .ref (A 3 0)), (1, .int p1), (2, .int p2), (3, .int p3)]) hx hb dL_tries_13 hl (by decide) rfl (fun ls hl => ?_)
      refine lv_ldc (v := (-1000000000)) hx hb hown (hts (.constant RL 95 (-1000000000)) (List.mem_of_getElem? (i := 4) rfl)) dL_tries_15 ?_
      have ho := q_some hf
      subst ho
      refine vx_ret ?_
      exact W.iret hx hb hr (fun t ht hW => ⟨rfl, ⟨_, ⟨g, B, hg, rfl⟩, by rw [ht]; exact hP1, hD⟩, hS1.F ht⟩) hS1.2.2 dL_tries_17
    by_cases cE : E = "java/lang/IllegalStateException"
    · subst cE
      have hf : some (((-1000000000) : Int32), S) = some o := hf
      refine vx_catch (name := "java/lang/IllegalStateException") hown [⟨0, 7, 8, 93⟩, ⟨0, 7, 13, 96⟩] ⟨0, 7, 18, 98⟩ [] htab (by intro z hz; simp only [List.mem_cons, List.not_mem_nil, or_false] at hz; rcases hz with rfl | rfl; exact Or.inr ⟨by decide, _, (hts (.classLink RL 93 "java/lang/IndexOutOfBoundsException") (List.mem_of_getElem? (i := 1) rfl)), hN.1⟩; exact Or.inr ⟨by decide, _, (hts (.classLink RL 96 "java/lang/IllegalArgumentException") (List.mem_of_getElem? (i := 2) rfl)), hN.2.1⟩) (by decide) (by decide) (hts (.classLink RL 98 "java/lang/IllegalStateException") (List.mem_of_getElem? (i := 3) rfl)) (va_Nw.use rfl hES.2.2.2.1) hce hcv hcl ?_
      refine lv_astore (lv' := [(4, .ref q), (0, .ref (A 3 0)), (1, .int p1), (2, .int p2), (3, .int p3)]) hx hb dL_tries_18 hl (by decide) rfl (fun ls hl => ?_)
      refine lv_ldc (v := (-1000000000)) hx hb hown (hts (.constant RL 95 (-1000000000)) (List.mem_of_getElem? (i := 4) rfl)) dL_tries_20 ?_
      have ho := q_some hf
      subst ho
      refine vx_ret ?_
      exact W.iret hx hb hr (fun t ht hW => ⟨rfl, ⟨_, ⟨g, B, hg, rfl⟩, by rw [ht]; exact hP1, hD⟩, hS1.F ht⟩) hS1.2.2 dL_tries_22
    have hn : q_tr (.inl E) S = none := by simp [q_tr, *]
    rw [hn] at hf
    cases hf
  · rw [er] at hf
    have ho := q_some hf
    subst ho
    refine vx_ret ?_
    exact W.iret hx hb hr (fun t ht hW => ⟨rfl, ⟨_, ⟨g2, B2, hg2, rfl⟩, by rw [ht]; exact hP, hD⟩, hS.F ht⟩) hS.2.2 dL_tries_7
def f_L_isUndone (S : CM) (p1 : Int32) (p2 : Int32) (p3 : Int32) (p4 : Int32) (p5 : Int64) : Option (Int32 × CM) := (f_L_view S).bind fun r1 =>
 (f_X2_undo S).bind fun r2 =>
 q_okr r2 fun z5 =>
 (f_L_view z5.2).bind fun r6 =>
 if ¬ (lg_cmp r6 p5) = 0 then
 (some (0, z5.2))
 else ((f_L_tries z5.2 p1 p2 p3).bind fun r8 =>
 if ¬ r8.1 = p4 then
 (some (0, r8.2))
 else ((f_L_view r8.2).bind fun r13 =>
 if ¬ (lg_cmp r13 r1) = 0 then
 (some (0, r8.2))
 else (some (1, r8.2))))
abbrev rL_isUndone : Room := { frames := 11, cells := 5, slots := 30, locals := 206 }
set_option maxRecDepth 100000 in
set_option maxHeartbeats 4000000 in
theorem c_L_isUndone (l : Launch) (hlt : l.stackTraces = false) (D : va_G) (cI cJ cS : ClassId) (sa : Nat → Nat) (A : Nat → Nat → Nat) (g : Nat → Option Nat) (B : Nat → Nat → Nat) (hg : ∀ i, i < 4 → g i = some (B i 0)) (S : CM) (sz : Nat) (p1 : Int32) (p2 : Int32) (p3 : Int32) (p4 : Int32) (p5 : Int64) (o : (Int32 × CM)) (hf : f_L_isUndone S p1 p2 p3 p4 p5 = some o) : Met l yL_isUndone wsL_isUndone rL_isUndone (va_Pc [.ref (A 3 0), .int p1, .int p2, .int p3, .int p4, .long p5] (q_BL D cI cJ cS sa (wCM cI cJ cS A g B S) sz)) (q_WE (some (.int o.1)) D cI cJ cS A o.2 (wCM cI cJ cS A g B S) sz) 5 30 (va_A (wCM cI cJ cS A g B S) sz) := by
  refine Met.ofW (cc := cL_isUndone) (maxL := 9) (ret := some .boolean) (by decide) rfl ?_
  intro p e s m args below meth c s₁ B9 hml hv
  obtain ⟨rfl, ⟨hsz, hP, hE, hD0, hES, hZ⟩, hN⟩ := hv
  have hx := B9.exec
  have hb := B9.bytes
  have hr := B9.returns
  have hts := atoms_spec (ws := wsL_isUndone) B9.pre
  have hown : s.vm.findClass RL = some m.cls := findClass_of_methodNamed B9.named
  have hlocks := B9.notSynchronized
  have hu1 : ∀ z ∈ wsX10, z.before _ s = true := fun z h => hts z (List.mem_cons_of_mem _ (List.mem_append_left _ (List.mem_append_left _ (List.mem_append_left _ (List.mem_append_right _ h)))))
  have hu2 : ∀ z ∈ wsX20, z.before _ s = true := fun z h => hts z (List.mem_cons_of_mem _ (List.mem_append_left _ (List.mem_append_left _ (List.mem_append_left _ (List.mem_append_left _ (List.mem_append_right _ h))))))
  subst hsz
  have hD := hD0.self (sz := s.heap.size)
  have hS : va_S (va_A (wCM cI cJ cS A g B S) s.heap.size) s.heap s.heap [] := va_S.rf
  have hl := lv_entry ([.ref (A 3 0), .int p1, .int p2, .int p3, .int p4, .long p5]) (n := 9) (Nat.le_of_ble_eq_true rfl)
  rw [lg_entry_eq]
  generalize (lg_sl ([.ref (A 3 0), .int p1, .int p2, .int p3, .int p4, .long p5]) ++ List.replicate (9 - (lg_sl ([.ref (A 3 0), .int p1, .int p2, .int p3, .int p4, .long p5])).length) Slot.unset).toArray = ls at hl ⊢
  have hl : lv_has ls 9 [(0, .ref (A 3 0)), (1, .int p1), (2, .int p2), (3, .int p3), (4, .int p4), (5, .long p5)] := hl
  unfold f_L_isUndone at hf
  refine lv_aload_n hx hb dL_isUndone_0 rfl (lv_at hl 0 rfl) ?_
  obtain ⟨r1, hr1, hf⟩ := q_bd_go hf
  refine q_rdWl (w := wCR cI cJ A S) (As := [.ref (A 3 0)]) (rest := []) hx hb hml hown hts (c_L_view l D cI cJ cS A S _ hr1) (va_cwS 1 hts gL_isUndone_L_view rfl rfl rfl (by decide +kernel) ⟨(Nat.le_of_ble_eq_true rfl), (Nat.le_of_ble_eq_true rfl)⟩) hE (qp_CR hP) rfl hl.1 rfl (Nat.le_of_ble_eq_true rfl) dL_isUndone_1 ⟨(Nat.le_of_ble_eq_true rfl), (Nat.le_of_ble_eq_true rfl)⟩ ?_
  refine lv_lstore (lv' := [(7, .long r1), (0, .ref (A 3 0)), (1, .int p1), (2, .int p2), (3, .int p3), (4, .int p4), (5, .long p5)]) hx hb dL_isUndone_4 hl (by decide) rfl (fun ls hl => ?_)
  refine lv_aload_n hx hb dL_isUndone_6 rfl (lv_at hl 1 rfl) ?_
  obtain ⟨r2, hr2, hf⟩ := q_bd_go hf
  obtain ⟨z5, ez5, hf⟩ := q_okr_go hf
  refine q_okV (ci := 2) (As := []) (rest := []) hx hb hml hown hts (c_X2_undo l hlt D cI cJ cS sa A g B hg S _ _ hr2) (cwV 0 hts gL_isUndone_X2_undo rfl rfl rfl (by decide +kernel) ⟨(Nat.le_of_ble_eq_true rfl), (Nat.le_of_ble_eq_true rfl)⟩) ez5 hE hES hZ hP hD hS (fun q h => Or.inr h) rfl rfl rfl hl.1 rfl (Nat.le_of_ble_eq_true rfl) dL_isUndone_7 ⟨(Nat.le_of_ble_eq_true rfl), (Nat.le_of_ble_eq_true rfl)⟩ (fun g3 B4 H locs hg hP hD hS => ?_)
  refine lv_pop hx hb dL_isUndone_10 rfl ?_
  refine lv_aload_n hx hb dL_isUndone_11 rfl (lv_at hl 1 rfl) ?_
  obtain ⟨r6, hr6, hf⟩ := q_bd_go hf
  refine q_rdWl (w := wCR cI cJ A z5.2) (As := [.ref (A 3 0)]) (rest := []) hx hb hml hown hts (c_L_view l D cI cJ cS A z5.2 _ hr6) (va_cwS 1 hts gL_isUndone_L_view rfl rfl rfl (by decide +kernel) ⟨(Nat.le_of_ble_eq_true rfl), (Nat.le_of_ble_eq_true rfl)⟩) hE (qp_CR hP) rfl hl.1 rfl (Nat.le_of_ble_eq_true rfl) dL_isUndone_12 ⟨(Nat.le_of_ble_eq_true rfl), (Nat.le_of_ble_eq_true rfl)⟩ ?_
  refine lv_lload hx hb dL_isUndone_15 (lv_at hl 6 rfl) ?_
  refine W.lcmp hx hb dL_isUndone_17 ?_
  refine lv_if_ne (tgt := 47) hx hb dL_isUndone_18 (by decide) (fun c7 => ?_) (fun c7 => ?_)
  · have hf := q_ite_t c7 hf
    refine lv_iconst (v := 0) hx hb dL_isUndone_47 (by decide) ?_
    have ho := q_some hf
    subst ho
    refine W.widen (k := 5) (n := 30) (Nat.le_of_ble_eq_true rfl) (Nat.le_of_ble_eq_true rfl) ?_
    exact W.zret hx hb hr rfl (fun t ht hW => ⟨rfl, ⟨_, ⟨g3, B4, hg, rfl⟩, by rw [ht]; exact hP, hD⟩, hS.F ht⟩) hS.2.2 dL_isUndone_48
  · have hf := q_ite_n c7 hf
    refine lv_aload_n hx hb dL_isUndone_21 rfl (lv_at hl 1 rfl) ?_
    refine lv_iload_n hx hb dL_isUndone_22 rfl (lv_at hl 2 rfl) ?_
    refine lv_iload_n hx hb dL_isUndone_23 rfl (lv_at hl 3 rfl) ?_
    refine lv_iload_n hx hb dL_isUndone_24 rfl (lv_at hl 4 rfl) ?_
    obtain ⟨r8, hr8, hf⟩ := q_bd_go hf
    refine q_wrT (As := [.ref (A 3 0), .int p1, .int p2, .int p3]) (rest := []) hx hb hml hown hts (c_L_tries l hlt D cI cJ cS sa A g3 B4 hg z5.2 _ p1 p2 p3 _ hr8) (vx_cwSW 4 hts gL_isUndone_L_tries rfl rfl rfl (by decide +kernel) ⟨(Nat.le_of_ble_eq_true rfl), (Nat.le_of_ble_eq_true rfl)⟩) hE hES hN hZ hP hD hS (fun q h => Or.inr h) rfl hl.1 rfl (Nat.le_of_ble_eq_true rfl) dL_isUndone_25 ⟨(Nat.le_of_ble_eq_true rfl), (Nat.le_of_ble_eq_true rfl)⟩ (fun g9 B10 H locs hg hP hD hS => ?_)
    refine lv_iload hx hb dL_isUndone_28 (lv_at hl 5 rfl) ?_
    refine lv_icmp_ne (tgt := 47) hx hb dL_isUndone_30 (by decide) (fun c12 => ?_) (fun c12 => ?_)
    · have hf := q_ite_t c12 hf
      refine lv_iconst (v := 0) hx hb dL_isUndone_47 (by decide) ?_
      have ho := q_some hf
      subst ho
      refine W.widen (k := 5) (n := 30) (Nat.le_of_ble_eq_true rfl) (Nat.le_of_ble_eq_true rfl) ?_
      exact W.zret hx hb hr rfl (fun t ht hW => ⟨rfl, ⟨_, ⟨g9, B10, hg, rfl⟩, by rw [ht]; exact hP, hD⟩, hS.F ht⟩) hS.2.2 dL_isUndone_48
    · have hf := q_ite_n c12 hf
      refine lv_aload_n hx hb dL_isUndone_33 rfl (lv_at hl 1 rfl) ?_
      obtain ⟨r13, hr13, hf⟩ := q_bd_go hf
      refine q_rdWl (w := wCR cI cJ A r8.2) (As := [.ref (A 3 0)]) (rest := []) hx hb hml hown hts (c_L_view l D cI cJ cS A r8.2 _ hr13) (va_cwS 1 hts gL_isUndone_L_view rfl rfl rfl (by decide +kernel) ⟨(Nat.le_of_ble_eq_true rfl), (Nat.le_of_ble_eq_true rfl)⟩) hE (qp_CR hP) rfl hl.1 rfl (Nat.le_of_ble_eq_true rfl) dL_isUndone_34 ⟨(Nat.le_of_ble_eq_true rfl), (Nat.le_of_ble_eq_true rfl)⟩ ?_
      refine lv_lload hx hb dL_isUndone_37 (lv_at hl 0 rfl) ?_
      refine W.lcmp hx hb dL_isUndone_39 ?_
      refine lv_if_ne (tgt := 47) hx hb dL_isUndone_40 (by decide) (fun c14 => ?_) (fun c14 => ?_)
      · have hf := q_ite_t c14 hf
        refine lv_iconst (v := 0) hx hb dL_isUndone_47 (by decide) ?_
        have ho := q_some hf
        subst ho
        refine W.widen (k := 5) (n := 30) (Nat.le_of_ble_eq_true rfl) (Nat.le_of_ble_eq_true rfl) ?_
        exact W.zret hx hb hr rfl (fun t ht hW => ⟨rfl, ⟨_, ⟨g9, B10, hg, rfl⟩, by rw [ht]; exact hP, hD⟩, hS.F ht⟩) hS.2.2 dL_isUndone_48
      · have hf := q_ite_n c14 hf
        refine lv_iconst (v := 1) hx hb dL_isUndone_43 (by decide) ?_
        refine lv_goto (tgt := 48) hx hb dL_isUndone_44 (by decide) ?_
        have ho := q_some hf
        subst ho
        refine W.widen (k := 5) (n := 30) (Nat.le_of_ble_eq_true rfl) (Nat.le_of_ble_eq_true rfl) ?_
        exact W.zret hx hb hr rfl (fun t ht hW => ⟨rfl, ⟨_, ⟨g9, B10, hg, rfl⟩, by rw [ht]; exact hP, hD⟩, hS.F ht⟩) hS.2.2 dL_isUndone_48
def f_L_cell (L : Nat) (xs : Nat → Int32) (k : Nat) : Int32 := if k < L then xs k else 763049417 * (nI k + 3)
abbrev rL_cell : Room := { frames := 0, cells := 0, slots := 0, locals := 0 }
def q_BS (b L : Nat) (xs : Nat → Int32) (U : State) : Prop := va_X b L xs U U.heap ∧ b < U.heap.size
theorem q_blindS {b L : Nat} {xs : Nat → Int32} {av : List Value} : FrameBlind (va_Pc av (q_BS b L xs)) := fun a U g mk q => ⟨q.1, va_X.moved (u := U) (U := U.calling g mk a) (Vm.Alike.refl _) q.2.1, q.2.2⟩
set_option maxRecDepth 100000 in
set_option maxHeartbeats 4000000 in
theorem c_L_cell (l : Launch) (b L : Nat) (xs : Nat → Int32) (hL : L ≤ 260) (k : Nat) (hk : k < 1000) : Met l yL_cell wsL_cell rL_cell (va_Pc [.ref b, .int (nI k)] (q_BS b L xs)) (q_Ri (f_L_cell L xs k)) 0 0 (fun _ => False) := by
  refine Met.ofW (cc := cL_cell) (maxL := 2) (ret := some .int) (by decide) rfl ?_
  intro p e s m args below meth c s₁ B9 hml hv
  obtain ⟨rfl, hX, hbl⟩ := hv
  have hx := B9.exec
  have hb := B9.bytes
  have hr := B9.returns
  have hts := atoms_spec (ws := wsL_cell) B9.pre
  have hown : s.vm.findClass RL = some m.cls := findClass_of_methodNamed B9.named
  have hlocks := B9.notSynchronized
  have hbA : ¬ (fun q : Nat => s.heap.size ≤ q) b := Nat.not_le.mpr hbl
  have hS : va_S (fun q : Nat => s.heap.size ≤ q) s.heap s.heap [] := va_S.rf
  have hl := lv_entry ([.ref b, .int (nI k)]) (n := 2) (Nat.le_of_ble_eq_true rfl)
  rw [lg_entry_eq]
  generalize (lg_sl ([.ref b, .int (nI k)]) ++ List.replicate (2 - (lg_sl ([.ref b, .int (nI k)])).length) Slot.unset).toArray = ls at hl ⊢
  have hl : lv_has ls 2 [(0, .ref b), (1, .int (nI k))] := hl
  have e1 : (nI k).toInt = k := Int32.toInt_ofNat_of_lt (by omega)
  have e2 : (Int32.ofNat L).toInt = L := Int32.toInt_ofNat_of_lt (by omega)
  refine lv_iload_n hx hb dL_cell_0 rfl (lv_at hl 1 rfl) ?_
  refine lv_aload_n hx hb dL_cell_1 rfl (lv_at hl 0 rfl) ?_
  refine va_slen hx hb hX hbl hbA hS dL_cell_2 ?_
  refine lv_icmp_ge (tgt := 12) hx hb dL_cell_3 (by decide) (fun hc => ?_) (fun hc => ?_)
  · have hk2 : ¬ k < L := by
      rw [Int32.le_iff_toInt_le, e1, e2] at hc
      omega
    refine lv_ldc (v := 763049417) hx hb hown (hts (.constant RL 7 (763049417)) (List.mem_of_getElem? (i := 1) rfl)) dL_cell_12 ?_
    refine lv_iload_n hx hb dL_cell_14 rfl (lv_at hl 1 rfl) ?_
    refine lv_iconst (v := 3) hx hb dL_cell_15 (by decide) ?_
    refine lv_iadd hx hb dL_cell_16 ?_
    refine lv_imul hx hb dL_cell_17 ?_
    exact W.iret hx hb hr (fun t ht hW => ⟨by unfold f_L_cell; rw [if_neg hk2], ht⟩) t_nil dL_cell_18
  · have hk2 : k < L := by
      rw [Int32.le_iff_toInt_le, e1, e2] at hc
      omega
    refine lv_aload_n hx hb dL_cell_6 rfl (lv_at hl 0 rfl) ?_
    refine lv_iload_n hx hb dL_cell_7 rfl (lv_at hl 1 rfl) ?_
    refine va_sld hx hb hX hbl hbA hS (vp_in_nI hk2 (by omega)) dL_cell_8 ?_
    refine lv_goto (tgt := 18) hx hb dL_cell_9 (by decide) ?_
    exact W.iret hx hb hr (fun t ht hW => ⟨by unfold f_L_cell; rw [if_pos hk2, nI_clamp (by omega)], ht⟩) t_nil dL_cell_18
