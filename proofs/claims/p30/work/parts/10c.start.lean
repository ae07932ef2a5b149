theorem q_Xof {args : Array Value} {s : State} {tm : Term} {N : Nat} {xs : Nat → Int32} (hN : N < 2 ^ 31) (harr : (Cond.arrayOf tm .int).before args s = true) (hlen : (Term.length tm).eval args s none [] s = some (.int (Int32.ofNat N))) (hel : ∀ j : Nat, j < N → (Term.elem tm (.int (Int32.ofNat j))).eval args s none [] s = some (.int (xs j))) : ∃ t : Nat, tm.eval args s none [] s = some (.ref t) ∧ va_X t N xs s s.heap ∧ t < s.heap.size := by
  obtain ⟨t, h1, cell, h2, h3, h4, h5, h6, h7, h8⟩ := va_Tof (f := fun j => .int (xs j)) (A := fun _ => False) hN harr hlen hel (fun _ _ z => z)
  obtain ⟨t', cell', g1, g2, g3⟩ := Term.length_spec hlen
  cases h1.symm.trans g1
  obtain ⟨g4, -⟩ := State.arrayAt?_spec g2
  cases h2.symm.trans g4
  have hlt : cell.slots.size < 2 ^ 31 := by
    apply Classical.byContradiction
    intro z
    simp [Term.eval, h1, g2] at hlen
    exact z (by omega)
  have hsz : cell.slots.size = N := by
    have e := congrArg Int32.toNatClampNeg h6
    rw [Int32.toNatClampNeg_ofNat_of_lt hN] at e
    rw [← e]
    exact (Int32.toNatClampNeg_ofNat_of_lt hlt).symm
  exact ⟨t, h1, ⟨cell, h2, h3, h4, hsz, h7⟩, (Array.getElem?_eq_some_iff.mp h2).1⟩
theorem q_strOf {args : Array Value} {s : State} {k : Nat} (h : (Cond.exactly (.string "CoverMeter" k) "java/lang/String").before args s = true) : ∃ a : Nat, (Term.string "CoverMeter" k).eval args s none [] s = some (.ref a) := by
  obtain ⟨a, c, cell, k', h1, -⟩ := Cond.exactly_spec h
  exact ⟨a, h1⟩
theorem q_arrOf {args : Array Value} {s : State} {ty : FieldType} (h : (Cond.arrayClass ty).before args s = true) : ∃ cA : ClassId, s.vm.findClass ("[" ++ ty.toString) = some cA ∧ ArrOfT s cA ty := by
  obtain ⟨cA, kA, comp, f1, f2, f3⟩ := Cond.arrayClass_spec h
  exact ⟨cA, f1, fun N z => ⟨(fun k h => by cases h), kA, f2, comp, f3⟩⟩
theorem q_ovrOf {args : Array Value} {s : State} {C : String} (h : (Cond.arrayOver (.object C)).before args s = true) : ∃ cA : ClassId, ArrOfT s cA (.object C) ∧ va_RA s cA (.object C) := by
  obtain ⟨comp, cA, kA, f0, -, f2, f3, f4⟩ := Cond.arrayOver_spec h
  exact ⟨cA, fun N z => ⟨(fun k h => by cases h), kA, f2, comp, f3⟩, kA, comp, f2, f3, f0, f4⟩
/-- what the whole walk stands on, out of the entry's words -/
theorem law_env {p : Program} {s : State} {m : MethodId} {meth : Method} {c : Code} (l : Launch) (hflags : l.flags = flags0) {b L : Nat} {xs : Nat → Int32} (C0 : lw_At p s m meth c b L xs) : ∃ (D : va_G) (cI cJ cS : ClassId) (sa : Nat → Nat) (t0 : Nat), q_cx p l s m meth c b L xs D cI cJ cS sa ∧ q_EJ s ∧ q_EI t0 (fun q => s.heap.size ≤ q) s s.heap := by
  have C1 := C0
  obtain ⟨hx, hb, hr, hml, hown, hts0, hX, hbl, hlocks, hgv⟩ := C0
  have hs := flat_of_before _ hgv
  have hA : ∀ a : Nat, a < s.heap.size → ¬ (fun q : Nat => s.heap.size ≤ q) a := fun a h => Nat.not_le.mpr h
  obtain ⟨a0, ha0⟩ := q_strOf (hs (.exactly (.string "CoverMeter" 51) "java/lang/String") (by decide +kernel))
  obtain ⟨a1, ha1⟩ := q_strOf (hs (.exactly (.string "CoverMeter" 218) "java/lang/String") (by decide +kernel))
  obtain ⟨a2, ha2⟩ := q_strOf (hs (.exactly (.string "CoverMeter" 224) "java/lang/String") (by decide +kernel))
  obtain ⟨a3, ha3⟩ := q_strOf (hs (.exactly (.string "CoverMeter" 226) "java/lang/String") (by decide +kernel))
  obtain ⟨a4, ha4⟩ := q_strOf (hs (.exactly (.string "CoverMeter" 230) "java/lang/String") (by decide +kernel))
  obtain ⟨a5, ha5, hT5⟩ := va_Tof (tm := .static "CoverMeter" "LOWEST_SETTING" "[I") (N := 3) (f := fun j => .int (q_lows j)) (A := fun q => s.heap.size ≤ q) (by decide) (hs (.arrayOf (.static "CoverMeter" "LOWEST_SETTING" "[I") .int) (by decide +kernel)) (va_eqt (hs (.eq (.length (.static "CoverMeter" "LOWEST_SETTING" "[I")) (.int 3)) (by decide +kernel))) (fun j hj => match j, hj with | 0, _ => va_eqt (hs (.eq (.elem (.static "CoverMeter" "LOWEST_SETTING" "[I") (.int 0)) (.int 0)) (by decide +kernel)) | 1, _ => va_eqt (hs (.eq (.elem (.static "CoverMeter" "LOWEST_SETTING" "[I") (.int 1)) (.int 1)) (by decide +kernel)) | 2, _ => va_eqt (hs (.eq (.elem (.static "CoverMeter" "LOWEST_SETTING" "[I") (.int 2)) (.int 0)) (by decide +kernel)) | n + 3, h => absurd h (by omega)) hA
  obtain ⟨a6, ha6, hT6⟩ := va_Tof (tm := .static "CoverMeter" "GREATEST_SETTING" "[I") (N := 3) (f := fun j => .int (q_tops j)) (A := fun q => s.heap.size ≤ q) (by decide) (hs (.arrayOf (.static "CoverMeter" "GREATEST_SETTING" "[I") .int) (by decide +kernel)) (va_eqt (hs (.eq (.length (.static "CoverMeter" "GREATEST_SETTING" "[I")) (.int 3)) (by decide +kernel))) (fun j hj => match j, hj with | 0, _ => va_eqt (hs (.eq (.elem (.static "CoverMeter" "GREATEST_SETTING" "[I") (.int 0)) (.int 5)) (by decide +kernel)) | 1, _ => va_eqt (hs (.eq (.elem (.static "CoverMeter" "GREATEST_SETTING" "[I") (.int 1)) (.int 50)) (by decide +kernel)) | 2, _ => va_eqt (hs (.eq (.elem (.static "CoverMeter" "GREATEST_SETTING" "[I") (.int 2)) (.int 50)) (by decide +kernel)) | n + 3, h => absurd h (by omega)) hA
  obtain ⟨a7, ha7, hT7, hlt7⟩ := q_Xof (tm := .static "CoverMeter" "FIRST_SETTING" "[I") (N := 3) (xs := q_firsts) (by decide) (hs (.arrayOf (.static "CoverMeter" "FIRST_SETTING" "[I") .int) (by decide +kernel)) (va_eqt (hs (.eq (.length (.static "CoverMeter" "FIRST_SETTING" "[I")) (.int 3)) (by decide +kernel))) (fun j hj => match j, hj with | 0, _ => va_eqt (hs (.eq (.elem (.static "CoverMeter" "FIRST_SETTING" "[I") (.int 0)) (.int 1)) (by decide +kernel)) | 1, _ => va_eqt (hs (.eq (.elem (.static "CoverMeter" "FIRST_SETTING" "[I") (.int 1)) (.int 10)) (by decide +kernel)) | 2, _ => va_eqt (hs (.eq (.elem (.static "CoverMeter" "FIRST_SETTING" "[I") (.int 2)) (.int 20)) (by decide +kernel)) | n + 3, h => absurd h (by omega)) 
  obtain ⟨c0, i0, hk0⟩ := u_known (C := RX0) (T := TX0) (N := 8) (n := 8) (ws := wsX00) (fun z h => hts0 z (wsL_law_in0_wsX00 z h)) (fun _ h => h) (hts0 (.instantiable RX0 8) (by decide +kernel))
  obtain ⟨c1, i1, hk1⟩ := u_known (C := RX1) (T := TX1) (N := 15) (n := 15) (ws := wsX10) (fun z h => hts0 z (wsL_law_in0_wsX10 z h)) (fun _ h => h) (hts0 (.instantiable RX1 15) (by decide +kernel))
  obtain ⟨c2, i2, hk2⟩ := u_known (C := RX2) (T := TX2) (N := 5) (n := 5) (ws := wsX20) (fun z h => hts0 z (wsL_law_in0_wsX20 z h)) (fun _ h => h) (hts0 (.instantiable RX2 5) (by decide +kernel))
  obtain ⟨cI, eI, hI⟩ := q_arrOf (hts0 (.arrayClass .int) (by decide +kernel))
  obtain ⟨cJ, eJ, hJ⟩ := q_arrOf (hts0 (.arrayClass .long) (by decide +kernel))
  obtain ⟨cS, hS, eS⟩ := q_ovrOf (hts0 (.arrayOver (.object "CoverMeter$State")) (by decide +kernel))
  refine ⟨(fun c => [c0, c1, c2].getD c 0, fun c => if c = 0 then i0 else if c = 1 then i1 else i2), cI, cJ, cS, fun k => [a0, a1, a2, a3, a4, a5, a6].getD k 0, a7, ⟨C1, ?_, ⟨⟨?_, ?_⟩, ?_⟩, ⟨?_, ?_⟩, ?_, ?_⟩, ?_, ?_⟩
  · unfold Launch.stackTraces
    rw [hflags]
    decide
  · intro k q hq
    match k with
    | 0 => cases hq; exact hk0
    | 1 => cases hq; exact hk1
    | 2 => cases hq; exact hk2
    | n + 3 => cases hq
  · intro k q hq
    match k with
    | 0 => cases hq; exact ⟨hI, eI⟩
    | 1 => cases hq; exact ⟨hJ, eJ⟩
    | 2 => cases hq; exact ⟨hS, eS⟩
    | n + 3 => cases hq
  · exact va_Nw.of rfl (hts0 (.methodLinkNest RX1 74 yX2_bidIndex "CoverMeter") (by decide +kernel))
  · intro k q hq
    match k with
    | 0 => cases hq; exact vk_R.of (hts0 (.stringRef RX2 51 "the roster is out of range") (by decide +kernel)) ha0
    | 1 => cases hq; exact vk_R.of (hts0 (.stringRef RX2 218 "there is no such person") (by decide +kernel)) ha1
    | 2 => cases hq; exact vk_R.of (hts0 (.stringRef RX2 224 "there is no such absence") (by decide +kernel)) ha2
    | 3 => cases hq; exact vk_R.of (hts0 (.stringRef RX2 226 "a value is out of range") (by decide +kernel)) ha3
    | 4 => cases hq; exact vk_R.of (hts0 (.stringRef RX2 230 "this cannot be done now") (by decide +kernel)) ha4
    | n + 5 => cases hq
  · exact ⟨va_Nw.of rfl (hts0 (.castable "java/lang/IndexOutOfBoundsException" "java/lang/IndexOutOfBoundsException") (by decide +kernel)), va_Nw.of rfl (hts0 (.castable "java/lang/IllegalArgumentException" "java/lang/IllegalArgumentException") (by decide +kernel)), va_Nw.of rfl (hts0 (.castable "java/lang/IllegalStateException" "java/lang/IllegalStateException") (by decide +kernel)), va_Nw.of rfl (hts0 (.declares (Bundle.initS "java/lang/RuntimeException")) (by decide +kernel)), va_Nw.of rfl (hts0 (.declares (Bundle.initS "java/lang/Exception")) (by decide +kernel)), va_Nw.of rfl (hts0 (.declares (Bundle.initS Bundle.tN)) (by decide +kernel))⟩
  · exact ⟨va_Nc.of (hs (.not (.castable "java/lang/IllegalStateException" "java/lang/IndexOutOfBoundsException")) (by decide +kernel)), va_Nc.of (hs (.not (.castable "java/lang/IllegalStateException" "java/lang/IllegalArgumentException")) (by decide +kernel)), va_Nc.of (hs (.not (.castable "java/lang/IllegalArgumentException" "java/lang/IndexOutOfBoundsException")) (by decide +kernel))⟩
  · exact ⟨vx_Zqof (hts0 (.laysStatic Bundle.tN "UNASSIGNED_STACK" Bundle.steD) (by decide +kernel)) (hts0 (.initialized Bundle.tN) (by decide +kernel)) (hs (.isRef (.static Bundle.tN "UNASSIGNED_STACK" Bundle.steD)) (by decide +kernel)) hA, vx_Zqof (hts0 (.laysStatic Bundle.tN "SUPPRESSED_SENTINEL" Bundle.listD) (by decide +kernel)) (hts0 (.initialized Bundle.tN) (by decide +kernel)) (hs (.isRef (.static Bundle.tN "SUPPRESSED_SENTINEL" Bundle.listD)) (by decide +kernel)) hA, va_Zof (hts0 (.laysStatic "CoverMeter" "LOWEST_SETTING" "[I") (by decide +kernel)) (hts0 (.initialized "CoverMeter") (by decide +kernel)) ha5 hA, hT5, va_Zof (hts0 (.laysStatic "CoverMeter" "GREATEST_SETTING" "[I") (by decide +kernel)) (hts0 (.initialized "CoverMeter") (by decide +kernel)) ha6 hA, hT6⟩
  · exact ⟨va_Nw.of rfl (hts0 (.fieldLinkNest RX1 49 "CoverMeter" "FIRST_SETTING" "[I" "CoverMeter") (by decide +kernel)), va_Nw.of rfl (hts0 (.methodLinkNest RX2 25 yX0_init "CoverMeter") (by decide +kernel)), va_AO.of (hts0 (.arrayOver (.object "CoverMeter$State")) (by decide +kernel))⟩
  · exact ⟨va_Zof (hts0 (.laysStatic "CoverMeter" "FIRST_SETTING" "[I") (by decide +kernel)) (hts0 (.initialized "CoverMeter") (by decide +kernel)) ha7 hA, hT7, hlt7, Nat.not_le.mpr hlt7⟩
theorem p_div3 : ∀ L : Nat, L < 261 → (Int32.ofNat L / 3 = nI (L / 3)) := by decide +kernel
def p_T (L : Nat) : Nat := if L / 3 < 36 then L / 3 else 36
set_option maxRecDepth 100000 in
set_option maxHeartbeats 4000000 in
/-- from the entry to the loop: what is left is p_run's question -/
theorem law_start {p : Program} {e : Env} {s : State} {m : MethodId} {below : List Frame} {meth : Method} {c : Code} (l : Launch) (hflags : l.flags = flags0) {b L : Nat} {xs : Nat → Int32} (hL : L ≤ 260) (C0 : lw_At p s m meth c b L xs) (hrun : p_run L xs (p_T L) 40 0 CM0 = some ()) : W p l e room_1 s m #[Value.ref b] below meth c s.heap [] 0 0 (lw_Z below #[Value.ref b] s) (entryFrame m ([Value.ref b] : List Value).toArray 13) := by
  obtain ⟨D, cI, cJ, cS, sa, t0, C1, hEJ, hI⟩ := law_env l hflags C0
  have C2 := C1
  obtain ⟨⟨hx, hb, hr, hml, hown0, hts0, hX, hbl, hlocks, hgv⟩, hlt, hE, hES, hN, hZ⟩ := C2
  have hown : s.vm.findClass RL = some m.cls := hown0
  have hts : ∀ w ∈ wsL_law, w.before #[Value.ref b] s = true := fun w h => hts0 w (wsL_law_in w h)
  have hu2 : ∀ z ∈ wsX20, z.before #[Value.ref b] s = true := fun z h => hts0 z (wsL_law_in0_wsX20 z h)
  have hbA : ¬ (fun q : Nat => s.heap.size ≤ q) b := Nat.not_le.mpr hbl
  have hA : ∀ q : Nat, s.heap.size ≤ q → (fun q : Nat => s.heap.size ≤ q) q := fun q h => h
  have hS : va_S (fun q : Nat => s.heap.size ≤ q) s.heap s.heap [] := va_S.rf
  have hP : va_P D vwCl [] s.heap := fun k q h => nomatch h
  have hD : va_D (fun q : Nat => s.heap.size ≤ q) [] := ⟨fun i j p q h => (nomatch h), fun k q h => (nomatch h)⟩
  have hl := lv_entry ([.ref b]) (n := 13) (Nat.le_of_ble_eq_true rfl)
  rw [lg_entry_eq]
  generalize (lg_sl ([.ref b]) ++ List.replicate (13 - (lg_sl ([.ref b])).length) Slot.unset).toArray = ls at hl ⊢
  have hl : lv_has ls 13 [(0, .ref b)] := hl
  refine va_new (ci := 2) (fs := [.null, .null, .null, .int 0, .null]) (C := RX2) (T := TX2) (N := 5) hx hb hu2 (fun _ h => h) tyX2 tyX2_ok hown (hts0 (.classLink RL 20 RX2) (by decide +kernel)) (hts0 (.instantiable RX2 5) (by decide +kernel)) (hts0 (.initialized RX2) (by decide +kernel)) hE.1 hP hD hS hA rfl (fun j hj => by rcases (show j = 0 ∨ j = 1 ∨ j = 2 ∨ j = 3 ∨ j = 4 by omega) with rfl | rfl | rfl | rfl | rfl <;> rfl) (Nat.le_of_ble_eq_true rfl) (Nat.le_of_ble_eq_true rfl) dL_law_0 (fun q1 H hP hD hS => ?_)
  have hP : va_P D vwCl [(q1, .inr (2, [.null, .null, .null, .int 0, .null]))] H := hP
  have hD : va_D (fun q : Nat => s.heap.size ≤ q) [(q1, .inr (2, [.null, .null, .null, .int 0, .null]))] := hD
  refine lv_dup hx hb dL_law_3 rfl ?_
  have hFc := va_free (wc := [(q1, .inr (2, [.null, .null, .null, .int 0, .null]))]) hD hS hA [0] rfl
  refine q_mk (va_runI (As := []) (rest := [.ref q1]) ⟨hx, hb, hml, hown, hts⟩ (c_X2_init l D cI cJ cS t0 q1 _) (cwI 0 hts gL_law_X2_init rfl rfl rfl (hts0 (.initialized RX2) (by decide +kernel)) (hts0 (.methodLink RL 117 yX2_init) (by decide +kernel)) (hts0 (.instanceMethod yX2_init) (by decide +kernel)) rfl (by decide +kernel) ⟨(Nat.le_of_ble_eq_true rfl), (Nat.le_of_ble_eq_true rfl)⟩) ⟨q_blindI, fun U hU hW => ⟨rfl, ⟨by rw [hU], by rw [hU]; exact hP, q_E.warm hW hE, hD.weaken (fun _ _ _ _ => trivial)⟩, q_EJ.warm hW hEJ, by rw [hU]; exact ((hI.kept hS.1 (fun a h1 h2 => hS.2.1 a h1 h2)).narrow hFc).moved hW.alike⟩⟩ rfl rfl hl.1 rfl (lv_room (Nat.le_of_ble_eq_true rfl)) dL_law_4 ⟨(Nat.le_of_ble_eq_true rfl), (Nat.le_of_ble_eq_true rfl)⟩) hS hFc (fun w9 H1 locs hw9 hz hk hP1 hD1 hS => ?_)
  obtain ⟨A, B, g, hg, eA, rfl⟩ := hw9
  obtain ⟨hP, hD⟩ := va_join (wr := []) (w1 := wCM cI cJ cS A g B CM0) hP hD [0] [] rfl rfl (by decide) (by decide) hk hFc hP1 hD1
  have hP : va_P D vwCl (wCM cI cJ cS A g B CM0) H1 := hP
  have hD : va_D (fun q : Nat => s.heap.size ≤ q) (wCM cI cJ cS A g B CM0) := hD
  clear hP1 hD1 hk hz
  generalize H1 = H at hP hS ⊢
  have hdv : Int32.ofNat L / 3 = nI (L / 3) := p_div3 L (by omega)
  refine lv_astore_n (lv' := [(1, .ref q1), (0, .ref b)]) hx hb dL_law_7 rfl hl (by decide) rfl (fun ls hl => ?_)
  refine lv_aload_n hx hb dL_law_8 rfl (lv_at hl 1 rfl) ?_
  refine va_slen hx hb hX hbl hbA hS dL_law_9 ?_
  refine lv_iconst (v := 3) hx hb dL_law_10 (by decide) ?_
  refine lv_idiv hx hb dL_law_11 (by decide) ?_
  refine q_nmi (y := nI (L / 3)) hdv ?_
  refine lv_bipush (v := 36) hx hb dL_law_12 (by decide) ?_
  have T9 : ∀ (ls : Array Slot), lv_has ls 13 [(2, .int (nI (p_T L))), (1, .ref q1), (0, .ref b)] → W p l e room_1 s m #[Value.ref b] below meth c H locs 82 2805 (lw_Z below #[Value.ref b] s) (F0 m 27 ls []) := by
    intro ls hl
    refine lv_iconst (v := 0) hx hb dL_law_27 (by decide) ?_
    refine lv_istore_n (lv' := [(3, .int 0), (2, .int (nI (p_T L))), (1, .ref q1), (0, .ref b)]) hx hb dL_law_28 rfl hl (by decide) rfl (fun ls hl => ?_)
    have hl9 : lv_has ls 13 [(0, .ref b), (1, .ref (A 3 0)), (2, .int (nI (p_T L))), (3, .int (nI 0))] := by
      rw [eA]
      exact lv_sub hl [3, 2, 1, 0] rfl
    exact law_loop C1 hL (by unfold p_T; split <;> omega) 40 82 2805 0 CM0 (by decide) (by decide) (Nat.zero_le _) hrun A g B _ _ _ hg hP hD hS hl9
  refine lv_icmp_ge (tgt := 24) hx hb dL_law_14 (by decide) (fun hc => ?_) (fun hc => ?_)
  · have h36 : ¬ L / 3 < 36 := by
      have h9 := (nI_leI (a := 36) (b := L / 3) (by omega) (by omega)).mp hc
      omega
    have hT : (36 : Int32) = nI (p_T L) := by unfold p_T; rw [if_neg h36]; rfl
    refine lv_bipush (v := 36) hx hb dL_law_24 (by decide) ?_
    refine q_nmi (y := nI (p_T L)) hT ?_
    refine lv_istore_n (lv' := [(2, .int (nI (p_T L))), (1, .ref q1), (0, .ref b)]) hx hb dL_law_26 rfl hl (by decide) rfl (fun ls hl => ?_)
    exact T9 ls hl
  · have h36 : L / 3 < 36 := by
      apply Classical.byContradiction
      intro z
      exact hc ((nI_leI (a := 36) (b := L / 3) (by omega) (by omega)).mpr (by omega))
    have hT : nI (L / 3) = nI (p_T L) := by unfold p_T; rw [if_pos h36]
    refine lv_aload_n hx hb dL_law_17 rfl (lv_at hl 1 rfl) ?_
    refine va_slen hx hb hX hbl hbA hS dL_law_18 ?_
    refine lv_iconst (v := 3) hx hb dL_law_19 (by decide) ?_
    refine lv_idiv hx hb dL_law_20 (by decide) ?_
    refine q_nmi (y := nI (L / 3)) hdv ?_
    refine q_nmi (y := nI (p_T L)) hT ?_
    refine lv_goto (tgt := 26) hx hb dL_law_21 (by decide) ?_
    refine lv_istore_n (lv' := [(2, .int (nI (p_T L))), (1, .ref q1), (0, .ref b)]) hx hb dL_law_26 rfl hl (by decide) rfl (fun ls hl => ?_)
    exact T9 ls hl
