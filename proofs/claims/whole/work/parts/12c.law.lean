set_option maxRecDepth 100000 in
set_option maxHeartbeats 4000000 in
theorem law_c18 {p : Program} {l : Launch} {e : Env} {s : State} {m : MethodId} {below : List Frame} {meth : Method} {c : Code} {b L : Nat} {xs : Nat → Int32} {D : va_G} {cI cJ cS : ClassId} {sa : Nat → Nat} (C1 : q_cx p l s m meth c b L xs D cI cJ cS sa) (hL : L ≤ 2048) {cells slots k : Nat} (hk3 : k + 3 < L) (hcl : cells + 8 ≤ 601024) (hsl : slots + 60 ≤ 7293034) {S : CM} {M : MD} {O : Nat → Int64} {r : CM × MD × (Nat → Int64)} (hf : q_c18 S M O (xs (k + 1)) (xs (k + 2)) (xs (k + 3)) = some r) (kk : q_go p l e s m below meth c b D cI cJ cS (cells + 8) (slots + 60) 1622 k r.1 r.2.1 r.2.2) : q_go p l e s m below meth c b D cI cJ cS cells slots 1316 k S M O := by
  obtain ⟨⟨hx, hb, hr, hml, hown0, hts0, hX, hbl, hlocks, hgv⟩, hlt, hE, hES, hN, hZ⟩ := C1
  have hown : s.vm.findClass RL = some m.cls := hown0
  have hts : ∀ w ∈ wsL_law, w.before #[Value.ref b] s = true := fun w h => hts0 w (wsL_law_in w h)
  have hbA : ¬ (fun q : Nat => s.heap.size ≤ q) b := Nat.not_le.mpr hbl
  intro A g B am k0 H locs ls hg hP hD hS hl
  unfold q_c18 at hf
  refine lv_aload_n hx hb dL_law_1316 rfl (lv_at hl 1 rfl) ?_
  refine lv_aload_n hx hb dL_law_1317 rfl (lv_at hl 0 rfl) ?_
  refine lv_iload hx hb dL_law_1318 (lv_at hl 4 rfl) ?_
  refine lv_iconst (v := 1) hx hb dL_law_1320 (by decide) ?_
  refine lv_iadd hx hb dL_law_1321 ?_
  refine q_nmi (y := nI (k + 1)) (nI_add k 1) ?_
  refine va_sld hx hb hX hbl hbA hS (vp_in_nI (show k + 1 < L by omega) (by omega)) dL_law_1322 ?_
  refine q_nmi (y := xs (k + 1)) (by rw [nI_clamp (by omega)]) ?_
  refine lv_aload_n hx hb dL_law_1323 rfl (lv_at hl 3 rfl) ?_
  obtain ⟨x, hx1, hf⟩ := q_bd_go hf
  refine q_lawL hP hD hS (fun _ h => h) (vx_runSX (As := [.ref (A 3 0), .int (xs (k + 1)), .ref k0]) (rest := []) ⟨hx, hb, hml, hown, hts⟩ (c_L_coveredWith l hlt D cI cJ cS sa A g B hg k0 S O _ (xs (k + 1)) _ hx1) (vx_cwSW 3 hts gL_law_L_coveredWith rfl rfl rfl (by decide +kernel) ⟨(Nat.le_of_ble_eq_true rfl), (Nat.le_of_ble_eq_true rfl)⟩) ⟨q_blindL, fun U hU hW => ⟨rfl, ⟨by rw [hU], by rw [hU]; exact pW_L hP, q_E.warm hW hE, (dW_L hD).weaken (fun _ _ _ _ => trivial), q_ES.warm hW hES, by rw [hU]; exact ((hZ.kept (fun a h1 h2 => hS.2.1 a h1 h2)).narrow (fun q h => h.elim (fun ⟨k9, e9, h9⟩ => (dW_L hD).2 k9 _ h9) (fun h => Nat.le_trans hS.1 h))).moved hW.alike⟩, q_EN.moved hW.alike hN⟩⟩ rfl rfl hl.1 rfl (lv_room (Nat.le_of_ble_eq_true rfl)) dL_law_1324 ⟨(by show cells + 1 ≤ 601024; omega), (by show slots + 6 ≤ 7293034; omega)⟩) (fun g2 B2 H locs hg hP hD hS => ?_)
  refine lv_istore (lv' := [(5, .int x.1), (0, .ref b), (1, .ref (A 3 0)), (2, .ref (am 0)), (3, .ref k0), (4, .int (nI k))]) hx hb dL_law_1327 hl (by decide) rfl (fun ls hl => ?_)
  refine lv_aload_n hx hb dL_law_1329 rfl (lv_at hl 3 rfl) ?_
  refine lv_aload_n hx hb dL_law_1330 rfl (lv_at hl 1 rfl) ?_
  refine lv_iload hx hb dL_law_1331 (lv_at hl 5 rfl) ?_
  refine lv_iconst (v := 1) hx hb dL_law_1333 (by decide) ?_
  refine lv_iadd hx hb dL_law_1334 ?_
  refine q_nmi (y := nI (k + 1)) (nI_add k 1) ?_
  refine va_sld hx hb hX hbl hbA hS (vp_in_nI (show k + 1 < L by omega) (by omega)) dL_law_1335 ?_
  refine q_nmi (y := xs (k + 1)) (by rw [nI_clamp (by omega)]) ?_
  obtain ⟨y, hy1, hf⟩ := q_bd_go hf
  refine q_wrC (v := (some (.int y.1))) (w := wMD cI cJ am M) (w' := wMD cI cJ am y.2) (ci := 3) (As := [.int (xs (k + 1))]) (rest := []) hx hb hml hown hts (c_X3_coveredWith l D cI cJ cS am M _ (xs (k + 1)) _ hy1) (cwV 1 hts gL_law_X3_coveredWith rfl rfl rfl (by decide +kernel) ⟨(Nat.le_of_ble_eq_true rfl), (Nat.le_of_ble_eq_true rfl)⟩) hE (pW_M hP) (dW_M hD) hS (fun _ h => h) (fun H1 hF hk h1 h2 => sW_M hP hD hF hk h1 h2) rfl rfl rfl hl.1 rfl (Nat.le_of_ble_eq_true rfl) dL_law_1336 ⟨(by show cells + 1 + 0 ≤ 601024; omega), (by show slots + 6 + 0 ≤ 7293034; omega)⟩ (fun H locs hP hD hS => ?_)
  refine lv_istore (lv' := [(6, .int y.1), (5, .int x.1), (0, .ref b), (1, .ref (A 3 0)), (2, .ref (am 0)), (3, .ref k0), (4, .int (nI k))]) hx hb dL_law_1339 hl (by decide) rfl (fun ls hl => ?_)
  refine lv_aload_n hx hb dL_law_1341 rfl (lv_at hl 4 rfl) ?_
  refine q_rdVi (w := wMD cI cJ am y.2) (ci := 3) (As := []) (rest := []) hx hb hml hown hts (c_X3_thrown l D cI cJ cS am y.2 (MD_thrown y.2) rfl) (cwV 0 hts gL_law_X3_thrown rfl rfl rfl (by decide +kernel) ⟨(Nat.le_of_ble_eq_true rfl), (Nat.le_of_ble_eq_true rfl)⟩) hE (pW_M hP) rfl rfl rfl hl.1 rfl (Nat.le_of_ble_eq_true rfl) dL_law_1342 ⟨(by show cells + 1 + 0 ≤ 601024; omega), (by show slots + 6 + 0 ≤ 7293034; omega)⟩ ?_
  obtain ⟨he, hr9, hc⟩ := q_okT hf
  subst hr9
  refine lv_iload hx hb dL_law_1345 (lv_at hl 1 rfl) ?_
  refine lv_icmp_eq (tgt := 1352) hx hb dL_law_1347 (by decide) (fun _ => ?_) (fun z9 => absurd he z9)
  refine lv_iload hx hb dL_law_1352 (lv_at hl 1 rfl) ?_
  refine lv_if_ne (tgt := 1369) hx hb dL_law_1354 (by decide) (fun hn => ?_) (fun hz => ?_)
  · refine lv_goto (tgt := 1622) hx hb dL_law_1369 (by decide) ?_
    refine W.widen (k := cells + 8) (n := slots + 60) (by omega) (by omega) ?_
    exact kk A g2 B2 am k0 _ _ _ hg hP hD hS (lv_sub hl [2, 3, 4, 5, 6] rfl)
  · have he := hc hz
    refine lv_aload_n hx hb dL_law_1357 rfl (lv_at hl 5 rfl) ?_
    refine lv_iconst (v := 0) hx hb dL_law_1358 (by decide) ?_
    refine va_lald hx hb hE.1 hP 0 1 rfl rfl (by unfold vp_in; decide) dL_law_1359 ?_
    refine lv_iload hx hb dL_law_1360 (lv_at hl 0 rfl) ?_
    refine lv_i2l (v := ((y.1 : Int32).toInt64)) hx hb dL_law_1362 rfl ?_
    refine W.lcmp hx hb dL_law_1363 ?_
    refine lv_if_eq (tgt := 1369) hx hb dL_law_1364 (by decide) (fun _ => ?_) (fun z9 => absurd he z9)
    refine lv_goto (tgt := 1622) hx hb dL_law_1369 (by decide) ?_
    refine W.widen (k := cells + 8) (n := slots + 60) (by omega) (by omega) ?_
    exact kk A g2 B2 am k0 _ _ _ hg hP hD hS (lv_sub hl [2, 3, 4, 5, 6] rfl)
set_option maxRecDepth 100000 in
set_option maxHeartbeats 4000000 in
theorem law_c19 {p : Program} {l : Launch} {e : Env} {s : State} {m : MethodId} {below : List Frame} {meth : Method} {c : Code} {b L : Nat} {xs : Nat → Int32} {D : va_G} {cI cJ cS : ClassId} {sa : Nat → Nat} (C1 : q_cx p l s m meth c b L xs D cI cJ cS sa) (hL : L ≤ 2048) {cells slots k : Nat} (hk3 : k + 3 < L) (hcl : cells + 8 ≤ 601024) (hsl : slots + 60 ≤ 7293034) {S : CM} {M : MD} {O : Nat → Int64} {r : CM × MD × (Nat → Int64)} (hf : q_c19 S M O (xs (k + 1)) (xs (k + 2)) (xs (k + 3)) = some r) (kk : q_go p l e s m below meth c b D cI cJ cS (cells + 8) (slots + 60) 1622 k r.1 r.2.1 r.2.2) : q_go p l e s m below meth c b D cI cJ cS cells slots 1372 k S M O := by
  obtain ⟨⟨hx, hb, hr, hml, hown0, hts0, hX, hbl, hlocks, hgv⟩, hlt, hE, hES, hN, hZ⟩ := C1
  have hown : s.vm.findClass RL = some m.cls := hown0
  have hts : ∀ w ∈ wsL_law, w.before #[Value.ref b] s = true := fun w h => hts0 w (wsL_law_in w h)
  have hbA : ¬ (fun q : Nat => s.heap.size ≤ q) b := Nat.not_le.mpr hbl
  intro A g B am k0 H locs ls hg hP hD hS hl
  unfold q_c19 at hf
  refine lv_aload_n hx hb dL_law_1372 rfl (lv_at hl 1 rfl) ?_
  obtain ⟨x, hx1, hf⟩ := q_bd_go hf
  refine q_lawC (v := some (.int x.1)) hP hD hS (fun _ h => h) (va_runV (As := []) (rest := []) ⟨hx, hb, hml, hown, hts⟩ (c_X2_mostCovered l hlt D cI cJ cS sa A g B hg S _ _ hx1) (cwV 0 hts gL_law_X2_mostCovered rfl rfl rfl (by decide +kernel) ⟨(Nat.le_of_ble_eq_true rfl), (Nat.le_of_ble_eq_true rfl)⟩) ⟨q_blindWX, va_recv hE.1 (pW_C hP) (ci := 2) (q0 := 0) rfl rfl, fun U hU hW => ⟨rfl, by rw [hU], by rw [hU]; exact pW_C hP, q_E.warm hW hE, (dW_C hD).weaken (fun _ _ _ _ => trivial), q_ES.warm hW hES, by rw [hU]; exact ((hZ.kept (fun a h1 h2 => hS.2.1 a h1 h2)).narrow (fun q h => h.elim (fun ⟨k9, e9, h9⟩ => (dW_C hD).2 k9 _ h9) (fun h => Nat.le_trans hS.1 h))).moved hW.alike⟩⟩ rfl rfl hl.1 rfl (lv_room (Nat.le_of_ble_eq_true rfl)) dL_law_1373 ⟨(by show cells + 0 ≤ 601024; omega), (by show slots + 0 ≤ 7293034; omega)⟩) (fun g2 B2 H locs hg hP hD hS => ?_)
  refine lv_aload_n hx hb dL_law_1376 rfl (lv_at hl 2 rfl) ?_
  obtain ⟨y, hy1, hf⟩ := q_bd_go hf
  refine q_wrC (v := (some (.int y.1))) (w := wMD cI cJ am M) (w' := wMD cI cJ am y.2) (ci := 3) (As := []) (rest := [.int x.1]) hx hb hml hown hts (c_X3_mostCovered l D cI cJ cS am M _  _ hy1) (cwV 0 hts gL_law_X3_mostCovered rfl rfl rfl (by decide +kernel) ⟨(Nat.le_of_ble_eq_true rfl), (Nat.le_of_ble_eq_true rfl)⟩) hE (pW_M hP) (dW_M hD) hS (fun _ h => h) (fun H1 hF hk h1 h2 => sW_M hP hD hF hk h1 h2) rfl rfl rfl hl.1 rfl (Nat.le_of_ble_eq_true rfl) dL_law_1377 ⟨(by show cells + 0 ≤ 601024; omega), (by show slots + 0 ≤ 7293034; omega)⟩ (fun H locs hP hD hS => ?_)
  have he := q_gc_in hf
  have hf := q_some (q_ite_t he hf)
  subst hf
  refine lv_icmp_eq (tgt := 1622) hx hb dL_law_1380 (by decide) (fun _ => ?_) (fun z9 => absurd he z9)
  refine W.widen (k := cells + 8) (n := slots + 60) (by omega) (by omega) ?_
  exact kk A g2 B2 am k0 _ _ _ hg hP hD hS (lv_sub hl [0, 1, 2, 3, 4] rfl)
set_option maxRecDepth 100000 in
set_option maxHeartbeats 4000000 in
theorem law_c20 {p : Program} {l : Launch} {e : Env} {s : State} {m : MethodId} {below : List Frame} {meth : Method} {c : Code} {b L : Nat} {xs : Nat → Int32} {D : va_G} {cI cJ cS : ClassId} {sa : Nat → Nat} (C1 : q_cx p l s m meth c b L xs D cI cJ cS sa) (hL : L ≤ 2048) {cells slots k : Nat} (hk3 : k + 3 < L) (hcl : cells + 8 ≤ 601024) (hsl : slots + 60 ≤ 7293034) {S : CM} {M : MD} {O : Nat → Int64} {r : CM × MD × (Nat → Int64)} (hf : q_c20 S M O (xs (k + 1)) (xs (k + 2)) (xs (k + 3)) = some r) (kk : q_go p l e s m below meth c b D cI cJ cS (cells + 8) (slots + 60) 1622 k r.1 r.2.1 r.2.2) : q_go p l e s m below meth c b D cI cJ cS cells slots 1385 k S M O := by
  obtain ⟨⟨hx, hb, hr, hml, hown0, hts0, hX, hbl, hlocks, hgv⟩, hlt, hE, hES, hN, hZ⟩ := C1
  have hown : s.vm.findClass RL = some m.cls := hown0
  have hts : ∀ w ∈ wsL_law, w.before #[Value.ref b] s = true := fun w h => hts0 w (wsL_law_in w h)
  have hbA : ¬ (fun q : Nat => s.heap.size ≤ q) b := Nat.not_le.mpr hbl
  intro A g B am k0 H locs ls hg hP hD hS hl
  unfold q_c20 at hf
  refine lv_aload_n hx hb dL_law_1385 rfl (lv_at hl 1 rfl) ?_
  refine lv_aload_n hx hb dL_law_1386 rfl (lv_at hl 0 rfl) ?_
  refine lv_iload hx hb dL_law_1387 (lv_at hl 4 rfl) ?_
  refine lv_iconst (v := 1) hx hb dL_law_1389 (by decide) ?_
  refine lv_iadd hx hb dL_law_1390 ?_
  refine q_nmi (y := nI (k + 1)) (nI_add k 1) ?_
  refine va_sld hx hb hX hbl hbA hS (vp_in_nI (show k + 1 < L by omega) (by omega)) dL_law_1391 ?_
  refine q_nmi (y := xs (k + 1)) (by rw [nI_clamp (by omega)]) ?_
  refine lv_aload_n hx hb dL_law_1392 rfl (lv_at hl 3 rfl) ?_
  obtain ⟨x, hx1, hf⟩ := q_bd_go hf
  refine q_lawL hP hD hS (fun _ h => h) (vx_runSX (As := [.ref (A 3 0), .int (xs (k + 1)), .ref k0]) (rest := []) ⟨hx, hb, hml, hown, hts⟩ (c_L_freeShifts l hlt D cI cJ cS sa A g B hg k0 S O _ (xs (k + 1)) _ hx1) (vx_cwSW 3 hts gL_law_L_freeShifts rfl rfl rfl (by decide +kernel) ⟨(Nat.le_of_ble_eq_true rfl), (Nat.le_of_ble_eq_true rfl)⟩) ⟨q_blindL, fun U hU hW => ⟨rfl, ⟨by rw [hU], by rw [hU]; exact pW_L hP, q_E.warm hW hE, (dW_L hD).weaken (fun _ _ _ _ => trivial), q_ES.warm hW hES, by rw [hU]; exact ((hZ.kept (fun a h1 h2 => hS.2.1 a h1 h2)).narrow (fun q h => h.elim (fun ⟨k9, e9, h9⟩ => (dW_L hD).2 k9 _ h9) (fun h => Nat.le_trans hS.1 h))).moved hW.alike⟩, q_EN.moved hW.alike hN⟩⟩ rfl rfl hl.1 rfl (lv_room (Nat.le_of_ble_eq_true rfl)) dL_law_1393 ⟨(by show cells + 1 ≤ 601024; omega), (by show slots + 6 ≤ 7293034; omega)⟩) (fun g2 B2 H locs hg hP hD hS => ?_)
  refine lv_istore (lv' := [(5, .int x.1), (0, .ref b), (1, .ref (A 3 0)), (2, .ref (am 0)), (3, .ref k0), (4, .int (nI k))]) hx hb dL_law_1396 hl (by decide) rfl (fun ls hl => ?_)
  refine lv_aload_n hx hb dL_law_1398 rfl (lv_at hl 3 rfl) ?_
  refine lv_aload_n hx hb dL_law_1399 rfl (lv_at hl 1 rfl) ?_
  refine lv_iload hx hb dL_law_1400 (lv_at hl 5 rfl) ?_
  refine lv_iconst (v := 1) hx hb dL_law_1402 (by decide) ?_
  refine lv_iadd hx hb dL_law_1403 ?_
  refine q_nmi (y := nI (k + 1)) (nI_add k 1) ?_
  refine va_sld hx hb hX hbl hbA hS (vp_in_nI (show k + 1 < L by omega) (by omega)) dL_law_1404 ?_
  refine q_nmi (y := xs (k + 1)) (by rw [nI_clamp (by omega)]) ?_
  obtain ⟨y, hy1, hf⟩ := q_bd_go hf
  refine q_wrC (v := (some (.int y.1))) (w := wMD cI cJ am M) (w' := wMD cI cJ am y.2) (ci := 3) (As := [.int (xs (k + 1))]) (rest := []) hx hb hml hown hts (c_X3_freeShifts l D cI cJ cS am M _ (xs (k + 1)) _ hy1) (cwV 1 hts gL_law_X3_freeShifts rfl rfl rfl (by decide +kernel) ⟨(Nat.le_of_ble_eq_true rfl), (Nat.le_of_ble_eq_true rfl)⟩) hE (pW_M hP) (dW_M hD) hS (fun _ h => h) (fun H1 hF hk h1 h2 => sW_M hP hD hF hk h1 h2) rfl rfl rfl hl.1 rfl (Nat.le_of_ble_eq_true rfl) dL_law_1405 ⟨(by show cells + 1 + 0 ≤ 601024; omega), (by show slots + 6 + 0 ≤ 7293034; omega)⟩ (fun H locs hP hD hS => ?_)
  refine lv_istore (lv' := [(6, .int y.1), (5, .int x.1), (0, .ref b), (1, .ref (A 3 0)), (2, .ref (am 0)), (3, .ref k0), (4, .int (nI k))]) hx hb dL_law_1408 hl (by decide) rfl (fun ls hl => ?_)
  refine lv_aload_n hx hb dL_law_1410 rfl (lv_at hl 4 rfl) ?_
  refine q_rdVi (w := wMD cI cJ am y.2) (ci := 3) (As := []) (rest := []) hx hb hml hown hts (c_X3_thrown l D cI cJ cS am y.2 (MD_thrown y.2) rfl) (cwV 0 hts gL_law_X3_thrown rfl rfl rfl (by decide +kernel) ⟨(Nat.le_of_ble_eq_true rfl), (Nat.le_of_ble_eq_true rfl)⟩) hE (pW_M hP) rfl rfl rfl hl.1 rfl (Nat.le_of_ble_eq_true rfl) dL_law_1411 ⟨(by show cells + 1 + 0 ≤ 601024; omega), (by show slots + 6 + 0 ≤ 7293034; omega)⟩ ?_
  obtain ⟨he, hr9, hc⟩ := q_okT hf
  subst hr9
  refine lv_iload hx hb dL_law_1414 (lv_at hl 1 rfl) ?_
  refine lv_icmp_eq (tgt := 1421) hx hb dL_law_1416 (by decide) (fun _ => ?_) (fun z9 => absurd he z9)
  refine lv_iload hx hb dL_law_1421 (lv_at hl 1 rfl) ?_
  refine lv_if_ne (tgt := 1438) hx hb dL_law_1423 (by decide) (fun hn => ?_) (fun hz => ?_)
  · refine lv_goto (tgt := 1622) hx hb dL_law_1438 (by decide) ?_
    refine W.widen (k := cells + 8) (n := slots + 60) (by omega) (by omega) ?_
    exact kk A g2 B2 am k0 _ _ _ hg hP hD hS (lv_sub hl [2, 3, 4, 5, 6] rfl)
  · have he := hc hz
    refine lv_aload_n hx hb dL_law_1426 rfl (lv_at hl 5 rfl) ?_
    refine lv_iconst (v := 0) hx hb dL_law_1427 (by decide) ?_
    refine va_lald hx hb hE.1 hP 0 1 rfl rfl (by unfold vp_in; decide) dL_law_1428 ?_
    refine lv_iload hx hb dL_law_1429 (lv_at hl 0 rfl) ?_
    refine lv_i2l (v := ((y.1 : Int32).toInt64)) hx hb dL_law_1431 rfl ?_
    refine W.lcmp hx hb dL_law_1432 ?_
    refine lv_if_eq (tgt := 1438) hx hb dL_law_1433 (by decide) (fun _ => ?_) (fun z9 => absurd he z9)
    refine lv_goto (tgt := 1622) hx hb dL_law_1438 (by decide) ?_
    refine W.widen (k := cells + 8) (n := slots + 60) (by omega) (by omega) ?_
    exact kk A g2 B2 am k0 _ _ _ hg hP hD hS (lv_sub hl [2, 3, 4, 5, 6] rfl)
set_option maxRecDepth 100000 in
set_option maxHeartbeats 4000000 in
theorem law_c21 {p : Program} {l : Launch} {e : Env} {s : State} {m : MethodId} {below : List Frame} {meth : Method} {c : Code} {b L : Nat} {xs : Nat → Int32} {D : va_G} {cI cJ cS : ClassId} {sa : Nat → Nat} (C1 : q_cx p l s m meth c b L xs D cI cJ cS sa) (hL : L ≤ 2048) {cells slots k : Nat} (hk3 : k + 3 < L) (hcl : cells + 8 ≤ 601024) (hsl : slots + 60 ≤ 7293034) {S : CM} {M : MD} {O : Nat → Int64} {r : CM × MD × (Nat → Int64)} (hf : q_c21 S M O (xs (k + 1)) (xs (k + 2)) (xs (k + 3)) = some r) (kk : q_go p l e s m below meth c b D cI cJ cS (cells + 8) (slots + 60) 1622 k r.1 r.2.1 r.2.2) : q_go p l e s m below meth c b D cI cJ cS cells slots 1441 k S M O := by
  obtain ⟨⟨hx, hb, hr, hml, hown0, hts0, hX, hbl, hlocks, hgv⟩, hlt, hE, hES, hN, hZ⟩ := C1
  have hown : s.vm.findClass RL = some m.cls := hown0
  have hts : ∀ w ∈ wsL_law, w.before #[Value.ref b] s = true := fun w h => hts0 w (wsL_law_in w h)
  have hbA : ¬ (fun q : Nat => s.heap.size ≤ q) b := Nat.not_le.mpr hbl
  intro A g B am k0 H locs ls hg hP hD hS hl
  unfold q_c21 at hf
  refine lv_aload_n hx hb dL_law_1441 rfl (lv_at hl 1 rfl) ?_
  obtain ⟨x, hx1, hf⟩ := q_bd_go hf
  refine q_rdVd (w := wCR cI cJ A S) (ci := 2) (As := []) (rest := []) hx hb hml hown hts (c_X2_spread l D cI cJ cS A S _ hx1) (cwV 0 hts gL_law_X2_spread rfl rfl rfl (by decide +kernel) ⟨(Nat.le_of_ble_eq_true rfl), (Nat.le_of_ble_eq_true rfl)⟩) hE (pW_R hP) rfl rfl rfl hl.1 rfl (Nat.le_of_ble_eq_true rfl) dL_law_1442 ⟨(by show cells + 0 ≤ 601024; omega), (by show slots + 0 ≤ 7293034; omega)⟩ ?_
  refine lv_dstore (lv' := [(5, .double x), (0, .ref b), (1, .ref (A 3 0)), (2, .ref (am 0)), (3, .ref k0), (4, .int (nI k))]) hx hb dL_law_1445 hl (by decide) rfl (fun ls hl => ?_)
  refine lv_aload_n hx hb dL_law_1447 rfl (lv_at hl 3 rfl) ?_
  obtain ⟨y, hy1, hf⟩ := q_bd_go hf
  refine q_wrC (v := (some (.double y.1))) (w := wMD cI cJ am M) (w' := wMD cI cJ am y.2) (ci := 3) (As := []) (rest := []) hx hb hml hown hts (c_X3_spread l D cI cJ cS am M _  _ hy1) (cwV 0 hts gL_law_X3_spread rfl rfl rfl (by decide +kernel) ⟨(Nat.le_of_ble_eq_true rfl), (Nat.le_of_ble_eq_true rfl)⟩) hE (pW_M hP) (dW_M hD) hS (fun _ h => h) (fun H1 hF hk h1 h2 => sW_M hP hD hF hk h1 h2) rfl rfl rfl hl.1 rfl (Nat.le_of_ble_eq_true rfl) dL_law_1448 ⟨(by show cells + 0 ≤ 601024; omega), (by show slots + 0 ≤ 7293034; omega)⟩ (fun H locs hP hD hS => ?_)
  have he := q_gc_in hf
  have hf := q_some (q_ite_t he hf)
  subst hf
  refine lv_dstore (lv' := [(7, .double y.1), (5, .double x), (0, .ref b), (1, .ref (A 3 0)), (2, .ref (am 0)), (3, .ref k0), (4, .int (nI k))]) hx hb dL_law_1451 hl (by decide) rfl (fun ls hl => ?_)
  refine lv_dload hx hb dL_law_1453 (lv_at hl 1 rfl) ?_
  refine lv_dload hx hb dL_law_1455 (lv_at hl 0 rfl) ?_
  refine lv_dcmp hx hb dL_law_1457 ?_
  refine lv_if_eq (tgt := 1479) hx hb dL_law_1458 (by decide) (fun _ => ?_) (fun z9 => absurd he z9)
  refine lv_goto (tgt := 1622) hx hb dL_law_1479 (by decide) ?_
  refine W.widen (k := cells + 8) (n := slots + 60) (by omega) (by omega) ?_
  exact kk A g B am k0 _ _ _ hg hP hD hS (lv_sub hl [2, 3, 4, 5, 6] rfl)
set_option maxRecDepth 100000 in
set_option maxHeartbeats 4000000 in
theorem law_c22 {p : Program} {l : Launch} {e : Env} {s : State} {m : MethodId} {below : List Frame} {meth : Method} {c : Code} {b L : Nat} {xs : Nat → Int32} {D : va_G} {cI cJ cS : ClassId} {sa : Nat → Nat} (C1 : q_cx p l s m meth c b L xs D cI cJ cS sa) (hL : L ≤ 2048) {cells slots k : Nat} (hk3 : k + 3 < L) (hcl : cells + 8 ≤ 601024) (hsl : slots + 60 ≤ 7293034) {S : CM} {M : MD} {O : Nat → Int64} {r : CM × MD × (Nat → Int64)} (hf : q_c22 S M O (xs (k + 1)) (xs (k + 2)) (xs (k + 3)) = some r) (kk : q_go p l e s m below meth c b D cI cJ cS (cells + 8) (slots + 60) 1622 k r.1 r.2.1 r.2.2) : q_go p l e s m below meth c b D cI cJ cS cells slots 1482 k S M O := by
  obtain ⟨⟨hx, hb, hr, hml, hown0, hts0, hX, hbl, hlocks, hgv⟩, hlt, hE, hES, hN, hZ⟩ := C1
  have hown : s.vm.findClass RL = some m.cls := hown0
  have hts : ∀ w ∈ wsL_law, w.before #[Value.ref b] s = true := fun w h => hts0 w (wsL_law_in w h)
  have hbA : ¬ (fun q : Nat => s.heap.size ≤ q) b := Nat.not_le.mpr hbl
  intro A g B am k0 H locs ls hg hP hD hS hl
  unfold q_c22 at hf
  refine lv_aload_n hx hb dL_law_1482 rfl (lv_at hl 1 rfl) ?_
  refine lv_aload_n hx hb dL_law_1483 rfl (lv_at hl 0 rfl) ?_
  refine lv_iload hx hb dL_law_1484 (lv_at hl 4 rfl) ?_
  refine lv_iconst (v := 1) hx hb dL_law_1486 (by decide) ?_
  refine lv_iadd hx hb dL_law_1487 ?_
  refine q_nmi (y := nI (k + 1)) (nI_add k 1) ?_
  refine va_sld hx hb hX hbl hbA hS (vp_in_nI (show k + 1 < L by omega) (by omega)) dL_law_1488 ?_
  refine q_nmi (y := xs (k + 1)) (by rw [nI_clamp (by omega)]) ?_
  refine lv_aload_n hx hb dL_law_1489 rfl (lv_at hl 3 rfl) ?_
  obtain ⟨x, hx1, hf⟩ := q_bd_go hf
  refine q_lawL hP hD hS (fun _ h => h) (vx_runSX (As := [.ref (A 3 0), .int (xs (k + 1)), .ref k0]) (rest := []) ⟨hx, hb, hml, hown, hts⟩ (c_L_append l hlt D cI cJ cS sa A g B hg k0 S O _ (xs (k + 1)) _ hx1) (vx_cwSW 3 hts gL_law_L_append rfl rfl rfl (by decide +kernel) ⟨(Nat.le_of_ble_eq_true rfl), (Nat.le_of_ble_eq_true rfl)⟩) ⟨q_blindL, fun U hU hW => ⟨rfl, ⟨by rw [hU], by rw [hU]; exact pW_L hP, q_E.warm hW hE, (dW_L hD).weaken (fun _ _ _ _ => trivial), q_ES.warm hW hES, by rw [hU]; exact ((hZ.kept (fun a h1 h2 => hS.2.1 a h1 h2)).narrow (fun q h => h.elim (fun ⟨k9, e9, h9⟩ => (dW_L hD).2 k9 _ h9) (fun h => Nat.le_trans hS.1 h))).moved hW.alike⟩, q_EN.moved hW.alike hN⟩⟩ rfl rfl hl.1 rfl (lv_room (Nat.le_of_ble_eq_true rfl)) dL_law_1490 ⟨(by show cells + 2 ≤ 601024; omega), (by show slots + 12 ≤ 7293034; omega)⟩) (fun g2 B2 H locs hg hP hD hS => ?_)
  refine lv_istore (lv' := [(5, .int x.1), (0, .ref b), (1, .ref (A 3 0)), (2, .ref (am 0)), (3, .ref k0), (4, .int (nI k))]) hx hb dL_law_1493 hl (by decide) rfl (fun ls hl => ?_)
  refine lv_aload_n hx hb dL_law_1495 rfl (lv_at hl 3 rfl) ?_
  refine lv_aload_n hx hb dL_law_1496 rfl (lv_at hl 1 rfl) ?_
  refine lv_iload hx hb dL_law_1497 (lv_at hl 5 rfl) ?_
  refine lv_iconst (v := 1) hx hb dL_law_1499 (by decide) ?_
  refine lv_iadd hx hb dL_law_1500 ?_
  refine q_nmi (y := nI (k + 1)) (nI_add k 1) ?_
  refine va_sld hx hb hX hbl hbA hS (vp_in_nI (show k + 1 < L by omega) (by omega)) dL_law_1501 ?_
  refine q_nmi (y := xs (k + 1)) (by rw [nI_clamp (by omega)]) ?_
  obtain ⟨y, hy1, hf⟩ := q_bd_go hf
  refine q_wrC (v := (some (.int y.1))) (w := wMD cI cJ am M) (w' := wMD cI cJ am y.2) (ci := 3) (As := [.int (xs (k + 1))]) (rest := []) hx hb hml hown hts (c_X3_append l D cI cJ cS am M _ (xs (k + 1)) _ hy1) (cwV 1 hts gL_law_X3_append rfl rfl rfl (by decide +kernel) ⟨(Nat.le_of_ble_eq_true rfl), (Nat.le_of_ble_eq_true rfl)⟩) hE (pW_M hP) (dW_M hD) hS (fun _ h => h) (fun H1 hF hk h1 h2 => sW_M hP hD hF hk h1 h2) rfl rfl rfl hl.1 rfl (Nat.le_of_ble_eq_true rfl) dL_law_1502 ⟨(by show cells + 2 + 0 ≤ 601024; omega), (by show slots + 12 + 0 ≤ 7293034; omega)⟩ (fun H locs hP hD hS => ?_)
  refine lv_istore (lv' := [(6, .int y.1), (5, .int x.1), (0, .ref b), (1, .ref (A 3 0)), (2, .ref (am 0)), (3, .ref k0), (4, .int (nI k))]) hx hb dL_law_1505 hl (by decide) rfl (fun ls hl => ?_)
  refine lv_aload_n hx hb dL_law_1507 rfl (lv_at hl 4 rfl) ?_
  refine q_rdVi (w := wMD cI cJ am y.2) (ci := 3) (As := []) (rest := []) hx hb hml hown hts (c_X3_thrown l D cI cJ cS am y.2 (MD_thrown y.2) rfl) (cwV 0 hts gL_law_X3_thrown rfl rfl rfl (by decide +kernel) ⟨(Nat.le_of_ble_eq_true rfl), (Nat.le_of_ble_eq_true rfl)⟩) hE (pW_M hP) rfl rfl rfl hl.1 rfl (Nat.le_of_ble_eq_true rfl) dL_law_1508 ⟨(by show cells + 2 + 0 ≤ 601024; omega), (by show slots + 12 + 0 ≤ 7293034; omega)⟩ ?_
  obtain ⟨he, hr9, hc⟩ := q_okT hf
  subst hr9
  refine lv_iload hx hb dL_law_1511 (lv_at hl 1 rfl) ?_
  refine lv_icmp_eq (tgt := 1518) hx hb dL_law_1513 (by decide) (fun _ => ?_) (fun z9 => absurd he z9)
  refine lv_iload hx hb dL_law_1518 (lv_at hl 1 rfl) ?_
  refine lv_if_ne (tgt := 1535) hx hb dL_law_1520 (by decide) (fun hn => ?_) (fun hz => ?_)
  · refine lv_goto (tgt := 1622) hx hb dL_law_1535 (by decide) ?_
    refine W.widen (k := cells + 8) (n := slots + 60) (by omega) (by omega) ?_
    exact kk A g2 B2 am k0 _ _ _ hg hP hD hS (lv_sub hl [2, 3, 4, 5, 6] rfl)
  · have he := hc hz
    refine lv_aload_n hx hb dL_law_1523 rfl (lv_at hl 5 rfl) ?_
    refine lv_iconst (v := 0) hx hb dL_law_1524 (by decide) ?_
    refine va_lald hx hb hE.1 hP 0 1 rfl rfl (by unfold vp_in; decide) dL_law_1525 ?_
    refine lv_iload hx hb dL_law_1526 (lv_at hl 0 rfl) ?_
    refine lv_i2l (v := ((y.1 : Int32).toInt64)) hx hb dL_law_1528 rfl ?_
    refine W.lcmp hx hb dL_law_1529 ?_
    refine lv_if_eq (tgt := 1535) hx hb dL_law_1530 (by decide) (fun _ => ?_) (fun z9 => absurd he z9)
    refine lv_goto (tgt := 1622) hx hb dL_law_1535 (by decide) ?_
    refine W.widen (k := cells + 8) (n := slots + 60) (by omega) (by omega) ?_
    exact kk A g2 B2 am k0 _ _ _ hg hP hD hS (lv_sub hl [2, 3, 4, 5, 6] rfl)
set_option maxRecDepth 100000 in
set_option maxHeartbeats 4000000 in
theorem law_c23 {p : Program} {l : Launch} {e : Env} {s : State} {m : MethodId} {below : List Frame} {meth : Method} {c : Code} {b L : Nat} {xs : Nat → Int32} {D : va_G} {cI cJ cS : ClassId} {sa : Nat → Nat} (C1 : q_cx p l s m meth c b L xs D cI cJ cS sa) (hL : L ≤ 2048) {cells slots k : Nat} (hk3 : k + 3 < L) (hcl : cells + 8 ≤ 601024) (hsl : slots + 60 ≤ 7293034) {S : CM} {M : MD} {O : Nat → Int64} {r : CM × MD × (Nat → Int64)} (hf : q_c23 S M O (xs (k + 1)) (xs (k + 2)) (xs (k + 3)) = some r) (kk : q_go p l e s m below meth c b D cI cJ cS (cells + 8) (slots + 60) 1622 k r.1 r.2.1 r.2.2) : q_go p l e s m below meth c b D cI cJ cS cells slots 1538 k S M O := by
  obtain ⟨⟨hx, hb, hr, hml, hown0, hts0, hX, hbl, hlocks, hgv⟩, hlt, hE, hES, hN, hZ⟩ := C1
  have hown : s.vm.findClass RL = some m.cls := hown0
  have hts : ∀ w ∈ wsL_law, w.before #[Value.ref b] s = true := fun w h => hts0 w (wsL_law_in w h)
  have hbA : ¬ (fun q : Nat => s.heap.size ≤ q) b := Nat.not_le.mpr hbl
  intro A g B am k0 H locs ls hg hP hD hS hl
  unfold q_c23 at hf
  refine lv_aload_n hx hb dL_law_1538 rfl (lv_at hl 1 rfl) ?_
  obtain ⟨x, hx1, hf⟩ := q_bd_go hf
  refine q_lawC (v := some (.int x.1)) hP hD hS (fun _ h => h) (va_runV (As := []) (rest := []) ⟨hx, hb, hml, hown, hts⟩ (c_X2_clearText l hlt D cI cJ cS sa A g B hg S _ _ hx1) (cwV 0 hts gL_law_X2_clearText rfl rfl rfl (by decide +kernel) ⟨(Nat.le_of_ble_eq_true rfl), (Nat.le_of_ble_eq_true rfl)⟩) ⟨q_blindWX, va_recv hE.1 (pW_C hP) (ci := 2) (q0 := 0) rfl rfl, fun U hU hW => ⟨rfl, by rw [hU], by rw [hU]; exact pW_C hP, q_E.warm hW hE, (dW_C hD).weaken (fun _ _ _ _ => trivial), q_ES.warm hW hES, by rw [hU]; exact ((hZ.kept (fun a h1 h2 => hS.2.1 a h1 h2)).narrow (fun q h => h.elim (fun ⟨k9, e9, h9⟩ => (dW_C hD).2 k9 _ h9) (fun h => Nat.le_trans hS.1 h))).moved hW.alike⟩⟩ rfl rfl hl.1 rfl (lv_room (Nat.le_of_ble_eq_true rfl)) dL_law_1539 ⟨(by show cells + 0 ≤ 601024; omega), (by show slots + 0 ≤ 7293034; omega)⟩) (fun g2 B2 H locs hg hP hD hS => ?_)
  refine lv_aload_n hx hb dL_law_1542 rfl (lv_at hl 2 rfl) ?_
  obtain ⟨y, hy1, hf⟩ := q_bd_go hf
  refine q_wrC (v := (some (.int y.1))) (w := wMD cI cJ am M) (w' := wMD cI cJ am y.2) (ci := 3) (As := []) (rest := [.int x.1]) hx hb hml hown hts (c_X3_clearText l D cI cJ cS am M _  _ hy1) (cwV 0 hts gL_law_X3_clearText rfl rfl rfl (by decide +kernel) ⟨(Nat.le_of_ble_eq_true rfl), (Nat.le_of_ble_eq_true rfl)⟩) hE (pW_M hP) (dW_M hD) hS (fun _ h => h) (fun H1 hF hk h1 h2 => sW_M hP hD hF hk h1 h2) rfl rfl rfl hl.1 rfl (Nat.le_of_ble_eq_true rfl) dL_law_1543 ⟨(by show cells + 0 ≤ 601024; omega), (by show slots + 0 ≤ 7293034; omega)⟩ (fun H locs hP hD hS => ?_)
  have he := q_gc_in hf
  have hf := q_some (q_ite_t he hf)
  subst hf
  refine lv_icmp_eq (tgt := 1622) hx hb dL_law_1546 (by decide) (fun _ => ?_) (fun z9 => absurd he z9)
  refine W.widen (k := cells + 8) (n := slots + 60) (by omega) (by omega) ?_
  exact kk A g2 B2 am k0 _ _ _ hg hP hD hS (lv_sub hl [0, 1, 2, 3, 4] rfl)
set_option maxRecDepth 100000 in
set_option maxHeartbeats 4000000 in
theorem law_c24 {p : Program} {l : Launch} {e : Env} {s : State} {m : MethodId} {below : List Frame} {meth : Method} {c : Code} {b L : Nat} {xs : Nat → Int32} {D : va_G} {cI cJ cS : ClassId} {sa : Nat → Nat} (C1 : q_cx p l s m meth c b L xs D cI cJ cS sa) (hL : L ≤ 2048) {cells slots k : Nat} (hk3 : k + 3 < L) (hcl : cells + 8 ≤ 601024) (hsl : slots + 60 ≤ 7293034) {S : CM} {M : MD} {O : Nat → Int64} {r : CM × MD × (Nat → Int64)} (hf : q_c24 S M O (xs (k + 1)) (xs (k + 2)) (xs (k + 3)) = some r) (kk : q_go p l e s m below meth c b D cI cJ cS (cells + 8) (slots + 60) 1622 k r.1 r.2.1 r.2.2) : q_go p l e s m below meth c b D cI cJ cS cells slots 1551 k S M O := by
  obtain ⟨⟨hx, hb, hr, hml, hown0, hts0, hX, hbl, hlocks, hgv⟩, hlt, hE, hES, hN, hZ⟩ := C1
  have hown : s.vm.findClass RL = some m.cls := hown0
  have hts : ∀ w ∈ wsL_law, w.before #[Value.ref b] s = true := fun w h => hts0 w (wsL_law_in w h)
  have hbA : ¬ (fun q : Nat => s.heap.size ≤ q) b := Nat.not_le.mpr hbl
  intro A g B am k0 H locs ls hg hP hD hS hl
  unfold q_c24 at hf
  refine lv_aload_n hx hb dL_law_1551 rfl (lv_at hl 1 rfl) ?_
  obtain ⟨x, hx1, hf⟩ := q_bd_go hf
  refine q_lawC (v := some (.int x.1)) hP hD hS (fun _ h => h) (va_runV (As := []) (rest := []) ⟨hx, hb, hml, hown, hts⟩ (c_X2_carryOut l hlt D cI cJ cS sa A g B hg S _ _ hx1) (cwV 0 hts gL_law_X2_carryOut rfl rfl rfl (by decide +kernel) ⟨(Nat.le_of_ble_eq_true rfl), (Nat.le_of_ble_eq_true rfl)⟩) ⟨q_blindWX, va_recv hE.1 (pW_C hP) (ci := 2) (q0 := 0) rfl rfl, fun U hU hW => ⟨rfl, by rw [hU], by rw [hU]; exact pW_C hP, q_E.warm hW hE, (dW_C hD).weaken (fun _ _ _ _ => trivial), q_ES.warm hW hES, by rw [hU]; exact ((hZ.kept (fun a h1 h2 => hS.2.1 a h1 h2)).narrow (fun q h => h.elim (fun ⟨k9, e9, h9⟩ => (dW_C hD).2 k9 _ h9) (fun h => Nat.le_trans hS.1 h))).moved hW.alike⟩⟩ rfl rfl hl.1 rfl (lv_room (Nat.le_of_ble_eq_true rfl)) dL_law_1552 ⟨(by show cells + 0 ≤ 601024; omega), (by show slots + 0 ≤ 7293034; omega)⟩) (fun g2 B2 H locs hg hP hD hS => ?_)
  refine lv_aload_n hx hb dL_law_1555 rfl (lv_at hl 2 rfl) ?_
  obtain ⟨y, hy1, hf⟩ := q_bd_go hf
  refine q_wrC (v := (some (.int y.1))) (w := wMD cI cJ am M) (w' := wMD cI cJ am y.2) (ci := 3) (As := []) (rest := [.int x.1]) hx hb hml hown hts (c_X3_carryOut l D cI cJ cS am M _  _ hy1) (cwV 0 hts gL_law_X3_carryOut rfl rfl rfl (by decide +kernel) ⟨(Nat.le_of_ble_eq_true rfl), (Nat.le_of_ble_eq_true rfl)⟩) hE (pW_M hP) (dW_M hD) hS (fun _ h => h) (fun H1 hF hk h1 h2 => sW_M hP hD hF hk h1 h2) rfl rfl rfl hl.1 rfl (Nat.le_of_ble_eq_true rfl) dL_law_1556 ⟨(by show cells + 0 ≤ 601024; omega), (by show slots + 0 ≤ 7293034; omega)⟩ (fun H locs hP hD hS => ?_)
  have he := q_gc_in hf
  have hf := q_some (q_ite_t he hf)
  subst hf
  refine lv_icmp_eq (tgt := 1622) hx hb dL_law_1559 (by decide) (fun _ => ?_) (fun z9 => absurd he z9)
  refine W.widen (k := cells + 8) (n := slots + 60) (by omega) (by omega) ?_
  exact kk A g2 B2 am k0 _ _ _ hg hP hD hS (lv_sub hl [0, 1, 2, 3, 4] rfl)
set_option maxRecDepth 100000 in
set_option maxHeartbeats 4000000 in
theorem law_c25 {p : Program} {l : Launch} {e : Env} {s : State} {m : MethodId} {below : List Frame} {meth : Method} {c : Code} {b L : Nat} {xs : Nat → Int32} {D : va_G} {cI cJ cS : ClassId} {sa : Nat → Nat} (C1 : q_cx p l s m meth c b L xs D cI cJ cS sa) (hL : L ≤ 2048) {cells slots k : Nat} (hk3 : k + 3 < L) (hcl : cells + 8 ≤ 601024) (hsl : slots + 60 ≤ 7293034) {S : CM} {M : MD} {O : Nat → Int64} {r : CM × MD × (Nat → Int64)} (hf : q_c25 S M O (xs (k + 1)) (xs (k + 2)) (xs (k + 3)) = some r) (kk : q_go p l e s m below meth c b D cI cJ cS (cells + 8) (slots + 60) 1622 k r.1 r.2.1 r.2.2) : q_go p l e s m below meth c b D cI cJ cS cells slots 1564 k S M O := by
  obtain ⟨⟨hx, hb, hr, hml, hown0, hts0, hX, hbl, hlocks, hgv⟩, hlt, hE, hES, hN, hZ⟩ := C1
  have hown : s.vm.findClass RL = some m.cls := hown0
  have hts : ∀ w ∈ wsL_law, w.before #[Value.ref b] s = true := fun w h => hts0 w (wsL_law_in w h)
  have hbA : ¬ (fun q : Nat => s.heap.size ≤ q) b := Nat.not_le.mpr hbl
  intro A g B am k0 H locs ls hg hP hD hS hl
  unfold q_c25 at hf
  refine lv_aload_n hx hb dL_law_1564 rfl (lv_at hl 1 rfl) ?_
  refine lv_aload_n hx hb dL_law_1565 rfl (lv_at hl 3 rfl) ?_
  obtain ⟨x, hx1, hf⟩ := q_bd_go hf
  refine q_lawL hP hD hS (fun _ h => h) (vx_runSX (As := [.ref (A 3 0), .ref k0]) (rest := []) ⟨hx, hb, hml, hown, hts⟩ (c_L_undo l hlt D cI cJ cS sa A g B hg k0 S O _  _ hx1) (vx_cwSW 2 hts gL_law_L_undo rfl rfl rfl (by decide +kernel) ⟨(Nat.le_of_ble_eq_true rfl), (Nat.le_of_ble_eq_true rfl)⟩) ⟨q_blindL, fun U hU hW => ⟨rfl, ⟨by rw [hU], by rw [hU]; exact pW_L hP, q_E.warm hW hE, (dW_L hD).weaken (fun _ _ _ _ => trivial), q_ES.warm hW hES, by rw [hU]; exact ((hZ.kept (fun a h1 h2 => hS.2.1 a h1 h2)).narrow (fun q h => h.elim (fun ⟨k9, e9, h9⟩ => (dW_L hD).2 k9 _ h9) (fun h => Nat.le_trans hS.1 h))).moved hW.alike⟩, q_EN.moved hW.alike hN⟩⟩ rfl rfl hl.1 rfl (lv_room (Nat.le_of_ble_eq_true rfl)) dL_law_1566 ⟨(by show cells + 1 ≤ 601024; omega), (by show slots + 6 ≤ 7293034; omega)⟩) (fun g2 B2 H locs hg hP hD hS => ?_)
  refine lv_istore (lv' := [(5, .int x.1), (0, .ref b), (1, .ref (A 3 0)), (2, .ref (am 0)), (3, .ref k0), (4, .int (nI k))]) hx hb dL_law_1569 hl (by decide) rfl (fun ls hl => ?_)
  refine lv_aload_n hx hb dL_law_1571 rfl (lv_at hl 3 rfl) ?_
  obtain ⟨y, hy1, hf⟩ := q_bd_go hf
  refine q_wrC (v := (some (.int y.1))) (w := wMD cI cJ am M) (w' := wMD cI cJ am y.2) (ci := 3) (As := []) (rest := []) hx hb hml hown hts (c_X3_undo l D cI cJ cS am M _  _ hy1) (cwV 0 hts gL_law_X3_undo rfl rfl rfl (by decide +kernel) ⟨(Nat.le_of_ble_eq_true rfl), (Nat.le_of_ble_eq_true rfl)⟩) hE (pW_M hP) (dW_M hD) hS (fun _ h => h) (fun H1 hF hk h1 h2 => sW_M hP hD hF hk h1 h2) rfl rfl rfl hl.1 rfl (Nat.le_of_ble_eq_true rfl) dL_law_1572 ⟨(by show cells + 1 + 0 ≤ 601024; omega), (by show slots + 6 + 0 ≤ 7293034; omega)⟩ (fun H locs hP hD hS => ?_)
  refine lv_istore (lv' := [(6, .int y.1), (5, .int x.1), (0, .ref b), (1, .ref (A 3 0)), (2, .ref (am 0)), (3, .ref k0), (4, .int (nI k))]) hx hb dL_law_1575 hl (by decide) rfl (fun ls hl => ?_)
  refine lv_aload_n hx hb dL_law_1577 rfl (lv_at hl 4 rfl) ?_
  refine q_rdVi (w := wMD cI cJ am y.2) (ci := 3) (As := []) (rest := []) hx hb hml hown hts (c_X3_thrown l D cI cJ cS am y.2 (MD_thrown y.2) rfl) (cwV 0 hts gL_law_X3_thrown rfl rfl rfl (by decide +kernel) ⟨(Nat.le_of_ble_eq_true rfl), (Nat.le_of_ble_eq_true rfl)⟩) hE (pW_M hP) rfl rfl rfl hl.1 rfl (Nat.le_of_ble_eq_true rfl) dL_law_1578 ⟨(by show cells + 1 + 0 ≤ 601024; omega), (by show slots + 6 + 0 ≤ 7293034; omega)⟩ ?_
  obtain ⟨he, hr9, hc⟩ := q_okT hf
  subst hr9
  refine lv_iload hx hb dL_law_1581 (lv_at hl 1 rfl) ?_
  refine lv_icmp_eq (tgt := 1588) hx hb dL_law_1583 (by decide) (fun _ => ?_) (fun z9 => absurd he z9)
  refine lv_iload hx hb dL_law_1588 (lv_at hl 1 rfl) ?_
  refine lv_if_ne (tgt := 1605) hx hb dL_law_1590 (by decide) (fun hn => ?_) (fun hz => ?_)
  · refine lv_goto (tgt := 1622) hx hb dL_law_1605 (by decide) ?_
    refine W.widen (k := cells + 8) (n := slots + 60) (by omega) (by omega) ?_
    exact kk A g2 B2 am k0 _ _ _ hg hP hD hS (lv_sub hl [2, 3, 4, 5, 6] rfl)
  · have he := hc hz
    refine lv_aload_n hx hb dL_law_1593 rfl (lv_at hl 5 rfl) ?_
    refine lv_iconst (v := 0) hx hb dL_law_1594 (by decide) ?_
    refine va_lald hx hb hE.1 hP 0 1 rfl rfl (by unfold vp_in; decide) dL_law_1595 ?_
    refine lv_iload hx hb dL_law_1596 (lv_at hl 0 rfl) ?_
    refine lv_i2l (v := ((y.1 : Int32).toInt64)) hx hb dL_law_1598 rfl ?_
    refine W.lcmp hx hb dL_law_1599 ?_
    refine lv_if_eq (tgt := 1605) hx hb dL_law_1600 (by decide) (fun _ => ?_) (fun z9 => absurd he z9)
    refine lv_goto (tgt := 1622) hx hb dL_law_1605 (by decide) ?_
    refine W.widen (k := cells + 8) (n := slots + 60) (by omega) (by omega) ?_
    exact kk A g2 B2 am k0 _ _ _ hg hP hD hS (lv_sub hl [2, 3, 4, 5, 6] rfl)
set_option maxRecDepth 100000 in
set_option maxHeartbeats 4000000 in
theorem law_c26 {p : Program} {l : Launch} {e : Env} {s : State} {m : MethodId} {below : List Frame} {meth : Method} {c : Code} {b L : Nat} {xs : Nat → Int32} {D : va_G} {cI cJ cS : ClassId} {sa : Nat → Nat} (C1 : q_cx p l s m meth c b L xs D cI cJ cS sa) (hL : L ≤ 2048) {cells slots k : Nat} (hk3 : k + 3 < L) (hcl : cells + 8 ≤ 601024) (hsl : slots + 60 ≤ 7293034) {S : CM} {M : MD} {O : Nat → Int64} {r : CM × MD × (Nat → Int64)} (hf : q_c26 S M O (xs (k + 1)) (xs (k + 2)) (xs (k + 3)) = some r) (kk : q_go p l e s m below meth c b D cI cJ cS (cells + 8) (slots + 60) 1622 k r.1 r.2.1 r.2.2) : q_go p l e s m below meth c b D cI cJ cS cells slots 1608 k S M O := by
  obtain ⟨⟨hx, hb, hr, hml, hown0, hts0, hX, hbl, hlocks, hgv⟩, hlt, hE, hES, hN, hZ⟩ := C1
  have hown : s.vm.findClass RL = some m.cls := hown0
  have hts : ∀ w ∈ wsL_law, w.before #[Value.ref b] s = true := fun w h => hts0 w (wsL_law_in w h)
  have hbA : ¬ (fun q : Nat => s.heap.size ≤ q) b := Nat.not_le.mpr hbl
  intro A g B am k0 H locs ls hg hP hD hS hl
  unfold q_c26 at hf
  refine lv_aload_n hx hb dL_law_1608 rfl (lv_at hl 1 rfl) ?_
  obtain ⟨x, hx1, hf⟩ := q_bd_go hf
  refine q_rdVl (w := wCR cI cJ A S) (ci := 2) (As := []) (rest := []) hx hb hml hown hts (c_X2_digest l D cI cJ cS A S _ hx1) (cwV 0 hts gL_law_X2_digest rfl rfl rfl (by decide +kernel) ⟨(Nat.le_of_ble_eq_true rfl), (Nat.le_of_ble_eq_true rfl)⟩) hE (pW_R hP) rfl rfl rfl hl.1 rfl (Nat.le_of_ble_eq_true rfl) dL_law_1609 ⟨(by show cells + 0 ≤ 601024; omega), (by show slots + 0 ≤ 7293034; omega)⟩ ?_
  refine lv_aload_n hx hb dL_law_1612 rfl (lv_at hl 2 rfl) ?_
  obtain ⟨y, hy1, hf⟩ := q_bd_go hf
  refine q_wrC (v := (some (.long y.1))) (w := wMD cI cJ am M) (w' := wMD cI cJ am y.2) (ci := 3) (As := []) (rest := [.long x]) hx hb hml hown hts (c_X3_digest l D cI cJ cS am M _  _ hy1) (cwV 0 hts gL_law_X3_digest rfl rfl rfl (by decide +kernel) ⟨(Nat.le_of_ble_eq_true rfl), (Nat.le_of_ble_eq_true rfl)⟩) hE (pW_M hP) (dW_M hD) hS (fun _ h => h) (fun H1 hF hk h1 h2 => sW_M hP hD hF hk h1 h2) rfl rfl rfl hl.1 rfl (Nat.le_of_ble_eq_true rfl) dL_law_1613 ⟨(by show cells + 0 ≤ 601024; omega), (by show slots + 0 ≤ 7293034; omega)⟩ (fun H locs hP hD hS => ?_)
  have he := q_gc_in hf
  have hf := q_some (q_ite_t he hf)
  subst hf
  refine W.lcmp hx hb dL_law_1616 ?_
  refine lv_if_eq (tgt := 1622) hx hb dL_law_1617 (by decide) (fun _ => ?_) (fun z9 => absurd he z9)
  refine W.widen (k := cells + 8) (n := slots + 60) (by omega) (by omega) ?_
  exact kk A g B am k0 _ _ _ hg hP hD hS (lv_sub hl [0, 1, 2, 3, 4] rfl)
