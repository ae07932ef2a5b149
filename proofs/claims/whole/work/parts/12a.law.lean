def q_c0 (S : CM) (M : MD) (O : Nat → Int64) (a1 a2 a3 : Int32) : Option (CM × MD × (Nat → Int64)) := (f_L_set S O a1 a2).bind fun x => (f_X3_set M a1 a2).bind fun y => q_ok x ((y.1 : Int32).toInt64) y.2
def q_c1 (S : CM) (M : MD) (O : Nat → Int64) (a1 a2 a3 : Int32) : Option (CM × MD × (Nat → Int64)) := (f_L_addPerson S O ((((a1 : Int32).toInt64) <<< ((32 : Int32).toInt64 &&& 63)) ||| (((a2 : Int32).toInt64) &&& 4294967295))).bind fun x => (f_X3_addPerson M ((((a1 : Int32).toInt64) <<< ((32 : Int32).toInt64 &&& 63)) ||| (((a2 : Int32).toInt64) &&& 4294967295))).bind fun y => q_ok x ((y.1 : Int32).toInt64) y.2
def q_c2 (S : CM) (M : MD) (O : Nat → Int64) (a1 a2 a3 : Int32) : Option (CM × MD × (Nat → Int64)) := if a3 = 0 then ((f_L_roster S O a1 a2 0).bind fun x => (f_X3_roster M a1 a2 0).bind fun y => q_ok x ((y.1 : Int32).toInt64) y.2) else ((f_L_roster S O a1 a2 1).bind fun x => (f_X3_roster M a1 a2 1).bind fun y => q_ok x ((y.1 : Int32).toInt64) y.2)
def q_c3 (S : CM) (M : MD) (O : Nat → Int64) (a1 a2 a3 : Int32) : Option (CM × MD × (Nat → Int64)) := (f_L_absent S O a1 a2).bind fun x => (f_X3_absent M a1 a2).bind fun y => q_ok x ((y.1 : Int32).toInt64) y.2
def q_c4 (S : CM) (M : MD) (O : Nat → Int64) (a1 a2 a3 : Int32) : Option (CM × MD × (Nat → Int64)) := (f_L_bid S O a1 a2 a3).bind fun x => (f_X3_bid M a1 a2 a3).bind fun y => q_ok x ((y.1 : Int32).toInt64) y.2
def q_c5 (S : CM) (M : MD) (O : Nat → Int64) (a1 a2 a3 : Int32) : Option (CM × MD × (Nat → Int64)) := (f_L_takeBack S O a1 a2).bind fun x => (f_X3_takeBack M a1 a2).bind fun y => q_ok x ((y.1 : Int32).toInt64) y.2
def q_c6 (S : CM) (M : MD) (O : Nat → Int64) (a1 a2 a3 : Int32) : Option (CM × MD × (Nat → Int64)) := (f_L_cover S O a1).bind fun x => (f_X3_cover M a1).bind fun y => q_ok x ((y.1 : Int32).toInt64) y.2
def q_c7 (S : CM) (M : MD) (O : Nat → Int64) (a1 a2 a3 : Int32) : Option (CM × MD × (Nat → Int64)) := (f_X2_coverAll S).bind fun x => (f_X3_coverAll M).bind fun y => if x.1 = y.1 then some (x.2, y.2, O) else none
def q_c8 (S : CM) (M : MD) (O : Nat → Int64) (a1 a2 a3 : Int32) : Option (CM × MD × (Nat → Int64)) := (f_L_handOver S O a1 a2).bind fun x => (f_X3_handOver M a1 a2).bind fun y => q_ok x ((y.1 : Int32).toInt64) y.2
def q_c9 (S : CM) (M : MD) (O : Nat → Int64) (a1 a2 a3 : Int32) : Option (CM × MD × (Nat → Int64)) := (f_L_giveUp S O a1).bind fun x => (f_X3_giveUp M a1).bind fun y => q_ok x ((y.1 : Int32).toInt64) y.2
def q_c10 (S : CM) (M : MD) (O : Nat → Int64) (a1 a2 a3 : Int32) : Option (CM × MD × (Nat → Int64)) := (f_L_person S O a1 a2).bind fun x => (f_X3_person M a1 a2).bind fun y => q_ok x ((y.1 : Int32).toInt64) y.2
def q_c11 (S : CM) (M : MD) (O : Nat → Int64) (a1 a2 a3 : Int32) : Option (CM × MD × (Nat → Int64)) := (f_L_work S O a1).bind fun x => (f_X3_work M a1).bind fun y => q_ok x y.1 y.2
def q_c12 (S : CM) (M : MD) (O : Nat → Int64) (a1 a2 a3 : Int32) : Option (CM × MD × (Nat → Int64)) := (f_L_absence S O a1 a2).bind fun x => (f_X3_absence M a1 a2).bind fun y => q_ok x ((y.1 : Int32).toInt64) y.2
def q_c13 (S : CM) (M : MD) (O : Nat → Int64) (a1 a2 a3 : Int32) : Option (CM × MD × (Nat → Int64)) := (f_L_bidOf S O a1 a2).bind fun x => (f_X3_bidOf M a1 a2).bind fun y => q_ok x ((y.1 : Int32).toInt64) y.2
def q_c14 (S : CM) (M : MD) (O : Nat → Int64) (a1 a2 a3 : Int32) : Option (CM × MD × (Nat → Int64)) := (f_L_why S O a1 a2).bind fun x => (f_X3_why M a1 a2).bind fun y => q_ok x ((y.1 : Int32).toInt64) y.2
def q_c15 (S : CM) (M : MD) (O : Nat → Int64) (a1 a2 a3 : Int32) : Option (CM × MD × (Nat → Int64)) := (f_L_value S O a1).bind fun x => (f_X3_value M a1).bind fun y => q_ok x ((y.1 : Int32).toInt64) y.2
def q_c16 (S : CM) (M : MD) (O : Nat → Int64) (a1 a2 a3 : Int32) : Option (CM × MD × (Nat → Int64)) := (f_L_setting S O a1).bind fun x => (f_X3_setting M a1).bind fun y => q_ok x ((y.1 : Int32).toInt64) y.2
def q_c17 (S : CM) (M : MD) (O : Nat → Int64) (a1 a2 a3 : Int32) : Option (CM × MD × (Nat → Int64)) := (f_L_coverer S O a1).bind fun x => (f_X3_coverer M a1).bind fun y => q_ok x ((y.1 : Int32).toInt64) y.2
def q_c18 (S : CM) (M : MD) (O : Nat → Int64) (a1 a2 a3 : Int32) : Option (CM × MD × (Nat → Int64)) := (f_L_coveredWith S O a1).bind fun x => (f_X3_coveredWith M a1).bind fun y => q_ok x ((y.1 : Int32).toInt64) y.2
def q_c19 (S : CM) (M : MD) (O : Nat → Int64) (a1 a2 a3 : Int32) : Option (CM × MD × (Nat → Int64)) := (f_X2_mostCovered S).bind fun x => (f_X3_mostCovered M).bind fun y => if x.1 = y.1 then some (x.2, y.2, O) else none
def q_c20 (S : CM) (M : MD) (O : Nat → Int64) (a1 a2 a3 : Int32) : Option (CM × MD × (Nat → Int64)) := (f_L_freeShifts S O a1).bind fun x => (f_X3_freeShifts M a1).bind fun y => q_ok x ((y.1 : Int32).toInt64) y.2
def q_c21 (S : CM) (M : MD) (O : Nat → Int64) (a1 a2 a3 : Int32) : Option (CM × MD × (Nat → Int64)) := (f_X2_spread S).bind fun x => (f_X3_spread M).bind fun y => if Op.cmpValue (FP.dcmp x y.1) .l = 0 then some (S, y.2, O) else none
def q_c22 (S : CM) (M : MD) (O : Nat → Int64) (a1 a2 a3 : Int32) : Option (CM × MD × (Nat → Int64)) := (f_L_append S O a1).bind fun x => (f_X3_append M a1).bind fun y => q_ok x ((y.1 : Int32).toInt64) y.2
def q_c23 (S : CM) (M : MD) (O : Nat → Int64) (a1 a2 a3 : Int32) : Option (CM × MD × (Nat → Int64)) := (f_X2_clearText S).bind fun x => (f_X3_clearText M).bind fun y => if x.1 = y.1 then some (x.2, y.2, O) else none
def q_c24 (S : CM) (M : MD) (O : Nat → Int64) (a1 a2 a3 : Int32) : Option (CM × MD × (Nat → Int64)) := (f_X2_carryOut S).bind fun x => (f_X3_carryOut M).bind fun y => if x.1 = y.1 then some (x.2, y.2, O) else none
def q_c25 (S : CM) (M : MD) (O : Nat → Int64) (a1 a2 a3 : Int32) : Option (CM × MD × (Nat → Int64)) := (f_L_undo S O ).bind fun x => (f_X3_undo M ).bind fun y => q_ok x ((y.1 : Int32).toInt64) y.2
def q_c26 (S : CM) (M : MD) (O : Nat → Int64) (a1 a2 a3 : Int32) : Option (CM × MD × (Nat → Int64)) := (f_X2_digest S).bind fun x => (f_X3_digest M).bind fun y => if lg_cmp x y.1 = 0 then some (S, y.2, O) else none
set_option maxRecDepth 100000 in
set_option maxHeartbeats 4000000 in
theorem law_c0 {p : Program} {l : Launch} {e : Env} {s : State} {m : MethodId} {below : List Frame} {meth : Method} {c : Code} {b L : Nat} {xs : Nat → Int32} {D : va_G} {cI cJ cS : ClassId} {sa : Nat → Nat} (C1 : q_cx p l s m meth c b L xs D cI cJ cS sa) (hL : L ≤ 2048) {cells slots k : Nat} (hk3 : k + 3 < L) (hcl : cells + 8 ≤ 601024) (hsl : slots + 60 ≤ 7293034) {S : CM} {M : MD} {O : Nat → Int64} {r : CM × MD × (Nat → Int64)} (hf : q_c0 S M O (xs (k + 1)) (xs (k + 2)) (xs (k + 3)) = some r) (kk : q_go p l e s m below meth c b D cI cJ cS (cells + 8) (slots + 60) 1622 k r.1 r.2.1 r.2.2) : q_go p l e s m below meth c b D cI cJ cS cells slots 160 k S M O := by
  obtain ⟨⟨hx, hb, hr, hml, hown0, hts0, hX, hbl, hlocks, hgv⟩, hlt, hE, hES, hN, hZ⟩ := C1
  have hown : s.vm.findClass RL = some m.cls := hown0
  have hts : ∀ w ∈ wsL_law, w.before #[Value.ref b] s = true := fun w h => hts0 w (wsL_law_in w h)
  have hbA : ¬ (fun q : Nat => s.heap.size ≤ q) b := Nat.not_le.mpr hbl
  intro A g B am k0 H locs ls hg hP hD hS hl
  unfold q_c0 at hf
  refine lv_aload_n hx hb dL_law_160 rfl (lv_at hl 1 rfl) ?_
  refine lv_aload_n hx hb dL_law_161 rfl (lv_at hl 0 rfl) ?_
  refine lv_iload hx hb dL_law_162 (lv_at hl 4 rfl) ?_
  refine lv_iconst (v := 1) hx hb dL_law_164 (by decide) ?_
  refine lv_iadd hx hb dL_law_165 ?_
  refine q_nmi (y := nI (k + 1)) (nI_add k 1) ?_
  refine va_sld hx hb hX hbl hbA hS (vp_in_nI (show k + 1 < L by omega) (by omega)) dL_law_166 ?_
  refine q_nmi (y := xs (k + 1)) (by rw [nI_clamp (by omega)]) ?_
  refine lv_aload_n hx hb dL_law_167 rfl (lv_at hl 0 rfl) ?_
  refine lv_iload hx hb dL_law_168 (lv_at hl 4 rfl) ?_
  refine lv_iconst (v := 2) hx hb dL_law_170 (by decide) ?_
  refine lv_iadd hx hb dL_law_171 ?_
  refine q_nmi (y := nI (k + 2)) (nI_add k 2) ?_
  refine va_sld hx hb hX hbl hbA hS (vp_in_nI (show k + 2 < L by omega) (by omega)) dL_law_172 ?_
  refine q_nmi (y := xs (k + 2)) (by rw [nI_clamp (by omega)]) ?_
  refine lv_aload_n hx hb dL_law_173 rfl (lv_at hl 3 rfl) ?_
  obtain ⟨x, hx1, hf⟩ := q_bd_go hf
  refine q_lawL hP hD hS (fun _ h => h) (vx_runSX (As := [.ref (A 3 0), .int (xs (k + 1)), .int (xs (k + 2)), .ref k0]) (rest := []) ⟨hx, hb, hml, hown, hts⟩ (c_L_set l hlt D cI cJ cS sa A g B hg k0 S O _ (xs (k + 1)) (xs (k + 2)) _ hx1) (vx_cwSW 4 hts gL_law_L_set rfl rfl rfl (by decide +kernel) ⟨(Nat.le_of_ble_eq_true rfl), (Nat.le_of_ble_eq_true rfl)⟩) ⟨q_blindL, fun U hU hW => ⟨rfl, ⟨by rw [hU], by rw [hU]; exact pW_L hP, q_E.warm hW hE, (dW_L hD).weaken (fun _ _ _ _ => trivial), q_ES.warm hW hES, by rw [hU]; exact ((hZ.kept (fun a h1 h2 => hS.2.1 a h1 h2)).narrow (fun q h => h.elim (fun ⟨k9, e9, h9⟩ => (dW_L hD).2 k9 _ h9) (fun h => Nat.le_trans hS.1 h))).moved hW.alike⟩, q_EN.moved hW.alike hN⟩⟩ rfl rfl hl.1 rfl (lv_room (Nat.le_of_ble_eq_true rfl)) dL_law_174 ⟨(by show cells + 2 ≤ 601024; omega), (by show slots + 12 ≤ 7293034; omega)⟩) (fun g2 B2 H locs hg hP hD hS => ?_)
  refine lv_istore (lv' := [(5, .int x.1), (0, .ref b), (1, .ref (A 3 0)), (2, .ref (am 0)), (3, .ref k0), (4, .int (nI k))]) hx hb dL_law_177 hl (by decide) rfl (fun ls hl => ?_)
  refine lv_aload_n hx hb dL_law_179 rfl (lv_at hl 3 rfl) ?_
  refine lv_aload_n hx hb dL_law_180 rfl (lv_at hl 1 rfl) ?_
  refine lv_iload hx hb dL_law_181 (lv_at hl 5 rfl) ?_
  refine lv_iconst (v := 1) hx hb dL_law_183 (by decide) ?_
  refine lv_iadd hx hb dL_law_184 ?_
  refine q_nmi (y := nI (k + 1)) (nI_add k 1) ?_
  refine va_sld hx hb hX hbl hbA hS (vp_in_nI (show k + 1 < L by omega) (by omega)) dL_law_185 ?_
  refine q_nmi (y := xs (k + 1)) (by rw [nI_clamp (by omega)]) ?_
  refine lv_aload_n hx hb dL_law_186 rfl (lv_at hl 1 rfl) ?_
  refine lv_iload hx hb dL_law_187 (lv_at hl 5 rfl) ?_
  refine lv_iconst (v := 2) hx hb dL_law_189 (by decide) ?_
  refine lv_iadd hx hb dL_law_190 ?_
  refine q_nmi (y := nI (k + 2)) (nI_add k 2) ?_
  refine va_sld hx hb hX hbl hbA hS (vp_in_nI (show k + 2 < L by omega) (by omega)) dL_law_191 ?_
  refine q_nmi (y := xs (k + 2)) (by rw [nI_clamp (by omega)]) ?_
  obtain ⟨y, hy1, hf⟩ := q_bd_go hf
  refine q_wrC (v := (some (.int y.1))) (w := wMD cI cJ am M) (w' := wMD cI cJ am y.2) (ci := 3) (As := [.int (xs (k + 1)), .int (xs (k + 2))]) (rest := []) hx hb hml hown hts (c_X3_set l D cI cJ cS am M _ (xs (k + 1)) (xs (k + 2)) _ hy1) (cwV 2 hts gL_law_X3_set rfl rfl rfl (by decide +kernel) ⟨(Nat.le_of_ble_eq_true rfl), (Nat.le_of_ble_eq_true rfl)⟩) hE (pW_M hP) (dW_M hD) hS (fun _ h => h) (fun H1 hF hk h1 h2 => sW_M hP hD hF hk h1 h2) rfl rfl rfl hl.1 rfl (Nat.le_of_ble_eq_true rfl) dL_law_192 ⟨(by show cells + 2 + 0 ≤ 601024; omega), (by show slots + 12 + 0 ≤ 7293034; omega)⟩ (fun H locs hP hD hS => ?_)
  refine lv_istore (lv' := [(6, .int y.1), (5, .int x.1), (0, .ref b), (1, .ref (A 3 0)), (2, .ref (am 0)), (3, .ref k0), (4, .int (nI k))]) hx hb dL_law_195 hl (by decide) rfl (fun ls hl => ?_)
  refine lv_aload_n hx hb dL_law_197 rfl (lv_at hl 4 rfl) ?_
  refine q_rdVi (w := wMD cI cJ am y.2) (ci := 3) (As := []) (rest := []) hx hb hml hown hts (c_X3_thrown l D cI cJ cS am y.2 (MD_thrown y.2) rfl) (cwV 0 hts gL_law_X3_thrown rfl rfl rfl (by decide +kernel) ⟨(Nat.le_of_ble_eq_true rfl), (Nat.le_of_ble_eq_true rfl)⟩) hE (pW_M hP) rfl rfl rfl hl.1 rfl (Nat.le_of_ble_eq_true rfl) dL_law_198 ⟨(by show cells + 2 + 0 ≤ 601024; omega), (by show slots + 12 + 0 ≤ 7293034; omega)⟩ ?_
  obtain ⟨he, hr9, hc⟩ := q_okT hf
  subst hr9
  refine lv_iload hx hb dL_law_201 (lv_at hl 1 rfl) ?_
  refine lv_icmp_eq (tgt := 208) hx hb dL_law_203 (by decide) (fun _ => ?_) (fun z9 => absurd he z9)
  refine lv_iload hx hb dL_law_208 (lv_at hl 1 rfl) ?_
  refine lv_if_ne (tgt := 225) hx hb dL_law_210 (by decide) (fun hn => ?_) (fun hz => ?_)
  · refine lv_goto (tgt := 1622) hx hb dL_law_225 (by decide) ?_
    refine W.widen (k := cells + 8) (n := slots + 60) (by omega) (by omega) ?_
    exact kk A g2 B2 am k0 _ _ _ hg hP hD hS (lv_sub hl [2, 3, 4, 5, 6] rfl)
  · have he := hc hz
    refine lv_aload_n hx hb dL_law_213 rfl (lv_at hl 5 rfl) ?_
    refine lv_iconst (v := 0) hx hb dL_law_214 (by decide) ?_
    refine va_lald hx hb hE.1 hP 0 1 rfl rfl (by unfold vp_in; decide) dL_law_215 ?_
    refine lv_iload hx hb dL_law_216 (lv_at hl 0 rfl) ?_
    refine lv_i2l (v := ((y.1 : Int32).toInt64)) hx hb dL_law_218 rfl ?_
    refine W.lcmp hx hb dL_law_219 ?_
    refine lv_if_eq (tgt := 225) hx hb dL_law_220 (by decide) (fun _ => ?_) (fun z9 => absurd he z9)
    refine lv_goto (tgt := 1622) hx hb dL_law_225 (by decide) ?_
    refine W.widen (k := cells + 8) (n := slots + 60) (by omega) (by omega) ?_
    exact kk A g2 B2 am k0 _ _ _ hg hP hD hS (lv_sub hl [2, 3, 4, 5, 6] rfl)
set_option maxRecDepth 100000 in
set_option maxHeartbeats 4000000 in
theorem law_c1 {p : Program} {l : Launch} {e : Env} {s : State} {m : MethodId} {below : List Frame} {meth : Method} {c : Code} {b L : Nat} {xs : Nat → Int32} {D : va_G} {cI cJ cS : ClassId} {sa : Nat → Nat} (C1 : q_cx p l s m meth c b L xs D cI cJ cS sa) (hL : L ≤ 2048) {cells slots k : Nat} (hk3 : k + 3 < L) (hcl : cells + 8 ≤ 601024) (hsl : slots + 60 ≤ 7293034) {S : CM} {M : MD} {O : Nat → Int64} {r : CM × MD × (Nat → Int64)} (hf : q_c1 S M O (xs (k + 1)) (xs (k + 2)) (xs (k + 3)) = some r) (kk : q_go p l e s m below meth c b D cI cJ cS (cells + 8) (slots + 60) 1622 k r.1 r.2.1 r.2.2) : q_go p l e s m below meth c b D cI cJ cS cells slots 228 k S M O := by
  obtain ⟨⟨hx, hb, hr, hml, hown0, hts0, hX, hbl, hlocks, hgv⟩, hlt, hE, hES, hN, hZ⟩ := C1
  have hown : s.vm.findClass RL = some m.cls := hown0
  have hts : ∀ w ∈ wsL_law, w.before #[Value.ref b] s = true := fun w h => hts0 w (wsL_law_in w h)
  have hbA : ¬ (fun q : Nat => s.heap.size ≤ q) b := Nat.not_le.mpr hbl
  intro A g B am k0 H locs ls hg hP hD hS hl
  unfold q_c1 at hf
  refine lv_aload_n hx hb dL_law_228 rfl (lv_at hl 1 rfl) ?_
  refine lv_aload_n hx hb dL_law_229 rfl (lv_at hl 0 rfl) ?_
  refine lv_iload hx hb dL_law_230 (lv_at hl 4 rfl) ?_
  refine lv_iconst (v := 1) hx hb dL_law_232 (by decide) ?_
  refine lv_iadd hx hb dL_law_233 ?_
  refine q_nmi (y := nI (k + 1)) (nI_add k 1) ?_
  refine va_sld hx hb hX hbl hbA hS (vp_in_nI (show k + 1 < L by omega) (by omega)) dL_law_234 ?_
  refine q_nmi (y := xs (k + 1)) (by rw [nI_clamp (by omega)]) ?_
  refine lv_i2l (v := (((xs (k + 1)) : Int32).toInt64)) hx hb dL_law_235 rfl ?_
  refine lv_bipush (v := 32) hx hb dL_law_236 (by decide) ?_
  refine lv_lshl (v := ((((xs (k + 1)) : Int32).toInt64) <<< ((32 : Int32).toInt64 &&& 63))) hx hb dL_law_238 rfl ?_
  refine lv_aload_n hx hb dL_law_239 rfl (lv_at hl 0 rfl) ?_
  refine lv_iload hx hb dL_law_240 (lv_at hl 4 rfl) ?_
  refine lv_iconst (v := 2) hx hb dL_law_242 (by decide) ?_
  refine lv_iadd hx hb dL_law_243 ?_
  refine q_nmi (y := nI (k + 2)) (nI_add k 2) ?_
  refine va_sld hx hb hX hbl hbA hS (vp_in_nI (show k + 2 < L by omega) (by omega)) dL_law_244 ?_
  refine q_nmi (y := xs (k + 2)) (by rw [nI_clamp (by omega)]) ?_
  refine lv_i2l (v := (((xs (k + 2)) : Int32).toInt64)) hx hb dL_law_245 rfl ?_
  refine lv_ldc2 (v := 4294967295) hx hb hown (hts (.constantLong RL 98 (4294967295)) (List.mem_of_getElem? (i := 7) (by decide +kernel))) dL_law_246 ?_
  refine lv_land hx hb dL_law_249 ?_
  refine lv_lor hx hb dL_law_250 ?_
  refine lv_aload_n hx hb dL_law_251 rfl (lv_at hl 3 rfl) ?_
  obtain ⟨x, hx1, hf⟩ := q_bd_go hf
  refine q_lawL hP hD hS (fun _ h => h) (vx_runSX (As := [.ref (A 3 0), .long (((((xs (k + 1)) : Int32).toInt64) <<< ((32 : Int32).toInt64 &&& 63)) ||| ((((xs (k + 2)) : Int32).toInt64) &&& 4294967295)), .ref k0]) (rest := []) ⟨hx, hb, hml, hown, hts⟩ (c_L_addPerson l hlt D cI cJ cS sa A g B hg k0 S O _ (((((xs (k + 1)) : Int32).toInt64) <<< ((32 : Int32).toInt64 &&& 63)) ||| ((((xs (k + 2)) : Int32).toInt64) &&& 4294967295)) _ hx1) (vx_cwSW 3 hts gL_law_L_addPerson rfl rfl rfl (by decide +kernel) ⟨(Nat.le_of_ble_eq_true rfl), (Nat.le_of_ble_eq_true rfl)⟩) ⟨q_blindL, fun U hU hW => ⟨rfl, ⟨by rw [hU], by rw [hU]; exact pW_L hP, q_E.warm hW hE, (dW_L hD).weaken (fun _ _ _ _ => trivial), q_ES.warm hW hES, by rw [hU]; exact ((hZ.kept (fun a h1 h2 => hS.2.1 a h1 h2)).narrow (fun q h => h.elim (fun ⟨k9, e9, h9⟩ => (dW_L hD).2 k9 _ h9) (fun h => Nat.le_trans hS.1 h))).moved hW.alike⟩, q_EN.moved hW.alike hN⟩⟩ rfl rfl hl.1 rfl (lv_room (Nat.le_of_ble_eq_true rfl)) dL_law_252 ⟨(by show cells + 1 ≤ 601024; omega), (by show slots + 6 ≤ 7293034; omega)⟩) (fun g2 B2 H locs hg hP hD hS => ?_)
  refine lv_istore (lv' := [(5, .int x.1), (0, .ref b), (1, .ref (A 3 0)), (2, .ref (am 0)), (3, .ref k0), (4, .int (nI k))]) hx hb dL_law_255 hl (by decide) rfl (fun ls hl => ?_)
  refine lv_aload_n hx hb dL_law_257 rfl (lv_at hl 3 rfl) ?_
  refine lv_aload_n hx hb dL_law_258 rfl (lv_at hl 1 rfl) ?_
  refine lv_iload hx hb dL_law_259 (lv_at hl 5 rfl) ?_
  refine lv_iconst (v := 1) hx hb dL_law_261 (by decide) ?_
  refine lv_iadd hx hb dL_law_262 ?_
  refine q_nmi (y := nI (k + 1)) (nI_add k 1) ?_
  refine va_sld hx hb hX hbl hbA hS (vp_in_nI (show k + 1 < L by omega) (by omega)) dL_law_263 ?_
  refine q_nmi (y := xs (k + 1)) (by rw [nI_clamp (by omega)]) ?_
  refine lv_i2l (v := (((xs (k + 1)) : Int32).toInt64)) hx hb dL_law_264 rfl ?_
  refine lv_bipush (v := 32) hx hb dL_law_265 (by decide) ?_
  refine lv_lshl (v := ((((xs (k + 1)) : Int32).toInt64) <<< ((32 : Int32).toInt64 &&& 63))) hx hb dL_law_267 rfl ?_
  refine lv_aload_n hx hb dL_law_268 rfl (lv_at hl 1 rfl) ?_
  refine lv_iload hx hb dL_law_269 (lv_at hl 5 rfl) ?_
  refine lv_iconst (v := 2) hx hb dL_law_271 (by decide) ?_
  refine lv_iadd hx hb dL_law_272 ?_
  refine q_nmi (y := nI (k + 2)) (nI_add k 2) ?_
  refine va_sld hx hb hX hbl hbA hS (vp_in_nI (show k + 2 < L by omega) (by omega)) dL_law_273 ?_
  refine q_nmi (y := xs (k + 2)) (by rw [nI_clamp (by omega)]) ?_
  refine lv_i2l (v := (((xs (k + 2)) : Int32).toInt64)) hx hb dL_law_274 rfl ?_
  refine lv_ldc2 (v := 4294967295) hx hb hown (hts (.constantLong RL 98 (4294967295)) (List.mem_of_getElem? (i := 7) (by decide +kernel))) dL_law_275 ?_
  refine lv_land hx hb dL_law_278 ?_
  refine lv_lor hx hb dL_law_279 ?_
  obtain ⟨y, hy1, hf⟩ := q_bd_go hf
  refine q_wrC (v := (some (.int y.1))) (w := wMD cI cJ am M) (w' := wMD cI cJ am y.2) (ci := 3) (As := [.long (((((xs (k + 1)) : Int32).toInt64) <<< ((32 : Int32).toInt64 &&& 63)) ||| ((((xs (k + 2)) : Int32).toInt64) &&& 4294967295))]) (rest := []) hx hb hml hown hts (c_X3_addPerson l D cI cJ cS am M _ (((((xs (k + 1)) : Int32).toInt64) <<< ((32 : Int32).toInt64 &&& 63)) ||| ((((xs (k + 2)) : Int32).toInt64) &&& 4294967295)) _ hy1) (cwV 1 hts gL_law_X3_addPerson rfl rfl rfl (by decide +kernel) ⟨(Nat.le_of_ble_eq_true rfl), (Nat.le_of_ble_eq_true rfl)⟩) hE (pW_M hP) (dW_M hD) hS (fun _ h => h) (fun H1 hF hk h1 h2 => sW_M hP hD hF hk h1 h2) rfl rfl rfl hl.1 rfl (Nat.le_of_ble_eq_true rfl) dL_law_280 ⟨(by show cells + 1 + 0 ≤ 601024; omega), (by show slots + 6 + 0 ≤ 7293034; omega)⟩ (fun H locs hP hD hS => ?_)
  refine lv_istore (lv' := [(6, .int y.1), (5, .int x.1), (0, .ref b), (1, .ref (A 3 0)), (2, .ref (am 0)), (3, .ref k0), (4, .int (nI k))]) hx hb dL_law_283 hl (by decide) rfl (fun ls hl => ?_)
  refine lv_aload_n hx hb dL_law_285 rfl (lv_at hl 4 rfl) ?_
  refine q_rdVi (w := wMD cI cJ am y.2) (ci := 3) (As := []) (rest := []) hx hb hml hown hts (c_X3_thrown l D cI cJ cS am y.2 (MD_thrown y.2) rfl) (cwV 0 hts gL_law_X3_thrown rfl rfl rfl (by decide +kernel) ⟨(Nat.le_of_ble_eq_true rfl), (Nat.le_of_ble_eq_true rfl)⟩) hE (pW_M hP) rfl rfl rfl hl.1 rfl (Nat.le_of_ble_eq_true rfl) dL_law_286 ⟨(by show cells + 1 + 0 ≤ 601024; omega), (by show slots + 6 + 0 ≤ 7293034; omega)⟩ ?_
  obtain ⟨he, hr9, hc⟩ := q_okT hf
  subst hr9
  refine lv_iload hx hb dL_law_289 (lv_at hl 1 rfl) ?_
  refine lv_icmp_eq (tgt := 296) hx hb dL_law_291 (by decide) (fun _ => ?_) (fun z9 => absurd he z9)
  refine lv_iload hx hb dL_law_296 (lv_at hl 1 rfl) ?_
  refine lv_if_ne (tgt := 313) hx hb dL_law_298 (by decide) (fun hn => ?_) (fun hz => ?_)
  · refine lv_goto (tgt := 1622) hx hb dL_law_313 (by decide) ?_
    refine W.widen (k := cells + 8) (n := slots + 60) (by omega) (by omega) ?_
    exact kk A g2 B2 am k0 _ _ _ hg hP hD hS (lv_sub hl [2, 3, 4, 5, 6] rfl)
  · have he := hc hz
    refine lv_aload_n hx hb dL_law_301 rfl (lv_at hl 5 rfl) ?_
    refine lv_iconst (v := 0) hx hb dL_law_302 (by decide) ?_
    refine va_lald hx hb hE.1 hP 0 1 rfl rfl (by unfold vp_in; decide) dL_law_303 ?_
    refine lv_iload hx hb dL_law_304 (lv_at hl 0 rfl) ?_
    refine lv_i2l (v := ((y.1 : Int32).toInt64)) hx hb dL_law_306 rfl ?_
    refine W.lcmp hx hb dL_law_307 ?_
    refine lv_if_eq (tgt := 313) hx hb dL_law_308 (by decide) (fun _ => ?_) (fun z9 => absurd he z9)
    refine lv_goto (tgt := 1622) hx hb dL_law_313 (by decide) ?_
    refine W.widen (k := cells + 8) (n := slots + 60) (by omega) (by omega) ?_
    exact kk A g2 B2 am k0 _ _ _ hg hP hD hS (lv_sub hl [2, 3, 4, 5, 6] rfl)
set_option maxRecDepth 100000 in
set_option maxHeartbeats 4000000 in
theorem law_c2 {p : Program} {l : Launch} {e : Env} {s : State} {m : MethodId} {below : List Frame} {meth : Method} {c : Code} {b L : Nat} {xs : Nat → Int32} {D : va_G} {cI cJ cS : ClassId} {sa : Nat → Nat} (C1 : q_cx p l s m meth c b L xs D cI cJ cS sa) (hL : L ≤ 2048) {cells slots k : Nat} (hk3 : k + 3 < L) (hcl : cells + 8 ≤ 601024) (hsl : slots + 60 ≤ 7293034) {S : CM} {M : MD} {O : Nat → Int64} {r : CM × MD × (Nat → Int64)} (hf : q_c2 S M O (xs (k + 1)) (xs (k + 2)) (xs (k + 3)) = some r) (kk : q_go p l e s m below meth c b D cI cJ cS (cells + 8) (slots + 60) 1622 k r.1 r.2.1 r.2.2) : q_go p l e s m below meth c b D cI cJ cS cells slots 316 k S M O := by
  obtain ⟨⟨hx, hb, hr, hml, hown0, hts0, hX, hbl, hlocks, hgv⟩, hlt, hE, hES, hN, hZ⟩ := C1
  have hown : s.vm.findClass RL = some m.cls := hown0
  have hts : ∀ w ∈ wsL_law, w.before #[Value.ref b] s = true := fun w h => hts0 w (wsL_law_in w h)
  have hbA : ¬ (fun q : Nat => s.heap.size ≤ q) b := Nat.not_le.mpr hbl
  intro A g B am k0 H locs ls hg hP hD hS hl
  unfold q_c2 at hf
  by_cases h0 : xs (k + 3) = 0
  · have hf := q_ite_t h0 hf
    refine lv_aload_n hx hb dL_law_316 rfl (lv_at hl 1 rfl) ?_
    refine lv_aload_n hx hb dL_law_317 rfl (lv_at hl 0 rfl) ?_
    refine lv_iload hx hb dL_law_318 (lv_at hl 4 rfl) ?_
    refine lv_iconst (v := 1) hx hb dL_law_320 (by decide) ?_
    refine lv_iadd hx hb dL_law_321 ?_
    refine q_nmi (y := nI (k + 1)) (nI_add k 1) ?_
    refine va_sld hx hb hX hbl hbA hS (vp_in_nI (show k + 1 < L by omega) (by omega)) dL_law_322 ?_
    refine q_nmi (y := xs (k + 1)) (by rw [nI_clamp (by omega)]) ?_
    refine lv_aload_n hx hb dL_law_323 rfl (lv_at hl 0 rfl) ?_
    refine lv_iload hx hb dL_law_324 (lv_at hl 4 rfl) ?_
    refine lv_iconst (v := 2) hx hb dL_law_326 (by decide) ?_
    refine lv_iadd hx hb dL_law_327 ?_
    refine q_nmi (y := nI (k + 2)) (nI_add k 2) ?_
    refine va_sld hx hb hX hbl hbA hS (vp_in_nI (show k + 2 < L by omega) (by omega)) dL_law_328 ?_
    refine q_nmi (y := xs (k + 2)) (by rw [nI_clamp (by omega)]) ?_
    refine lv_aload_n hx hb dL_law_329 rfl (lv_at hl 0 rfl) ?_
    refine lv_iload hx hb dL_law_330 (lv_at hl 4 rfl) ?_
    refine lv_iconst (v := 3) hx hb dL_law_332 (by decide) ?_
    refine lv_iadd hx hb dL_law_333 ?_
    refine q_nmi (y := nI (k + 3)) (nI_add k 3) ?_
    refine va_sld hx hb hX hbl hbA hS (vp_in_nI (show k + 3 < L by omega) (by omega)) dL_law_334 ?_
    refine q_nmi (y := xs (k + 3)) (by rw [nI_clamp (by omega)]) ?_
    refine lv_if_eq (tgt := 342) hx hb dL_law_335 (by decide) (fun _ => ?_) (fun z9 => absurd h0 z9)
    refine lv_iconst (v := 0) hx hb dL_law_342 (by decide) ?_
    refine lv_aload_n hx hb dL_law_343 rfl (lv_at hl 3 rfl) ?_
    obtain ⟨x, hx1, hf⟩ := q_bd_go hf
    refine q_lawL hP hD hS (fun _ h => h) (vx_runSX (As := [.ref (A 3 0), .int (xs (k + 1)), .int (xs (k + 2)), .int 0, .ref k0]) (rest := []) ⟨hx, hb, hml, hown, hts⟩ (c_L_roster l hlt D cI cJ cS sa A g B hg k0 S O _ (xs (k + 1)) (xs (k + 2)) 0 _ hx1) (vx_cwSW 5 hts gL_law_L_roster rfl rfl rfl (by decide +kernel) ⟨(Nat.le_of_ble_eq_true rfl), (Nat.le_of_ble_eq_true rfl)⟩) ⟨q_blindL, fun U hU hW => ⟨rfl, ⟨by rw [hU], by rw [hU]; exact pW_L hP, q_E.warm hW hE, (dW_L hD).weaken (fun _ _ _ _ => trivial), q_ES.warm hW hES, by rw [hU]; exact ((hZ.kept (fun a h1 h2 => hS.2.1 a h1 h2)).narrow (fun q h => h.elim (fun ⟨k9, e9, h9⟩ => (dW_L hD).2 k9 _ h9) (fun h => Nat.le_trans hS.1 h))).moved hW.alike⟩, q_EN.moved hW.alike hN⟩⟩ rfl rfl hl.1 rfl (lv_room (Nat.le_of_ble_eq_true rfl)) dL_law_344 ⟨(by show cells + 3 ≤ 601024; omega), (by show slots + 18 ≤ 7293034; omega)⟩) (fun g2 B2 H locs hg hP hD hS => ?_)
    refine lv_istore (lv' := [(5, .int x.1), (0, .ref b), (1, .ref (A 3 0)), (2, .ref (am 0)), (3, .ref k0), (4, .int (nI k))]) hx hb dL_law_347 hl (by decide) rfl (fun ls hl => ?_)
    refine lv_aload_n hx hb dL_law_349 rfl (lv_at hl 3 rfl) ?_
    refine lv_aload_n hx hb dL_law_350 rfl (lv_at hl 1 rfl) ?_
    refine lv_iload hx hb dL_law_351 (lv_at hl 5 rfl) ?_
    refine lv_iconst (v := 1) hx hb dL_law_353 (by decide) ?_
    refine lv_iadd hx hb dL_law_354 ?_
    refine q_nmi (y := nI (k + 1)) (nI_add k 1) ?_
    refine va_sld hx hb hX hbl hbA hS (vp_in_nI (show k + 1 < L by omega) (by omega)) dL_law_355 ?_
    refine q_nmi (y := xs (k + 1)) (by rw [nI_clamp (by omega)]) ?_
    refine lv_aload_n hx hb dL_law_356 rfl (lv_at hl 1 rfl) ?_
    refine lv_iload hx hb dL_law_357 (lv_at hl 5 rfl) ?_
    refine lv_iconst (v := 2) hx hb dL_law_359 (by decide) ?_
    refine lv_iadd hx hb dL_law_360 ?_
    refine q_nmi (y := nI (k + 2)) (nI_add k 2) ?_
    refine va_sld hx hb hX hbl hbA hS (vp_in_nI (show k + 2 < L by omega) (by omega)) dL_law_361 ?_
    refine q_nmi (y := xs (k + 2)) (by rw [nI_clamp (by omega)]) ?_
    refine lv_aload_n hx hb dL_law_362 rfl (lv_at hl 1 rfl) ?_
    refine lv_iload hx hb dL_law_363 (lv_at hl 5 rfl) ?_
    refine lv_iconst (v := 3) hx hb dL_law_365 (by decide) ?_
    refine lv_iadd hx hb dL_law_366 ?_
    refine q_nmi (y := nI (k + 3)) (nI_add k 3) ?_
    refine va_sld hx hb hX hbl hbA hS (vp_in_nI (show k + 3 < L by omega) (by omega)) dL_law_367 ?_
    refine q_nmi (y := xs (k + 3)) (by rw [nI_clamp (by omega)]) ?_
    refine lv_if_eq (tgt := 375) hx hb dL_law_368 (by decide) (fun _ => ?_) (fun z9 => absurd h0 z9)
    refine lv_iconst (v := 0) hx hb dL_law_375 (by decide) ?_
    obtain ⟨y, hy1, hf⟩ := q_bd_go hf
    refine q_wrC (v := (some (.int y.1))) (w := wMD cI cJ am M) (w' := wMD cI cJ am y.2) (ci := 3) (As := [.int (xs (k + 1)), .int (xs (k + 2)), .int 0]) (rest := []) hx hb hml hown hts (c_X3_roster l D cI cJ cS am M _ (xs (k + 1)) (xs (k + 2)) 0 _ hy1) (cwV 3 hts gL_law_X3_roster rfl rfl rfl (by decide +kernel) ⟨(Nat.le_of_ble_eq_true rfl), (Nat.le_of_ble_eq_true rfl)⟩) hE (pW_M hP) (dW_M hD) hS (fun _ h => h) (fun H1 hF hk h1 h2 => sW_M hP hD hF hk h1 h2) rfl rfl rfl hl.1 rfl (Nat.le_of_ble_eq_true rfl) dL_law_376 ⟨(by show cells + 3 + 0 ≤ 601024; omega), (by show slots + 18 + 0 ≤ 7293034; omega)⟩ (fun H locs hP hD hS => ?_)
    refine lv_istore (lv' := [(6, .int y.1), (5, .int x.1), (0, .ref b), (1, .ref (A 3 0)), (2, .ref (am 0)), (3, .ref k0), (4, .int (nI k))]) hx hb dL_law_379 hl (by decide) rfl (fun ls hl => ?_)
    refine lv_aload_n hx hb dL_law_381 rfl (lv_at hl 4 rfl) ?_
    refine q_rdVi (w := wMD cI cJ am y.2) (ci := 3) (As := []) (rest := []) hx hb hml hown hts (c_X3_thrown l D cI cJ cS am y.2 (MD_thrown y.2) rfl) (cwV 0 hts gL_law_X3_thrown rfl rfl rfl (by decide +kernel) ⟨(Nat.le_of_ble_eq_true rfl), (Nat.le_of_ble_eq_true rfl)⟩) hE (pW_M hP) rfl rfl rfl hl.1 rfl (Nat.le_of_ble_eq_true rfl) dL_law_382 ⟨(by show cells + 3 + 0 ≤ 601024; omega), (by show slots + 18 + 0 ≤ 7293034; omega)⟩ ?_
    obtain ⟨he, hr9, hc⟩ := q_okT hf
    subst hr9
    refine lv_iload hx hb dL_law_385 (lv_at hl 1 rfl) ?_
    refine lv_icmp_eq (tgt := 392) hx hb dL_law_387 (by decide) (fun _ => ?_) (fun z9 => absurd he z9)
    refine lv_iload hx hb dL_law_392 (lv_at hl 1 rfl) ?_
    refine lv_if_ne (tgt := 409) hx hb dL_law_394 (by decide) (fun hn => ?_) (fun hz => ?_)
    · refine lv_goto (tgt := 1622) hx hb dL_law_409 (by decide) ?_
      refine W.widen (k := cells + 8) (n := slots + 60) (by omega) (by omega) ?_
      exact kk A g2 B2 am k0 _ _ _ hg hP hD hS (lv_sub hl [2, 3, 4, 5, 6] rfl)
    · have he := hc hz
      refine lv_aload_n hx hb dL_law_397 rfl (lv_at hl 5 rfl) ?_
      refine lv_iconst (v := 0) hx hb dL_law_398 (by decide) ?_
      refine va_lald hx hb hE.1 hP 0 1 rfl rfl (by unfold vp_in; decide) dL_law_399 ?_
      refine lv_iload hx hb dL_law_400 (lv_at hl 0 rfl) ?_
      refine lv_i2l (v := ((y.1 : Int32).toInt64)) hx hb dL_law_402 rfl ?_
      refine W.lcmp hx hb dL_law_403 ?_
      refine lv_if_eq (tgt := 409) hx hb dL_law_404 (by decide) (fun _ => ?_) (fun z9 => absurd he z9)
      refine lv_goto (tgt := 1622) hx hb dL_law_409 (by decide) ?_
      refine W.widen (k := cells + 8) (n := slots + 60) (by omega) (by omega) ?_
      exact kk A g2 B2 am k0 _ _ _ hg hP hD hS (lv_sub hl [2, 3, 4, 5, 6] rfl)
  · have hf := q_ite_f h0 hf
    refine lv_aload_n hx hb dL_law_316 rfl (lv_at hl 1 rfl) ?_
    refine lv_aload_n hx hb dL_law_317 rfl (lv_at hl 0 rfl) ?_
    refine lv_iload hx hb dL_law_318 (lv_at hl 4 rfl) ?_
    refine lv_iconst (v := 1) hx hb dL_law_320 (by decide) ?_
    refine lv_iadd hx hb dL_law_321 ?_
    refine q_nmi (y := nI (k + 1)) (nI_add k 1) ?_
    refine va_sld hx hb hX hbl hbA hS (vp_in_nI (show k + 1 < L by omega) (by omega)) dL_law_322 ?_
    refine q_nmi (y := xs (k + 1)) (by rw [nI_clamp (by omega)]) ?_
    refine lv_aload_n hx hb dL_law_323 rfl (lv_at hl 0 rfl) ?_
    refine lv_iload hx hb dL_law_324 (lv_at hl 4 rfl) ?_
    refine lv_iconst (v := 2) hx hb dL_law_326 (by decide) ?_
    refine lv_iadd hx hb dL_law_327 ?_
    refine q_nmi (y := nI (k + 2)) (nI_add k 2) ?_
    refine va_sld hx hb hX hbl hbA hS (vp_in_nI (show k + 2 < L by omega) (by omega)) dL_law_328 ?_
    refine q_nmi (y := xs (k + 2)) (by rw [nI_clamp (by omega)]) ?_
    refine lv_aload_n hx hb dL_law_329 rfl (lv_at hl 0 rfl) ?_
    refine lv_iload hx hb dL_law_330 (lv_at hl 4 rfl) ?_
    refine lv_iconst (v := 3) hx hb dL_law_332 (by decide) ?_
    refine lv_iadd hx hb dL_law_333 ?_
    refine q_nmi (y := nI (k + 3)) (nI_add k 3) ?_
    refine va_sld hx hb hX hbl hbA hS (vp_in_nI (show k + 3 < L by omega) (by omega)) dL_law_334 ?_
    refine q_nmi (y := xs (k + 3)) (by rw [nI_clamp (by omega)]) ?_
    refine lv_if_eq (tgt := 342) hx hb dL_law_335 (by decide) (fun z9 => absurd z9 h0) (fun _ => ?_)
    refine lv_iconst (v := 1) hx hb dL_law_338 (by decide) ?_
    refine lv_goto (tgt := 343) hx hb dL_law_339 (by decide) ?_
    refine lv_aload_n hx hb dL_law_343 rfl (lv_at hl 3 rfl) ?_
    obtain ⟨x, hx1, hf⟩ := q_bd_go hf
    refine q_lawL hP hD hS (fun _ h => h) (vx_runSX (As := [.ref (A 3 0), .int (xs (k + 1)), .int (xs (k + 2)), .int 1, .ref k0]) (rest := []) ⟨hx, hb, hml, hown, hts⟩ (c_L_roster l hlt D cI cJ cS sa A g B hg k0 S O _ (xs (k + 1)) (xs (k + 2)) 1 _ hx1) (vx_cwSW 5 hts gL_law_L_roster rfl rfl rfl (by decide +kernel) ⟨(Nat.le_of_ble_eq_true rfl), (Nat.le_of_ble_eq_true rfl)⟩) ⟨q_blindL, fun U hU hW => ⟨rfl, ⟨by rw [hU], by rw [hU]; exact pW_L hP, q_E.warm hW hE, (dW_L hD).weaken (fun _ _ _ _ => trivial), q_ES.warm hW hES, by rw [hU]; exact ((hZ.kept (fun a h1 h2 => hS.2.1 a h1 h2)).narrow (fun q h => h.elim (fun ⟨k9, e9, h9⟩ => (dW_L hD).2 k9 _ h9) (fun h => Nat.le_trans hS.1 h))).moved hW.alike⟩, q_EN.moved hW.alike hN⟩⟩ rfl rfl hl.1 rfl (lv_room (Nat.le_of_ble_eq_true rfl)) dL_law_344 ⟨(by show cells + 3 ≤ 601024; omega), (by show slots + 18 ≤ 7293034; omega)⟩) (fun g2 B2 H locs hg hP hD hS => ?_)
    refine lv_istore (lv' := [(5, .int x.1), (0, .ref b), (1, .ref (A 3 0)), (2, .ref (am 0)), (3, .ref k0), (4, .int (nI k))]) hx hb dL_law_347 hl (by decide) rfl (fun ls hl => ?_)
    refine lv_aload_n hx hb dL_law_349 rfl (lv_at hl 3 rfl) ?_
    refine lv_aload_n hx hb dL_law_350 rfl (lv_at hl 1 rfl) ?_
    refine lv_iload hx hb dL_law_351 (lv_at hl 5 rfl) ?_
    refine lv_iconst (v := 1) hx hb dL_law_353 (by decide) ?_
    refine lv_iadd hx hb dL_law_354 ?_
    refine q_nmi (y := nI (k + 1)) (nI_add k 1) ?_
    refine va_sld hx hb hX hbl hbA hS (vp_in_nI (show k + 1 < L by omega) (by omega)) dL_law_355 ?_
    refine q_nmi (y := xs (k + 1)) (by rw [nI_clamp (by omega)]) ?_
    refine lv_aload_n hx hb dL_law_356 rfl (lv_at hl 1 rfl) ?_
    refine lv_iload hx hb dL_law_357 (lv_at hl 5 rfl) ?_
    refine lv_iconst (v := 2) hx hb dL_law_359 (by decide) ?_
    refine lv_iadd hx hb dL_law_360 ?_
    refine q_nmi (y := nI (k + 2)) (nI_add k 2) ?_
    refine va_sld hx hb hX hbl hbA hS (vp_in_nI (show k + 2 < L by omega) (by omega)) dL_law_361 ?_
    refine q_nmi (y := xs (k + 2)) (by rw [nI_clamp (by omega)]) ?_
    refine lv_aload_n hx hb dL_law_362 rfl (lv_at hl 1 rfl) ?_
    refine lv_iload hx hb dL_law_363 (lv_at hl 5 rfl) ?_
    refine lv_iconst (v := 3) hx hb dL_law_365 (by decide) ?_
    refine lv_iadd hx hb dL_law_366 ?_
    refine q_nmi (y := nI (k + 3)) (nI_add k 3) ?_
    refine va_sld hx hb hX hbl hbA hS (vp_in_nI (show k + 3 < L by omega) (by omega)) dL_law_367 ?_
    refine q_nmi (y := xs (k + 3)) (by rw [nI_clamp (by omega)]) ?_
    refine lv_if_eq (tgt := 375) hx hb dL_law_368 (by decide) (fun z9 => absurd z9 h0) (fun _ => ?_)
    refine lv_iconst (v := 1) hx hb dL_law_371 (by decide) ?_
    refine lv_goto (tgt := 376) hx hb dL_law_372 (by decide) ?_
    obtain ⟨y, hy1, hf⟩ := q_bd_go hf
    refine q_wrC (v := (some (.int y.1))) (w := wMD cI cJ am M) (w' := wMD cI cJ am y.2) (ci := 3) (As := [.int (xs (k + 1)), .int (xs (k + 2)), .int 1]) (rest := []) hx hb hml hown hts (c_X3_roster l D cI cJ cS am M _ (xs (k + 1)) (xs (k + 2)) 1 _ hy1) (cwV 3 hts gL_law_X3_roster rfl rfl rfl (by decide +kernel) ⟨(Nat.le_of_ble_eq_true rfl), (Nat.le_of_ble_eq_true rfl)⟩) hE (pW_M hP) (dW_M hD) hS (fun _ h => h) (fun H1 hF hk h1 h2 => sW_M hP hD hF hk h1 h2) rfl rfl rfl hl.1 rfl (Nat.le_of_ble_eq_true rfl) dL_law_376 ⟨(by show cells + 3 + 0 ≤ 601024; omega), (by show slots + 18 + 0 ≤ 7293034; omega)⟩ (fun H locs hP hD hS => ?_)
    refine lv_istore (lv' := [(6, .int y.1), (5, .int x.1), (0, .ref b), (1, .ref (A 3 0)), (2, .ref (am 0)), (3, .ref k0), (4, .int (nI k))]) hx hb dL_law_379 hl (by decide) rfl (fun ls hl => ?_)
    refine lv_aload_n hx hb dL_law_381 rfl (lv_at hl 4 rfl) ?_
    refine q_rdVi (w := wMD cI cJ am y.2) (ci := 3) (As := []) (rest := []) hx hb hml hown hts (c_X3_thrown l D cI cJ cS am y.2 (MD_thrown y.2) rfl) (cwV 0 hts gL_law_X3_thrown rfl rfl rfl (by decide +kernel) ⟨(Nat.le_of_ble_eq_true rfl), (Nat.le_of_ble_eq_true rfl)⟩) hE (pW_M hP) rfl rfl rfl hl.1 rfl (Nat.le_of_ble_eq_true rfl) dL_law_382 ⟨(by show cells + 3 + 0 ≤ 601024; omega), (by show slots + 18 + 0 ≤ 7293034; omega)⟩ ?_
    obtain ⟨he, hr9, hc⟩ := q_okT hf
    subst hr9
    refine lv_iload hx hb dL_law_385 (lv_at hl 1 rfl) ?_
    refine lv_icmp_eq (tgt := 392) hx hb dL_law_387 (by decide) (fun _ => ?_) (fun z9 => absurd he z9)
    refine lv_iload hx hb dL_law_392 (lv_at hl 1 rfl) ?_
    refine lv_if_ne (tgt := 409) hx hb dL_law_394 (by decide) (fun hn => ?_) (fun hz => ?_)
    · refine lv_goto (tgt := 1622) hx hb dL_law_409 (by decide) ?_
      refine W.widen (k := cells + 8) (n := slots + 60) (by omega) (by omega) ?_
      exact kk A g2 B2 am k0 _ _ _ hg hP hD hS (lv_sub hl [2, 3, 4, 5, 6] rfl)
    · have he := hc hz
      refine lv_aload_n hx hb dL_law_397 rfl (lv_at hl 5 rfl) ?_
      refine lv_iconst (v := 0) hx hb dL_law_398 (by decide) ?_
      refine va_lald hx hb hE.1 hP 0 1 rfl rfl (by unfold vp_in; decide) dL_law_399 ?_
      refine lv_iload hx hb dL_law_400 (lv_at hl 0 rfl) ?_
      refine lv_i2l (v := ((y.1 : Int32).toInt64)) hx hb dL_law_402 rfl ?_
      refine W.lcmp hx hb dL_law_403 ?_
      refine lv_if_eq (tgt := 409) hx hb dL_law_404 (by decide) (fun _ => ?_) (fun z9 => absurd he z9)
      refine lv_goto (tgt := 1622) hx hb dL_law_409 (by decide) ?_
      refine W.widen (k := cells + 8) (n := slots + 60) (by omega) (by omega) ?_
      exact kk A g2 B2 am k0 _ _ _ hg hP hD hS (lv_sub hl [2, 3, 4, 5, 6] rfl)
set_option maxRecDepth 100000 in
set_option maxHeartbeats 4000000 in
theorem law_c3 {p : Program} {l : Launch} {e : Env} {s : State} {m : MethodId} {below : List Frame} {meth : Method} {c : Code} {b L : Nat} {xs : Nat → Int32} {D : va_G} {cI cJ cS : ClassId} {sa : Nat → Nat} (C1 : q_cx p l s m meth c b L xs D cI cJ cS sa) (hL : L ≤ 2048) {cells slots k : Nat} (hk3 : k + 3 < L) (hcl : cells + 8 ≤ 601024) (hsl : slots + 60 ≤ 7293034) {S : CM} {M : MD} {O : Nat → Int64} {r : CM × MD × (Nat → Int64)} (hf : q_c3 S M O (xs (k + 1)) (xs (k + 2)) (xs (k + 3)) = some r) (kk : q_go p l e s m below meth c b D cI cJ cS (cells + 8) (slots + 60) 1622 k r.1 r.2.1 r.2.2) : q_go p l e s m below meth c b D cI cJ cS cells slots 412 k S M O := by
  obtain ⟨⟨hx, hb, hr, hml, hown0, hts0, hX, hbl, hlocks, hgv⟩, hlt, hE, hES, hN, hZ⟩ := C1
  have hown : s.vm.findClass RL = some m.cls := hown0
  have hts : ∀ w ∈ wsL_law, w.before #[Value.ref b] s = true := fun w h => hts0 w (wsL_law_in w h)
  have hbA : ¬ (fun q : Nat => s.heap.size ≤ q) b := Nat.not_le.mpr hbl
  intro A g B am k0 H locs ls hg hP hD hS hl
  unfold q_c3 at hf
  refine lv_aload_n hx hb dL_law_412 rfl (lv_at hl 1 rfl) ?_
  refine lv_aload_n hx hb dL_law_413 rfl (lv_at hl 0 rfl) ?_
  refine lv_iload hx hb dL_law_414 (lv_at hl 4 rfl) ?_
  refine lv_iconst (v := 1) hx hb dL_law_416 (by decide) ?_
  refine lv_iadd hx hb dL_law_417 ?_
  refine q_nmi (y := nI (k + 1)) (nI_add k 1) ?_
  refine va_sld hx hb hX hbl hbA hS (vp_in_nI (show k + 1 < L by omega) (by omega)) dL_law_418 ?_
  refine q_nmi (y := xs (k + 1)) (by rw [nI_clamp (by omega)]) ?_
  refine lv_aload_n hx hb dL_law_419 rfl (lv_at hl 0 rfl) ?_
  refine lv_iload hx hb dL_law_420 (lv_at hl 4 rfl) ?_
  refine lv_iconst (v := 2) hx hb dL_law_422 (by decide) ?_
  refine lv_iadd hx hb dL_law_423 ?_
  refine q_nmi (y := nI (k + 2)) (nI_add k 2) ?_
  refine va_sld hx hb hX hbl hbA hS (vp_in_nI (show k + 2 < L by omega) (by omega)) dL_law_424 ?_
  refine q_nmi (y := xs (k + 2)) (by rw [nI_clamp (by omega)]) ?_
  refine lv_aload_n hx hb dL_law_425 rfl (lv_at hl 3 rfl) ?_
  obtain ⟨x, hx1, hf⟩ := q_bd_go hf
  refine q_lawL hP hD hS (fun _ h => h) (vx_runSX (As := [.ref (A 3 0), .int (xs (k + 1)), .int (xs (k + 2)), .ref k0]) (rest := []) ⟨hx, hb, hml, hown, hts⟩ (c_L_absent l hlt D cI cJ cS sa A g B hg k0 S O _ (xs (k + 1)) (xs (k + 2)) _ hx1) (vx_cwSW 4 hts gL_law_L_absent rfl rfl rfl (by decide +kernel) ⟨(Nat.le_of_ble_eq_true rfl), (Nat.le_of_ble_eq_true rfl)⟩) ⟨q_blindL, fun U hU hW => ⟨rfl, ⟨by rw [hU], by rw [hU]; exact pW_L hP, q_E.warm hW hE, (dW_L hD).weaken (fun _ _ _ _ => trivial), q_ES.warm hW hES, by rw [hU]; exact ((hZ.kept (fun a h1 h2 => hS.2.1 a h1 h2)).narrow (fun q h => h.elim (fun ⟨k9, e9, h9⟩ => (dW_L hD).2 k9 _ h9) (fun h => Nat.le_trans hS.1 h))).moved hW.alike⟩, q_EN.moved hW.alike hN⟩⟩ rfl rfl hl.1 rfl (lv_room (Nat.le_of_ble_eq_true rfl)) dL_law_426 ⟨(by show cells + 3 ≤ 601024; omega), (by show slots + 18 ≤ 7293034; omega)⟩) (fun g2 B2 H locs hg hP hD hS => ?_)
  refine lv_istore (lv' := [(5, .int x.1), (0, .ref b), (1, .ref (A 3 0)), (2, .ref (am 0)), (3, .ref k0), (4, .int (nI k))]) hx hb dL_law_429 hl (by decide) rfl (fun ls hl => ?_)
  refine lv_aload_n hx hb dL_law_431 rfl (lv_at hl 3 rfl) ?_
  refine lv_aload_n hx hb dL_law_432 rfl (lv_at hl 1 rfl) ?_
  refine lv_iload hx hb dL_law_433 (lv_at hl 5 rfl) ?_
  refine lv_iconst (v := 1) hx hb dL_law_435 (by decide) ?_
  refine lv_iadd hx hb dL_law_436 ?_
  refine q_nmi (y := nI (k + 1)) (nI_add k 1) ?_
  refine va_sld hx hb hX hbl hbA hS (vp_in_nI (show k + 1 < L by omega) (by omega)) dL_law_437 ?_
  refine q_nmi (y := xs (k + 1)) (by rw [nI_clamp (by omega)]) ?_
  refine lv_aload_n hx hb dL_law_438 rfl (lv_at hl 1 rfl) ?_
  refine lv_iload hx hb dL_law_439 (lv_at hl 5 rfl) ?_
  refine lv_iconst (v := 2) hx hb dL_law_441 (by decide) ?_
  refine lv_iadd hx hb dL_law_442 ?_
  refine q_nmi (y := nI (k + 2)) (nI_add k 2) ?_
  refine va_sld hx hb hX hbl hbA hS (vp_in_nI (show k + 2 < L by omega) (by omega)) dL_law_443 ?_
  refine q_nmi (y := xs (k + 2)) (by rw [nI_clamp (by omega)]) ?_
  obtain ⟨y, hy1, hf⟩ := q_bd_go hf
  refine q_wrC (v := (some (.int y.1))) (w := wMD cI cJ am M) (w' := wMD cI cJ am y.2) (ci := 3) (As := [.int (xs (k + 1)), .int (xs (k + 2))]) (rest := []) hx hb hml hown hts (c_X3_absent l D cI cJ cS am M _ (xs (k + 1)) (xs (k + 2)) _ hy1) (cwV 2 hts gL_law_X3_absent rfl rfl rfl (by decide +kernel) ⟨(Nat.le_of_ble_eq_true rfl), (Nat.le_of_ble_eq_true rfl)⟩) hE (pW_M hP) (dW_M hD) hS (fun _ h => h) (fun H1 hF hk h1 h2 => sW_M hP hD hF hk h1 h2) rfl rfl rfl hl.1 rfl (Nat.le_of_ble_eq_true rfl) dL_law_444 ⟨(by show cells + 3 + 0 ≤ 601024; omega), (by show slots + 18 + 0 ≤ 7293034; omega)⟩ (fun H locs hP hD hS => ?_)
  refine lv_istore (lv' := [(6, .int y.1), (5, .int x.1), (0, .ref b), (1, .ref (A 3 0)), (2, .ref (am 0)), (3, .ref k0), (4, .int (nI k))]) hx hb dL_law_447 hl (by decide) rfl (fun ls hl => ?_)
  refine lv_aload_n hx hb dL_law_449 rfl (lv_at hl 4 rfl) ?_
  refine q_rdVi (w := wMD cI cJ am y.2) (ci := 3) (As := []) (rest := []) hx hb hml hown hts (c_X3_thrown l D cI cJ cS am y.2 (MD_thrown y.2) rfl) (cwV 0 hts gL_law_X3_thrown rfl rfl rfl (by decide +kernel) ⟨(Nat.le_of_ble_eq_true rfl), (Nat.le_of_ble_eq_true rfl)⟩) hE (pW_M hP) rfl rfl rfl hl.1 rfl (Nat.le_of_ble_eq_true rfl) dL_law_450 ⟨(by show cells + 3 + 0 ≤ 601024; omega), (by show slots + 18 + 0 ≤ 7293034; omega)⟩ ?_
  obtain ⟨he, hr9, hc⟩ := q_okT hf
  subst hr9
  refine lv_iload hx hb dL_law_453 (lv_at hl 1 rfl) ?_
  refine lv_icmp_eq (tgt := 460) hx hb dL_law_455 (by decide) (fun _ => ?_) (fun z9 => absurd he z9)
  refine lv_iload hx hb dL_law_460 (lv_at hl 1 rfl) ?_
  refine lv_if_ne (tgt := 477) hx hb dL_law_462 (by decide) (fun hn => ?_) (fun hz => ?_)
  · refine lv_goto (tgt := 1622) hx hb dL_law_477 (by decide) ?_
    refine W.widen (k := cells + 8) (n := slots + 60) (by omega) (by omega) ?_
    exact kk A g2 B2 am k0 _ _ _ hg hP hD hS (lv_sub hl [2, 3, 4, 5, 6] rfl)
  · have he := hc hz
    refine lv_aload_n hx hb dL_law_465 rfl (lv_at hl 5 rfl) ?_
    refine lv_iconst (v := 0) hx hb dL_law_466 (by decide) ?_
    refine va_lald hx hb hE.1 hP 0 1 rfl rfl (by unfold vp_in; decide) dL_law_467 ?_
    refine lv_iload hx hb dL_law_468 (lv_at hl 0 rfl) ?_
    refine lv_i2l (v := ((y.1 : Int32).toInt64)) hx hb dL_law_470 rfl ?_
    refine W.lcmp hx hb dL_law_471 ?_
    refine lv_if_eq (tgt := 477) hx hb dL_law_472 (by decide) (fun _ => ?_) (fun z9 => absurd he z9)
    refine lv_goto (tgt := 1622) hx hb dL_law_477 (by decide) ?_
    refine W.widen (k := cells + 8) (n := slots + 60) (by omega) (by omega) ?_
    exact kk A g2 B2 am k0 _ _ _ hg hP hD hS (lv_sub hl [2, 3, 4, 5, 6] rfl)
set_option maxRecDepth 100000 in
set_option maxHeartbeats 4000000 in
theorem law_c4 {p : Program} {l : Launch} {e : Env} {s : State} {m : MethodId} {below : List Frame} {meth : Method} {c : Code} {b L : Nat} {xs : Nat → Int32} {D : va_G} {cI cJ cS : ClassId} {sa : Nat → Nat} (C1 : q_cx p l s m meth c b L xs D cI cJ cS sa) (hL : L ≤ 2048) {cells slots k : Nat} (hk3 : k + 3 < L) (hcl : cells + 8 ≤ 601024) (hsl : slots + 60 ≤ 7293034) {S : CM} {M : MD} {O : Nat → Int64} {r : CM × MD × (Nat → Int64)} (hf : q_c4 S M O (xs (k + 1)) (xs (k + 2)) (xs (k + 3)) = some r) (kk : q_go p l e s m below meth c b D cI cJ cS (cells + 8) (slots + 60) 1622 k r.1 r.2.1 r.2.2) : q_go p l e s m below meth c b D cI cJ cS cells slots 480 k S M O := by
  obtain ⟨⟨hx, hb, hr, hml, hown0, hts0, hX, hbl, hlocks, hgv⟩, hlt, hE, hES, hN, hZ⟩ := C1
  have hown : s.vm.findClass RL = some m.cls := hown0
  have hts : ∀ w ∈ wsL_law, w.before #[Value.ref b] s = true := fun w h => hts0 w (wsL_law_in w h)
  have hbA : ¬ (fun q : Nat => s.heap.size ≤ q) b := Nat.not_le.mpr hbl
  intro A g B am k0 H locs ls hg hP hD hS hl
  unfold q_c4 at hf
  refine lv_aload_n hx hb dL_law_480 rfl (lv_at hl 1 rfl) ?_
  refine lv_aload_n hx hb dL_law_481 rfl (lv_at hl 0 rfl) ?_
  refine lv_iload hx hb dL_law_482 (lv_at hl 4 rfl) ?_
  refine lv_iconst (v := 1) hx hb dL_law_484 (by decide) ?_
  refine lv_iadd hx hb dL_law_485 ?_
  refine q_nmi (y := nI (k + 1)) (nI_add k 1) ?_
  refine va_sld hx hb hX hbl hbA hS (vp_in_nI (show k + 1 < L by omega) (by omega)) dL_law_486 ?_
  refine q_nmi (y := xs (k + 1)) (by rw [nI_clamp (by omega)]) ?_
  refine lv_aload_n hx hb dL_law_487 rfl (lv_at hl 0 rfl) ?_
  refine lv_iload hx hb dL_law_488 (lv_at hl 4 rfl) ?_
  refine lv_iconst (v := 2) hx hb dL_law_490 (by decide) ?_
  refine lv_iadd hx hb dL_law_491 ?_
  refine q_nmi (y := nI (k + 2)) (nI_add k 2) ?_
  refine va_sld hx hb hX hbl hbA hS (vp_in_nI (show k + 2 < L by omega) (by omega)) dL_law_492 ?_
  refine q_nmi (y := xs (k + 2)) (by rw [nI_clamp (by omega)]) ?_
  refine lv_aload_n hx hb dL_law_493 rfl (lv_at hl 0 rfl) ?_
  refine lv_iload hx hb dL_law_494 (lv_at hl 4 rfl) ?_
  refine lv_iconst (v := 3) hx hb dL_law_496 (by decide) ?_
  refine lv_iadd hx hb dL_law_497 ?_
  refine q_nmi (y := nI (k + 3)) (nI_add k 3) ?_
  refine va_sld hx hb hX hbl hbA hS (vp_in_nI (show k + 3 < L by omega) (by omega)) dL_law_498 ?_
  refine q_nmi (y := xs (k + 3)) (by rw [nI_clamp (by omega)]) ?_
  refine lv_aload_n hx hb dL_law_499 rfl (lv_at hl 3 rfl) ?_
  obtain ⟨x, hx1, hf⟩ := q_bd_go hf
  refine q_lawL hP hD hS (fun _ h => h) (vx_runSX (As := [.ref (A 3 0), .int (xs (k + 1)), .int (xs (k + 2)), .int (xs (k + 3)), .ref k0]) (rest := []) ⟨hx, hb, hml, hown, hts⟩ (c_L_bid l hlt D cI cJ cS sa A g B hg k0 S O _ (xs (k + 1)) (xs (k + 2)) (xs (k + 3)) _ hx1) (vx_cwSW 5 hts gL_law_L_bid rfl rfl rfl (by decide +kernel) ⟨(Nat.le_of_ble_eq_true rfl), (Nat.le_of_ble_eq_true rfl)⟩) ⟨q_blindL, fun U hU hW => ⟨rfl, ⟨by rw [hU], by rw [hU]; exact pW_L hP, q_E.warm hW hE, (dW_L hD).weaken (fun _ _ _ _ => trivial), q_ES.warm hW hES, by rw [hU]; exact ((hZ.kept (fun a h1 h2 => hS.2.1 a h1 h2)).narrow (fun q h => h.elim (fun ⟨k9, e9, h9⟩ => (dW_L hD).2 k9 _ h9) (fun h => Nat.le_trans hS.1 h))).moved hW.alike⟩, q_EN.moved hW.alike hN⟩⟩ rfl rfl hl.1 rfl (lv_room (Nat.le_of_ble_eq_true rfl)) dL_law_500 ⟨(by show cells + 4 ≤ 601024; omega), (by show slots + 24 ≤ 7293034; omega)⟩) (fun g2 B2 H locs hg hP hD hS => ?_)
  refine lv_istore (lv' := [(5, .int x.1), (0, .ref b), (1, .ref (A 3 0)), (2, .ref (am 0)), (3, .ref k0), (4, .int (nI k))]) hx hb dL_law_503 hl (by decide) rfl (fun ls hl => ?_)
  refine lv_aload_n hx hb dL_law_505 rfl (lv_at hl 3 rfl) ?_
  refine lv_aload_n hx hb dL_law_506 rfl (lv_at hl 1 rfl) ?_
  refine lv_iload hx hb dL_law_507 (lv_at hl 5 rfl) ?_
  refine lv_iconst (v := 1) hx hb dL_law_509 (by decide) ?_
  refine lv_iadd hx hb dL_law_510 ?_
  refine q_nmi (y := nI (k + 1)) (nI_add k 1) ?_
  refine va_sld hx hb hX hbl hbA hS (vp_in_nI (show k + 1 < L by omega) (by omega)) dL_law_511 ?_
  refine q_nmi (y := xs (k + 1)) (by rw [nI_clamp (by omega)]) ?_
  refine lv_aload_n hx hb dL_law_512 rfl (lv_at hl 1 rfl) ?_
  refine lv_iload hx hb dL_law_513 (lv_at hl 5 rfl) ?_
  refine lv_iconst (v := 2) hx hb dL_law_515 (by decide) ?_
  refine lv_iadd hx hb dL_law_516 ?_
  refine q_nmi (y := nI (k + 2)) (nI_add k 2) ?_
  refine va_sld hx hb hX hbl hbA hS (vp_in_nI (show k + 2 < L by omega) (by omega)) dL_law_517 ?_
  refine q_nmi (y := xs (k + 2)) (by rw [nI_clamp (by omega)]) ?_
  refine lv_aload_n hx hb dL_law_518 rfl (lv_at hl 1 rfl) ?_
  refine lv_iload hx hb dL_law_519 (lv_at hl 5 rfl) ?_
  refine lv_iconst (v := 3) hx hb dL_law_521 (by decide) ?_
  refine lv_iadd hx hb dL_law_522 ?_
  refine q_nmi (y := nI (k + 3)) (nI_add k 3) ?_
  refine va_sld hx hb hX hbl hbA hS (vp_in_nI (show k + 3 < L by omega) (by omega)) dL_law_523 ?_
  refine q_nmi (y := xs (k + 3)) (by rw [nI_clamp (by omega)]) ?_
  obtain ⟨y, hy1, hf⟩ := q_bd_go hf
  refine q_wrC (v := (some (.int y.1))) (w := wMD cI cJ am M) (w' := wMD cI cJ am y.2) (ci := 3) (As := [.int (xs (k + 1)), .int (xs (k + 2)), .int (xs (k + 3))]) (rest := []) hx hb hml hown hts (c_X3_bid l D cI cJ cS am M _ (xs (k + 1)) (xs (k + 2)) (xs (k + 3)) _ hy1) (cwV 3 hts gL_law_X3_bid rfl rfl rfl (by decide +kernel) ⟨(Nat.le_of_ble_eq_true rfl), (Nat.le_of_ble_eq_true rfl)⟩) hE (pW_M hP) (dW_M hD) hS (fun _ h => h) (fun H1 hF hk h1 h2 => sW_M hP hD hF hk h1 h2) rfl rfl rfl hl.1 rfl (Nat.le_of_ble_eq_true rfl) dL_law_524 ⟨(by show cells + 4 + 0 ≤ 601024; omega), (by show slots + 24 + 0 ≤ 7293034; omega)⟩ (fun H locs hP hD hS => ?_)
  refine lv_istore (lv' := [(6, .int y.1), (5, .int x.1), (0, .ref b), (1, .ref (A 3 0)), (2, .ref (am 0)), (3, .ref k0), (4, .int (nI k))]) hx hb dL_law_527 hl (by decide) rfl (fun ls hl => ?_)
  refine lv_aload_n hx hb dL_law_529 rfl (lv_at hl 4 rfl) ?_
  refine q_rdVi (w := wMD cI cJ am y.2) (ci := 3) (As := []) (rest := []) hx hb hml hown hts (c_X3_thrown l D cI cJ cS am y.2 (MD_thrown y.2) rfl) (cwV 0 hts gL_law_X3_thrown rfl rfl rfl (by decide +kernel) ⟨(Nat.le_of_ble_eq_true rfl), (Nat.le_of_ble_eq_true rfl)⟩) hE (pW_M hP) rfl rfl rfl hl.1 rfl (Nat.le_of_ble_eq_true rfl) dL_law_530 ⟨(by show cells + 4 + 0 ≤ 601024; omega), (by show slots + 24 + 0 ≤ 7293034; omega)⟩ ?_
  obtain ⟨he, hr9, hc⟩ := q_okT hf
  subst hr9
  refine lv_iload hx hb dL_law_533 (lv_at hl 1 rfl) ?_
  refine lv_icmp_eq (tgt := 540) hx hb dL_law_535 (by decide) (fun _ => ?_) (fun z9 => absurd he z9)
  refine lv_iload hx hb dL_law_540 (lv_at hl 1 rfl) ?_
  refine lv_if_ne (tgt := 557) hx hb dL_law_542 (by decide) (fun hn => ?_) (fun hz => ?_)
  · refine lv_goto (tgt := 1622) hx hb dL_law_557 (by decide) ?_
    refine W.widen (k := cells + 8) (n := slots + 60) (by omega) (by omega) ?_
    exact kk A g2 B2 am k0 _ _ _ hg hP hD hS (lv_sub hl [2, 3, 4, 5, 6] rfl)
  · have he := hc hz
    refine lv_aload_n hx hb dL_law_545 rfl (lv_at hl 5 rfl) ?_
    refine lv_iconst (v := 0) hx hb dL_law_546 (by decide) ?_
    refine va_lald hx hb hE.1 hP 0 1 rfl rfl (by unfold vp_in; decide) dL_law_547 ?_
    refine lv_iload hx hb dL_law_548 (lv_at hl 0 rfl) ?_
    refine lv_i2l (v := ((y.1 : Int32).toInt64)) hx hb dL_law_550 rfl ?_
    refine W.lcmp hx hb dL_law_551 ?_
    refine lv_if_eq (tgt := 557) hx hb dL_law_552 (by decide) (fun _ => ?_) (fun z9 => absurd he z9)
    refine lv_goto (tgt := 1622) hx hb dL_law_557 (by decide) ?_
    refine W.widen (k := cells + 8) (n := slots + 60) (by omega) (by omega) ?_
    exact kk A g2 B2 am k0 _ _ _ hg hP hD hS (lv_sub hl [2, 3, 4, 5, 6] rfl)
set_option maxRecDepth 100000 in
set_option maxHeartbeats 4000000 in
theorem law_c5 {p : Program} {l : Launch} {e : Env} {s : State} {m : MethodId} {below : List Frame} {meth : Method} {c : Code} {b L : Nat} {xs : Nat → Int32} {D : va_G} {cI cJ cS : ClassId} {sa : Nat → Nat} (C1 : q_cx p l s m meth c b L xs D cI cJ cS sa) (hL : L ≤ 2048) {cells slots k : Nat} (hk3 : k + 3 < L) (hcl : cells + 8 ≤ 601024) (hsl : slots + 60 ≤ 7293034) {S : CM} {M : MD} {O : Nat → Int64} {r : CM × MD × (Nat → Int64)} (hf : q_c5 S M O (xs (k + 1)) (xs (k + 2)) (xs (k + 3)) = some r) (kk : q_go p l e s m below meth c b D cI cJ cS (cells + 8) (slots + 60) 1622 k r.1 r.2.1 r.2.2) : q_go p l e s m below meth c b D cI cJ cS cells slots 560 k S M O := by
  obtain ⟨⟨hx, hb, hr, hml, hown0, hts0, hX, hbl, hlocks, hgv⟩, hlt, hE, hES, hN, hZ⟩ := C1
  have hown : s.vm.findClass RL = some m.cls := hown0
  have hts : ∀ w ∈ wsL_law, w.before #[Value.ref b] s = true := fun w h => hts0 w (wsL_law_in w h)
  have hbA : ¬ (fun q : Nat => s.heap.size ≤ q) b := Nat.not_le.mpr hbl
  intro A g B am k0 H locs ls hg hP hD hS hl
  unfold q_c5 at hf
  refine lv_aload_n hx hb dL_law_560 rfl (lv_at hl 1 rfl) ?_
  refine lv_aload_n hx hb dL_law_561 rfl (lv_at hl 0 rfl) ?_
  refine lv_iload hx hb dL_law_562 (lv_at hl 4 rfl) ?_
  refine lv_iconst (v := 1) hx hb dL_law_564 (by decide) ?_
  refine lv_iadd hx hb dL_law_565 ?_
  refine q_nmi (y := nI (k + 1)) (nI_add k 1) ?_
  refine va_sld hx hb hX hbl hbA hS (vp_in_nI (show k + 1 < L by omega) (by omega)) dL_law_566 ?_
  refine q_nmi (y := xs (k + 1)) (by rw [nI_clamp (by omega)]) ?_
  refine lv_aload_n hx hb dL_law_567 rfl (lv_at hl 0 rfl) ?_
  refine lv_iload hx hb dL_law_568 (lv_at hl 4 rfl) ?_
  refine lv_iconst (v := 2) hx hb dL_law_570 (by decide) ?_
  refine lv_iadd hx hb dL_law_571 ?_
  refine q_nmi (y := nI (k + 2)) (nI_add k 2) ?_
  refine va_sld hx hb hX hbl hbA hS (vp_in_nI (show k + 2 < L by omega) (by omega)) dL_law_572 ?_
  refine q_nmi (y := xs (k + 2)) (by rw [nI_clamp (by omega)]) ?_
  refine lv_aload_n hx hb dL_law_573 rfl (lv_at hl 3 rfl) ?_
  obtain ⟨x, hx1, hf⟩ := q_bd_go hf
  refine q_lawL hP hD hS (fun _ h => h) (vx_runSX (As := [.ref (A 3 0), .int (xs (k + 1)), .int (xs (k + 2)), .ref k0]) (rest := []) ⟨hx, hb, hml, hown, hts⟩ (c_L_takeBack l hlt D cI cJ cS sa A g B hg k0 S O _ (xs (k + 1)) (xs (k + 2)) _ hx1) (vx_cwSW 4 hts gL_law_L_takeBack rfl rfl rfl (by decide +kernel) ⟨(Nat.le_of_ble_eq_true rfl), (Nat.le_of_ble_eq_true rfl)⟩) ⟨q_blindL, fun U hU hW => ⟨rfl, ⟨by rw [hU], by rw [hU]; exact pW_L hP, q_E.warm hW hE, (dW_L hD).weaken (fun _ _ _ _ => trivial), q_ES.warm hW hES, by rw [hU]; exact ((hZ.kept (fun a h1 h2 => hS.2.1 a h1 h2)).narrow (fun q h => h.elim (fun ⟨k9, e9, h9⟩ => (dW_L hD).2 k9 _ h9) (fun h => Nat.le_trans hS.1 h))).moved hW.alike⟩, q_EN.moved hW.alike hN⟩⟩ rfl rfl hl.1 rfl (lv_room (Nat.le_of_ble_eq_true rfl)) dL_law_574 ⟨(by show cells + 3 ≤ 601024; omega), (by show slots + 18 ≤ 7293034; omega)⟩) (fun g2 B2 H locs hg hP hD hS => ?_)
  refine lv_istore (lv' := [(5, .int x.1), (0, .ref b), (1, .ref (A 3 0)), (2, .ref (am 0)), (3, .ref k0), (4, .int (nI k))]) hx hb dL_law_577 hl (by decide) rfl (fun ls hl => ?_)
  refine lv_aload_n hx hb dL_law_579 rfl (lv_at hl 3 rfl) ?_
  refine lv_aload_n hx hb dL_law_580 rfl (lv_at hl 1 rfl) ?_
  refine lv_iload hx hb dL_law_581 (lv_at hl 5 rfl) ?_
  refine lv_iconst (v := 1) hx hb dL_law_583 (by decide) ?_
  refine lv_iadd hx hb dL_law_584 ?_
  refine q_nmi (y := nI (k + 1)) (nI_add k 1) ?_
  refine va_sld hx hb hX hbl hbA hS (vp_in_nI (show k + 1 < L by omega) (by omega)) dL_law_585 ?_
  refine q_nmi (y := xs (k + 1)) (by rw [nI_clamp (by omega)]) ?_
  refine lv_aload_n hx hb dL_law_586 rfl (lv_at hl 1 rfl) ?_
  refine lv_iload hx hb dL_law_587 (lv_at hl 5 rfl) ?_
  refine lv_iconst (v := 2) hx hb dL_law_589 (by decide) ?_
  refine lv_iadd hx hb dL_law_590 ?_
  refine q_nmi (y := nI (k + 2)) (nI_add k 2) ?_
  refine va_sld hx hb hX hbl hbA hS (vp_in_nI (show k + 2 < L by omega) (by omega)) dL_law_591 ?_
  refine q_nmi (y := xs (k + 2)) (by rw [nI_clamp (by omega)]) ?_
  obtain ⟨y, hy1, hf⟩ := q_bd_go hf
  refine q_wrC (v := (some (.int y.1))) (w := wMD cI cJ am M) (w' := wMD cI cJ am y.2) (ci := 3) (As := [.int (xs (k + 1)), .int (xs (k + 2))]) (rest := []) hx hb hml hown hts (c_X3_takeBack l D cI cJ cS am M _ (xs (k + 1)) (xs (k + 2)) _ hy1) (cwV 2 hts gL_law_X3_takeBack rfl rfl rfl (by decide +kernel) ⟨(Nat.le_of_ble_eq_true rfl), (Nat.le_of_ble_eq_true rfl)⟩) hE (pW_M hP) (dW_M hD) hS (fun _ h => h) (fun H1 hF hk h1 h2 => sW_M hP hD hF hk h1 h2) rfl rfl rfl hl.1 rfl (Nat.le_of_ble_eq_true rfl) dL_law_592 ⟨(by show cells + 3 + 0 ≤ 601024; omega), (by show slots + 18 + 0 ≤ 7293034; omega)⟩ (fun H locs hP hD hS => ?_)
  refine lv_istore (lv' := [(6, .int y.1), (5, .int x.1), (0, .ref b), (1, .ref (A 3 0)), (2, .ref (am 0)), (3, .ref k0), (4, .int (nI k))]) hx hb dL_law_595 hl (by decide) rfl (fun ls hl => ?_)
  refine lv_aload_n hx hb dL_law_597 rfl (lv_at hl 4 rfl) ?_
  refine q_rdVi (w := wMD cI cJ am y.2) (ci := 3) (As := []) (rest := []) hx hb hml hown hts (c_X3_thrown l D cI cJ cS am y.2 (MD_thrown y.2) rfl) (cwV 0 hts gL_law_X3_thrown rfl rfl rfl (by decide +kernel) ⟨(Nat.le_of_ble_eq_true rfl), (Nat.le_of_ble_eq_true rfl)⟩) hE (pW_M hP) rfl rfl rfl hl.1 rfl (Nat.le_of_ble_eq_true rfl) dL_law_598 ⟨(by show cells + 3 + 0 ≤ 601024; omega), (by show slots + 18 + 0 ≤ 7293034; omega)⟩ ?_
  obtain ⟨he, hr9, hc⟩ := q_okT hf
  subst hr9
  refine lv_iload hx hb dL_law_601 (lv_at hl 1 rfl) ?_
  refine lv_icmp_eq (tgt := 608) hx hb dL_law_603 (by decide) (fun _ => ?_) (fun z9 => absurd he z9)
  refine lv_iload hx hb dL_law_608 (lv_at hl 1 rfl) ?_
  refine lv_if_ne (tgt := 625) hx hb dL_law_610 (by decide) (fun hn => ?_) (fun hz => ?_)
  · refine lv_goto (tgt := 1622) hx hb dL_law_625 (by decide) ?_
    refine W.widen (k := cells + 8) (n := slots + 60) (by omega) (by omega) ?_
    exact kk A g2 B2 am k0 _ _ _ hg hP hD hS (lv_sub hl [2, 3, 4, 5, 6] rfl)
  · have he := hc hz
    refine lv_aload_n hx hb dL_law_613 rfl (lv_at hl 5 rfl) ?_
    refine lv_iconst (v := 0) hx hb dL_law_614 (by decide) ?_
    refine va_lald hx hb hE.1 hP 0 1 rfl rfl (by unfold vp_in; decide) dL_law_615 ?_
    refine lv_iload hx hb dL_law_616 (lv_at hl 0 rfl) ?_
    refine lv_i2l (v := ((y.1 : Int32).toInt64)) hx hb dL_law_618 rfl ?_
    refine W.lcmp hx hb dL_law_619 ?_
    refine lv_if_eq (tgt := 625) hx hb dL_law_620 (by decide) (fun _ => ?_) (fun z9 => absurd he z9)
    refine lv_goto (tgt := 1622) hx hb dL_law_625 (by decide) ?_
    refine W.widen (k := cells + 8) (n := slots + 60) (by omega) (by omega) ?_
    exact kk A g2 B2 am k0 _ _ _ hg hP hD hS (lv_sub hl [2, 3, 4, 5, 6] rfl)
set_option maxRecDepth 100000 in
set_option maxHeartbeats 4000000 in
theorem law_c6 {p : Program} {l : Launch} {e : Env} {s : State} {m : MethodId} {below : List Frame} {meth : Method} {c : Code} {b L : Nat} {xs : Nat → Int32} {D : va_G} {cI cJ cS : ClassId} {sa : Nat → Nat} (C1 : q_cx p l s m meth c b L xs D cI cJ cS sa) (hL : L ≤ 2048) {cells slots k : Nat} (hk3 : k + 3 < L) (hcl : cells + 8 ≤ 601024) (hsl : slots + 60 ≤ 7293034) {S : CM} {M : MD} {O : Nat → Int64} {r : CM × MD × (Nat → Int64)} (hf : q_c6 S M O (xs (k + 1)) (xs (k + 2)) (xs (k + 3)) = some r) (kk : q_go p l e s m below meth c b D cI cJ cS (cells + 8) (slots + 60) 1622 k r.1 r.2.1 r.2.2) : q_go p l e s m below meth c b D cI cJ cS cells slots 628 k S M O := by
  obtain ⟨⟨hx, hb, hr, hml, hown0, hts0, hX, hbl, hlocks, hgv⟩, hlt, hE, hES, hN, hZ⟩ := C1
  have hown : s.vm.findClass RL = some m.cls := hown0
  have hts : ∀ w ∈ wsL_law, w.before #[Value.ref b] s = true := fun w h => hts0 w (wsL_law_in w h)
  have hbA : ¬ (fun q : Nat => s.heap.size ≤ q) b := Nat.not_le.mpr hbl
  intro A g B am k0 H locs ls hg hP hD hS hl
  unfold q_c6 at hf
  refine lv_aload_n hx hb dL_law_628 rfl (lv_at hl 1 rfl) ?_
  refine lv_aload_n hx hb dL_law_629 rfl (lv_at hl 0 rfl) ?_
  refine lv_iload hx hb dL_law_630 (lv_at hl 4 rfl) ?_
  refine lv_iconst (v := 1) hx hb dL_law_632 (by decide) ?_
  refine lv_iadd hx hb dL_law_633 ?_
  refine q_nmi (y := nI (k + 1)) (nI_add k 1) ?_
  refine va_sld hx hb hX hbl hbA hS (vp_in_nI (show k + 1 < L by omega) (by omega)) dL_law_634 ?_
  refine q_nmi (y := xs (k + 1)) (by rw [nI_clamp (by omega)]) ?_
  refine lv_aload_n hx hb dL_law_635 rfl (lv_at hl 3 rfl) ?_
  obtain ⟨x, hx1, hf⟩ := q_bd_go hf
  refine q_lawL hP hD hS (fun _ h => h) (vx_runSX (As := [.ref (A 3 0), .int (xs (k + 1)), .ref k0]) (rest := []) ⟨hx, hb, hml, hown, hts⟩ (c_L_cover l hlt D cI cJ cS sa A g B hg k0 S O _ (xs (k + 1)) _ hx1) (vx_cwSW 3 hts gL_law_L_cover rfl rfl rfl (by decide +kernel) ⟨(Nat.le_of_ble_eq_true rfl), (Nat.le_of_ble_eq_true rfl)⟩) ⟨q_blindL, fun U hU hW => ⟨rfl, ⟨by rw [hU], by rw [hU]; exact pW_L hP, q_E.warm hW hE, (dW_L hD).weaken (fun _ _ _ _ => trivial), q_ES.warm hW hES, by rw [hU]; exact ((hZ.kept (fun a h1 h2 => hS.2.1 a h1 h2)).narrow (fun q h => h.elim (fun ⟨k9, e9, h9⟩ => (dW_L hD).2 k9 _ h9) (fun h => Nat.le_trans hS.1 h))).moved hW.alike⟩, q_EN.moved hW.alike hN⟩⟩ rfl rfl hl.1 rfl (lv_room (Nat.le_of_ble_eq_true rfl)) dL_law_636 ⟨(by show cells + 2 ≤ 601024; omega), (by show slots + 12 ≤ 7293034; omega)⟩) (fun g2 B2 H locs hg hP hD hS => ?_)
  refine lv_istore (lv' := [(5, .int x.1), (0, .ref b), (1, .ref (A 3 0)), (2, .ref (am 0)), (3, .ref k0), (4, .int (nI k))]) hx hb dL_law_639 hl (by decide) rfl (fun ls hl => ?_)
  refine lv_aload_n hx hb dL_law_641 rfl (lv_at hl 3 rfl) ?_
  refine lv_aload_n hx hb dL_law_642 rfl (lv_at hl 1 rfl) ?_
  refine lv_iload hx hb dL_law_643 (lv_at hl 5 rfl) ?_
  refine lv_iconst (v := 1) hx hb dL_law_645 (by decide) ?_
  refine lv_iadd hx hb dL_law_646 ?_
  refine q_nmi (y := nI (k + 1)) (nI_add k 1) ?_
  refine va_sld hx hb hX hbl hbA hS (vp_in_nI (show k + 1 < L by omega) (by omega)) dL_law_647 ?_
  refine q_nmi (y := xs (k + 1)) (by rw [nI_clamp (by omega)]) ?_
  obtain ⟨y, hy1, hf⟩ := q_bd_go hf
  refine q_wrC (v := (some (.int y.1))) (w := wMD cI cJ am M) (w' := wMD cI cJ am y.2) (ci := 3) (As := [.int (xs (k + 1))]) (rest := []) hx hb hml hown hts (c_X3_cover l D cI cJ cS am M _ (xs (k + 1)) _ hy1) (cwV 1 hts gL_law_X3_cover rfl rfl rfl (by decide +kernel) ⟨(Nat.le_of_ble_eq_true rfl), (Nat.le_of_ble_eq_true rfl)⟩) hE (pW_M hP) (dW_M hD) hS (fun _ h => h) (fun H1 hF hk h1 h2 => sW_M hP hD hF hk h1 h2) rfl rfl rfl hl.1 rfl (Nat.le_of_ble_eq_true rfl) dL_law_648 ⟨(by show cells + 2 + 0 ≤ 601024; omega), (by show slots + 12 + 0 ≤ 7293034; omega)⟩ (fun H locs hP hD hS => ?_)
  refine lv_istore (lv' := [(6, .int y.1), (5, .int x.1), (0, .ref b), (1, .ref (A 3 0)), (2, .ref (am 0)), (3, .ref k0), (4, .int (nI k))]) hx hb dL_law_651 hl (by decide) rfl (fun ls hl => ?_)
  refine lv_aload_n hx hb dL_law_653 rfl (lv_at hl 4 rfl) ?_
  refine q_rdVi (w := wMD cI cJ am y.2) (ci := 3) (As := []) (rest := []) hx hb hml hown hts (c_X3_thrown l D cI cJ cS am y.2 (MD_thrown y.2) rfl) (cwV 0 hts gL_law_X3_thrown rfl rfl rfl (by decide +kernel) ⟨(Nat.le_of_ble_eq_true rfl), (Nat.le_of_ble_eq_true rfl)⟩) hE (pW_M hP) rfl rfl rfl hl.1 rfl (Nat.le_of_ble_eq_true rfl) dL_law_654 ⟨(by show cells + 2 + 0 ≤ 601024; omega), (by show slots + 12 + 0 ≤ 7293034; omega)⟩ ?_
  obtain ⟨he, hr9, hc⟩ := q_okT hf
  subst hr9
  refine lv_iload hx hb dL_law_657 (lv_at hl 1 rfl) ?_
  refine lv_icmp_eq (tgt := 664) hx hb dL_law_659 (by decide) (fun _ => ?_) (fun z9 => absurd he z9)
  refine lv_iload hx hb dL_law_664 (lv_at hl 1 rfl) ?_
  refine lv_if_ne (tgt := 681) hx hb dL_law_666 (by decide) (fun hn => ?_) (fun hz => ?_)
  · refine lv_goto (tgt := 1622) hx hb dL_law_681 (by decide) ?_
    refine W.widen (k := cells + 8) (n := slots + 60) (by omega) (by omega) ?_
    exact kk A g2 B2 am k0 _ _ _ hg hP hD hS (lv_sub hl [2, 3, 4, 5, 6] rfl)
  · have he := hc hz
    refine lv_aload_n hx hb dL_law_669 rfl (lv_at hl 5 rfl) ?_
    refine lv_iconst (v := 0) hx hb dL_law_670 (by decide) ?_
    refine va_lald hx hb hE.1 hP 0 1 rfl rfl (by unfold vp_in; decide) dL_law_671 ?_
    refine lv_iload hx hb dL_law_672 (lv_at hl 0 rfl) ?_
    refine lv_i2l (v := ((y.1 : Int32).toInt64)) hx hb dL_law_674 rfl ?_
    refine W.lcmp hx hb dL_law_675 ?_
    refine lv_if_eq (tgt := 681) hx hb dL_law_676 (by decide) (fun _ => ?_) (fun z9 => absurd he z9)
    refine lv_goto (tgt := 1622) hx hb dL_law_681 (by decide) ?_
    refine W.widen (k := cells + 8) (n := slots + 60) (by omega) (by omega) ?_
    exact kk A g2 B2 am k0 _ _ _ hg hP hD hS (lv_sub hl [2, 3, 4, 5, 6] rfl)
set_option maxRecDepth 100000 in
set_option maxHeartbeats 4000000 in
theorem law_c7 {p : Program} {l : Launch} {e : Env} {s : State} {m : MethodId} {below : List Frame} {meth : Method} {c : Code} {b L : Nat} {xs : Nat → Int32} {D : va_G} {cI cJ cS : ClassId} {sa : Nat → Nat} (C1 : q_cx p l s m meth c b L xs D cI cJ cS sa) (hL : L ≤ 2048) {cells slots k : Nat} (hk3 : k + 3 < L) (hcl : cells + 8 ≤ 601024) (hsl : slots + 60 ≤ 7293034) {S : CM} {M : MD} {O : Nat → Int64} {r : CM × MD × (Nat → Int64)} (hf : q_c7 S M O (xs (k + 1)) (xs (k + 2)) (xs (k + 3)) = some r) (kk : q_go p l e s m below meth c b D cI cJ cS (cells + 8) (slots + 60) 1622 k r.1 r.2.1 r.2.2) : q_go p l e s m below meth c b D cI cJ cS cells slots 684 k S M O := by
  obtain ⟨⟨hx, hb, hr, hml, hown0, hts0, hX, hbl, hlocks, hgv⟩, hlt, hE, hES, hN, hZ⟩ := C1
  have hown : s.vm.findClass RL = some m.cls := hown0
  have hts : ∀ w ∈ wsL_law, w.before #[Value.ref b] s = true := fun w h => hts0 w (wsL_law_in w h)
  have hbA : ¬ (fun q : Nat => s.heap.size ≤ q) b := Nat.not_le.mpr hbl
  intro A g B am k0 H locs ls hg hP hD hS hl
  unfold q_c7 at hf
  refine lv_aload_n hx hb dL_law_684 rfl (lv_at hl 1 rfl) ?_
  obtain ⟨x, hx1, hf⟩ := q_bd_go hf
  refine q_lawC (v := some (.int x.1)) hP hD hS (fun _ h => h) (va_runV (As := []) (rest := []) ⟨hx, hb, hml, hown, hts⟩ (c_X2_coverAll l hlt D cI cJ cS sa A g B hg S _ _ hx1) (cwV 0 hts gL_law_X2_coverAll rfl rfl rfl (by decide +kernel) ⟨(Nat.le_of_ble_eq_true rfl), (Nat.le_of_ble_eq_true rfl)⟩) ⟨q_blindWX, va_recv hE.1 (pW_C hP) (ci := 2) (q0 := 0) rfl rfl, fun U hU hW => ⟨rfl, by rw [hU], by rw [hU]; exact pW_C hP, q_E.warm hW hE, (dW_C hD).weaken (fun _ _ _ _ => trivial), q_ES.warm hW hES, by rw [hU]; exact ((hZ.kept (fun a h1 h2 => hS.2.1 a h1 h2)).narrow (fun q h => h.elim (fun ⟨k9, e9, h9⟩ => (dW_C hD).2 k9 _ h9) (fun h => Nat.le_trans hS.1 h))).moved hW.alike⟩⟩ rfl rfl hl.1 rfl (lv_room (Nat.le_of_ble_eq_true rfl)) dL_law_685 ⟨(by show cells + 0 ≤ 601024; omega), (by show slots + 0 ≤ 7293034; omega)⟩) (fun g2 B2 H locs hg hP hD hS => ?_)
  refine lv_aload_n hx hb dL_law_688 rfl (lv_at hl 2 rfl) ?_
  obtain ⟨y, hy1, hf⟩ := q_bd_go hf
  refine q_wrC (v := (some (.int y.1))) (w := wMD cI cJ am M) (w' := wMD cI cJ am y.2) (ci := 3) (As := []) (rest := [.int x.1]) hx hb hml hown hts (c_X3_coverAll l D cI cJ cS am M _  _ hy1) (cwV 0 hts gL_law_X3_coverAll rfl rfl rfl (by decide +kernel) ⟨(Nat.le_of_ble_eq_true rfl), (Nat.le_of_ble_eq_true rfl)⟩) hE (pW_M hP) (dW_M hD) hS (fun _ h => h) (fun H1 hF hk h1 h2 => sW_M hP hD hF hk h1 h2) rfl rfl rfl hl.1 rfl (Nat.le_of_ble_eq_true rfl) dL_law_689 ⟨(by show cells + 0 ≤ 601024; omega), (by show slots + 0 ≤ 7293034; omega)⟩ (fun H locs hP hD hS => ?_)
  have he := q_gc_in hf
  have hf := q_some (q_ite_t he hf)
  subst hf
  refine lv_icmp_eq (tgt := 1622) hx hb dL_law_692 (by decide) (fun _ => ?_) (fun z9 => absurd he z9)
  refine W.widen (k := cells + 8) (n := slots + 60) (by omega) (by omega) ?_
  exact kk A g2 B2 am k0 _ _ _ hg hP hD hS (lv_sub hl [0, 1, 2, 3, 4] rfl)
set_option maxRecDepth 100000 in
set_option maxHeartbeats 4000000 in
theorem law_c8 {p : Program} {l : Launch} {e : Env} {s : State} {m : MethodId} {below : List Frame} {meth : Method} {c : Code} {b L : Nat} {xs : Nat → Int32} {D : va_G} {cI cJ cS : ClassId} {sa : Nat → Nat} (C1 : q_cx p l s m meth c b L xs D cI cJ cS sa) (hL : L ≤ 2048) {cells slots k : Nat} (hk3 : k + 3 < L) (hcl : cells + 8 ≤ 601024) (hsl : slots + 60 ≤ 7293034) {S : CM} {M : MD} {O : Nat → Int64} {r : CM × MD × (Nat → Int64)} (hf : q_c8 S M O (xs (k + 1)) (xs (k + 2)) (xs (k + 3)) = some r) (kk : q_go p l e s m below meth c b D cI cJ cS (cells + 8) (slots + 60) 1622 k r.1 r.2.1 r.2.2) : q_go p l e s m below meth c b D cI cJ cS cells slots 697 k S M O := by
  obtain ⟨⟨hx, hb, hr, hml, hown0, hts0, hX, hbl, hlocks, hgv⟩, hlt, hE, hES, hN, hZ⟩ := C1
  have hown : s.vm.findClass RL = some m.cls := hown0
  have hts : ∀ w ∈ wsL_law, w.before #[Value.ref b] s = true := fun w h => hts0 w (wsL_law_in w h)
  have hbA : ¬ (fun q : Nat => s.heap.size ≤ q) b := Nat.not_le.mpr hbl
  intro A g B am k0 H locs ls hg hP hD hS hl
  unfold q_c8 at hf
  refine lv_aload_n hx hb dL_law_697 rfl (lv_at hl 1 rfl) ?_
  refine lv_aload_n hx hb dL_law_698 rfl (lv_at hl 0 rfl) ?_
  refine lv_iload hx hb dL_law_699 (lv_at hl 4 rfl) ?_
  refine lv_iconst (v := 1) hx hb dL_law_701 (by decide) ?_
  refine lv_iadd hx hb dL_law_702 ?_
  refine q_nmi (y := nI (k + 1)) (nI_add k 1) ?_
  refine va_sld hx hb hX hbl hbA hS (vp_in_nI (show k + 1 < L by omega) (by omega)) dL_law_703 ?_
  refine q_nmi (y := xs (k + 1)) (by rw [nI_clamp (by omega)]) ?_
  refine lv_aload_n hx hb dL_law_704 rfl (lv_at hl 0 rfl) ?_
  refine lv_iload hx hb dL_law_705 (lv_at hl 4 rfl) ?_
  refine lv_iconst (v := 2) hx hb dL_law_707 (by decide) ?_
  refine lv_iadd hx hb dL_law_708 ?_
  refine q_nmi (y := nI (k + 2)) (nI_add k 2) ?_
  refine va_sld hx hb hX hbl hbA hS (vp_in_nI (show k + 2 < L by omega) (by omega)) dL_law_709 ?_
  refine q_nmi (y := xs (k + 2)) (by rw [nI_clamp (by omega)]) ?_
  refine lv_aload_n hx hb dL_law_710 rfl (lv_at hl 3 rfl) ?_
  obtain ⟨x, hx1, hf⟩ := q_bd_go hf
  refine q_lawL hP hD hS (fun _ h => h) (vx_runSX (As := [.ref (A 3 0), .int (xs (k + 1)), .int (xs (k + 2)), .ref k0]) (rest := []) ⟨hx, hb, hml, hown, hts⟩ (c_L_handOver l hlt D cI cJ cS sa A g B hg k0 S O _ (xs (k + 1)) (xs (k + 2)) _ hx1) (vx_cwSW 4 hts gL_law_L_handOver rfl rfl rfl (by decide +kernel) ⟨(Nat.le_of_ble_eq_true rfl), (Nat.le_of_ble_eq_true rfl)⟩) ⟨q_blindL, fun U hU hW => ⟨rfl, ⟨by rw [hU], by rw [hU]; exact pW_L hP, q_E.warm hW hE, (dW_L hD).weaken (fun _ _ _ _ => trivial), q_ES.warm hW hES, by rw [hU]; exact ((hZ.kept (fun a h1 h2 => hS.2.1 a h1 h2)).narrow (fun q h => h.elim (fun ⟨k9, e9, h9⟩ => (dW_L hD).2 k9 _ h9) (fun h => Nat.le_trans hS.1 h))).moved hW.alike⟩, q_EN.moved hW.alike hN⟩⟩ rfl rfl hl.1 rfl (lv_room (Nat.le_of_ble_eq_true rfl)) dL_law_711 ⟨(by show cells + 3 ≤ 601024; omega), (by show slots + 18 ≤ 7293034; omega)⟩) (fun g2 B2 H locs hg hP hD hS => ?_)
  refine lv_istore (lv' := [(5, .int x.1), (0, .ref b), (1, .ref (A 3 0)), (2, .ref (am 0)), (3, .ref k0), (4, .int (nI k))]) hx hb dL_law_714 hl (by decide) rfl (fun ls hl => ?_)
  refine lv_aload_n hx hb dL_law_716 rfl (lv_at hl 3 rfl) ?_
  refine lv_aload_n hx hb dL_law_717 rfl (lv_at hl 1 rfl) ?_
  refine lv_iload hx hb dL_law_718 (lv_at hl 5 rfl) ?_
  refine lv_iconst (v := 1) hx hb dL_law_720 (by decide) ?_
  refine lv_iadd hx hb dL_law_721 ?_
  refine q_nmi (y := nI (k + 1)) (nI_add k 1) ?_
  refine va_sld hx hb hX hbl hbA hS (vp_in_nI (show k + 1 < L by omega) (by omega)) dL_law_722 ?_
  refine q_nmi (y := xs (k + 1)) (by rw [nI_clamp (by omega)]) ?_
  refine lv_aload_n hx hb dL_law_723 rfl (lv_at hl 1 rfl) ?_
  refine lv_iload hx hb dL_law_724 (lv_at hl 5 rfl) ?_
  refine lv_iconst (v := 2) hx hb dL_law_726 (by decide) ?_
  refine lv_iadd hx hb dL_law_727 ?_
  refine q_nmi (y := nI (k + 2)) (nI_add k 2) ?_
  refine va_sld hx hb hX hbl hbA hS (vp_in_nI (show k + 2 < L by omega) (by omega)) dL_law_728 ?_
  refine q_nmi (y := xs (k + 2)) (by rw [nI_clamp (by omega)]) ?_
  obtain ⟨y, hy1, hf⟩ := q_bd_go hf
  refine q_wrC (v := (some (.int y.1))) (w := wMD cI cJ am M) (w' := wMD cI cJ am y.2) (ci := 3) (As := [.int (xs (k + 1)), .int (xs (k + 2))]) (rest := []) hx hb hml hown hts (c_X3_handOver l D cI cJ cS am M _ (xs (k + 1)) (xs (k + 2)) _ hy1) (cwV 2 hts gL_law_X3_handOver rfl rfl rfl (by decide +kernel) ⟨(Nat.le_of_ble_eq_true rfl), (Nat.le_of_ble_eq_true rfl)⟩) hE (pW_M hP) (dW_M hD) hS (fun _ h => h) (fun H1 hF hk h1 h2 => sW_M hP hD hF hk h1 h2) rfl rfl rfl hl.1 rfl (Nat.le_of_ble_eq_true rfl) dL_law_729 ⟨(by show cells + 3 + 0 ≤ 601024; omega), (by show slots + 18 + 0 ≤ 7293034; omega)⟩ (fun H locs hP hD hS => ?_)
  refine lv_istore (lv' := [(6, .int y.1), (5, .int x.1), (0, .ref b), (1, .ref (A 3 0)), (2, .ref (am 0)), (3, .ref k0), (4, .int (nI k))]) hx hb dL_law_732 hl (by decide) rfl (fun ls hl => ?_)
  refine lv_aload_n hx hb dL_law_734 rfl (lv_at hl 4 rfl) ?_
  refine q_rdVi (w := wMD cI cJ am y.2) (ci := 3) (As := []) (rest := []) hx hb hml hown hts (c_X3_thrown l D cI cJ cS am y.2 (MD_thrown y.2) rfl) (cwV 0 hts gL_law_X3_thrown rfl rfl rfl (by decide +kernel) ⟨(Nat.le_of_ble_eq_true rfl), (Nat.le_of_ble_eq_true rfl)⟩) hE (pW_M hP) rfl rfl rfl hl.1 rfl (Nat.le_of_ble_eq_true rfl) dL_law_735 ⟨(by show cells + 3 + 0 ≤ 601024; omega), (by show slots + 18 + 0 ≤ 7293034; omega)⟩ ?_
  obtain ⟨he, hr9, hc⟩ := q_okT hf
  subst hr9
  refine lv_iload hx hb dL_law_738 (lv_at hl 1 rfl) ?_
  refine lv_icmp_eq (tgt := 745) hx hb dL_law_740 (by decide) (fun _ => ?_) (fun z9 => absurd he z9)
  refine lv_iload hx hb dL_law_745 (lv_at hl 1 rfl) ?_
  refine lv_if_ne (tgt := 762) hx hb dL_law_747 (by decide) (fun hn => ?_) (fun hz => ?_)
  · refine lv_goto (tgt := 1622) hx hb dL_law_762 (by decide) ?_
    refine W.widen (k := cells + 8) (n := slots + 60) (by omega) (by omega) ?_
    exact kk A g2 B2 am k0 _ _ _ hg hP hD hS (lv_sub hl [2, 3, 4, 5, 6] rfl)
  · have he := hc hz
    refine lv_aload_n hx hb dL_law_750 rfl (lv_at hl 5 rfl) ?_
    refine lv_iconst (v := 0) hx hb dL_law_751 (by decide) ?_
    refine va_lald hx hb hE.1 hP 0 1 rfl rfl (by unfold vp_in; decide) dL_law_752 ?_
    refine lv_iload hx hb dL_law_753 (lv_at hl 0 rfl) ?_
    refine lv_i2l (v := ((y.1 : Int32).toInt64)) hx hb dL_law_755 rfl ?_
    refine W.lcmp hx hb dL_law_756 ?_
    refine lv_if_eq (tgt := 762) hx hb dL_law_757 (by decide) (fun _ => ?_) (fun z9 => absurd he z9)
    refine lv_goto (tgt := 1622) hx hb dL_law_762 (by decide) ?_
    refine W.widen (k := cells + 8) (n := slots + 60) (by omega) (by omega) ?_
    exact kk A g2 B2 am k0 _ _ _ hg hP hD hS (lv_sub hl [2, 3, 4, 5, 6] rfl)
