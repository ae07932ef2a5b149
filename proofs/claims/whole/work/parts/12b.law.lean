set_option maxRecDepth 100000 in
set_option maxHeartbeats 4000000 in
theorem law_c9 {p : Program} {l : Launch} {e : Env} {s : State} {m : MethodId} {below : List Frame} {meth : Method} {c : Code} {b L : Nat} {xs : Nat → Int32} {D : va_G} {cI cJ cS : ClassId} {sa : Nat → Nat} (C1 : q_cx p l s m meth c b L xs D cI cJ cS sa) (hL : L ≤ 2048) {cells slots k : Nat} (hk3 : k + 3 < L) (hcl : cells + 8 ≤ 601024) (hsl : slots + 60 ≤ 7293034) {S : CM} {M : MD} {O : Nat → Int64} {r : CM × MD × (Nat → Int64)} (hf : q_c9 S M O (xs (k + 1)) (xs (k + 2)) (xs (k + 3)) = some r) (kk : q_go p l e s m below meth c b D cI cJ cS (cells + 8) (slots + 60) 1622 k r.1 r.2.1 r.2.2) : q_go p l e s m below meth c b D cI cJ cS cells slots 765 k S M O := by
  obtain ⟨⟨hx, hb, hr, hml, hown0, hts0, hX, hbl, hlocks, hgv⟩, hlt, hE, hES, hN, hZ⟩ := C1
  have hown : s.vm.findClass RL = some m.cls := hown0
  have hts : ∀ w ∈ wsL_law, w.before #[Value.ref b] s = true := fun w h => hts0 w (wsL_law_in w h)
  have hbA : ¬ (fun q : Nat => s.heap.size ≤ q) b := Nat.not_le.mpr hbl
  intro A g B am k0 H locs ls hg hP hD hS hl
  unfold q_c9 at hf
  refine lv_aload_n hx hb dL_law_765 rfl (lv_at hl 1 rfl) ?_
  refine lv_aload_n hx hb dL_law_766 rfl (lv_at hl 0 rfl) ?_
  refine lv_iload hx hb dL_law_767 (lv_at hl 4 rfl) ?_
  refine lv_iconst (v := 1) hx hb dL_law_769 (by decide) ?_
  refine lv_iadd hx hb dL_law_770 ?_
  refine q_nmi (y := nI (k + 1)) (nI_add k 1) ?_
  refine va_sld hx hb hX hbl hbA hS (vp_in_nI (show k + 1 < L by omega) (by omega)) dL_law_771 ?_
  refine q_nmi (y := xs (k + 1)) (by rw [nI_clamp (by omega)]) ?_
  refine lv_aload_n hx hb dL_law_772 rfl (lv_at hl 3 rfl) ?_
  obtain ⟨x, hx1, hf⟩ := q_bd_go hf
  refine q_lawL hP hD hS (fun _ h => h) (vx_runSX (As := [.ref (A 3 0), .int (xs (k + 1)), .ref k0]) (rest := []) ⟨hx, hb, hml, hown, hts⟩ (c_L_giveUp l hlt D cI cJ cS sa A g B hg k0 S O _ (xs (k + 1)) _ hx1) (vx_cwSW 3 hts gL_law_L_giveUp rfl rfl rfl (by decide +kernel) ⟨(Nat.le_of_ble_eq_true rfl), (Nat.le_of_ble_eq_true rfl)⟩) ⟨q_blindL, fun U hU hW => ⟨rfl, ⟨by rw [hU], by rw [hU]; exact pW_L hP, q_E.warm hW hE, (dW_L hD).weaken (fun _ _ _ _ => trivial), q_ES.warm hW hES, by rw [hU]; exact ((hZ.kept (fun a h1 h2 => hS.2.1 a h1 h2)).narrow (fun q h => h.elim (fun ⟨k9, e9, h9⟩ => (dW_L hD).2 k9 _ h9) (fun h => Nat.le_trans hS.1 h))).moved hW.alike⟩, q_EN.moved hW.alike hN⟩⟩ rfl rfl hl.1 rfl (lv_room (Nat.le_of_ble_eq_true rfl)) dL_law_773 ⟨(by show cells + 2 ≤ 601024; omega), (by show slots + 12 ≤ 7293034; omega)⟩) (fun g2 B2 H locs hg hP hD hS => ?_)
  refine lv_istore (lv' := [(5, .int x.1), (0, .ref b), (1, .ref (A 3 0)), (2, .ref (am 0)), (3, .ref k0), (4, .int (nI k))]) hx hb dL_law_776 hl (by decide) rfl (fun ls hl => ?_)
  refine lv_aload_n hx hb dL_law_778 rfl (lv_at hl 3 rfl) ?_
  refine lv_aload_n hx hb dL_law_779 rfl (lv_at hl 1 rfl) ?_
  refine lv_iload hx hb dL_law_780 (lv_at hl 5 rfl) ?_
  refine lv_iconst (v := 1) hx hb dL_law_782 (by decide) ?_
  refine lv_iadd hx hb dL_law_783 ?_
  refine q_nmi (y := nI (k + 1)) (nI_add k 1) ?_
  refine va_sld hx hb hX hbl hbA hS (vp_in_nI (show k + 1 < L by omega) (by omega)) dL_law_784 ?_
  refine q_nmi (y := xs (k + 1)) (by rw [nI_clamp (by omega)]) ?_
  obtain ⟨y, hy1, hf⟩ := q_bd_go hf
  refine q_wrC (v := (some (.int y.1))) (w := wMD cI cJ am M) (w' := wMD cI cJ am y.2) (ci := 3) (As := [.int (xs (k + 1))]) (rest := []) hx hb hml hown hts (c_X3_giveUp l D cI cJ cS am M _ (xs (k + 1)) _ hy1) (cwV 1 hts gL_law_X3_giveUp rfl rfl rfl (by decide +kernel) ⟨(Nat.le_of_ble_eq_true rfl), (Nat.le_of_ble_eq_true rfl)⟩) hE (pW_M hP) (dW_M hD) hS (fun _ h => h) (fun H1 hF hk h1 h2 => sW_M hP hD hF hk h1 h2) rfl rfl rfl hl.1 rfl (Nat.le_of_ble_eq_true rfl) dL_law_785 ⟨(by show cells + 2 + 0 ≤ 601024; omega), (by show slots + 12 + 0 ≤ 7293034; omega)⟩ (fun H locs hP hD hS => ?_)
  refine lv_istore (lv' := [(6, .int y.1), (5, .int x.1), (0, .ref b), (1, .ref (A 3 0)), (2, .ref (am 0)), (3, .ref k0), (4, .int (nI k))]) hx hb dL_law_788 hl (by decide) rfl (fun ls hl => ?_)
  refine lv_aload_n hx hb dL_law_790 rfl (lv_at hl 4 rfl) ?_
  refine q_rdVi (w := wMD cI cJ am y.2) (ci := 3) (As := []) (rest := []) hx hb hml hown hts (c_X3_thrown l D cI cJ cS am y.2 (MD_thrown y.2) rfl) (cwV 0 hts gL_law_X3_thrown rfl rfl rfl (by decide +kernel) ⟨(Nat.le_of_ble_eq_true rfl), (Nat.le_of_ble_eq_true rfl)⟩) hE (pW_M hP) rfl rfl rfl hl.1 rfl (Nat.le_of_ble_eq_true rfl) dL_law_791 ⟨(by show cells + 2 + 0 ≤ 601024; omega), (by show slots + 12 + 0 ≤ 7293034; omega)⟩ ?_
  obtain ⟨he, hr9, hc⟩ := q_okT hf
  subst hr9
  refine lv_iload hx hb dL_law_794 (lv_at hl 1 rfl) ?_
  refine lv_icmp_eq (tgt := 801) hx hb dL_law_796 (by decide) (fun _ => ?_) (fun z9 => absurd he z9)
  refine lv_iload hx hb dL_law_801 (lv_at hl 1 rfl) ?_
  refine lv_if_ne (tgt := 818) hx hb dL_law_803 (by decide) (fun hn => ?_) (fun hz => ?_)
  · refine lv_goto (tgt := 1622) hx hb dL_law_818 (by decide) ?_
    refine W.widen (k := cells + 8) (n := slots + 60) (by omega) (by omega) ?_
    exact kk A g2 B2 am k0 _ _ _ hg hP hD hS (lv_sub hl [2, 3, 4, 5, 6] rfl)
  · have he := hc hz
    refine lv_aload_n hx hb dL_law_806 rfl (lv_at hl 5 rfl) ?_
    refine lv_iconst (v := 0) hx hb dL_law_807 (by decide) ?_
    refine va_lald hx hb hE.1 hP 0 1 rfl rfl (by unfold vp_in; decide) dL_law_808 ?_
    refine lv_iload hx hb dL_law_809 (lv_at hl 0 rfl) ?_
    refine lv_i2l (v := ((y.1 : Int32).toInt64)) hx hb dL_law_811 rfl ?_
    refine W.lcmp hx hb dL_law_812 ?_
    refine lv_if_eq (tgt := 818) hx hb dL_law_813 (by decide) (fun _ => ?_) (fun z9 => absurd he z9)
    refine lv_goto (tgt := 1622) hx hb dL_law_818 (by decide) ?_
    refine W.widen (k := cells + 8) (n := slots + 60) (by omega) (by omega) ?_
    exact kk A g2 B2 am k0 _ _ _ hg hP hD hS (lv_sub hl [2, 3, 4, 5, 6] rfl)
set_option maxRecDepth 100000 in
set_option maxHeartbeats 4000000 in
theorem law_c10 {p : Program} {l : Launch} {e : Env} {s : State} {m : MethodId} {below : List Frame} {meth : Method} {c : Code} {b L : Nat} {xs : Nat → Int32} {D : va_G} {cI cJ cS : ClassId} {sa : Nat → Nat} (C1 : q_cx p l s m meth c b L xs D cI cJ cS sa) (hL : L ≤ 2048) {cells slots k : Nat} (hk3 : k + 3 < L) (hcl : cells + 8 ≤ 601024) (hsl : slots + 60 ≤ 7293034) {S : CM} {M : MD} {O : Nat → Int64} {r : CM × MD × (Nat → Int64)} (hf : q_c10 S M O (xs (k + 1)) (xs (k + 2)) (xs (k + 3)) = some r) (kk : q_go p l e s m below meth c b D cI cJ cS (cells + 8) (slots + 60) 1622 k r.1 r.2.1 r.2.2) : q_go p l e s m below meth c b D cI cJ cS cells slots 821 k S M O := by
  obtain ⟨⟨hx, hb, hr, hml, hown0, hts0, hX, hbl, hlocks, hgv⟩, hlt, hE, hES, hN, hZ⟩ := C1
  have hown : s.vm.findClass RL = some m.cls := hown0
  have hts : ∀ w ∈ wsL_law, w.before #[Value.ref b] s = true := fun w h => hts0 w (wsL_law_in w h)
  have hbA : ¬ (fun q : Nat => s.heap.size ≤ q) b := Nat.not_le.mpr hbl
  intro A g B am k0 H locs ls hg hP hD hS hl
  unfold q_c10 at hf
  refine lv_aload_n hx hb dL_law_821 rfl (lv_at hl 1 rfl) ?_
  refine lv_aload_n hx hb dL_law_822 rfl (lv_at hl 0 rfl) ?_
  refine lv_iload hx hb dL_law_823 (lv_at hl 4 rfl) ?_
  refine lv_iconst (v := 1) hx hb dL_law_825 (by decide) ?_
  refine lv_iadd hx hb dL_law_826 ?_
  refine q_nmi (y := nI (k + 1)) (nI_add k 1) ?_
  refine va_sld hx hb hX hbl hbA hS (vp_in_nI (show k + 1 < L by omega) (by omega)) dL_law_827 ?_
  refine q_nmi (y := xs (k + 1)) (by rw [nI_clamp (by omega)]) ?_
  refine lv_aload_n hx hb dL_law_828 rfl (lv_at hl 0 rfl) ?_
  refine lv_iload hx hb dL_law_829 (lv_at hl 4 rfl) ?_
  refine lv_iconst (v := 2) hx hb dL_law_831 (by decide) ?_
  refine lv_iadd hx hb dL_law_832 ?_
  refine q_nmi (y := nI (k + 2)) (nI_add k 2) ?_
  refine va_sld hx hb hX hbl hbA hS (vp_in_nI (show k + 2 < L by omega) (by omega)) dL_law_833 ?_
  refine q_nmi (y := xs (k + 2)) (by rw [nI_clamp (by omega)]) ?_
  refine lv_aload_n hx hb dL_law_834 rfl (lv_at hl 3 rfl) ?_
  obtain ⟨x, hx1, hf⟩ := q_bd_go hf
  refine q_lawL hP hD hS (fun _ h => h) (vx_runSX (As := [.ref (A 3 0), .int (xs (k + 1)), .int (xs (k + 2)), .ref k0]) (rest := []) ⟨hx, hb, hml, hown, hts⟩ (c_L_person l hlt D cI cJ cS sa A g B hg k0 S O _ (xs (k + 1)) (xs (k + 2)) _ hx1) (vx_cwSW 4 hts gL_law_L_person rfl rfl rfl (by decide +kernel) ⟨(Nat.le_of_ble_eq_true rfl), (Nat.le_of_ble_eq_true rfl)⟩) ⟨q_blindL, fun U hU hW => ⟨rfl, ⟨by rw [hU], by rw [hU]; exact pW_L hP, q_E.warm hW hE, (dW_L hD).weaken (fun _ _ _ _ => trivial), q_ES.warm hW hES, by rw [hU]; exact ((hZ.kept (fun a h1 h2 => hS.2.1 a h1 h2)).narrow (fun q h => h.elim (fun ⟨k9, e9, h9⟩ => (dW_L hD).2 k9 _ h9) (fun h => Nat.le_trans hS.1 h))).moved hW.alike⟩, q_EN.moved hW.alike hN⟩⟩ rfl rfl hl.1 rfl (lv_room (Nat.le_of_ble_eq_true rfl)) dL_law_835 ⟨(by show cells + 2 ≤ 601024; omega), (by show slots + 12 ≤ 7293034; omega)⟩) (fun g2 B2 H locs hg hP hD hS => ?_)
  refine lv_istore (lv' := [(5, .int x.1), (0, .ref b), (1, .ref (A 3 0)), (2, .ref (am 0)), (3, .ref k0), (4, .int (nI k))]) hx hb dL_law_838 hl (by decide) rfl (fun ls hl => ?_)
  refine lv_aload_n hx hb dL_law_840 rfl (lv_at hl 3 rfl) ?_
  refine lv_aload_n hx hb dL_law_841 rfl (lv_at hl 1 rfl) ?_
  refine lv_iload hx hb dL_law_842 (lv_at hl 5 rfl) ?_
  refine lv_iconst (v := 1) hx hb dL_law_844 (by decide) ?_
  refine lv_iadd hx hb dL_law_845 ?_
  refine q_nmi (y := nI (k + 1)) (nI_add k 1) ?_
  refine va_sld hx hb hX hbl hbA hS (vp_in_nI (show k + 1 < L by omega) (by omega)) dL_law_846 ?_
  refine q_nmi (y := xs (k + 1)) (by rw [nI_clamp (by omega)]) ?_
  refine lv_aload_n hx hb dL_law_847 rfl (lv_at hl 1 rfl) ?_
  refine lv_iload hx hb dL_law_848 (lv_at hl 5 rfl) ?_
  refine lv_iconst (v := 2) hx hb dL_law_850 (by decide) ?_
  refine lv_iadd hx hb dL_law_851 ?_
  refine q_nmi (y := nI (k + 2)) (nI_add k 2) ?_
  refine va_sld hx hb hX hbl hbA hS (vp_in_nI (show k + 2 < L by omega) (by omega)) dL_law_852 ?_
  refine q_nmi (y := xs (k + 2)) (by rw [nI_clamp (by omega)]) ?_
  obtain ⟨y, hy1, hf⟩ := q_bd_go hf
  refine q_wrC (v := (some (.int y.1))) (w := wMD cI cJ am M) (w' := wMD cI cJ am y.2) (ci := 3) (As := [.int (xs (k + 1)), .int (xs (k + 2))]) (rest := []) hx hb hml hown hts (c_X3_person l D cI cJ cS am M _ (xs (k + 1)) (xs (k + 2)) _ hy1) (cwV 2 hts gL_law_X3_person rfl rfl rfl (by decide +kernel) ⟨(Nat.le_of_ble_eq_true rfl), (Nat.le_of_ble_eq_true rfl)⟩) hE (pW_M hP) (dW_M hD) hS (fun _ h => h) (fun H1 hF hk h1 h2 => sW_M hP hD hF hk h1 h2) rfl rfl rfl hl.1 rfl (Nat.le_of_ble_eq_true rfl) dL_law_853 ⟨(by show cells + 2 + 0 ≤ 601024; omega), (by show slots + 12 + 0 ≤ 7293034; omega)⟩ (fun H locs hP hD hS => ?_)
  refine lv_istore (lv' := [(6, .int y.1), (5, .int x.1), (0, .ref b), (1, .ref (A 3 0)), (2, .ref (am 0)), (3, .ref k0), (4, .int (nI k))]) hx hb dL_law_856 hl (by decide) rfl (fun ls hl => ?_)
  refine lv_aload_n hx hb dL_law_858 rfl (lv_at hl 4 rfl) ?_
  refine q_rdVi (w := wMD cI cJ am y.2) (ci := 3) (As := []) (rest := []) hx hb hml hown hts (c_X3_thrown l D cI cJ cS am y.2 (MD_thrown y.2) rfl) (cwV 0 hts gL_law_X3_thrown rfl rfl rfl (by decide +kernel) ⟨(Nat.le_of_ble_eq_true rfl), (Nat.le_of_ble_eq_true rfl)⟩) hE (pW_M hP) rfl rfl rfl hl.1 rfl (Nat.le_of_ble_eq_true rfl) dL_law_859 ⟨(by show cells + 2 + 0 ≤ 601024; omega), (by show slots + 12 + 0 ≤ 7293034; omega)⟩ ?_
  obtain ⟨he, hr9, hc⟩ := q_okT hf
  subst hr9
  refine lv_iload hx hb dL_law_862 (lv_at hl 1 rfl) ?_
  refine lv_icmp_eq (tgt := 869) hx hb dL_law_864 (by decide) (fun _ => ?_) (fun z9 => absurd he z9)
  refine lv_iload hx hb dL_law_869 (lv_at hl 1 rfl) ?_
  refine lv_if_ne (tgt := 886) hx hb dL_law_871 (by decide) (fun hn => ?_) (fun hz => ?_)
  · refine lv_goto (tgt := 1622) hx hb dL_law_886 (by decide) ?_
    refine W.widen (k := cells + 8) (n := slots + 60) (by omega) (by omega) ?_
    exact kk A g2 B2 am k0 _ _ _ hg hP hD hS (lv_sub hl [2, 3, 4, 5, 6] rfl)
  · have he := hc hz
    refine lv_aload_n hx hb dL_law_874 rfl (lv_at hl 5 rfl) ?_
    refine lv_iconst (v := 0) hx hb dL_law_875 (by decide) ?_
    refine va_lald hx hb hE.1 hP 0 1 rfl rfl (by unfold vp_in; decide) dL_law_876 ?_
    refine lv_iload hx hb dL_law_877 (lv_at hl 0 rfl) ?_
    refine lv_i2l (v := ((y.1 : Int32).toInt64)) hx hb dL_law_879 rfl ?_
    refine W.lcmp hx hb dL_law_880 ?_
    refine lv_if_eq (tgt := 886) hx hb dL_law_881 (by decide) (fun _ => ?_) (fun z9 => absurd he z9)
    refine lv_goto (tgt := 1622) hx hb dL_law_886 (by decide) ?_
    refine W.widen (k := cells + 8) (n := slots + 60) (by omega) (by omega) ?_
    exact kk A g2 B2 am k0 _ _ _ hg hP hD hS (lv_sub hl [2, 3, 4, 5, 6] rfl)
set_option maxRecDepth 100000 in
set_option maxHeartbeats 4000000 in
theorem law_c11 {p : Program} {l : Launch} {e : Env} {s : State} {m : MethodId} {below : List Frame} {meth : Method} {c : Code} {b L : Nat} {xs : Nat → Int32} {D : va_G} {cI cJ cS : ClassId} {sa : Nat → Nat} (C1 : q_cx p l s m meth c b L xs D cI cJ cS sa) (hL : L ≤ 2048) {cells slots k : Nat} (hk3 : k + 3 < L) (hcl : cells + 8 ≤ 601024) (hsl : slots + 60 ≤ 7293034) {S : CM} {M : MD} {O : Nat → Int64} {r : CM × MD × (Nat → Int64)} (hf : q_c11 S M O (xs (k + 1)) (xs (k + 2)) (xs (k + 3)) = some r) (kk : q_go p l e s m below meth c b D cI cJ cS (cells + 8) (slots + 60) 1622 k r.1 r.2.1 r.2.2) : q_go p l e s m below meth c b D cI cJ cS cells slots 889 k S M O := by
  obtain ⟨⟨hx, hb, hr, hml, hown0, hts0, hX, hbl, hlocks, hgv⟩, hlt, hE, hES, hN, hZ⟩ := C1
  have hown : s.vm.findClass RL = some m.cls := hown0
  have hts : ∀ w ∈ wsL_law, w.before #[Value.ref b] s = true := fun w h => hts0 w (wsL_law_in w h)
  have hbA : ¬ (fun q : Nat => s.heap.size ≤ q) b := Nat.not_le.mpr hbl
  intro A g B am k0 H locs ls hg hP hD hS hl
  unfold q_c11 at hf
  refine lv_aload_n hx hb dL_law_889 rfl (lv_at hl 1 rfl) ?_
  refine lv_aload_n hx hb dL_law_890 rfl (lv_at hl 0 rfl) ?_
  refine lv_iload hx hb dL_law_891 (lv_at hl 4 rfl) ?_
  refine lv_iconst (v := 1) hx hb dL_law_893 (by decide) ?_
  refine lv_iadd hx hb dL_law_894 ?_
  refine q_nmi (y := nI (k + 1)) (nI_add k 1) ?_
  refine va_sld hx hb hX hbl hbA hS (vp_in_nI (show k + 1 < L by omega) (by omega)) dL_law_895 ?_
  refine q_nmi (y := xs (k + 1)) (by rw [nI_clamp (by omega)]) ?_
  refine lv_aload_n hx hb dL_law_896 rfl (lv_at hl 3 rfl) ?_
  obtain ⟨x, hx1, hf⟩ := q_bd_go hf
  refine q_lawL hP hD hS (fun _ h => h) (vx_runSX (As := [.ref (A 3 0), .int (xs (k + 1)), .ref k0]) (rest := []) ⟨hx, hb, hml, hown, hts⟩ (c_L_work l hlt D cI cJ cS sa A g B hg k0 S O _ (xs (k + 1)) _ hx1) (vx_cwSW 3 hts gL_law_L_work rfl rfl rfl (by decide +kernel) ⟨(Nat.le_of_ble_eq_true rfl), (Nat.le_of_ble_eq_true rfl)⟩) ⟨q_blindL, fun U hU hW => ⟨rfl, ⟨by rw [hU], by rw [hU]; exact pW_L hP, q_E.warm hW hE, (dW_L hD).weaken (fun _ _ _ _ => trivial), q_ES.warm hW hES, by rw [hU]; exact ((hZ.kept (fun a h1 h2 => hS.2.1 a h1 h2)).narrow (fun q h => h.elim (fun ⟨k9, e9, h9⟩ => (dW_L hD).2 k9 _ h9) (fun h => Nat.le_trans hS.1 h))).moved hW.alike⟩, q_EN.moved hW.alike hN⟩⟩ rfl rfl hl.1 rfl (lv_room (Nat.le_of_ble_eq_true rfl)) dL_law_897 ⟨(by show cells + 1 ≤ 601024; omega), (by show slots + 6 ≤ 7293034; omega)⟩) (fun g2 B2 H locs hg hP hD hS => ?_)
  refine lv_istore (lv' := [(5, .int x.1), (0, .ref b), (1, .ref (A 3 0)), (2, .ref (am 0)), (3, .ref k0), (4, .int (nI k))]) hx hb dL_law_900 hl (by decide) rfl (fun ls hl => ?_)
  refine lv_aload_n hx hb dL_law_902 rfl (lv_at hl 3 rfl) ?_
  refine lv_aload_n hx hb dL_law_903 rfl (lv_at hl 1 rfl) ?_
  refine lv_iload hx hb dL_law_904 (lv_at hl 5 rfl) ?_
  refine lv_iconst (v := 1) hx hb dL_law_906 (by decide) ?_
  refine lv_iadd hx hb dL_law_907 ?_
  refine q_nmi (y := nI (k + 1)) (nI_add k 1) ?_
  refine va_sld hx hb hX hbl hbA hS (vp_in_nI (show k + 1 < L by omega) (by omega)) dL_law_908 ?_
  refine q_nmi (y := xs (k + 1)) (by rw [nI_clamp (by omega)]) ?_
  obtain ⟨y, hy1, hf⟩ := q_bd_go hf
  refine q_wrC (v := (some (.long y.1))) (w := wMD cI cJ am M) (w' := wMD cI cJ am y.2) (ci := 3) (As := [.int (xs (k + 1))]) (rest := []) hx hb hml hown hts (c_X3_work l D cI cJ cS am M _ (xs (k + 1)) _ hy1) (cwV 1 hts gL_law_X3_work rfl rfl rfl (by decide +kernel) ⟨(Nat.le_of_ble_eq_true rfl), (Nat.le_of_ble_eq_true rfl)⟩) hE (pW_M hP) (dW_M hD) hS (fun _ h => h) (fun H1 hF hk h1 h2 => sW_M hP hD hF hk h1 h2) rfl rfl rfl hl.1 rfl (Nat.le_of_ble_eq_true rfl) dL_law_909 ⟨(by show cells + 1 + 0 ≤ 601024; omega), (by show slots + 6 + 0 ≤ 7293034; omega)⟩ (fun H locs hP hD hS => ?_)
  refine lv_lstore (lv' := [(6, .long y.1), (5, .int x.1), (0, .ref b), (1, .ref (A 3 0)), (2, .ref (am 0)), (3, .ref k0), (4, .int (nI k))]) hx hb dL_law_912 hl (by decide) rfl (fun ls hl => ?_)
  refine lv_aload_n hx hb dL_law_914 rfl (lv_at hl 4 rfl) ?_
  refine q_rdVi (w := wMD cI cJ am y.2) (ci := 3) (As := []) (rest := []) hx hb hml hown hts (c_X3_thrown l D cI cJ cS am y.2 (MD_thrown y.2) rfl) (cwV 0 hts gL_law_X3_thrown rfl rfl rfl (by decide +kernel) ⟨(Nat.le_of_ble_eq_true rfl), (Nat.le_of_ble_eq_true rfl)⟩) hE (pW_M hP) rfl rfl rfl hl.1 rfl (Nat.le_of_ble_eq_true rfl) dL_law_915 ⟨(by show cells + 1 + 0 ≤ 601024; omega), (by show slots + 6 + 0 ≤ 7293034; omega)⟩ ?_
  obtain ⟨he, hr9, hc⟩ := q_okT hf
  subst hr9
  refine lv_iload hx hb dL_law_918 (lv_at hl 1 rfl) ?_
  refine lv_icmp_eq (tgt := 925) hx hb dL_law_920 (by decide) (fun _ => ?_) (fun z9 => absurd he z9)
  refine lv_iload hx hb dL_law_925 (lv_at hl 1 rfl) ?_
  refine lv_if_ne (tgt := 941) hx hb dL_law_927 (by decide) (fun hn => ?_) (fun hz => ?_)
  · refine lv_goto (tgt := 1622) hx hb dL_law_941 (by decide) ?_
    refine W.widen (k := cells + 8) (n := slots + 60) (by omega) (by omega) ?_
    exact kk A g2 B2 am k0 _ _ _ hg hP hD hS (lv_sub hl [2, 3, 4, 5, 6] rfl)
  · have he := hc hz
    refine lv_aload_n hx hb dL_law_930 rfl (lv_at hl 5 rfl) ?_
    refine lv_iconst (v := 0) hx hb dL_law_931 (by decide) ?_
    refine va_lald hx hb hE.1 hP 0 1 rfl rfl (by unfold vp_in; decide) dL_law_932 ?_
    refine lv_lload hx hb dL_law_933 (lv_at hl 0 rfl) ?_
    refine W.lcmp hx hb dL_law_935 ?_
    refine lv_if_eq (tgt := 941) hx hb dL_law_936 (by decide) (fun _ => ?_) (fun z9 => absurd he z9)
    refine lv_goto (tgt := 1622) hx hb dL_law_941 (by decide) ?_
    refine W.widen (k := cells + 8) (n := slots + 60) (by omega) (by omega) ?_
    exact kk A g2 B2 am k0 _ _ _ hg hP hD hS (lv_sub hl [2, 3, 4, 5, 6] rfl)
set_option maxRecDepth 100000 in
set_option maxHeartbeats 4000000 in
theorem law_c12 {p : Program} {l : Launch} {e : Env} {s : State} {m : MethodId} {below : List Frame} {meth : Method} {c : Code} {b L : Nat} {xs : Nat → Int32} {D : va_G} {cI cJ cS : ClassId} {sa : Nat → Nat} (C1 : q_cx p l s m meth c b L xs D cI cJ cS sa) (hL : L ≤ 2048) {cells slots k : Nat} (hk3 : k + 3 < L) (hcl : cells + 8 ≤ 601024) (hsl : slots + 60 ≤ 7293034) {S : CM} {M : MD} {O : Nat → Int64} {r : CM × MD × (Nat → Int64)} (hf : q_c12 S M O (xs (k + 1)) (xs (k + 2)) (xs (k + 3)) = some r) (kk : q_go p l e s m below meth c b D cI cJ cS (cells + 8) (slots + 60) 1622 k r.1 r.2.1 r.2.2) : q_go p l e s m below meth c b D cI cJ cS cells slots 944 k S M O := by
  obtain ⟨⟨hx, hb, hr, hml, hown0, hts0, hX, hbl, hlocks, hgv⟩, hlt, hE, hES, hN, hZ⟩ := C1
  have hown : s.vm.findClass RL = some m.cls := hown0
  have hts : ∀ w ∈ wsL_law, w.before #[Value.ref b] s = true := fun w h => hts0 w (wsL_law_in w h)
  have hbA : ¬ (fun q : Nat => s.heap.size ≤ q) b := Nat.not_le.mpr hbl
  intro A g B am k0 H locs ls hg hP hD hS hl
  unfold q_c12 at hf
  refine lv_aload_n hx hb dL_law_944 rfl (lv_at hl 1 rfl) ?_
  refine lv_aload_n hx hb dL_law_945 rfl (lv_at hl 0 rfl) ?_
  refine lv_iload hx hb dL_law_946 (lv_at hl 4 rfl) ?_
  refine lv_iconst (v := 1) hx hb dL_law_948 (by decide) ?_
  refine lv_iadd hx hb dL_law_949 ?_
  refine q_nmi (y := nI (k + 1)) (nI_add k 1) ?_
  refine va_sld hx hb hX hbl hbA hS (vp_in_nI (show k + 1 < L by omega) (by omega)) dL_law_950 ?_
  refine q_nmi (y := xs (k + 1)) (by rw [nI_clamp (by omega)]) ?_
  refine lv_aload_n hx hb dL_law_951 rfl (lv_at hl 0 rfl) ?_
  refine lv_iload hx hb dL_law_952 (lv_at hl 4 rfl) ?_
  refine lv_iconst (v := 2) hx hb dL_law_954 (by decide) ?_
  refine lv_iadd hx hb dL_law_955 ?_
  refine q_nmi (y := nI (k + 2)) (nI_add k 2) ?_
  refine va_sld hx hb hX hbl hbA hS (vp_in_nI (show k + 2 < L by omega) (by omega)) dL_law_956 ?_
  refine q_nmi (y := xs (k + 2)) (by rw [nI_clamp (by omega)]) ?_
  refine lv_aload_n hx hb dL_law_957 rfl (lv_at hl 3 rfl) ?_
  obtain ⟨x, hx1, hf⟩ := q_bd_go hf
  refine q_lawL hP hD hS (fun _ h => h) (vx_runSX (As := [.ref (A 3 0), .int (xs (k + 1)), .int (xs (k + 2)), .ref k0]) (rest := []) ⟨hx, hb, hml, hown, hts⟩ (c_L_absence l hlt D cI cJ cS sa A g B hg k0 S O _ (xs (k + 1)) (xs (k + 2)) _ hx1) (vx_cwSW 4 hts gL_law_L_absence rfl rfl rfl (by decide +kernel) ⟨(Nat.le_of_ble_eq_true rfl), (Nat.le_of_ble_eq_true rfl)⟩) ⟨q_blindL, fun U hU hW => ⟨rfl, ⟨by rw [hU], by rw [hU]; exact pW_L hP, q_E.warm hW hE, (dW_L hD).weaken (fun _ _ _ _ => trivial), q_ES.warm hW hES, by rw [hU]; exact ((hZ.kept (fun a h1 h2 => hS.2.1 a h1 h2)).narrow (fun q h => h.elim (fun ⟨k9, e9, h9⟩ => (dW_L hD).2 k9 _ h9) (fun h => Nat.le_trans hS.1 h))).moved hW.alike⟩, q_EN.moved hW.alike hN⟩⟩ rfl rfl hl.1 rfl (lv_room (Nat.le_of_ble_eq_true rfl)) dL_law_958 ⟨(by show cells + 2 ≤ 601024; omega), (by show slots + 12 ≤ 7293034; omega)⟩) (fun g2 B2 H locs hg hP hD hS => ?_)
  refine lv_istore (lv' := [(5, .int x.1), (0, .ref b), (1, .ref (A 3 0)), (2, .ref (am 0)), (3, .ref k0), (4, .int (nI k))]) hx hb dL_law_961 hl (by decide) rfl (fun ls hl => ?_)
  refine lv_aload_n hx hb dL_law_963 rfl (lv_at hl 3 rfl) ?_
  refine lv_aload_n hx hb dL_law_964 rfl (lv_at hl 1 rfl) ?_
  refine lv_iload hx hb dL_law_965 (lv_at hl 5 rfl) ?_
  refine lv_iconst (v := 1) hx hb dL_law_967 (by decide) ?_
  refine lv_iadd hx hb dL_law_968 ?_
  refine q_nmi (y := nI (k + 1)) (nI_add k 1) ?_
  refine va_sld hx hb hX hbl hbA hS (vp_in_nI (show k + 1 < L by omega) (by omega)) dL_law_969 ?_
  refine q_nmi (y := xs (k + 1)) (by rw [nI_clamp (by omega)]) ?_
  refine lv_aload_n hx hb dL_law_970 rfl (lv_at hl 1 rfl) ?_
  refine lv_iload hx hb dL_law_971 (lv_at hl 5 rfl) ?_
  refine lv_iconst (v := 2) hx hb dL_law_973 (by decide) ?_
  refine lv_iadd hx hb dL_law_974 ?_
  refine q_nmi (y := nI (k + 2)) (nI_add k 2) ?_
  refine va_sld hx hb hX hbl hbA hS (vp_in_nI (show k + 2 < L by omega) (by omega)) dL_law_975 ?_
  refine q_nmi (y := xs (k + 2)) (by rw [nI_clamp (by omega)]) ?_
  obtain ⟨y, hy1, hf⟩ := q_bd_go hf
  refine q_wrC (v := (some (.int y.1))) (w := wMD cI cJ am M) (w' := wMD cI cJ am y.2) (ci := 3) (As := [.int (xs (k + 1)), .int (xs (k + 2))]) (rest := []) hx hb hml hown hts (c_X3_absence l D cI cJ cS am M _ (xs (k + 1)) (xs (k + 2)) _ hy1) (cwV 2 hts gL_law_X3_absence rfl rfl rfl (by decide +kernel) ⟨(Nat.le_of_ble_eq_true rfl), (Nat.le_of_ble_eq_true rfl)⟩) hE (pW_M hP) (dW_M hD) hS (fun _ h => h) (fun H1 hF hk h1 h2 => sW_M hP hD hF hk h1 h2) rfl rfl rfl hl.1 rfl (Nat.le_of_ble_eq_true rfl) dL_law_976 ⟨(by show cells + 2 + 0 ≤ 601024; omega), (by show slots + 12 + 0 ≤ 7293034; omega)⟩ (fun H locs hP hD hS => ?_)
  refine lv_istore (lv' := [(6, .int y.1), (5, .int x.1), (0, .ref b), (1, .ref (A 3 0)), (2, .ref (am 0)), (3, .ref k0), (4, .int (nI k))]) hx hb dL_law_979 hl (by decide) rfl (fun ls hl => ?_)
  refine lv_aload_n hx hb dL_law_981 rfl (lv_at hl 4 rfl) ?_
  refine q_rdVi (w := wMD cI cJ am y.2) (ci := 3) (As := []) (rest := []) hx hb hml hown hts (c_X3_thrown l D cI cJ cS am y.2 (MD_thrown y.2) rfl) (cwV 0 hts gL_law_X3_thrown rfl rfl rfl (by decide +kernel) ⟨(Nat.le_of_ble_eq_true rfl), (Nat.le_of_ble_eq_true rfl)⟩) hE (pW_M hP) rfl rfl rfl hl.1 rfl (Nat.le_of_ble_eq_true rfl) dL_law_982 ⟨(by show cells + 2 + 0 ≤ 601024; omega), (by show slots + 12 + 0 ≤ 7293034; omega)⟩ ?_
  obtain ⟨he, hr9, hc⟩ := q_okT hf
  subst hr9
  refine lv_iload hx hb dL_law_985 (lv_at hl 1 rfl) ?_
  refine lv_icmp_eq (tgt := 992) hx hb dL_law_987 (by decide) (fun _ => ?_) (fun z9 => absurd he z9)
  refine lv_iload hx hb dL_law_992 (lv_at hl 1 rfl) ?_
  refine lv_if_ne (tgt := 1009) hx hb dL_law_994 (by decide) (fun hn => ?_) (fun hz => ?_)
  · refine lv_goto (tgt := 1622) hx hb dL_law_1009 (by decide) ?_
    refine W.widen (k := cells + 8) (n := slots + 60) (by omega) (by omega) ?_
    exact kk A g2 B2 am k0 _ _ _ hg hP hD hS (lv_sub hl [2, 3, 4, 5, 6] rfl)
  · have he := hc hz
    refine lv_aload_n hx hb dL_law_997 rfl (lv_at hl 5 rfl) ?_
    refine lv_iconst (v := 0) hx hb dL_law_998 (by decide) ?_
    refine va_lald hx hb hE.1 hP 0 1 rfl rfl (by unfold vp_in; decide) dL_law_999 ?_
    refine lv_iload hx hb dL_law_1000 (lv_at hl 0 rfl) ?_
    refine lv_i2l (v := ((y.1 : Int32).toInt64)) hx hb dL_law_1002 rfl ?_
    refine W.lcmp hx hb dL_law_1003 ?_
    refine lv_if_eq (tgt := 1009) hx hb dL_law_1004 (by decide) (fun _ => ?_) (fun z9 => absurd he z9)
    refine lv_goto (tgt := 1622) hx hb dL_law_1009 (by decide) ?_
    refine W.widen (k := cells + 8) (n := slots + 60) (by omega) (by omega) ?_
    exact kk A g2 B2 am k0 _ _ _ hg hP hD hS (lv_sub hl [2, 3, 4, 5, 6] rfl)
set_option maxRecDepth 100000 in
set_option maxHeartbeats 4000000 in
theorem law_c13 {p : Program} {l : Launch} {e : Env} {s : State} {m : MethodId} {below : List Frame} {meth : Method} {c : Code} {b L : Nat} {xs : Nat → Int32} {D : va_G} {cI cJ cS : ClassId} {sa : Nat → Nat} (C1 : q_cx p l s m meth c b L xs D cI cJ cS sa) (hL : L ≤ 2048) {cells slots k : Nat} (hk3 : k + 3 < L) (hcl : cells + 8 ≤ 601024) (hsl : slots + 60 ≤ 7293034) {S : CM} {M : MD} {O : Nat → Int64} {r : CM × MD × (Nat → Int64)} (hf : q_c13 S M O (xs (k + 1)) (xs (k + 2)) (xs (k + 3)) = some r) (kk : q_go p l e s m below meth c b D cI cJ cS (cells + 8) (slots + 60) 1622 k r.1 r.2.1 r.2.2) : q_go p l e s m below meth c b D cI cJ cS cells slots 1012 k S M O := by
  obtain ⟨⟨hx, hb, hr, hml, hown0, hts0, hX, hbl, hlocks, hgv⟩, hlt, hE, hES, hN, hZ⟩ := C1
  have hown : s.vm.findClass RL = some m.cls := hown0
  have hts : ∀ w ∈ wsL_law, w.before #[Value.ref b] s = true := fun w h => hts0 w (wsL_law_in w h)
  have hbA : ¬ (fun q : Nat => s.heap.size ≤ q) b := Nat.not_le.mpr hbl
  intro A g B am k0 H locs ls hg hP hD hS hl
  unfold q_c13 at hf
  refine lv_aload_n hx hb dL_law_1012 rfl (lv_at hl 1 rfl) ?_
  refine lv_aload_n hx hb dL_law_1013 rfl (lv_at hl 0 rfl) ?_
  refine lv_iload hx hb dL_law_1014 (lv_at hl 4 rfl) ?_
  refine lv_iconst (v := 1) hx hb dL_law_1016 (by decide) ?_
  refine lv_iadd hx hb dL_law_1017 ?_
  refine q_nmi (y := nI (k + 1)) (nI_add k 1) ?_
  refine va_sld hx hb hX hbl hbA hS (vp_in_nI (show k + 1 < L by omega) (by omega)) dL_law_1018 ?_
  refine q_nmi (y := xs (k + 1)) (by rw [nI_clamp (by omega)]) ?_
  refine lv_aload_n hx hb dL_law_1019 rfl (lv_at hl 0 rfl) ?_
  refine lv_iload hx hb dL_law_1020 (lv_at hl 4 rfl) ?_
  refine lv_iconst (v := 2) hx hb dL_law_1022 (by decide) ?_
  refine lv_iadd hx hb dL_law_1023 ?_
  refine q_nmi (y := nI (k + 2)) (nI_add k 2) ?_
  refine va_sld hx hb hX hbl hbA hS (vp_in_nI (show k + 2 < L by omega) (by omega)) dL_law_1024 ?_
  refine q_nmi (y := xs (k + 2)) (by rw [nI_clamp (by omega)]) ?_
  refine lv_aload_n hx hb dL_law_1025 rfl (lv_at hl 3 rfl) ?_
  obtain ⟨x, hx1, hf⟩ := q_bd_go hf
  refine q_lawL hP hD hS (fun _ h => h) (vx_runSX (As := [.ref (A 3 0), .int (xs (k + 1)), .int (xs (k + 2)), .ref k0]) (rest := []) ⟨hx, hb, hml, hown, hts⟩ (c_L_bidOf l hlt D cI cJ cS sa A g B hg k0 S O _ (xs (k + 1)) (xs (k + 2)) _ hx1) (vx_cwSW 4 hts gL_law_L_bidOf rfl rfl rfl (by decide +kernel) ⟨(Nat.le_of_ble_eq_true rfl), (Nat.le_of_ble_eq_true rfl)⟩) ⟨q_blindL, fun U hU hW => ⟨rfl, ⟨by rw [hU], by rw [hU]; exact pW_L hP, q_E.warm hW hE, (dW_L hD).weaken (fun _ _ _ _ => trivial), q_ES.warm hW hES, by rw [hU]; exact ((hZ.kept (fun a h1 h2 => hS.2.1 a h1 h2)).narrow (fun q h => h.elim (fun ⟨k9, e9, h9⟩ => (dW_L hD).2 k9 _ h9) (fun h => Nat.le_trans hS.1 h))).moved hW.alike⟩, q_EN.moved hW.alike hN⟩⟩ rfl rfl hl.1 rfl (lv_room (Nat.le_of_ble_eq_true rfl)) dL_law_1026 ⟨(by show cells + 2 ≤ 601024; omega), (by show slots + 12 ≤ 7293034; omega)⟩) (fun g2 B2 H locs hg hP hD hS => ?_)
  refine lv_istore (lv' := [(5, .int x.1), (0, .ref b), (1, .ref (A 3 0)), (2, .ref (am 0)), (3, .ref k0), (4, .int (nI k))]) hx hb dL_law_1029 hl (by decide) rfl (fun ls hl => ?_)
  refine lv_aload_n hx hb dL_law_1031 rfl (lv_at hl 3 rfl) ?_
  refine lv_aload_n hx hb dL_law_1032 rfl (lv_at hl 1 rfl) ?_
  refine lv_iload hx hb dL_law_1033 (lv_at hl 5 rfl) ?_
  refine lv_iconst (v := 1) hx hb dL_law_1035 (by decide) ?_
  refine lv_iadd hx hb dL_law_1036 ?_
  refine q_nmi (y := nI (k + 1)) (nI_add k 1) ?_
  refine va_sld hx hb hX hbl hbA hS (vp_in_nI (show k + 1 < L by omega) (by omega)) dL_law_1037 ?_
  refine q_nmi (y := xs (k + 1)) (by rw [nI_clamp (by omega)]) ?_
  refine lv_aload_n hx hb dL_law_1038 rfl (lv_at hl 1 rfl) ?_
  refine lv_iload hx hb dL_law_1039 (lv_at hl 5 rfl) ?_
  refine lv_iconst (v := 2) hx hb dL_law_1041 (by decide) ?_
  refine lv_iadd hx hb dL_law_1042 ?_
  refine q_nmi (y := nI (k + 2)) (nI_add k 2) ?_
  refine va_sld hx hb hX hbl hbA hS (vp_in_nI (show k + 2 < L by omega) (by omega)) dL_law_1043 ?_
  refine q_nmi (y := xs (k + 2)) (by rw [nI_clamp (by omega)]) ?_
  obtain ⟨y, hy1, hf⟩ := q_bd_go hf
  refine q_wrC (v := (some (.int y.1))) (w := wMD cI cJ am M) (w' := wMD cI cJ am y.2) (ci := 3) (As := [.int (xs (k + 1)), .int (xs (k + 2))]) (rest := []) hx hb hml hown hts (c_X3_bidOf l D cI cJ cS am M _ (xs (k + 1)) (xs (k + 2)) _ hy1) (cwV 2 hts gL_law_X3_bidOf rfl rfl rfl (by decide +kernel) ⟨(Nat.le_of_ble_eq_true rfl), (Nat.le_of_ble_eq_true rfl)⟩) hE (pW_M hP) (dW_M hD) hS (fun _ h => h) (fun H1 hF hk h1 h2 => sW_M hP hD hF hk h1 h2) rfl rfl rfl hl.1 rfl (Nat.le_of_ble_eq_true rfl) dL_law_1044 ⟨(by show cells + 2 + 0 ≤ 601024; omega), (by show slots + 12 + 0 ≤ 7293034; omega)⟩ (fun H locs hP hD hS => ?_)
  refine lv_istore (lv' := [(6, .int y.1), (5, .int x.1), (0, .ref b), (1, .ref (A 3 0)), (2, .ref (am 0)), (3, .ref k0), (4, .int (nI k))]) hx hb dL_law_1047 hl (by decide) rfl (fun ls hl => ?_)
  refine lv_aload_n hx hb dL_law_1049 rfl (lv_at hl 4 rfl) ?_
  refine q_rdVi (w := wMD cI cJ am y.2) (ci := 3) (As := []) (rest := []) hx hb hml hown hts (c_X3_thrown l D cI cJ cS am y.2 (MD_thrown y.2) rfl) (cwV 0 hts gL_law_X3_thrown rfl rfl rfl (by decide +kernel) ⟨(Nat.le_of_ble_eq_true rfl), (Nat.le_of_ble_eq_true rfl)⟩) hE (pW_M hP) rfl rfl rfl hl.1 rfl (Nat.le_of_ble_eq_true rfl) dL_law_1050 ⟨(by show cells + 2 + 0 ≤ 601024; omega), (by show slots + 12 + 0 ≤ 7293034; omega)⟩ ?_
  obtain ⟨he, hr9, hc⟩ := q_okT hf
  subst hr9
  refine lv_iload hx hb dL_law_1053 (lv_at hl 1 rfl) ?_
  refine lv_icmp_eq (tgt := 1060) hx hb dL_law_1055 (by decide) (fun _ => ?_) (fun z9 => absurd he z9)
  refine lv_iload hx hb dL_law_1060 (lv_at hl 1 rfl) ?_
  refine lv_if_ne (tgt := 1077) hx hb dL_law_1062 (by decide) (fun hn => ?_) (fun hz => ?_)
  · refine lv_goto (tgt := 1622) hx hb dL_law_1077 (by decide) ?_
    refine W.widen (k := cells + 8) (n := slots + 60) (by omega) (by omega) ?_
    exact kk A g2 B2 am k0 _ _ _ hg hP hD hS (lv_sub hl [2, 3, 4, 5, 6] rfl)
  · have he := hc hz
    refine lv_aload_n hx hb dL_law_1065 rfl (lv_at hl 5 rfl) ?_
    refine lv_iconst (v := 0) hx hb dL_law_1066 (by decide) ?_
    refine va_lald hx hb hE.1 hP 0 1 rfl rfl (by unfold vp_in; decide) dL_law_1067 ?_
    refine lv_iload hx hb dL_law_1068 (lv_at hl 0 rfl) ?_
    refine lv_i2l (v := ((y.1 : Int32).toInt64)) hx hb dL_law_1070 rfl ?_
    refine W.lcmp hx hb dL_law_1071 ?_
    refine lv_if_eq (tgt := 1077) hx hb dL_law_1072 (by decide) (fun _ => ?_) (fun z9 => absurd he z9)
    refine lv_goto (tgt := 1622) hx hb dL_law_1077 (by decide) ?_
    refine W.widen (k := cells + 8) (n := slots + 60) (by omega) (by omega) ?_
    exact kk A g2 B2 am k0 _ _ _ hg hP hD hS (lv_sub hl [2, 3, 4, 5, 6] rfl)
set_option maxRecDepth 100000 in
set_option maxHeartbeats 4000000 in
theorem law_c14 {p : Program} {l : Launch} {e : Env} {s : State} {m : MethodId} {below : List Frame} {meth : Method} {c : Code} {b L : Nat} {xs : Nat → Int32} {D : va_G} {cI cJ cS : ClassId} {sa : Nat → Nat} (C1 : q_cx p l s m meth c b L xs D cI cJ cS sa) (hL : L ≤ 2048) {cells slots k : Nat} (hk3 : k + 3 < L) (hcl : cells + 8 ≤ 601024) (hsl : slots + 60 ≤ 7293034) {S : CM} {M : MD} {O : Nat → Int64} {r : CM × MD × (Nat → Int64)} (hf : q_c14 S M O (xs (k + 1)) (xs (k + 2)) (xs (k + 3)) = some r) (kk : q_go p l e s m below meth c b D cI cJ cS (cells + 8) (slots + 60) 1622 k r.1 r.2.1 r.2.2) : q_go p l e s m below meth c b D cI cJ cS cells slots 1080 k S M O := by
  obtain ⟨⟨hx, hb, hr, hml, hown0, hts0, hX, hbl, hlocks, hgv⟩, hlt, hE, hES, hN, hZ⟩ := C1
  have hown : s.vm.findClass RL = some m.cls := hown0
  have hts : ∀ w ∈ wsL_law, w.before #[Value.ref b] s = true := fun w h => hts0 w (wsL_law_in w h)
  have hbA : ¬ (fun q : Nat => s.heap.size ≤ q) b := Nat.not_le.mpr hbl
  intro A g B am k0 H locs ls hg hP hD hS hl
  unfold q_c14 at hf
  refine lv_aload_n hx hb dL_law_1080 rfl (lv_at hl 1 rfl) ?_
  refine lv_aload_n hx hb dL_law_1081 rfl (lv_at hl 0 rfl) ?_
  refine lv_iload hx hb dL_law_1082 (lv_at hl 4 rfl) ?_
  refine lv_iconst (v := 1) hx hb dL_law_1084 (by decide) ?_
  refine lv_iadd hx hb dL_law_1085 ?_
  refine q_nmi (y := nI (k + 1)) (nI_add k 1) ?_
  refine va_sld hx hb hX hbl hbA hS (vp_in_nI (show k + 1 < L by omega) (by omega)) dL_law_1086 ?_
  refine q_nmi (y := xs (k + 1)) (by rw [nI_clamp (by omega)]) ?_
  refine lv_aload_n hx hb dL_law_1087 rfl (lv_at hl 0 rfl) ?_
  refine lv_iload hx hb dL_law_1088 (lv_at hl 4 rfl) ?_
  refine lv_iconst (v := 2) hx hb dL_law_1090 (by decide) ?_
  refine lv_iadd hx hb dL_law_1091 ?_
  refine q_nmi (y := nI (k + 2)) (nI_add k 2) ?_
  refine va_sld hx hb hX hbl hbA hS (vp_in_nI (show k + 2 < L by omega) (by omega)) dL_law_1092 ?_
  refine q_nmi (y := xs (k + 2)) (by rw [nI_clamp (by omega)]) ?_
  refine lv_aload_n hx hb dL_law_1093 rfl (lv_at hl 3 rfl) ?_
  obtain ⟨x, hx1, hf⟩ := q_bd_go hf
  refine q_lawL hP hD hS (fun _ h => h) (vx_runSX (As := [.ref (A 3 0), .int (xs (k + 1)), .int (xs (k + 2)), .ref k0]) (rest := []) ⟨hx, hb, hml, hown, hts⟩ (c_L_why l hlt D cI cJ cS sa A g B hg k0 S O _ (xs (k + 1)) (xs (k + 2)) _ hx1) (vx_cwSW 4 hts gL_law_L_why rfl rfl rfl (by decide +kernel) ⟨(Nat.le_of_ble_eq_true rfl), (Nat.le_of_ble_eq_true rfl)⟩) ⟨q_blindL, fun U hU hW => ⟨rfl, ⟨by rw [hU], by rw [hU]; exact pW_L hP, q_E.warm hW hE, (dW_L hD).weaken (fun _ _ _ _ => trivial), q_ES.warm hW hES, by rw [hU]; exact ((hZ.kept (fun a h1 h2 => hS.2.1 a h1 h2)).narrow (fun q h => h.elim (fun ⟨k9, e9, h9⟩ => (dW_L hD).2 k9 _ h9) (fun h => Nat.le_trans hS.1 h))).moved hW.alike⟩, q_EN.moved hW.alike hN⟩⟩ rfl rfl hl.1 rfl (lv_room (Nat.le_of_ble_eq_true rfl)) dL_law_1094 ⟨(by show cells + 2 ≤ 601024; omega), (by show slots + 12 ≤ 7293034; omega)⟩) (fun g2 B2 H locs hg hP hD hS => ?_)
  refine lv_istore (lv' := [(5, .int x.1), (0, .ref b), (1, .ref (A 3 0)), (2, .ref (am 0)), (3, .ref k0), (4, .int (nI k))]) hx hb dL_law_1097 hl (by decide) rfl (fun ls hl => ?_)
  refine lv_aload_n hx hb dL_law_1099 rfl (lv_at hl 3 rfl) ?_
  refine lv_aload_n hx hb dL_law_1100 rfl (lv_at hl 1 rfl) ?_
  refine lv_iload hx hb dL_law_1101 (lv_at hl 5 rfl) ?_
  refine lv_iconst (v := 1) hx hb dL_law_1103 (by decide) ?_
  refine lv_iadd hx hb dL_law_1104 ?_
  refine q_nmi (y := nI (k + 1)) (nI_add k 1) ?_
  refine va_sld hx hb hX hbl hbA hS (vp_in_nI (show k + 1 < L by omega) (by omega)) dL_law_1105 ?_
  refine q_nmi (y := xs (k + 1)) (by rw [nI_clamp (by omega)]) ?_
  refine lv_aload_n hx hb dL_law_1106 rfl (lv_at hl 1 rfl) ?_
  refine lv_iload hx hb dL_law_1107 (lv_at hl 5 rfl) ?_
  refine lv_iconst (v := 2) hx hb dL_law_1109 (by decide) ?_
  refine lv_iadd hx hb dL_law_1110 ?_
  refine q_nmi (y := nI (k + 2)) (nI_add k 2) ?_
  refine va_sld hx hb hX hbl hbA hS (vp_in_nI (show k + 2 < L by omega) (by omega)) dL_law_1111 ?_
  refine q_nmi (y := xs (k + 2)) (by rw [nI_clamp (by omega)]) ?_
  obtain ⟨y, hy1, hf⟩ := q_bd_go hf
  refine q_wrC (v := (some (.int y.1))) (w := wMD cI cJ am M) (w' := wMD cI cJ am y.2) (ci := 3) (As := [.int (xs (k + 1)), .int (xs (k + 2))]) (rest := []) hx hb hml hown hts (c_X3_why l D cI cJ cS am M _ (xs (k + 1)) (xs (k + 2)) _ hy1) (cwV 2 hts gL_law_X3_why rfl rfl rfl (by decide +kernel) ⟨(Nat.le_of_ble_eq_true rfl), (Nat.le_of_ble_eq_true rfl)⟩) hE (pW_M hP) (dW_M hD) hS (fun _ h => h) (fun H1 hF hk h1 h2 => sW_M hP hD hF hk h1 h2) rfl rfl rfl hl.1 rfl (Nat.le_of_ble_eq_true rfl) dL_law_1112 ⟨(by show cells + 2 + 0 ≤ 601024; omega), (by show slots + 12 + 0 ≤ 7293034; omega)⟩ (fun H locs hP hD hS => ?_)
  refine lv_istore (lv' := [(6, .int y.1), (5, .int x.1), (0, .ref b), (1, .ref (A 3 0)), (2, .ref (am 0)), (3, .ref k0), (4, .int (nI k))]) hx hb dL_law_1115 hl (by decide) rfl (fun ls hl => ?_)
  refine lv_aload_n hx hb dL_law_1117 rfl (lv_at hl 4 rfl) ?_
  refine q_rdVi (w := wMD cI cJ am y.2) (ci := 3) (As := []) (rest := []) hx hb hml hown hts (c_X3_thrown l D cI cJ cS am y.2 (MD_thrown y.2) rfl) (cwV 0 hts gL_law_X3_thrown rfl rfl rfl (by decide +kernel) ⟨(Nat.le_of_ble_eq_true rfl), (Nat.le_of_ble_eq_true rfl)⟩) hE (pW_M hP) rfl rfl rfl hl.1 rfl (Nat.le_of_ble_eq_true rfl) dL_law_1118 ⟨(by show cells + 2 + 0 ≤ 601024; omega), (by show slots + 12 + 0 ≤ 7293034; omega)⟩ ?_
  obtain ⟨he, hr9, hc⟩ := q_okT hf
  subst hr9
  refine lv_iload hx hb dL_law_1121 (lv_at hl 1 rfl) ?_
  refine lv_icmp_eq (tgt := 1128) hx hb dL_law_1123 (by decide) (fun _ => ?_) (fun z9 => absurd he z9)
  refine lv_iload hx hb dL_law_1128 (lv_at hl 1 rfl) ?_
  refine lv_if_ne (tgt := 1145) hx hb dL_law_1130 (by decide) (fun hn => ?_) (fun hz => ?_)
  · refine lv_goto (tgt := 1622) hx hb dL_law_1145 (by decide) ?_
    refine W.widen (k := cells + 8) (n := slots + 60) (by omega) (by omega) ?_
    exact kk A g2 B2 am k0 _ _ _ hg hP hD hS (lv_sub hl [2, 3, 4, 5, 6] rfl)
  · have he := hc hz
    refine lv_aload_n hx hb dL_law_1133 rfl (lv_at hl 5 rfl) ?_
    refine lv_iconst (v := 0) hx hb dL_law_1134 (by decide) ?_
    refine va_lald hx hb hE.1 hP 0 1 rfl rfl (by unfold vp_in; decide) dL_law_1135 ?_
    refine lv_iload hx hb dL_law_1136 (lv_at hl 0 rfl) ?_
    refine lv_i2l (v := ((y.1 : Int32).toInt64)) hx hb dL_law_1138 rfl ?_
    refine W.lcmp hx hb dL_law_1139 ?_
    refine lv_if_eq (tgt := 1145) hx hb dL_law_1140 (by decide) (fun _ => ?_) (fun z9 => absurd he z9)
    refine lv_goto (tgt := 1622) hx hb dL_law_1145 (by decide) ?_
    refine W.widen (k := cells + 8) (n := slots + 60) (by omega) (by omega) ?_
    exact kk A g2 B2 am k0 _ _ _ hg hP hD hS (lv_sub hl [2, 3, 4, 5, 6] rfl)
set_option maxRecDepth 100000 in
set_option maxHeartbeats 4000000 in
theorem law_c15 {p : Program} {l : Launch} {e : Env} {s : State} {m : MethodId} {below : List Frame} {meth : Method} {c : Code} {b L : Nat} {xs : Nat → Int32} {D : va_G} {cI cJ cS : ClassId} {sa : Nat → Nat} (C1 : q_cx p l s m meth c b L xs D cI cJ cS sa) (hL : L ≤ 2048) {cells slots k : Nat} (hk3 : k + 3 < L) (hcl : cells + 8 ≤ 601024) (hsl : slots + 60 ≤ 7293034) {S : CM} {M : MD} {O : Nat → Int64} {r : CM × MD × (Nat → Int64)} (hf : q_c15 S M O (xs (k + 1)) (xs (k + 2)) (xs (k + 3)) = some r) (kk : q_go p l e s m below meth c b D cI cJ cS (cells + 8) (slots + 60) 1622 k r.1 r.2.1 r.2.2) : q_go p l e s m below meth c b D cI cJ cS cells slots 1148 k S M O := by
  obtain ⟨⟨hx, hb, hr, hml, hown0, hts0, hX, hbl, hlocks, hgv⟩, hlt, hE, hES, hN, hZ⟩ := C1
  have hown : s.vm.findClass RL = some m.cls := hown0
  have hts : ∀ w ∈ wsL_law, w.before #[Value.ref b] s = true := fun w h => hts0 w (wsL_law_in w h)
  have hbA : ¬ (fun q : Nat => s.heap.size ≤ q) b := Nat.not_le.mpr hbl
  intro A g B am k0 H locs ls hg hP hD hS hl
  unfold q_c15 at hf
  refine lv_aload_n hx hb dL_law_1148 rfl (lv_at hl 1 rfl) ?_
  refine lv_aload_n hx hb dL_law_1149 rfl (lv_at hl 0 rfl) ?_
  refine lv_iload hx hb dL_law_1150 (lv_at hl 4 rfl) ?_
  refine lv_iconst (v := 1) hx hb dL_law_1152 (by decide) ?_
  refine lv_iadd hx hb dL_law_1153 ?_
  refine q_nmi (y := nI (k + 1)) (nI_add k 1) ?_
  refine va_sld hx hb hX hbl hbA hS (vp_in_nI (show k + 1 < L by omega) (by omega)) dL_law_1154 ?_
  refine q_nmi (y := xs (k + 1)) (by rw [nI_clamp (by omega)]) ?_
  refine lv_aload_n hx hb dL_law_1155 rfl (lv_at hl 3 rfl) ?_
  obtain ⟨x, hx1, hf⟩ := q_bd_go hf
  refine q_lawL hP hD hS (fun _ h => h) (vx_runSX (As := [.ref (A 3 0), .int (xs (k + 1)), .ref k0]) (rest := []) ⟨hx, hb, hml, hown, hts⟩ (c_L_value l hlt D cI cJ cS sa A g B hg k0 S O _ (xs (k + 1)) _ hx1) (vx_cwSW 3 hts gL_law_L_value rfl rfl rfl (by decide +kernel) ⟨(Nat.le_of_ble_eq_true rfl), (Nat.le_of_ble_eq_true rfl)⟩) ⟨q_blindL, fun U hU hW => ⟨rfl, ⟨by rw [hU], by rw [hU]; exact pW_L hP, q_E.warm hW hE, (dW_L hD).weaken (fun _ _ _ _ => trivial), q_ES.warm hW hES, by rw [hU]; exact ((hZ.kept (fun a h1 h2 => hS.2.1 a h1 h2)).narrow (fun q h => h.elim (fun ⟨k9, e9, h9⟩ => (dW_L hD).2 k9 _ h9) (fun h => Nat.le_trans hS.1 h))).moved hW.alike⟩, q_EN.moved hW.alike hN⟩⟩ rfl rfl hl.1 rfl (lv_room (Nat.le_of_ble_eq_true rfl)) dL_law_1156 ⟨(by show cells + 1 ≤ 601024; omega), (by show slots + 6 ≤ 7293034; omega)⟩) (fun g2 B2 H locs hg hP hD hS => ?_)
  refine lv_istore (lv' := [(5, .int x.1), (0, .ref b), (1, .ref (A 3 0)), (2, .ref (am 0)), (3, .ref k0), (4, .int (nI k))]) hx hb dL_law_1159 hl (by decide) rfl (fun ls hl => ?_)
  refine lv_aload_n hx hb dL_law_1161 rfl (lv_at hl 3 rfl) ?_
  refine lv_aload_n hx hb dL_law_1162 rfl (lv_at hl 1 rfl) ?_
  refine lv_iload hx hb dL_law_1163 (lv_at hl 5 rfl) ?_
  refine lv_iconst (v := 1) hx hb dL_law_1165 (by decide) ?_
  refine lv_iadd hx hb dL_law_1166 ?_
  refine q_nmi (y := nI (k + 1)) (nI_add k 1) ?_
  refine va_sld hx hb hX hbl hbA hS (vp_in_nI (show k + 1 < L by omega) (by omega)) dL_law_1167 ?_
  refine q_nmi (y := xs (k + 1)) (by rw [nI_clamp (by omega)]) ?_
  obtain ⟨y, hy1, hf⟩ := q_bd_go hf
  refine q_wrC (v := (some (.int y.1))) (w := wMD cI cJ am M) (w' := wMD cI cJ am y.2) (ci := 3) (As := [.int (xs (k + 1))]) (rest := []) hx hb hml hown hts (c_X3_value l D cI cJ cS am M _ (xs (k + 1)) _ hy1) (cwV 1 hts gL_law_X3_value rfl rfl rfl (by decide +kernel) ⟨(Nat.le_of_ble_eq_true rfl), (Nat.le_of_ble_eq_true rfl)⟩) hE (pW_M hP) (dW_M hD) hS (fun _ h => h) (fun H1 hF hk h1 h2 => sW_M hP hD hF hk h1 h2) rfl rfl rfl hl.1 rfl (Nat.le_of_ble_eq_true rfl) dL_law_1168 ⟨(by show cells + 1 + 0 ≤ 601024; omega), (by show slots + 6 + 0 ≤ 7293034; omega)⟩ (fun H locs hP hD hS => ?_)
  refine lv_istore (lv' := [(6, .int y.1), (5, .int x.1), (0, .ref b), (1, .ref (A 3 0)), (2, .ref (am 0)), (3, .ref k0), (4, .int (nI k))]) hx hb dL_law_1171 hl (by decide) rfl (fun ls hl => ?_)
  refine lv_aload_n hx hb dL_law_1173 rfl (lv_at hl 4 rfl) ?_
  refine q_rdVi (w := wMD cI cJ am y.2) (ci := 3) (As := []) (rest := []) hx hb hml hown hts (c_X3_thrown l D cI cJ cS am y.2 (MD_thrown y.2) rfl) (cwV 0 hts gL_law_X3_thrown rfl rfl rfl (by decide +kernel) ⟨(Nat.le_of_ble_eq_true rfl), (Nat.le_of_ble_eq_true rfl)⟩) hE (pW_M hP) rfl rfl rfl hl.1 rfl (Nat.le_of_ble_eq_true rfl) dL_law_1174 ⟨(by show cells + 1 + 0 ≤ 601024; omega), (by show slots + 6 + 0 ≤ 7293034; omega)⟩ ?_
  obtain ⟨he, hr9, hc⟩ := q_okT hf
  subst hr9
  refine lv_iload hx hb dL_law_1177 (lv_at hl 1 rfl) ?_
  refine lv_icmp_eq (tgt := 1184) hx hb dL_law_1179 (by decide) (fun _ => ?_) (fun z9 => absurd he z9)
  refine lv_iload hx hb dL_law_1184 (lv_at hl 1 rfl) ?_
  refine lv_if_ne (tgt := 1201) hx hb dL_law_1186 (by decide) (fun hn => ?_) (fun hz => ?_)
  · refine lv_goto (tgt := 1622) hx hb dL_law_1201 (by decide) ?_
    refine W.widen (k := cells + 8) (n := slots + 60) (by omega) (by omega) ?_
    exact kk A g2 B2 am k0 _ _ _ hg hP hD hS (lv_sub hl [2, 3, 4, 5, 6] rfl)
  · have he := hc hz
    refine lv_aload_n hx hb dL_law_1189 rfl (lv_at hl 5 rfl) ?_
    refine lv_iconst (v := 0) hx hb dL_law_1190 (by decide) ?_
    refine va_lald hx hb hE.1 hP 0 1 rfl rfl (by unfold vp_in; decide) dL_law_1191 ?_
    refine lv_iload hx hb dL_law_1192 (lv_at hl 0 rfl) ?_
    refine lv_i2l (v := ((y.1 : Int32).toInt64)) hx hb dL_law_1194 rfl ?_
    refine W.lcmp hx hb dL_law_1195 ?_
    refine lv_if_eq (tgt := 1201) hx hb dL_law_1196 (by decide) (fun _ => ?_) (fun z9 => absurd he z9)
    refine lv_goto (tgt := 1622) hx hb dL_law_1201 (by decide) ?_
    refine W.widen (k := cells + 8) (n := slots + 60) (by omega) (by omega) ?_
    exact kk A g2 B2 am k0 _ _ _ hg hP hD hS (lv_sub hl [2, 3, 4, 5, 6] rfl)
set_option maxRecDepth 100000 in
set_option maxHeartbeats 4000000 in
theorem law_c16 {p : Program} {l : Launch} {e : Env} {s : State} {m : MethodId} {below : List Frame} {meth : Method} {c : Code} {b L : Nat} {xs : Nat → Int32} {D : va_G} {cI cJ cS : ClassId} {sa : Nat → Nat} (C1 : q_cx p l s m meth c b L xs D cI cJ cS sa) (hL : L ≤ 2048) {cells slots k : Nat} (hk3 : k + 3 < L) (hcl : cells + 8 ≤ 601024) (hsl : slots + 60 ≤ 7293034) {S : CM} {M : MD} {O : Nat → Int64} {r : CM × MD × (Nat → Int64)} (hf : q_c16 S M O (xs (k + 1)) (xs (k + 2)) (xs (k + 3)) = some r) (kk : q_go p l e s m below meth c b D cI cJ cS (cells + 8) (slots + 60) 1622 k r.1 r.2.1 r.2.2) : q_go p l e s m below meth c b D cI cJ cS cells slots 1204 k S M O := by
  obtain ⟨⟨hx, hb, hr, hml, hown0, hts0, hX, hbl, hlocks, hgv⟩, hlt, hE, hES, hN, hZ⟩ := C1
  have hown : s.vm.findClass RL = some m.cls := hown0
  have hts : ∀ w ∈ wsL_law, w.before #[Value.ref b] s = true := fun w h => hts0 w (wsL_law_in w h)
  have hbA : ¬ (fun q : Nat => s.heap.size ≤ q) b := Nat.not_le.mpr hbl
  intro A g B am k0 H locs ls hg hP hD hS hl
  unfold q_c16 at hf
  refine lv_aload_n hx hb dL_law_1204 rfl (lv_at hl 1 rfl) ?_
  refine lv_aload_n hx hb dL_law_1205 rfl (lv_at hl 0 rfl) ?_
  refine lv_iload hx hb dL_law_1206 (lv_at hl 4 rfl) ?_
  refine lv_iconst (v := 1) hx hb dL_law_1208 (by decide) ?_
  refine lv_iadd hx hb dL_law_1209 ?_
  refine q_nmi (y := nI (k + 1)) (nI_add k 1) ?_
  refine va_sld hx hb hX hbl hbA hS (vp_in_nI (show k + 1 < L by omega) (by omega)) dL_law_1210 ?_
  refine q_nmi (y := xs (k + 1)) (by rw [nI_clamp (by omega)]) ?_
  refine lv_aload_n hx hb dL_law_1211 rfl (lv_at hl 3 rfl) ?_
  obtain ⟨x, hx1, hf⟩ := q_bd_go hf
  refine q_lawL hP hD hS (fun _ h => h) (vx_runSX (As := [.ref (A 3 0), .int (xs (k + 1)), .ref k0]) (rest := []) ⟨hx, hb, hml, hown, hts⟩ (c_L_setting l hlt D cI cJ cS sa A g B hg k0 S O _ (xs (k + 1)) _ hx1) (vx_cwSW 3 hts gL_law_L_setting rfl rfl rfl (by decide +kernel) ⟨(Nat.le_of_ble_eq_true rfl), (Nat.le_of_ble_eq_true rfl)⟩) ⟨q_blindL, fun U hU hW => ⟨rfl, ⟨by rw [hU], by rw [hU]; exact pW_L hP, q_E.warm hW hE, (dW_L hD).weaken (fun _ _ _ _ => trivial), q_ES.warm hW hES, by rw [hU]; exact ((hZ.kept (fun a h1 h2 => hS.2.1 a h1 h2)).narrow (fun q h => h.elim (fun ⟨k9, e9, h9⟩ => (dW_L hD).2 k9 _ h9) (fun h => Nat.le_trans hS.1 h))).moved hW.alike⟩, q_EN.moved hW.alike hN⟩⟩ rfl rfl hl.1 rfl (lv_room (Nat.le_of_ble_eq_true rfl)) dL_law_1212 ⟨(by show cells + 1 ≤ 601024; omega), (by show slots + 6 ≤ 7293034; omega)⟩) (fun g2 B2 H locs hg hP hD hS => ?_)
  refine lv_istore (lv' := [(5, .int x.1), (0, .ref b), (1, .ref (A 3 0)), (2, .ref (am 0)), (3, .ref k0), (4, .int (nI k))]) hx hb dL_law_1215 hl (by decide) rfl (fun ls hl => ?_)
  refine lv_aload_n hx hb dL_law_1217 rfl (lv_at hl 3 rfl) ?_
  refine lv_aload_n hx hb dL_law_1218 rfl (lv_at hl 1 rfl) ?_
  refine lv_iload hx hb dL_law_1219 (lv_at hl 5 rfl) ?_
  refine lv_iconst (v := 1) hx hb dL_law_1221 (by decide) ?_
  refine lv_iadd hx hb dL_law_1222 ?_
  refine q_nmi (y := nI (k + 1)) (nI_add k 1) ?_
  refine va_sld hx hb hX hbl hbA hS (vp_in_nI (show k + 1 < L by omega) (by omega)) dL_law_1223 ?_
  refine q_nmi (y := xs (k + 1)) (by rw [nI_clamp (by omega)]) ?_
  obtain ⟨y, hy1, hf⟩ := q_bd_go hf
  refine q_wrC (v := (some (.int y.1))) (w := wMD cI cJ am M) (w' := wMD cI cJ am y.2) (ci := 3) (As := [.int (xs (k + 1))]) (rest := []) hx hb hml hown hts (c_X3_setting l D cI cJ cS am M _ (xs (k + 1)) _ hy1) (cwV 1 hts gL_law_X3_setting rfl rfl rfl (by decide +kernel) ⟨(Nat.le_of_ble_eq_true rfl), (Nat.le_of_ble_eq_true rfl)⟩) hE (pW_M hP) (dW_M hD) hS (fun _ h => h) (fun H1 hF hk h1 h2 => sW_M hP hD hF hk h1 h2) rfl rfl rfl hl.1 rfl (Nat.le_of_ble_eq_true rfl) dL_law_1224 ⟨(by show cells + 1 + 0 ≤ 601024; omega), (by show slots + 6 + 0 ≤ 7293034; omega)⟩ (fun H locs hP hD hS => ?_)
  refine lv_istore (lv' := [(6, .int y.1), (5, .int x.1), (0, .ref b), (1, .ref (A 3 0)), (2, .ref (am 0)), (3, .ref k0), (4, .int (nI k))]) hx hb dL_law_1227 hl (by decide) rfl (fun ls hl => ?_)
  refine lv_aload_n hx hb dL_law_1229 rfl (lv_at hl 4 rfl) ?_
  refine q_rdVi (w := wMD cI cJ am y.2) (ci := 3) (As := []) (rest := []) hx hb hml hown hts (c_X3_thrown l D cI cJ cS am y.2 (MD_thrown y.2) rfl) (cwV 0 hts gL_law_X3_thrown rfl rfl rfl (by decide +kernel) ⟨(Nat.le_of_ble_eq_true rfl), (Nat.le_of_ble_eq_true rfl)⟩) hE (pW_M hP) rfl rfl rfl hl.1 rfl (Nat.le_of_ble_eq_true rfl) dL_law_1230 ⟨(by show cells + 1 + 0 ≤ 601024; omega), (by show slots + 6 + 0 ≤ 7293034; omega)⟩ ?_
  obtain ⟨he, hr9, hc⟩ := q_okT hf
  subst hr9
  refine lv_iload hx hb dL_law_1233 (lv_at hl 1 rfl) ?_
  refine lv_icmp_eq (tgt := 1240) hx hb dL_law_1235 (by decide) (fun _ => ?_) (fun z9 => absurd he z9)
  refine lv_iload hx hb dL_law_1240 (lv_at hl 1 rfl) ?_
  refine lv_if_ne (tgt := 1257) hx hb dL_law_1242 (by decide) (fun hn => ?_) (fun hz => ?_)
  · refine lv_goto (tgt := 1622) hx hb dL_law_1257 (by decide) ?_
    refine W.widen (k := cells + 8) (n := slots + 60) (by omega) (by omega) ?_
    exact kk A g2 B2 am k0 _ _ _ hg hP hD hS (lv_sub hl [2, 3, 4, 5, 6] rfl)
  · have he := hc hz
    refine lv_aload_n hx hb dL_law_1245 rfl (lv_at hl 5 rfl) ?_
    refine lv_iconst (v := 0) hx hb dL_law_1246 (by decide) ?_
    refine va_lald hx hb hE.1 hP 0 1 rfl rfl (by unfold vp_in; decide) dL_law_1247 ?_
    refine lv_iload hx hb dL_law_1248 (lv_at hl 0 rfl) ?_
    refine lv_i2l (v := ((y.1 : Int32).toInt64)) hx hb dL_law_1250 rfl ?_
    refine W.lcmp hx hb dL_law_1251 ?_
    refine lv_if_eq (tgt := 1257) hx hb dL_law_1252 (by decide) (fun _ => ?_) (fun z9 => absurd he z9)
    refine lv_goto (tgt := 1622) hx hb dL_law_1257 (by decide) ?_
    refine W.widen (k := cells + 8) (n := slots + 60) (by omega) (by omega) ?_
    exact kk A g2 B2 am k0 _ _ _ hg hP hD hS (lv_sub hl [2, 3, 4, 5, 6] rfl)
set_option maxRecDepth 100000 in
set_option maxHeartbeats 4000000 in
theorem law_c17 {p : Program} {l : Launch} {e : Env} {s : State} {m : MethodId} {below : List Frame} {meth : Method} {c : Code} {b L : Nat} {xs : Nat → Int32} {D : va_G} {cI cJ cS : ClassId} {sa : Nat → Nat} (C1 : q_cx p l s m meth c b L xs D cI cJ cS sa) (hL : L ≤ 2048) {cells slots k : Nat} (hk3 : k + 3 < L) (hcl : cells + 8 ≤ 601024) (hsl : slots + 60 ≤ 7293034) {S : CM} {M : MD} {O : Nat → Int64} {r : CM × MD × (Nat → Int64)} (hf : q_c17 S M O (xs (k + 1)) (xs (k + 2)) (xs (k + 3)) = some r) (kk : q_go p l e s m below meth c b D cI cJ cS (cells + 8) (slots + 60) 1622 k r.1 r.2.1 r.2.2) : q_go p l e s m below meth c b D cI cJ cS cells slots 1260 k S M O := by
  obtain ⟨⟨hx, hb, hr, hml, hown0, hts0, hX, hbl, hlocks, hgv⟩, hlt, hE, hES, hN, hZ⟩ := C1
  have hown : s.vm.findClass RL = some m.cls := hown0
  have hts : ∀ w ∈ wsL_law, w.before #[Value.ref b] s = true := fun w h => hts0 w (wsL_law_in w h)
  have hbA : ¬ (fun q : Nat => s.heap.size ≤ q) b := Nat.not_le.mpr hbl
  intro A g B am k0 H locs ls hg hP hD hS hl
  unfold q_c17 at hf
  refine lv_aload_n hx hb dL_law_1260 rfl (lv_at hl 1 rfl) ?_
  refine lv_aload_n hx hb dL_law_1261 rfl (lv_at hl 0 rfl) ?_
  refine lv_iload hx hb dL_law_1262 (lv_at hl 4 rfl) ?_
  refine lv_iconst (v := 1) hx hb dL_law_1264 (by decide) ?_
  refine lv_iadd hx hb dL_law_1265 ?_
  refine q_nmi (y := nI (k + 1)) (nI_add k 1) ?_
  refine va_sld hx hb hX hbl hbA hS (vp_in_nI (show k + 1 < L by omega) (by omega)) dL_law_1266 ?_
  refine q_nmi (y := xs (k + 1)) (by rw [nI_clamp (by omega)]) ?_
  refine lv_aload_n hx hb dL_law_1267 rfl (lv_at hl 3 rfl) ?_
  obtain ⟨x, hx1, hf⟩ := q_bd_go hf
  refine q_lawL hP hD hS (fun _ h => h) (vx_runSX (As := [.ref (A 3 0), .int (xs (k + 1)), .ref k0]) (rest := []) ⟨hx, hb, hml, hown, hts⟩ (c_L_coverer l hlt D cI cJ cS sa A g B hg k0 S O _ (xs (k + 1)) _ hx1) (vx_cwSW 3 hts gL_law_L_coverer rfl rfl rfl (by decide +kernel) ⟨(Nat.le_of_ble_eq_true rfl), (Nat.le_of_ble_eq_true rfl)⟩) ⟨q_blindL, fun U hU hW => ⟨rfl, ⟨by rw [hU], by rw [hU]; exact pW_L hP, q_E.warm hW hE, (dW_L hD).weaken (fun _ _ _ _ => trivial), q_ES.warm hW hES, by rw [hU]; exact ((hZ.kept (fun a h1 h2 => hS.2.1 a h1 h2)).narrow (fun q h => h.elim (fun ⟨k9, e9, h9⟩ => (dW_L hD).2 k9 _ h9) (fun h => Nat.le_trans hS.1 h))).moved hW.alike⟩, q_EN.moved hW.alike hN⟩⟩ rfl rfl hl.1 rfl (lv_room (Nat.le_of_ble_eq_true rfl)) dL_law_1268 ⟨(by show cells + 1 ≤ 601024; omega), (by show slots + 6 ≤ 7293034; omega)⟩) (fun g2 B2 H locs hg hP hD hS => ?_)
  refine lv_istore (lv' := [(5, .int x.1), (0, .ref b), (1, .ref (A 3 0)), (2, .ref (am 0)), (3, .ref k0), (4, .int (nI k))]) hx hb dL_law_1271 hl (by decide) rfl (fun ls hl => ?_)
  refine lv_aload_n hx hb dL_law_1273 rfl (lv_at hl 3 rfl) ?_
  refine lv_aload_n hx hb dL_law_1274 rfl (lv_at hl 1 rfl) ?_
  refine lv_iload hx hb dL_law_1275 (lv_at hl 5 rfl) ?_
  refine lv_iconst (v := 1) hx hb dL_law_1277 (by decide) ?_
  refine lv_iadd hx hb dL_law_1278 ?_
  refine q_nmi (y := nI (k + 1)) (nI_add k 1) ?_
  refine va_sld hx hb hX hbl hbA hS (vp_in_nI (show k + 1 < L by omega) (by omega)) dL_law_1279 ?_
  refine q_nmi (y := xs (k + 1)) (by rw [nI_clamp (by omega)]) ?_
  obtain ⟨y, hy1, hf⟩ := q_bd_go hf
  refine q_wrC (v := (some (.int y.1))) (w := wMD cI cJ am M) (w' := wMD cI cJ am y.2) (ci := 3) (As := [.int (xs (k + 1))]) (rest := []) hx hb hml hown hts (c_X3_coverer l D cI cJ cS am M _ (xs (k + 1)) _ hy1) (cwV 1 hts gL_law_X3_coverer rfl rfl rfl (by decide +kernel) ⟨(Nat.le_of_ble_eq_true rfl), (Nat.le_of_ble_eq_true rfl)⟩) hE (pW_M hP) (dW_M hD) hS (fun _ h => h) (fun H1 hF hk h1 h2 => sW_M hP hD hF hk h1 h2) rfl rfl rfl hl.1 rfl (Nat.le_of_ble_eq_true rfl) dL_law_1280 ⟨(by show cells + 1 + 0 ≤ 601024; omega), (by show slots + 6 + 0 ≤ 7293034; omega)⟩ (fun H locs hP hD hS => ?_)
  refine lv_istore (lv' := [(6, .int y.1), (5, .int x.1), (0, .ref b), (1, .ref (A 3 0)), (2, .ref (am 0)), (3, .ref k0), (4, .int (nI k))]) hx hb dL_law_1283 hl (by decide) rfl (fun ls hl => ?_)
  refine lv_aload_n hx hb dL_law_1285 rfl (lv_at hl 4 rfl) ?_
  refine q_rdVi (w := wMD cI cJ am y.2) (ci := 3) (As := []) (rest := []) hx hb hml hown hts (c_X3_thrown l D cI cJ cS am y.2 (MD_thrown y.2) rfl) (cwV 0 hts gL_law_X3_thrown rfl rfl rfl (by decide +kernel) ⟨(Nat.le_of_ble_eq_true rfl), (Nat.le_of_ble_eq_true rfl)⟩) hE (pW_M hP) rfl rfl rfl hl.1 rfl (Nat.le_of_ble_eq_true rfl) dL_law_1286 ⟨(by show cells + 1 + 0 ≤ 601024; omega), (by show slots + 6 + 0 ≤ 7293034; omega)⟩ ?_
  obtain ⟨he, hr9, hc⟩ := q_okT hf
  subst hr9
  refine lv_iload hx hb dL_law_1289 (lv_at hl 1 rfl) ?_
  refine lv_icmp_eq (tgt := 1296) hx hb dL_law_1291 (by decide) (fun _ => ?_) (fun z9 => absurd he z9)
  refine lv_iload hx hb dL_law_1296 (lv_at hl 1 rfl) ?_
  refine lv_if_ne (tgt := 1313) hx hb dL_law_1298 (by decide) (fun hn => ?_) (fun hz => ?_)
  · refine lv_goto (tgt := 1622) hx hb dL_law_1313 (by decide) ?_
    refine W.widen (k := cells + 8) (n := slots + 60) (by omega) (by omega) ?_
    exact kk A g2 B2 am k0 _ _ _ hg hP hD hS (lv_sub hl [2, 3, 4, 5, 6] rfl)
  · have he := hc hz
    refine lv_aload_n hx hb dL_law_1301 rfl (lv_at hl 5 rfl) ?_
    refine lv_iconst (v := 0) hx hb dL_law_1302 (by decide) ?_
    refine va_lald hx hb hE.1 hP 0 1 rfl rfl (by unfold vp_in; decide) dL_law_1303 ?_
    refine lv_iload hx hb dL_law_1304 (lv_at hl 0 rfl) ?_
    refine lv_i2l (v := ((y.1 : Int32).toInt64)) hx hb dL_law_1306 rfl ?_
    refine W.lcmp hx hb dL_law_1307 ?_
    refine lv_if_eq (tgt := 1313) hx hb dL_law_1308 (by decide) (fun _ => ?_) (fun z9 => absurd he z9)
    refine lv_goto (tgt := 1622) hx hb dL_law_1313 (by decide) ?_
    refine W.widen (k := cells + 8) (n := slots + 60) (by omega) (by omega) ?_
    exact kk A g2 B2 am k0 _ _ _ hg hP hD hS (lv_sub hl [2, 3, 4, 5, 6] rfl)
