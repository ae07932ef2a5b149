/-- one call of the script, told by class and reference alike; none: they tell otherwise -/
def q_step (x a1 a2 a3 : Int32) (S : CM) (M : MD) (O : Nat → Int64) : Option (CM × MD × (Nat → Int64)) := if x &&& 31 = 0 then q_c0 S M O a1 a2 a3 else if x &&& 31 = 1 then q_c1 S M O a1 a2 a3 else if x &&& 31 = 2 then q_c2 S M O a1 a2 a3 else if x &&& 31 = 3 then q_c3 S M O a1 a2 a3 else if x &&& 31 = 4 then q_c4 S M O a1 a2 a3 else if x &&& 31 = 5 then q_c5 S M O a1 a2 a3 else if x &&& 31 = 6 then q_c6 S M O a1 a2 a3 else if x &&& 31 = 7 then q_c7 S M O a1 a2 a3 else if x &&& 31 = 8 then q_c8 S M O a1 a2 a3 else if x &&& 31 = 9 then q_c9 S M O a1 a2 a3 else if x &&& 31 = 10 then q_c10 S M O a1 a2 a3 else if x &&& 31 = 11 then q_c11 S M O a1 a2 a3 else if x &&& 31 = 12 then q_c12 S M O a1 a2 a3 else if x &&& 31 = 13 then q_c13 S M O a1 a2 a3 else if x &&& 31 = 14 then q_c14 S M O a1 a2 a3 else if x &&& 31 = 15 then q_c15 S M O a1 a2 a3 else if x &&& 31 = 16 then q_c16 S M O a1 a2 a3 else if x &&& 31 = 17 then q_c17 S M O a1 a2 a3 else if x &&& 31 = 18 then q_c18 S M O a1 a2 a3 else if x &&& 31 = 19 then q_c19 S M O a1 a2 a3 else if x &&& 31 = 20 then q_c20 S M O a1 a2 a3 else if x &&& 31 = 21 then q_c21 S M O a1 a2 a3 else if x &&& 31 = 22 then q_c22 S M O a1 a2 a3 else if x &&& 31 = 23 then q_c23 S M O a1 a2 a3 else if x &&& 31 = 24 then q_c24 S M O a1 a2 a3 else if x &&& 31 = 25 then q_c25 S M O a1 a2 a3 else if x &&& 31 = 26 then q_c26 S M O a1 a2 a3 else some (S, M, O)
def q_run (xs : Nat → Int32) (L : Nat) : Nat → Nat → CM → MD → (Nat → Int64) → Option Unit
  | 0, _, _, _, _ => none
  | n + 1, k, S, M, O => if k + 4 ≤ L then (q_step (xs k) (xs (k + 1)) (xs (k + 2)) (xs (k + 3)) S M O).bind fun r => q_run xs L n (k + 4) r.1 r.2.1 r.2.2 else some ()
theorem q_ends {L k : Nat} (hL : L ≤ 2048) (hk : k ≤ 2048) : (Int32.ofNat L - 4 < nI k) ↔ ¬ k + 4 ≤ L := by
  have e1 : (Int32.ofNat L).toInt = L := Int32.toInt_ofNat_of_lt (by omega)
  have e2 : (nI k).toInt = k := Int32.toInt_ofNat_of_lt (by omega)
  have e3 : (Int32.ofNat L - 4).toInt = (L : Int) - 4 := by
    rw [Int32.toInt_sub, e1, show (4 : Int32).toInt = 4 from rfl]
    simp only [Int.bmod]
    omega
  rw [Int32.lt_iff_toInt_lt, e3, e2]
  omega
theorem q_tab (x : Int32) (h : ∀ j : Nat, j < 27 → x ≠ Int32.ofNat j) : x.toInt < 0 ∨ 26 < x.toInt := by
  by_cases c1 : x.toInt < 0
  · exact .inl c1
  · by_cases c2 : 26 < x.toInt
    · exact .inr c2
    · refine absurd ?_ (h x.toInt.toNat (by omega))
      apply Int32.toInt_inj.mp
      rw [Int32.toInt_ofNat_of_lt (by omega)]
      omega
theorem law_next {p : Program} {l : Launch} {e : Env} {s : State} {m : MethodId} {below : List Frame} {meth : Method} {c : Code} {b L : Nat} {xs : Nat → Int32} {D : va_G} {cI cJ cS : ClassId} {sa : Nat → Nat} (C1 : q_cx p l s m meth c b L xs D cI cJ cS sa) {cells slots k : Nat} {S : CM} {M : MD} {O : Nat → Int64} (kk : q_go p l e s m below meth c b D cI cJ cS cells slots 23 (k + 4) S M O) : q_go p l e s m below meth c b D cI cJ cS cells slots 1622 k S M O := by
  obtain ⟨⟨hx, hb, hr, hml, hown0, hts0, hX, hbl, hlocks, hgv⟩, hlt, hE, hES, hN, hZ⟩ := C1
  intro A g B am k0 H locs ls hg hP hD hS hl
  refine lv_iinc (k := 4) (v := nI (k + 4)) (lv' := [(4, .int (nI (k + 4))), (0, .ref b), (1, .ref (A 3 0)), (2, .ref (am 0)), (3, .ref k0)]) hx hb dL_law_1622 hl rfl (nI_add k 4) (by decide) rfl (fun ls hl => ?_)
  refine lv_goto (tgt := 23) hx hb dL_law_1625 (by decide) ?_
  exact kk A g B am k0 H locs ls hg hP hD hS (lv_sub hl [1, 2, 3, 4, 0] rfl)
set_option maxRecDepth 100000 in
set_option maxHeartbeats 4000000 in
theorem law_loop {p : Program} {l : Launch} {e : Env} {s : State} {m : MethodId} {below : List Frame} {meth : Method} {c : Code} {b L : Nat} {xs : Nat → Int32} {D : va_G} {cI cJ cS : ClassId} {sa : Nat → Nat} (C1 : q_cx p l s m meth c b L xs D cI cJ cS sa) (hL : L ≤ 2048) : ∀ (n cells slots k : Nat) (S : CM) (M : MD) (O : Nat → Int64), cells + 8 * n ≤ 601024 → slots + 60 * n ≤ 7293034 → k ≤ 2048 → q_run xs L n k S M O = some () → q_go p l e s m below meth c b D cI cJ cS cells slots 23 k S M O := by
  intro n
  induction n with
  | zero => intro cells slots k S M O h1 h2 h3 hf; rw [q_run] at hf; cases hf
  | succ n ih =>
  intro cells slots k S M O h1 h2 h3 hf
  rw [q_run] at hf
  have C2 := C1
  obtain ⟨⟨hx, hb, hr, hml, hown0, hts0, hX, hbl, hlocks, hgv⟩, hlt, hE, hES, hN, hZ⟩ := C2
  have hbA : ¬ (fun q : Nat => s.heap.size ≤ q) b := Nat.not_le.mpr hbl
  intro A g B am k0 H locs ls hg hP hD hS hl
  refine lv_iload hx hb dL_law_23 (lv_at hl 4 rfl) ?_
  refine lv_aload_n hx hb dL_law_25 rfl (lv_at hl 0 rfl) ?_
  refine va_slen hx hb hX hbl hbA hS dL_law_26 ?_
  refine lv_iconst (v := 4) hx hb dL_law_27 (by decide) ?_
  refine lv_isub hx hb dL_law_28 ?_
  refine lv_icmp_gt (tgt := 1628) hx hb dL_law_29 (by decide) (fun hc => ?_) (fun hc => ?_)
  · refine W.widen (k := 601024) (n := 7293034) (by omega) (by omega) ?_
    refine va_forget (fun q hq => hS.2.2 q hq) ?_
    refine lv_iconst (v := 1) hx hb dL_law_1628 (by decide) ?_
    exact W.base (lw_ret (Drawn.sameBut.refl s.drawn lw_cs) hx hb hr hlocks dL_law_1629)
  have hk : k + 4 ≤ L := Classical.byContradiction fun z => hc ((q_ends hL h3).mpr z)
  have hf := q_ite_t hk hf
  obtain ⟨r, hr1, hf⟩ := q_bd_go hf
  refine lv_aload_n hx hb dL_law_32 rfl (lv_at hl 0 rfl) ?_
  refine lv_iload hx hb dL_law_33 (lv_at hl 4 rfl) ?_
  refine va_sld hx hb hX hbl hbA hS (vp_in_nI (show k < L by omega) (by omega)) dL_law_35 ?_
  refine q_nmi (y := xs k) (by rw [nI_clamp (by omega)]) ?_
  refine lv_bipush (v := 31) hx hb dL_law_36 (by decide) ?_
  refine lv_iand hx hb dL_law_38 ?_
  have hn : q_go p l e s m below meth c b D cI cJ cS (cells + 8) (slots + 60) 1622 k r.1 r.2.1 r.2.2 := law_next C1 (ih (cells + 8) (slots + 60) (k + 4) r.1 r.2.1 r.2.2 (by omega) (by omega) (by omega) hf)
  unfold q_step at hr1
  by_cases c0 : xs k &&& 31 = 0
  · refine lv_tableIn (off := 121) (tgt := 160) hx hb dL_law_39 (by rw [c0]; decide) (by rw [c0]; decide) (by rw [c0]; rfl) (by decide) ?_
    exact law_c0 C1 hL (by omega) (by omega) (by omega) (q_ite_t c0 hr1) hn A g B am k0 H locs ls hg hP hD hS hl
  replace hr1 := q_ite_f c0 hr1
  by_cases c1 : xs k &&& 31 = 1
  · refine lv_tableIn (off := 189) (tgt := 228) hx hb dL_law_39 (by rw [c1]; decide) (by rw [c1]; decide) (by rw [c1]; rfl) (by decide) ?_
    exact law_c1 C1 hL (by omega) (by omega) (by omega) (q_ite_t c1 hr1) hn A g B am k0 H locs ls hg hP hD hS hl
  replace hr1 := q_ite_f c1 hr1
  by_cases c2 : xs k &&& 31 = 2
  · refine lv_tableIn (off := 277) (tgt := 316) hx hb dL_law_39 (by rw [c2]; decide) (by rw [c2]; decide) (by rw [c2]; rfl) (by decide) ?_
    exact law_c2 C1 hL (by omega) (by omega) (by omega) (q_ite_t c2 hr1) hn A g B am k0 H locs ls hg hP hD hS hl
  replace hr1 := q_ite_f c2 hr1
  by_cases c3 : xs k &&& 31 = 3
  · refine lv_tableIn (off := 373) (tgt := 412) hx hb dL_law_39 (by rw [c3]; decide) (by rw [c3]; decide) (by rw [c3]; rfl) (by decide) ?_
    exact law_c3 C1 hL (by omega) (by omega) (by omega) (q_ite_t c3 hr1) hn A g B am k0 H locs ls hg hP hD hS hl
  replace hr1 := q_ite_f c3 hr1
  by_cases c4 : xs k &&& 31 = 4
  · refine lv_tableIn (off := 441) (tgt := 480) hx hb dL_law_39 (by rw [c4]; decide) (by rw [c4]; decide) (by rw [c4]; rfl) (by decide) ?_
    exact law_c4 C1 hL (by omega) (by omega) (by omega) (q_ite_t c4 hr1) hn A g B am k0 H locs ls hg hP hD hS hl
  replace hr1 := q_ite_f c4 hr1
  by_cases c5 : xs k &&& 31 = 5
  · refine lv_tableIn (off := 521) (tgt := 560) hx hb dL_law_39 (by rw [c5]; decide) (by rw [c5]; decide) (by rw [c5]; rfl) (by decide) ?_
    exact law_c5 C1 hL (by omega) (by omega) (by omega) (q_ite_t c5 hr1) hn A g B am k0 H locs ls hg hP hD hS hl
  replace hr1 := q_ite_f c5 hr1
  by_cases c6 : xs k &&& 31 = 6
  · refine lv_tableIn (off := 589) (tgt := 628) hx hb dL_law_39 (by rw [c6]; decide) (by rw [c6]; decide) (by rw [c6]; rfl) (by decide) ?_
    exact law_c6 C1 hL (by omega) (by omega) (by omega) (q_ite_t c6 hr1) hn A g B am k0 H locs ls hg hP hD hS hl
  replace hr1 := q_ite_f c6 hr1
  by_cases c7 : xs k &&& 31 = 7
  · refine lv_tableIn (off := 645) (tgt := 684) hx hb dL_law_39 (by rw [c7]; decide) (by rw [c7]; decide) (by rw [c7]; rfl) (by decide) ?_
    exact law_c7 C1 hL (by omega) (by omega) (by omega) (q_ite_t c7 hr1) hn A g B am k0 H locs ls hg hP hD hS hl
  replace hr1 := q_ite_f c7 hr1
  by_cases c8 : xs k &&& 31 = 8
  · refine lv_tableIn (off := 658) (tgt := 697) hx hb dL_law_39 (by rw [c8]; decide) (by rw [c8]; decide) (by rw [c8]; rfl) (by decide) ?_
    exact law_c8 C1 hL (by omega) (by omega) (by omega) (q_ite_t c8 hr1) hn A g B am k0 H locs ls hg hP hD hS hl
  replace hr1 := q_ite_f c8 hr1
  by_cases c9 : xs k &&& 31 = 9
  · refine lv_tableIn (off := 726) (tgt := 765) hx hb dL_law_39 (by rw [c9]; decide) (by rw [c9]; decide) (by rw [c9]; rfl) (by decide) ?_
    exact law_c9 C1 hL (by omega) (by omega) (by omega) (q_ite_t c9 hr1) hn A g B am k0 H locs ls hg hP hD hS hl
  replace hr1 := q_ite_f c9 hr1
  by_cases c10 : xs k &&& 31 = 10
  · refine lv_tableIn (off := 782) (tgt := 821) hx hb dL_law_39 (by rw [c10]; decide) (by rw [c10]; decide) (by rw [c10]; rfl) (by decide) ?_
    exact law_c10 C1 hL (by omega) (by omega) (by omega) (q_ite_t c10 hr1) hn A g B am k0 H locs ls hg hP hD hS hl
  replace hr1 := q_ite_f c10 hr1
  by_cases c11 : xs k &&& 31 = 11
  · refine lv_tableIn (off := 850) (tgt := 889) hx hb dL_law_39 (by rw [c11]; decide) (by rw [c11]; decide) (by rw [c11]; rfl) (by decide) ?_
    exact law_c11 C1 hL (by omega) (by omega) (by omega) (q_ite_t c11 hr1) hn A g B am k0 H locs ls hg hP hD hS hl
  replace hr1 := q_ite_f c11 hr1
  by_cases c12 : xs k &&& 31 = 12
  · refine lv_tableIn (off := 905) (tgt := 944) hx hb dL_law_39 (by rw [c12]; decide) (by rw [c12]; decide) (by rw [c12]; rfl) (by decide) ?_
    exact law_c12 C1 hL (by omega) (by omega) (by omega) (q_ite_t c12 hr1) hn A g B am k0 H locs ls hg hP hD hS hl
  replace hr1 := q_ite_f c12 hr1
  by_cases c13 : xs k &&& 31 = 13
  · refine lv_tableIn (off := 973) (tgt := 1012) hx hb dL_law_39 (by rw [c13]; decide) (by rw [c13]; decide) (by rw [c13]; rfl) (by decide) ?_
    exact law_c13 C1 hL (by omega) (by omega) (by omega) (q_ite_t c13 hr1) hn A g B am k0 H locs ls hg hP hD hS hl
  replace hr1 := q_ite_f c13 hr1
  by_cases c14 : xs k &&& 31 = 14
  · refine lv_tableIn (off := 1041) (tgt := 1080) hx hb dL_law_39 (by rw [c14]; decide) (by rw [c14]; decide) (by rw [c14]; rfl) (by decide) ?_
    exact law_c14 C1 hL (by omega) (by omega) (by omega) (q_ite_t c14 hr1) hn A g B am k0 H locs ls hg hP hD hS hl
  replace hr1 := q_ite_f c14 hr1
  by_cases c15 : xs k &&& 31 = 15
  · refine lv_tableIn (off := 1109) (tgt := 1148) hx hb dL_law_39 (by rw [c15]; decide) (by rw [c15]; decide) (by rw [c15]; rfl) (by decide) ?_
    exact law_c15 C1 hL (by omega) (by omega) (by omega) (q_ite_t c15 hr1) hn A g B am k0 H locs ls hg hP hD hS hl
  replace hr1 := q_ite_f c15 hr1
  by_cases c16 : xs k &&& 31 = 16
  · refine lv_tableIn (off := 1165) (tgt := 1204) hx hb dL_law_39 (by rw [c16]; decide) (by rw [c16]; decide) (by rw [c16]; rfl) (by decide) ?_
    exact law_c16 C1 hL (by omega) (by omega) (by omega) (q_ite_t c16 hr1) hn A g B am k0 H locs ls hg hP hD hS hl
  replace hr1 := q_ite_f c16 hr1
  by_cases c17 : xs k &&& 31 = 17
  · refine lv_tableIn (off := 1221) (tgt := 1260) hx hb dL_law_39 (by rw [c17]; decide) (by rw [c17]; decide) (by rw [c17]; rfl) (by decide) ?_
    exact law_c17 C1 hL (by omega) (by omega) (by omega) (q_ite_t c17 hr1) hn A g B am k0 H locs ls hg hP hD hS hl
  replace hr1 := q_ite_f c17 hr1
  by_cases c18 : xs k &&& 31 = 18
  · refine lv_tableIn (off := 1277) (tgt := 1316) hx hb dL_law_39 (by rw [c18]; decide) (by rw [c18]; decide) (by rw [c18]; rfl) (by decide) ?_
    exact law_c18 C1 hL (by omega) (by omega) (by omega) (q_ite_t c18 hr1) hn A g B am k0 H locs ls hg hP hD hS hl
  replace hr1 := q_ite_f c18 hr1
  by_cases c19 : xs k &&& 31 = 19
  · refine lv_tableIn (off := 1333) (tgt := 1372) hx hb dL_law_39 (by rw [c19]; decide) (by rw [c19]; decide) (by rw [c19]; rfl) (by decide) ?_
    exact law_c19 C1 hL (by omega) (by omega) (by omega) (q_ite_t c19 hr1) hn A g B am k0 H locs ls hg hP hD hS hl
  replace hr1 := q_ite_f c19 hr1
  by_cases c20 : xs k &&& 31 = 20
  · refine lv_tableIn (off := 1346) (tgt := 1385) hx hb dL_law_39 (by rw [c20]; decide) (by rw [c20]; decide) (by rw [c20]; rfl) (by decide) ?_
    exact law_c20 C1 hL (by omega) (by omega) (by omega) (q_ite_t c20 hr1) hn A g B am k0 H locs ls hg hP hD hS hl
  replace hr1 := q_ite_f c20 hr1
  by_cases c21 : xs k &&& 31 = 21
  · refine lv_tableIn (off := 1402) (tgt := 1441) hx hb dL_law_39 (by rw [c21]; decide) (by rw [c21]; decide) (by rw [c21]; rfl) (by decide) ?_
    exact law_c21 C1 hL (by omega) (by omega) (by omega) (q_ite_t c21 hr1) hn A g B am k0 H locs ls hg hP hD hS hl
  replace hr1 := q_ite_f c21 hr1
  by_cases c22 : xs k &&& 31 = 22
  · refine lv_tableIn (off := 1443) (tgt := 1482) hx hb dL_law_39 (by rw [c22]; decide) (by rw [c22]; decide) (by rw [c22]; rfl) (by decide) ?_
    exact law_c22 C1 hL (by omega) (by omega) (by omega) (q_ite_t c22 hr1) hn A g B am k0 H locs ls hg hP hD hS hl
  replace hr1 := q_ite_f c22 hr1
  by_cases c23 : xs k &&& 31 = 23
  · refine lv_tableIn (off := 1499) (tgt := 1538) hx hb dL_law_39 (by rw [c23]; decide) (by rw [c23]; decide) (by rw [c23]; rfl) (by decide) ?_
    exact law_c23 C1 hL (by omega) (by omega) (by omega) (q_ite_t c23 hr1) hn A g B am k0 H locs ls hg hP hD hS hl
  replace hr1 := q_ite_f c23 hr1
  by_cases c24 : xs k &&& 31 = 24
  · refine lv_tableIn (off := 1512) (tgt := 1551) hx hb dL_law_39 (by rw [c24]; decide) (by rw [c24]; decide) (by rw [c24]; rfl) (by decide) ?_
    exact law_c24 C1 hL (by omega) (by omega) (by omega) (q_ite_t c24 hr1) hn A g B am k0 H locs ls hg hP hD hS hl
  replace hr1 := q_ite_f c24 hr1
  by_cases c25 : xs k &&& 31 = 25
  · refine lv_tableIn (off := 1525) (tgt := 1564) hx hb dL_law_39 (by rw [c25]; decide) (by rw [c25]; decide) (by rw [c25]; rfl) (by decide) ?_
    exact law_c25 C1 hL (by omega) (by omega) (by omega) (q_ite_t c25 hr1) hn A g B am k0 H locs ls hg hP hD hS hl
  replace hr1 := q_ite_f c25 hr1
  by_cases c26 : xs k &&& 31 = 26
  · refine lv_tableIn (off := 1569) (tgt := 1608) hx hb dL_law_39 (by rw [c26]; decide) (by rw [c26]; decide) (by rw [c26]; rfl) (by decide) ?_
    exact law_c26 C1 hL (by omega) (by omega) (by omega) (q_ite_t c26 hr1) hn A g B am k0 H locs ls hg hP hD hS hl
  replace hr1 := q_ite_f c26 hr1
  refine lv_tableOut (tgt := 1622) hx hb dL_law_39 (q_tab _ (fun j hj => ?_)) (by decide) ?_
  · exact match j, hj with | 0, _ => c0 | 1, _ => c1 | 2, _ => c2 | 3, _ => c3 | 4, _ => c4 | 5, _ => c5 | 6, _ => c6 | 7, _ => c7 | 8, _ => c8 | 9, _ => c9 | 10, _ => c10 | 11, _ => c11 | 12, _ => c12 | 13, _ => c13 | 14, _ => c14 | 15, _ => c15 | 16, _ => c16 | 17, _ => c17 | 18, _ => c18 | 19, _ => c19 | 20, _ => c20 | 21, _ => c21 | 22, _ => c22 | 23, _ => c23 | 24, _ => c24 | 25, _ => c25 | 26, _ => c26 | n + 27, h => absurd h (by omega)
  · have he := q_some hr1
    subst he
    refine W.widen (k := cells + 8) (n := slots + 60) (by omega) (by omega) ?_
    exact hn A g B am k0 H locs ls hg hP hD hS hl
