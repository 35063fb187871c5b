section
set_option maxHeartbeats 4000000 in
theorem s4_J7_fill_d0a16 {l : Launch} {dC : Nat → ClassId} {dI : Nat → Nat → Nat} {ad : Nat → Nat} {cA : Nat → ClassId} {pr : Nat → Nat → Bool} {Kz : mm_M} {M0 : mm_M} (hM0 : INV pr Kz M0) (hpr : PX pr) (a1 : Int) (ha1 : -9223372036854775808 ≤ a1 ∧ a1 ≤ 9223372036854775807) : Cv l 0 yJ7_fill_d0a16 wsJ7_fill_d0a16 dC dI ad cA [.ref (ad 52), .long (sJ a1)] M0 (fun M' => INV pr Kz M' ∧ FX [52] M0 M' ∧ (b01 (FIJ M' 52 a1 40) = 1)) := by
  refine cv_of (cc := cJ7_fill_d0a16) (maxL := 5) (lv := [(0, .ref (ad 52)), (1, .long (sJ a1))]) (by decide) rfl (Nat.le_of_ble_eq_true rfl) rfl ?_
  intro p e s m args below meth c A Q C hret
  refine y_iconst C dJ7_fill_d0a16_0 ?_
  refine j_istore_n C 3 [(3, .int (sI 0)), (0, .ref (ad 52)), (1, .long (sJ a1))] dJ7_fill_d0a16_1 rfl (by decide) rfl ?_
  refine j_aload_n C 1 0 dJ7_fill_d0a16_2 rfl rfl ?_
  refine y_alen C 29 40 rfl rfl rfl an_29 rfl rfl dJ7_fill_d0a16_3 ?_
  refine j_istore C 4 [(4, .int (sI 40)), (3, .int (sI 0)), (0, .ref (ad 52)), (1, .long (sJ a1))] dJ7_fill_d0a16_4 (by decide) rfl ?_
  have u101z := fij_0 M0 52 a1
  have L206 : ∀ (n204 : Nat), ∀ (a207 : Int) (M208 : mm_M), (0 ≤ a207 ∧ a207 ≤ 40 ∧ (b01 (FIJ M208 52 a1 a207) = 1) ∧ (40 - a207) < (n204 : Int)) → INV pr Kz M208 → FX [52] M0 M208 → jj p l e (cn_R 0) s m args below meth c 0 0 Q 5 dC dI ad cA A M208 6 [(0, .ref (ad 52)), (1, .long (sJ a1)), (3, .int (sI a207)), (4, .int (sI 40))] [] := by
    intro n204
    induction n204 with
    | zero =>
      intro a207 M208 h209 hM208 fM208
      exfalso; omega
    | succ n204 ih205 =>
      intro a207 M208 h209 hM208 fM208
      refine j_iload_n C 2 3 dJ7_fill_d0a16_6 rfl rfl ?_
      refine j_iload C 3 dJ7_fill_d0a16_7 rfl ?_
      refine y_icmp_ge C 22 dJ7_fill_d0a16_9 (by decide) (by exact ⟨⟨(by omega), (by omega)⟩, ⟨(by decide), (by decide)⟩⟩) (fun h211 => ?_) (fun h211 => ?_)
      · have u214x : b01 (FIJ M208 52 a1 40) = 1 := b01_i (fun k hk => b01_e (P := FIJ M208 52 a1 a207) (by exact h209.2.2.1) k (by omega))
        exact hret _ _ _ dJ7_fill_d0a16_22 ⟨hM208, (FX.rf.tr fM208 (by decide)), by exact u214x⟩
      · refine j_aload_n C 0 0 dJ7_fill_d0a16_12 rfl rfl ?_
        refine j_iload_n C 2 3 dJ7_fill_d0a16_13 rfl rfl ?_
        refine j_lload_n C 1 1 dJ7_fill_d0a16_14 rfl rfl ?_
        refine y_last C 29 40 rfl rfl rfl ak_29 an_29 rfl hM208 (PX.w hpr rfl rfl) dJ7_fill_d0a16_15 (by exact ⟨h209.1, (by omega)⟩) (fun M212 eM212 hM212 => ?_)
        refine y_iinc C 2 [(3, .int (sI (a207 + 1))), (0, .ref (ad 52)), (1, .long (sJ a1)), (4, .int (sI 40))] dJ7_fill_d0a16_16 rfl (by decide) rfl ?_
        refine j_goto C 6 dJ7_fill_d0a16_19 (by decide) ?_
        have u213z := fij_s (M := M208) (N := M212) (c := 52) (v := a1) (n := a207) (n' := (a207 + 1)) (by exact h209.2.2.1) eM212 (by (clear hM212 eM212 fM208 hM208 ih205 u101z hret C hpr hM0; omega))
        refine j_lv [1, 2, 0, 3] rfl ?_; exact ih205 (a207 + 1) M212 (by exact ⟨(by (clear hM212 eM212 fM208 hM208 ih205 u101z hret C ha1 hpr hM0; omega)), ⟨(by (clear hM212 eM212 fM208 hM208 ih205 u101z hret C ha1 hpr hM0; omega)), ⟨u213z, (by (clear hM212 eM212 fM208 hM208 ih205 u101z hret C ha1 hpr hM0; omega))⟩⟩⟩) hM212 ((FX.rf.tr fM208 (by decide)).wJ eM212 (by decide))
  refine j_lv [2, 3, 1, 0] rfl ?_; exact L206 2010 0 M0 (by exact ⟨(by decide), ⟨(by decide), ⟨u101z, (by decide)⟩⟩⟩) hM0 FX.rf
set_option maxHeartbeats 4000000 in
theorem s2_X10_layOut {l : Launch} {dC : Nat → ClassId} {dI : Nat → Nat → Nat} {ad : Nat → Nat} {cA : Nat → ClassId} {pr : Nat → Nat → Bool} {Kz : mm_M} {M0 : mm_M} (hM0 : INV pr Kz M0) (hpr : PX pr) (hq9_1 : ∀ i, s_c i = 9 → pr i 1 = false) (hq9_2 : ∀ i, s_c i = 9 → pr i 2 = false) (a1 : Int) (ha1 : -2147483648 ≤ a1 ∧ a1 ≤ 2147483647) (a2 : Int) (ha2 : -2147483648 ≤ a2 ∧ a2 ≤ 2147483647) (hp0 : 0 ≤ a1 ∧ a1 ≤ 3) (hp1 : 0 ≤ a2 ∧ a2 ≤ 40) : Cv l 1 yX10_layOut wsX10_layOut dC dI ad cA [.ref (ad 51), .int (sI a1), .int (sI a2)] M0 (fun M' => INV pr Kz M' ∧ FX [51, 52] M0 M' ∧ ((M'.1 51 1).toInt = a1 ∧ (M'.1 51 2).toInt = a2) ∧ (b01 (FIJ M' 52 0 40) = 1)) := by
  refine cv_of (cc := cX10_layOut) (maxL := 3) (lv := [(0, .ref (ad 51)), (1, .int (sI a1)), (2, .int (sI a2))]) (by decide) rfl (Nat.le_of_ble_eq_true rfl) rfl ?_
  intro p e s m args below meth c A Q C hret
  refine j_aload_n C 0 0 dX10_layOut_0 rfl rfl ?_
  refine y_getC C 9 52 fX10_layOut_9 rfl rfl ft_9_0 sm_9_0 rfl hM0 dX10_layOut_1 ?_
  refine y_lconst C 0 dX10_layOut_4 rfl ?_
  refine j_callSv C (d := 0) (As := [.ref (ad 52), .long (sJ 0)]) (st := []) (s4_J7_fill_d0a16 hM0 hpr 0 (by exact ⟨(by decide), (by decide)⟩)) gX10_layOut_J7_fill_d0a16 rfl hdJ7_fill_d0a16s (by decide) (Nat.le_of_ble_eq_true rfl) dX10_layOut_5 rfl (fun M102 h103 => ?_)
  obtain ⟨hM102, fM102, h104⟩ := h103
  refine j_aload_n C 0 0 dX10_layOut_8 rfl rfl ?_
  refine j_iload_n C 1 1 dX10_layOut_9 rfl rfl ?_
  refine y_putI C 9 _ _ qX10_layOut_15 rfl rfl ft_9_1 sb_9_1 hM102 (hq9_1 _ rfl) dX10_layOut_10 (by exact ⟨⟨ha1.1, ha1.2⟩, ⟨hp0.1, hp0.2⟩⟩) (fun M105 eM105 hM105 => ?_)
  refine j_aload_n C 0 0 dX10_layOut_13 rfl rfl ?_
  refine j_iload_n C 2 2 dX10_layOut_14 rfl rfl ?_
  refine y_putI C 9 _ _ qX10_layOut_19 rfl rfl ft_9_2 sb_9_2 hM105 (hq9_2 _ rfl) dX10_layOut_15 (by exact ⟨⟨ha2.1, ha2.2⟩, ⟨(by (clear hM105 eM105 h104 fM102 hM102 hret C hp0 ha1 hq9_2 hq9_1 hpr hM0; omega)), hp1.2⟩⟩) (fun M106 eM106 hM106 => ?_)
  have zz51_1 := (Eq.trans (s_fb eM106 (by decide) (rfl) : (M106.1 51 1).toInt = (M105.1 51 1).toInt) (s_wr eM105 (by exact ⟨ha1.1, ha1.2⟩)))
  have zz51_2 := (Eq.trans (rfl : (M106.1 51 2).toInt = (M106.1 51 2).toInt) (s_wr eM106 (by exact ⟨ha2.1, ha2.2⟩)))
  have u107j : b01 (FIJ M106 52 0 40) = 1 := b01_i (fun k hk => by rw [show M106.2.1 = M102.2.1 by rw [eM106, eM105]]; exact b01_e (P := FIJ M102 52 0 40) (by exact h104) k hk)
  have zz51_1 := (Eq.trans (s_fb eM106 (by decide) (rfl) : (M106.1 51 1).toInt = (M105.1 51 1).toInt) (s_wr eM105 (by exact ⟨ha1.1, ha1.2⟩))); have zz51_2 := (Eq.trans (rfl : (M106.1 51 2).toInt = (M106.1 51 2).toInt) (s_wr eM106 (by exact ⟨ha2.1, ha2.2⟩))); exact hret _ _ _ dX10_layOut_18 ⟨hM106, (((FX.rf.tr fM102 (by decide)).wI eM105 (by decide)).wI eM106 (by decide)), by omega⟩
set_option maxHeartbeats 4000000 in
theorem s5_J7_fill_d0a16 {l : Launch} {dC : Nat → ClassId} {dI : Nat → Nat → Nat} {ad : Nat → Nat} {cA : Nat → ClassId} {pr : Nat → Nat → Bool} {Kz : mm_M} {M0 : mm_M} (hM0 : INV pr Kz M0) (hpr : PX pr) (a1 : Int) (ha1 : -9223372036854775808 ≤ a1 ∧ a1 ≤ 9223372036854775807) : Cv l 0 yJ7_fill_d0a16 wsJ7_fill_d0a16 dC dI ad cA [.ref (ad 54), .long (sJ a1)] M0 (fun M' => INV pr Kz M' ∧ FX [54] M0 M' ∧ (b01 (FIJ M' 54 a1 40) = 1)) := by
  refine cv_of (cc := cJ7_fill_d0a16) (maxL := 5) (lv := [(0, .ref (ad 54)), (1, .long (sJ a1))]) (by decide) rfl (Nat.le_of_ble_eq_true rfl) rfl ?_
  intro p e s m args below meth c A Q C hret
  refine y_iconst C dJ7_fill_d0a16_0 ?_
  refine j_istore_n C 3 [(3, .int (sI 0)), (0, .ref (ad 54)), (1, .long (sJ a1))] dJ7_fill_d0a16_1 rfl (by decide) rfl ?_
  refine j_aload_n C 1 0 dJ7_fill_d0a16_2 rfl rfl ?_
  refine y_alen C 29 40 rfl rfl rfl an_29 rfl rfl dJ7_fill_d0a16_3 ?_
  refine j_istore C 4 [(4, .int (sI 40)), (3, .int (sI 0)), (0, .ref (ad 54)), (1, .long (sJ a1))] dJ7_fill_d0a16_4 (by decide) rfl ?_
  have u101z := fij_0 M0 54 a1
  have L206 : ∀ (n204 : Nat), ∀ (a207 : Int) (M208 : mm_M), (0 ≤ a207 ∧ a207 ≤ 40 ∧ (b01 (FIJ M208 54 a1 a207) = 1) ∧ (40 - a207) < (n204 : Int)) → INV pr Kz M208 → FX [54] M0 M208 → jj p l e (cn_R 0) s m args below meth c 0 0 Q 5 dC dI ad cA A M208 6 [(0, .ref (ad 54)), (1, .long (sJ a1)), (3, .int (sI a207)), (4, .int (sI 40))] [] := by
    intro n204
    induction n204 with
    | zero =>
      intro a207 M208 h209 hM208 fM208
      exfalso; omega
    | succ n204 ih205 =>
      intro a207 M208 h209 hM208 fM208
      refine j_iload_n C 2 3 dJ7_fill_d0a16_6 rfl rfl ?_
      refine j_iload C 3 dJ7_fill_d0a16_7 rfl ?_
      refine y_icmp_ge C 22 dJ7_fill_d0a16_9 (by decide) (by exact ⟨⟨(by omega), (by omega)⟩, ⟨(by decide), (by decide)⟩⟩) (fun h211 => ?_) (fun h211 => ?_)
      · have u214x : b01 (FIJ M208 54 a1 40) = 1 := b01_i (fun k hk => b01_e (P := FIJ M208 54 a1 a207) (by exact h209.2.2.1) k (by omega))
        exact hret _ _ _ dJ7_fill_d0a16_22 ⟨hM208, (FX.rf.tr fM208 (by decide)), by exact u214x⟩
      · refine j_aload_n C 0 0 dJ7_fill_d0a16_12 rfl rfl ?_
        refine j_iload_n C 2 3 dJ7_fill_d0a16_13 rfl rfl ?_
        refine j_lload_n C 1 1 dJ7_fill_d0a16_14 rfl rfl ?_
        refine y_last C 29 40 rfl rfl rfl ak_29 an_29 rfl hM208 (PX.w hpr rfl rfl) dJ7_fill_d0a16_15 (by exact ⟨h209.1, (by omega)⟩) (fun M212 eM212 hM212 => ?_)
        refine y_iinc C 2 [(3, .int (sI (a207 + 1))), (0, .ref (ad 54)), (1, .long (sJ a1)), (4, .int (sI 40))] dJ7_fill_d0a16_16 rfl (by decide) rfl ?_
        refine j_goto C 6 dJ7_fill_d0a16_19 (by decide) ?_
        have u213z := fij_s (M := M208) (N := M212) (c := 54) (v := a1) (n := a207) (n' := (a207 + 1)) (by exact h209.2.2.1) eM212 (by (clear hM212 eM212 fM208 hM208 ih205 u101z hret C hpr hM0; omega))
        refine j_lv [1, 2, 0, 3] rfl ?_; exact ih205 (a207 + 1) M212 (by exact ⟨(by (clear hM212 eM212 fM208 hM208 ih205 u101z hret C ha1 hpr hM0; omega)), ⟨(by (clear hM212 eM212 fM208 hM208 ih205 u101z hret C ha1 hpr hM0; omega)), ⟨u213z, (by (clear hM212 eM212 fM208 hM208 ih205 u101z hret C ha1 hpr hM0; omega))⟩⟩⟩) hM212 ((FX.rf.tr fM208 (by decide)).wJ eM212 (by decide))
  refine j_lv [2, 3, 1, 0] rfl ?_; exact L206 2010 0 M0 (by exact ⟨(by decide), ⟨(by decide), ⟨u101z, (by decide)⟩⟩⟩) hM0 FX.rf
set_option maxHeartbeats 4000000 in
theorem s3_X10_layOut {l : Launch} {dC : Nat → ClassId} {dI : Nat → Nat → Nat} {ad : Nat → Nat} {cA : Nat → ClassId} {pr : Nat → Nat → Bool} {Kz : mm_M} {M0 : mm_M} (hM0 : INV pr Kz M0) (hpr : PX pr) (hq9_1 : ∀ i, s_c i = 9 → pr i 1 = false) (hq9_2 : ∀ i, s_c i = 9 → pr i 2 = false) (a1 : Int) (ha1 : -2147483648 ≤ a1 ∧ a1 ≤ 2147483647) (a2 : Int) (ha2 : -2147483648 ≤ a2 ∧ a2 ≤ 2147483647) (hp0 : 0 ≤ a1 ∧ a1 ≤ 3) (hp1 : 0 ≤ a2 ∧ a2 ≤ 40) : Cv l 1 yX10_layOut wsX10_layOut dC dI ad cA [.ref (ad 53), .int (sI a1), .int (sI a2)] M0 (fun M' => INV pr Kz M' ∧ FX [53, 54] M0 M' ∧ ((M'.1 53 1).toInt = a1 ∧ (M'.1 53 2).toInt = a2) ∧ (b01 (FIJ M' 54 0 40) = 1)) := by
  refine cv_of (cc := cX10_layOut) (maxL := 3) (lv := [(0, .ref (ad 53)), (1, .int (sI a1)), (2, .int (sI a2))]) (by decide) rfl (Nat.le_of_ble_eq_true rfl) rfl ?_
  intro p e s m args below meth c A Q C hret
  refine j_aload_n C 0 0 dX10_layOut_0 rfl rfl ?_
  refine y_getC C 9 54 fX10_layOut_9 rfl rfl ft_9_0 sm_9_0 rfl hM0 dX10_layOut_1 ?_
  refine y_lconst C 0 dX10_layOut_4 rfl ?_
  refine j_callSv C (d := 0) (As := [.ref (ad 54), .long (sJ 0)]) (st := []) (s5_J7_fill_d0a16 hM0 hpr 0 (by exact ⟨(by decide), (by decide)⟩)) gX10_layOut_J7_fill_d0a16 rfl hdJ7_fill_d0a16s (by decide) (Nat.le_of_ble_eq_true rfl) dX10_layOut_5 rfl (fun M102 h103 => ?_)
  obtain ⟨hM102, fM102, h104⟩ := h103
  refine j_aload_n C 0 0 dX10_layOut_8 rfl rfl ?_
  refine j_iload_n C 1 1 dX10_layOut_9 rfl rfl ?_
  refine y_putI C 9 _ _ qX10_layOut_15 rfl rfl ft_9_1 sb_9_1 hM102 (hq9_1 _ rfl) dX10_layOut_10 (by exact ⟨⟨ha1.1, ha1.2⟩, ⟨hp0.1, hp0.2⟩⟩) (fun M105 eM105 hM105 => ?_)
  refine j_aload_n C 0 0 dX10_layOut_13 rfl rfl ?_
  refine j_iload_n C 2 2 dX10_layOut_14 rfl rfl ?_
  refine y_putI C 9 _ _ qX10_layOut_19 rfl rfl ft_9_2 sb_9_2 hM105 (hq9_2 _ rfl) dX10_layOut_15 (by exact ⟨⟨ha2.1, ha2.2⟩, ⟨(by omega), hp1.2⟩⟩) (fun M106 eM106 hM106 => ?_)
  have zz53_1 := (Eq.trans (s_fb eM106 (by decide) (rfl) : (M106.1 53 1).toInt = (M105.1 53 1).toInt) (s_wr eM105 (by exact ⟨ha1.1, ha1.2⟩)))
  have zz53_2 := (Eq.trans (rfl : (M106.1 53 2).toInt = (M106.1 53 2).toInt) (s_wr eM106 (by exact ⟨ha2.1, ha2.2⟩)))
  have u107j : b01 (FIJ M106 54 0 40) = 1 := b01_i (fun k hk => by rw [show M106.2.1 = M102.2.1 by rw [eM106, eM105]]; exact b01_e (P := FIJ M102 54 0 40) (by exact h104) k hk)
  have zz53_1 := (Eq.trans (s_fb eM106 (by decide) (rfl) : (M106.1 53 1).toInt = (M105.1 53 1).toInt) (s_wr eM105 (by exact ⟨ha1.1, ha1.2⟩))); have zz53_2 := (Eq.trans (rfl : (M106.1 53 2).toInt = (M106.1 53 2).toInt) (s_wr eM106 (by exact ⟨ha2.1, ha2.2⟩))); exact hret _ _ _ dX10_layOut_18 ⟨hM106, (((FX.rf.tr fM102 (by decide)).wI eM105 (by decide)).wI eM106 (by decide)), by omega⟩
set_option maxHeartbeats 4000000 in
theorem s6_J7_fill_d0a16 {l : Launch} {dC : Nat → ClassId} {dI : Nat → Nat → Nat} {ad : Nat → Nat} {cA : Nat → ClassId} {pr : Nat → Nat → Bool} {Kz : mm_M} {M0 : mm_M} (hM0 : INV pr Kz M0) (hpr : PX pr) (a1 : Int) (ha1 : -9223372036854775808 ≤ a1 ∧ a1 ≤ 9223372036854775807) : Cv l 0 yJ7_fill_d0a16 wsJ7_fill_d0a16 dC dI ad cA [.ref (ad 56), .long (sJ a1)] M0 (fun M' => INV pr Kz M' ∧ FX [56] M0 M' ∧ (b01 (FIJ M' 56 a1 40) = 1)) := by
  refine cv_of (cc := cJ7_fill_d0a16) (maxL := 5) (lv := [(0, .ref (ad 56)), (1, .long (sJ a1))]) (by decide) rfl (Nat.le_of_ble_eq_true rfl) rfl ?_
  intro p e s m args below meth c A Q C hret
  refine y_iconst C dJ7_fill_d0a16_0 ?_
  refine j_istore_n C 3 [(3, .int (sI 0)), (0, .ref (ad 56)), (1, .long (sJ a1))] dJ7_fill_d0a16_1 rfl (by decide) rfl ?_
  refine j_aload_n C 1 0 dJ7_fill_d0a16_2 rfl rfl ?_
  refine y_alen C 29 40 rfl rfl rfl an_29 rfl rfl dJ7_fill_d0a16_3 ?_
  refine j_istore C 4 [(4, .int (sI 40)), (3, .int (sI 0)), (0, .ref (ad 56)), (1, .long (sJ a1))] dJ7_fill_d0a16_4 (by decide) rfl ?_
  have u101z := fij_0 M0 56 a1
  have L206 : ∀ (n204 : Nat), ∀ (a207 : Int) (M208 : mm_M), (0 ≤ a207 ∧ a207 ≤ 40 ∧ (b01 (FIJ M208 56 a1 a207) = 1) ∧ (40 - a207) < (n204 : Int)) → INV pr Kz M208 → FX [56] M0 M208 → jj p l e (cn_R 0) s m args below meth c 0 0 Q 5 dC dI ad cA A M208 6 [(0, .ref (ad 56)), (1, .long (sJ a1)), (3, .int (sI a207)), (4, .int (sI 40))] [] := by
    intro n204
    induction n204 with
    | zero =>
      intro a207 M208 h209 hM208 fM208
      exfalso; omega
    | succ n204 ih205 =>
      intro a207 M208 h209 hM208 fM208
      refine j_iload_n C 2 3 dJ7_fill_d0a16_6 rfl rfl ?_
      refine j_iload C 3 dJ7_fill_d0a16_7 rfl ?_
      refine y_icmp_ge C 22 dJ7_fill_d0a16_9 (by decide) (by exact ⟨⟨(by omega), (by omega)⟩, ⟨(by decide), (by decide)⟩⟩) (fun h211 => ?_) (fun h211 => ?_)
      · have u214x : b01 (FIJ M208 56 a1 40) = 1 := b01_i (fun k hk => b01_e (P := FIJ M208 56 a1 a207) (by exact h209.2.2.1) k (by omega))
        exact hret _ _ _ dJ7_fill_d0a16_22 ⟨hM208, (FX.rf.tr fM208 (by decide)), by exact u214x⟩
      · refine j_aload_n C 0 0 dJ7_fill_d0a16_12 rfl rfl ?_
        refine j_iload_n C 2 3 dJ7_fill_d0a16_13 rfl rfl ?_
        refine j_lload_n C 1 1 dJ7_fill_d0a16_14 rfl rfl ?_
        refine y_last C 29 40 rfl rfl rfl ak_29 an_29 rfl hM208 (PX.w hpr rfl rfl) dJ7_fill_d0a16_15 (by exact ⟨h209.1, (by omega)⟩) (fun M212 eM212 hM212 => ?_)
        refine y_iinc C 2 [(3, .int (sI (a207 + 1))), (0, .ref (ad 56)), (1, .long (sJ a1)), (4, .int (sI 40))] dJ7_fill_d0a16_16 rfl (by decide) rfl ?_
        refine j_goto C 6 dJ7_fill_d0a16_19 (by decide) ?_
        have u213z := fij_s (M := M208) (N := M212) (c := 56) (v := a1) (n := a207) (n' := (a207 + 1)) (by exact h209.2.2.1) eM212 (by (clear hM212 eM212 fM208 hM208 ih205 u101z hret C hpr hM0; omega))
        refine j_lv [1, 2, 0, 3] rfl ?_; exact ih205 (a207 + 1) M212 (by exact ⟨(by (clear hM212 eM212 fM208 hM208 ih205 u101z hret C ha1 hpr hM0; omega)), ⟨(by (clear hM212 eM212 fM208 hM208 ih205 u101z hret C ha1 hpr hM0; omega)), ⟨u213z, (by (clear hM212 eM212 fM208 hM208 ih205 u101z hret C ha1 hpr hM0; omega))⟩⟩⟩) hM212 ((FX.rf.tr fM208 (by decide)).wJ eM212 (by decide))
  refine j_lv [2, 3, 1, 0] rfl ?_; exact L206 2010 0 M0 (by exact ⟨(by decide), ⟨(by decide), ⟨u101z, (by decide)⟩⟩⟩) hM0 FX.rf
set_option maxHeartbeats 4000000 in
theorem s4_X10_layOut {l : Launch} {dC : Nat → ClassId} {dI : Nat → Nat → Nat} {ad : Nat → Nat} {cA : Nat → ClassId} {pr : Nat → Nat → Bool} {Kz : mm_M} {M0 : mm_M} (hM0 : INV pr Kz M0) (hpr : PX pr) (hq9_1 : ∀ i, s_c i = 9 → pr i 1 = false) (hq9_2 : ∀ i, s_c i = 9 → pr i 2 = false) (a1 : Int) (ha1 : -2147483648 ≤ a1 ∧ a1 ≤ 2147483647) (a2 : Int) (ha2 : -2147483648 ≤ a2 ∧ a2 ≤ 2147483647) (hp0 : 0 ≤ a1 ∧ a1 ≤ 3) (hp1 : 0 ≤ a2 ∧ a2 ≤ 40) : Cv l 1 yX10_layOut wsX10_layOut dC dI ad cA [.ref (ad 55), .int (sI a1), .int (sI a2)] M0 (fun M' => INV pr Kz M' ∧ FX [55, 56] M0 M' ∧ ((M'.1 55 1).toInt = a1 ∧ (M'.1 55 2).toInt = a2) ∧ (b01 (FIJ M' 56 0 40) = 1)) := by
  refine cv_of (cc := cX10_layOut) (maxL := 3) (lv := [(0, .ref (ad 55)), (1, .int (sI a1)), (2, .int (sI a2))]) (by decide) rfl (Nat.le_of_ble_eq_true rfl) rfl ?_
  intro p e s m args below meth c A Q C hret
  refine j_aload_n C 0 0 dX10_layOut_0 rfl rfl ?_
  refine y_getC C 9 56 fX10_layOut_9 rfl rfl ft_9_0 sm_9_0 rfl hM0 dX10_layOut_1 ?_
  refine y_lconst C 0 dX10_layOut_4 rfl ?_
  refine j_callSv C (d := 0) (As := [.ref (ad 56), .long (sJ 0)]) (st := []) (s6_J7_fill_d0a16 hM0 hpr 0 (by exact ⟨(by decide), (by decide)⟩)) gX10_layOut_J7_fill_d0a16 rfl hdJ7_fill_d0a16s (by decide) (Nat.le_of_ble_eq_true rfl) dX10_layOut_5 rfl (fun M102 h103 => ?_)
  obtain ⟨hM102, fM102, h104⟩ := h103
  refine j_aload_n C 0 0 dX10_layOut_8 rfl rfl ?_
  refine j_iload_n C 1 1 dX10_layOut_9 rfl rfl ?_
  refine y_putI C 9 _ _ qX10_layOut_15 rfl rfl ft_9_1 sb_9_1 hM102 (hq9_1 _ rfl) dX10_layOut_10 (by exact ⟨⟨ha1.1, ha1.2⟩, ⟨hp0.1, hp0.2⟩⟩) (fun M105 eM105 hM105 => ?_)
  refine j_aload_n C 0 0 dX10_layOut_13 rfl rfl ?_
  refine j_iload_n C 2 2 dX10_layOut_14 rfl rfl ?_
  refine y_putI C 9 _ _ qX10_layOut_19 rfl rfl ft_9_2 sb_9_2 hM105 (hq9_2 _ rfl) dX10_layOut_15 (by exact ⟨⟨ha2.1, ha2.2⟩, ⟨(by omega), hp1.2⟩⟩) (fun M106 eM106 hM106 => ?_)
  have zz55_1 := (Eq.trans (s_fb eM106 (by decide) (rfl) : (M106.1 55 1).toInt = (M105.1 55 1).toInt) (s_wr eM105 (by exact ⟨ha1.1, ha1.2⟩)))
  have zz55_2 := (Eq.trans (rfl : (M106.1 55 2).toInt = (M106.1 55 2).toInt) (s_wr eM106 (by exact ⟨ha2.1, ha2.2⟩)))
  have u107j : b01 (FIJ M106 56 0 40) = 1 := b01_i (fun k hk => by rw [show M106.2.1 = M102.2.1 by rw [eM106, eM105]]; exact b01_e (P := FIJ M102 56 0 40) (by exact h104) k hk)
  have zz55_1 := (Eq.trans (s_fb eM106 (by decide) (rfl) : (M106.1 55 1).toInt = (M105.1 55 1).toInt) (s_wr eM105 (by exact ⟨ha1.1, ha1.2⟩))); have zz55_2 := (Eq.trans (rfl : (M106.1 55 2).toInt = (M106.1 55 2).toInt) (s_wr eM106 (by exact ⟨ha2.1, ha2.2⟩))); exact hret _ _ _ dX10_layOut_18 ⟨hM106, (((FX.rf.tr fM102 (by decide)).wI eM105 (by decide)).wI eM106 (by decide)), by omega⟩
set_option maxHeartbeats 4000000 in
theorem s7_J7_fill_d0a16 {l : Launch} {dC : Nat → ClassId} {dI : Nat → Nat → Nat} {ad : Nat → Nat} {cA : Nat → ClassId} {pr : Nat → Nat → Bool} {Kz : mm_M} {M0 : mm_M} (hM0 : INV pr Kz M0) (hpr : PX pr) (a1 : Int) (ha1 : -9223372036854775808 ≤ a1 ∧ a1 ≤ 9223372036854775807) : Cv l 0 yJ7_fill_d0a16 wsJ7_fill_d0a16 dC dI ad cA [.ref (ad 58), .long (sJ a1)] M0 (fun M' => INV pr Kz M' ∧ FX [58] M0 M' ∧ (b01 (FIJ M' 58 a1 40) = 1)) := by
  refine cv_of (cc := cJ7_fill_d0a16) (maxL := 5) (lv := [(0, .ref (ad 58)), (1, .long (sJ a1))]) (by decide) rfl (Nat.le_of_ble_eq_true rfl) rfl ?_
  intro p e s m args below meth c A Q C hret
  refine y_iconst C dJ7_fill_d0a16_0 ?_
  refine j_istore_n C 3 [(3, .int (sI 0)), (0, .ref (ad 58)), (1, .long (sJ a1))] dJ7_fill_d0a16_1 rfl (by decide) rfl ?_
  refine j_aload_n C 1 0 dJ7_fill_d0a16_2 rfl rfl ?_
  refine y_alen C 29 40 rfl rfl rfl an_29 rfl rfl dJ7_fill_d0a16_3 ?_
  refine j_istore C 4 [(4, .int (sI 40)), (3, .int (sI 0)), (0, .ref (ad 58)), (1, .long (sJ a1))] dJ7_fill_d0a16_4 (by decide) rfl ?_
  have u101z := fij_0 M0 58 a1
  have L206 : ∀ (n204 : Nat), ∀ (a207 : Int) (M208 : mm_M), (0 ≤ a207 ∧ a207 ≤ 40 ∧ (b01 (FIJ M208 58 a1 a207) = 1) ∧ (40 - a207) < (n204 : Int)) → INV pr Kz M208 → FX [58] M0 M208 → jj p l e (cn_R 0) s m args below meth c 0 0 Q 5 dC dI ad cA A M208 6 [(0, .ref (ad 58)), (1, .long (sJ a1)), (3, .int (sI a207)), (4, .int (sI 40))] [] := by
    intro n204
    induction n204 with
    | zero =>
      intro a207 M208 h209 hM208 fM208
      exfalso; omega
    | succ n204 ih205 =>
      intro a207 M208 h209 hM208 fM208
      refine j_iload_n C 2 3 dJ7_fill_d0a16_6 rfl rfl ?_
      refine j_iload C 3 dJ7_fill_d0a16_7 rfl ?_
      refine y_icmp_ge C 22 dJ7_fill_d0a16_9 (by decide) (by exact ⟨⟨(by omega), (by omega)⟩, ⟨(by decide), (by decide)⟩⟩) (fun h211 => ?_) (fun h211 => ?_)
      · have u214x : b01 (FIJ M208 58 a1 40) = 1 := b01_i (fun k hk => b01_e (P := FIJ M208 58 a1 a207) (by exact h209.2.2.1) k (by omega))
        exact hret _ _ _ dJ7_fill_d0a16_22 ⟨hM208, (FX.rf.tr fM208 (by decide)), by exact u214x⟩
      · refine j_aload_n C 0 0 dJ7_fill_d0a16_12 rfl rfl ?_
        refine j_iload_n C 2 3 dJ7_fill_d0a16_13 rfl rfl ?_
        refine j_lload_n C 1 1 dJ7_fill_d0a16_14 rfl rfl ?_
        refine y_last C 29 40 rfl rfl rfl ak_29 an_29 rfl hM208 (PX.w hpr rfl rfl) dJ7_fill_d0a16_15 (by exact ⟨h209.1, (by omega)⟩) (fun M212 eM212 hM212 => ?_)
        refine y_iinc C 2 [(3, .int (sI (a207 + 1))), (0, .ref (ad 58)), (1, .long (sJ a1)), (4, .int (sI 40))] dJ7_fill_d0a16_16 rfl (by decide) rfl ?_
        refine j_goto C 6 dJ7_fill_d0a16_19 (by decide) ?_
        have u213z := fij_s (M := M208) (N := M212) (c := 58) (v := a1) (n := a207) (n' := (a207 + 1)) (by exact h209.2.2.1) eM212 (by (clear hM212 eM212 fM208 hM208 ih205 u101z hret C hpr hM0; omega))
        refine j_lv [1, 2, 0, 3] rfl ?_; exact ih205 (a207 + 1) M212 (by exact ⟨(by (clear hM212 eM212 fM208 hM208 ih205 u101z hret C ha1 hpr hM0; omega)), ⟨(by (clear hM212 eM212 fM208 hM208 ih205 u101z hret C ha1 hpr hM0; omega)), ⟨u213z, (by (clear hM212 eM212 fM208 hM208 ih205 u101z hret C ha1 hpr hM0; omega))⟩⟩⟩) hM212 ((FX.rf.tr fM208 (by decide)).wJ eM212 (by decide))
  refine j_lv [2, 3, 1, 0] rfl ?_; exact L206 2010 0 M0 (by exact ⟨(by decide), ⟨(by decide), ⟨u101z, (by decide)⟩⟩⟩) hM0 FX.rf
set_option maxHeartbeats 4000000 in
theorem s5_X10_layOut {l : Launch} {dC : Nat → ClassId} {dI : Nat → Nat → Nat} {ad : Nat → Nat} {cA : Nat → ClassId} {pr : Nat → Nat → Bool} {Kz : mm_M} {M0 : mm_M} (hM0 : INV pr Kz M0) (hpr : PX pr) (hq9_1 : ∀ i, s_c i = 9 → pr i 1 = false) (hq9_2 : ∀ i, s_c i = 9 → pr i 2 = false) (a1 : Int) (ha1 : -2147483648 ≤ a1 ∧ a1 ≤ 2147483647) (a2 : Int) (ha2 : -2147483648 ≤ a2 ∧ a2 ≤ 2147483647) (hp0 : 0 ≤ a1 ∧ a1 ≤ 3) (hp1 : 0 ≤ a2 ∧ a2 ≤ 40) : Cv l 1 yX10_layOut wsX10_layOut dC dI ad cA [.ref (ad 57), .int (sI a1), .int (sI a2)] M0 (fun M' => INV pr Kz M' ∧ FX [57, 58] M0 M' ∧ ((M'.1 57 1).toInt = a1 ∧ (M'.1 57 2).toInt = a2) ∧ (b01 (FIJ M' 58 0 40) = 1)) := by
  refine cv_of (cc := cX10_layOut) (maxL := 3) (lv := [(0, .ref (ad 57)), (1, .int (sI a1)), (2, .int (sI a2))]) (by decide) rfl (Nat.le_of_ble_eq_true rfl) rfl ?_
  intro p e s m args below meth c A Q C hret
  refine j_aload_n C 0 0 dX10_layOut_0 rfl rfl ?_
  refine y_getC C 9 58 fX10_layOut_9 rfl rfl ft_9_0 sm_9_0 rfl hM0 dX10_layOut_1 ?_
  refine y_lconst C 0 dX10_layOut_4 rfl ?_
  refine j_callSv C (d := 0) (As := [.ref (ad 58), .long (sJ 0)]) (st := []) (s7_J7_fill_d0a16 hM0 hpr 0 (by exact ⟨(by decide), (by decide)⟩)) gX10_layOut_J7_fill_d0a16 rfl hdJ7_fill_d0a16s (by decide) (Nat.le_of_ble_eq_true rfl) dX10_layOut_5 rfl (fun M102 h103 => ?_)
  obtain ⟨hM102, fM102, h104⟩ := h103
  refine j_aload_n C 0 0 dX10_layOut_8 rfl rfl ?_
  refine j_iload_n C 1 1 dX10_layOut_9 rfl rfl ?_
  refine y_putI C 9 _ _ qX10_layOut_15 rfl rfl ft_9_1 sb_9_1 hM102 (hq9_1 _ rfl) dX10_layOut_10 (by exact ⟨⟨ha1.1, ha1.2⟩, ⟨hp0.1, hp0.2⟩⟩) (fun M105 eM105 hM105 => ?_)
  refine j_aload_n C 0 0 dX10_layOut_13 rfl rfl ?_
  refine j_iload_n C 2 2 dX10_layOut_14 rfl rfl ?_
  refine y_putI C 9 _ _ qX10_layOut_19 rfl rfl ft_9_2 sb_9_2 hM105 (hq9_2 _ rfl) dX10_layOut_15 (by exact ⟨⟨ha2.1, ha2.2⟩, ⟨(by omega), hp1.2⟩⟩) (fun M106 eM106 hM106 => ?_)
  have zz57_1 := (Eq.trans (s_fb eM106 (by decide) (rfl) : (M106.1 57 1).toInt = (M105.1 57 1).toInt) (s_wr eM105 (by exact ⟨ha1.1, ha1.2⟩)))
  have zz57_2 := (Eq.trans (rfl : (M106.1 57 2).toInt = (M106.1 57 2).toInt) (s_wr eM106 (by exact ⟨ha2.1, ha2.2⟩)))
  have u107j : b01 (FIJ M106 58 0 40) = 1 := b01_i (fun k hk => by rw [show M106.2.1 = M102.2.1 by rw [eM106, eM105]]; exact b01_e (P := FIJ M102 58 0 40) (by exact h104) k hk)
  have zz57_1 := (Eq.trans (s_fb eM106 (by decide) (rfl) : (M106.1 57 1).toInt = (M105.1 57 1).toInt) (s_wr eM105 (by exact ⟨ha1.1, ha1.2⟩))); have zz57_2 := (Eq.trans (rfl : (M106.1 57 2).toInt = (M106.1 57 2).toInt) (s_wr eM106 (by exact ⟨ha2.1, ha2.2⟩))); exact hret _ _ _ dX10_layOut_18 ⟨hM106, (((FX.rf.tr fM102 (by decide)).wI eM105 (by decide)).wI eM106 (by decide)), by omega⟩
set_option maxHeartbeats 4000000 in
theorem s2_X11_numbers {l : Launch} {dC : Nat → ClassId} {dI : Nat → Nat → Nat} {ad : Nat → Nat} {cA : Nat → ClassId} {pr : Nat → Nat → Bool} {Kz : mm_M} {M0 : mm_M} (hM0 : INV pr Kz M0) (hpr : PX pr) (hq9_1 : ∀ i, s_c i = 9 → pr i 1 = false) (hq9_2 : ∀ i, s_c i = 9 → pr i 2 = false) (a1 : Int) (ha1 : -2147483648 ≤ a1 ∧ a1 ≤ 2147483647) (a2 : Int) (ha2 : -2147483648 ≤ a2 ∧ a2 ≤ 2147483647) (a3 : Int) (ha3 : -2147483648 ≤ a3 ∧ a3 ≤ 2147483647) : Ci l 2 yX11_numbers wsX11_numbers dC dI ad cA [.ref (ad 0), .int (sI a1), .int (sI a2), .int (sI a3)] M0 (fun r M' => ∃ a : Int, r = sI a ∧ INV pr Kz M' ∧ FX [51, 52, 53, 54, 55, 56, 57, 58] M0 M' ∧ (-3) ≤ a ∧ a ≤ 0 ∧ (a = nuF a1 a2 a3) ∧ (a = 0 ∧ b01 (TRN M0 M' a1 a2 a3) = 1 ∨ a < 0 ∧ b01 (TRS M0 M') = 1)) := by
  refine ci_of (cc := cX11_numbers) (maxL := 4) (ty := .int) (lv := [(0, .ref (ad 0)), (1, .int (sI a1)), (2, .int (sI a2)), (3, .int (sI a3))]) (by decide) rfl (fun r M' hp => rfl) (Nat.le_of_ble_eq_true rfl) rfl ?_
  intro p e s m args below meth c A Q C hret
  refine j_iload_n C 1 1 dX11_numbers_0 rfl rfl ?_
  refine j_callSi C (d := 0) (As := [.int (sI a1)]) (st := []) (s1_X11_isTray hM0 a1 (by exact ⟨ha1.1, ha1.2⟩)) gX11_numbers_X11_isTray rfl hdX11_isTrays (by decide) (Nat.le_of_ble_eq_true rfl) dX11_numbers_1 rfl (fun r101 M102 h103 => ?_)
  obtain ⟨a105, rfl, rfl, h104⟩ := h103
  refine y_if_eq C 16 dX11_numbers_4 (by decide) (by omega) (fun h106 => ?_) (fun h106 => ?_)
  · refine y_bipush C dX11_numbers_16 rfl ?_
    have u107n := nuF_s a1 a2 a3
    have u107k := trs_r M0
    exact hret _ _ _ _ dX11_numbers_18 ⟨(-2), rfl, hM0, FX.rf, by exact ⟨(by decide), ⟨(by decide), ⟨(by (clear hret C ha3 ha2 hq9_2 hq9_1 hpr hM0; omega)), (by (clear hret C ha3 ha2 hq9_2 hq9_1 hpr hM0; omega))⟩⟩⟩⟩
  · refine j_iload_n C 2 2 dX11_numbers_7 rfl rfl ?_
    refine y_if_lt C 16 dX11_numbers_8 (by decide) (by exact ⟨ha2.1, ha2.2⟩) (fun h108 => ?_) (fun h108 => ?_)
    · refine y_bipush C dX11_numbers_16 rfl ?_
      have u109n := nuF_s a1 a2 a3
      have u109k := trs_r M0
      exact hret _ _ _ _ dX11_numbers_18 ⟨(-2), rfl, hM0, FX.rf, by exact ⟨(by decide), ⟨(by decide), ⟨(by (clear h106 h104 hret C ha3 ha1 hq9_2 hq9_1 hpr hM0; omega)), (by (clear h106 h104 hret C ha3 ha1 hq9_2 hq9_1 hpr hM0; omega))⟩⟩⟩⟩
    · refine j_iload_n C 2 2 dX11_numbers_11 rfl rfl ?_
      refine y_iconst C dX11_numbers_12 ?_
      refine y_icmp_le C 19 dX11_numbers_13 (by decide) (by exact ⟨⟨ha2.1, ha2.2⟩, ⟨(by decide), (by decide)⟩⟩) (fun h110 => ?_) (fun h110 => ?_)
      · refine j_iload_n C 3 3 dX11_numbers_19 rfl rfl ?_
        refine y_if_lt C 29 dX11_numbers_20 (by decide) (by exact ⟨ha3.1, ha3.2⟩) (fun h111 => ?_) (fun h111 => ?_)
        · refine y_bipush C dX11_numbers_29 rfl ?_
          have u112n := nuF_s a1 a2 a3
          have u112k := trs_r M0
          exact hret _ _ _ _ dX11_numbers_31 ⟨(-3), rfl, hM0, FX.rf, by exact ⟨(by decide), ⟨(by decide), ⟨(by (clear hret C hq9_2 hq9_1 hpr hM0; omega)), (by (clear hret C hq9_2 hq9_1 hpr hM0; omega))⟩⟩⟩⟩
        · refine j_iload_n C 3 3 dX11_numbers_23 rfl rfl ?_
          refine y_bipush C dX11_numbers_24 rfl ?_
          refine y_icmp_le C 32 dX11_numbers_26 (by decide) (by exact ⟨⟨ha3.1, ha3.2⟩, ⟨(by decide), (by decide)⟩⟩) (fun h113 => ?_) (fun h113 => ?_)
          · refine j_aload_n C 0 0 dX11_numbers_32 rfl rfl ?_
            refine y_getC C 10 50 fX11_numbers_52 rfl rfl ft_10_9 sm_10_9 rfl hM0 dX11_numbers_33 ?_
            refine j_iload_n C 1 1 dX11_numbers_36 rfl rfl ?_
            rcases (show a1 = 0 ∨ a1 = 1 ∨ a1 = 2 ∨ a1 = 3 by (clear h113 h111 h110 h108 hret C ha3 ha2 hq9_2 hq9_1 hpr hM0; omega)) with h114 | h114 | h114 | h114
            · rw [h114]
              refine y_aaldK C 28 4 9 51 rfl rfl rfl rfl an_28 rfl sma_28 sta_28 (by decide) hM0 dX11_numbers_37 (by exact ⟨(by decide), (by decide)⟩) rfl ?_
              refine j_iload_n C 2 2 dX11_numbers_38 rfl rfl ?_
              refine j_iload_n C 3 3 dX11_numbers_39 rfl rfl ?_
              refine j_callVv C (d := 1) (As := [.int (sI a2), .int (sI a3)]) (st := []) 51 (s_lt rfl rfl) (s_kc (c := 9) rfl rfl) (by decide) rfl (s2_X10_layOut hM0 hpr hq9_1 hq9_2 a2 (by exact ⟨ha2.1, ha2.2⟩) a3 (by exact ⟨ha3.1, ha3.2⟩) (by exact ⟨(by omega), h110⟩) (by exact ⟨(by omega), h113⟩)) gX11_numbers_X10_layOut rfl hdX10_layOut (by decide) (Nat.le_of_ble_eq_true rfl) dX11_numbers_40 rfl (fun M117 h118 => ?_)
              obtain ⟨hM117, fM117, h119⟩ := h118
              refine y_iconst C dX11_numbers_43 ?_
              have u120n := nuF_s a1 a2 a3
              have u120j : b01 (FIJ M117 (s_p0 (s_p0 50 0) 0) 0 40) = 1 := (show b01 (FIJ M117 52 0 40) = 1 from by exact h119.2)
              have u120k := trn_i (M := M0) (N := M117) (c := 0) (s := a2) (n := a3) ((FX.rf.tr fM117 (by decide)) : FX [51, 52] M0 M117) (by decide) (show (M117.1 51 1).toInt = a2 by exact h119.1.1) (show (M117.1 51 2).toInt = a3 by exact h119.1.2) (b01_e u120j)
              have u120x : b01 (TRN M0 M117 a1 a2 a3) = 1 := by rw [show a1 = ((0 : Nat) : Int) by omega]; exact u120k
              exact hret _ _ _ _ dX11_numbers_44 ⟨0, rfl, hM117, (FX.rf.tr fM117 (by decide)), by exact ⟨(by decide), ⟨(by decide), ⟨(by (clear u120k u120j fM117 hM117 h106 h104 hret C ha1 hq9_2 hq9_1 hpr hM0; omega)), (by (clear u120k u120j fM117 hM117 h106 h104 hret C ha1 hq9_2 hq9_1 hpr hM0; omega))⟩⟩⟩⟩
            · rw [h114]
              refine y_aaldK C 28 4 9 53 rfl rfl rfl rfl an_28 rfl sma_28 sta_28 (by decide) hM0 dX11_numbers_37 (by exact ⟨(by decide), (by decide)⟩) rfl ?_
              refine j_iload_n C 2 2 dX11_numbers_38 rfl rfl ?_
              refine j_iload_n C 3 3 dX11_numbers_39 rfl rfl ?_
              refine j_callVv C (d := 1) (As := [.int (sI a2), .int (sI a3)]) (st := []) 53 (s_lt rfl rfl) (s_kc (c := 9) rfl rfl) (by decide) rfl (s3_X10_layOut hM0 hpr hq9_1 hq9_2 a2 (by exact ⟨ha2.1, ha2.2⟩) a3 (by exact ⟨ha3.1, ha3.2⟩) (by exact ⟨(by omega), h110⟩) (by exact ⟨(by omega), h113⟩)) gX11_numbers_X10_layOut rfl hdX10_layOut (by decide) (Nat.le_of_ble_eq_true rfl) dX11_numbers_40 rfl (fun M123 h124 => ?_)
              obtain ⟨hM123, fM123, h125⟩ := h124
              refine y_iconst C dX11_numbers_43 ?_
              have u126n := nuF_s a1 a2 a3
              have u126j : b01 (FIJ M123 (s_p0 (s_p0 50 1) 0) 0 40) = 1 := (show b01 (FIJ M123 54 0 40) = 1 from by exact h125.2)
              have u126k := trn_i (M := M0) (N := M123) (c := 1) (s := a2) (n := a3) ((FX.rf.tr fM123 (by decide)) : FX [53, 54] M0 M123) (by decide) (show (M123.1 53 1).toInt = a2 by exact h125.1.1) (show (M123.1 53 2).toInt = a3 by exact h125.1.2) (b01_e u126j)
              have u126x : b01 (TRN M0 M123 a1 a2 a3) = 1 := by rw [show a1 = ((1 : Nat) : Int) by omega]; exact u126k
              exact hret _ _ _ _ dX11_numbers_44 ⟨0, rfl, hM123, (FX.rf.tr fM123 (by decide)), by exact ⟨(by decide), ⟨(by decide), ⟨(by (clear u126k u126j fM123 hM123 h106 h104 hret C ha1 hq9_2 hq9_1 hpr hM0; omega)), (by (clear u126k u126j fM123 hM123 h106 h104 hret C ha1 hq9_2 hq9_1 hpr hM0; omega))⟩⟩⟩⟩
            · rw [h114]
              refine y_aaldK C 28 4 9 55 rfl rfl rfl rfl an_28 rfl sma_28 sta_28 (by decide) hM0 dX11_numbers_37 (by exact ⟨(by decide), (by decide)⟩) rfl ?_
              refine j_iload_n C 2 2 dX11_numbers_38 rfl rfl ?_
              refine j_iload_n C 3 3 dX11_numbers_39 rfl rfl ?_
              refine j_callVv C (d := 1) (As := [.int (sI a2), .int (sI a3)]) (st := []) 55 (s_lt rfl rfl) (s_kc (c := 9) rfl rfl) (by decide) rfl (s4_X10_layOut hM0 hpr hq9_1 hq9_2 a2 (by exact ⟨ha2.1, ha2.2⟩) a3 (by exact ⟨ha3.1, ha3.2⟩) (by exact ⟨(by omega), h110⟩) (by exact ⟨(by omega), h113⟩)) gX11_numbers_X10_layOut rfl hdX10_layOut (by decide) (Nat.le_of_ble_eq_true rfl) dX11_numbers_40 rfl (fun M129 h130 => ?_)
              obtain ⟨hM129, fM129, h131⟩ := h130
              refine y_iconst C dX11_numbers_43 ?_
              have u132n := nuF_s a1 a2 a3
              have u132j : b01 (FIJ M129 (s_p0 (s_p0 50 2) 0) 0 40) = 1 := (show b01 (FIJ M129 56 0 40) = 1 from by exact h131.2)
              have u132k := trn_i (M := M0) (N := M129) (c := 2) (s := a2) (n := a3) ((FX.rf.tr fM129 (by decide)) : FX [55, 56] M0 M129) (by decide) (show (M129.1 55 1).toInt = a2 by exact h131.1.1) (show (M129.1 55 2).toInt = a3 by exact h131.1.2) (b01_e u132j)
              have u132x : b01 (TRN M0 M129 a1 a2 a3) = 1 := by rw [show a1 = ((2 : Nat) : Int) by omega]; exact u132k
              exact hret _ _ _ _ dX11_numbers_44 ⟨0, rfl, hM129, (FX.rf.tr fM129 (by decide)), by exact ⟨(by decide), ⟨(by decide), ⟨(by (clear u132k u132j fM129 hM129 h106 h104 hret C ha1 hq9_2 hq9_1 hpr hM0; omega)), (by (clear u132k u132j fM129 hM129 h106 h104 hret C ha1 hq9_2 hq9_1 hpr hM0; omega))⟩⟩⟩⟩
            · rw [h114]
              refine y_aaldK C 28 4 9 57 rfl rfl rfl rfl an_28 rfl sma_28 sta_28 (by decide) hM0 dX11_numbers_37 (by exact ⟨(by decide), (by decide)⟩) rfl ?_
              refine j_iload_n C 2 2 dX11_numbers_38 rfl rfl ?_
              refine j_iload_n C 3 3 dX11_numbers_39 rfl rfl ?_
              refine j_callVv C (d := 1) (As := [.int (sI a2), .int (sI a3)]) (st := []) 57 (s_lt rfl rfl) (s_kc (c := 9) rfl rfl) (by decide) rfl (s5_X10_layOut hM0 hpr hq9_1 hq9_2 a2 (by exact ⟨ha2.1, ha2.2⟩) a3 (by exact ⟨ha3.1, ha3.2⟩) (by exact ⟨(by omega), h110⟩) (by exact ⟨(by omega), h113⟩)) gX11_numbers_X10_layOut rfl hdX10_layOut (by decide) (Nat.le_of_ble_eq_true rfl) dX11_numbers_40 rfl (fun M135 h136 => ?_)
              obtain ⟨hM135, fM135, h137⟩ := h136
              refine y_iconst C dX11_numbers_43 ?_
              have u138n := nuF_s a1 a2 a3
              have u138j : b01 (FIJ M135 (s_p0 (s_p0 50 3) 0) 0 40) = 1 := (show b01 (FIJ M135 58 0 40) = 1 from by exact h137.2)
              have u138k := trn_i (M := M0) (N := M135) (c := 3) (s := a2) (n := a3) ((FX.rf.tr fM135 (by decide)) : FX [57, 58] M0 M135) (by decide) (show (M135.1 57 1).toInt = a2 by exact h137.1.1) (show (M135.1 57 2).toInt = a3 by exact h137.1.2) (b01_e u138j)
              have u138x : b01 (TRN M0 M135 a1 a2 a3) = 1 := by rw [show a1 = ((3 : Nat) : Int) by omega]; exact u138k
              exact hret _ _ _ _ dX11_numbers_44 ⟨0, rfl, hM135, (FX.rf.tr fM135 (by decide)), by exact ⟨(by decide), ⟨(by decide), ⟨(by (clear u138k u138j fM135 hM135 h106 h104 hret C ha1 hq9_2 hq9_1 hpr hM0; omega)), (by (clear u138k u138j fM135 hM135 h106 h104 hret C ha1 hq9_2 hq9_1 hpr hM0; omega))⟩⟩⟩⟩
          · refine y_bipush C dX11_numbers_29 rfl ?_
            have u139n := nuF_s a1 a2 a3
            have u139k := trs_r M0
            exact hret _ _ _ _ dX11_numbers_31 ⟨(-3), rfl, hM0, FX.rf, by exact ⟨(by decide), ⟨(by decide), ⟨(by (clear hret C hq9_2 hq9_1 hpr hM0; omega)), (by (clear hret C hq9_2 hq9_1 hpr hM0; omega))⟩⟩⟩⟩
      · refine y_bipush C dX11_numbers_16 rfl ?_
        have u140n := nuF_s a1 a2 a3
        have u140k := trs_r M0
        exact hret _ _ _ _ dX11_numbers_18 ⟨(-2), rfl, hM0, FX.rf, by exact ⟨(by decide), ⟨(by decide), ⟨(by (clear h106 h104 hret C ha3 ha1 hq9_2 hq9_1 hpr hM0; omega)), (by (clear h106 h104 hret C ha3 ha1 hq9_2 hq9_1 hpr hM0; omega))⟩⟩⟩⟩
set_option maxHeartbeats 4000000 in
theorem s3_X10_has {l : Launch} {dC : Nat → ClassId} {dI : Nat → Nat → Nat} {ad : Nat → Nat} {cA : Nat → ClassId} {pr : Nat → Nat → Bool} {Kz : mm_M} {M0 : mm_M} (hM0 : INV pr Kz M0) (a1 : Int) (ha1 : -2147483648 ≤ a1 ∧ a1 ≤ 2147483647) : Ci l 0 yX10_has wsX10_has dC dI ad cA [.ref (ad 51), .int (sI a1)] M0 (fun r M' => ∃ a : Int, r = sI a ∧ M0 = M' ∧ 0 ≤ a ∧ a ≤ 1 ∧ ((a1 < 0 ∧ a = 0) ∨ ((-1) ≤ (M0.1 51 2).toInt ∧ (M0.1 51 2).toInt ≤ 40 ∧ 0 ≤ a1 ∧ (M0.1 51 2).toInt ≤ a1 ∧ a = 0) ∨ (1 ≤ (M0.1 51 2).toInt ∧ (M0.1 51 2).toInt ≤ 40 ∧ 0 ≤ a1 ∧ a1 < (M0.1 51 2).toInt ∧ a = 1))) := by
  refine ci_of (cc := cX10_has) (maxL := 2) (ty := .boolean) (lv := [(0, .ref (ad 51)), (1, .int (sI a1))]) (by decide) rfl (fun r M' hp => by obtain ⟨a, rfl, -, h⟩ := hp; rcases (show a = 0 ∨ a = 1 by omega) with rfl | rfl <;> rfl) (Nat.le_of_ble_eq_true rfl) rfl ?_
  intro p e s m args below meth c A Q C hret
  refine j_iload_n C 1 1 dX10_has_0 rfl rfl ?_
  refine y_if_lt C 16 dX10_has_1 (by decide) (by exact ⟨ha1.1, ha1.2⟩) (fun h101 => ?_) (fun h101 => ?_)
  · refine y_iconst C dX10_has_16 ?_
    exact hret _ _ _ _ dX10_has_17 ⟨0, rfl, rfl, by exact ⟨(by decide), ⟨(by decide), (by omega)⟩⟩⟩
  · refine j_iload_n C 1 1 dX10_has_4 rfl rfl ?_
    refine j_aload_n C 0 0 dX10_has_5 rfl rfl ?_
    refine y_getI C 9 _ _ fX10_has_19 rfl rfl ft_9_2 sb_9_2 hM0 dX10_has_6 (fun a102 ea102 la102 ua102 => ?_)
    obtain rfl : a102 = (M0.1 51 2).toInt := ea102
    refine y_icmp_ge C 16 dX10_has_9 (by decide) (by exact ⟨⟨ha1.1, ha1.2⟩, ⟨(by omega), (by omega)⟩⟩) (fun h104 => ?_) (fun h104 => ?_)
    · refine y_iconst C dX10_has_16 ?_
      exact hret _ _ _ _ dX10_has_17 ⟨0, rfl, rfl, by exact ⟨(by decide), ⟨(by decide), (by omega)⟩⟩⟩
    · refine y_iconst C dX10_has_12 ?_
      refine j_goto C 17 dX10_has_13 (by decide) ?_
      exact hret _ _ _ _ dX10_has_17 ⟨1, rfl, rfl, by exact ⟨(by decide), ⟨(by decide), (by omega)⟩⟩⟩
set_option maxHeartbeats 4000000 in
theorem s3_X10_put {l : Launch} {dC : Nat → ClassId} {dI : Nat → Nat → Nat} {ad : Nat → Nat} {cA : Nat → ClassId} {pr : Nat → Nat → Bool} {Kz : mm_M} {M0 : mm_M} (hM0 : INV pr Kz M0) (hpr : PX pr) (a1 : Int) (ha1 : -2147483648 ≤ a1 ∧ a1 ≤ 2147483647) (a2 : Int) (ha2 : -9223372036854775808 ≤ a2 ∧ a2 ≤ 9223372036854775807) : Cv l 1 yX10_put wsX10_put dC dI ad cA [.ref (ad 51), .int (sI a1), .long (sJ a2)] M0 (fun M' => INV pr Kz M' ∧ FX [52] M0 M' ∧ (0 ≤ a1 ∧ a1 < (M0.1 51 2).toInt ∧ b01 (M'.2.1 52 = uJ (M0.2.1 52) (a1).toNat (ctF a2 (M0.1 51 1).toInt)) = 1 ∨ (a1 < 0 ∨ (M0.1 51 2).toInt ≤ a1) ∧ b01 (M'.2.1 52 = M0.2.1 52) = 1)) := by
  refine cv_of (cc := cX10_put) (maxL := 4) (lv := [(0, .ref (ad 51)), (1, .int (sI a1)), (2, .long (sJ a2))]) (by decide) rfl (Nat.le_of_ble_eq_true rfl) rfl ?_
  intro p e s m args below meth c A Q C hret
  refine j_aload_n C 0 0 dX10_put_0 rfl rfl ?_
  refine j_iload_n C 1 1 dX10_put_1 rfl rfl ?_
  refine j_callVi C (d := 0) (As := [.int (sI a1)]) (st := []) 51 (s_lt rfl rfl) (s_kc (c := 9) rfl rfl) (by decide) rfl (s3_X10_has hM0 a1 (by exact ⟨ha1.1, ha1.2⟩)) gX10_put_X10_has rfl hdX10_has (by decide) (Nat.le_of_ble_eq_true rfl) dX10_put_2 rfl (fun r101 M102 h103 => ?_)
  obtain ⟨a105, rfl, rfl, h104⟩ := h103
  refine y_if_eq C 19 dX10_put_5 (by decide) (by omega) (fun h106 => ?_) (fun h106 => ?_)
  · have u107k : b01 (M0.2.1 52 = M0.2.1 52) = 1 := b01_i rfl
    exact hret _ _ _ dX10_put_19 ⟨hM0, FX.rf, by (clear hret C ha2 hpr hM0; omega)⟩
  · refine j_aload_n C 0 0 dX10_put_8 rfl rfl ?_
    refine y_getC C 9 52 fX10_put_9 rfl rfl ft_9_0 sm_9_0 rfl hM0 dX10_put_9 ?_
    refine j_iload_n C 1 1 dX10_put_12 rfl rfl ?_
    refine j_aload_n C 0 0 dX10_put_13 rfl rfl ?_
    refine j_lload_n C 2 2 dX10_put_14 rfl rfl ?_
    refine j_callVj C (d := 0) (As := [.long (sJ a2)]) (st := [.int (sI a1), .ref (ad 52)]) 51 (s_lt rfl rfl) (s_kc (c := 9) rfl rfl) (by decide) rfl (s1_X10_cut hM0 rfl a2 (by exact ⟨ha2.1, ha2.2⟩)) gX10_put_X10_cut rfl hdX10_cut (by decide) (Nat.le_of_ble_eq_true rfl) dX10_put_15 rfl (fun r108 M109 h110 => ?_)
    obtain ⟨a112, rfl, rfl, h111⟩ := h110
    refine y_last C 29 40 rfl rfl rfl ak_29 an_29 rfl hM0 (PX.w hpr rfl rfl) dX10_put_18 (by (clear h111 hret C ha2 hpr hM0; omega)) (fun M113 eM113 hM113 => ?_)
    have u114k : b01 (M113.2.1 52 = uJ (M0.2.1 52) (a1).toNat (ctF a2 (M0.1 51 1).toInt)) = 1 := b01_i ((uJ_w eM113).trans (congrArg (uJ (M0.2.1 52) _) (by exact h111.2.2)))
    exact hret _ _ _ dX10_put_19 ⟨hM113, (FX.rf.wJ eM113 (by decide)), by (clear hM113 eM113 h111 hret C ha2 hpr hM0; omega)⟩
set_option maxHeartbeats 4000000 in
theorem s4_X10_numberAt {l : Launch} {dC : Nat → ClassId} {dI : Nat → Nat → Nat} {ad : Nat → Nat} {cA : Nat → ClassId} {pr : Nat → Nat → Bool} {Kz : mm_M} {M0 : mm_M} (hM0 : INV pr Kz M0) (a1 : Int) (ha1 : -2147483648 ≤ a1 ∧ a1 ≤ 2147483647) : Cj l 1 yX10_numberAt wsX10_numberAt dC dI ad cA [.ref (ad 51), .int (sI a1)] M0 (fun r M' => ∃ a : Int, r = sJ a ∧ M0 = M' ∧ (-9223372036854775808) ≤ a ∧ a ≤ 9223372036854775807 ∧ (0 ≤ a1 ∧ a1 < (M0.1 51 2).toInt ∧ a = (M0.2.1 52 (a1).toNat).toInt ∨ (a1 < 0 ∨ (M0.1 51 2).toInt ≤ a1) ∧ a = 0)) := by
  refine cj_of (cc := cX10_numberAt) (maxL := 2) (lv := [(0, .ref (ad 51)), (1, .int (sI a1))]) (by decide) rfl (Nat.le_of_ble_eq_true rfl) rfl ?_
  intro p e s m args below meth c A Q C hret
  refine j_aload_n C 0 0 dX10_numberAt_0 rfl rfl ?_
  refine j_iload_n C 1 1 dX10_numberAt_1 rfl rfl ?_
  refine j_callVi C (d := 0) (As := [.int (sI a1)]) (st := []) 51 (s_lt rfl rfl) (s_kc (c := 9) rfl rfl) (by decide) rfl (s3_X10_has hM0 a1 (by exact ⟨ha1.1, ha1.2⟩)) gX10_numberAt_X10_has rfl hdX10_has (by decide) (Nat.le_of_ble_eq_true rfl) dX10_numberAt_2 rfl (fun r101 M102 h103 => ?_)
  obtain ⟨a105, rfl, rfl, h104⟩ := h103
  refine y_if_eq C 17 dX10_numberAt_5 (by decide) (by omega) (fun h106 => ?_) (fun h106 => ?_)
  · refine y_lconst C 0 dX10_numberAt_17 rfl ?_
    exact hret _ _ _ _ dX10_numberAt_18 ⟨0, rfl, rfl, by exact ⟨(by decide), ⟨(by decide), (by omega)⟩⟩⟩
  · refine j_aload_n C 0 0 dX10_numberAt_8 rfl rfl ?_
    refine y_getC C 9 52 fX10_numberAt_9 rfl rfl ft_9_0 sm_9_0 rfl hM0 dX10_numberAt_9 ?_
    refine j_iload_n C 1 1 dX10_numberAt_12 rfl rfl ?_
    refine y_lald C 29 40 rfl rfl rfl ak_29 an_29 rfl dX10_numberAt_13 (by omega) (fun a107 ea107 la107 ua107 => ?_)
    obtain rfl : a107 = (M0.2.1 52 (a1).toNat).toInt := ea107
    refine j_goto C 18 dX10_numberAt_14 (by decide) ?_
    exact hret _ _ _ _ dX10_numberAt_18 ⟨(M0.2.1 52 (a1).toNat).toInt, rfl, rfl, by exact ⟨la107, ⟨ua107, (by omega)⟩⟩⟩
set_option maxHeartbeats 4000000 in
theorem s4_X10_has {l : Launch} {dC : Nat → ClassId} {dI : Nat → Nat → Nat} {ad : Nat → Nat} {cA : Nat → ClassId} {pr : Nat → Nat → Bool} {Kz : mm_M} {M0 : mm_M} (hM0 : INV pr Kz M0) (a1 : Int) (ha1 : -2147483648 ≤ a1 ∧ a1 ≤ 2147483647) : Ci l 0 yX10_has wsX10_has dC dI ad cA [.ref (ad 53), .int (sI a1)] M0 (fun r M' => ∃ a : Int, r = sI a ∧ M0 = M' ∧ 0 ≤ a ∧ a ≤ 1 ∧ ((a1 < 0 ∧ a = 0) ∨ ((-1) ≤ (M0.1 53 2).toInt ∧ (M0.1 53 2).toInt ≤ 40 ∧ 0 ≤ a1 ∧ (M0.1 53 2).toInt ≤ a1 ∧ a = 0) ∨ (1 ≤ (M0.1 53 2).toInt ∧ (M0.1 53 2).toInt ≤ 40 ∧ 0 ≤ a1 ∧ a1 < (M0.1 53 2).toInt ∧ a = 1))) := by
  refine ci_of (cc := cX10_has) (maxL := 2) (ty := .boolean) (lv := [(0, .ref (ad 53)), (1, .int (sI a1))]) (by decide) rfl (fun r M' hp => by obtain ⟨a, rfl, -, h⟩ := hp; rcases (show a = 0 ∨ a = 1 by omega) with rfl | rfl <;> rfl) (Nat.le_of_ble_eq_true rfl) rfl ?_
  intro p e s m args below meth c A Q C hret
  refine j_iload_n C 1 1 dX10_has_0 rfl rfl ?_
  refine y_if_lt C 16 dX10_has_1 (by decide) (by exact ⟨ha1.1, ha1.2⟩) (fun h101 => ?_) (fun h101 => ?_)
  · refine y_iconst C dX10_has_16 ?_
    exact hret _ _ _ _ dX10_has_17 ⟨0, rfl, rfl, by exact ⟨(by decide), ⟨(by decide), (by omega)⟩⟩⟩
  · refine j_iload_n C 1 1 dX10_has_4 rfl rfl ?_
    refine j_aload_n C 0 0 dX10_has_5 rfl rfl ?_
    refine y_getI C 9 _ _ fX10_has_19 rfl rfl ft_9_2 sb_9_2 hM0 dX10_has_6 (fun a102 ea102 la102 ua102 => ?_)
    obtain rfl : a102 = (M0.1 53 2).toInt := ea102
    refine y_icmp_ge C 16 dX10_has_9 (by decide) (by exact ⟨⟨ha1.1, ha1.2⟩, ⟨(by omega), (by omega)⟩⟩) (fun h104 => ?_) (fun h104 => ?_)
    · refine y_iconst C dX10_has_16 ?_
      exact hret _ _ _ _ dX10_has_17 ⟨0, rfl, rfl, by exact ⟨(by decide), ⟨(by decide), (by omega)⟩⟩⟩
    · refine y_iconst C dX10_has_12 ?_
      refine j_goto C 17 dX10_has_13 (by decide) ?_
      exact hret _ _ _ _ dX10_has_17 ⟨1, rfl, rfl, by exact ⟨(by decide), ⟨(by decide), (by omega)⟩⟩⟩
set_option maxHeartbeats 4000000 in
theorem s4_X10_put {l : Launch} {dC : Nat → ClassId} {dI : Nat → Nat → Nat} {ad : Nat → Nat} {cA : Nat → ClassId} {pr : Nat → Nat → Bool} {Kz : mm_M} {M0 : mm_M} (hM0 : INV pr Kz M0) (hpr : PX pr) (a1 : Int) (ha1 : -2147483648 ≤ a1 ∧ a1 ≤ 2147483647) (a2 : Int) (ha2 : -9223372036854775808 ≤ a2 ∧ a2 ≤ 9223372036854775807) : Cv l 1 yX10_put wsX10_put dC dI ad cA [.ref (ad 53), .int (sI a1), .long (sJ a2)] M0 (fun M' => INV pr Kz M' ∧ FX [54] M0 M' ∧ (0 ≤ a1 ∧ a1 < (M0.1 53 2).toInt ∧ b01 (M'.2.1 54 = uJ (M0.2.1 54) (a1).toNat (ctF a2 (M0.1 53 1).toInt)) = 1 ∨ (a1 < 0 ∨ (M0.1 53 2).toInt ≤ a1) ∧ b01 (M'.2.1 54 = M0.2.1 54) = 1)) := by
  refine cv_of (cc := cX10_put) (maxL := 4) (lv := [(0, .ref (ad 53)), (1, .int (sI a1)), (2, .long (sJ a2))]) (by decide) rfl (Nat.le_of_ble_eq_true rfl) rfl ?_
  intro p e s m args below meth c A Q C hret
  refine j_aload_n C 0 0 dX10_put_0 rfl rfl ?_
  refine j_iload_n C 1 1 dX10_put_1 rfl rfl ?_
  refine j_callVi C (d := 0) (As := [.int (sI a1)]) (st := []) 53 (s_lt rfl rfl) (s_kc (c := 9) rfl rfl) (by decide) rfl (s4_X10_has hM0 a1 (by exact ⟨ha1.1, ha1.2⟩)) gX10_put_X10_has rfl hdX10_has (by decide) (Nat.le_of_ble_eq_true rfl) dX10_put_2 rfl (fun r101 M102 h103 => ?_)
  obtain ⟨a105, rfl, rfl, h104⟩ := h103
  refine y_if_eq C 19 dX10_put_5 (by decide) (by omega) (fun h106 => ?_) (fun h106 => ?_)
  · have u107k : b01 (M0.2.1 54 = M0.2.1 54) = 1 := b01_i rfl
    exact hret _ _ _ dX10_put_19 ⟨hM0, FX.rf, by (clear hret C ha2 hpr hM0; omega)⟩
  · refine j_aload_n C 0 0 dX10_put_8 rfl rfl ?_
    refine y_getC C 9 54 fX10_put_9 rfl rfl ft_9_0 sm_9_0 rfl hM0 dX10_put_9 ?_
    refine j_iload_n C 1 1 dX10_put_12 rfl rfl ?_
    refine j_aload_n C 0 0 dX10_put_13 rfl rfl ?_
    refine j_lload_n C 2 2 dX10_put_14 rfl rfl ?_
    refine j_callVj C (d := 0) (As := [.long (sJ a2)]) (st := [.int (sI a1), .ref (ad 54)]) 53 (s_lt rfl rfl) (s_kc (c := 9) rfl rfl) (by decide) rfl (s1_X10_cut hM0 rfl a2 (by exact ⟨ha2.1, ha2.2⟩)) gX10_put_X10_cut rfl hdX10_cut (by decide) (Nat.le_of_ble_eq_true rfl) dX10_put_15 rfl (fun r108 M109 h110 => ?_)
    obtain ⟨a112, rfl, rfl, h111⟩ := h110
    refine y_last C 29 40 rfl rfl rfl ak_29 an_29 rfl hM0 (PX.w hpr rfl rfl) dX10_put_18 (by (clear h111 hret C ha2 hpr hM0; omega)) (fun M113 eM113 hM113 => ?_)
    have u114k : b01 (M113.2.1 54 = uJ (M0.2.1 54) (a1).toNat (ctF a2 (M0.1 53 1).toInt)) = 1 := b01_i ((uJ_w eM113).trans (congrArg (uJ (M0.2.1 54) _) (by exact h111.2.2)))
    exact hret _ _ _ dX10_put_19 ⟨hM113, (FX.rf.wJ eM113 (by decide)), by (clear hM113 eM113 h111 hret C ha2 hpr hM0; omega)⟩
set_option maxHeartbeats 4000000 in
theorem s5_X10_numberAt {l : Launch} {dC : Nat → ClassId} {dI : Nat → Nat → Nat} {ad : Nat → Nat} {cA : Nat → ClassId} {pr : Nat → Nat → Bool} {Kz : mm_M} {M0 : mm_M} (hM0 : INV pr Kz M0) (a1 : Int) (ha1 : -2147483648 ≤ a1 ∧ a1 ≤ 2147483647) : Cj l 1 yX10_numberAt wsX10_numberAt dC dI ad cA [.ref (ad 53), .int (sI a1)] M0 (fun r M' => ∃ a : Int, r = sJ a ∧ M0 = M' ∧ (-9223372036854775808) ≤ a ∧ a ≤ 9223372036854775807 ∧ (0 ≤ a1 ∧ a1 < (M0.1 53 2).toInt ∧ a = (M0.2.1 54 (a1).toNat).toInt ∨ (a1 < 0 ∨ (M0.1 53 2).toInt ≤ a1) ∧ a = 0)) := by
  refine cj_of (cc := cX10_numberAt) (maxL := 2) (lv := [(0, .ref (ad 53)), (1, .int (sI a1))]) (by decide) rfl (Nat.le_of_ble_eq_true rfl) rfl ?_
  intro p e s m args below meth c A Q C hret
  refine j_aload_n C 0 0 dX10_numberAt_0 rfl rfl ?_
  refine j_iload_n C 1 1 dX10_numberAt_1 rfl rfl ?_
  refine j_callVi C (d := 0) (As := [.int (sI a1)]) (st := []) 53 (s_lt rfl rfl) (s_kc (c := 9) rfl rfl) (by decide) rfl (s4_X10_has hM0 a1 (by exact ⟨ha1.1, ha1.2⟩)) gX10_numberAt_X10_has rfl hdX10_has (by decide) (Nat.le_of_ble_eq_true rfl) dX10_numberAt_2 rfl (fun r101 M102 h103 => ?_)
  obtain ⟨a105, rfl, rfl, h104⟩ := h103
  refine y_if_eq C 17 dX10_numberAt_5 (by decide) (by omega) (fun h106 => ?_) (fun h106 => ?_)
  · refine y_lconst C 0 dX10_numberAt_17 rfl ?_
    exact hret _ _ _ _ dX10_numberAt_18 ⟨0, rfl, rfl, by exact ⟨(by decide), ⟨(by decide), (by omega)⟩⟩⟩
  · refine j_aload_n C 0 0 dX10_numberAt_8 rfl rfl ?_
    refine y_getC C 9 54 fX10_numberAt_9 rfl rfl ft_9_0 sm_9_0 rfl hM0 dX10_numberAt_9 ?_
    refine j_iload_n C 1 1 dX10_numberAt_12 rfl rfl ?_
    refine y_lald C 29 40 rfl rfl rfl ak_29 an_29 rfl dX10_numberAt_13 (by omega) (fun a107 ea107 la107 ua107 => ?_)
    obtain rfl : a107 = (M0.2.1 54 (a1).toNat).toInt := ea107
    refine j_goto C 18 dX10_numberAt_14 (by decide) ?_
    exact hret _ _ _ _ dX10_numberAt_18 ⟨(M0.2.1 54 (a1).toNat).toInt, rfl, rfl, by exact ⟨la107, ⟨ua107, (by omega)⟩⟩⟩
set_option maxHeartbeats 4000000 in
theorem s5_X10_has {l : Launch} {dC : Nat → ClassId} {dI : Nat → Nat → Nat} {ad : Nat → Nat} {cA : Nat → ClassId} {pr : Nat → Nat → Bool} {Kz : mm_M} {M0 : mm_M} (hM0 : INV pr Kz M0) (a1 : Int) (ha1 : -2147483648 ≤ a1 ∧ a1 ≤ 2147483647) : Ci l 0 yX10_has wsX10_has dC dI ad cA [.ref (ad 55), .int (sI a1)] M0 (fun r M' => ∃ a : Int, r = sI a ∧ M0 = M' ∧ 0 ≤ a ∧ a ≤ 1 ∧ ((a1 < 0 ∧ a = 0) ∨ ((-1) ≤ (M0.1 55 2).toInt ∧ (M0.1 55 2).toInt ≤ 40 ∧ 0 ≤ a1 ∧ (M0.1 55 2).toInt ≤ a1 ∧ a = 0) ∨ (1 ≤ (M0.1 55 2).toInt ∧ (M0.1 55 2).toInt ≤ 40 ∧ 0 ≤ a1 ∧ a1 < (M0.1 55 2).toInt ∧ a = 1))) := by
  refine ci_of (cc := cX10_has) (maxL := 2) (ty := .boolean) (lv := [(0, .ref (ad 55)), (1, .int (sI a1))]) (by decide) rfl (fun r M' hp => by obtain ⟨a, rfl, -, h⟩ := hp; rcases (show a = 0 ∨ a = 1 by omega) with rfl | rfl <;> rfl) (Nat.le_of_ble_eq_true rfl) rfl ?_
  intro p e s m args below meth c A Q C hret
  refine j_iload_n C 1 1 dX10_has_0 rfl rfl ?_
  refine y_if_lt C 16 dX10_has_1 (by decide) (by exact ⟨ha1.1, ha1.2⟩) (fun h101 => ?_) (fun h101 => ?_)
  · refine y_iconst C dX10_has_16 ?_
    exact hret _ _ _ _ dX10_has_17 ⟨0, rfl, rfl, by exact ⟨(by decide), ⟨(by decide), (by omega)⟩⟩⟩
  · refine j_iload_n C 1 1 dX10_has_4 rfl rfl ?_
    refine j_aload_n C 0 0 dX10_has_5 rfl rfl ?_
    refine y_getI C 9 _ _ fX10_has_19 rfl rfl ft_9_2 sb_9_2 hM0 dX10_has_6 (fun a102 ea102 la102 ua102 => ?_)
    obtain rfl : a102 = (M0.1 55 2).toInt := ea102
    refine y_icmp_ge C 16 dX10_has_9 (by decide) (by exact ⟨⟨ha1.1, ha1.2⟩, ⟨(by omega), (by omega)⟩⟩) (fun h104 => ?_) (fun h104 => ?_)
    · refine y_iconst C dX10_has_16 ?_
      exact hret _ _ _ _ dX10_has_17 ⟨0, rfl, rfl, by exact ⟨(by decide), ⟨(by decide), (by omega)⟩⟩⟩
    · refine y_iconst C dX10_has_12 ?_
      refine j_goto C 17 dX10_has_13 (by decide) ?_
      exact hret _ _ _ _ dX10_has_17 ⟨1, rfl, rfl, by exact ⟨(by decide), ⟨(by decide), (by omega)⟩⟩⟩
set_option maxHeartbeats 4000000 in
theorem s5_X10_put {l : Launch} {dC : Nat → ClassId} {dI : Nat → Nat → Nat} {ad : Nat → Nat} {cA : Nat → ClassId} {pr : Nat → Nat → Bool} {Kz : mm_M} {M0 : mm_M} (hM0 : INV pr Kz M0) (hpr : PX pr) (a1 : Int) (ha1 : -2147483648 ≤ a1 ∧ a1 ≤ 2147483647) (a2 : Int) (ha2 : -9223372036854775808 ≤ a2 ∧ a2 ≤ 9223372036854775807) : Cv l 1 yX10_put wsX10_put dC dI ad cA [.ref (ad 55), .int (sI a1), .long (sJ a2)] M0 (fun M' => INV pr Kz M' ∧ FX [56] M0 M' ∧ (0 ≤ a1 ∧ a1 < (M0.1 55 2).toInt ∧ b01 (M'.2.1 56 = uJ (M0.2.1 56) (a1).toNat (ctF a2 (M0.1 55 1).toInt)) = 1 ∨ (a1 < 0 ∨ (M0.1 55 2).toInt ≤ a1) ∧ b01 (M'.2.1 56 = M0.2.1 56) = 1)) := by
  refine cv_of (cc := cX10_put) (maxL := 4) (lv := [(0, .ref (ad 55)), (1, .int (sI a1)), (2, .long (sJ a2))]) (by decide) rfl (Nat.le_of_ble_eq_true rfl) rfl ?_
  intro p e s m args below meth c A Q C hret
  refine j_aload_n C 0 0 dX10_put_0 rfl rfl ?_
  refine j_iload_n C 1 1 dX10_put_1 rfl rfl ?_
  refine j_callVi C (d := 0) (As := [.int (sI a1)]) (st := []) 55 (s_lt rfl rfl) (s_kc (c := 9) rfl rfl) (by decide) rfl (s5_X10_has hM0 a1 (by exact ⟨ha1.1, ha1.2⟩)) gX10_put_X10_has rfl hdX10_has (by decide) (Nat.le_of_ble_eq_true rfl) dX10_put_2 rfl (fun r101 M102 h103 => ?_)
  obtain ⟨a105, rfl, rfl, h104⟩ := h103
  refine y_if_eq C 19 dX10_put_5 (by decide) (by omega) (fun h106 => ?_) (fun h106 => ?_)
  · have u107k : b01 (M0.2.1 56 = M0.2.1 56) = 1 := b01_i rfl
    exact hret _ _ _ dX10_put_19 ⟨hM0, FX.rf, by (clear hret C ha2 hpr hM0; omega)⟩
  · refine j_aload_n C 0 0 dX10_put_8 rfl rfl ?_
    refine y_getC C 9 56 fX10_put_9 rfl rfl ft_9_0 sm_9_0 rfl hM0 dX10_put_9 ?_
    refine j_iload_n C 1 1 dX10_put_12 rfl rfl ?_
    refine j_aload_n C 0 0 dX10_put_13 rfl rfl ?_
    refine j_lload_n C 2 2 dX10_put_14 rfl rfl ?_
    refine j_callVj C (d := 0) (As := [.long (sJ a2)]) (st := [.int (sI a1), .ref (ad 56)]) 55 (s_lt rfl rfl) (s_kc (c := 9) rfl rfl) (by decide) rfl (s1_X10_cut hM0 rfl a2 (by exact ⟨ha2.1, ha2.2⟩)) gX10_put_X10_cut rfl hdX10_cut (by decide) (Nat.le_of_ble_eq_true rfl) dX10_put_15 rfl (fun r108 M109 h110 => ?_)
    obtain ⟨a112, rfl, rfl, h111⟩ := h110
    refine y_last C 29 40 rfl rfl rfl ak_29 an_29 rfl hM0 (PX.w hpr rfl rfl) dX10_put_18 (by (clear h111 hret C ha2 hpr hM0; omega)) (fun M113 eM113 hM113 => ?_)
    have u114k : b01 (M113.2.1 56 = uJ (M0.2.1 56) (a1).toNat (ctF a2 (M0.1 55 1).toInt)) = 1 := b01_i ((uJ_w eM113).trans (congrArg (uJ (M0.2.1 56) _) (by exact h111.2.2)))
    exact hret _ _ _ dX10_put_19 ⟨hM113, (FX.rf.wJ eM113 (by decide)), by (clear hM113 eM113 h111 hret C ha2 hpr hM0; omega)⟩
set_option maxHeartbeats 4000000 in
theorem s6_X10_numberAt {l : Launch} {dC : Nat → ClassId} {dI : Nat → Nat → Nat} {ad : Nat → Nat} {cA : Nat → ClassId} {pr : Nat → Nat → Bool} {Kz : mm_M} {M0 : mm_M} (hM0 : INV pr Kz M0) (a1 : Int) (ha1 : -2147483648 ≤ a1 ∧ a1 ≤ 2147483647) : Cj l 1 yX10_numberAt wsX10_numberAt dC dI ad cA [.ref (ad 55), .int (sI a1)] M0 (fun r M' => ∃ a : Int, r = sJ a ∧ M0 = M' ∧ (-9223372036854775808) ≤ a ∧ a ≤ 9223372036854775807 ∧ (0 ≤ a1 ∧ a1 < (M0.1 55 2).toInt ∧ a = (M0.2.1 56 (a1).toNat).toInt ∨ (a1 < 0 ∨ (M0.1 55 2).toInt ≤ a1) ∧ a = 0)) := by
  refine cj_of (cc := cX10_numberAt) (maxL := 2) (lv := [(0, .ref (ad 55)), (1, .int (sI a1))]) (by decide) rfl (Nat.le_of_ble_eq_true rfl) rfl ?_
  intro p e s m args below meth c A Q C hret
  refine j_aload_n C 0 0 dX10_numberAt_0 rfl rfl ?_
  refine j_iload_n C 1 1 dX10_numberAt_1 rfl rfl ?_
  refine j_callVi C (d := 0) (As := [.int (sI a1)]) (st := []) 55 (s_lt rfl rfl) (s_kc (c := 9) rfl rfl) (by decide) rfl (s5_X10_has hM0 a1 (by exact ⟨ha1.1, ha1.2⟩)) gX10_numberAt_X10_has rfl hdX10_has (by decide) (Nat.le_of_ble_eq_true rfl) dX10_numberAt_2 rfl (fun r101 M102 h103 => ?_)
  obtain ⟨a105, rfl, rfl, h104⟩ := h103
  refine y_if_eq C 17 dX10_numberAt_5 (by decide) (by omega) (fun h106 => ?_) (fun h106 => ?_)
  · refine y_lconst C 0 dX10_numberAt_17 rfl ?_
    exact hret _ _ _ _ dX10_numberAt_18 ⟨0, rfl, rfl, by exact ⟨(by decide), ⟨(by decide), (by omega)⟩⟩⟩
  · refine j_aload_n C 0 0 dX10_numberAt_8 rfl rfl ?_
    refine y_getC C 9 56 fX10_numberAt_9 rfl rfl ft_9_0 sm_9_0 rfl hM0 dX10_numberAt_9 ?_
    refine j_iload_n C 1 1 dX10_numberAt_12 rfl rfl ?_
    refine y_lald C 29 40 rfl rfl rfl ak_29 an_29 rfl dX10_numberAt_13 (by omega) (fun a107 ea107 la107 ua107 => ?_)
    obtain rfl : a107 = (M0.2.1 56 (a1).toNat).toInt := ea107
    refine j_goto C 18 dX10_numberAt_14 (by decide) ?_
    exact hret _ _ _ _ dX10_numberAt_18 ⟨(M0.2.1 56 (a1).toNat).toInt, rfl, rfl, by exact ⟨la107, ⟨ua107, (by omega)⟩⟩⟩
set_option maxHeartbeats 4000000 in
theorem s6_X10_has {l : Launch} {dC : Nat → ClassId} {dI : Nat → Nat → Nat} {ad : Nat → Nat} {cA : Nat → ClassId} {pr : Nat → Nat → Bool} {Kz : mm_M} {M0 : mm_M} (hM0 : INV pr Kz M0) (a1 : Int) (ha1 : -2147483648 ≤ a1 ∧ a1 ≤ 2147483647) : Ci l 0 yX10_has wsX10_has dC dI ad cA [.ref (ad 57), .int (sI a1)] M0 (fun r M' => ∃ a : Int, r = sI a ∧ M0 = M' ∧ 0 ≤ a ∧ a ≤ 1 ∧ ((a1 < 0 ∧ a = 0) ∨ ((-1) ≤ (M0.1 57 2).toInt ∧ (M0.1 57 2).toInt ≤ 40 ∧ 0 ≤ a1 ∧ (M0.1 57 2).toInt ≤ a1 ∧ a = 0) ∨ (1 ≤ (M0.1 57 2).toInt ∧ (M0.1 57 2).toInt ≤ 40 ∧ 0 ≤ a1 ∧ a1 < (M0.1 57 2).toInt ∧ a = 1))) := by
  refine ci_of (cc := cX10_has) (maxL := 2) (ty := .boolean) (lv := [(0, .ref (ad 57)), (1, .int (sI a1))]) (by decide) rfl (fun r M' hp => by obtain ⟨a, rfl, -, h⟩ := hp; rcases (show a = 0 ∨ a = 1 by omega) with rfl | rfl <;> rfl) (Nat.le_of_ble_eq_true rfl) rfl ?_
  intro p e s m args below meth c A Q C hret
  refine j_iload_n C 1 1 dX10_has_0 rfl rfl ?_
  refine y_if_lt C 16 dX10_has_1 (by decide) (by exact ⟨ha1.1, ha1.2⟩) (fun h101 => ?_) (fun h101 => ?_)
  · refine y_iconst C dX10_has_16 ?_
    exact hret _ _ _ _ dX10_has_17 ⟨0, rfl, rfl, by exact ⟨(by decide), ⟨(by decide), (by omega)⟩⟩⟩
  · refine j_iload_n C 1 1 dX10_has_4 rfl rfl ?_
    refine j_aload_n C 0 0 dX10_has_5 rfl rfl ?_
    refine y_getI C 9 _ _ fX10_has_19 rfl rfl ft_9_2 sb_9_2 hM0 dX10_has_6 (fun a102 ea102 la102 ua102 => ?_)
    obtain rfl : a102 = (M0.1 57 2).toInt := ea102
    refine y_icmp_ge C 16 dX10_has_9 (by decide) (by exact ⟨⟨ha1.1, ha1.2⟩, ⟨(by omega), (by omega)⟩⟩) (fun h104 => ?_) (fun h104 => ?_)
    · refine y_iconst C dX10_has_16 ?_
      exact hret _ _ _ _ dX10_has_17 ⟨0, rfl, rfl, by exact ⟨(by decide), ⟨(by decide), (by omega)⟩⟩⟩
    · refine y_iconst C dX10_has_12 ?_
      refine j_goto C 17 dX10_has_13 (by decide) ?_
      exact hret _ _ _ _ dX10_has_17 ⟨1, rfl, rfl, by exact ⟨(by decide), ⟨(by decide), (by omega)⟩⟩⟩
set_option maxHeartbeats 4000000 in
theorem s6_X10_put {l : Launch} {dC : Nat → ClassId} {dI : Nat → Nat → Nat} {ad : Nat → Nat} {cA : Nat → ClassId} {pr : Nat → Nat → Bool} {Kz : mm_M} {M0 : mm_M} (hM0 : INV pr Kz M0) (hpr : PX pr) (a1 : Int) (ha1 : -2147483648 ≤ a1 ∧ a1 ≤ 2147483647) (a2 : Int) (ha2 : -9223372036854775808 ≤ a2 ∧ a2 ≤ 9223372036854775807) : Cv l 1 yX10_put wsX10_put dC dI ad cA [.ref (ad 57), .int (sI a1), .long (sJ a2)] M0 (fun M' => INV pr Kz M' ∧ FX [58] M0 M' ∧ (0 ≤ a1 ∧ a1 < (M0.1 57 2).toInt ∧ b01 (M'.2.1 58 = uJ (M0.2.1 58) (a1).toNat (ctF a2 (M0.1 57 1).toInt)) = 1 ∨ (a1 < 0 ∨ (M0.1 57 2).toInt ≤ a1) ∧ b01 (M'.2.1 58 = M0.2.1 58) = 1)) := by
  refine cv_of (cc := cX10_put) (maxL := 4) (lv := [(0, .ref (ad 57)), (1, .int (sI a1)), (2, .long (sJ a2))]) (by decide) rfl (Nat.le_of_ble_eq_true rfl) rfl ?_
  intro p e s m args below meth c A Q C hret
  refine j_aload_n C 0 0 dX10_put_0 rfl rfl ?_
  refine j_iload_n C 1 1 dX10_put_1 rfl rfl ?_
  refine j_callVi C (d := 0) (As := [.int (sI a1)]) (st := []) 57 (s_lt rfl rfl) (s_kc (c := 9) rfl rfl) (by decide) rfl (s6_X10_has hM0 a1 (by exact ⟨ha1.1, ha1.2⟩)) gX10_put_X10_has rfl hdX10_has (by decide) (Nat.le_of_ble_eq_true rfl) dX10_put_2 rfl (fun r101 M102 h103 => ?_)
  obtain ⟨a105, rfl, rfl, h104⟩ := h103
  refine y_if_eq C 19 dX10_put_5 (by decide) (by omega) (fun h106 => ?_) (fun h106 => ?_)
  · have u107k : b01 (M0.2.1 58 = M0.2.1 58) = 1 := b01_i rfl
    exact hret _ _ _ dX10_put_19 ⟨hM0, FX.rf, by (clear hret C ha2 hpr hM0; omega)⟩
  · refine j_aload_n C 0 0 dX10_put_8 rfl rfl ?_
    refine y_getC C 9 58 fX10_put_9 rfl rfl ft_9_0 sm_9_0 rfl hM0 dX10_put_9 ?_
    refine j_iload_n C 1 1 dX10_put_12 rfl rfl ?_
    refine j_aload_n C 0 0 dX10_put_13 rfl rfl ?_
    refine j_lload_n C 2 2 dX10_put_14 rfl rfl ?_
    refine j_callVj C (d := 0) (As := [.long (sJ a2)]) (st := [.int (sI a1), .ref (ad 58)]) 57 (s_lt rfl rfl) (s_kc (c := 9) rfl rfl) (by decide) rfl (s1_X10_cut hM0 rfl a2 (by exact ⟨ha2.1, ha2.2⟩)) gX10_put_X10_cut rfl hdX10_cut (by decide) (Nat.le_of_ble_eq_true rfl) dX10_put_15 rfl (fun r108 M109 h110 => ?_)
    obtain ⟨a112, rfl, rfl, h111⟩ := h110
    refine y_last C 29 40 rfl rfl rfl ak_29 an_29 rfl hM0 (PX.w hpr rfl rfl) dX10_put_18 (by (clear h111 hret C ha2 hpr hM0; omega)) (fun M113 eM113 hM113 => ?_)
    have u114k : b01 (M113.2.1 58 = uJ (M0.2.1 58) (a1).toNat (ctF a2 (M0.1 57 1).toInt)) = 1 := b01_i ((uJ_w eM113).trans (congrArg (uJ (M0.2.1 58) _) (by exact h111.2.2)))
    exact hret _ _ _ dX10_put_19 ⟨hM113, (FX.rf.wJ eM113 (by decide)), by (clear hM113 eM113 h111 hret C ha2 hpr hM0; omega)⟩
set_option maxHeartbeats 4000000 in
theorem s7_X10_numberAt {l : Launch} {dC : Nat → ClassId} {dI : Nat → Nat → Nat} {ad : Nat → Nat} {cA : Nat → ClassId} {pr : Nat → Nat → Bool} {Kz : mm_M} {M0 : mm_M} (hM0 : INV pr Kz M0) (a1 : Int) (ha1 : -2147483648 ≤ a1 ∧ a1 ≤ 2147483647) : Cj l 1 yX10_numberAt wsX10_numberAt dC dI ad cA [.ref (ad 57), .int (sI a1)] M0 (fun r M' => ∃ a : Int, r = sJ a ∧ M0 = M' ∧ (-9223372036854775808) ≤ a ∧ a ≤ 9223372036854775807 ∧ (0 ≤ a1 ∧ a1 < (M0.1 57 2).toInt ∧ a = (M0.2.1 58 (a1).toNat).toInt ∨ (a1 < 0 ∨ (M0.1 57 2).toInt ≤ a1) ∧ a = 0)) := by
  refine cj_of (cc := cX10_numberAt) (maxL := 2) (lv := [(0, .ref (ad 57)), (1, .int (sI a1))]) (by decide) rfl (Nat.le_of_ble_eq_true rfl) rfl ?_
  intro p e s m args below meth c A Q C hret
  refine j_aload_n C 0 0 dX10_numberAt_0 rfl rfl ?_
  refine j_iload_n C 1 1 dX10_numberAt_1 rfl rfl ?_
  refine j_callVi C (d := 0) (As := [.int (sI a1)]) (st := []) 57 (s_lt rfl rfl) (s_kc (c := 9) rfl rfl) (by decide) rfl (s6_X10_has hM0 a1 (by exact ⟨ha1.1, ha1.2⟩)) gX10_numberAt_X10_has rfl hdX10_has (by decide) (Nat.le_of_ble_eq_true rfl) dX10_numberAt_2 rfl (fun r101 M102 h103 => ?_)
  obtain ⟨a105, rfl, rfl, h104⟩ := h103
  refine y_if_eq C 17 dX10_numberAt_5 (by decide) (by omega) (fun h106 => ?_) (fun h106 => ?_)
  · refine y_lconst C 0 dX10_numberAt_17 rfl ?_
    exact hret _ _ _ _ dX10_numberAt_18 ⟨0, rfl, rfl, by exact ⟨(by decide), ⟨(by decide), (by omega)⟩⟩⟩
  · refine j_aload_n C 0 0 dX10_numberAt_8 rfl rfl ?_
    refine y_getC C 9 58 fX10_numberAt_9 rfl rfl ft_9_0 sm_9_0 rfl hM0 dX10_numberAt_9 ?_
    refine j_iload_n C 1 1 dX10_numberAt_12 rfl rfl ?_
    refine y_lald C 29 40 rfl rfl rfl ak_29 an_29 rfl dX10_numberAt_13 (by omega) (fun a107 ea107 la107 ua107 => ?_)
    obtain rfl : a107 = (M0.2.1 58 (a1).toNat).toInt := ea107
    refine j_goto C 18 dX10_numberAt_14 (by decide) ?_
    exact hret _ _ _ _ dX10_numberAt_18 ⟨(M0.2.1 58 (a1).toNat).toInt, rfl, rfl, by exact ⟨la107, ⟨ua107, (by omega)⟩⟩⟩
set_option maxHeartbeats 4000000 in
theorem s2_X11_write {l : Launch} {dC : Nat → ClassId} {dI : Nat → Nat → Nat} {ad : Nat → Nat} {cA : Nat → ClassId} {pr : Nat → Nat → Bool} {Kz : mm_M} {M0 : mm_M} (hM0 : INV pr Kz M0) (hpr : PX pr) (a1 : Int) (ha1 : -2147483648 ≤ a1 ∧ a1 ≤ 2147483647) (a2 : Int) (ha2 : -2147483648 ≤ a2 ∧ a2 ≤ 2147483647) (a3 : Int) (ha3 : -9223372036854775808 ≤ a3 ∧ a3 ≤ 9223372036854775807) : Cj l 2 yX11_write wsX11_write dC dI ad cA [.ref (ad 0), .int (sI a1), .int (sI a2), .long (sJ a3)] M0 (fun r M' => ∃ a : Int, r = sJ a ∧ INV pr Kz M' ∧ FX [52, 54, 56, 58] M0 M' ∧ (-9223372036854775808) ≤ a ∧ a ≤ 9223372036854775807 ∧ ((a1 < 0 ∨ 3 < a1) ∧ a = -2 ∧ b01 (TRS M0 M') = 1 ∨ (0 ≤ a1 ∧ a1 ≤ 3) ∧ (M0.1 (s_p0 50 (a1).toNat) 2).toInt = -1 ∧ a = -6 ∧ b01 (TRS M0 M') = 1 ∨ (0 ≤ a1 ∧ a1 ≤ 3) ∧ ¬ (M0.1 (s_p0 50 (a1).toNat) 2).toInt = -1 ∧ (a2 < 0 ∨ (M0.1 (s_p0 50 (a1).toNat) 2).toInt ≤ a2) ∧ a = -7 ∧ b01 (TRS M0 M') = 1 ∨ (0 ≤ a1 ∧ a1 ≤ 3) ∧ ¬ (M0.1 (s_p0 50 (a1).toNat) 2).toInt = -1 ∧ 0 ≤ a2 ∧ a2 < (M0.1 (s_p0 50 (a1).toNat) 2).toInt ∧ a = ctF a3 (M0.1 (s_p0 50 (a1).toNat) 1).toInt ∧ b01 (TRW M0 M' a1 a2 a) = 1)) := by
  refine cj_of (cc := cX11_write) (maxL := 6) (lv := [(0, .ref (ad 0)), (1, .int (sI a1)), (2, .int (sI a2)), (3, .long (sJ a3))]) (by decide) rfl (Nat.le_of_ble_eq_true rfl) rfl ?_
  intro p e s m args below meth c A Q C hret
  refine j_aload_n C 0 0 dX11_write_0 rfl rfl ?_
  refine j_iload_n C 1 1 dX11_write_1 rfl rfl ?_
  refine j_callVi C (d := 1) (As := [.int (sI a1)]) (st := []) 0 (s_lt rfl rfl) (s_kc (c := 10) rfl rfl) (by decide) rfl (s3_X11_trayRefusal hM0 a1 (by exact ⟨ha1.1, ha1.2⟩)) gX11_write_X11_trayRefusal rfl hdX11_trayRefusal (by decide) (Nat.le_of_ble_eq_true rfl) dX11_write_2 rfl (fun r101 M102 h103 => ?_)
  obtain ⟨a105, rfl, rfl, h104⟩ := h103
  refine j_istore C 5 [(5, .int (sI a105)), (0, .ref (ad 0)), (1, .int (sI a1)), (2, .int (sI a2)), (3, .long (sJ a3))] dX11_write_5 (by decide) rfl ?_
  refine j_iload C 0 dX11_write_7 rfl ?_
  refine y_if_eq C 16 dX11_write_9 (by decide) (by (clear hret C ha3 ha2 ha1 hpr hM0; omega)) (fun h106 => ?_) (fun h106 => ?_)
  · refine j_aload_n C 1 0 dX11_write_16 rfl rfl ?_
    refine y_getC C 10 50 fX11_write_52 rfl rfl ft_10_9 sm_10_9 rfl hM0 dX11_write_17 ?_
    refine j_iload_n C 2 1 dX11_write_20 rfl rfl ?_
    rcases (show a1 = 0 ∨ a1 = 1 ∨ a1 = 2 ∨ a1 = 3 by (clear hret C ha3 ha2 hpr hM0; omega)) with h107 | h107 | h107 | h107
    · rw [h107]
      refine y_aaldK C 28 4 9 51 rfl rfl rfl rfl an_28 rfl sma_28 sta_28 (by decide) hM0 dX11_write_21 (by exact ⟨(by decide), (by decide)⟩) rfl ?_
      refine j_iload_n C 3 2 dX11_write_22 rfl rfl ?_
      refine j_callVi C (d := 0) (As := [.int (sI a2)]) (st := []) 51 (s_lt rfl rfl) (s_kc (c := 9) rfl rfl) (by decide) rfl (s3_X10_has hM0 a2 (by exact ⟨ha2.1, ha2.2⟩)) gX11_write_X10_has rfl hdX10_has (by decide) (Nat.le_of_ble_eq_true rfl) dX11_write_23 rfl (fun r109 M110 h111 => ?_)
      obtain ⟨a113, rfl, rfl, h112⟩ := h111
      refine y_if_ne C 33 dX11_write_26 (by decide) (by omega) (fun h114 => ?_) (fun h114 => ?_)
      · refine j_aload_n C 1 0 dX11_write_33 rfl rfl ?_
        refine y_getC C 10 50 fX11_write_52 rfl rfl ft_10_9 sm_10_9 rfl hM0 dX11_write_34 ?_
        refine j_iload_n C 2 1 dX11_write_37 rfl rfl ?_
        refine y_aaldK C 28 4 9 51 rfl rfl rfl rfl an_28 rfl sma_28 sta_28 (by decide) hM0 dX11_write_38 (by exact ⟨(by decide), (by decide)⟩) rfl ?_
        refine j_iload_n C 3 2 dX11_write_39 rfl rfl ?_
        refine j_lload_n C 4 3 dX11_write_40 rfl rfl ?_
        refine j_callVv C (d := 1) (As := [.int (sI a2), .long (sJ a3)]) (st := []) 51 (s_lt rfl rfl) (s_kc (c := 9) rfl rfl) (by decide) rfl (s3_X10_put hM0 hpr a2 (by exact ⟨ha2.1, ha2.2⟩) a3 (by exact ⟨ha3.1, ha3.2⟩)) gX11_write_X10_put rfl hdX10_put (by decide) (Nat.le_of_ble_eq_true rfl) dX11_write_41 rfl (fun M117 h118 => ?_)
        obtain ⟨hM117, fM117, h119⟩ := h118
        refine j_aload_n C 1 0 dX11_write_44 rfl rfl ?_
        refine y_getC C 10 50 fX11_write_52 rfl rfl ft_10_9 sm_10_9 rfl hM117 dX11_write_45 ?_
        refine j_iload_n C 2 1 dX11_write_48 rfl rfl ?_
        refine y_aaldK C 28 4 9 51 rfl rfl rfl rfl an_28 rfl sma_28 sta_28 (by decide) hM117 dX11_write_49 (by exact ⟨(by decide), (by decide)⟩) rfl ?_
        refine j_iload_n C 3 2 dX11_write_50 rfl rfl ?_
        refine j_callVj C (d := 1) (As := [.int (sI a2)]) (st := []) 51 (s_lt rfl rfl) (s_kc (c := 9) rfl rfl) (by decide) rfl (s4_X10_numberAt hM117 a2 (by exact ⟨ha2.1, ha2.2⟩)) gX11_write_X10_numberAt rfl hdX10_numberAt (by decide) (Nat.le_of_ble_eq_true rfl) dX11_write_51 rfl (fun r121 M122 h123 => ?_)
        obtain ⟨a125, rfl, rfl, h124⟩ := h123
        have u126t := ntX_s M0 a1
        have u126s : tsX M0 a1 = (M0.1 (s_p0 50 (a1).toNat) 2).toInt := rfl
        have u126c : (M0.1 (s_p0 50 (a1).toNat) 2).toInt = (M0.1 51 2).toInt ∧ (M0.1 (s_p0 50 (a1).toNat) 1).toInt = (M0.1 51 1).toInt := by rw [show (a1).toNat = 0 by omega]; exact ⟨rfl, rfl⟩
        have u126ct : ctF a3 (M0.1 (s_p0 50 (a1).toNat) 1).toInt = ctF a3 (M0.1 51 1).toInt := by rw [u126c.2]
        have u126e : M117.2.1 52 = uJ (M0.2.1 52) (a2).toNat (ctF a3 (M0.1 51 1).toInt) := b01_e (by (clear u126ct fM117 hM117 h107 hret C ha3 ha1 hpr hM0; omega))
        have u126q := ctF_b a3 (M0.1 51 1).toInt (by exact ⟨ha3.1, ha3.2⟩)
        have u126v : (M117.2.1 52 (a2).toNat).toInt = ctF a3 (M0.1 51 1).toInt := by rw [u126e]; unfold uJ; rw [if_pos rfl]; exact sJ_t u126q
        have u126z : (M117.1 51 2).toInt = (M0.1 51 2).toInt := by rw [((FX.rf.tr fM117 (by decide)) : FX [52] M0 M117).cell (i := 51) (by decide)]
        have u126w : a125 = ctF a3 (M0.1 51 1).toInt := by (clear u126q u126e u126ct fM117 hM117 h107 hret C ha3 ha1 hpr hM0; omega)
        have u126k := trw_i (M := M0) (N := M117) (c := 0) (i := a2) (v := a125) ((FX.rf.tr fM117 (by decide)) : FX [52] M0 M117) (by decide) (by decide) (u126e.trans (congrArg (uJ (M0.2.1 52) _) u126w.symm)) (by exact ⟨⟨h124.1, h124.2.1⟩, (by (clear u126e u126ct fM117 hM117 h107 hret C ha3 ha1 hpr hM0; omega))⟩)
        have u126x : b01 (TRW M0 M117 a1 a2 a125) = 1 := by rw [show a1 = ((0 : Nat) : Int) by omega]; exact u126k
        have u126lo : (-9223372036854775808) ≤ a125 := by exact h124.1
        have u126hi : a125 ≤ 9223372036854775807 := by exact h124.2.1
        have u126D : (a1 < 0 ∨ 3 < a1) ∧ a125 = -2 ∧ b01 (TRS M0 M117) = 1 ∨ (0 ≤ a1 ∧ a1 ≤ 3) ∧ (M0.1 (s_p0 50 (a1).toNat) 2).toInt = -1 ∧ a125 = -6 ∧ b01 (TRS M0 M117) = 1 ∨ (0 ≤ a1 ∧ a1 ≤ 3) ∧ ¬ (M0.1 (s_p0 50 (a1).toNat) 2).toInt = -1 ∧ (a2 < 0 ∨ (M0.1 (s_p0 50 (a1).toNat) 2).toInt ≤ a2) ∧ a125 = -7 ∧ b01 (TRS M0 M117) = 1 ∨ (0 ≤ a1 ∧ a1 ≤ 3) ∧ ¬ (M0.1 (s_p0 50 (a1).toNat) 2).toInt = -1 ∧ 0 ≤ a2 ∧ a2 < (M0.1 (s_p0 50 (a1).toNat) 2).toInt ∧ a125 = ctF a3 (M0.1 (s_p0 50 (a1).toNat) 1).toInt ∧ b01 (TRW M0 M117 a1 a2 a125) = 1 := Or.inr (Or.inr (Or.inr ⟨by omega, by (clear u126hi u126lo u126x u126k u126w u126v u126q u126e u126ct h124 h119 fM117 hM117 h114 h112 h107 hret C ha3 ha2 ha1 hpr hM0; omega), by (clear u126hi u126lo u126x u126k u126w u126v u126q u126e u126ct fM117 hM117 h107 hret C ha3 ha1 hpr hM0; omega), by (clear u126hi u126lo u126x u126k u126w u126v u126q u126e u126ct fM117 hM117 h107 hret C ha3 ha1 hpr hM0; omega), by (clear u126hi u126lo u126x u126k u126z u126q u126e u126c u126s u126t h124 h119 fM117 hM117 h114 h112 h107 h106 h104 hret C ha3 ha2 ha1 hpr hM0; omega), u126x⟩))
        exact hret _ _ _ _ dX11_write_54 ⟨a125, rfl, hM117, (FX.rf.tr fM117 (by decide)), by exact ⟨h124.1, ⟨h124.2.1, u126D⟩⟩⟩
      · refine y_ldc2 C (-7) dX11_write_29 kX11_write_387 rfl ?_
        have u127t := ntX_s M0 a1
        have u127s : tsX M0 a1 = (M0.1 (s_p0 50 (a1).toNat) 2).toInt := rfl
        have u127c : (M0.1 (s_p0 50 (a1).toNat) 2).toInt = (M0.1 51 2).toInt ∧ (M0.1 (s_p0 50 (a1).toNat) 1).toInt = (M0.1 51 1).toInt := by rw [show (a1).toNat = 0 by (clear u127s u127t h114 h112 h106 h104 hret C ha3 ha2 ha1 hpr hM0; omega)]; exact ⟨rfl, rfl⟩
        have u127k := trs_r M0
        exact hret _ _ _ _ dX11_write_32 ⟨(-7), rfl, hM0, FX.rf, by exact ⟨(by decide), ⟨(by decide), (by (clear hret C ha3 ha1 hpr hM0; omega))⟩⟩⟩
    · rw [h107]
      refine y_aaldK C 28 4 9 53 rfl rfl rfl rfl an_28 rfl sma_28 sta_28 (by decide) hM0 dX11_write_21 (by exact ⟨(by decide), (by decide)⟩) rfl ?_
      refine j_iload_n C 3 2 dX11_write_22 rfl rfl ?_
      refine j_callVi C (d := 0) (As := [.int (sI a2)]) (st := []) 53 (s_lt rfl rfl) (s_kc (c := 9) rfl rfl) (by decide) rfl (s4_X10_has hM0 a2 (by exact ⟨ha2.1, ha2.2⟩)) gX11_write_X10_has rfl hdX10_has (by decide) (Nat.le_of_ble_eq_true rfl) dX11_write_23 rfl (fun r129 M130 h131 => ?_)
      obtain ⟨a133, rfl, rfl, h132⟩ := h131
      refine y_if_ne C 33 dX11_write_26 (by decide) (by omega) (fun h134 => ?_) (fun h134 => ?_)
      · refine j_aload_n C 1 0 dX11_write_33 rfl rfl ?_
        refine y_getC C 10 50 fX11_write_52 rfl rfl ft_10_9 sm_10_9 rfl hM0 dX11_write_34 ?_
        refine j_iload_n C 2 1 dX11_write_37 rfl rfl ?_
        refine y_aaldK C 28 4 9 53 rfl rfl rfl rfl an_28 rfl sma_28 sta_28 (by decide) hM0 dX11_write_38 (by exact ⟨(by decide), (by decide)⟩) rfl ?_
        refine j_iload_n C 3 2 dX11_write_39 rfl rfl ?_
        refine j_lload_n C 4 3 dX11_write_40 rfl rfl ?_
        refine j_callVv C (d := 1) (As := [.int (sI a2), .long (sJ a3)]) (st := []) 53 (s_lt rfl rfl) (s_kc (c := 9) rfl rfl) (by decide) rfl (s4_X10_put hM0 hpr a2 (by exact ⟨ha2.1, ha2.2⟩) a3 (by exact ⟨ha3.1, ha3.2⟩)) gX11_write_X10_put rfl hdX10_put (by decide) (Nat.le_of_ble_eq_true rfl) dX11_write_41 rfl (fun M137 h138 => ?_)
        obtain ⟨hM137, fM137, h139⟩ := h138
        refine j_aload_n C 1 0 dX11_write_44 rfl rfl ?_
        refine y_getC C 10 50 fX11_write_52 rfl rfl ft_10_9 sm_10_9 rfl hM137 dX11_write_45 ?_
        refine j_iload_n C 2 1 dX11_write_48 rfl rfl ?_
        refine y_aaldK C 28 4 9 53 rfl rfl rfl rfl an_28 rfl sma_28 sta_28 (by decide) hM137 dX11_write_49 (by exact ⟨(by decide), (by decide)⟩) rfl ?_
        refine j_iload_n C 3 2 dX11_write_50 rfl rfl ?_
        refine j_callVj C (d := 1) (As := [.int (sI a2)]) (st := []) 53 (s_lt rfl rfl) (s_kc (c := 9) rfl rfl) (by decide) rfl (s5_X10_numberAt hM137 a2 (by exact ⟨ha2.1, ha2.2⟩)) gX11_write_X10_numberAt rfl hdX10_numberAt (by decide) (Nat.le_of_ble_eq_true rfl) dX11_write_51 rfl (fun r141 M142 h143 => ?_)
        obtain ⟨a145, rfl, rfl, h144⟩ := h143
        have u146t := ntX_s M0 a1
        have u146s : tsX M0 a1 = (M0.1 (s_p0 50 (a1).toNat) 2).toInt := rfl
        have u146c : (M0.1 (s_p0 50 (a1).toNat) 2).toInt = (M0.1 53 2).toInt ∧ (M0.1 (s_p0 50 (a1).toNat) 1).toInt = (M0.1 53 1).toInt := by rw [show (a1).toNat = 1 by (clear u146s u146t h144 h139 fM137 hM137 h134 h132 h106 h104 hret C ha3 ha2 ha1 hpr hM0; omega)]; exact ⟨rfl, rfl⟩
        have u146ct : ctF a3 (M0.1 (s_p0 50 (a1).toNat) 1).toInt = ctF a3 (M0.1 53 1).toInt := by rw [u146c.2]
        have u146e : M137.2.1 54 = uJ (M0.2.1 54) (a2).toNat (ctF a3 (M0.1 53 1).toInt) := b01_e (by (clear u146ct fM137 hM137 h107 hret C ha3 ha1 hpr hM0; omega))
        have u146q := ctF_b a3 (M0.1 53 1).toInt (by exact ⟨ha3.1, ha3.2⟩)
        have u146v : (M137.2.1 54 (a2).toNat).toInt = ctF a3 (M0.1 53 1).toInt := by rw [u146e]; unfold uJ; rw [if_pos rfl]; exact sJ_t u146q
        have u146z : (M137.1 53 2).toInt = (M0.1 53 2).toInt := by rw [((FX.rf.tr fM137 (by decide)) : FX [54] M0 M137).cell (i := 53) (by decide)]
        have u146w : a145 = ctF a3 (M0.1 53 1).toInt := by (clear u146q u146e u146ct fM137 hM137 h107 hret C ha3 ha1 hpr hM0; omega)
        have u146k := trw_i (M := M0) (N := M137) (c := 1) (i := a2) (v := a145) ((FX.rf.tr fM137 (by decide)) : FX [54] M0 M137) (by decide) (by decide) (u146e.trans (congrArg (uJ (M0.2.1 54) _) u146w.symm)) (by exact ⟨⟨h144.1, h144.2.1⟩, (by (clear u146e u146ct fM137 hM137 h107 hret C ha3 ha1 hpr hM0; omega))⟩)
        have u146x : b01 (TRW M0 M137 a1 a2 a145) = 1 := by rw [show a1 = ((1 : Nat) : Int) by omega]; exact u146k
        have u146lo : (-9223372036854775808) ≤ a145 := by exact h144.1
        have u146hi : a145 ≤ 9223372036854775807 := by exact h144.2.1
        have u146D : (a1 < 0 ∨ 3 < a1) ∧ a145 = -2 ∧ b01 (TRS M0 M137) = 1 ∨ (0 ≤ a1 ∧ a1 ≤ 3) ∧ (M0.1 (s_p0 50 (a1).toNat) 2).toInt = -1 ∧ a145 = -6 ∧ b01 (TRS M0 M137) = 1 ∨ (0 ≤ a1 ∧ a1 ≤ 3) ∧ ¬ (M0.1 (s_p0 50 (a1).toNat) 2).toInt = -1 ∧ (a2 < 0 ∨ (M0.1 (s_p0 50 (a1).toNat) 2).toInt ≤ a2) ∧ a145 = -7 ∧ b01 (TRS M0 M137) = 1 ∨ (0 ≤ a1 ∧ a1 ≤ 3) ∧ ¬ (M0.1 (s_p0 50 (a1).toNat) 2).toInt = -1 ∧ 0 ≤ a2 ∧ a2 < (M0.1 (s_p0 50 (a1).toNat) 2).toInt ∧ a145 = ctF a3 (M0.1 (s_p0 50 (a1).toNat) 1).toInt ∧ b01 (TRW M0 M137 a1 a2 a145) = 1 := Or.inr (Or.inr (Or.inr ⟨by omega, by (clear u146hi u146lo u146x u146k u146w u146v u146q u146e u146ct h144 h139 fM137 hM137 h134 h132 h107 hret C ha3 ha2 ha1 hpr hM0; omega), by (clear u146hi u146lo u146x u146k u146w u146v u146q u146e u146ct fM137 hM137 h107 hret C ha3 ha1 hpr hM0; omega), by (clear u146hi u146lo u146x u146k u146w u146v u146q u146e u146ct fM137 hM137 h107 hret C ha3 ha1 hpr hM0; omega), by (clear u146hi u146lo u146x u146k u146z u146q u146e u146c u146s u146t h144 h139 fM137 hM137 h134 h132 h107 h106 h104 hret C ha3 ha2 ha1 hpr hM0; omega), u146x⟩))
        exact hret _ _ _ _ dX11_write_54 ⟨a145, rfl, hM137, (FX.rf.tr fM137 (by decide)), by exact ⟨h144.1, ⟨h144.2.1, u146D⟩⟩⟩
      · refine y_ldc2 C (-7) dX11_write_29 kX11_write_387 rfl ?_
        have u147t := ntX_s M0 a1
        have u147s : tsX M0 a1 = (M0.1 (s_p0 50 (a1).toNat) 2).toInt := rfl
        have u147c : (M0.1 (s_p0 50 (a1).toNat) 2).toInt = (M0.1 53 2).toInt ∧ (M0.1 (s_p0 50 (a1).toNat) 1).toInt = (M0.1 53 1).toInt := by rw [show (a1).toNat = 1 by (clear u147s u147t h134 h132 h106 h104 hret C ha3 ha2 ha1 hpr hM0; omega)]; exact ⟨rfl, rfl⟩
        have u147k := trs_r M0
        exact hret _ _ _ _ dX11_write_32 ⟨(-7), rfl, hM0, FX.rf, by exact ⟨(by decide), ⟨(by decide), (by (clear hret C ha3 ha1 hpr hM0; omega))⟩⟩⟩
    · rw [h107]
      refine y_aaldK C 28 4 9 55 rfl rfl rfl rfl an_28 rfl sma_28 sta_28 (by decide) hM0 dX11_write_21 (by exact ⟨(by decide), (by decide)⟩) rfl ?_
      refine j_iload_n C 3 2 dX11_write_22 rfl rfl ?_
      refine j_callVi C (d := 0) (As := [.int (sI a2)]) (st := []) 55 (s_lt rfl rfl) (s_kc (c := 9) rfl rfl) (by decide) rfl (s5_X10_has hM0 a2 (by exact ⟨ha2.1, ha2.2⟩)) gX11_write_X10_has rfl hdX10_has (by decide) (Nat.le_of_ble_eq_true rfl) dX11_write_23 rfl (fun r149 M150 h151 => ?_)
      obtain ⟨a153, rfl, rfl, h152⟩ := h151
      refine y_if_ne C 33 dX11_write_26 (by decide) (by omega) (fun h154 => ?_) (fun h154 => ?_)
      · refine j_aload_n C 1 0 dX11_write_33 rfl rfl ?_
        refine y_getC C 10 50 fX11_write_52 rfl rfl ft_10_9 sm_10_9 rfl hM0 dX11_write_34 ?_
        refine j_iload_n C 2 1 dX11_write_37 rfl rfl ?_
        refine y_aaldK C 28 4 9 55 rfl rfl rfl rfl an_28 rfl sma_28 sta_28 (by decide) hM0 dX11_write_38 (by exact ⟨(by decide), (by decide)⟩) rfl ?_
        refine j_iload_n C 3 2 dX11_write_39 rfl rfl ?_
        refine j_lload_n C 4 3 dX11_write_40 rfl rfl ?_
        refine j_callVv C (d := 1) (As := [.int (sI a2), .long (sJ a3)]) (st := []) 55 (s_lt rfl rfl) (s_kc (c := 9) rfl rfl) (by decide) rfl (s5_X10_put hM0 hpr a2 (by exact ⟨ha2.1, ha2.2⟩) a3 (by exact ⟨ha3.1, ha3.2⟩)) gX11_write_X10_put rfl hdX10_put (by decide) (Nat.le_of_ble_eq_true rfl) dX11_write_41 rfl (fun M157 h158 => ?_)
        obtain ⟨hM157, fM157, h159⟩ := h158
        refine j_aload_n C 1 0 dX11_write_44 rfl rfl ?_
        refine y_getC C 10 50 fX11_write_52 rfl rfl ft_10_9 sm_10_9 rfl hM157 dX11_write_45 ?_
        refine j_iload_n C 2 1 dX11_write_48 rfl rfl ?_
        refine y_aaldK C 28 4 9 55 rfl rfl rfl rfl an_28 rfl sma_28 sta_28 (by decide) hM157 dX11_write_49 (by exact ⟨(by decide), (by decide)⟩) rfl ?_
        refine j_iload_n C 3 2 dX11_write_50 rfl rfl ?_
        refine j_callVj C (d := 1) (As := [.int (sI a2)]) (st := []) 55 (s_lt rfl rfl) (s_kc (c := 9) rfl rfl) (by decide) rfl (s6_X10_numberAt hM157 a2 (by exact ⟨ha2.1, ha2.2⟩)) gX11_write_X10_numberAt rfl hdX10_numberAt (by decide) (Nat.le_of_ble_eq_true rfl) dX11_write_51 rfl (fun r161 M162 h163 => ?_)
        obtain ⟨a165, rfl, rfl, h164⟩ := h163
        have u166t := ntX_s M0 a1
        have u166s : tsX M0 a1 = (M0.1 (s_p0 50 (a1).toNat) 2).toInt := rfl
        have u166c : (M0.1 (s_p0 50 (a1).toNat) 2).toInt = (M0.1 55 2).toInt ∧ (M0.1 (s_p0 50 (a1).toNat) 1).toInt = (M0.1 55 1).toInt := by rw [show (a1).toNat = 2 by (clear u166s u166t h164 h159 fM157 hM157 h154 h152 h106 h104 hret C ha3 ha2 ha1 hpr hM0; omega)]; exact ⟨rfl, rfl⟩
        have u166ct : ctF a3 (M0.1 (s_p0 50 (a1).toNat) 1).toInt = ctF a3 (M0.1 55 1).toInt := by rw [u166c.2]
        have u166e : M157.2.1 56 = uJ (M0.2.1 56) (a2).toNat (ctF a3 (M0.1 55 1).toInt) := b01_e (by (clear u166ct fM157 hM157 h107 hret C ha3 ha1 hpr hM0; omega))
        have u166q := ctF_b a3 (M0.1 55 1).toInt (by exact ⟨ha3.1, ha3.2⟩)
        have u166v : (M157.2.1 56 (a2).toNat).toInt = ctF a3 (M0.1 55 1).toInt := by rw [u166e]; unfold uJ; rw [if_pos rfl]; exact sJ_t u166q
        have u166z : (M157.1 55 2).toInt = (M0.1 55 2).toInt := by rw [((FX.rf.tr fM157 (by decide)) : FX [56] M0 M157).cell (i := 55) (by decide)]
        have u166w : a165 = ctF a3 (M0.1 55 1).toInt := by (clear u166q u166e u166ct fM157 hM157 h107 hret C ha3 ha1 hpr hM0; omega)
        have u166k := trw_i (M := M0) (N := M157) (c := 2) (i := a2) (v := a165) ((FX.rf.tr fM157 (by decide)) : FX [56] M0 M157) (by decide) (by decide) (u166e.trans (congrArg (uJ (M0.2.1 56) _) u166w.symm)) (by exact ⟨⟨h164.1, h164.2.1⟩, (by (clear u166e u166ct fM157 hM157 h107 hret C ha3 ha1 hpr hM0; omega))⟩)
        have u166x : b01 (TRW M0 M157 a1 a2 a165) = 1 := by rw [show a1 = ((2 : Nat) : Int) by omega]; exact u166k
        have u166lo : (-9223372036854775808) ≤ a165 := by exact h164.1
        have u166hi : a165 ≤ 9223372036854775807 := by exact h164.2.1
        have u166D : (a1 < 0 ∨ 3 < a1) ∧ a165 = -2 ∧ b01 (TRS M0 M157) = 1 ∨ (0 ≤ a1 ∧ a1 ≤ 3) ∧ (M0.1 (s_p0 50 (a1).toNat) 2).toInt = -1 ∧ a165 = -6 ∧ b01 (TRS M0 M157) = 1 ∨ (0 ≤ a1 ∧ a1 ≤ 3) ∧ ¬ (M0.1 (s_p0 50 (a1).toNat) 2).toInt = -1 ∧ (a2 < 0 ∨ (M0.1 (s_p0 50 (a1).toNat) 2).toInt ≤ a2) ∧ a165 = -7 ∧ b01 (TRS M0 M157) = 1 ∨ (0 ≤ a1 ∧ a1 ≤ 3) ∧ ¬ (M0.1 (s_p0 50 (a1).toNat) 2).toInt = -1 ∧ 0 ≤ a2 ∧ a2 < (M0.1 (s_p0 50 (a1).toNat) 2).toInt ∧ a165 = ctF a3 (M0.1 (s_p0 50 (a1).toNat) 1).toInt ∧ b01 (TRW M0 M157 a1 a2 a165) = 1 := Or.inr (Or.inr (Or.inr ⟨by omega, by (clear u166hi u166lo u166x u166k u166w u166v u166q u166e u166ct h164 h159 fM157 hM157 h154 h152 h107 hret C ha3 ha2 ha1 hpr hM0; omega), by (clear u166hi u166lo u166x u166k u166w u166v u166q u166e u166ct fM157 hM157 h107 hret C ha3 ha1 hpr hM0; omega), by (clear u166hi u166lo u166x u166k u166w u166v u166q u166e u166ct fM157 hM157 h107 hret C ha3 ha1 hpr hM0; omega), by (clear u166hi u166lo u166x u166k u166z u166q u166e u166c u166s u166t h164 h159 fM157 hM157 h154 h152 h107 h106 h104 hret C ha3 ha2 ha1 hpr hM0; omega), u166x⟩))
        exact hret _ _ _ _ dX11_write_54 ⟨a165, rfl, hM157, (FX.rf.tr fM157 (by decide)), by exact ⟨h164.1, ⟨h164.2.1, u166D⟩⟩⟩
      · refine y_ldc2 C (-7) dX11_write_29 kX11_write_387 rfl ?_
        have u167t := ntX_s M0 a1
        have u167s : tsX M0 a1 = (M0.1 (s_p0 50 (a1).toNat) 2).toInt := rfl
        have u167c : (M0.1 (s_p0 50 (a1).toNat) 2).toInt = (M0.1 55 2).toInt ∧ (M0.1 (s_p0 50 (a1).toNat) 1).toInt = (M0.1 55 1).toInt := by rw [show (a1).toNat = 2 by (clear u167s u167t h154 h152 h106 h104 hret C ha3 ha2 ha1 hpr hM0; omega)]; exact ⟨rfl, rfl⟩
        have u167k := trs_r M0
        exact hret _ _ _ _ dX11_write_32 ⟨(-7), rfl, hM0, FX.rf, by exact ⟨(by decide), ⟨(by decide), (by (clear hret C ha3 ha1 hpr hM0; omega))⟩⟩⟩
    · rw [h107]
      refine y_aaldK C 28 4 9 57 rfl rfl rfl rfl an_28 rfl sma_28 sta_28 (by decide) hM0 dX11_write_21 (by exact ⟨(by decide), (by decide)⟩) rfl ?_
      refine j_iload_n C 3 2 dX11_write_22 rfl rfl ?_
      refine j_callVi C (d := 0) (As := [.int (sI a2)]) (st := []) 57 (s_lt rfl rfl) (s_kc (c := 9) rfl rfl) (by decide) rfl (s6_X10_has hM0 a2 (by exact ⟨ha2.1, ha2.2⟩)) gX11_write_X10_has rfl hdX10_has (by decide) (Nat.le_of_ble_eq_true rfl) dX11_write_23 rfl (fun r169 M170 h171 => ?_)
      obtain ⟨a173, rfl, rfl, h172⟩ := h171
      refine y_if_ne C 33 dX11_write_26 (by decide) (by omega) (fun h174 => ?_) (fun h174 => ?_)
      · refine j_aload_n C 1 0 dX11_write_33 rfl rfl ?_
        refine y_getC C 10 50 fX11_write_52 rfl rfl ft_10_9 sm_10_9 rfl hM0 dX11_write_34 ?_
        refine j_iload_n C 2 1 dX11_write_37 rfl rfl ?_
        refine y_aaldK C 28 4 9 57 rfl rfl rfl rfl an_28 rfl sma_28 sta_28 (by decide) hM0 dX11_write_38 (by exact ⟨(by decide), (by decide)⟩) rfl ?_
        refine j_iload_n C 3 2 dX11_write_39 rfl rfl ?_
        refine j_lload_n C 4 3 dX11_write_40 rfl rfl ?_
        refine j_callVv C (d := 1) (As := [.int (sI a2), .long (sJ a3)]) (st := []) 57 (s_lt rfl rfl) (s_kc (c := 9) rfl rfl) (by decide) rfl (s6_X10_put hM0 hpr a2 (by exact ⟨ha2.1, ha2.2⟩) a3 (by exact ⟨ha3.1, ha3.2⟩)) gX11_write_X10_put rfl hdX10_put (by decide) (Nat.le_of_ble_eq_true rfl) dX11_write_41 rfl (fun M177 h178 => ?_)
        obtain ⟨hM177, fM177, h179⟩ := h178
        refine j_aload_n C 1 0 dX11_write_44 rfl rfl ?_
        refine y_getC C 10 50 fX11_write_52 rfl rfl ft_10_9 sm_10_9 rfl hM177 dX11_write_45 ?_
        refine j_iload_n C 2 1 dX11_write_48 rfl rfl ?_
        refine y_aaldK C 28 4 9 57 rfl rfl rfl rfl an_28 rfl sma_28 sta_28 (by decide) hM177 dX11_write_49 (by exact ⟨(by decide), (by decide)⟩) rfl ?_
        refine j_iload_n C 3 2 dX11_write_50 rfl rfl ?_
        refine j_callVj C (d := 1) (As := [.int (sI a2)]) (st := []) 57 (s_lt rfl rfl) (s_kc (c := 9) rfl rfl) (by decide) rfl (s7_X10_numberAt hM177 a2 (by exact ⟨ha2.1, ha2.2⟩)) gX11_write_X10_numberAt rfl hdX10_numberAt (by decide) (Nat.le_of_ble_eq_true rfl) dX11_write_51 rfl (fun r181 M182 h183 => ?_)
        obtain ⟨a185, rfl, rfl, h184⟩ := h183
        have u186t := ntX_s M0 a1
        have u186s : tsX M0 a1 = (M0.1 (s_p0 50 (a1).toNat) 2).toInt := rfl
        have u186c : (M0.1 (s_p0 50 (a1).toNat) 2).toInt = (M0.1 57 2).toInt ∧ (M0.1 (s_p0 50 (a1).toNat) 1).toInt = (M0.1 57 1).toInt := by rw [show (a1).toNat = 3 by (clear u186s u186t h184 h179 fM177 hM177 h174 h172 h106 h104 hret C ha3 ha2 ha1 hpr hM0; omega)]; exact ⟨rfl, rfl⟩
        have u186ct : ctF a3 (M0.1 (s_p0 50 (a1).toNat) 1).toInt = ctF a3 (M0.1 57 1).toInt := by rw [u186c.2]
        have u186e : M177.2.1 58 = uJ (M0.2.1 58) (a2).toNat (ctF a3 (M0.1 57 1).toInt) := b01_e (by (clear u186ct fM177 hM177 h107 hret C ha3 ha1 hpr hM0; omega))
        have u186q := ctF_b a3 (M0.1 57 1).toInt (by exact ⟨ha3.1, ha3.2⟩)
        have u186v : (M177.2.1 58 (a2).toNat).toInt = ctF a3 (M0.1 57 1).toInt := by rw [u186e]; unfold uJ; rw [if_pos rfl]; exact sJ_t u186q
        have u186z : (M177.1 57 2).toInt = (M0.1 57 2).toInt := by rw [((FX.rf.tr fM177 (by decide)) : FX [58] M0 M177).cell (i := 57) (by decide)]
        have u186w : a185 = ctF a3 (M0.1 57 1).toInt := by (clear u186q u186e u186ct fM177 hM177 h107 hret C ha3 ha1 hpr hM0; omega)
        have u186k := trw_i (M := M0) (N := M177) (c := 3) (i := a2) (v := a185) ((FX.rf.tr fM177 (by decide)) : FX [58] M0 M177) (by decide) (by decide) (u186e.trans (congrArg (uJ (M0.2.1 58) _) u186w.symm)) (by exact ⟨⟨h184.1, h184.2.1⟩, (by (clear u186e u186ct fM177 hM177 h107 hret C ha3 ha1 hpr hM0; omega))⟩)
        have u186x : b01 (TRW M0 M177 a1 a2 a185) = 1 := by rw [show a1 = ((3 : Nat) : Int) by omega]; exact u186k
        have u186lo : (-9223372036854775808) ≤ a185 := by exact h184.1
        have u186hi : a185 ≤ 9223372036854775807 := by exact h184.2.1
        have u186D : (a1 < 0 ∨ 3 < a1) ∧ a185 = -2 ∧ b01 (TRS M0 M177) = 1 ∨ (0 ≤ a1 ∧ a1 ≤ 3) ∧ (M0.1 (s_p0 50 (a1).toNat) 2).toInt = -1 ∧ a185 = -6 ∧ b01 (TRS M0 M177) = 1 ∨ (0 ≤ a1 ∧ a1 ≤ 3) ∧ ¬ (M0.1 (s_p0 50 (a1).toNat) 2).toInt = -1 ∧ (a2 < 0 ∨ (M0.1 (s_p0 50 (a1).toNat) 2).toInt ≤ a2) ∧ a185 = -7 ∧ b01 (TRS M0 M177) = 1 ∨ (0 ≤ a1 ∧ a1 ≤ 3) ∧ ¬ (M0.1 (s_p0 50 (a1).toNat) 2).toInt = -1 ∧ 0 ≤ a2 ∧ a2 < (M0.1 (s_p0 50 (a1).toNat) 2).toInt ∧ a185 = ctF a3 (M0.1 (s_p0 50 (a1).toNat) 1).toInt ∧ b01 (TRW M0 M177 a1 a2 a185) = 1 := Or.inr (Or.inr (Or.inr ⟨by omega, by (clear u186hi u186lo u186x u186k u186w u186v u186q u186e u186ct h184 h179 fM177 hM177 h174 h172 h107 hret C ha3 ha2 ha1 hpr hM0; omega), by (clear u186hi u186lo u186x u186k u186w u186v u186q u186e u186ct fM177 hM177 h107 hret C ha3 ha1 hpr hM0; omega), by (clear u186hi u186lo u186x u186k u186w u186v u186q u186e u186ct fM177 hM177 h107 hret C ha3 ha1 hpr hM0; omega), by (clear u186hi u186lo u186x u186k u186z u186q u186e u186c u186s u186t h184 h179 fM177 hM177 h174 h172 h107 h106 h104 hret C ha3 ha2 ha1 hpr hM0; omega), u186x⟩))
        exact hret _ _ _ _ dX11_write_54 ⟨a185, rfl, hM177, (FX.rf.tr fM177 (by decide)), by exact ⟨h184.1, ⟨h184.2.1, u186D⟩⟩⟩
      · refine y_ldc2 C (-7) dX11_write_29 kX11_write_387 rfl ?_
        have u187t := ntX_s M0 a1
        have u187s : tsX M0 a1 = (M0.1 (s_p0 50 (a1).toNat) 2).toInt := rfl
        have u187c : (M0.1 (s_p0 50 (a1).toNat) 2).toInt = (M0.1 57 2).toInt ∧ (M0.1 (s_p0 50 (a1).toNat) 1).toInt = (M0.1 57 1).toInt := by rw [show (a1).toNat = 3 by (clear u187s u187t h174 h172 h106 h104 hret C ha3 ha2 ha1 hpr hM0; omega)]; exact ⟨rfl, rfl⟩
        have u187k := trs_r M0
        exact hret _ _ _ _ dX11_write_32 ⟨(-7), rfl, hM0, FX.rf, by exact ⟨(by decide), ⟨(by decide), (by (clear hret C ha3 ha1 hpr hM0; omega))⟩⟩⟩
  · refine j_iload C 0 dX11_write_12 rfl ?_
    refine y_i2l C dX11_write_14 (by omega) ?_
    have u188t := ntX_s M0 a1
    have u188s : tsX M0 a1 = (M0.1 (s_p0 50 (a1).toNat) 2).toInt := rfl
    have u188k := trs_r M0
    exact hret _ _ _ _ dX11_write_15 ⟨a105, rfl, hM0, FX.rf, by (clear hret C ha3 hpr hM0; omega)⟩
end
section
set_option maxHeartbeats 4000000 in
theorem s2_X5_aim {l : Launch} {dC : Nat → ClassId} {dI : Nat → Nat → Nat} {ad : Nat → Nat} {cA : Nat → ClassId} {pr : Nat → Nat → Bool} {Kz : mm_M} {M0 : mm_M} (hM0 : INV pr Kz M0) (hpr : PX pr) {v1 : Nat} (cv1 : s_c v1 = 6) (a3 : Int) (ha3 : -2147483648 ≤ a3 ∧ a3 ≤ 2147483647) (hp0 : b01 (APX M0 v1) = 1) (hp1 : b01 (LAW M0 v1) = 1) (hp2 : b01 (PRR (rwX M0 v1 12)) = 1) (hp3 : (M0.1 12 3).toInt < pw2 (M0.1 12 0).toInt) (hp4 : 0 ≤ a3 ∧ a3 ≤ 255) : Cv l 1 yX5_aim wsX5_aim dC dI ad cA [.ref (ad 88), .ref (ad v1), .ref (ad 12), .int (sI a3)] M0 (fun M' => INV pr Kz M' ∧ FX [81, 82, 83, 84, 88] M0 M' ∧ (b01 (AIM M' v1 (seH (rwX M0 v1 12) (sI a3))) = 1) ∧ (b01 (TN M' v1 (rwX M0 v1 12)) = 1) ∧ (M'.2.2 88 10 = 12)) := by
  refine cv_of (cc := cX5_aim) (maxL := 4) (lv := [(0, .ref (ad 88)), (1, .ref (ad v1)), (2, .ref (ad 12)), (3, .int (sI a3))]) (by decide) rfl (Nat.le_of_ble_eq_true rfl) rfl ?_
  intro p e s m args below meth c A Q C hret
  refine j_aload_n C 0 0 dX5_aim_0 rfl rfl ?_
  refine j_aload_n C 1 1 dX5_aim_1 rfl rfl ?_
  refine y_putP C 4 6 qX5_aim_52 rfl rfl rfl rfl ft_4_9 sm_4_9 (by decide) hM0 (PX.w hpr rfl rfl) cv1 dX5_aim_2 (fun M101 eM101 hM101 => ?_)
  refine j_aload_n C 0 0 dX5_aim_5 rfl rfl ?_
  refine j_aload_n C 2 2 dX5_aim_6 rfl rfl ?_
  refine y_putP C 4 8 qX5_aim_56 rfl rfl rfl rfl ft_4_10 sm_4_10 (by decide) hM101 (PX.w hpr rfl rfl) rfl dX5_aim_7 (fun M102 eM102 hM102 => ?_)
  refine j_aload_n C 0 0 dX5_aim_10 rfl rfl ?_
  refine j_aload_n C 0 0 dX5_aim_11 rfl rfl ?_
  refine y_getV C 4 12 fX5_aim_56 rfl rfl ft_4_10 (s_pW eM102) dX5_aim_12 ?_
  refine j_callVi C (d := 0) (As := []) (st := [.ref (ad 88)]) 12 (s_lt rfl rfl) (s_kc (c := 8) rfl rfl) (by decide) rfl (s2_X9_everyKind hM102) gX5_aim_X9_everyKind rfl hdX9_everyKind (by decide) (Nat.le_of_ble_eq_true rfl) dX5_aim_15 rfl (fun r103 M104 h105 => ?_)
  obtain ⟨a107, rfl, rfl, h106⟩ := h105
  rw [show M102.1 12 = M0.1 12 from ((wP_cell eM102).trans (wP_cell eM101))] at h106
  obtain rfl : a107 = (pw2 (M0.1 12 0).toInt - 1) := by exact h106.2.2
  refine y_putI C 4 _ _ qX5_aim_38 rfl rfl ft_4_11 sb_4_11 hM102 (PX.w hpr rfl rfl) dX5_aim_18 (by exact ⟨⟨(by (clear hM102 eM102 hM101 eM101 hret C hp4 hp3 hp2 hp1 hp0 ha3 cv1 hpr hM0; omega)), (by (clear hM102 eM102 hM101 eM101 hret C hp4 hp3 hp2 hp1 hp0 ha3 cv1 hpr hM0; omega))⟩, ⟨h106.1, h106.2.1⟩⟩) (fun M108 eM108 hM108 => ?_)
  refine j_aload_n C 0 0 dX5_aim_21 rfl rfl ?_
  refine j_aload_n C 0 0 dX5_aim_22 rfl rfl ?_
  refine y_getI C 4 _ _ fX5_aim_38 rfl rfl ft_4_11 sb_4_11 hM108 dX5_aim_23 (fun a109 ea109 la109 ua109 => ?_)
  obtain rfl : a109 = (pw2 (M0.1 12 0).toInt - 1) := (ea109).trans (s_wr eM108 (by (clear ua109 la109 ea109 hM108 eM108 hM102 eM102 hM101 eM101 hret C hp4 hp3 hp2 hp1 hp0 ha3 cv1 hpr hM0; omega)))
  refine j_iload_n C 3 3 dX5_aim_26 rfl rfl ?_
  refine y_iconst C dX5_aim_27 ?_
  refine y_not C dX5_aim_28 ?_
  refine e_iandL C dX5_aim_29 (by exact ⟨h106.1, (by (clear ua109 la109 hM108 eM108 hM102 eM102 hM101 eM101 hret C hp4 hp3 hp2 hp1 hp0 ha3 cv1 hpr hM0; omega))⟩) (fun lb111 ub111 => ?_)
  refine y_putI C 4 _ _ qX5_aim_42 rfl rfl ft_4_12 sb_4_12 hM108 (PX.w hpr rfl rfl) dX5_aim_30 (by exact ⟨⟨(by (clear ua109 la109 hM108 eM108 hM102 eM102 hM101 eM101 hret C hp4 hp3 hp2 hp1 hp0 ha3 cv1 hpr hM0; omega)), (by (clear ua109 la109 hM108 eM108 hM102 eM102 hM101 eM101 hret C hp4 hp3 hp2 hp1 hp0 ha3 cv1 hpr hM0; omega))⟩, ⟨lb111, (by (clear ua109 la109 hM108 eM108 hM102 eM102 hM101 eM101 hret C hp4 hp3 hp2 hp1 hp0 ha3 cv1 hpr hM0; omega))⟩⟩) (fun M112 eM112 hM112 => ?_)
  refine j_aload_n C 0 0 dX5_aim_33 rfl rfl ?_
  refine j_aload_n C 0 0 dX5_aim_34 rfl rfl ?_
  refine y_getV C 4 12 fX5_aim_56 rfl rfl ft_4_10 (s_pI eM112 (s_pI eM108 (s_pW eM102))) dX5_aim_35 ?_
  refine y_getI C 8 _ _ fX5_aim_66 rfl rfl ft_8_3 sb_8_3 hM112 dX5_aim_38 (fun a113 ea113 la113 ua113 => ?_)
  obtain rfl : a113 = (M0.1 12 3).toInt := s_fP eM101 (s_fP eM102 (s_fa eM108 (by decide) (s_fa eM112 (by decide) (ea113))))
  refine j_aload_n C 0 0 dX5_aim_41 rfl rfl ?_
  refine y_getI C 4 _ _ fX5_aim_38 rfl rfl ft_4_11 sb_4_11 hM112 dX5_aim_42 (fun a115 ea115 la115 ua115 => ?_)
  obtain rfl : a115 = (pw2 (M0.1 12 0).toInt - 1) := (s_fb eM112 (by decide) (ea115)).trans (s_wr eM108 (by (clear ua115 la115 ea115 ua113 la113 ea113 hM112 eM112 ub111 lb111 ua109 la109 hM108 eM108 hM102 eM102 hM101 eM101 hret C hp4 hp3 hp2 hp1 hp0 ha3 cv1 hpr hM0; omega)))
  refine e_iandR C dX5_aim_45 (by exact ⟨h106.1, (by (clear ua115 la115 ua113 la113 ea113 hM112 eM112 ub111 lb111 ua109 la109 hM108 eM108 hM102 eM102 hM101 eM101 hret C hp4 hp3 hp2 hp1 hp0 ha3 cv1 hpr hM0; omega))⟩) (fun lb117 ub117 => ?_)
  refine y_putI C 4 _ _ qX5_aim_45 rfl rfl ft_4_13 sb_4_13 hM112 (PX.w hpr rfl rfl) dX5_aim_46 (by exact ⟨⟨(by (clear ua115 la115 ua113 la113 ea113 hM112 eM112 ub111 lb111 ua109 la109 hM108 eM108 hM102 eM102 hM101 eM101 hret C hp4 hp3 hp2 hp1 hp0 ha3 cv1 hpr hM0; omega)), (by (clear ua115 la115 ua113 la113 ea113 hM112 eM112 ub111 lb111 ua109 la109 hM108 eM108 hM102 eM102 hM101 eM101 hret C hp4 hp3 hp2 hp1 hp0 ha3 cv1 hpr hM0; omega))⟩, ⟨lb117, (by (clear ua115 la115 ua113 la113 ea113 hM112 eM112 ub111 lb111 ua109 la109 hM108 eM108 hM102 eM102 hM101 eM101 hret C hp4 hp3 hp2 hp1 hp0 ha3 cv1 hpr hM0; omega))⟩⟩) (fun M118 eM118 hM118 => ?_)
  refine j_aload_n C 0 0 dX5_aim_49 rfl rfl ?_
  refine y_getC C 4 81 fX5_aim_48 rfl rfl ft_4_0 sm_4_0 rfl hM118 dX5_aim_50 ?_
  refine j_aload_n C 0 0 dX5_aim_53 rfl rfl ?_
  refine y_getV C 4 v1 fX5_aim_52 rfl rfl ft_4_9 (s_pI eM118 (s_pI eM112 (s_pI eM108 (s_pP eM102 (by decide) (s_pW eM101))))) dX5_aim_54 ?_
  refine j_aload_n C 0 0 dX5_aim_57 rfl rfl ?_
  refine y_getV C 4 12 fX5_aim_56 rfl rfl ft_4_10 (s_pI eM118 (s_pI eM112 (s_pI eM108 (s_pW eM102)))) dX5_aim_58 ?_
  have u1197 := hM0.rd (i := v1) (c := 6) (k := 7) cv1 (show s_b 6 7 = (0, 900) from rfl)
  have u1199 := hM0.rd (i := v1) (c := 6) (k := 9) cv1 (show s_b 6 9 = (0, 900) from rfl)
  have u119A := apx_o (M := M0) (N := M118) (p := v1) (ple_f ((((((FX.rf.wP eM101 (by decide)).wP eM102 (by decide)).wI eM108 (by decide)).wI eM112 (by decide)).wI eM118 (by decide)) : FX [88] M0 M118) cv1 (by decide)) (((((((FX.rf.wP eM101 (by decide)).wP eM102 (by decide)).wI eM108 (by decide)).wI eM112 (by decide)).wI eM118 (by decide)) : FX [88] M0 M118).cell (by decide)) (((((((FX.rf.wP eM101 (by decide)).wP eM102 (by decide)).wI eM108 (by decide)).wI eM112 (by decide)).wI eM118 (by decide)) : FX [88] M0 M118).cell (by decide)) (((((((FX.rf.wP eM101 (by decide)).wP eM102 (by decide)).wI eM108 (by decide)).wI eM112 (by decide)).wI eM118 (by decide)) : FX [88] M0 M118).cell (by decide)) u1197.1 u1199.1 (by exact hp0)
  refine j_callVv C (d := 0) (As := [.ref (ad v1), .ref (ad 12)]) (st := []) 81 (s_lt rfl rfl) (s_kc (c := 3) rfl rfl) (by decide) rfl (s2_X4_tune hM118 hpr cv1 rfl (by exact u119A)) gX5_aim_X4_tune rfl hdX4_tune (by decide) (Nat.le_of_ble_eq_true rfl) dX5_aim_61 rfl (fun M121 h122 => ?_)
  obtain ⟨hM121, fM121, h123⟩ := h122
  have ev181 : v1 = M121.2.2 81 5 := by exact h123.1.symm
  have zz88_11 := (Eq.trans (s_fb eM112 (by decide) (s_fb eM118 (by decide) (s_fX fM121 (by decide) (rfl))) : (M121.1 88 11).toInt = (M108.1 88 11).toInt) (s_wr eM108 (by (clear ev181 h123 fM121 hM121 u119A u1199 u1197 hM118 eM118 ub117 lb117 ua115 la115 ua113 la113 ea113 hM112 eM112 ub111 lb111 ua109 la109 hM108 eM108 hM102 eM102 hM101 eM101 hret C hp4 hp3 hp2 hp1 hp0 ha3 cv1 hpr hM0; omega))))
  have zz88_12 := (Eq.trans (s_fb eM118 (by decide) (s_fX fM121 (by decide) (rfl)) : (M121.1 88 12).toInt = (M112.1 88 12).toInt) (s_wr eM112 (by (clear ev181 h123 fM121 hM121 u119A u1199 u1197 hM118 eM118 ub117 lb117 ua115 la115 ua113 la113 ea113 hM112 eM112 ua109 la109 hM108 eM108 hM102 eM102 hM101 eM101 hret C hp4 hp3 hp2 hp1 hp0 ha3 cv1 hpr hM0; omega))))
  have zz88_13 := (Eq.trans (s_fX fM121 (by decide) (rfl) : (M121.1 88 13).toInt = (M118.1 88 13).toInt) (s_wr eM118 (by (clear zz88_12 ev181 h123 fM121 hM121 u119A u1199 u1197 hM118 eM118 ua115 la115 ua113 la113 ea113 hM112 eM112 ub111 lb111 ua109 la109 hM108 eM108 hM102 eM102 hM101 eM101 hret C hp4 hp3 hp2 hp1 hp0 ha3 cv1 hpr hM0; omega))))
  have u1247 := hM0.rd (i := v1) (c := 6) (k := 7) cv1 (show s_b 6 7 = (0, 900) from rfl)
  have u1249 := hM0.rd (i := v1) (c := 6) (k := 9) cv1 (show s_b 6 9 = (0, 900) from rfl)
  have u124p := (ple_f (p := v1) (((((((FX.rf.wP eM101 (by decide)).wP eM102 (by decide)).wI eM108 (by decide)).wI eM112 (by decide)).wI eM118 (by decide)).tr fM121 (by decide)) : FX [81, 82, 83, 84, 88] M0 M121) cv1 (by decide))
  have u124r : rwX M118 v1 12 = rwX M0 v1 12 := (rx_f (p := v1) (v := 12) (ple_f (p := v1) ((((((FX.rf.wP eM101 (by decide)).wP eM102 (by decide)).wI eM108 (by decide)).wI eM112 (by decide)).wI eM118 (by decide)) : FX [88] M0 M118) cv1 (by decide)) (ske_n ((((((FX.rf.wP eM101 (by decide)).wP eM102 (by decide)).wI eM108 (by decide)).wI eM112 (by decide)).wI eM118 (by decide)) : FX [88] M0 M118) ⟨by decide, by decide, by decide⟩))
  have u124K := hM0.rd (i := 12) (c := 8) (k := 0) rfl (show s_b 8 0 = (0, 8) from rfl)
  have u124S := hM0.rd (i := 12) (c := 8) (k := 3) rfl (show s_b 8 3 = (0, 255) from rfl)
  have u124B := hM0.rd (i := v1) (c := 6) (k := 0) cv1 (show s_b 6 0 = (0, 6) from rfl)
  have u124e0 : M118.1 12 = M0.1 12 := ((((((FX.rf.wP eM101 (by decide)).wP eM102 (by decide)).wI eM108 (by decide)).wI eM112 (by decide)).wI eM118 (by decide)) : FX [88] M0 M118).cell (by decide)
  have u124L := law_p (M := M0) (N := M118) (p := v1) (ple_f (p := v1) ((((((FX.rf.wP eM101 (by decide)).wP eM102 (by decide)).wI eM108 (by decide)).wI eM112 (by decide)).wI eM118 (by decide)) : FX [88] M0 M118) cv1 (by decide)) u1247.1 u1249.1 (by exact hp1)
  have u124b7 := hM118.rd (i := v1) (c := 6) (k := 7) cv1 (show s_b 6 7 = (0, 900) from rfl)
  have u124b9 := hM118.rd (i := v1) (c := 6) (k := 9) cv1 (show s_b 6 9 = (0, 900) from rfl)
  have u124T := tn_0 (M := M118) (N := M121) (p := v1) (v := 12) (ple_f (p := v1) ((FX.rf.tr fM121 (by decide)) : FX [81, 82, 83, 84] M118 M121) cv1 (by decide)) (by exact h123.1) (by exact h123.2.2.1) u124L (by rw [u124r]; exact hp2) (by exact h123.2.1) (by exact h123.2.2.2) u124b7.1 u124b9.1
  rw [u124r] at u124T
  have u1249p : M121.2.2 88 9 = v1 := (s_pX fM121 (s_pI eM118 (s_pI eM112 (s_pI eM108 (s_pP eM102 (by decide) (s_pW eM101))))) : v1 = M121.2.2 88 9).symm
  have u12410p : M121.2.2 88 10 = 12 := (s_pX fM121 (s_pI eM118 (s_pI eM112 (s_pI eM108 (s_pW eM102)))) : 12 = M121.2.2 88 10).symm
  have u124a := aim_i (M := M0) (N := M121) (p := v1) (v := 12) (h := a3) cv1 u1249p (by exact zz88_11) (by exact zz88_12) (by exact zz88_13) u124p (by exact ⟨hp4.1, hp4.2⟩) (by exact ⟨u124K.1, u124K.2⟩) (by exact ⟨la113, hp3⟩) (by exact ⟨u124B.1, u124B.2⟩)
  exact hret _ _ _ dX5_aim_64 ⟨hM121, ((((((FX.rf.wP eM101 (by decide)).wP eM102 (by decide)).wI eM108 (by decide)).wI eM112 (by decide)).wI eM118 (by decide)).tr fM121 (by decide)), by exact ⟨u124a, ⟨u124T, u12410p⟩⟩⟩
set_option maxHeartbeats 4000000 in
theorem s6_J7_fill_53178 {l : Launch} {dC : Nat → ClassId} {dI : Nat → Nat → Nat} {ad : Nat → Nat} {cA : Nat → ClassId} {pr : Nat → Nat → Bool} {Kz : mm_M} {M0 : mm_M} (hM0 : INV pr Kz M0) (hpr : PX pr) (a1 : Int) (ha1 : -2147483648 ≤ a1 ∧ a1 ≤ 2147483647) : Cv l 0 yJ7_fill_53178 wsJ7_fill_53178 dC dI ad cA [.ref (ad 90), .int (sI a1)] M0 (fun M' => INV pr Kz M' ∧ FX [90] M0 M' ∧ (b01 (FIL M' 90 a1 256) = 1)) := by
  refine cv_of (cc := cJ7_fill_53178) (maxL := 4) (lv := [(0, .ref (ad 90)), (1, .int (sI a1))]) (by decide) rfl (Nat.le_of_ble_eq_true rfl) rfl ?_
  intro p e s m args below meth c A Q C hret
  refine y_iconst C dJ7_fill_53178_0 ?_
  refine j_istore_n C 2 [(2, .int (sI 0)), (0, .ref (ad 90)), (1, .int (sI a1))] dJ7_fill_53178_1 rfl (by decide) rfl ?_
  refine j_aload_n C 1 0 dJ7_fill_53178_2 rfl rfl ?_
  refine y_alen C 39 256 rfl rfl rfl an_39 rfl rfl dJ7_fill_53178_3 ?_
  refine j_istore_n C 3 [(3, .int (sI 256)), (2, .int (sI 0)), (0, .ref (ad 90)), (1, .int (sI a1))] dJ7_fill_53178_4 rfl (by decide) rfl ?_
  have u101z := fil_0 M0 90 a1
  have L266 : ∀ (n264 : Nat), ∀ (a267 : Int) (M268 : mm_M), (0 ≤ a267 ∧ a267 ≤ 256 ∧ (b01 (FIL M268 90 a1 a267) = 1) ∧ (256 - a267) < (n264 : Int)) → INV pr Kz M268 → FX [90] M0 M268 → jj p l e (cn_R 0) s m args below meth c 0 0 Q 4 dC dI ad cA A M268 5 [(0, .ref (ad 90)), (1, .int (sI a1)), (2, .int (sI a267)), (3, .int (sI 256))] [] := by
    intro n264
    induction n264 with
    | zero =>
      intro a267 M268 h269 hM268 fM268
      exfalso; omega
    | succ n264 ih265 =>
      intro a267 M268 h269 hM268 fM268
      refine j_iload_n C 2 2 dJ7_fill_53178_5 rfl rfl ?_
      refine j_iload_n C 3 3 dJ7_fill_53178_6 rfl rfl ?_
      refine y_icmp_ge C 20 dJ7_fill_53178_7 (by decide) (by exact ⟨⟨(by omega), (by omega)⟩, ⟨(by decide), (by decide)⟩⟩) (fun h271 => ?_) (fun h271 => ?_)
      · have u274x : b01 (FIL M268 90 a1 256) = 1 := b01_i (fun k hk => b01_e (P := FIL M268 90 a1 a267) (by exact h269.2.2.1) k (by omega))
        exact hret _ _ _ dJ7_fill_53178_20 ⟨hM268, (FX.rf.tr fM268 (by decide)), by exact u274x⟩
      · refine j_aload_n C 0 0 dJ7_fill_53178_10 rfl rfl ?_
        refine j_iload_n C 2 2 dJ7_fill_53178_11 rfl rfl ?_
        refine j_iload_n C 1 1 dJ7_fill_53178_12 rfl rfl ?_
        refine y_iastF C 39 256 rfl rfl rfl ak_39 an_39 rfl (sb_39 _) hM268 (PX.w hpr rfl rfl) dJ7_fill_53178_13 (by exact ⟨h269.1, (by omega)⟩) (fun M272 eM272 hM272 => ?_)
        refine y_iinc C 2 [(2, .int (sI (a267 + 1))), (0, .ref (ad 90)), (1, .int (sI a1)), (3, .int (sI 256))] dJ7_fill_53178_14 rfl (by decide) rfl ?_
        refine j_goto C 5 dJ7_fill_53178_17 (by decide) ?_
        have u273z := fil_s (M := M268) (N := M272) (c := 90) (v := a1) (n := a267) (n' := (a267 + 1)) (by exact h269.2.2.1) eM272 (by (clear hM272 eM272 fM268 hM268 ih265 u101z hret C hpr hM0; omega))
        refine j_lv [1, 2, 0, 3] rfl ?_; exact ih265 (a267 + 1) M272 (by exact ⟨(by (clear hM272 eM272 fM268 hM268 ih265 u101z hret C ha1 hpr hM0; omega)), ⟨(by (clear hM272 eM272 fM268 hM268 ih265 u101z hret C ha1 hpr hM0; omega)), ⟨u273z, (by (clear hM272 eM272 fM268 hM268 ih265 u101z hret C ha1 hpr hM0; omega))⟩⟩⟩) hM272 ((FX.rf.tr fM268 (by decide)).wI eM272 (by decide))
  refine j_lv [2, 3, 1, 0] rfl ?_; exact L266 2010 0 M0 (by exact ⟨(by decide), ⟨(by decide), ⟨u101z, (by decide)⟩⟩⟩) hM0 FX.rf
set_option maxHeartbeats 4000000 in
theorem s2_X5_meet {l : Launch} {dC : Nat → ClassId} {dI : Nat → Nat → Nat} {ad : Nat → Nat} {cA : Nat → ClassId} {pr : Nat → Nat → Bool} {Kz : mm_M} {M0 : mm_M} (hM0 : INV pr Kz M0) (hpr : PX pr) (a1 : Int) (ha1 : -2147483648 ≤ a1 ∧ a1 ≤ 2147483647) (a2 : Int) (ha2 : -2147483648 ≤ a2 ∧ a2 ≤ 2147483647) (gp : Nat) (cgp : s_c gp = 6) (egp : gp = M0.2.2 88 9) (f : Nat → Int32) (hp0 : b01 (TN M0 gp f) = 1) (hp1 : b01 (AIM M0 gp (seH f (sI a2))) = 1) (hp2 : b01 (LKQ M0 (seH f (sI a2)) a1) = 1) (hp3 : b01 (RC (seH f (sI a2)) a1) = 1) (hp4 : ((seH f (sI a2)) 27).toInt ≤ a1 ∧ a1 ≤ evF (seH f (sI a2))) (hp5 : 0 ≤ a1 ∧ a1 ≤ 255) (hp6 : 0 ≤ a2 ∧ a2 ≤ 255) : Cv l 4 yX5_meet wsX5_meet dC dI ad cA [.ref (ad 88), .int (sI a1), .int (sI a2)] M0 (fun M' => INV pr Kz M' ∧ FX [82, 85, 86, 89, 90] M0 M' ∧ (b01 (LKQ M' (seH f (sI a2)) (a1 + 1)) = 1) ∧ (b01 (TN M' gp f) = 1)) := by
  refine cv_of (cc := cX5_meet) (maxL := 5) (lv := [(0, .ref (ad 88)), (1, .int (sI a1)), (2, .int (sI a2))]) (by decide) rfl (Nat.le_of_ble_eq_true rfl) rfl ?_
  intro p e s m args below meth c A Q C hret
  have e81g : gp = M0.2.2 81 5 := (b01_e (P := TN M0 gp f) (by exact hp0)).1.1.symm
  have u101a := aim_e (M := M0) (p := gp) (f := (seH f (sI a2))) (by exact hp1)
  have u101v := evF_b (f := (seH f (sI a2))) (by exact ⟨u101a.2.2.2.2.1.1, u101a.2.2.2.2.1.2⟩)
  have u101k : ((seH f (sI a2)) 26).toInt = (f 26).toInt := rfl
  refine j_aload_n C 0 0 dX5_meet_0 rfl rfl ?_
  refine y_getC C 4 90 fX5_meet_15 rfl rfl ft_4_2 sm_4_2 rfl hM0 dX5_meet_1 ?_
  refine j_iload_n C 1 1 dX5_meet_4 rfl rfl ?_
  refine y_iconst C dX5_meet_5 ?_
  refine y_iastF C 39 256 rfl rfl rfl ak_39 an_39 rfl (sb_39 _) hM0 (PX.w hpr rfl rfl) dX5_meet_6 (by exact ⟨hp5.1, (by (clear u101k u101v u101a e81g hret C hp6 hp4 hp3 hp2 hp1 hp0 egp cgp ha2 hpr hM0; omega))⟩) (fun M102 eM102 hM102 => ?_)
  refine y_iconst C dX5_meet_7 ?_
  refine j_istore_n C 3 [(3, .int (sI 0)), (0, .ref (ad 88)), (1, .int (sI a1)), (2, .int (sI a2))] dX5_meet_8 rfl (by decide) rfl ?_
  have u103m := mtb_0 (M := M0) (N := M102) (f := (seH f (sI a2))) (s := a1) eM102
  have u103l := lkq_m (M := M0) (N := M102) (f := (seH f (sI a2))) (t := a1) (x := a1) eM102 (by exact hp2) (by exact ⟨⟨hp5.1, hp5.2⟩, ⟨(by (clear u103m hM102 eM102 u101k u101v e81g hret C hp6 hp4 hp3 hp2 hp1 hp0 egp cgp ha2 hpr hM0; omega)), u101a.2.2.2.2.2.1.1⟩⟩) (b01_e (by exact hp3))
  have u103TM102 := tn_g (S := [90]) (M := M0) (N := M102) (p := gp) (f := f) (by exact hp0) (FX.rf.wI eM102 (by decide)) cgp (by decide)
  have L128 : ∀ (n126 : Nat), ∀ (a129 : Int) (M130 : mm_M), (0 ≤ a129 ∧ a129 ≤ 6 ∧ (b01 (MTB M130 (seH f (sI a2)) a1 a129) = 1) ∧ (b01 (LKQ M130 (seH f (sI a2)) a1) = 1) ∧ (b01 (TN M130 gp f) = 1) ∧ (a129 ≤ ((seH f (sI a2)) 1).toInt) ∧ (6 - a129) < (n126 : Int)) → INV pr Kz M130 → FX [82, 85, 86, 89, 90] M0 M130 → jj p l e (cn_R 4) s m args below meth c 0 0 Q 5 dC dI ad cA A M130 9 [(0, .ref (ad 88)), (1, .int (sI a1)), (2, .int (sI a2)), (3, .int (sI a129))] [] := by
    intro n126
    induction n126 with
    | zero =>
      intro a129 M130 h131 hM130 fM130
      exfalso; (clear fM130 hM130 u103TM102 u103l u103m hM102 eM102 u101k u101v u101a e81g hret C hp6 hp5 hp4 hp3 hp2 hp1 hp0 egp cgp ha2 ha1 hpr hM0; omega)
    | succ n126 ih127 =>
      intro a129 M130 h131 hM130 fM130
      refine j_iload_n C 3 3 dX5_meet_9 rfl rfl ?_
      refine j_aload_n C 0 0 dX5_meet_10 rfl rfl ?_
      refine y_getV C 4 gp fX5_meet_52 rfl rfl ft_4_9 (s_pX fM130 (egp)) dX5_meet_11 ?_
      refine y_getI C 6 _ _ fX5_meet_92 cgp rfl ft_6_0 sb_6_0 hM130 dX5_meet_14 (fun a133 ea133 la133 ua133 => ?_)
      obtain rfl : a133 = (M0.1 gp 0).toInt := s_fX fM130 (s_nin cgp (by decide)) (ea133)
      refine y_icmp_ge C 68 dX5_meet_17 (by decide) (by (clear ua133 la133 fM130 hM130 ih127 u103TM102 u103l u103m hM102 eM102 u101k u101v e81g hret C hp6 hp5 hp4 hp3 hp2 hp1 hp0 egp cgp ha2 ha1 hpr hM0; omega)) (fun h135 => ?_) (fun h135 => ?_)
      · have u152x : a129 = ((seH f (sI a2)) 1).toInt := by (clear ua133 la133 fM130 hM130 ih127 u103TM102 u103l u103m hM102 eM102 u101k u101v e81g hret C hp6 hp5 hp4 hp3 hp2 hp1 hp0 egp cgp ha2 ha1 hpr hM0; omega)
        have u152m : b01 (MTB M130 (seH f (sI a2)) a1 ((seH f (sI a2)) 1).toInt) = 1 := by rw [← u152x]; exact h131.2.2.1
        have u152s := lkq_s (M := M130) (f := (seH f (sI a2))) (t := a1) (t' := a1 + 1) (by exact h131.2.2.2.1) u152m rfl
        exact hret _ _ _ dX5_meet_68 ⟨hM130, (FX.rf.tr fM130 (by decide)), by exact ⟨u152s, h131.2.2.2.2.1⟩⟩
      · refine j_aload_n C 0 0 dX5_meet_20 rfl rfl ?_
        refine y_getC C 4 81 fX5_meet_48 rfl rfl ft_4_0 sm_4_0 rfl hM130 dX5_meet_21 ?_
        refine j_iload_n C 3 3 dX5_meet_24 rfl rfl ?_
        refine j_iload_n C 1 1 dX5_meet_25 rfl rfl ?_
        refine j_iload_n C 2 2 dX5_meet_26 rfl rfl ?_
        have u136E := tn_e (M := M130) (p := gp) (f := f) (by exact h131.2.2.2.2.1)
        refine j_callVi C (d := 3) (As := [.int (sI a129), .int (sI a1), .int (sI a2)]) (st := []) 81 (s_lt rfl rfl) (s_kc (c := 3) rfl rfl) (by decide) rfl (s2_X4_choice hM130 hpr a129 (by (clear u136E h135 ua133 la133 ea133 fM130 hM130 ih127 u103TM102 u103l u103m hM102 eM102 u101k u101v u101a e81g hret C hp6 hp5 hp4 hp3 hp2 hp1 hp0 egp cgp ha2 ha1 hpr hM0; omega)) a1 (by exact ⟨ha1.1, ha1.2⟩) a2 (by exact ⟨ha2.1, ha2.2⟩) gp cgp (s_pX fM130 (e81g)) (by exact u136E.1.2.1) (by exact u136E.1.1) (by exact u136E.1.2.2.2.2) (by exact u136E.1.2.2.1) (by exact u136E.1.2.2.2.1) (by exact ⟨h131.1, (by (clear u136E ua133 la133 fM130 hM130 ih127 u103TM102 u103l u103m hM102 eM102 u101k u101v e81g hret C hp6 hp5 hp4 hp3 hp2 hp1 hp0 egp cgp ha2 ha1 hpr hM0; omega))⟩) (by exact ⟨hp5.1, hp5.2⟩) (by exact ⟨hp6.1, hp6.2⟩)) gX5_meet_X4_choice rfl hdX4_choice (by decide) (Nat.le_of_ble_eq_true rfl) dX5_meet_27 rfl (fun r137 M138 h139 => ?_)
        obtain ⟨a141, rfl, hM138, fM138, h140⟩ := h139
        obtain rfl : a141 = (boF (mdX M130 gp (sI a2)) a129 a1) := by exact h140.2.2.1
        have u142b : (boF (mdX M130 gp (sI a2)) a129 a1) = boF (seH f (sI a2)) a129 a1 := tn_s (M := M130) (p := gp) (f := f) (b := a129) (s := a1) (hx := a2) (by exact h131.2.2.2.2.1) (by exact ⟨h131.1, (by (clear h140 fM138 hM138 u136E ua133 la133 fM130 hM130 ih127 u103TM102 u103l u103m hM102 eM102 u101k u101v e81g hret C hp6 hp5 hp4 hp3 hp2 hp1 hp0 egp cgp ha2 ha1 hpr hM0; omega))⟩)
        have u142T := tn_f (M := M130) (N := M138) (p := gp) (f := f) (by exact h131.2.2.2.2.1) fM138 (by decide) cgp (by exact h140.2.2.2)
        have u142m := mtb_c (M := M130) (N := M138) (f := (seH f (sI a2))) (s := a1) (b := a129) (by exact h131.2.2.1) fM138 (by decide)
        have u142l := lkq_c (M := M130) (N := M138) (f := (seH f (sI a2))) (t := a1) (by exact h131.2.2.2.1) fM138 (by decide)
        have u142v := bo_ev (f := (seH f (sI a2))) (b := a129) (s := a1) (by exact ⟨u101a.2.2.2.2.1.1, u101a.2.2.2.2.1.2⟩) (by exact ⟨hp5.1, hp4.2⟩)
        refine j_istore C 4 [(4, .int (sI (boF (mdX M130 gp (sI a2)) a129 a1))), (0, .ref (ad 88)), (1, .int (sI a1)), (2, .int (sI a2)), (3, .int (sI a129))] dX5_meet_30 (by decide) rfl ?_
        refine j_aload_n C 1 0 dX5_meet_32 rfl rfl ?_
        refine y_getC C 4 89 fX5_meet_9 rfl rfl ft_4_1 sm_4_1 rfl hM138 dX5_meet_33 ?_
        refine j_iload_n C 2 1 dX5_meet_36 rfl rfl ?_
        refine y_bipush C dX5_meet_37 rfl ?_
        refine y_imul C dX5_meet_39 ?_
        refine j_iload_n C 4 3 dX5_meet_40 rfl rfl ?_
        refine y_iadd C dX5_meet_41 ?_
        refine j_iload C 0 dX5_meet_42 rfl ?_
        refine y_iast C 38 1536 _ _ rfl rfl rfl ak_38 an_38 rfl (sb_38 _) hM138 (PX.w hpr rfl rfl) dX5_meet_44 (by (clear u142v u142l u142m u142T u142b h140 fM138 hM138 u136E ua133 la133 fM130 hM130 ih127 u103TM102 u103l u103m hM102 eM102 u101k e81g hret C hp6 hp3 hp2 hp1 hp0 egp cgp ha2 hpr hM0; omega)) (by exact ⟨⟨(by (clear u142v u142l u142m u142T fM138 hM138 u136E h135 ua133 la133 ea133 fM130 hM130 h131 ih127 u103TM102 u103l u103m hM102 eM102 u101k u101v u101a e81g hret C hp6 hp5 hp4 hp3 hp2 hp1 hp0 egp cgp ha2 ha1 hpr hM0; omega)), (by (clear u142v u142l u142m u142T fM138 hM138 u136E h135 ua133 la133 ea133 fM130 hM130 h131 ih127 u103TM102 u103l u103m hM102 eM102 u101k u101v u101a e81g hret C hp6 hp5 hp4 hp3 hp2 hp1 hp0 egp cgp ha2 ha1 hpr hM0; omega))⟩, ⟨h140.1, h140.2.1⟩⟩) (fun M143 eM143 hM143 => ?_)
        have u144h : ((a1 * 6) + a129).toNat = (6 * a1 + a129).toNat := by (clear hM143 eM143 u142v u142l u142m u142T u142b h140 fM138 hM138 u136E h135 ua133 la133 ea133 fM130 hM130 h131 ih127 u103TM102 u103l u103m hM102 eM102 u101k u101v u101a e81g hret C hp6 hp5 hp4 hp3 hp2 hp1 hp0 egp cgp ha2 ha1 hpr hM0; omega)
        have u144w : M143 = wI M138 89 (6 * a1 + a129).toNat (sI (boF (mdX M130 gp (sI a2)) a129 a1)) := by rw [← u144h]; exact eM143
        have u144l := lkq_p (f := (seH f (sI a2))) (t := a1) u144w (by exact u142l) (by exact ⟨(by (clear u144w u144h hM143 eM143 u142v u142l u142m u142T u142b h140 fM138 hM138 u136E ua133 la133 fM130 hM130 ih127 u103TM102 u103l u103m hM102 eM102 u101k u101v e81g hret C hp6 hp5 hp4 hp3 hp2 hp1 hp0 egp cgp ha2 ha1 hpr hM0; omega)), ⟨u101a.2.2.2.2.2.1.1, ⟨h131.1, ⟨(by (clear u144w u144h hM143 eM143 u142v u142l u142m u142T u142b h140 fM138 hM138 u136E ua133 la133 fM130 hM130 ih127 u103TM102 u103l u103m hM102 eM102 u101k u101v e81g hret C hp6 hp5 hp4 hp3 hp2 hp1 hp0 egp cgp ha2 ha1 hpr hM0; omega)), u101a.2.2.2.2.2.2.2⟩⟩⟩⟩)
        have u144m := mtb_p (f := (seH f (sI a2))) u144w (by exact u142m) (by exact ⟨hp5.1, h131.1⟩)
        have u144m1 := u144m.1
        have u144m2 := u144m.2 (by (clear u144m1 u144m u144l u144w u144h hM143 eM143 u142v u142l u142m u142T fM138 hM138 u136E h135 ua133 la133 ea133 fM130 hM130 h131 ih127 u103TM102 u103l u103m hM102 eM102 u101k u101v u101a e81g hret C hp6 hp5 hp4 hp3 hp2 hp1 hp0 egp cgp ha2 ha1 hpr hM0; omega))
        have u144TM143 := tn_g (S := [89]) (M := M138) (N := M143) (p := gp) (f := f) (by exact u142T) (FX.rf.wI eM143 (by decide)) cgp (by decide)
        have u144o : (orI a1 (pw2 (boF (mdX M130 gp (sI a2)) a129 a1))) = orI a1 (pw2 (boF (seH f (sI a2)) a129 a1)) := by rw [show (boF (mdX M130 gp (sI a2)) a129 a1) = boF (seH f (sI a2)) a129 a1 by exact u142b]
        have u144c : boF (seH f (sI a2)) a129 a1 = -1 ∨ RC (seH f (sI a2)) (orI a1 (pw2 (boF (mdX M130 gp (sI a2)) a129 a1))) := by
          by_cases c : boF (seH f (sI a2)) a129 a1 = -1
          · exact Or.inl c
          · exact Or.inr (by rw [u144o]; exact rc_s (b01_e (by exact hp3)) (by exact ⟨h131.1, (by (clear c u144o u144TM143 u144m2 u144m1 u144m u144l u144w u144h hM143 eM143 u142v u142l u142m u142T u142b h140 fM138 hM138 u136E ua133 la133 fM130 hM130 ih127 u103TM102 u103l u103m hM102 eM102 u101k u101v e81g hret C hp6 hp5 hp4 hp3 hp2 hp1 hp0 egp cgp ha2 ha1 hpr hM0; omega))⟩) c)
        refine j_iload C 0 dX5_meet_45 rfl ?_
        refine y_if_lt C 62 dX5_meet_47 (by decide) (by (clear u144c u144o u144TM143 u144m1 u144m u144l u144w u144h hM143 eM143 u142v u142l u142m u142T fM138 hM138 u136E h135 ua133 la133 ea133 fM130 hM130 h131 ih127 u103TM102 u103l u103m hM102 eM102 u101k u101v u101a e81g hret C hp6 hp5 hp4 hp3 hp2 hp1 hp0 egp cgp ha2 ha1 hpr hM0; omega)) (fun h145 => ?_) (fun h145 => ?_)
        · refine y_iinc C 4 [(3, .int (sI (a129 + 1))), (4, .int (sI (boF (mdX M130 gp (sI a2)) a129 a1))), (0, .ref (ad 88)), (1, .int (sI a1)), (2, .int (sI a2))] dX5_meet_62 rfl (by decide) rfl ?_
          refine j_goto C 9 dX5_meet_65 (by decide) ?_
          have u146m := mtb_n (M := M143) (f := (seH f (sI a2))) (s := a1) (b := a129) (b' := a129 + 1) (by exact u144m1) rfl (by (clear h145 u144c u144o u144TM143 u144m1 u144m u144l u144w u144h hM143 eM143 u142v u142l u142m u142T h140 fM138 hM138 u136E h135 ua133 la133 ea133 fM130 hM130 h131 ih127 u103TM102 u103l u103m hM102 eM102 u101k u101v u101a e81g hret C hp6 hp5 hp4 hp3 hp2 hp1 hp0 egp cgp ha2 ha1 hpr hM0; omega)) (Or.inl (by (clear u144c u144o u144TM143 u144m1 u144m u144l u144w u144h hM143 eM143 u142v u142l u142m u142T fM138 hM138 u136E h135 ua133 la133 ea133 fM130 hM130 h131 ih127 u103TM102 u103l u103m hM102 eM102 u101k u101v u101a e81g hret C hp6 hp5 hp4 hp3 hp2 hp1 hp0 egp cgp ha2 ha1 hpr hM0; omega)))
          refine j_lv [2, 3, 4, 0] rfl ?_; exact ih127 (a129 + 1) M143 (by exact ⟨(by (clear h145 u144c u144o u144m2 u144m1 u144m u144w u144h hM143 eM143 u142v u142l u142m u142T u142b h140 fM138 hM138 u136E ua133 la133 fM130 hM130 ih127 u103TM102 u103l u103m hM102 eM102 u101k u101v e81g hret C hp6 hp5 hp4 hp3 hp2 hp1 hp0 egp cgp ha2 ha1 hpr hM0; omega)), ⟨(by (clear h145 u144c u144o u144m2 u144m1 u144m u144w u144h hM143 eM143 u142v u142l u142m u142T u142b h140 fM138 hM138 u136E ua133 la133 fM130 hM130 ih127 u103TM102 u103l u103m hM102 eM102 u101k u101v e81g hret C hp6 hp5 hp4 hp3 hp2 hp1 hp0 egp cgp ha2 ha1 hpr hM0; omega)), ⟨u146m, ⟨u144l, ⟨u144TM143, ⟨(by (clear h145 u144c u144o u144m2 u144m1 u144m u144w u144h hM143 eM143 u142v u142l u142m u142T u142b h140 fM138 hM138 u136E ua133 la133 fM130 hM130 ih127 u103TM102 u103l u103m hM102 eM102 u101k u101v e81g hret C hp6 hp5 hp4 hp3 hp2 hp1 hp0 egp cgp ha2 ha1 hpr hM0; omega)), (by (clear h145 u144c u144o u144m2 u144m1 u144m u144w u144h hM143 eM143 u142v u142l u142m u142T u142b h140 fM138 hM138 u136E ua133 la133 fM130 hM130 ih127 u103TM102 u103l u103m hM102 eM102 u101k u101v e81g hret C hp6 hp5 hp4 hp3 hp2 hp1 hp0 egp cgp ha2 ha1 hpr hM0; omega))⟩⟩⟩⟩⟩⟩) hM143 (((FX.rf.tr fM130 (by decide)).tr fM138 (by decide)).wI eM143 (by decide))
        · have u147c : RC (seH f (sI a2)) (orI a1 (pw2 (boF (mdX M130 gp (sI a2)) a129 a1))) := u144c.resolve_left (by (clear u144c u144o u144TM143 u144m1 u144m u144l u144w u144h hM143 eM143 u142v u142l u142m u142T fM138 hM138 u136E h135 ua133 la133 ea133 fM130 hM130 h131 ih127 u103TM102 u103l u103m hM102 eM102 u101k u101v u101a e81g hret C hp6 hp5 hp4 hp3 hp2 hp1 hp0 egp cgp ha2 ha1 hpr hM0; omega))
          have u147o := u144o
          refine j_aload_n C 1 0 dX5_meet_50 rfl rfl ?_
          refine y_getC C 4 90 fX5_meet_15 rfl rfl ft_4_2 sm_4_2 rfl hM143 dX5_meet_51 ?_
          refine j_iload_n C 2 1 dX5_meet_54 rfl rfl ?_
          refine y_iconst C dX5_meet_55 ?_
          refine j_iload C 0 dX5_meet_56 rfl ?_
          refine e_shl1 C 7 128 dX5_meet_58 rfl (by decide) (by (clear u147o u147c u144c u144o u144TM143 u144m1 u144m u144l u144w u144h hM143 eM143 u142v u142l u142m u142T fM138 hM138 u136E h135 ua133 la133 ea133 fM130 hM130 h131 ih127 u103TM102 u103l u103m hM102 eM102 u101k u101v u101a e81g hret C hp6 hp5 hp4 hp3 hp2 hp1 hp0 egp cgp ha2 ha1 hpr hM0; omega)) (fun lb148 ub148 => ?_)
          refine e_iorN C 8 255 dX5_meet_59 rfl (by decide) (by exact ⟨hp5.1, ⟨hp5.2, ⟨(by (clear u147o u147c h145 u144c u144o u144TM143 u144m2 u144m1 u144m u144l u144w u144h hM143 eM143 u142v u142l u142m u142T u142b h140 fM138 hM138 u136E h135 ua133 la133 ea133 fM130 hM130 h131 ih127 u103TM102 u103l u103m hM102 eM102 u101k u101v u101a e81g hret C hp6 hp4 hp3 hp2 hp1 hp0 egp cgp ha2 hpr hM0; omega)), (by (clear u147o u147c h145 u144c u144o u144TM143 u144m2 u144m1 u144m u144l u144w u144h hM143 eM143 u142v u142l u142m u142T u142b h140 fM138 hM138 u136E h135 ua133 la133 ea133 fM130 hM130 h131 ih127 u103TM102 u103l u103m hM102 eM102 u101k u101v u101a e81g hret C hp6 hp4 hp3 hp2 hp1 hp0 egp cgp ha2 hpr hM0; omega))⟩⟩⟩) (fun lb149 ub149 ob149 => ?_)
          refine y_iconst C dX5_meet_60 ?_
          refine y_iastF C 39 256 rfl rfl rfl ak_39 an_39 rfl (sb_39 _) hM143 (PX.w hpr rfl rfl) dX5_meet_61 (by exact ⟨lb149, (by (clear ob149 ub148 lb148 u147o u147c h145 u144c u144TM143 u144m2 u144m1 u144m u144l u144w u144h hM143 eM143 u142v u142l u142m u142T u142b h140 fM138 hM138 u136E h135 ua133 la133 ea133 fM130 hM130 h131 ih127 u103TM102 u103l u103m hM102 eM102 u101k u101v u101a e81g hret C hp6 hp5 hp4 hp3 hp2 hp1 hp0 egp cgp ha2 ha1 hpr hM0; omega))⟩) (fun M150 eM150 hM150 => ?_)
          refine y_iinc C 4 [(3, .int (sI (a129 + 1))), (4, .int (sI (boF (mdX M130 gp (sI a2)) a129 a1))), (0, .ref (ad 88)), (1, .int (sI a1)), (2, .int (sI a2))] dX5_meet_62 rfl (by decide) rfl ?_
          refine j_goto C 9 dX5_meet_65 (by decide) ?_
          have u151l := lkq_m (M := M143) (N := M150) (f := (seH f (sI a2))) (t := a1) (x := (orI a1 (pw2 (boF (mdX M130 gp (sI a2)) a129 a1)))) eM150 (by exact u144l) (by exact ⟨⟨lb149, ub149⟩, ⟨ob149.1, u101a.2.2.2.2.2.1.1⟩⟩) u147c
          have u151m := mtb_y (M := M143) (N := M150) (f := (seH f (sI a2))) (s := a1) (b := a129) (b' := a129 + 1) (x := (orI a1 (pw2 (boF (mdX M130 gp (sI a2)) a129 a1)))) eM150 (by exact u144m1) rfl (by (clear u151l hM150 eM150 ob149 ub149 lb149 ub148 lb148 u147o u147c h145 u144c u144o u144TM143 u144m1 u144m u144l u144w u144h hM143 eM143 u142v u142l u142m u142T h140 fM138 hM138 u136E h135 ua133 la133 ea133 fM130 hM130 h131 ih127 u103TM102 u103l u103m hM102 eM102 u101k u101v u101a e81g hret C hp6 hp5 hp4 hp3 hp2 hp1 hp0 egp cgp ha2 ha1 hpr hM0; omega)) u147o
          have u151TM150 := tn_g (S := [90]) (M := M143) (N := M150) (p := gp) (f := f) (by exact u144TM143) (FX.rf.wI eM150 (by decide)) cgp (by decide)
          refine j_lv [2, 3, 4, 0] rfl ?_; exact ih127 (a129 + 1) M150 (by exact ⟨(by (clear hM150 eM150 ob149 ub149 lb149 ub148 lb148 u147o u147c h145 u144c u144o u144TM143 u144m2 u144m1 u144m u144l u144w u144h hM143 eM143 u142v u142l u142m u142T u142b h140 fM138 hM138 u136E ua133 la133 fM130 hM130 ih127 u103TM102 u103l u103m hM102 eM102 u101k u101v e81g hret C hp6 hp5 hp4 hp3 hp2 hp1 hp0 egp cgp ha2 ha1 hpr hM0; omega)), ⟨(by (clear hM150 eM150 ob149 ub149 lb149 ub148 lb148 u147o u147c h145 u144c u144o u144TM143 u144m2 u144m1 u144m u144l u144w u144h hM143 eM143 u142v u142l u142m u142T u142b h140 fM138 hM138 u136E ua133 la133 fM130 hM130 ih127 u103TM102 u103l u103m hM102 eM102 u101k u101v e81g hret C hp6 hp5 hp4 hp3 hp2 hp1 hp0 egp cgp ha2 ha1 hpr hM0; omega)), ⟨u151m, ⟨u151l, ⟨u151TM150, ⟨(by (clear hM150 eM150 ob149 ub149 lb149 ub148 lb148 u147o u147c h145 u144c u144o u144TM143 u144m2 u144m1 u144m u144l u144w u144h hM143 eM143 u142v u142l u142m u142T u142b h140 fM138 hM138 u136E ua133 la133 fM130 hM130 ih127 u103TM102 u103l u103m hM102 eM102 u101k u101v e81g hret C hp6 hp5 hp4 hp3 hp2 hp1 hp0 egp cgp ha2 ha1 hpr hM0; omega)), (by (clear hM150 eM150 ob149 ub149 lb149 ub148 lb148 u147o u147c h145 u144c u144o u144TM143 u144m2 u144m1 u144m u144l u144w u144h hM143 eM143 u142v u142l u142m u142T u142b h140 fM138 hM138 u136E ua133 la133 fM130 hM130 ih127 u103TM102 u103l u103m hM102 eM102 u101k u101v e81g hret C hp6 hp5 hp4 hp3 hp2 hp1 hp0 egp cgp ha2 ha1 hpr hM0; omega))⟩⟩⟩⟩⟩⟩) hM150 ((((FX.rf.tr fM130 (by decide)).tr fM138 (by decide)).wI eM143 (by decide)).wI eM150 (by decide))
  refine j_lv [1, 2, 3, 0] rfl ?_; exact L128 2010 0 M102 (by exact ⟨(by decide), ⟨(by decide), ⟨u103m, ⟨u103l, ⟨u103TM102, ⟨u101a.2.2.2.2.2.2.1, (by decide)⟩⟩⟩⟩⟩⟩) hM102 (FX.rf.wI eM102 (by decide))
set_option maxHeartbeats 4000000 in
theorem s2_X5_look {l : Launch} {dC : Nat → ClassId} {dI : Nat → Nat → Nat} {ad : Nat → Nat} {cA : Nat → ClassId} {pr : Nat → Nat → Bool} {Kz : mm_M} {M0 : mm_M} (hM0 : INV pr Kz M0) (hpr : PX pr) {v1 : Nat} (cv1 : s_c v1 = 6) (a3 : Int) (ha3 : -2147483648 ≤ a3 ∧ a3 ≤ 2147483647) (hp0 : b01 (APX M0 v1) = 1) (hp1 : b01 (LAW M0 v1) = 1) (hp2 : b01 (PRR (rwX M0 v1 12)) = 1) (hp3 : (M0.1 12 3).toInt < pw2 (M0.1 12 0).toInt) (hp4 : 0 ≤ a3 ∧ a3 ≤ 255) : Cv l 5 yX5_look wsX5_look dC dI ad cA [.ref (ad 88), .ref (ad v1), .ref (ad 12), .int (sI a3)] M0 (fun M' => INV pr Kz M' ∧ FX [81, 82, 83, 84, 85, 86, 88, 89, 90] M0 M' ∧ (b01 (LKP M' v1 (seH (rwX M0 v1 12) (sI a3))) = 1) ∧ (b01 (TN M' v1 (rwX M0 v1 12)) = 1) ∧ (M'.2.2 88 9 = v1)) := by
  refine cv_of (cc := cX5_look) (maxL := 5) (lv := [(0, .ref (ad 88)), (1, .ref (ad v1)), (2, .ref (ad 12)), (3, .int (sI a3))]) (by decide) rfl (Nat.le_of_ble_eq_true rfl) rfl ?_
  intro p e s m args below meth c A Q C hret
  refine j_aload_n C 0 0 dX5_look_0 rfl rfl ?_
  refine j_aload_n C 1 1 dX5_look_1 rfl rfl ?_
  refine j_aload_n C 2 2 dX5_look_2 rfl rfl ?_
  refine j_iload_n C 3 3 dX5_look_3 rfl rfl ?_
  refine j_callVv C (d := 1) (As := [.ref (ad v1), .ref (ad 12), .int (sI a3)]) (st := []) 88 (s_lt rfl rfl) (s_kc (c := 4) rfl rfl) (by decide) rfl (s2_X5_aim hM0 hpr cv1 a3 (by exact ⟨ha3.1, ha3.2⟩) (by exact hp0) (by exact hp1) (by exact hp2) (by exact hp3) (by exact ⟨hp4.1, hp4.2⟩)) gX5_look_X5_aim rfl hdX5_aim (by decide) (Nat.le_of_ble_eq_true rfl) dX5_look_4 rfl (fun M102 h103 => ?_)
  obtain ⟨hM102, fM102, h104⟩ := h103
  have e88a : v1 = M102.2.2 88 9 := (b01_e (P := AIM M102 v1 (seH (rwX M0 v1 12) (sI a3))) (by exact h104.1)).1.symm
  have u105a := aim_e (M := M102) (p := v1) (f := (seH (rwX M0 v1 12) (sI a3))) (by exact h104.1)
  have u105v := evF_b (f := (seH (rwX M0 v1 12) (sI a3))) (by exact ⟨u105a.2.2.2.2.1.1, u105a.2.2.2.2.1.2⟩)
  refine j_aload_n C 0 0 dX5_look_7 rfl rfl ?_
  refine y_getC C 4 90 fX5_look_15 rfl rfl ft_4_2 sm_4_2 rfl hM102 dX5_look_8 ?_
  refine y_iconst C dX5_look_11 ?_
  refine j_callSv C (d := 0) (As := [.ref (ad 90), .int (sI 0)]) (st := []) (s6_J7_fill_53178 hM102 hpr 0 (by exact ⟨(by decide), (by decide)⟩)) gX5_look_J7_fill_53178 rfl hdJ7_fill_53178s (by decide) (Nat.le_of_ble_eq_true rfl) dX5_look_12 rfl (fun M107 h108 => ?_)
  obtain ⟨hM107, fM107, h109⟩ := h108
  refine j_aload_n C 0 0 dX5_look_15 rfl rfl ?_
  refine y_getC C 4 90 fX5_look_15 rfl rfl ft_4_2 sm_4_2 rfl hM107 dX5_look_16 ?_
  refine j_aload_n C 0 0 dX5_look_19 rfl rfl ?_
  refine y_getI C 4 _ _ fX5_look_45 rfl rfl ft_4_13 sb_4_13 hM107 dX5_look_20 (fun a110 ea110 la110 ua110 => ?_)
  obtain rfl : a110 = (M102.1 88 13).toInt := s_fX fM107 (by decide) (ea110)
  refine y_iconst C dX5_look_23 ?_
  refine y_iastF C 39 256 rfl rfl rfl ak_39 an_39 rfl (sb_39 _) hM107 (PX.w hpr rfl rfl) dX5_look_24 (by exact ⟨la110, (by (clear la110 h109 fM107 hM107 u105v e88a h104 fM102 hM102 hret C hp4 hp3 hp2 hp1 hp0 ha3 cv1 hpr hM0; omega))⟩) (fun M112 eM112 hM112 => ?_)
  refine j_aload_n C 0 0 dX5_look_25 rfl rfl ?_
  refine y_getI C 4 _ _ fX5_look_45 rfl rfl ft_4_13 sb_4_13 hM112 dX5_look_26 (fun a113 ea113 la113 ua113 => ?_)
  obtain rfl : a113 = (M102.1 88 13).toInt := s_fX fM107 (by decide) (s_fa eM112 (by decide) (ea113))
  refine j_istore C 4 [(4, .int (sI (M102.1 88 13).toInt)), (0, .ref (ad 88)), (1, .ref (ad v1)), (2, .ref (ad 12)), (3, .int (sI a3))] dX5_look_29 (by decide) rfl ?_
  have u115l := lkq_0 (M := M107) (N := M112) (f := (seH (rwX M0 v1 12) (sI a3))) (s := (M102.1 88 13).toInt) (by exact h109) eM112 (by exact ⟨u105a.2.2.1, la110⟩)
  have u115T := tn_g (M := M102) (N := M112) (p := v1) (f := rwX M0 v1 12) (by exact h104.2.1) (((FX.rf.tr fM107 (by decide)).wI eM112 (by decide)) : FX [90] M102 M112) cv1 (by decide)
  have u115A := aim_c (M := M102) (N := M112) (p := v1) (f := (seH (rwX M0 v1 12) (sI a3))) (by exact h104.1) (((FX.rf.tr fM107 (by decide)).wI eM112 (by decide)) : FX [90] M102 M112) cv1 (by decide)
  have L133 : ∀ (n131 : Nat), ∀ (a134 : Int) (M135 : mm_M), (0 ≤ a134 ∧ a134 ≤ 256 ∧ (b01 (LKQ M135 (seH (rwX M0 v1 12) (sI a3)) a134) = 1) ∧ (b01 (TN M135 v1 (rwX M0 v1 12)) = 1) ∧ (b01 (AIM M135 v1 (seH (rwX M0 v1 12) (sI a3))) = 1) ∧ (((seH (rwX M0 v1 12) (sI a3)) 27).toInt ≤ a134) ∧ (a134 ≤ evF (seH (rwX M0 v1 12) (sI a3)) + 1) ∧ (256 - a134) < (n131 : Int)) → INV pr Kz M135 → FX [81, 82, 83, 84, 85, 86, 88, 89, 90] M0 M135 → jj p l e (cn_R 5) s m args below meth c 0 0 Q 5 dC dI ad cA A M135 31 [(0, .ref (ad 88)), (3, .int (sI a3)), (4, .int (sI a134))] [] := by
    intro n131
    induction n131 with
    | zero =>
      intro a134 M135 h136 hM135 fM135
      exfalso; (clear fM135 hM135 u115A u115T u115l ua113 la113 ea113 hM112 eM112 ua110 la110 ea110 h109 fM107 hM107 u105v u105a e88a h104 fM102 hM102 hret C hp4 hp3 hp2 hp1 hp0 ha3 cv1 hpr hM0; omega)
    | succ n131 ih132 =>
      intro a134 M135 h136 hM135 fM135
      have e88M135 : v1 = M135.2.2 88 9 := (b01_e (P := AIM M135 v1 (seH (rwX M0 v1 12) (sI a3))) (by exact h136.2.2.2.2.1)).1.symm
      have u137a := aim_e (M := M135) (p := v1) (f := (seH (rwX M0 v1 12) (sI a3))) (by exact h136.2.2.2.2.1)
      have u137v := evF_b (f := (seH (rwX M0 v1 12) (sI a3))) (by exact ⟨u105a.2.2.2.2.1.1, u105a.2.2.2.2.1.2⟩)
      refine j_iload C 2 dX5_look_31 rfl ?_
      refine j_aload_n C 0 0 dX5_look_33 rfl rfl ?_
      refine y_getI C 4 _ _ fX5_look_38 rfl rfl ft_4_11 sb_4_11 hM135 dX5_look_34 (fun a138 ea138 la138 ua138 => ?_)
      obtain rfl : a138 = (M135.1 88 11).toInt := ea138
      refine y_icmp_gt C 64 dX5_look_37 (by decide) (by (clear ua138 la138 u137v e88M135 fM135 hM135 ih132 u115A u115T u115l ua113 la113 ea113 hM112 eM112 ua110 la110 ea110 h109 fM107 hM107 u105a e88a h104 fM102 hM102 hret C hp4 hp3 hp2 hp1 hp0 ha3 cv1 hpr hM0; omega)) (fun h140 => ?_) (fun h140 => ?_)
      · have u150p := lkp_i (M := M135) (p := v1) (f := (seH (rwX M0 v1 12) (sI a3))) (t := a134) (b01_e (by exact h136.2.2.2.2.1)) (by exact h136.2.2.1) (by (clear ua138 la138 u137v e88M135 fM135 hM135 ih132 u115A u115T u115l ua113 la113 ea113 hM112 eM112 ua110 la110 ea110 h109 fM107 hM107 u105v u105a e88a h104 fM102 hM102 hret C hp4 hp3 hp2 hp1 hp0 ha3 cv1 hpr hM0; omega))
        have u1509 : M135.2.2 88 9 = v1 := (b01_e (P := AIM M135 v1 (seH (rwX M0 v1 12) (sI a3))) (by exact h136.2.2.2.2.1)).1
        exact hret _ _ _ dX5_look_64 ⟨hM135, (FX.rf.tr fM135 (by decide)), by exact ⟨u150p, ⟨h136.2.2.2.1, u1509⟩⟩⟩
      · refine j_aload_n C 0 0 dX5_look_40 rfl rfl ?_
        refine y_getC C 4 90 fX5_look_15 rfl rfl ft_4_2 sm_4_2 rfl hM135 dX5_look_41 ?_
        refine j_iload C 2 dX5_look_44 rfl ?_
        refine y_iald C 39 256 _ _ rfl rfl rfl ak_39 an_39 rfl (sb_39 _) hM135 dX5_look_46 (by exact ⟨h136.1, (by (clear ua138 la138 u137v e88M135 fM135 hM135 ih132 u115A u115T u115l ua113 la113 ea113 hM112 eM112 ua110 la110 ea110 h109 fM107 hM107 u105a e88a h104 fM102 hM102 hret C hp4 hp3 hp2 hp1 hp0 ha3 cv1 hpr hM0; omega))⟩) (fun a141 ea141 la141 ua141 => ?_)
        obtain rfl : a141 = (M135.1 90 (a134).toNat).toInt := ea141
        refine y_iconst C dX5_look_47 ?_
        refine y_icmp_ne C 58 dX5_look_48 (by decide) (by exact ⟨⟨la141, ua141⟩, ⟨(by decide), (by decide)⟩⟩) (fun h142 => ?_) (fun h142 => ?_)
        · refine y_iinc C 2 [(4, .int (sI (a134 + 1))), (0, .ref (ad 88)), (3, .int (sI a3))] dX5_look_58 rfl (by decide) rfl ?_
          refine j_goto C 31 dX5_look_61 (by decide) ?_
          have u143l := lkq_n (M := M135) (f := (seH (rwX M0 v1 12) (sI a3))) (t := a134) (t' := a134 + 1) (by exact h136.2.2.1) (by exact h142) rfl
          refine j_lv [1, 2, 0] rfl ?_; exact ih132 (a134 + 1) M135 (by exact ⟨(by (clear h142 ua141 la141 ua138 la138 u137v e88M135 fM135 hM135 ih132 u115A u115T u115l ua113 la113 hM112 eM112 ua110 la110 h109 fM107 hM107 e88a h104 fM102 hM102 hret C hp4 hp3 hp2 hp1 hp0 ha3 cv1 hpr hM0; omega)), ⟨(by (clear h142 ua141 la141 ua138 la138 u137v e88M135 fM135 hM135 ih132 u115A u115T u115l ua113 la113 hM112 eM112 ua110 la110 h109 fM107 hM107 e88a h104 fM102 hM102 hret C hp4 hp3 hp2 hp1 hp0 ha3 cv1 hpr hM0; omega)), ⟨u143l, ⟨h136.2.2.2.1, ⟨h136.2.2.2.2.1, ⟨(by (clear h142 ua141 la141 ua138 la138 u137v e88M135 fM135 hM135 ih132 u115A u115T u115l ua113 la113 hM112 eM112 ua110 la110 h109 fM107 hM107 e88a h104 fM102 hM102 hret C hp4 hp3 hp2 hp1 hp0 ha3 cv1 hpr hM0; omega)), ⟨(by (clear h142 ua141 la141 ua138 la138 u137v e88M135 fM135 hM135 ih132 u115A u115T u115l ua113 la113 hM112 eM112 ua110 la110 h109 fM107 hM107 e88a h104 fM102 hM102 hret C hp4 hp3 hp2 hp1 hp0 ha3 cv1 hpr hM0; omega)), (by (clear h142 ua141 la141 ua138 la138 u137v e88M135 fM135 hM135 ih132 u115A u115T u115l ua113 la113 hM112 eM112 ua110 la110 h109 fM107 hM107 e88a h104 fM102 hM102 hret C hp4 hp3 hp2 hp1 hp0 ha3 cv1 hpr hM0; omega))⟩⟩⟩⟩⟩⟩⟩) hM135 (FX.rf.tr fM135 (by decide))
        · have u144r : b01 (RC (seH (rwX M0 v1 12) (sI a3)) a134) = 1 := b01_i ((b01_e (P := LKQ M135 (seH (rwX M0 v1 12) (sI a3)) a134) (by exact h136.2.2.1)).2.1 a134 (by exact h136.1) (by (clear h142 ua141 la141 ua138 la138 u137v e88M135 fM135 hM135 ih132 u115A u115T u115l ua113 la113 ea113 hM112 eM112 ua110 la110 ea110 h109 fM107 hM107 u105a e88a h104 fM102 hM102 hret C hp4 hp3 hp2 hp1 hp0 ha3 cv1 hpr hM0; omega)) (by exact h142))
          refine j_aload_n C 0 0 dX5_look_51 rfl rfl ?_
          refine j_iload C 2 dX5_look_52 rfl ?_
          refine j_iload_n C 1 3 dX5_look_54 rfl rfl ?_
          refine j_callVv C (d := 4) (As := [.int (sI a134), .int (sI a3)]) (st := []) 88 (s_lt rfl rfl) (s_kc (c := 4) rfl rfl) (by decide) rfl (s2_X5_meet hM135 hpr a134 (by (clear u144r h142 ua141 la141 h140 ua138 la138 u137v u137a e88M135 fM135 hM135 ih132 u115A u115T u115l ua113 la113 ea113 hM112 eM112 ua110 la110 ea110 h109 fM107 hM107 u105v u105a e88a h104 fM102 hM102 hret C hp4 hp3 hp2 hp1 hp0 ha3 cv1 hpr hM0; omega)) a3 (by exact ⟨ha3.1, ha3.2⟩) v1 cv1 (e88M135) (rwX M0 v1 12) (by exact h136.2.2.2.1) (by exact h136.2.2.2.2.1) (by exact h136.2.2.1) (by exact u144r) (by exact ⟨h136.2.2.2.2.2.1, (by (clear u144r h142 ua141 la141 ua138 la138 u137v e88M135 fM135 hM135 ih132 u115A u115T u115l ua113 la113 hM112 eM112 ua110 la110 h109 fM107 hM107 u105v e88a h104 fM102 hM102 hret C hp4 hp3 hp2 hp1 hp0 ha3 cv1 hpr hM0; omega))⟩) (by exact ⟨h136.1, (by (clear u144r h142 ua141 la141 ua138 la138 u137v e88M135 fM135 hM135 ih132 u115A u115T u115l ua113 la113 ea113 hM112 eM112 ua110 la110 ea110 h109 fM107 hM107 u105a e88a h104 fM102 hM102 hret C hp4 hp3 hp2 hp1 hp0 ha3 cv1 hpr hM0; omega))⟩) (by exact ⟨hp4.1, hp4.2⟩)) gX5_look_X5_meet rfl hdX5_meet (by decide) (Nat.le_of_ble_eq_true rfl) dX5_look_55 rfl (fun M146 h147 => ?_)
          obtain ⟨hM146, fM146, h148⟩ := h147
          refine y_iinc C 2 [(4, .int (sI (a134 + 1))), (0, .ref (ad 88)), (3, .int (sI a3))] dX5_look_58 rfl (by decide) rfl ?_
          refine j_goto C 31 dX5_look_61 (by decide) ?_
          have u149A := aim_c (M := M135) (N := M146) (p := v1) (f := (seH (rwX M0 v1 12) (sI a3))) (by exact h136.2.2.2.2.1) ((FX.rf.tr fM146 (by decide)) : FX [82, 85, 86, 89, 90] M135 M146) cv1 (by decide)
          refine j_lv [1, 2, 0] rfl ?_; exact ih132 (a134 + 1) M146 (by exact ⟨(by (clear fM146 hM146 u144r h142 ua141 la141 ua138 la138 u137v e88M135 fM135 hM135 ih132 u115A u115T u115l ua113 la113 hM112 eM112 ua110 la110 h109 fM107 hM107 e88a h104 fM102 hM102 hret C hp4 hp3 hp2 hp1 hp0 ha3 cv1 hpr hM0; omega)), ⟨(by (clear fM146 hM146 u144r h142 ua141 la141 ua138 la138 u137v e88M135 fM135 hM135 ih132 u115A u115T u115l ua113 la113 hM112 eM112 ua110 la110 h109 fM107 hM107 e88a h104 fM102 hM102 hret C hp4 hp3 hp2 hp1 hp0 ha3 cv1 hpr hM0; omega)), ⟨h148.1, ⟨h148.2, ⟨u149A, ⟨(by (clear fM146 hM146 u144r h142 ua141 la141 ua138 la138 u137v e88M135 fM135 hM135 ih132 u115A u115T u115l ua113 la113 hM112 eM112 ua110 la110 h109 fM107 hM107 e88a h104 fM102 hM102 hret C hp4 hp3 hp2 hp1 hp0 ha3 cv1 hpr hM0; omega)), ⟨(by (clear fM146 hM146 u144r h142 ua141 la141 ua138 la138 u137v e88M135 fM135 hM135 ih132 u115A u115T u115l ua113 la113 hM112 eM112 ua110 la110 h109 fM107 hM107 e88a h104 fM102 hM102 hret C hp4 hp3 hp2 hp1 hp0 ha3 cv1 hpr hM0; omega)), (by (clear fM146 hM146 u144r h142 ua141 la141 ua138 la138 u137v e88M135 fM135 hM135 ih132 u115A u115T u115l ua113 la113 hM112 eM112 ua110 la110 h109 fM107 hM107 e88a h104 fM102 hM102 hret C hp4 hp3 hp2 hp1 hp0 ha3 cv1 hpr hM0; omega))⟩⟩⟩⟩⟩⟩⟩) hM146 ((FX.rf.tr fM135 (by decide)).tr fM146 (by decide))
  refine j_lv [1, 4, 0] rfl ?_; exact L133 2010 (M102.1 88 13).toInt M112 (by exact ⟨la110, ⟨(by (clear L133 ua113 la113 hM112 eM112 la110 h109 fM107 hM107 u105v e88a h104 fM102 hM102 hret C hp4 hp3 hp2 hp1 hp0 ha3 cv1 hpr hM0; omega)), ⟨u115l, ⟨u115T, ⟨u115A, ⟨(by (clear L133 ua113 la113 hM112 eM112 la110 h109 fM107 hM107 u105v e88a h104 fM102 hM102 hret C hp4 hp3 hp2 hp1 hp0 ha3 cv1 hpr hM0; omega)), ⟨(by (clear L133 ua113 la113 hM112 eM112 la110 h109 fM107 hM107 u105v e88a h104 fM102 hM102 hret C hp4 hp3 hp2 hp1 hp0 ha3 cv1 hpr hM0; omega)), (by (clear L133 ua113 la113 hM112 eM112 la110 h109 fM107 hM107 u105v e88a h104 fM102 hM102 hret C hp4 hp3 hp2 hp1 hp0 ha3 cv1 hpr hM0; omega))⟩⟩⟩⟩⟩⟩⟩) hM112 (((FX.rf.tr fM102 (by decide)).tr fM107 (by decide)).wI eM112 (by decide))
end
