set_option maxHeartbeats 4000000 in
theorem s4_J7_fill_d0a16 {l : Launch} {dC : Nat → ClassId} {dI : Nat → Nat → Nat} {ad : Nat → Nat} {cA : Nat → ClassId} {pr : Nat → Nat → Bool} {Kz : mm_M} {M0 : mm_M} (hM0 : INV pr Kz M0) (hpr : PX pr) (a1 : Int) (ha1 : -9223372036854775808 ≤ a1 ∧ a1 ≤ 9223372036854775807) : Cv l 0 yJ7_fill_d0a16 wsJ7_fill_d0a16 dC dI ad cA [.ref (ad 52), .long (sJ a1)] M0 (fun M' => INV pr Kz M' ∧ FX [52] M0 M' ∧ (b01 (FIJ M' 52 a1 40) = 1)) := by
  refine cv_of (cc := cJ7_fill_d0a16) (maxL := 5) (lv := [(0, .ref (ad 52)), (1, .long (sJ a1))]) (by decide) rfl (Nat.le_of_ble_eq_true rfl) rfl ?_
  intro p e s m args below meth c A Q C hret
  refine y_iconst C dJ7_fill_d0a16_0 ?_
  refine j_istore_n C 3 [(3, .int (sI 0)), (0, .ref (ad 52)), (1, .long (sJ a1))] dJ7_fill_d0a16_1 rfl (by decide) rfl ?_
  refine j_aload_n C 1 0 dJ7_fill_d0a16_2 rfl rfl ?_
  refine y_alen C 29 40 rfl rfl rfl an_29 rfl rfl dJ7_fill_d0a16_3 ?_
  refine j_istore C 4 [(4, .int (sI 40)), (3, .int (sI 0)), (0, .ref (ad 52)), (1, .long (sJ a1))] dJ7_fill_d0a16_4 (by decide) rfl ?_
  have u101z := fij_0 M0 52 a1
  have L206 : ∀ (n204 : Nat), ∀ (a207 : Int) (M208 : mm_M), (0 ≤ a207 ∧ a207 ≤ 40 ∧ (b01 (FIJ M208 52 a1 a207) = 1) ∧ (40 - a207) < (n204 : Int)) → INV pr Kz M208 → FX [52] M0 M208 → jj p l e (cn_R 0) s m args below meth c 0 0 Q 5 dC dI ad cA A M208 6 [(0, .ref (ad 52)), (1, .long (sJ a1)), (3, .int (sI a207)), (4, .int (sI 40))] [] := by
    intro n204
    induction n204 with
    | zero =>
      intro a207 M208 h209 hM208 fM208
      exfalso; omega
    | succ n204 ih205 =>
      intro a207 M208 h209 hM208 fM208
      refine j_iload_n C 2 3 dJ7_fill_d0a16_6 rfl rfl ?_
      refine j_iload C 3 dJ7_fill_d0a16_7 rfl ?_
      refine y_icmp_ge C 22 dJ7_fill_d0a16_9 (by decide) (by omega) (fun h211 => ?_) (fun h211 => ?_)
      · have u214x : b01 (FIJ M208 52 a1 40) = 1 := b01_i (fun k hk => b01_e (P := FIJ M208 52 a1 a207) (by omega) k (by omega))
        exact hret _ _ _ dJ7_fill_d0a16_22 ⟨hM208, (FX.rf.tr fM208 (by decide)), by omega⟩
      · refine j_aload_n C 0 0 dJ7_fill_d0a16_12 rfl rfl ?_
        refine j_iload_n C 2 3 dJ7_fill_d0a16_13 rfl rfl ?_
        refine j_lload_n C 1 1 dJ7_fill_d0a16_14 rfl rfl ?_
        refine y_last C 29 40 rfl rfl rfl ak_29 an_29 rfl hM208 (PX.w hpr rfl rfl) dJ7_fill_d0a16_15 (by omega) (fun M212 eM212 hM212 => ?_)
        refine y_iinc C 2 [(3, .int (sI (a207 + 1))), (0, .ref (ad 52)), (1, .long (sJ a1)), (4, .int (sI 40))] dJ7_fill_d0a16_16 rfl (by decide) rfl ?_
        refine j_goto C 6 dJ7_fill_d0a16_19 (by decide) ?_
        have u213z := fij_s (M := M208) (N := M212) (c := 52) (v := a1) (n := a207) (n' := (a207 + 1)) (by omega) eM212 (by omega)
        refine j_lv [1, 2, 0, 3] rfl ?_; exact ih205 (a207 + 1) M212 (by omega) hM212 ((FX.rf.tr fM208 (by decide)).wJ eM212 (by decide))
  refine j_lv [2, 3, 1, 0] rfl ?_; exact L206 2010 0 M0 (by omega) hM0 FX.rf
set_option maxHeartbeats 4000000 in
theorem s2_X10_layOut {l : Launch} {dC : Nat → ClassId} {dI : Nat → Nat → Nat} {ad : Nat → Nat} {cA : Nat → ClassId} {pr : Nat → Nat → Bool} {Kz : mm_M} {M0 : mm_M} (hM0 : INV pr Kz M0) (hpr : PX pr) (hq9_1 : ∀ i, s_c i = 9 → pr i 1 = false) (hq9_2 : ∀ i, s_c i = 9 → pr i 2 = false) (a1 : Int) (ha1 : -2147483648 ≤ a1 ∧ a1 ≤ 2147483647) (a2 : Int) (ha2 : -2147483648 ≤ a2 ∧ a2 ≤ 2147483647) (hp0 : 0 ≤ a1 ∧ a1 ≤ 3) (hp1 : 0 ≤ a2 ∧ a2 ≤ 40) : Cv l 1 yX10_layOut wsX10_layOut dC dI ad cA [.ref (ad 51), .int (sI a1), .int (sI a2)] M0 (fun M' => INV pr Kz M' ∧ FX [51, 52] M0 M' ∧ ((M'.1 51 1).toInt = a1 ∧ (M'.1 51 2).toInt = a2) ∧ (b01 (FIJ M' 52 0 40) = 1)) := by
  refine cv_of (cc := cX10_layOut) (maxL := 3) (lv := [(0, .ref (ad 51)), (1, .int (sI a1)), (2, .int (sI a2))]) (by decide) rfl (Nat.le_of_ble_eq_true rfl) rfl ?_
  intro p e s m args below meth c A Q C hret
  refine j_aload_n C 0 0 dX10_layOut_0 rfl rfl ?_
  refine y_getC C 9 52 fX10_layOut_9 rfl rfl ft_9_0 sm_9_0 rfl hM0 dX10_layOut_1 ?_
  refine y_lconst C 0 dX10_layOut_4 rfl ?_
  refine j_callSv C (d := 0) (As := [.ref (ad 52), .long (sJ 0)]) (st := []) (s4_J7_fill_d0a16 hM0 hpr 0 (by omega)) gX10_layOut_J7_fill_d0a16 rfl hdJ7_fill_d0a16s (by decide) (Nat.le_of_ble_eq_true rfl) dX10_layOut_5 rfl (fun M102 h103 => ?_)
  obtain ⟨hM102, fM102, h104⟩ := h103
  refine j_aload_n C 0 0 dX10_layOut_8 rfl rfl ?_
  refine j_iload_n C 1 1 dX10_layOut_9 rfl rfl ?_
  refine y_putI C 9 _ _ qX10_layOut_15 rfl rfl ft_9_1 sb_9_1 hM102 (hq9_1 _ rfl) dX10_layOut_10 (by omega) (fun M105 eM105 hM105 => ?_)
  refine j_aload_n C 0 0 dX10_layOut_13 rfl rfl ?_
  refine j_iload_n C 2 2 dX10_layOut_14 rfl rfl ?_
  refine y_putI C 9 _ _ qX10_layOut_19 rfl rfl ft_9_2 sb_9_2 hM105 (hq9_2 _ rfl) dX10_layOut_15 (by omega) (fun M106 eM106 hM106 => ?_)
  have zz51_1 := (Eq.trans (s_fb eM106 (by decide) (rfl) : (M106.1 51 1).toInt = (M105.1 51 1).toInt) (s_wr eM105 (by omega)))
  have zz51_2 := (Eq.trans (rfl : (M106.1 51 2).toInt = (M106.1 51 2).toInt) (s_wr eM106 (by omega)))
  have u107j : b01 (FIJ M106 52 0 40) = 1 := b01_i (fun k hk => by rw [show M106.2.1 = M102.2.1 by rw [eM106, eM105]]; exact b01_e (P := FIJ M102 52 0 40) (by omega) k hk)
  have zz51_1 := (Eq.trans (s_fb eM106 (by decide) (rfl) : (M106.1 51 1).toInt = (M105.1 51 1).toInt) (s_wr eM105 (by omega))); have zz51_2 := (Eq.trans (rfl : (M106.1 51 2).toInt = (M106.1 51 2).toInt) (s_wr eM106 (by omega))); exact hret _ _ _ dX10_layOut_18 ⟨hM106, (((FX.rf.tr fM102 (by decide)).wI eM105 (by decide)).wI eM106 (by decide)), by omega⟩
set_option maxHeartbeats 4000000 in
theorem s5_J7_fill_d0a16 {l : Launch} {dC : Nat → ClassId} {dI : Nat → Nat → Nat} {ad : Nat → Nat} {cA : Nat → ClassId} {pr : Nat → Nat → Bool} {Kz : mm_M} {M0 : mm_M} (hM0 : INV pr Kz M0) (hpr : PX pr) (a1 : Int) (ha1 : -9223372036854775808 ≤ a1 ∧ a1 ≤ 9223372036854775807) : Cv l 0 yJ7_fill_d0a16 wsJ7_fill_d0a16 dC dI ad cA [.ref (ad 54), .long (sJ a1)] M0 (fun M' => INV pr Kz M' ∧ FX [54] M0 M' ∧ (b01 (FIJ M' 54 a1 40) = 1)) := by
  refine cv_of (cc := cJ7_fill_d0a16) (maxL := 5) (lv := [(0, .ref (ad 54)), (1, .long (sJ a1))]) (by decide) rfl (Nat.le_of_ble_eq_true rfl) rfl ?_
  intro p e s m args below meth c A Q C hret
  refine y_iconst C dJ7_fill_d0a16_0 ?_
  refine j_istore_n C 3 [(3, .int (sI 0)), (0, .ref (ad 54)), (1, .long (sJ a1))] dJ7_fill_d0a16_1 rfl (by decide) rfl ?_
  refine j_aload_n C 1 0 dJ7_fill_d0a16_2 rfl rfl ?_
  refine y_alen C 29 40 rfl rfl rfl an_29 rfl rfl dJ7_fill_d0a16_3 ?_
  refine j_istore C 4 [(4, .int (sI 40)), (3, .int (sI 0)), (0, .ref (ad 54)), (1, .long (sJ a1))] dJ7_fill_d0a16_4 (by decide) rfl ?_
  have u101z := fij_0 M0 54 a1
  have L206 : ∀ (n204 : Nat), ∀ (a207 : Int) (M208 : mm_M), (0 ≤ a207 ∧ a207 ≤ 40 ∧ (b01 (FIJ M208 54 a1 a207) = 1) ∧ (40 - a207) < (n204 : Int)) → INV pr Kz M208 → FX [54] M0 M208 → jj p l e (cn_R 0) s m args below meth c 0 0 Q 5 dC dI ad cA A M208 6 [(0, .ref (ad 54)), (1, .long (sJ a1)), (3, .int (sI a207)), (4, .int (sI 40))] [] := by
    intro n204
    induction n204 with
    | zero =>
      intro a207 M208 h209 hM208 fM208
      exfalso; omega
    | succ n204 ih205 =>
      intro a207 M208 h209 hM208 fM208
      refine j_iload_n C 2 3 dJ7_fill_d0a16_6 rfl rfl ?_
      refine j_iload C 3 dJ7_fill_d0a16_7 rfl ?_
      refine y_icmp_ge C 22 dJ7_fill_d0a16_9 (by decide) (by omega) (fun h211 => ?_) (fun h211 => ?_)
      · have u214x : b01 (FIJ M208 54 a1 40) = 1 := b01_i (fun k hk => b01_e (P := FIJ M208 54 a1 a207) (by omega) k (by omega))
        exact hret _ _ _ dJ7_fill_d0a16_22 ⟨hM208, (FX.rf.tr fM208 (by decide)), by omega⟩
      · refine j_aload_n C 0 0 dJ7_fill_d0a16_12 rfl rfl ?_
        refine j_iload_n C 2 3 dJ7_fill_d0a16_13 rfl rfl ?_
        refine j_lload_n C 1 1 dJ7_fill_d0a16_14 rfl rfl ?_
        refine y_last C 29 40 rfl rfl rfl ak_29 an_29 rfl hM208 (PX.w hpr rfl rfl) dJ7_fill_d0a16_15 (by omega) (fun M212 eM212 hM212 => ?_)
        refine y_iinc C 2 [(3, .int (sI (a207 + 1))), (0, .ref (ad 54)), (1, .long (sJ a1)), (4, .int (sI 40))] dJ7_fill_d0a16_16 rfl (by decide) rfl ?_
        refine j_goto C 6 dJ7_fill_d0a16_19 (by decide) ?_
        have u213z := fij_s (M := M208) (N := M212) (c := 54) (v := a1) (n := a207) (n' := (a207 + 1)) (by omega) eM212 (by omega)
        refine j_lv [1, 2, 0, 3] rfl ?_; exact ih205 (a207 + 1) M212 (by omega) hM212 ((FX.rf.tr fM208 (by decide)).wJ eM212 (by decide))
  refine j_lv [2, 3, 1, 0] rfl ?_; exact L206 2010 0 M0 (by omega) hM0 FX.rf
set_option maxHeartbeats 4000000 in
theorem s3_X10_layOut {l : Launch} {dC : Nat → ClassId} {dI : Nat → Nat → Nat} {ad : Nat → Nat} {cA : Nat → ClassId} {pr : Nat → Nat → Bool} {Kz : mm_M} {M0 : mm_M} (hM0 : INV pr Kz M0) (hpr : PX pr) (hq9_1 : ∀ i, s_c i = 9 → pr i 1 = false) (hq9_2 : ∀ i, s_c i = 9 → pr i 2 = false) (a1 : Int) (ha1 : -2147483648 ≤ a1 ∧ a1 ≤ 2147483647) (a2 : Int) (ha2 : -2147483648 ≤ a2 ∧ a2 ≤ 2147483647) (hp0 : 0 ≤ a1 ∧ a1 ≤ 3) (hp1 : 0 ≤ a2 ∧ a2 ≤ 40) : Cv l 1 yX10_layOut wsX10_layOut dC dI ad cA [.ref (ad 53), .int (sI a1), .int (sI a2)] M0 (fun M' => INV pr Kz M' ∧ FX [53, 54] M0 M' ∧ ((M'.1 53 1).toInt = a1 ∧ (M'.1 53 2).toInt = a2) ∧ (b01 (FIJ M' 54 0 40) = 1)) := by
  refine cv_of (cc := cX10_layOut) (maxL := 3) (lv := [(0, .ref (ad 53)), (1, .int (sI a1)), (2, .int (sI a2))]) (by decide) rfl (Nat.le_of_ble_eq_true rfl) rfl ?_
  intro p e s m args below meth c A Q C hret
  refine j_aload_n C 0 0 dX10_layOut_0 rfl rfl ?_
  refine y_getC C 9 54 fX10_layOut_9 rfl rfl ft_9_0 sm_9_0 rfl hM0 dX10_layOut_1 ?_
  refine y_lconst C 0 dX10_layOut_4 rfl ?_
  refine j_callSv C (d := 0) (As := [.ref (ad 54), .long (sJ 0)]) (st := []) (s5_J7_fill_d0a16 hM0 hpr 0 (by omega)) gX10_layOut_J7_fill_d0a16 rfl hdJ7_fill_d0a16s (by decide) (Nat.le_of_ble_eq_true rfl) dX10_layOut_5 rfl (fun M102 h103 => ?_)
  obtain ⟨hM102, fM102, h104⟩ := h103
  refine j_aload_n C 0 0 dX10_layOut_8 rfl rfl ?_
  refine j_iload_n C 1 1 dX10_layOut_9 rfl rfl ?_
  refine y_putI C 9 _ _ qX10_layOut_15 rfl rfl ft_9_1 sb_9_1 hM102 (hq9_1 _ rfl) dX10_layOut_10 (by omega) (fun M105 eM105 hM105 => ?_)
  refine j_aload_n C 0 0 dX10_layOut_13 rfl rfl ?_
  refine j_iload_n C 2 2 dX10_layOut_14 rfl rfl ?_
  refine y_putI C 9 _ _ qX10_layOut_19 rfl rfl ft_9_2 sb_9_2 hM105 (hq9_2 _ rfl) dX10_layOut_15 (by omega) (fun M106 eM106 hM106 => ?_)
  have zz53_1 := (Eq.trans (s_fb eM106 (by decide) (rfl) : (M106.1 53 1).toInt = (M105.1 53 1).toInt) (s_wr eM105 (by omega)))
  have zz53_2 := (Eq.trans (rfl : (M106.1 53 2).toInt = (M106.1 53 2).toInt) (s_wr eM106 (by omega)))
  have u107j : b01 (FIJ M106 54 0 40) = 1 := b01_i (fun k hk => by rw [show M106.2.1 = M102.2.1 by rw [eM106, eM105]]; exact b01_e (P := FIJ M102 54 0 40) (by omega) k hk)
  have zz53_1 := (Eq.trans (s_fb eM106 (by decide) (rfl) : (M106.1 53 1).toInt = (M105.1 53 1).toInt) (s_wr eM105 (by omega))); have zz53_2 := (Eq.trans (rfl : (M106.1 53 2).toInt = (M106.1 53 2).toInt) (s_wr eM106 (by omega))); exact hret _ _ _ dX10_layOut_18 ⟨hM106, (((FX.rf.tr fM102 (by decide)).wI eM105 (by decide)).wI eM106 (by decide)), by omega⟩
set_option maxHeartbeats 4000000 in
theorem s6_J7_fill_d0a16 {l : Launch} {dC : Nat → ClassId} {dI : Nat → Nat → Nat} {ad : Nat → Nat} {cA : Nat → ClassId} {pr : Nat → Nat → Bool} {Kz : mm_M} {M0 : mm_M} (hM0 : INV pr Kz M0) (hpr : PX pr) (a1 : Int) (ha1 : -9223372036854775808 ≤ a1 ∧ a1 ≤ 9223372036854775807) : Cv l 0 yJ7_fill_d0a16 wsJ7_fill_d0a16 dC dI ad cA [.ref (ad 56), .long (sJ a1)] M0 (fun M' => INV pr Kz M' ∧ FX [56] M0 M' ∧ (b01 (FIJ M' 56 a1 40) = 1)) := by
  refine cv_of (cc := cJ7_fill_d0a16) (maxL := 5) (lv := [(0, .ref (ad 56)), (1, .long (sJ a1))]) (by decide) rfl (Nat.le_of_ble_eq_true rfl) rfl ?_
  intro p e s m args below meth c A Q C hret
  refine y_iconst C dJ7_fill_d0a16_0 ?_
  refine j_istore_n C 3 [(3, .int (sI 0)), (0, .ref (ad 56)), (1, .long (sJ a1))] dJ7_fill_d0a16_1 rfl (by decide) rfl ?_
  refine j_aload_n C 1 0 dJ7_fill_d0a16_2 rfl rfl ?_
  refine y_alen C 29 40 rfl rfl rfl an_29 rfl rfl dJ7_fill_d0a16_3 ?_
  refine j_istore C 4 [(4, .int (sI 40)), (3, .int (sI 0)), (0, .ref (ad 56)), (1, .long (sJ a1))] dJ7_fill_d0a16_4 (by decide) rfl ?_
  have u101z := fij_0 M0 56 a1
  have L206 : ∀ (n204 : Nat), ∀ (a207 : Int) (M208 : mm_M), (0 ≤ a207 ∧ a207 ≤ 40 ∧ (b01 (FIJ M208 56 a1 a207) = 1) ∧ (40 - a207) < (n204 : Int)) → INV pr Kz M208 → FX [56] M0 M208 → jj p l e (cn_R 0) s m args below meth c 0 0 Q 5 dC dI ad cA A M208 6 [(0, .ref (ad 56)), (1, .long (sJ a1)), (3, .int (sI a207)), (4, .int (sI 40))] [] := by
    intro n204
    induction n204 with
    | zero =>
      intro a207 M208 h209 hM208 fM208
      exfalso; omega
    | succ n204 ih205 =>
      intro a207 M208 h209 hM208 fM208
      refine j_iload_n C 2 3 dJ7_fill_d0a16_6 rfl rfl ?_
      refine j_iload C 3 dJ7_fill_d0a16_7 rfl ?_
      refine y_icmp_ge C 22 dJ7_fill_d0a16_9 (by decide) (by omega) (fun h211 => ?_) (fun h211 => ?_)
      · have u214x : b01 (FIJ M208 56 a1 40) = 1 := b01_i (fun k hk => b01_e (P := FIJ M208 56 a1 a207) (by omega) k (by omega))
        exact hret _ _ _ dJ7_fill_d0a16_22 ⟨hM208, (FX.rf.tr fM208 (by decide)), by omega⟩
      · refine j_aload_n C 0 0 dJ7_fill_d0a16_12 rfl rfl ?_
        refine j_iload_n C 2 3 dJ7_fill_d0a16_13 rfl rfl ?_
        refine j_lload_n C 1 1 dJ7_fill_d0a16_14 rfl rfl ?_
        refine y_last C 29 40 rfl rfl rfl ak_29 an_29 rfl hM208 (PX.w hpr rfl rfl) dJ7_fill_d0a16_15 (by omega) (fun M212 eM212 hM212 => ?_)
        refine y_iinc C 2 [(3, .int (sI (a207 + 1))), (0, .ref (ad 56)), (1, .long (sJ a1)), (4, .int (sI 40))] dJ7_fill_d0a16_16 rfl (by decide) rfl ?_
        refine j_goto C 6 dJ7_fill_d0a16_19 (by decide) ?_
        have u213z := fij_s (M := M208) (N := M212) (c := 56) (v := a1) (n := a207) (n' := (a207 + 1)) (by omega) eM212 (by omega)
        refine j_lv [1, 2, 0, 3] rfl ?_; exact ih205 (a207 + 1) M212 (by omega) hM212 ((FX.rf.tr fM208 (by decide)).wJ eM212 (by decide))
  refine j_lv [2, 3, 1, 0] rfl ?_; exact L206 2010 0 M0 (by omega) hM0 FX.rf
set_option maxHeartbeats 4000000 in
theorem s4_X10_layOut {l : Launch} {dC : Nat → ClassId} {dI : Nat → Nat → Nat} {ad : Nat → Nat} {cA : Nat → ClassId} {pr : Nat → Nat → Bool} {Kz : mm_M} {M0 : mm_M} (hM0 : INV pr Kz M0) (hpr : PX pr) (hq9_1 : ∀ i, s_c i = 9 → pr i 1 = false) (hq9_2 : ∀ i, s_c i = 9 → pr i 2 = false) (a1 : Int) (ha1 : -2147483648 ≤ a1 ∧ a1 ≤ 2147483647) (a2 : Int) (ha2 : -2147483648 ≤ a2 ∧ a2 ≤ 2147483647) (hp0 : 0 ≤ a1 ∧ a1 ≤ 3) (hp1 : 0 ≤ a2 ∧ a2 ≤ 40) : Cv l 1 yX10_layOut wsX10_layOut dC dI ad cA [.ref (ad 55), .int (sI a1), .int (sI a2)] M0 (fun M' => INV pr Kz M' ∧ FX [55, 56] M0 M' ∧ ((M'.1 55 1).toInt = a1 ∧ (M'.1 55 2).toInt = a2) ∧ (b01 (FIJ M' 56 0 40) = 1)) := by
  refine cv_of (cc := cX10_layOut) (maxL := 3) (lv := [(0, .ref (ad 55)), (1, .int (sI a1)), (2, .int (sI a2))]) (by decide) rfl (Nat.le_of_ble_eq_true rfl) rfl ?_
  intro p e s m args below meth c A Q C hret
  refine j_aload_n C 0 0 dX10_layOut_0 rfl rfl ?_
  refine y_getC C 9 56 fX10_layOut_9 rfl rfl ft_9_0 sm_9_0 rfl hM0 dX10_layOut_1 ?_
  refine y_lconst C 0 dX10_layOut_4 rfl ?_
  refine j_callSv C (d := 0) (As := [.ref (ad 56), .long (sJ 0)]) (st := []) (s6_J7_fill_d0a16 hM0 hpr 0 (by omega)) gX10_layOut_J7_fill_d0a16 rfl hdJ7_fill_d0a16s (by decide) (Nat.le_of_ble_eq_true rfl) dX10_layOut_5 rfl (fun M102 h103 => ?_)
  obtain ⟨hM102, fM102, h104⟩ := h103
  refine j_aload_n C 0 0 dX10_layOut_8 rfl rfl ?_
  refine j_iload_n C 1 1 dX10_layOut_9 rfl rfl ?_
  refine y_putI C 9 _ _ qX10_layOut_15 rfl rfl ft_9_1 sb_9_1 hM102 (hq9_1 _ rfl) dX10_layOut_10 (by omega) (fun M105 eM105 hM105 => ?_)
  refine j_aload_n C 0 0 dX10_layOut_13 rfl rfl ?_
  refine j_iload_n C 2 2 dX10_layOut_14 rfl rfl ?_
  refine y_putI C 9 _ _ qX10_layOut_19 rfl rfl ft_9_2 sb_9_2 hM105 (hq9_2 _ rfl) dX10_layOut_15 (by omega) (fun M106 eM106 hM106 => ?_)
  have zz55_1 := (Eq.trans (s_fb eM106 (by decide) (rfl) : (M106.1 55 1).toInt = (M105.1 55 1).toInt) (s_wr eM105 (by omega)))
  have zz55_2 := (Eq.trans (rfl : (M106.1 55 2).toInt = (M106.1 55 2).toInt) (s_wr eM106 (by omega)))
  have u107j : b01 (FIJ M106 56 0 40) = 1 := b01_i (fun k hk => by rw [show M106.2.1 = M102.2.1 by rw [eM106, eM105]]; exact b01_e (P := FIJ M102 56 0 40) (by omega) k hk)
  have zz55_1 := (Eq.trans (s_fb eM106 (by decide) (rfl) : (M106.1 55 1).toInt = (M105.1 55 1).toInt) (s_wr eM105 (by omega))); have zz55_2 := (Eq.trans (rfl : (M106.1 55 2).toInt = (M106.1 55 2).toInt) (s_wr eM106 (by omega))); exact hret _ _ _ dX10_layOut_18 ⟨hM106, (((FX.rf.tr fM102 (by decide)).wI eM105 (by decide)).wI eM106 (by decide)), by omega⟩
set_option maxHeartbeats 4000000 in
theorem s7_J7_fill_d0a16 {l : Launch} {dC : Nat → ClassId} {dI : Nat → Nat → Nat} {ad : Nat → Nat} {cA : Nat → ClassId} {pr : Nat → Nat → Bool} {Kz : mm_M} {M0 : mm_M} (hM0 : INV pr Kz M0) (hpr : PX pr) (a1 : Int) (ha1 : -9223372036854775808 ≤ a1 ∧ a1 ≤ 9223372036854775807) : Cv l 0 yJ7_fill_d0a16 wsJ7_fill_d0a16 dC dI ad cA [.ref (ad 58), .long (sJ a1)] M0 (fun M' => INV pr Kz M' ∧ FX [58] M0 M' ∧ (b01 (FIJ M' 58 a1 40) = 1)) := by
  refine cv_of (cc := cJ7_fill_d0a16) (maxL := 5) (lv := [(0, .ref (ad 58)), (1, .long (sJ a1))]) (by decide) rfl (Nat.le_of_ble_eq_true rfl) rfl ?_
  intro p e s m args below meth c A Q C hret
  refine y_iconst C dJ7_fill_d0a16_0 ?_
  refine j_istore_n C 3 [(3, .int (sI 0)), (0, .ref (ad 58)), (1, .long (sJ a1))] dJ7_fill_d0a16_1 rfl (by decide) rfl ?_
  refine j_aload_n C 1 0 dJ7_fill_d0a16_2 rfl rfl ?_
  refine y_alen C 29 40 rfl rfl rfl an_29 rfl rfl dJ7_fill_d0a16_3 ?_
  refine j_istore C 4 [(4, .int (sI 40)), (3, .int (sI 0)), (0, .ref (ad 58)), (1, .long (sJ a1))] dJ7_fill_d0a16_4 (by decide) rfl ?_
  have u101z := fij_0 M0 58 a1
  have L206 : ∀ (n204 : Nat), ∀ (a207 : Int) (M208 : mm_M), (0 ≤ a207 ∧ a207 ≤ 40 ∧ (b01 (FIJ M208 58 a1 a207) = 1) ∧ (40 - a207) < (n204 : Int)) → INV pr Kz M208 → FX [58] M0 M208 → jj p l e (cn_R 0) s m args below meth c 0 0 Q 5 dC dI ad cA A M208 6 [(0, .ref (ad 58)), (1, .long (sJ a1)), (3, .int (sI a207)), (4, .int (sI 40))] [] := by
    intro n204
    induction n204 with
    | zero =>
      intro a207 M208 h209 hM208 fM208
      exfalso; omega
    | succ n204 ih205 =>
      intro a207 M208 h209 hM208 fM208
      refine j_iload_n C 2 3 dJ7_fill_d0a16_6 rfl rfl ?_
      refine j_iload C 3 dJ7_fill_d0a16_7 rfl ?_
      refine y_icmp_ge C 22 dJ7_fill_d0a16_9 (by decide) (by omega) (fun h211 => ?_) (fun h211 => ?_)
      · have u214x : b01 (FIJ M208 58 a1 40) = 1 := b01_i (fun k hk => b01_e (P := FIJ M208 58 a1 a207) (by omega) k (by omega))
        exact hret _ _ _ dJ7_fill_d0a16_22 ⟨hM208, (FX.rf.tr fM208 (by decide)), by omega⟩
      · refine j_aload_n C 0 0 dJ7_fill_d0a16_12 rfl rfl ?_
        refine j_iload_n C 2 3 dJ7_fill_d0a16_13 rfl rfl ?_
        refine j_lload_n C 1 1 dJ7_fill_d0a16_14 rfl rfl ?_
        refine y_last C 29 40 rfl rfl rfl ak_29 an_29 rfl hM208 (PX.w hpr rfl rfl) dJ7_fill_d0a16_15 (by omega) (fun M212 eM212 hM212 => ?_)
        refine y_iinc C 2 [(3, .int (sI (a207 + 1))), (0, .ref (ad 58)), (1, .long (sJ a1)), (4, .int (sI 40))] dJ7_fill_d0a16_16 rfl (by decide) rfl ?_
        refine j_goto C 6 dJ7_fill_d0a16_19 (by decide) ?_
        have u213z := fij_s (M := M208) (N := M212) (c := 58) (v := a1) (n := a207) (n' := (a207 + 1)) (by omega) eM212 (by omega)
        refine j_lv [1, 2, 0, 3] rfl ?_; exact ih205 (a207 + 1) M212 (by omega) hM212 ((FX.rf.tr fM208 (by decide)).wJ eM212 (by decide))
  refine j_lv [2, 3, 1, 0] rfl ?_; exact L206 2010 0 M0 (by omega) hM0 FX.rf
set_option maxHeartbeats 4000000 in
theorem s5_X10_layOut {l : Launch} {dC : Nat → ClassId} {dI : Nat → Nat → Nat} {ad : Nat → Nat} {cA : Nat → ClassId} {pr : Nat → Nat → Bool} {Kz : mm_M} {M0 : mm_M} (hM0 : INV pr Kz M0) (hpr : PX pr) (hq9_1 : ∀ i, s_c i = 9 → pr i 1 = false) (hq9_2 : ∀ i, s_c i = 9 → pr i 2 = false) (a1 : Int) (ha1 : -2147483648 ≤ a1 ∧ a1 ≤ 2147483647) (a2 : Int) (ha2 : -2147483648 ≤ a2 ∧ a2 ≤ 2147483647) (hp0 : 0 ≤ a1 ∧ a1 ≤ 3) (hp1 : 0 ≤ a2 ∧ a2 ≤ 40) : Cv l 1 yX10_layOut wsX10_layOut dC dI ad cA [.ref (ad 57), .int (sI a1), .int (sI a2)] M0 (fun M' => INV pr Kz M' ∧ FX [57, 58] M0 M' ∧ ((M'.1 57 1).toInt = a1 ∧ (M'.1 57 2).toInt = a2) ∧ (b01 (FIJ M' 58 0 40) = 1)) := by
  refine cv_of (cc := cX10_layOut) (maxL := 3) (lv := [(0, .ref (ad 57)), (1, .int (sI a1)), (2, .int (sI a2))]) (by decide) rfl (Nat.le_of_ble_eq_true rfl) rfl ?_
  intro p e s m args below meth c A Q C hret
  refine j_aload_n C 0 0 dX10_layOut_0 rfl rfl ?_
  refine y_getC C 9 58 fX10_layOut_9 rfl rfl ft_9_0 sm_9_0 rfl hM0 dX10_layOut_1 ?_
  refine y_lconst C 0 dX10_layOut_4 rfl ?_
  refine j_callSv C (d := 0) (As := [.ref (ad 58), .long (sJ 0)]) (st := []) (s7_J7_fill_d0a16 hM0 hpr 0 (by omega)) gX10_layOut_J7_fill_d0a16 rfl hdJ7_fill_d0a16s (by decide) (Nat.le_of_ble_eq_true rfl) dX10_layOut_5 rfl (fun M102 h103 => ?_)
  obtain ⟨hM102, fM102, h104⟩ := h103
  refine j_aload_n C 0 0 dX10_layOut_8 rfl rfl ?_
  refine j_iload_n C 1 1 dX10_layOut_9 rfl rfl ?_
  refine y_putI C 9 _ _ qX10_layOut_15 rfl rfl ft_9_1 sb_9_1 hM102 (hq9_1 _ rfl) dX10_layOut_10 (by omega) (fun M105 eM105 hM105 => ?_)
  refine j_aload_n C 0 0 dX10_layOut_13 rfl rfl ?_
  refine j_iload_n C 2 2 dX10_layOut_14 rfl rfl ?_
  refine y_putI C 9 _ _ qX10_layOut_19 rfl rfl ft_9_2 sb_9_2 hM105 (hq9_2 _ rfl) dX10_layOut_15 (by omega) (fun M106 eM106 hM106 => ?_)
  have zz57_1 := (Eq.trans (s_fb eM106 (by decide) (rfl) : (M106.1 57 1).toInt = (M105.1 57 1).toInt) (s_wr eM105 (by omega)))
  have zz57_2 := (Eq.trans (rfl : (M106.1 57 2).toInt = (M106.1 57 2).toInt) (s_wr eM106 (by omega)))
  have u107j : b01 (FIJ M106 58 0 40) = 1 := b01_i (fun k hk => by rw [show M106.2.1 = M102.2.1 by rw [eM106, eM105]]; exact b01_e (P := FIJ M102 58 0 40) (by omega) k hk)
  have zz57_1 := (Eq.trans (s_fb eM106 (by decide) (rfl) : (M106.1 57 1).toInt = (M105.1 57 1).toInt) (s_wr eM105 (by omega))); have zz57_2 := (Eq.trans (rfl : (M106.1 57 2).toInt = (M106.1 57 2).toInt) (s_wr eM106 (by omega))); exact hret _ _ _ dX10_layOut_18 ⟨hM106, (((FX.rf.tr fM102 (by decide)).wI eM105 (by decide)).wI eM106 (by decide)), by omega⟩
set_option maxHeartbeats 4000000 in
theorem s2_X11_numbers {l : Launch} {dC : Nat → ClassId} {dI : Nat → Nat → Nat} {ad : Nat → Nat} {cA : Nat → ClassId} {pr : Nat → Nat → Bool} {Kz : mm_M} {M0 : mm_M} (hM0 : INV pr Kz M0) (hpr : PX pr) (hq9_1 : ∀ i, s_c i = 9 → pr i 1 = false) (hq9_2 : ∀ i, s_c i = 9 → pr i 2 = false) (a1 : Int) (ha1 : -2147483648 ≤ a1 ∧ a1 ≤ 2147483647) (a2 : Int) (ha2 : -2147483648 ≤ a2 ∧ a2 ≤ 2147483647) (a3 : Int) (ha3 : -2147483648 ≤ a3 ∧ a3 ≤ 2147483647) : Ci l 2 yX11_numbers wsX11_numbers dC dI ad cA [.ref (ad 0), .int (sI a1), .int (sI a2), .int (sI a3)] M0 (fun r M' => ∃ a : Int, r = sI a ∧ INV pr Kz M' ∧ FX [51, 52, 53, 54, 55, 56, 57, 58] M0 M' ∧ (-3) ≤ a ∧ a ≤ 0 ∧ (a = nuF a1 a2 a3) ∧ (a = 0 ∧ b01 (TRN M0 M' a1 a2 a3) = 1 ∨ a < 0 ∧ b01 (TRS M0 M') = 1)) := by
  refine ci_of (cc := cX11_numbers) (maxL := 4) (ty := .int) (lv := [(0, .ref (ad 0)), (1, .int (sI a1)), (2, .int (sI a2)), (3, .int (sI a3))]) (by decide) rfl (fun r M' hp => rfl) (Nat.le_of_ble_eq_true rfl) rfl ?_
  intro p e s m args below meth c A Q C hret
  refine j_iload_n C 1 1 dX11_numbers_0 rfl rfl ?_
  refine j_callSi C (d := 0) (As := [.int (sI a1)]) (st := []) (s1_X11_isTray hM0 a1 (by omega)) gX11_numbers_X11_isTray rfl hdX11_isTrays (by decide) (Nat.le_of_ble_eq_true rfl) dX11_numbers_1 rfl (fun r101 M102 h103 => ?_)
  obtain ⟨a105, rfl, rfl, h104⟩ := h103
  refine y_if_eq C 16 dX11_numbers_4 (by decide) (by omega) (fun h106 => ?_) (fun h106 => ?_)
  · refine y_bipush C dX11_numbers_16 rfl ?_
    have u107n := nuF_s a1 a2 a3
    have u107k := trs_r M0
    exact hret _ _ _ _ dX11_numbers_18 ⟨(-2), rfl, hM0, FX.rf, by omega⟩
  · refine j_iload_n C 2 2 dX11_numbers_7 rfl rfl ?_
    refine y_if_lt C 16 dX11_numbers_8 (by decide) (by omega) (fun h108 => ?_) (fun h108 => ?_)
    · refine y_bipush C dX11_numbers_16 rfl ?_
      have u109n := nuF_s a1 a2 a3
      have u109k := trs_r M0
      exact hret _ _ _ _ dX11_numbers_18 ⟨(-2), rfl, hM0, FX.rf, by omega⟩
    · refine j_iload_n C 2 2 dX11_numbers_11 rfl rfl ?_
      refine y_iconst C dX11_numbers_12 ?_
      refine y_icmp_le C 19 dX11_numbers_13 (by decide) (by omega) (fun h110 => ?_) (fun h110 => ?_)
      · refine j_iload_n C 3 3 dX11_numbers_19 rfl rfl ?_
        refine y_if_lt C 29 dX11_numbers_20 (by decide) (by omega) (fun h111 => ?_) (fun h111 => ?_)
        · refine y_bipush C dX11_numbers_29 rfl ?_
          have u112n := nuF_s a1 a2 a3
          have u112k := trs_r M0
          exact hret _ _ _ _ dX11_numbers_31 ⟨(-3), rfl, hM0, FX.rf, by omega⟩
        · refine j_iload_n C 3 3 dX11_numbers_23 rfl rfl ?_
          refine y_bipush C dX11_numbers_24 rfl ?_
          refine y_icmp_le C 32 dX11_numbers_26 (by decide) (by omega) (fun h113 => ?_) (fun h113 => ?_)
          · refine j_aload_n C 0 0 dX11_numbers_32 rfl rfl ?_
            refine y_getC C 10 50 fX11_numbers_52 rfl rfl ft_10_9 sm_10_9 rfl hM0 dX11_numbers_33 ?_
            refine j_iload_n C 1 1 dX11_numbers_36 rfl rfl ?_
            rcases (show a1 = 0 ∨ a1 = 1 ∨ a1 = 2 ∨ a1 = 3 by omega) with h114 | h114 | h114 | h114
            · rw [h114]
              refine y_aaldK C 28 4 9 51 rfl rfl rfl rfl an_28 rfl sma_28 sta_28 (by decide) hM0 dX11_numbers_37 (by omega) rfl ?_
              refine j_iload_n C 2 2 dX11_numbers_38 rfl rfl ?_
              refine j_iload_n C 3 3 dX11_numbers_39 rfl rfl ?_
              refine j_callVv C (d := 1) (As := [.int (sI a2), .int (sI a3)]) (st := []) 51 (s_lt rfl rfl) (s_kc (c := 9) rfl rfl) (by decide) rfl (s2_X10_layOut hM0 hpr hq9_1 hq9_2 a2 (by omega) a3 (by omega) (by omega) (by omega)) gX11_numbers_X10_layOut rfl hdX10_layOut (by decide) (Nat.le_of_ble_eq_true rfl) dX11_numbers_40 rfl (fun M117 h118 => ?_)
              obtain ⟨hM117, fM117, h119⟩ := h118
              refine y_iconst C dX11_numbers_43 ?_
              have u120n := nuF_s a1 a2 a3
              have u120j : b01 (FIJ M117 (s_p0 (s_p0 50 0) 0) 0 40) = 1 := (show b01 (FIJ M117 52 0 40) = 1 from by omega)
              have u120k := trn_i (M := M0) (N := M117) (c := 0) (s := a2) (n := a3) ((FX.rf.tr fM117 (by decide)) : FX [51, 52] M0 M117) (by decide) (show (M117.1 51 1).toInt = a2 by omega) (show (M117.1 51 2).toInt = a3 by omega) (b01_e u120j)
              have u120x : b01 (TRN M0 M117 a1 a2 a3) = 1 := by rw [show a1 = ((0 : Nat) : Int) by omega]; exact u120k
              exact hret _ _ _ _ dX11_numbers_44 ⟨0, rfl, hM117, (FX.rf.tr fM117 (by decide)), by omega⟩
            · rw [h114]
              refine y_aaldK C 28 4 9 53 rfl rfl rfl rfl an_28 rfl sma_28 sta_28 (by decide) hM0 dX11_numbers_37 (by omega) rfl ?_
              refine j_iload_n C 2 2 dX11_numbers_38 rfl rfl ?_
              refine j_iload_n C 3 3 dX11_numbers_39 rfl rfl ?_
              refine j_callVv C (d := 1) (As := [.int (sI a2), .int (sI a3)]) (st := []) 53 (s_lt rfl rfl) (s_kc (c := 9) rfl rfl) (by decide) rfl (s3_X10_layOut hM0 hpr hq9_1 hq9_2 a2 (by omega) a3 (by omega) (by omega) (by omega)) gX11_numbers_X10_layOut rfl hdX10_layOut (by decide) (Nat.le_of_ble_eq_true rfl) dX11_numbers_40 rfl (fun M123 h124 => ?_)
              obtain ⟨hM123, fM123, h125⟩ := h124
              refine y_iconst C dX11_numbers_43 ?_
              have u126n := nuF_s a1 a2 a3
              have u126j : b01 (FIJ M123 (s_p0 (s_p0 50 1) 0) 0 40) = 1 := (show b01 (FIJ M123 54 0 40) = 1 from by omega)
              have u126k := trn_i (M := M0) (N := M123) (c := 1) (s := a2) (n := a3) ((FX.rf.tr fM123 (by decide)) : FX [53, 54] M0 M123) (by decide) (show (M123.1 53 1).toInt = a2 by omega) (show (M123.1 53 2).toInt = a3 by omega) (b01_e u126j)
              have u126x : b01 (TRN M0 M123 a1 a2 a3) = 1 := by rw [show a1 = ((1 : Nat) : Int) by omega]; exact u126k
              exact hret _ _ _ _ dX11_numbers_44 ⟨0, rfl, hM123, (FX.rf.tr fM123 (by decide)), by omega⟩
            · rw [h114]
              refine y_aaldK C 28 4 9 55 rfl rfl rfl rfl an_28 rfl sma_28 sta_28 (by decide) hM0 dX11_numbers_37 (by omega) rfl ?_
              refine j_iload_n C 2 2 dX11_numbers_38 rfl rfl ?_
              refine j_iload_n C 3 3 dX11_numbers_39 rfl rfl ?_
              refine j_callVv C (d := 1) (As := [.int (sI a2), .int (sI a3)]) (st := []) 55 (s_lt rfl rfl) (s_kc (c := 9) rfl rfl) (by decide) rfl (s4_X10_layOut hM0 hpr hq9_1 hq9_2 a2 (by omega) a3 (by omega) (by omega) (by omega)) gX11_numbers_X10_layOut rfl hdX10_layOut (by decide) (Nat.le_of_ble_eq_true rfl) dX11_numbers_40 rfl (fun M129 h130 => ?_)
              obtain ⟨hM129, fM129, h131⟩ := h130
              refine y_iconst C dX11_numbers_43 ?_
              have u132n := nuF_s a1 a2 a3
              have u132j : b01 (FIJ M129 (s_p0 (s_p0 50 2) 0) 0 40) = 1 := (show b01 (FIJ M129 56 0 40) = 1 from by omega)
              have u132k := trn_i (M := M0) (N := M129) (c := 2) (s := a2) (n := a3) ((FX.rf.tr fM129 (by decide)) : FX [55, 56] M0 M129) (by decide) (show (M129.1 55 1).toInt = a2 by omega) (show (M129.1 55 2).toInt = a3 by omega) (b01_e u132j)
              have u132x : b01 (TRN M0 M129 a1 a2 a3) = 1 := by rw [show a1 = ((2 : Nat) : Int) by omega]; exact u132k
              exact hret _ _ _ _ dX11_numbers_44 ⟨0, rfl, hM129, (FX.rf.tr fM129 (by decide)), by omega⟩
            · rw [h114]
              refine y_aaldK C 28 4 9 57 rfl rfl rfl rfl an_28 rfl sma_28 sta_28 (by decide) hM0 dX11_numbers_37 (by omega) rfl ?_
              refine j_iload_n C 2 2 dX11_numbers_38 rfl rfl ?_
              refine j_iload_n C 3 3 dX11_numbers_39 rfl rfl ?_
              refine j_callVv C (d := 1) (As := [.int (sI a2), .int (sI a3)]) (st := []) 57 (s_lt rfl rfl) (s_kc (c := 9) rfl rfl) (by decide) rfl (s5_X10_layOut hM0 hpr hq9_1 hq9_2 a2 (by omega) a3 (by omega) (by omega) (by omega)) gX11_numbers_X10_layOut rfl hdX10_layOut (by decide) (Nat.le_of_ble_eq_true rfl) dX11_numbers_40 rfl (fun M135 h136 => ?_)
              obtain ⟨hM135, fM135, h137⟩ := h136
              refine y_iconst C dX11_numbers_43 ?_
              have u138n := nuF_s a1 a2 a3
              have u138j : b01 (FIJ M135 (s_p0 (s_p0 50 3) 0) 0 40) = 1 := (show b01 (FIJ M135 58 0 40) = 1 from by omega)
              have u138k := trn_i (M := M0) (N := M135) (c := 3) (s := a2) (n := a3) ((FX.rf.tr fM135 (by decide)) : FX [57, 58] M0 M135) (by decide) (show (M135.1 57 1).toInt = a2 by omega) (show (M135.1 57 2).toInt = a3 by omega) (b01_e u138j)
              have u138x : b01 (TRN M0 M135 a1 a2 a3) = 1 := by rw [show a1 = ((3 : Nat) : Int) by omega]; exact u138k
              exact hret _ _ _ _ dX11_numbers_44 ⟨0, rfl, hM135, (FX.rf.tr fM135 (by decide)), by omega⟩
          · refine y_bipush C dX11_numbers_29 rfl ?_
            have u139n := nuF_s a1 a2 a3
            have u139k := trs_r M0
            exact hret _ _ _ _ dX11_numbers_31 ⟨(-3), rfl, hM0, FX.rf, by omega⟩
      · refine y_bipush C dX11_numbers_16 rfl ?_
        have u140n := nuF_s a1 a2 a3
        have u140k := trs_r M0
        exact hret _ _ _ _ dX11_numbers_18 ⟨(-2), rfl, hM0, FX.rf, by omega⟩
set_option maxHeartbeats 4000000 in
theorem s3_X10_has {l : Launch} {dC : Nat → ClassId} {dI : Nat → Nat → Nat} {ad : Nat → Nat} {cA : Nat → ClassId} {pr : Nat → Nat → Bool} {Kz : mm_M} {M0 : mm_M} (hM0 : INV pr Kz M0) (a1 : Int) (ha1 : -2147483648 ≤ a1 ∧ a1 ≤ 2147483647) : Ci l 0 yX10_has wsX10_has dC dI ad cA [.ref (ad 51), .int (sI a1)] M0 (fun r M' => ∃ a : Int, r = sI a ∧ M0 = M' ∧ 0 ≤ a ∧ a ≤ 1 ∧ ((a1 < 0 ∧ a = 0) ∨ ((-1) ≤ (M0.1 51 2).toInt ∧ (M0.1 51 2).toInt ≤ 40 ∧ 0 ≤ a1 ∧ (M0.1 51 2).toInt ≤ a1 ∧ a = 0) ∨ (1 ≤ (M0.1 51 2).toInt ∧ (M0.1 51 2).toInt ≤ 40 ∧ 0 ≤ a1 ∧ a1 < (M0.1 51 2).toInt ∧ a = 1))) := by
  refine ci_of (cc := cX10_has) (maxL := 2) (ty := .boolean) (lv := [(0, .ref (ad 51)), (1, .int (sI a1))]) (by decide) rfl (fun r M' hp => by obtain ⟨a, rfl, -, h⟩ := hp; rcases (show a = 0 ∨ a = 1 by omega) with rfl | rfl <;> rfl) (Nat.le_of_ble_eq_true rfl) rfl ?_
  intro p e s m args below meth c A Q C hret
  refine j_iload_n C 1 1 dX10_has_0 rfl rfl ?_
  refine y_if_lt C 16 dX10_has_1 (by decide) (by omega) (fun h101 => ?_) (fun h101 => ?_)
  · refine y_iconst C dX10_has_16 ?_
    exact hret _ _ _ _ dX10_has_17 ⟨0, rfl, rfl, by omega⟩
  · refine j_iload_n C 1 1 dX10_has_4 rfl rfl ?_
    refine j_aload_n C 0 0 dX10_has_5 rfl rfl ?_
    refine y_getI C 9 _ _ fX10_has_19 rfl rfl ft_9_2 sb_9_2 hM0 dX10_has_6 (fun a102 ea102 la102 ua102 => ?_)
    obtain rfl : a102 = (M0.1 51 2).toInt := ea102
    refine y_icmp_ge C 16 dX10_has_9 (by decide) (by omega) (fun h104 => ?_) (fun h104 => ?_)
    · refine y_iconst C dX10_has_16 ?_
      exact hret _ _ _ _ dX10_has_17 ⟨0, rfl, rfl, by omega⟩
    · refine y_iconst C dX10_has_12 ?_
      refine j_goto C 17 dX10_has_13 (by decide) ?_
      exact hret _ _ _ _ dX10_has_17 ⟨1, rfl, rfl, by omega⟩
set_option maxHeartbeats 4000000 in
theorem s3_X10_put {l : Launch} {dC : Nat → ClassId} {dI : Nat → Nat → Nat} {ad : Nat → Nat} {cA : Nat → ClassId} {pr : Nat → Nat → Bool} {Kz : mm_M} {M0 : mm_M} (hM0 : INV pr Kz M0) (hpr : PX pr) (a1 : Int) (ha1 : -2147483648 ≤ a1 ∧ a1 ≤ 2147483647) (a2 : Int) (ha2 : -9223372036854775808 ≤ a2 ∧ a2 ≤ 9223372036854775807) : Cv l 1 yX10_put wsX10_put dC dI ad cA [.ref (ad 51), .int (sI a1), .long (sJ a2)] M0 (fun M' => INV pr Kz M' ∧ FX [52] M0 M' ∧ (0 ≤ a1 ∧ a1 < (M0.1 51 2).toInt ∧ b01 (M'.2.1 52 = uJ (M0.2.1 52) (a1).toNat (ctF a2 (M0.1 51 1).toInt)) = 1 ∨ (a1 < 0 ∨ (M0.1 51 2).toInt ≤ a1) ∧ b01 (M'.2.1 52 = M0.2.1 52) = 1)) := by
  refine cv_of (cc := cX10_put) (maxL := 4) (lv := [(0, .ref (ad 51)), (1, .int (sI a1)), (2, .long (sJ a2))]) (by decide) rfl (Nat.le_of_ble_eq_true rfl) rfl ?_
  intro p e s m args below meth c A Q C hret
  refine j_aload_n C 0 0 dX10_put_0 rfl rfl ?_
  refine j_iload_n C 1 1 dX10_put_1 rfl rfl ?_
  refine j_callVi C (d := 0) (As := [.int (sI a1)]) (st := []) 51 (s_lt rfl rfl) (s_kc (c := 9) rfl rfl) (by decide) rfl (s3_X10_has hM0 a1 (by omega)) gX10_put_X10_has rfl hdX10_has (by decide) (Nat.le_of_ble_eq_true rfl) dX10_put_2 rfl (fun r101 M102 h103 => ?_)
  obtain ⟨a105, rfl, rfl, h104⟩ := h103
  refine y_if_eq C 19 dX10_put_5 (by decide) (by omega) (fun h106 => ?_) (fun h106 => ?_)
  · have u107k : b01 (M0.2.1 52 = M0.2.1 52) = 1 := b01_i rfl
    exact hret _ _ _ dX10_put_19 ⟨hM0, FX.rf, by omega⟩
  · refine j_aload_n C 0 0 dX10_put_8 rfl rfl ?_
    refine y_getC C 9 52 fX10_put_9 rfl rfl ft_9_0 sm_9_0 rfl hM0 dX10_put_9 ?_
    refine j_iload_n C 1 1 dX10_put_12 rfl rfl ?_
    refine j_aload_n C 0 0 dX10_put_13 rfl rfl ?_
    refine j_lload_n C 2 2 dX10_put_14 rfl rfl ?_
    refine j_callVj C (d := 0) (As := [.long (sJ a2)]) (st := [.int (sI a1), .ref (ad 52)]) 51 (s_lt rfl rfl) (s_kc (c := 9) rfl rfl) (by decide) rfl (s1_X10_cut hM0 rfl a2 (by omega)) gX10_put_X10_cut rfl hdX10_cut (by decide) (Nat.le_of_ble_eq_true rfl) dX10_put_15 rfl (fun r108 M109 h110 => ?_)
    obtain ⟨a112, rfl, rfl, h111⟩ := h110
    refine y_last C 29 40 rfl rfl rfl ak_29 an_29 rfl hM0 (PX.w hpr rfl rfl) dX10_put_18 (by omega) (fun M113 eM113 hM113 => ?_)
    have u114k : b01 (M113.2.1 52 = uJ (M0.2.1 52) (a1).toNat (ctF a2 (M0.1 51 1).toInt)) = 1 := b01_i ((uJ_w eM113).trans (congrArg (uJ (M0.2.1 52) _) (by omega)))
    exact hret _ _ _ dX10_put_19 ⟨hM113, (FX.rf.wJ eM113 (by decide)), by omega⟩
set_option maxHeartbeats 4000000 in
theorem s4_X10_numberAt {l : Launch} {dC : Nat → ClassId} {dI : Nat → Nat → Nat} {ad : Nat → Nat} {cA : Nat → ClassId} {pr : Nat → Nat → Bool} {Kz : mm_M} {M0 : mm_M} (hM0 : INV pr Kz M0) (a1 : Int) (ha1 : -2147483648 ≤ a1 ∧ a1 ≤ 2147483647) : Cj l 1 yX10_numberAt wsX10_numberAt dC dI ad cA [.ref (ad 51), .int (sI a1)] M0 (fun r M' => ∃ a : Int, r = sJ a ∧ M0 = M' ∧ (-9223372036854775808) ≤ a ∧ a ≤ 9223372036854775807 ∧ (0 ≤ a1 ∧ a1 < (M0.1 51 2).toInt ∧ a = (M0.2.1 52 (a1).toNat).toInt ∨ (a1 < 0 ∨ (M0.1 51 2).toInt ≤ a1) ∧ a = 0)) := by
  refine cj_of (cc := cX10_numberAt) (maxL := 2) (lv := [(0, .ref (ad 51)), (1, .int (sI a1))]) (by decide) rfl (Nat.le_of_ble_eq_true rfl) rfl ?_
  intro p e s m args below meth c A Q C hret
  refine j_aload_n C 0 0 dX10_numberAt_0 rfl rfl ?_
  refine j_iload_n C 1 1 dX10_numberAt_1 rfl rfl ?_
  refine j_callVi C (d := 0) (As := [.int (sI a1)]) (st := []) 51 (s_lt rfl rfl) (s_kc (c := 9) rfl rfl) (by decide) rfl (s3_X10_has hM0 a1 (by omega)) gX10_numberAt_X10_has rfl hdX10_has (by decide) (Nat.le_of_ble_eq_true rfl) dX10_numberAt_2 rfl (fun r101 M102 h103 => ?_)
  obtain ⟨a105, rfl, rfl, h104⟩ := h103
  refine y_if_eq C 17 dX10_numberAt_5 (by decide) (by omega) (fun h106 => ?_) (fun h106 => ?_)
  · refine y_lconst C 0 dX10_numberAt_17 rfl ?_
    exact hret _ _ _ _ dX10_numberAt_18 ⟨0, rfl, rfl, by omega⟩
  · refine j_aload_n C 0 0 dX10_numberAt_8 rfl rfl ?_
    refine y_getC C 9 52 fX10_numberAt_9 rfl rfl ft_9_0 sm_9_0 rfl hM0 dX10_numberAt_9 ?_
    refine j_iload_n C 1 1 dX10_numberAt_12 rfl rfl ?_
    refine y_lald C 29 40 rfl rfl rfl ak_29 an_29 rfl dX10_numberAt_13 (by omega) (fun a107 ea107 la107 ua107 => ?_)
    obtain rfl : a107 = (M0.2.1 52 (a1).toNat).toInt := ea107
    refine j_goto C 18 dX10_numberAt_14 (by decide) ?_
    exact hret _ _ _ _ dX10_numberAt_18 ⟨(M0.2.1 52 (a1).toNat).toInt, rfl, rfl, by omega⟩
set_option maxHeartbeats 4000000 in
theorem s4_X10_has {l : Launch} {dC : Nat → ClassId} {dI : Nat → Nat → Nat} {ad : Nat → Nat} {cA : Nat → ClassId} {pr : Nat → Nat → Bool} {Kz : mm_M} {M0 : mm_M} (hM0 : INV pr Kz M0) (a1 : Int) (ha1 : -2147483648 ≤ a1 ∧ a1 ≤ 2147483647) : Ci l 0 yX10_has wsX10_has dC dI ad cA [.ref (ad 53), .int (sI a1)] M0 (fun r M' => ∃ a : Int, r = sI a ∧ M0 = M' ∧ 0 ≤ a ∧ a ≤ 1 ∧ ((a1 < 0 ∧ a = 0) ∨ ((-1) ≤ (M0.1 53 2).toInt ∧ (M0.1 53 2).toInt ≤ 40 ∧ 0 ≤ a1 ∧ (M0.1 53 2).toInt ≤ a1 ∧ a = 0) ∨ (1 ≤ (M0.1 53 2).toInt ∧ (M0.1 53 2).toInt ≤ 40 ∧ 0 ≤ a1 ∧ a1 < (M0.1 53 2).toInt ∧ a = 1))) := by
  refine ci_of (cc := cX10_has) (maxL := 2) (ty := .boolean) (lv := [(0, .ref (ad 53)), (1, .int (sI a1))]) (by decide) rfl (fun r M' hp => by obtain ⟨a, rfl, -, h⟩ := hp; rcases (show a = 0 ∨ a = 1 by omega) with rfl | rfl <;> rfl) (Nat.le_of_ble_eq_true rfl) rfl ?_
  intro p e s m args below meth c A Q C hret
  refine j_iload_n C 1 1 dX10_has_0 rfl rfl ?_
  refine y_if_lt C 16 dX10_has_1 (by decide) (by omega) (fun h101 => ?_) (fun h101 => ?_)
  · refine y_iconst C dX10_has_16 ?_
    exact hret _ _ _ _ dX10_has_17 ⟨0, rfl, rfl, by omega⟩
  · refine j_iload_n C 1 1 dX10_has_4 rfl rfl ?_
    refine j_aload_n C 0 0 dX10_has_5 rfl rfl ?_
    refine y_getI C 9 _ _ fX10_has_19 rfl rfl ft_9_2 sb_9_2 hM0 dX10_has_6 (fun a102 ea102 la102 ua102 => ?_)
    obtain rfl : a102 = (M0.1 53 2).toInt := ea102
    refine y_icmp_ge C 16 dX10_has_9 (by decide) (by omega) (fun h104 => ?_) (fun h104 => ?_)
    · refine y_iconst C dX10_has_16 ?_
      exact hret _ _ _ _ dX10_has_17 ⟨0, rfl, rfl, by omega⟩
    · refine y_iconst C dX10_has_12 ?_
      refine j_goto C 17 dX10_has_13 (by decide) ?_
      exact hret _ _ _ _ dX10_has_17 ⟨1, rfl, rfl, by omega⟩
set_option maxHeartbeats 4000000 in
theorem s4_X10_put {l : Launch} {dC : Nat → ClassId} {dI : Nat → Nat → Nat} {ad : Nat → Nat} {cA : Nat → ClassId} {pr : Nat → Nat → Bool} {Kz : mm_M} {M0 : mm_M} (hM0 : INV pr Kz M0) (hpr : PX pr) (a1 : Int) (ha1 : -2147483648 ≤ a1 ∧ a1 ≤ 2147483647) (a2 : Int) (ha2 : -9223372036854775808 ≤ a2 ∧ a2 ≤ 9223372036854775807) : Cv l 1 yX10_put wsX10_put dC dI ad cA [.ref (ad 53), .int (sI a1), .long (sJ a2)] M0 (fun M' => INV pr Kz M' ∧ FX [54] M0 M' ∧ (0 ≤ a1 ∧ a1 < (M0.1 53 2).toInt ∧ b01 (M'.2.1 54 = uJ (M0.2.1 54) (a1).toNat (ctF a2 (M0.1 53 1).toInt)) = 1 ∨ (a1 < 0 ∨ (M0.1 53 2).toInt ≤ a1) ∧ b01 (M'.2.1 54 = M0.2.1 54) = 1)) := by
  refine cv_of (cc := cX10_put) (maxL := 4) (lv := [(0, .ref (ad 53)), (1, .int (sI a1)), (2, .long (sJ a2))]) (by decide) rfl (Nat.le_of_ble_eq_true rfl) rfl ?_
  intro p e s m args below meth c A Q C hret
  refine j_aload_n C 0 0 dX10_put_0 rfl rfl ?_
  refine j_iload_n C 1 1 dX10_put_1 rfl rfl ?_
  refine j_callVi C (d := 0) (As := [.int (sI a1)]) (st := []) 53 (s_lt rfl rfl) (s_kc (c := 9) rfl rfl) (by decide) rfl (s4_X10_has hM0 a1 (by omega)) gX10_put_X10_has rfl hdX10_has (by decide) (Nat.le_of_ble_eq_true rfl) dX10_put_2 rfl (fun r101 M102 h103 => ?_)
  obtain ⟨a105, rfl, rfl, h104⟩ := h103
  refine y_if_eq C 19 dX10_put_5 (by decide) (by omega) (fun h106 => ?_) (fun h106 => ?_)
  · have u107k : b01 (M0.2.1 54 = M0.2.1 54) = 1 := b01_i rfl
    exact hret _ _ _ dX10_put_19 ⟨hM0, FX.rf, by omega⟩
  · refine j_aload_n C 0 0 dX10_put_8 rfl rfl ?_
    refine y_getC C 9 54 fX10_put_9 rfl rfl ft_9_0 sm_9_0 rfl hM0 dX10_put_9 ?_
    refine j_iload_n C 1 1 dX10_put_12 rfl rfl ?_
    refine j_aload_n C 0 0 dX10_put_13 rfl rfl ?_
    refine j_lload_n C 2 2 dX10_put_14 rfl rfl ?_
    refine j_callVj C (d := 0) (As := [.long (sJ a2)]) (st := [.int (sI a1), .ref (ad 54)]) 53 (s_lt rfl rfl) (s_kc (c := 9) rfl rfl) (by decide) rfl (s1_X10_cut hM0 rfl a2 (by omega)) gX10_put_X10_cut rfl hdX10_cut (by decide) (Nat.le_of_ble_eq_true rfl) dX10_put_15 rfl (fun r108 M109 h110 => ?_)
    obtain ⟨a112, rfl, rfl, h111⟩ := h110
    refine y_last C 29 40 rfl rfl rfl ak_29 an_29 rfl hM0 (PX.w hpr rfl rfl) dX10_put_18 (by omega) (fun M113 eM113 hM113 => ?_)
    have u114k : b01 (M113.2.1 54 = uJ (M0.2.1 54) (a1).toNat (ctF a2 (M0.1 53 1).toInt)) = 1 := b01_i ((uJ_w eM113).trans (congrArg (uJ (M0.2.1 54) _) (by omega)))
    exact hret _ _ _ dX10_put_19 ⟨hM113, (FX.rf.wJ eM113 (by decide)), by omega⟩
set_option maxHeartbeats 4000000 in
theorem s5_X10_numberAt {l : Launch} {dC : Nat → ClassId} {dI : Nat → Nat → Nat} {ad : Nat → Nat} {cA : Nat → ClassId} {pr : Nat → Nat → Bool} {Kz : mm_M} {M0 : mm_M} (hM0 : INV pr Kz M0) (a1 : Int) (ha1 : -2147483648 ≤ a1 ∧ a1 ≤ 2147483647) : Cj l 1 yX10_numberAt wsX10_numberAt dC dI ad cA [.ref (ad 53), .int (sI a1)] M0 (fun r M' => ∃ a : Int, r = sJ a ∧ M0 = M' ∧ (-9223372036854775808) ≤ a ∧ a ≤ 9223372036854775807 ∧ (0 ≤ a1 ∧ a1 < (M0.1 53 2).toInt ∧ a = (M0.2.1 54 (a1).toNat).toInt ∨ (a1 < 0 ∨ (M0.1 53 2).toInt ≤ a1) ∧ a = 0)) := by
  refine cj_of (cc := cX10_numberAt) (maxL := 2) (lv := [(0, .ref (ad 53)), (1, .int (sI a1))]) (by decide) rfl (Nat.le_of_ble_eq_true rfl) rfl ?_
  intro p e s m args below meth c A Q C hret
  refine j_aload_n C 0 0 dX10_numberAt_0 rfl rfl ?_
  refine j_iload_n C 1 1 dX10_numberAt_1 rfl rfl ?_
  refine j_callVi C (d := 0) (As := [.int (sI a1)]) (st := []) 53 (s_lt rfl rfl) (s_kc (c := 9) rfl rfl) (by decide) rfl (s4_X10_has hM0 a1 (by omega)) gX10_numberAt_X10_has rfl hdX10_has (by decide) (Nat.le_of_ble_eq_true rfl) dX10_numberAt_2 rfl (fun r101 M102 h103 => ?_)
  obtain ⟨a105, rfl, rfl, h104⟩ := h103
  refine y_if_eq C 17 dX10_numberAt_5 (by decide) (by omega) (fun h106 => ?_) (fun h106 => ?_)
  · refine y_lconst C 0 dX10_numberAt_17 rfl ?_
    exact hret _ _ _ _ dX10_numberAt_18 ⟨0, rfl, rfl, by omega⟩
  · refine j_aload_n C 0 0 dX10_numberAt_8 rfl rfl ?_
    refine y_getC C 9 54 fX10_numberAt_9 rfl rfl ft_9_0 sm_9_0 rfl hM0 dX10_numberAt_9 ?_
    refine j_iload_n C 1 1 dX10_numberAt_12 rfl rfl ?_
    refine y_lald C 29 40 rfl rfl rfl ak_29 an_29 rfl dX10_numberAt_13 (by omega) (fun a107 ea107 la107 ua107 => ?_)
    obtain rfl : a107 = (M0.2.1 54 (a1).toNat).toInt := ea107
    refine j_goto C 18 dX10_numberAt_14 (by decide) ?_
    exact hret _ _ _ _ dX10_numberAt_18 ⟨(M0.2.1 54 (a1).toNat).toInt, rfl, rfl, by omega⟩
set_option maxHeartbeats 4000000 in
theorem s5_X10_has {l : Launch} {dC : Nat → ClassId} {dI : Nat → Nat → Nat} {ad : Nat → Nat} {cA : Nat → ClassId} {pr : Nat → Nat → Bool} {Kz : mm_M} {M0 : mm_M} (hM0 : INV pr Kz M0) (a1 : Int) (ha1 : -2147483648 ≤ a1 ∧ a1 ≤ 2147483647) : Ci l 0 yX10_has wsX10_has dC dI ad cA [.ref (ad 55), .int (sI a1)] M0 (fun r M' => ∃ a : Int, r = sI a ∧ M0 = M' ∧ 0 ≤ a ∧ a ≤ 1 ∧ ((a1 < 0 ∧ a = 0) ∨ ((-1) ≤ (M0.1 55 2).toInt ∧ (M0.1 55 2).toInt ≤ 40 ∧ 0 ≤ a1 ∧ (M0.1 55 2).toInt ≤ a1 ∧ a = 0) ∨ (1 ≤ (M0.1 55 2).toInt ∧ (M0.1 55 2).toInt ≤ 40 ∧ 0 ≤ a1 ∧ a1 < (M0.1 55 2).toInt ∧ a = 1))) := by
  refine ci_of (cc := cX10_has) (maxL := 2) (ty := .boolean) (lv := [(0, .ref (ad 55)), (1, .int (sI a1))]) (by decide) rfl (fun r M' hp => by obtain ⟨a, rfl, -, h⟩ := hp; rcases (show a = 0 ∨ a = 1 by omega) with rfl | rfl <;> rfl) (Nat.le_of_ble_eq_true rfl) rfl ?_
  intro p e s m args below meth c A Q C hret
  refine j_iload_n C 1 1 dX10_has_0 rfl rfl ?_
  refine y_if_lt C 16 dX10_has_1 (by decide) (by omega) (fun h101 => ?_) (fun h101 => ?_)
  · refine y_iconst C dX10_has_16 ?_
    exact hret _ _ _ _ dX10_has_17 ⟨0, rfl, rfl, by omega⟩
  · refine j_iload_n C 1 1 dX10_has_4 rfl rfl ?_
    refine j_aload_n C 0 0 dX10_has_5 rfl rfl ?_
    refine y_getI C 9 _ _ fX10_has_19 rfl rfl ft_9_2 sb_9_2 hM0 dX10_has_6 (fun a102 ea102 la102 ua102 => ?_)
    obtain rfl : a102 = (M0.1 55 2).toInt := ea102
    refine y_icmp_ge C 16 dX10_has_9 (by decide) (by omega) (fun h104 => ?_) (fun h104 => ?_)
    · refine y_iconst C dX10_has_16 ?_
      exact hret _ _ _ _ dX10_has_17 ⟨0, rfl, rfl, by omega⟩
    · refine y_iconst C dX10_has_12 ?_
      refine j_goto C 17 dX10_has_13 (by decide) ?_
      exact hret _ _ _ _ dX10_has_17 ⟨1, rfl, rfl, by omega⟩
set_option maxHeartbeats 4000000 in
theorem s5_X10_put {l : Launch} {dC : Nat → ClassId} {dI : Nat → Nat → Nat} {ad : Nat → Nat} {cA : Nat → ClassId} {pr : Nat → Nat → Bool} {Kz : mm_M} {M0 : mm_M} (hM0 : INV pr Kz M0) (hpr : PX pr) (a1 : Int) (ha1 : -2147483648 ≤ a1 ∧ a1 ≤ 2147483647) (a2 : Int) (ha2 : -9223372036854775808 ≤ a2 ∧ a2 ≤ 9223372036854775807) : Cv l 1 yX10_put wsX10_put dC dI ad cA [.ref (ad 55), .int (sI a1), .long (sJ a2)] M0 (fun M' => INV pr Kz M' ∧ FX [56] M0 M' ∧ (0 ≤ a1 ∧ a1 < (M0.1 55 2).toInt ∧ b01 (M'.2.1 56 = uJ (M0.2.1 56) (a1).toNat (ctF a2 (M0.1 55 1).toInt)) = 1 ∨ (a1 < 0 ∨ (M0.1 55 2).toInt ≤ a1) ∧ b01 (M'.2.1 56 = M0.2.1 56) = 1)) := by
  refine cv_of (cc := cX10_put) (maxL := 4) (lv := [(0, .ref (ad 55)), (1, .int (sI a1)), (2, .long (sJ a2))]) (by decide) rfl (Nat.le_of_ble_eq_true rfl) rfl ?_
  intro p e s m args below meth c A Q C hret
  refine j_aload_n C 0 0 dX10_put_0 rfl rfl ?_
  refine j_iload_n C 1 1 dX10_put_1 rfl rfl ?_
  refine j_callVi C (d := 0) (As := [.int (sI a1)]) (st := []) 55 (s_lt rfl rfl) (s_kc (c := 9) rfl rfl) (by decide) rfl (s5_X10_has hM0 a1 (by omega)) gX10_put_X10_has rfl hdX10_has (by decide) (Nat.le_of_ble_eq_true rfl) dX10_put_2 rfl (fun r101 M102 h103 => ?_)
  obtain ⟨a105, rfl, rfl, h104⟩ := h103
  refine y_if_eq C 19 dX10_put_5 (by decide) (by omega) (fun h106 => ?_) (fun h106 => ?_)
  · have u107k : b01 (M0.2.1 56 = M0.2.1 56) = 1 := b01_i rfl
    exact hret _ _ _ dX10_put_19 ⟨hM0, FX.rf, by omega⟩
  · refine j_aload_n C 0 0 dX10_put_8 rfl rfl ?_
    refine y_getC C 9 56 fX10_put_9 rfl rfl ft_9_0 sm_9_0 rfl hM0 dX10_put_9 ?_
    refine j_iload_n C 1 1 dX10_put_12 rfl rfl ?_
    refine j_aload_n C 0 0 dX10_put_13 rfl rfl ?_
    refine j_lload_n C 2 2 dX10_put_14 rfl rfl ?_
    refine j_callVj C (d := 0) (As := [.long (sJ a2)]) (st := [.int (sI a1), .ref (ad 56)]) 55 (s_lt rfl rfl) (s_kc (c := 9) rfl rfl) (by decide) rfl (s1_X10_cut hM0 rfl a2 (by omega)) gX10_put_X10_cut rfl hdX10_cut (by decide) (Nat.le_of_ble_eq_true rfl) dX10_put_15 rfl (fun r108 M109 h110 => ?_)
    obtain ⟨a112, rfl, rfl, h111⟩ := h110
    refine y_last C 29 40 rfl rfl rfl ak_29 an_29 rfl hM0 (PX.w hpr rfl rfl) dX10_put_18 (by omega) (fun M113 eM113 hM113 => ?_)
    have u114k : b01 (M113.2.1 56 = uJ (M0.2.1 56) (a1).toNat (ctF a2 (M0.1 55 1).toInt)) = 1 := b01_i ((uJ_w eM113).trans (congrArg (uJ (M0.2.1 56) _) (by omega)))
    exact hret _ _ _ dX10_put_19 ⟨hM113, (FX.rf.wJ eM113 (by decide)), by omega⟩
set_option maxHeartbeats 4000000 in
theorem s6_X10_numberAt {l : Launch} {dC : Nat → ClassId} {dI : Nat → Nat → Nat} {ad : Nat → Nat} {cA : Nat → ClassId} {pr : Nat → Nat → Bool} {Kz : mm_M} {M0 : mm_M} (hM0 : INV pr Kz M0) (a1 : Int) (ha1 : -2147483648 ≤ a1 ∧ a1 ≤ 2147483647) : Cj l 1 yX10_numberAt wsX10_numberAt dC dI ad cA [.ref (ad 55), .int (sI a1)] M0 (fun r M' => ∃ a : Int, r = sJ a ∧ M0 = M' ∧ (-9223372036854775808) ≤ a ∧ a ≤ 9223372036854775807 ∧ (0 ≤ a1 ∧ a1 < (M0.1 55 2).toInt ∧ a = (M0.2.1 56 (a1).toNat).toInt ∨ (a1 < 0 ∨ (M0.1 55 2).toInt ≤ a1) ∧ a = 0)) := by
  refine cj_of (cc := cX10_numberAt) (maxL := 2) (lv := [(0, .ref (ad 55)), (1, .int (sI a1))]) (by decide) rfl (Nat.le_of_ble_eq_true rfl) rfl ?_
  intro p e s m args below meth c A Q C hret
  refine j_aload_n C 0 0 dX10_numberAt_0 rfl rfl ?_
  refine j_iload_n C 1 1 dX10_numberAt_1 rfl rfl ?_
  refine j_callVi C (d := 0) (As := [.int (sI a1)]) (st := []) 55 (s_lt rfl rfl) (s_kc (c := 9) rfl rfl) (by decide) rfl (s5_X10_has hM0 a1 (by omega)) gX10_numberAt_X10_has rfl hdX10_has (by decide) (Nat.le_of_ble_eq_true rfl) dX10_numberAt_2 rfl (fun r101 M102 h103 => ?_)
  obtain ⟨a105, rfl, rfl, h104⟩ := h103
  refine y_if_eq C 17 dX10_numberAt_5 (by decide) (by omega) (fun h106 => ?_) (fun h106 => ?_)
  · refine y_lconst C 0 dX10_numberAt_17 rfl ?_
    exact hret _ _ _ _ dX10_numberAt_18 ⟨0, rfl, rfl, by omega⟩
  · refine j_aload_n C 0 0 dX10_numberAt_8 rfl rfl ?_
    refine y_getC C 9 56 fX10_numberAt_9 rfl rfl ft_9_0 sm_9_0 rfl hM0 dX10_numberAt_9 ?_
    refine j_iload_n C 1 1 dX10_numberAt_12 rfl rfl ?_
    refine y_lald C 29 40 rfl rfl rfl ak_29 an_29 rfl dX10_numberAt_13 (by omega) (fun a107 ea107 la107 ua107 => ?_)
    obtain rfl : a107 = (M0.2.1 56 (a1).toNat).toInt := ea107
    refine j_goto C 18 dX10_numberAt_14 (by decide) ?_
    exact hret _ _ _ _ dX10_numberAt_18 ⟨(M0.2.1 56 (a1).toNat).toInt, rfl, rfl, by omega⟩
set_option maxHeartbeats 4000000 in
theorem s6_X10_has {l : Launch} {dC : Nat → ClassId} {dI : Nat → Nat → Nat} {ad : Nat → Nat} {cA : Nat → ClassId} {pr : Nat → Nat → Bool} {Kz : mm_M} {M0 : mm_M} (hM0 : INV pr Kz M0) (a1 : Int) (ha1 : -2147483648 ≤ a1 ∧ a1 ≤ 2147483647) : Ci l 0 yX10_has wsX10_has dC dI ad cA [.ref (ad 57), .int (sI a1)] M0 (fun r M' => ∃ a : Int, r = sI a ∧ M0 = M' ∧ 0 ≤ a ∧ a ≤ 1 ∧ ((a1 < 0 ∧ a = 0) ∨ ((-1) ≤ (M0.1 57 2).toInt ∧ (M0.1 57 2).toInt ≤ 40 ∧ 0 ≤ a1 ∧ (M0.1 57 2).toInt ≤ a1 ∧ a = 0) ∨ (1 ≤ (M0.1 57 2).toInt ∧ (M0.1 57 2).toInt ≤ 40 ∧ 0 ≤ a1 ∧ a1 < (M0.1 57 2).toInt ∧ a = 1))) := by
  refine ci_of (cc := cX10_has) (maxL := 2) (ty := .boolean) (lv := [(0, .ref (ad 57)), (1, .int (sI a1))]) (by decide) rfl (fun r M' hp => by obtain ⟨a, rfl, -, h⟩ := hp; rcases (show a = 0 ∨ a = 1 by omega) with rfl | rfl <;> rfl) (Nat.le_of_ble_eq_true rfl) rfl ?_
  intro p e s m args below meth c A Q C hret
  refine j_iload_n C 1 1 dX10_has_0 rfl rfl ?_
  refine y_if_lt C 16 dX10_has_1 (by decide) (by omega) (fun h101 => ?_) (fun h101 => ?_)
  · refine y_iconst C dX10_has_16 ?_
    exact hret _ _ _ _ dX10_has_17 ⟨0, rfl, rfl, by omega⟩
  · refine j_iload_n C 1 1 dX10_has_4 rfl rfl ?_
    refine j_aload_n C 0 0 dX10_has_5 rfl rfl ?_
    refine y_getI C 9 _ _ fX10_has_19 rfl rfl ft_9_2 sb_9_2 hM0 dX10_has_6 (fun a102 ea102 la102 ua102 => ?_)
    obtain rfl : a102 = (M0.1 57 2).toInt := ea102
    refine y_icmp_ge C 16 dX10_has_9 (by decide) (by omega) (fun h104 => ?_) (fun h104 => ?_)
    · refine y_iconst C dX10_has_16 ?_
      exact hret _ _ _ _ dX10_has_17 ⟨0, rfl, rfl, by omega⟩
    · refine y_iconst C dX10_has_12 ?_
      refine j_goto C 17 dX10_has_13 (by decide) ?_
      exact hret _ _ _ _ dX10_has_17 ⟨1, rfl, rfl, by omega⟩
set_option maxHeartbeats 4000000 in
theorem s6_X10_put {l : Launch} {dC : Nat → ClassId} {dI : Nat → Nat → Nat} {ad : Nat → Nat} {cA : Nat → ClassId} {pr : Nat → Nat → Bool} {Kz : mm_M} {M0 : mm_M} (hM0 : INV pr Kz M0) (hpr : PX pr) (a1 : Int) (ha1 : -2147483648 ≤ a1 ∧ a1 ≤ 2147483647) (a2 : Int) (ha2 : -9223372036854775808 ≤ a2 ∧ a2 ≤ 9223372036854775807) : Cv l 1 yX10_put wsX10_put dC dI ad cA [.ref (ad 57), .int (sI a1), .long (sJ a2)] M0 (fun M' => INV pr Kz M' ∧ FX [58] M0 M' ∧ (0 ≤ a1 ∧ a1 < (M0.1 57 2).toInt ∧ b01 (M'.2.1 58 = uJ (M0.2.1 58) (a1).toNat (ctF a2 (M0.1 57 1).toInt)) = 1 ∨ (a1 < 0 ∨ (M0.1 57 2).toInt ≤ a1) ∧ b01 (M'.2.1 58 = M0.2.1 58) = 1)) := by
  refine cv_of (cc := cX10_put) (maxL := 4) (lv := [(0, .ref (ad 57)), (1, .int (sI a1)), (2, .long (sJ a2))]) (by decide) rfl (Nat.le_of_ble_eq_true rfl) rfl ?_
  intro p e s m args below meth c A Q C hret
  refine j_aload_n C 0 0 dX10_put_0 rfl rfl ?_
  refine j_iload_n C 1 1 dX10_put_1 rfl rfl ?_
  refine j_callVi C (d := 0) (As := [.int (sI a1)]) (st := []) 57 (s_lt rfl rfl) (s_kc (c := 9) rfl rfl) (by decide) rfl (s6_X10_has hM0 a1 (by omega)) gX10_put_X10_has rfl hdX10_has (by decide) (Nat.le_of_ble_eq_true rfl) dX10_put_2 rfl (fun r101 M102 h103 => ?_)
  obtain ⟨a105, rfl, rfl, h104⟩ := h103
  refine y_if_eq C 19 dX10_put_5 (by decide) (by omega) (fun h106 => ?_) (fun h106 => ?_)
  · have u107k : b01 (M0.2.1 58 = M0.2.1 58) = 1 := b01_i rfl
    exact hret _ _ _ dX10_put_19 ⟨hM0, FX.rf, by omega⟩
  · refine j_aload_n C 0 0 dX10_put_8 rfl rfl ?_
    refine y_getC C 9 58 fX10_put_9 rfl rfl ft_9_0 sm_9_0 rfl hM0 dX10_put_9 ?_
    refine j_iload_n C 1 1 dX10_put_12 rfl rfl ?_
    refine j_aload_n C 0 0 dX10_put_13 rfl rfl ?_
    refine j_lload_n C 2 2 dX10_put_14 rfl rfl ?_
    refine j_callVj C (d := 0) (As := [.long (sJ a2)]) (st := [.int (sI a1), .ref (ad 58)]) 57 (s_lt rfl rfl) (s_kc (c := 9) rfl rfl) (by decide) rfl (s1_X10_cut hM0 rfl a2 (by omega)) gX10_put_X10_cut rfl hdX10_cut (by decide) (Nat.le_of_ble_eq_true rfl) dX10_put_15 rfl (fun r108 M109 h110 => ?_)
    obtain ⟨a112, rfl, rfl, h111⟩ := h110
    refine y_last C 29 40 rfl rfl rfl ak_29 an_29 rfl hM0 (PX.w hpr rfl rfl) dX10_put_18 (by omega) (fun M113 eM113 hM113 => ?_)
    have u114k : b01 (M113.2.1 58 = uJ (M0.2.1 58) (a1).toNat (ctF a2 (M0.1 57 1).toInt)) = 1 := b01_i ((uJ_w eM113).trans (congrArg (uJ (M0.2.1 58) _) (by omega)))
    exact hret _ _ _ dX10_put_19 ⟨hM113, (FX.rf.wJ eM113 (by decide)), by omega⟩
set_option maxHeartbeats 4000000 in
theorem s7_X10_numberAt {l : Launch} {dC : Nat → ClassId} {dI : Nat → Nat → Nat} {ad : Nat → Nat} {cA : Nat → ClassId} {pr : Nat → Nat → Bool} {Kz : mm_M} {M0 : mm_M} (hM0 : INV pr Kz M0) (a1 : Int) (ha1 : -2147483648 ≤ a1 ∧ a1 ≤ 2147483647) : Cj l 1 yX10_numberAt wsX10_numberAt dC dI ad cA [.ref (ad 57), .int (sI a1)] M0 (fun r M' => ∃ a : Int, r = sJ a ∧ M0 = M' ∧ (-9223372036854775808) ≤ a ∧ a ≤ 9223372036854775807 ∧ (0 ≤ a1 ∧ a1 < (M0.1 57 2).toInt ∧ a = (M0.2.1 58 (a1).toNat).toInt ∨ (a1 < 0 ∨ (M0.1 57 2).toInt ≤ a1) ∧ a = 0)) := by
  refine cj_of (cc := cX10_numberAt) (maxL := 2) (lv := [(0, .ref (ad 57)), (1, .int (sI a1))]) (by decide) rfl (Nat.le_of_ble_eq_true rfl) rfl ?_
  intro p e s m args below meth c A Q C hret
  refine j_aload_n C 0 0 dX10_numberAt_0 rfl rfl ?_
  refine j_iload_n C 1 1 dX10_numberAt_1 rfl rfl ?_
  refine j_callVi C (d := 0) (As := [.int (sI a1)]) (st := []) 57 (s_lt rfl rfl) (s_kc (c := 9) rfl rfl) (by decide) rfl (s6_X10_has hM0 a1 (by omega)) gX10_numberAt_X10_has rfl hdX10_has (by decide) (Nat.le_of_ble_eq_true rfl) dX10_numberAt_2 rfl (fun r101 M102 h103 => ?_)
  obtain ⟨a105, rfl, rfl, h104⟩ := h103
  refine y_if_eq C 17 dX10_numberAt_5 (by decide) (by omega) (fun h106 => ?_) (fun h106 => ?_)
  · refine y_lconst C 0 dX10_numberAt_17 rfl ?_
    exact hret _ _ _ _ dX10_numberAt_18 ⟨0, rfl, rfl, by omega⟩
  · refine j_aload_n C 0 0 dX10_numberAt_8 rfl rfl ?_
    refine y_getC C 9 58 fX10_numberAt_9 rfl rfl ft_9_0 sm_9_0 rfl hM0 dX10_numberAt_9 ?_
    refine j_iload_n C 1 1 dX10_numberAt_12 rfl rfl ?_
    refine y_lald C 29 40 rfl rfl rfl ak_29 an_29 rfl dX10_numberAt_13 (by omega) (fun a107 ea107 la107 ua107 => ?_)
    obtain rfl : a107 = (M0.2.1 58 (a1).toNat).toInt := ea107
    refine j_goto C 18 dX10_numberAt_14 (by decide) ?_
    exact hret _ _ _ _ dX10_numberAt_18 ⟨(M0.2.1 58 (a1).toNat).toInt, rfl, rfl, by omega⟩
set_option maxHeartbeats 4000000 in
theorem s2_X11_write {l : Launch} {dC : Nat → ClassId} {dI : Nat → Nat → Nat} {ad : Nat → Nat} {cA : Nat → ClassId} {pr : Nat → Nat → Bool} {Kz : mm_M} {M0 : mm_M} (hM0 : INV pr Kz M0) (hpr : PX pr) (a1 : Int) (ha1 : -2147483648 ≤ a1 ∧ a1 ≤ 2147483647) (a2 : Int) (ha2 : -2147483648 ≤ a2 ∧ a2 ≤ 2147483647) (a3 : Int) (ha3 : -9223372036854775808 ≤ a3 ∧ a3 ≤ 9223372036854775807) : Cj l 2 yX11_write wsX11_write dC dI ad cA [.ref (ad 0), .int (sI a1), .int (sI a2), .long (sJ a3)] M0 (fun r M' => ∃ a : Int, r = sJ a ∧ INV pr Kz M' ∧ FX [52, 54, 56, 58] M0 M' ∧ (-9223372036854775808) ≤ a ∧ a ≤ 9223372036854775807 ∧ ((a1 < 0 ∨ 3 < a1) ∧ a = -2 ∧ b01 (TRS M0 M') = 1 ∨ (0 ≤ a1 ∧ a1 ≤ 3) ∧ (M0.1 (s_p0 50 (a1).toNat) 2).toInt = -1 ∧ a = -6 ∧ b01 (TRS M0 M') = 1 ∨ (0 ≤ a1 ∧ a1 ≤ 3) ∧ ¬ (M0.1 (s_p0 50 (a1).toNat) 2).toInt = -1 ∧ (a2 < 0 ∨ (M0.1 (s_p0 50 (a1).toNat) 2).toInt ≤ a2) ∧ a = -7 ∧ b01 (TRS M0 M') = 1 ∨ (0 ≤ a1 ∧ a1 ≤ 3) ∧ ¬ (M0.1 (s_p0 50 (a1).toNat) 2).toInt = -1 ∧ 0 ≤ a2 ∧ a2 < (M0.1 (s_p0 50 (a1).toNat) 2).toInt ∧ a = ctF a3 (M0.1 (s_p0 50 (a1).toNat) 1).toInt ∧ b01 (TRW M0 M' a1 a2 a) = 1)) := by
  refine cj_of (cc := cX11_write) (maxL := 6) (lv := [(0, .ref (ad 0)), (1, .int (sI a1)), (2, .int (sI a2)), (3, .long (sJ a3))]) (by decide) rfl (Nat.le_of_ble_eq_true rfl) rfl ?_
  intro p e s m args below meth c A Q C hret
  refine j_aload_n C 0 0 dX11_write_0 rfl rfl ?_
  refine j_iload_n C 1 1 dX11_write_1 rfl rfl ?_
  refine j_callVi C (d := 1) (As := [.int (sI a1)]) (st := []) 0 (s_lt rfl rfl) (s_kc (c := 10) rfl rfl) (by decide) rfl (s3_X11_trayRefusal hM0 a1 (by omega)) gX11_write_X11_trayRefusal rfl hdX11_trayRefusal (by decide) (Nat.le_of_ble_eq_true rfl) dX11_write_2 rfl (fun r101 M102 h103 => ?_)
  obtain ⟨a105, rfl, rfl, h104⟩ := h103
  refine j_istore C 5 [(5, .int (sI a105)), (0, .ref (ad 0)), (1, .int (sI a1)), (2, .int (sI a2)), (3, .long (sJ a3))] dX11_write_5 (by decide) rfl ?_
  refine j_iload C 0 dX11_write_7 rfl ?_
  refine y_if_eq C 16 dX11_write_9 (by decide) (by omega) (fun h106 => ?_) (fun h106 => ?_)
  · refine j_aload_n C 1 0 dX11_write_16 rfl rfl ?_
    refine y_getC C 10 50 fX11_write_52 rfl rfl ft_10_9 sm_10_9 rfl hM0 dX11_write_17 ?_
    refine j_iload_n C 2 1 dX11_write_20 rfl rfl ?_
    rcases (show a1 = 0 ∨ a1 = 1 ∨ a1 = 2 ∨ a1 = 3 by omega) with h107 | h107 | h107 | h107
    · rw [h107]
      refine y_aaldK C 28 4 9 51 rfl rfl rfl rfl an_28 rfl sma_28 sta_28 (by decide) hM0 dX11_write_21 (by omega) rfl ?_
      refine j_iload_n C 3 2 dX11_write_22 rfl rfl ?_
      refine j_callVi C (d := 0) (As := [.int (sI a2)]) (st := []) 51 (s_lt rfl rfl) (s_kc (c := 9) rfl rfl) (by decide) rfl (s3_X10_has hM0 a2 (by omega)) gX11_write_X10_has rfl hdX10_has (by decide) (Nat.le_of_ble_eq_true rfl) dX11_write_23 rfl (fun r109 M110 h111 => ?_)
      obtain ⟨a113, rfl, rfl, h112⟩ := h111
      refine y_if_ne C 33 dX11_write_26 (by decide) (by omega) (fun h114 => ?_) (fun h114 => ?_)
      · refine j_aload_n C 1 0 dX11_write_33 rfl rfl ?_
        refine y_getC C 10 50 fX11_write_52 rfl rfl ft_10_9 sm_10_9 rfl hM0 dX11_write_34 ?_
        refine j_iload_n C 2 1 dX11_write_37 rfl rfl ?_
        refine y_aaldK C 28 4 9 51 rfl rfl rfl rfl an_28 rfl sma_28 sta_28 (by decide) hM0 dX11_write_38 (by omega) rfl ?_
        refine j_iload_n C 3 2 dX11_write_39 rfl rfl ?_
        refine j_lload_n C 4 3 dX11_write_40 rfl rfl ?_
        refine j_callVv C (d := 1) (As := [.int (sI a2), .long (sJ a3)]) (st := []) 51 (s_lt rfl rfl) (s_kc (c := 9) rfl rfl) (by decide) rfl (s3_X10_put hM0 hpr a2 (by omega) a3 (by omega)) gX11_write_X10_put rfl hdX10_put (by decide) (Nat.le_of_ble_eq_true rfl) dX11_write_41 rfl (fun M117 h118 => ?_)
        obtain ⟨hM117, fM117, h119⟩ := h118
        refine j_aload_n C 1 0 dX11_write_44 rfl rfl ?_
        refine y_getC C 10 50 fX11_write_52 rfl rfl ft_10_9 sm_10_9 rfl hM117 dX11_write_45 ?_
        refine j_iload_n C 2 1 dX11_write_48 rfl rfl ?_
        refine y_aaldK C 28 4 9 51 rfl rfl rfl rfl an_28 rfl sma_28 sta_28 (by decide) hM117 dX11_write_49 (by omega) rfl ?_
        refine j_iload_n C 3 2 dX11_write_50 rfl rfl ?_
        refine j_callVj C (d := 1) (As := [.int (sI a2)]) (st := []) 51 (s_lt rfl rfl) (s_kc (c := 9) rfl rfl) (by decide) rfl (s4_X10_numberAt hM117 a2 (by omega)) gX11_write_X10_numberAt rfl hdX10_numberAt (by decide) (Nat.le_of_ble_eq_true rfl) dX11_write_51 rfl (fun r121 M122 h123 => ?_)
        obtain ⟨a125, rfl, rfl, h124⟩ := h123
        have u126t := ntX_s M0 a1
        have u126s : tsX M0 a1 = (M0.1 (s_p0 50 (a1).toNat) 2).toInt := rfl
        have u126c : (M0.1 (s_p0 50 (a1).toNat) 2).toInt = (M0.1 51 2).toInt ∧ (M0.1 (s_p0 50 (a1).toNat) 1).toInt = (M0.1 51 1).toInt := by rw [show (a1).toNat = 0 by omega]; exact ⟨rfl, rfl⟩
        have u126ct : ctF a3 (M0.1 (s_p0 50 (a1).toNat) 1).toInt = ctF a3 (M0.1 51 1).toInt := by rw [u126c.2]
        have u126e : M117.2.1 52 = uJ (M0.2.1 52) (a2).toNat (ctF a3 (M0.1 51 1).toInt) := b01_e (by omega)
        have u126q := ctF_b a3 (M0.1 51 1).toInt (by omega)
        have u126v : (M117.2.1 52 (a2).toNat).toInt = ctF a3 (M0.1 51 1).toInt := by rw [u126e]; unfold uJ; rw [if_pos rfl]; exact sJ_t u126q
        have u126z : (M117.1 51 2).toInt = (M0.1 51 2).toInt := by rw [((FX.rf.tr fM117 (by decide)) : FX [52] M0 M117).cell (i := 51) (by decide)]
        have u126w : a125 = ctF a3 (M0.1 51 1).toInt := by omega
        have u126k := trw_i (M := M0) (N := M117) (c := 0) (i := a2) (v := a125) ((FX.rf.tr fM117 (by decide)) : FX [52] M0 M117) (by decide) (by decide) (u126e.trans (congrArg (uJ (M0.2.1 52) _) u126w.symm)) (by omega)
        have u126x : b01 (TRW M0 M117 a1 a2 a125) = 1 := by rw [show a1 = ((0 : Nat) : Int) by omega]; exact u126k
        exact hret _ _ _ _ dX11_write_54 ⟨a125, rfl, hM117, (FX.rf.tr fM117 (by decide)), by omega⟩
      · refine y_ldc2 C (-7) dX11_write_29 kX11_write_387 rfl ?_
        have u127t := ntX_s M0 a1
        have u127s : tsX M0 a1 = (M0.1 (s_p0 50 (a1).toNat) 2).toInt := rfl
        have u127c : (M0.1 (s_p0 50 (a1).toNat) 2).toInt = (M0.1 51 2).toInt ∧ (M0.1 (s_p0 50 (a1).toNat) 1).toInt = (M0.1 51 1).toInt := by rw [show (a1).toNat = 0 by omega]; exact ⟨rfl, rfl⟩
        have u127k := trs_r M0
        exact hret _ _ _ _ dX11_write_32 ⟨(-7), rfl, hM0, FX.rf, by omega⟩
    · rw [h107]
      refine y_aaldK C 28 4 9 53 rfl rfl rfl rfl an_28 rfl sma_28 sta_28 (by decide) hM0 dX11_write_21 (by omega) rfl ?_
      refine j_iload_n C 3 2 dX11_write_22 rfl rfl ?_
      refine j_callVi C (d := 0) (As := [.int (sI a2)]) (st := []) 53 (s_lt rfl rfl) (s_kc (c := 9) rfl rfl) (by decide) rfl (s4_X10_has hM0 a2 (by omega)) gX11_write_X10_has rfl hdX10_has (by decide) (Nat.le_of_ble_eq_true rfl) dX11_write_23 rfl (fun r129 M130 h131 => ?_)
      obtain ⟨a133, rfl, rfl, h132⟩ := h131
      refine y_if_ne C 33 dX11_write_26 (by decide) (by omega) (fun h134 => ?_) (fun h134 => ?_)
      · refine j_aload_n C 1 0 dX11_write_33 rfl rfl ?_
        refine y_getC C 10 50 fX11_write_52 rfl rfl ft_10_9 sm_10_9 rfl hM0 dX11_write_34 ?_
        refine j_iload_n C 2 1 dX11_write_37 rfl rfl ?_
        refine y_aaldK C 28 4 9 53 rfl rfl rfl rfl an_28 rfl sma_28 sta_28 (by decide) hM0 dX11_write_38 (by omega) rfl ?_
        refine j_iload_n C 3 2 dX11_write_39 rfl rfl ?_
        refine j_lload_n C 4 3 dX11_write_40 rfl rfl ?_
        refine j_callVv C (d := 1) (As := [.int (sI a2), .long (sJ a3)]) (st := []) 53 (s_lt rfl rfl) (s_kc (c := 9) rfl rfl) (by decide) rfl (s4_X10_put hM0 hpr a2 (by omega) a3 (by omega)) gX11_write_X10_put rfl hdX10_put (by decide) (Nat.le_of_ble_eq_true rfl) dX11_write_41 rfl (fun M137 h138 => ?_)
        obtain ⟨hM137, fM137, h139⟩ := h138
        refine j_aload_n C 1 0 dX11_write_44 rfl rfl ?_
        refine y_getC C 10 50 fX11_write_52 rfl rfl ft_10_9 sm_10_9 rfl hM137 dX11_write_45 ?_
        refine j_iload_n C 2 1 dX11_write_48 rfl rfl ?_
        refine y_aaldK C 28 4 9 53 rfl rfl rfl rfl an_28 rfl sma_28 sta_28 (by decide) hM137 dX11_write_49 (by omega) rfl ?_
        refine j_iload_n C 3 2 dX11_write_50 rfl rfl ?_
        refine j_callVj C (d := 1) (As := [.int (sI a2)]) (st := []) 53 (s_lt rfl rfl) (s_kc (c := 9) rfl rfl) (by decide) rfl (s5_X10_numberAt hM137 a2 (by omega)) gX11_write_X10_numberAt rfl hdX10_numberAt (by decide) (Nat.le_of_ble_eq_true rfl) dX11_write_51 rfl (fun r141 M142 h143 => ?_)
        obtain ⟨a145, rfl, rfl, h144⟩ := h143
        have u146t := ntX_s M0 a1
        have u146s : tsX M0 a1 = (M0.1 (s_p0 50 (a1).toNat) 2).toInt := rfl
        have u146c : (M0.1 (s_p0 50 (a1).toNat) 2).toInt = (M0.1 53 2).toInt ∧ (M0.1 (s_p0 50 (a1).toNat) 1).toInt = (M0.1 53 1).toInt := by rw [show (a1).toNat = 1 by omega]; exact ⟨rfl, rfl⟩
        have u146ct : ctF a3 (M0.1 (s_p0 50 (a1).toNat) 1).toInt = ctF a3 (M0.1 53 1).toInt := by rw [u146c.2]
        have u146e : M137.2.1 54 = uJ (M0.2.1 54) (a2).toNat (ctF a3 (M0.1 53 1).toInt) := b01_e (by omega)
        have u146q := ctF_b a3 (M0.1 53 1).toInt (by omega)
        have u146v : (M137.2.1 54 (a2).toNat).toInt = ctF a3 (M0.1 53 1).toInt := by rw [u146e]; unfold uJ; rw [if_pos rfl]; exact sJ_t u146q
        have u146z : (M137.1 53 2).toInt = (M0.1 53 2).toInt := by rw [((FX.rf.tr fM137 (by decide)) : FX [54] M0 M137).cell (i := 53) (by decide)]
        have u146w : a145 = ctF a3 (M0.1 53 1).toInt := by omega
        have u146k := trw_i (M := M0) (N := M137) (c := 1) (i := a2) (v := a145) ((FX.rf.tr fM137 (by decide)) : FX [54] M0 M137) (by decide) (by decide) (u146e.trans (congrArg (uJ (M0.2.1 54) _) u146w.symm)) (by omega)
        have u146x : b01 (TRW M0 M137 a1 a2 a145) = 1 := by rw [show a1 = ((1 : Nat) : Int) by omega]; exact u146k
        exact hret _ _ _ _ dX11_write_54 ⟨a145, rfl, hM137, (FX.rf.tr fM137 (by decide)), by omega⟩
      · refine y_ldc2 C (-7) dX11_write_29 kX11_write_387 rfl ?_
        have u147t := ntX_s M0 a1
        have u147s : tsX M0 a1 = (M0.1 (s_p0 50 (a1).toNat) 2).toInt := rfl
        have u147c : (M0.1 (s_p0 50 (a1).toNat) 2).toInt = (M0.1 53 2).toInt ∧ (M0.1 (s_p0 50 (a1).toNat) 1).toInt = (M0.1 53 1).toInt := by rw [show (a1).toNat = 1 by omega]; exact ⟨rfl, rfl⟩
        have u147k := trs_r M0
        exact hret _ _ _ _ dX11_write_32 ⟨(-7), rfl, hM0, FX.rf, by omega⟩
    · rw [h107]
      refine y_aaldK C 28 4 9 55 rfl rfl rfl rfl an_28 rfl sma_28 sta_28 (by decide) hM0 dX11_write_21 (by omega) rfl ?_
      refine j_iload_n C 3 2 dX11_write_22 rfl rfl ?_
      refine j_callVi C (d := 0) (As := [.int (sI a2)]) (st := []) 55 (s_lt rfl rfl) (s_kc (c := 9) rfl rfl) (by decide) rfl (s5_X10_has hM0 a2 (by omega)) gX11_write_X10_has rfl hdX10_has (by decide) (Nat.le_of_ble_eq_true rfl) dX11_write_23 rfl (fun r149 M150 h151 => ?_)
      obtain ⟨a153, rfl, rfl, h152⟩ := h151
      refine y_if_ne C 33 dX11_write_26 (by decide) (by omega) (fun h154 => ?_) (fun h154 => ?_)
      · refine j_aload_n C 1 0 dX11_write_33 rfl rfl ?_
        refine y_getC C 10 50 fX11_write_52 rfl rfl ft_10_9 sm_10_9 rfl hM0 dX11_write_34 ?_
        refine j_iload_n C 2 1 dX11_write_37 rfl rfl ?_
        refine y_aaldK C 28 4 9 55 rfl rfl rfl rfl an_28 rfl sma_28 sta_28 (by decide) hM0 dX11_write_38 (by omega) rfl ?_
        refine j_iload_n C 3 2 dX11_write_39 rfl rfl ?_
        refine j_lload_n C 4 3 dX11_write_40 rfl rfl ?_
        refine j_callVv C (d := 1) (As := [.int (sI a2), .long (sJ a3)]) (st := []) 55 (s_lt rfl rfl) (s_kc (c := 9) rfl rfl) (by decide) rfl (s5_X10_put hM0 hpr a2 (by omega) a3 (by omega)) gX11_write_X10_put rfl hdX10_put (by decide) (Nat.le_of_ble_eq_true rfl) dX11_write_41 rfl (fun M157 h158 => ?_)
        obtain ⟨hM157, fM157, h159⟩ := h158
        refine j_aload_n C 1 0 dX11_write_44 rfl rfl ?_
        refine y_getC C 10 50 fX11_write_52 rfl rfl ft_10_9 sm_10_9 rfl hM157 dX11_write_45 ?_
        refine j_iload_n C 2 1 dX11_write_48 rfl rfl ?_
        refine y_aaldK C 28 4 9 55 rfl rfl rfl rfl an_28 rfl sma_28 sta_28 (by decide) hM157 dX11_write_49 (by omega) rfl ?_
        refine j_iload_n C 3 2 dX11_write_50 rfl rfl ?_
        refine j_callVj C (d := 1) (As := [.int (sI a2)]) (st := []) 55 (s_lt rfl rfl) (s_kc (c := 9) rfl rfl) (by decide) rfl (s6_X10_numberAt hM157 a2 (by omega)) gX11_write_X10_numberAt rfl hdX10_numberAt (by decide) (Nat.le_of_ble_eq_true rfl) dX11_write_51 rfl (fun r161 M162 h163 => ?_)
        obtain ⟨a165, rfl, rfl, h164⟩ := h163
        have u166t := ntX_s M0 a1
        have u166s : tsX M0 a1 = (M0.1 (s_p0 50 (a1).toNat) 2).toInt := rfl
        have u166c : (M0.1 (s_p0 50 (a1).toNat) 2).toInt = (M0.1 55 2).toInt ∧ (M0.1 (s_p0 50 (a1).toNat) 1).toInt = (M0.1 55 1).toInt := by rw [show (a1).toNat = 2 by omega]; exact ⟨rfl, rfl⟩
        have u166ct : ctF a3 (M0.1 (s_p0 50 (a1).toNat) 1).toInt = ctF a3 (M0.1 55 1).toInt := by rw [u166c.2]
        have u166e : M157.2.1 56 = uJ (M0.2.1 56) (a2).toNat (ctF a3 (M0.1 55 1).toInt) := b01_e (by omega)
        have u166q := ctF_b a3 (M0.1 55 1).toInt (by omega)
        have u166v : (M157.2.1 56 (a2).toNat).toInt = ctF a3 (M0.1 55 1).toInt := by rw [u166e]; unfold uJ; rw [if_pos rfl]; exact sJ_t u166q
        have u166z : (M157.1 55 2).toInt = (M0.1 55 2).toInt := by rw [((FX.rf.tr fM157 (by decide)) : FX [56] M0 M157).cell (i := 55) (by decide)]
        have u166w : a165 = ctF a3 (M0.1 55 1).toInt := by omega
        have u166k := trw_i (M := M0) (N := M157) (c := 2) (i := a2) (v := a165) ((FX.rf.tr fM157 (by decide)) : FX [56] M0 M157) (by decide) (by decide) (u166e.trans (congrArg (uJ (M0.2.1 56) _) u166w.symm)) (by omega)
        have u166x : b01 (TRW M0 M157 a1 a2 a165) = 1 := by rw [show a1 = ((2 : Nat) : Int) by omega]; exact u166k
        exact hret _ _ _ _ dX11_write_54 ⟨a165, rfl, hM157, (FX.rf.tr fM157 (by decide)), by omega⟩
      · refine y_ldc2 C (-7) dX11_write_29 kX11_write_387 rfl ?_
        have u167t := ntX_s M0 a1
        have u167s : tsX M0 a1 = (M0.1 (s_p0 50 (a1).toNat) 2).toInt := rfl
        have u167c : (M0.1 (s_p0 50 (a1).toNat) 2).toInt = (M0.1 55 2).toInt ∧ (M0.1 (s_p0 50 (a1).toNat) 1).toInt = (M0.1 55 1).toInt := by rw [show (a1).toNat = 2 by omega]; exact ⟨rfl, rfl⟩
        have u167k := trs_r M0
        exact hret _ _ _ _ dX11_write_32 ⟨(-7), rfl, hM0, FX.rf, by omega⟩
    · rw [h107]
      refine y_aaldK C 28 4 9 57 rfl rfl rfl rfl an_28 rfl sma_28 sta_28 (by decide) hM0 dX11_write_21 (by omega) rfl ?_
      refine j_iload_n C 3 2 dX11_write_22 rfl rfl ?_
      refine j_callVi C (d := 0) (As := [.int (sI a2)]) (st := []) 57 (s_lt rfl rfl) (s_kc (c := 9) rfl rfl) (by decide) rfl (s6_X10_has hM0 a2 (by omega)) gX11_write_X10_has rfl hdX10_has (by decide) (Nat.le_of_ble_eq_true rfl) dX11_write_23 rfl (fun r169 M170 h171 => ?_)
      obtain ⟨a173, rfl, rfl, h172⟩ := h171
      refine y_if_ne C 33 dX11_write_26 (by decide) (by omega) (fun h174 => ?_) (fun h174 => ?_)
      · refine j_aload_n C 1 0 dX11_write_33 rfl rfl ?_
        refine y_getC C 10 50 fX11_write_52 rfl rfl ft_10_9 sm_10_9 rfl hM0 dX11_write_34 ?_
        refine j_iload_n C 2 1 dX11_write_37 rfl rfl ?_
        refine y_aaldK C 28 4 9 57 rfl rfl rfl rfl an_28 rfl sma_28 sta_28 (by decide) hM0 dX11_write_38 (by omega) rfl ?_
        refine j_iload_n C 3 2 dX11_write_39 rfl rfl ?_
        refine j_lload_n C 4 3 dX11_write_40 rfl rfl ?_
        refine j_callVv C (d := 1) (As := [.int (sI a2), .long (sJ a3)]) (st := []) 57 (s_lt rfl rfl) (s_kc (c := 9) rfl rfl) (by decide) rfl (s6_X10_put hM0 hpr a2 (by omega) a3 (by omega)) gX11_write_X10_put rfl hdX10_put (by decide) (Nat.le_of_ble_eq_true rfl) dX11_write_41 rfl (fun M177 h178 => ?_)
        obtain ⟨hM177, fM177, h179⟩ := h178
        refine j_aload_n C 1 0 dX11_write_44 rfl rfl ?_
        refine y_getC C 10 50 fX11_write_52 rfl rfl ft_10_9 sm_10_9 rfl hM177 dX11_write_45 ?_
        refine j_iload_n C 2 1 dX11_write_48 rfl rfl ?_
        refine y_aaldK C 28 4 9 57 rfl rfl rfl rfl an_28 rfl sma_28 sta_28 (by decide) hM177 dX11_write_49 (by omega) rfl ?_
        refine j_iload_n C 3 2 dX11_write_50 rfl rfl ?_
        refine j_callVj C (d := 1) (As := [.int (sI a2)]) (st := []) 57 (s_lt rfl rfl) (s_kc (c := 9) rfl rfl) (by decide) rfl (s7_X10_numberAt hM177 a2 (by omega)) gX11_write_X10_numberAt rfl hdX10_numberAt (by decide) (Nat.le_of_ble_eq_true rfl) dX11_write_51 rfl (fun r181 M182 h183 => ?_)
        obtain ⟨a185, rfl, rfl, h184⟩ := h183
        have u186t := ntX_s M0 a1
        have u186s : tsX M0 a1 = (M0.1 (s_p0 50 (a1).toNat) 2).toInt := rfl
        have u186c : (M0.1 (s_p0 50 (a1).toNat) 2).toInt = (M0.1 57 2).toInt ∧ (M0.1 (s_p0 50 (a1).toNat) 1).toInt = (M0.1 57 1).toInt := by rw [show (a1).toNat = 3 by omega]; exact ⟨rfl, rfl⟩
        have u186ct : ctF a3 (M0.1 (s_p0 50 (a1).toNat) 1).toInt = ctF a3 (M0.1 57 1).toInt := by rw [u186c.2]
        have u186e : M177.2.1 58 = uJ (M0.2.1 58) (a2).toNat (ctF a3 (M0.1 57 1).toInt) := b01_e (by omega)
        have u186q := ctF_b a3 (M0.1 57 1).toInt (by omega)
        have u186v : (M177.2.1 58 (a2).toNat).toInt = ctF a3 (M0.1 57 1).toInt := by rw [u186e]; unfold uJ; rw [if_pos rfl]; exact sJ_t u186q
        have u186z : (M177.1 57 2).toInt = (M0.1 57 2).toInt := by rw [((FX.rf.tr fM177 (by decide)) : FX [58] M0 M177).cell (i := 57) (by decide)]
        have u186w : a185 = ctF a3 (M0.1 57 1).toInt := by omega
        have u186k := trw_i (M := M0) (N := M177) (c := 3) (i := a2) (v := a185) ((FX.rf.tr fM177 (by decide)) : FX [58] M0 M177) (by decide) (by decide) (u186e.trans (congrArg (uJ (M0.2.1 58) _) u186w.symm)) (by omega)
        have u186x : b01 (TRW M0 M177 a1 a2 a185) = 1 := by rw [show a1 = ((3 : Nat) : Int) by omega]; exact u186k
        exact hret _ _ _ _ dX11_write_54 ⟨a185, rfl, hM177, (FX.rf.tr fM177 (by decide)), by omega⟩
      · refine y_ldc2 C (-7) dX11_write_29 kX11_write_387 rfl ?_
        have u187t := ntX_s M0 a1
        have u187s : tsX M0 a1 = (M0.1 (s_p0 50 (a1).toNat) 2).toInt := rfl
        have u187c : (M0.1 (s_p0 50 (a1).toNat) 2).toInt = (M0.1 57 2).toInt ∧ (M0.1 (s_p0 50 (a1).toNat) 1).toInt = (M0.1 57 1).toInt := by rw [show (a1).toNat = 3 by omega]; exact ⟨rfl, rfl⟩
        have u187k := trs_r M0
        exact hret _ _ _ _ dX11_write_32 ⟨(-7), rfl, hM0, FX.rf, by omega⟩
  · refine j_iload C 0 dX11_write_12 rfl ?_
    refine y_i2l C dX11_write_14 (by omega) ?_
    have u188t := ntX_s M0 a1
    have u188s : tsX M0 a1 = (M0.1 (s_p0 50 (a1).toNat) 2).toInt := rfl
    have u188k := trs_r M0
    exact hret _ _ _ _ dX11_write_15 ⟨a105, rfl, hM0, FX.rf, by omega⟩
