set_option maxHeartbeats 4000000 in
theorem s1_X11_putBytes {l : Launch} {dC : Nat → ClassId} {dI : Nat → Nat → Nat} {ad : Nat → Nat} {cA : Nat → ClassId} {pr : Nat → Nat → Bool} {Kz : mm_M} {M0 : mm_M} (hM0 : INV pr Kz M0) (hpr : PX pr) (hq10_1 : ∀ i, s_c i = 10 → pr i 1 = false) (a1 : Int) (ha1 : -2147483648 ≤ a1 ∧ a1 ≤ 2147483647) : Cv l 0 yX11_putBytes wsX11_putBytes dC dI ad cA [.ref (ad 0), .int (sI a1)] M0 (fun M' => INV pr Kz M' ∧ ((M'.1 0 1).toInt = (M0.1 0 1).toInt + 4 ∨ 896 < (M0.1 0 1).toInt)) := by
  refine cv_of (cc := cX11_putBytes) (maxL := 3) (lv := [(0, .ref (ad 0)), (1, .int (sI a1))]) (by decide) rfl (Nat.le_of_ble_eq_true rfl) rfl ?_
  intro p e s m args below meth c A Q C hret
  refine y_bipush C dX11_putBytes_0 rfl ?_
  refine j_istore_n C 2 [(2, .int (sI 24)), (0, .ref (ad 0)), (1, .int (sI a1))] dX11_putBytes_2 rfl (by decide) rfl ?_
  have L117 : ∀ (n115 : Nat), ∀ (a118 : Int) (M119 : mm_M), ((-8) ≤ a118 ∧ a118 ≤ 24 ∧ (8 * (M119.1 0 1).toInt + a118 = 8 * (M0.1 0 1).toInt + 24 ∨ 896 < (M0.1 0 1).toInt) ∧ (a118 - (-8)) < (n115 : Int)) → INV pr Kz M119 → jj p l e (cn_R 0) s m args below meth c 0 0 Q 3 dC dI ad cA A M119 3 [(0, .ref (ad 0)), (1, .int (sI a1)), (2, .int (sI a118))] [] := by
    intro n115
    induction n115 with
    | zero =>
      intro a118 M119 h120 hM119
      exfalso; omega
    | succ n115 ih116 =>
      intro a118 M119 h120 hM119
      refine j_iload_n C 2 2 dX11_putBytes_3 rfl rfl ?_
      refine y_if_lt C 51 dX11_putBytes_4 (by decide) (by omega) (fun h121 => ?_) (fun h121 => ?_)
      · exact hret _ _ _ dX11_putBytes_51 ⟨hM119, by omega⟩
      · refine j_aload_n C 0 0 dX11_putBytes_7 rfl rfl ?_
        refine y_getI C 10 _ _ fX11_putBytes_13 rfl rfl ft_10_1 sb_10_1 hM119 dX11_putBytes_8 (fun a122 ea122 la122 ua122 => ?_)
        refine j_aload_n C 0 0 dX11_putBytes_11 rfl rfl ?_
        refine y_getC C 10 1 fX11_putBytes_9 rfl rfl ft_10_0 sm_10_0 rfl hM119 dX11_putBytes_12 ?_
        refine y_alen C 20 900 rfl rfl rfl an_20 rfl rfl dX11_putBytes_15 ?_
        refine y_icmp_ge C 51 dX11_putBytes_16 (by decide) (by omega) (fun h124 => ?_) (fun h124 => ?_)
        · exact hret _ _ _ dX11_putBytes_51 ⟨hM119, by omega⟩
        · refine j_aload_n C 0 0 dX11_putBytes_19 rfl rfl ?_
          refine y_getC C 10 1 fX11_putBytes_9 rfl rfl ft_10_0 sm_10_0 rfl hM119 dX11_putBytes_20 ?_
          refine j_aload_n C 0 0 dX11_putBytes_23 rfl rfl ?_
          refine y_getI C 10 _ _ fX11_putBytes_13 rfl rfl ft_10_1 sb_10_1 hM119 dX11_putBytes_24 (fun a125 ea125 la125 ua125 => ?_)
          refine j_iload_n C 1 1 dX11_putBytes_27 rfl rfl ?_
          refine j_iload_n C 2 2 dX11_putBytes_28 rfl rfl ?_
          refine y_iushr0 C dX11_putBytes_29 (fun a127 la127 ua127 => ?_)
          refine y_sipush C dX11_putBytes_30 rfl ?_
          refine y_iandR C dX11_putBytes_33 (by omega) (fun a128 la128 ua128 => ?_)
          refine y_iast C 20 900 _ _ rfl rfl rfl ak_20 an_20 rfl (sb_20 _) hM119 (PX.w hpr rfl rfl) dX11_putBytes_34 (by omega) (by omega) (fun M129 eM129 hM129 => ?_)
          refine j_aload_n C 0 0 dX11_putBytes_35 rfl rfl ?_
          refine j_dup C dX11_putBytes_36 rfl ?_
          refine y_getI C 10 _ _ fX11_putBytes_13 rfl rfl ft_10_1 sb_10_1 hM129 dX11_putBytes_37 (fun a130 ea130 la130 ua130 => ?_)
          have qa130 : a130 = a122 := (s_fa eM129 (by decide) (ea130)).trans ea122.symm
          refine y_iconst C dX11_putBytes_40 ?_
          refine y_iadd C dX11_putBytes_41 ?_
          refine y_putI C 10 _ _ qX11_putBytes_13 rfl rfl ft_10_1 sb_10_1 hM129 (hq10_1 _ rfl) dX11_putBytes_42 (by omega) (fun M132 eM132 hM132 => ?_)
          refine y_iinc C 2 [(2, .int (sI (a118 + (-8)))), (0, .ref (ad 0)), (1, .int (sI a1))] dX11_putBytes_45 rfl (by decide) rfl ?_
          refine j_goto C 3 dX11_putBytes_48 (by decide) ?_
          have zz0_1 := (Eq.trans (rfl : (M132.1 0 1).toInt = (M132.1 0 1).toInt) (s_wr eM132 (by omega))); refine j_lv [1, 2, 0] rfl ?_; exact ih116 (a118 + (-8)) M132 (by omega) hM132
  refine j_lv [1, 2, 0] rfl ?_; exact L117 2010 24 M0 (by omega) hM0
set_option maxHeartbeats 4000000 in
theorem s1_X11_feed {l : Launch} {dC : Nat → ClassId} {dI : Nat → Nat → Nat} {ad : Nat → Nat} {cA : Nat → ClassId} {pr : Nat → Nat → Bool} {Kz : mm_M} {M0 : mm_M} (hM0 : INV pr Kz M0) (hpr : PX pr) (hq10_1 : ∀ i, s_c i = 10 → pr i 1 = false) (a1 : Int) (ha1 : -2147483648 ≤ a1 ∧ a1 ≤ 2147483647) (a2 : Int) (ha2 : -2147483648 ≤ a2 ∧ a2 ≤ 2147483647) (a3 : Int) (ha3 : -2147483648 ≤ a3 ∧ a3 ≤ 2147483647) (a4 : Int) (ha4 : -2147483648 ≤ a4 ∧ a4 ≤ 2147483647) (a5 : Int) (ha5 : -2147483648 ≤ a5 ∧ a5 ≤ 2147483647) : Ci l 1 yX11_feed wsX11_feed dC dI ad cA [.ref (ad 0), .int (sI a1), .int (sI a2), .int (sI a3), .int (sI a4), .int (sI a5)] M0 (fun r M' => ∃ a : Int, r = sI a ∧ INV pr Kz M' ∧ (-5) ≤ a ∧ a ≤ 900 ∧ ((M0.1 0 1).toInt ≤ 880 ∧ a = (M0.1 0 1).toInt + 20 ∧ (M'.1 0 1).toInt = a ∨ 880 < (M0.1 0 1).toInt ∧ a = -5 ∧ (M'.1 0 1).toInt = (M0.1 0 1).toInt)) := by
  refine ci_of (cc := cX11_feed) (maxL := 6) (ty := .int) (lv := [(0, .ref (ad 0)), (1, .int (sI a1)), (2, .int (sI a2)), (3, .int (sI a3)), (4, .int (sI a4)), (5, .int (sI a5))]) (by decide) rfl (fun r M' hp => rfl) (Nat.le_of_ble_eq_true rfl) rfl ?_
  intro p e s m args below meth c A Q C hret
  refine j_aload_n C 0 0 dX11_feed_0 rfl rfl ?_
  refine y_getI C 10 _ _ fX11_feed_13 rfl rfl ft_10_1 sb_10_1 hM0 dX11_feed_1 (fun a101 ea101 la101 ua101 => ?_)
  refine y_bipush C dX11_feed_4 rfl ?_
  refine y_iadd C dX11_feed_6 ?_
  refine y_sipush C dX11_feed_7 rfl ?_
  refine y_icmp_le C 16 dX11_feed_10 (by decide) (by omega) (fun h103 => ?_) (fun h103 => ?_)
  · refine j_aload_n C 0 0 dX11_feed_16 rfl rfl ?_
    refine j_iload_n C 1 1 dX11_feed_17 rfl rfl ?_
    refine j_callVv C (d := 0) (As := [.int (sI a1)]) (st := []) 0 (s_lt rfl rfl) (s_kc (c := 10) rfl rfl) (by decide) rfl (s1_X11_putBytes hM0 hpr hq10_1 a1 (by omega)) gX11_feed_X11_putBytes rfl hdX11_putBytes (by decide) (Nat.le_of_ble_eq_true rfl) dX11_feed_18 rfl (fun M105 h106 => ?_)
    obtain ⟨hM105, h107⟩ := h106
    refine j_aload_n C 0 0 dX11_feed_21 rfl rfl ?_
    refine j_iload_n C 2 2 dX11_feed_22 rfl rfl ?_
    refine j_callVv C (d := 0) (As := [.int (sI a2)]) (st := []) 0 (s_lt rfl rfl) (s_kc (c := 10) rfl rfl) (by decide) rfl (s1_X11_putBytes hM105 hpr hq10_1 a2 (by omega)) gX11_feed_X11_putBytes rfl hdX11_putBytes (by decide) (Nat.le_of_ble_eq_true rfl) dX11_feed_23 rfl (fun M109 h110 => ?_)
    obtain ⟨hM109, h111⟩ := h110
    refine j_aload_n C 0 0 dX11_feed_26 rfl rfl ?_
    refine j_iload_n C 3 3 dX11_feed_27 rfl rfl ?_
    refine j_callVv C (d := 0) (As := [.int (sI a3)]) (st := []) 0 (s_lt rfl rfl) (s_kc (c := 10) rfl rfl) (by decide) rfl (s1_X11_putBytes hM109 hpr hq10_1 a3 (by omega)) gX11_feed_X11_putBytes rfl hdX11_putBytes (by decide) (Nat.le_of_ble_eq_true rfl) dX11_feed_28 rfl (fun M113 h114 => ?_)
    obtain ⟨hM113, h115⟩ := h114
    refine j_aload_n C 0 0 dX11_feed_31 rfl rfl ?_
    refine j_iload C 4 dX11_feed_32 rfl ?_
    refine j_callVv C (d := 0) (As := [.int (sI a4)]) (st := []) 0 (s_lt rfl rfl) (s_kc (c := 10) rfl rfl) (by decide) rfl (s1_X11_putBytes hM113 hpr hq10_1 a4 (by omega)) gX11_feed_X11_putBytes rfl hdX11_putBytes (by decide) (Nat.le_of_ble_eq_true rfl) dX11_feed_34 rfl (fun M117 h118 => ?_)
    obtain ⟨hM117, h119⟩ := h118
    refine j_aload_n C 0 0 dX11_feed_37 rfl rfl ?_
    refine j_iload C 5 dX11_feed_38 rfl ?_
    refine j_callVv C (d := 0) (As := [.int (sI a5)]) (st := []) 0 (s_lt rfl rfl) (s_kc (c := 10) rfl rfl) (by decide) rfl (s1_X11_putBytes hM117 hpr hq10_1 a5 (by omega)) gX11_feed_X11_putBytes rfl hdX11_putBytes (by decide) (Nat.le_of_ble_eq_true rfl) dX11_feed_40 rfl (fun M121 h122 => ?_)
    obtain ⟨hM121, h123⟩ := h122
    refine j_aload_n C 0 0 dX11_feed_43 rfl rfl ?_
    refine y_getI C 10 _ _ fX11_feed_13 rfl rfl ft_10_1 sb_10_1 hM121 dX11_feed_44 (fun a124 ea124 la124 ua124 => ?_)
    exact hret _ _ _ _ dX11_feed_47 ⟨a124, rfl, hM121, by omega⟩
  · refine y_bipush C dX11_feed_13 rfl ?_
    exact hret _ _ _ _ dX11_feed_15 ⟨(-5), rfl, hM0, by omega⟩
set_option maxHeartbeats 4000000 in
theorem s1_X7_clear {l : Launch} {dC : Nat → ClassId} {dI : Nat → Nat → Nat} {ad : Nat → Nat} {cA : Nat → ClassId} {pr : Nat → Nat → Bool} {Kz : mm_M} {M0 : mm_M} (hM0 : INV pr Kz M0) (hpr : PX pr) {v0 : Nat} (cv0 : s_c v0 = 6) : Cv l 0 yX7_clear wsX7_clear dC dI ad cA [.ref (ad v0)] M0 (fun M' => INV pr Kz M') := by
  refine cv_of (cc := cX7_clear) (maxL := 1) (lv := [(0, .ref (ad v0))]) (by decide) rfl (Nat.le_of_ble_eq_true rfl) rfl ?_
  intro p e s m args below meth c A Q C hret
  refine j_aload_n C 0 0 dX7_clear_0 rfl rfl ?_
  refine y_iconst C dX7_clear_1 ?_
  refine y_putI C 6 _ _ qX7_clear_9 cv0 rfl ft_6_0 sb_6_0 hM0 (PX.w hpr cv0 rfl) dX7_clear_2 (by omega) (fun M101 eM101 hM101 => ?_)
  refine j_aload_n C 0 0 dX7_clear_5 rfl rfl ?_
  refine y_iconst C dX7_clear_6 ?_
  refine y_putIF C 6 qX7_clear_15 cv0 rfl ft_6_1 sb_6_1 hM101 (PX.w hpr cv0 rfl) dX7_clear_7 (fun M102 eM102 hM102 => ?_)
  refine j_aload_n C 0 0 dX7_clear_10 rfl rfl ?_
  refine y_iconst C dX7_clear_11 ?_
  refine y_putI C 6 _ _ qX7_clear_31 cv0 rfl ft_6_6 sb_6_6 hM102 (PX.w hpr cv0 rfl) dX7_clear_12 (by omega) (fun M103 eM103 hM103 => ?_)
  refine j_aload_n C 0 0 dX7_clear_15 rfl rfl ?_
  refine y_iconst C dX7_clear_16 ?_
  refine y_putI C 6 _ _ qX7_clear_34 cv0 rfl ft_6_7 sb_6_7 hM103 (PX.w hpr cv0 rfl) dX7_clear_17 (by omega) (fun M104 eM104 hM104 => ?_)
  refine j_aload_n C 0 0 dX7_clear_20 rfl rfl ?_
  refine y_iconst C dX7_clear_21 ?_
  refine y_putI C 6 _ _ qX7_clear_37 cv0 rfl ft_6_8 sb_6_8 hM104 (PX.w hpr cv0 rfl) dX7_clear_22 (by omega) (fun M105 eM105 hM105 => ?_)
  refine j_aload_n C 0 0 dX7_clear_25 rfl rfl ?_
  refine y_iconst C dX7_clear_26 ?_
  refine y_putI C 6 _ _ qX7_clear_40 cv0 rfl ft_6_9 sb_6_9 hM105 (PX.w hpr cv0 rfl) dX7_clear_27 (by omega) (fun M106 eM106 hM106 => ?_)
  refine j_aload_n C 0 0 dX7_clear_30 rfl rfl ?_
  refine y_iconst C dX7_clear_31 ?_
  refine y_putI C 6 _ _ qX7_clear_43 cv0 rfl ft_6_10 sb_6_10 hM106 (PX.w hpr cv0 rfl) dX7_clear_32 (by omega) (fun M107 eM107 hM107 => ?_)
  exact hret _ _ _ dX7_clear_35 hM107
set_option maxHeartbeats 4000000 in
theorem s1_X9_clear {l : Launch} {dC : Nat → ClassId} {dI : Nat → Nat → Nat} {ad : Nat → Nat} {cA : Nat → ClassId} {pr : Nat → Nat → Bool} {Kz : mm_M} {M0 : mm_M} (hM0 : INV pr Kz M0) (hpr : PX pr) {v0 : Nat} (cv0 : s_c v0 = 8) : Cv l 0 yX9_clear wsX9_clear dC dI ad cA [.ref (ad v0)] M0 (fun M' => INV pr Kz M') := by
  refine cv_of (cc := cX9_clear) (maxL := 1) (lv := [(0, .ref (ad v0))]) (by decide) rfl (Nat.le_of_ble_eq_true rfl) rfl ?_
  intro p e s m args below meth c A Q C hret
  refine j_aload_n C 0 0 dX9_clear_0 rfl rfl ?_
  refine y_iconst C dX9_clear_1 ?_
  refine y_putI C 8 _ _ qX9_clear_9 cv0 rfl ft_8_0 sb_8_0 hM0 (PX.w hpr cv0 rfl) dX9_clear_2 (by omega) (fun M101 eM101 hM101 => ?_)
  refine j_aload_n C 0 0 dX9_clear_5 rfl rfl ?_
  refine y_iconst C dX9_clear_6 ?_
  refine y_putI C 8 _ _ qX9_clear_22 cv0 rfl ft_8_3 sb_8_3 hM101 (PX.w hpr cv0 rfl) dX9_clear_7 (by omega) (fun M102 eM102 hM102 => ?_)
  refine j_aload_n C 0 0 dX9_clear_10 rfl rfl ?_
  refine y_iconst C dX9_clear_11 ?_
  refine y_putI C 8 _ _ qX9_clear_25 cv0 rfl ft_8_4 sb_8_4 hM102 (PX.w hpr cv0 rfl) dX9_clear_12 (by omega) (fun M103 eM103 hM103 => ?_)
  refine j_aload_n C 0 0 dX9_clear_15 rfl rfl ?_
  refine y_iconst C dX9_clear_16 ?_
  refine y_putIF C 8 qX9_clear_28 cv0 rfl ft_8_5 sb_8_5 hM103 (PX.w hpr cv0 rfl) dX9_clear_17 (fun M104 eM104 hM104 => ?_)
  refine j_aload_n C 0 0 dX9_clear_20 rfl rfl ?_
  refine y_iconst C dX9_clear_21 ?_
  refine y_putIF C 8 qX9_clear_31 cv0 rfl ft_8_6 sb_8_6 hM104 (PX.w hpr cv0 rfl) dX9_clear_22 (fun M105 eM105 hM105 => ?_)
  refine j_aload_n C 0 0 dX9_clear_25 rfl rfl ?_
  refine y_iconst C dX9_clear_26 ?_
  refine y_putIF C 8 qX9_clear_34 cv0 rfl ft_8_7 sb_8_7 hM105 (PX.w hpr cv0 rfl) dX9_clear_27 (fun M106 eM106 hM106 => ?_)
  refine j_aload_n C 0 0 dX9_clear_30 rfl rfl ?_
  refine y_iconst C dX9_clear_31 ?_
  refine y_putIF C 8 qX9_clear_37 cv0 rfl ft_8_8 sb_8_8 hM106 (PX.w hpr cv0 rfl) dX9_clear_32 (fun M107 eM107 hM107 => ?_)
  exact hret _ _ _ dX9_clear_35 hM107
set_option maxHeartbeats 4000000 in
theorem s1_X3_isBlank {l : Launch} {dC : Nat → ClassId} {dI : Nat → Nat → Nat} {ad : Nat → Nat} {cA : Nat → ClassId} {pr : Nat → Nat → Bool} {Kz : mm_M} {M0 : mm_M} (hM0 : INV pr Kz M0) (a0 : Int) (ha0 : -2147483648 ≤ a0 ∧ a0 ≤ 2147483647) : Ci l 0 yX3_isBlank wsX3_isBlank dC dI ad cA [.int (sI a0)] M0 (fun r M' => ∃ a : Int, r = sI a ∧ M0 = M' ∧ 0 ≤ a ∧ a ≤ 1 ∧ ((a0 = 10 ∧ a = 1) ∨ (¬ a0 = 10 ∧ ¬ a0 = 32 ∧ a = 0) ∨ (¬ a0 = 10 ∧ a0 = 32 ∧ a = 1))) := by
  refine ci_of (cc := cX3_isBlank) (maxL := 1) (ty := .boolean) (lv := [(0, .int (sI a0))]) (by decide) rfl (fun r M' hp => by obtain ⟨a, rfl, -, h⟩ := hp; rcases (show a = 0 ∨ a = 1 by omega) with rfl | rfl <;> rfl) (Nat.le_of_ble_eq_true rfl) rfl ?_
  intro p e s m args below meth c A Q C hret
  refine j_iload_n C 0 0 dX3_isBlank_0 rfl rfl ?_
  refine y_bipush C dX3_isBlank_1 rfl ?_
  refine y_icmp_eq C 12 dX3_isBlank_3 (by decide) (by omega) (fun h101 => ?_) (fun h101 => ?_)
  · refine y_iconst C dX3_isBlank_12 ?_
    refine j_goto C 17 dX3_isBlank_13 (by decide) ?_
    exact hret _ _ _ _ dX3_isBlank_17 ⟨1, rfl, rfl, by omega⟩
  · refine j_iload_n C 0 0 dX3_isBlank_6 rfl rfl ?_
    refine y_bipush C dX3_isBlank_7 rfl ?_
    refine y_icmp_ne C 16 dX3_isBlank_9 (by decide) (by omega) (fun h102 => ?_) (fun h102 => ?_)
    · refine y_iconst C dX3_isBlank_16 ?_
      exact hret _ _ _ _ dX3_isBlank_17 ⟨0, rfl, rfl, by omega⟩
    · refine y_iconst C dX3_isBlank_12 ?_
      refine j_goto C 17 dX3_isBlank_13 (by decide) ?_
      exact hret _ _ _ _ dX3_isBlank_17 ⟨1, rfl, rfl, by omega⟩
set_option maxHeartbeats 4000000 in
theorem s1_X3_isSmall {l : Launch} {dC : Nat → ClassId} {dI : Nat → Nat → Nat} {ad : Nat → Nat} {cA : Nat → ClassId} {pr : Nat → Nat → Bool} {Kz : mm_M} {M0 : mm_M} (hM0 : INV pr Kz M0) (a0 : Int) (ha0 : -2147483648 ≤ a0 ∧ a0 ≤ 2147483647) : Ci l 0 yX3_isSmall wsX3_isSmall dC dI ad cA [.int (sI a0)] M0 (fun r M' => ∃ a : Int, r = sI a ∧ M0 = M' ∧ 0 ≤ a ∧ a ≤ 1 ∧ ((a0 < 97 ∧ a = 0) ∨ (97 ≤ a0 ∧ 122 < a0 ∧ a = 0) ∨ (97 ≤ a0 ∧ a0 ≤ 122 ∧ a = 1))) := by
  refine ci_of (cc := cX3_isSmall) (maxL := 1) (ty := .boolean) (lv := [(0, .int (sI a0))]) (by decide) rfl (fun r M' hp => by obtain ⟨a, rfl, -, h⟩ := hp; rcases (show a = 0 ∨ a = 1 by omega) with rfl | rfl <;> rfl) (Nat.le_of_ble_eq_true rfl) rfl ?_
  intro p e s m args below meth c A Q C hret
  refine j_iload_n C 0 0 dX3_isSmall_0 rfl rfl ?_
  refine y_bipush C dX3_isSmall_1 rfl ?_
  refine y_icmp_lt C 16 dX3_isSmall_3 (by decide) (by omega) (fun h101 => ?_) (fun h101 => ?_)
  · refine y_iconst C dX3_isSmall_16 ?_
    exact hret _ _ _ _ dX3_isSmall_17 ⟨0, rfl, rfl, by omega⟩
  · refine j_iload_n C 0 0 dX3_isSmall_6 rfl rfl ?_
    refine y_bipush C dX3_isSmall_7 rfl ?_
    refine y_icmp_gt C 16 dX3_isSmall_9 (by decide) (by omega) (fun h102 => ?_) (fun h102 => ?_)
    · refine y_iconst C dX3_isSmall_16 ?_
      exact hret _ _ _ _ dX3_isSmall_17 ⟨0, rfl, rfl, by omega⟩
    · refine y_iconst C dX3_isSmall_12 ?_
      refine j_goto C 17 dX3_isSmall_13 (by decide) ?_
      exact hret _ _ _ _ dX3_isSmall_17 ⟨1, rfl, rfl, by omega⟩
set_option maxHeartbeats 4000000 in
theorem s1_X3_isDigit {l : Launch} {dC : Nat → ClassId} {dI : Nat → Nat → Nat} {ad : Nat → Nat} {cA : Nat → ClassId} {pr : Nat → Nat → Bool} {Kz : mm_M} {M0 : mm_M} (hM0 : INV pr Kz M0) (a0 : Int) (ha0 : -2147483648 ≤ a0 ∧ a0 ≤ 2147483647) : Ci l 0 yX3_isDigit wsX3_isDigit dC dI ad cA [.int (sI a0)] M0 (fun r M' => ∃ a : Int, r = sI a ∧ M0 = M' ∧ 0 ≤ a ∧ a ≤ 1 ∧ ((a0 < 48 ∧ a = 0) ∨ (48 ≤ a0 ∧ 57 < a0 ∧ a = 0) ∨ (48 ≤ a0 ∧ a0 ≤ 57 ∧ a = 1))) := by
  refine ci_of (cc := cX3_isDigit) (maxL := 1) (ty := .boolean) (lv := [(0, .int (sI a0))]) (by decide) rfl (fun r M' hp => by obtain ⟨a, rfl, -, h⟩ := hp; rcases (show a = 0 ∨ a = 1 by omega) with rfl | rfl <;> rfl) (Nat.le_of_ble_eq_true rfl) rfl ?_
  intro p e s m args below meth c A Q C hret
  refine j_iload_n C 0 0 dX3_isDigit_0 rfl rfl ?_
  refine y_bipush C dX3_isDigit_1 rfl ?_
  refine y_icmp_lt C 16 dX3_isDigit_3 (by decide) (by omega) (fun h101 => ?_) (fun h101 => ?_)
  · refine y_iconst C dX3_isDigit_16 ?_
    exact hret _ _ _ _ dX3_isDigit_17 ⟨0, rfl, rfl, by omega⟩
  · refine j_iload_n C 0 0 dX3_isDigit_6 rfl rfl ?_
    refine y_bipush C dX3_isDigit_7 rfl ?_
    refine y_icmp_gt C 16 dX3_isDigit_9 (by decide) (by omega) (fun h102 => ?_) (fun h102 => ?_)
    · refine y_iconst C dX3_isDigit_16 ?_
      exact hret _ _ _ _ dX3_isDigit_17 ⟨0, rfl, rfl, by omega⟩
    · refine y_iconst C dX3_isDigit_12 ?_
      refine j_goto C 17 dX3_isDigit_13 (by decide) ?_
      exact hret _ _ _ _ dX3_isDigit_17 ⟨1, rfl, rfl, by omega⟩
set_option maxHeartbeats 4000000 in
theorem s1_X3_endOf {l : Launch} {dC : Nat → ClassId} {dI : Nat → Nat → Nat} {ad : Nat → Nat} {cA : Nat → ClassId} {pr : Nat → Nat → Bool} {Kz : mm_M} {M0 : mm_M} (hM0 : INV pr Kz M0) (a1 : Int) (ha1 : -2147483648 ≤ a1 ∧ a1 ≤ 2147483647) (a2 : Int) (ha2 : -2147483648 ≤ a2 ∧ a2 ≤ 2147483647) (hp0 : a1 < a2) (hp1 : 0 ≤ a1 ∧ a1 ≤ 899) (hp2 : 0 ≤ a2 ∧ a2 ≤ 900) : Ci l 1 yX3_endOf wsX3_endOf dC dI ad cA [.ref (ad 1), .int (sI a1), .int (sI a2)] M0 (fun r M' => ∃ a : Int, r = sI a ∧ M0 = M' ∧ 1 ≤ a ∧ a ≤ 900 ∧ (a1 < a ∧ a ≤ a2)) := by
  refine ci_of (cc := cX3_endOf) (maxL := 4) (ty := .int) (lv := [(0, .ref (ad 1)), (1, .int (sI a1)), (2, .int (sI a2))]) (by decide) rfl (fun r M' hp => rfl) (Nat.le_of_ble_eq_true rfl) rfl ?_
  intro p e s m args below meth c A Q C hret
  refine j_iload_n C 1 1 dX3_endOf_0 rfl rfl ?_
  refine y_iconst C dX3_endOf_1 ?_
  refine y_iadd C dX3_endOf_2 ?_
  refine j_istore_n C 3 [(3, .int (sI (a1 + 1))), (0, .ref (ad 1)), (1, .int (sI a1)), (2, .int (sI a2))] dX3_endOf_3 rfl (by decide) rfl ?_
  refine j_aload_n C 1 0 dX3_endOf_4 rfl rfl ?_
  refine j_iload_n C 2 1 dX3_endOf_5 rfl rfl ?_
  refine y_iald C 20 900 _ _ rfl rfl rfl ak_20 an_20 rfl (sb_20 _) hM0 dX3_endOf_6 (by omega) (fun a101 ea101 la101 ua101 => ?_)
  refine j_callSi C (d := 0) (As := [.int (sI a101)]) (st := []) (s1_X3_isSmall hM0 a101 (by omega)) gX3_endOf_X3_isSmall rfl hdX3_isSmalls (by decide) (Nat.le_of_ble_eq_true rfl) dX3_endOf_7 rfl (fun r102 M103 h104 => ?_)
  obtain ⟨a106, rfl, rfl, h105⟩ := h104
  refine y_if_eq C 33 dX3_endOf_10 (by decide) (by omega) (fun h107 => ?_) (fun h107 => ?_)
  · refine j_aload_n C 1 0 dX3_endOf_33 rfl rfl ?_
    refine j_iload_n C 2 1 dX3_endOf_34 rfl rfl ?_
    refine y_iald C 20 900 _ _ rfl rfl rfl ak_20 an_20 rfl (sb_20 _) hM0 dX3_endOf_35 (by omega) (fun a108 ea108 la108 ua108 => ?_)
    refine j_callSi C (d := 0) (As := [.int (sI a108)]) (st := []) (s1_X3_isDigit hM0 a108 (by omega)) gX3_endOf_X3_isDigit rfl hdX3_isDigits (by decide) (Nat.le_of_ble_eq_true rfl) dX3_endOf_36 rfl (fun r109 M110 h111 => ?_)
    obtain ⟨a113, rfl, rfl, h112⟩ := h111
    refine y_if_eq C 62 dX3_endOf_39 (by decide) (by omega) (fun h114 => ?_) (fun h114 => ?_)
    · refine j_iload_n C 0 3 dX3_endOf_62 rfl rfl ?_
      exact hret _ _ _ _ dX3_endOf_63 ⟨(a1 + 1), rfl, rfl, by omega⟩
    · have L126 : ∀ (n124 : Nat), ∀ (a127 : Int), (1 ≤ a127 ∧ a127 ≤ 900 ∧ (a1 < a127) ∧ (a127 ≤ a2) ∧ (900 - a127) < (n124 : Int)) → jj p l e (cn_R 1) s m args below meth c 0 0 Q 4 dC dI ad cA A M0 42 [(0, .ref (ad 1)), (2, .int (sI a2)), (3, .int (sI a127))] [] := by
        intro n124
        induction n124 with
        | zero =>
          intro a127 h128
          exfalso; omega
        | succ n124 ih125 =>
          intro a127 h128
          refine j_iload_n C 2 3 dX3_endOf_42 rfl rfl ?_
          refine j_iload_n C 1 2 dX3_endOf_43 rfl rfl ?_
          refine y_icmp_ge C 62 dX3_endOf_44 (by decide) (by omega) (fun h129 => ?_) (fun h129 => ?_)
          · refine j_iload_n C 2 3 dX3_endOf_62 rfl rfl ?_
            exact hret _ _ _ _ dX3_endOf_63 ⟨a127, rfl, rfl, by omega⟩
          · refine j_aload_n C 0 0 dX3_endOf_47 rfl rfl ?_
            refine j_iload_n C 2 3 dX3_endOf_48 rfl rfl ?_
            refine y_iald C 20 900 _ _ rfl rfl rfl ak_20 an_20 rfl (sb_20 _) hM0 dX3_endOf_49 (by omega) (fun a130 ea130 la130 ua130 => ?_)
            refine j_callSi C (d := 0) (As := [.int (sI a130)]) (st := []) (s1_X3_isDigit hM0 a130 (by omega)) gX3_endOf_X3_isDigit rfl hdX3_isDigits (by decide) (Nat.le_of_ble_eq_true rfl) dX3_endOf_50 rfl (fun r131 M132 h133 => ?_)
            obtain ⟨a135, rfl, rfl, h134⟩ := h133
            refine y_if_eq C 62 dX3_endOf_53 (by decide) (by omega) (fun h136 => ?_) (fun h136 => ?_)
            · refine j_iload_n C 2 3 dX3_endOf_62 rfl rfl ?_
              exact hret _ _ _ _ dX3_endOf_63 ⟨a127, rfl, rfl, by omega⟩
            · refine y_iinc C 2 [(3, .int (sI (a127 + 1))), (0, .ref (ad 1)), (2, .int (sI a2))] dX3_endOf_56 rfl (by decide) rfl ?_
              refine j_goto C 42 dX3_endOf_59 (by decide) ?_
              refine j_lv [1, 2, 0] rfl ?_; exact ih125 (a127 + 1) (by omega)
      refine j_lv [1, 3, 0] rfl ?_; exact L126 2010 (a1 + 1) (by omega)
  · have L148 : ∀ (n146 : Nat), ∀ (a149 : Int), (1 ≤ a149 ∧ a149 ≤ 900 ∧ (a1 < a149) ∧ (a149 ≤ a2) ∧ (900 - a149) < (n146 : Int)) → jj p l e (cn_R 1) s m args below meth c 0 0 Q 4 dC dI ad cA A M0 13 [(0, .ref (ad 1)), (2, .int (sI a2)), (3, .int (sI a149))] [] := by
      intro n146
      induction n146 with
      | zero =>
        intro a149 h150
        exfalso; omega
      | succ n146 ih147 =>
        intro a149 h150
        refine j_iload_n C 2 3 dX3_endOf_13 rfl rfl ?_
        refine j_iload_n C 1 2 dX3_endOf_14 rfl rfl ?_
        refine y_icmp_ge C 62 dX3_endOf_15 (by decide) (by omega) (fun h151 => ?_) (fun h151 => ?_)
        · refine j_iload_n C 2 3 dX3_endOf_62 rfl rfl ?_
          exact hret _ _ _ _ dX3_endOf_63 ⟨a149, rfl, rfl, by omega⟩
        · refine j_aload_n C 0 0 dX3_endOf_18 rfl rfl ?_
          refine j_iload_n C 2 3 dX3_endOf_19 rfl rfl ?_
          refine y_iald C 20 900 _ _ rfl rfl rfl ak_20 an_20 rfl (sb_20 _) hM0 dX3_endOf_20 (by omega) (fun a152 ea152 la152 ua152 => ?_)
          refine j_callSi C (d := 0) (As := [.int (sI a152)]) (st := []) (s1_X3_isSmall hM0 a152 (by omega)) gX3_endOf_X3_isSmall rfl hdX3_isSmalls (by decide) (Nat.le_of_ble_eq_true rfl) dX3_endOf_21 rfl (fun r153 M154 h155 => ?_)
          obtain ⟨a157, rfl, rfl, h156⟩ := h155
          refine y_if_eq C 62 dX3_endOf_24 (by decide) (by omega) (fun h158 => ?_) (fun h158 => ?_)
          · refine j_iload_n C 2 3 dX3_endOf_62 rfl rfl ?_
            exact hret _ _ _ _ dX3_endOf_63 ⟨a149, rfl, rfl, by omega⟩
          · refine y_iinc C 2 [(3, .int (sI (a149 + 1))), (0, .ref (ad 1)), (2, .int (sI a2))] dX3_endOf_27 rfl (by decide) rfl ?_
            refine j_goto C 13 dX3_endOf_30 (by decide) ?_
            refine j_lv [1, 2, 0] rfl ?_; exact ih147 (a149 + 1) (by omega)
    refine j_lv [1, 3, 0] rfl ?_; exact L148 2010 (a1 + 1) (by omega)
set_option maxHeartbeats 4000000 in
theorem s1_J0_isLatin1_aae02 {l : Launch} {dC : Nat → ClassId} {dI : Nat → Nat → Nat} {ad : Nat → Nat} {cA : Nat → ClassId} {pr : Nat → Nat → Bool} {Kz : mm_M} {M0 : mm_M} (hM0 : INV pr Kz M0)  : Ci l 0 yJ0_isLatin1_aae02 wsJ0_isLatin1_aae02 dC dI ad cA [.ref (dI 1000 0)] M0 (fun r M' => ∃ a : Int, r = sI a ∧ M0 = M' ∧ 1 ≤ a ∧ a ≤ 1 ∧ ((a = 1))) := by
  refine ci_of (cc := cJ0_isLatin1_aae02) (maxL := 1) (ty := .boolean) (lv := [(0, .ref (dI 1000 0))]) (by decide) rfl (fun r M' hp => by obtain ⟨a, rfl, -, h⟩ := hp; rcases (show a = 0 ∨ a = 1 by omega) with rfl | rfl <;> rfl) (Nat.le_of_ble_eq_true rfl) rfl ?_
  intro p e s m args below meth c A Q C hret
  refine j_getsC C fJ0_isLatin1_aae02_38 dJ0_isLatin1_aae02_0 ?_
  refine y_if_eq C 17 dJ0_isLatin1_aae02_3 (by decide) (by omega) (fun h101 => ?_) (fun h101 => ?_)
  · exfalso; omega
  · refine j_aload_n C 0 0 dJ0_isLatin1_aae02_6 rfl rfl ?_
    refine j_strC C (by decide) fJ0_isLatin1_aae02_15 dJ0_isLatin1_aae02_7 ?_
    refine y_if_ne C 17 dJ0_isLatin1_aae02_10 (by decide) (by omega) (fun h102 => ?_) (fun h102 => ?_)
    · exfalso; omega
    · refine y_iconst C dJ0_isLatin1_aae02_13 ?_
      refine j_goto C 18 dJ0_isLatin1_aae02_14 (by decide) ?_
      exact hret _ _ _ _ dJ0_isLatin1_aae02_18 ⟨1, rfl, rfl, by omega⟩
set_option maxHeartbeats 4000000 in
theorem s1_J0_coder_7d493 {l : Launch} {dC : Nat → ClassId} {dI : Nat → Nat → Nat} {ad : Nat → Nat} {cA : Nat → ClassId} {pr : Nat → Nat → Bool} {Kz : mm_M} {M0 : mm_M} (hM0 : INV pr Kz M0)  : Ci l 0 yJ0_coder_7d493 wsJ0_coder_7d493 dC dI ad cA [.ref (dI 1000 0)] M0 (fun r M' => ∃ a : Int, r = sI a ∧ M0 = M' ∧ 0 ≤ a ∧ a ≤ 0 ∧ ((a = 0))) := by
  refine ci_of (cc := cJ0_coder_7d493) (maxL := 1) (ty := .byte) (lv := [(0, .ref (dI 1000 0))]) (by decide) rfl (fun r M' hp => by obtain ⟨a, rfl, -, h⟩ := hp; exact nar_byte (by omega)) (Nat.le_of_ble_eq_true rfl) rfl ?_
  intro p e s m args below meth c A Q C hret
  refine j_getsC C fJ0_coder_7d493_38 dJ0_coder_7d493_0 ?_
  refine y_if_eq C 13 dJ0_coder_7d493_3 (by decide) (by omega) (fun h101 => ?_) (fun h101 => ?_)
  · exfalso; omega
  · refine j_aload_n C 0 0 dJ0_coder_7d493_6 rfl rfl ?_
    refine j_strC C (by decide) fJ0_coder_7d493_15 dJ0_coder_7d493_7 ?_
    refine j_goto C 14 dJ0_coder_7d493_10 (by decide) ?_
    exact hret _ _ _ _ dJ0_coder_7d493_14 ⟨0, rfl, rfl, by omega⟩
set_option maxHeartbeats 4000000 in
theorem s1_J0_length_8abf5 {l : Launch} {dC : Nat → ClassId} {dI : Nat → Nat → Nat} {ad : Nat → Nat} {cA : Nat → ClassId} {pr : Nat → Nat → Bool} {Kz : mm_M} {M0 : mm_M} (hM0 : INV pr Kz M0)  : Ci l 1 yJ0_length_8abf5 wsJ0_length_8abf5 dC dI ad cA [.ref (dI 1000 0)] M0 (fun r M' => ∃ a : Int, r = sI a ∧ M0 = M' ∧ 0 ≤ a ∧ a ≤ 12 ∧ ((0 ≤ a ∧ a ≤ 12))) := by
  refine ci_of (cc := cJ0_length_8abf5) (maxL := 1) (ty := .int) (lv := [(0, .ref (dI 1000 0))]) (by decide) rfl (fun r M' hp => rfl) (Nat.le_of_ble_eq_true rfl) rfl ?_
  intro p e s m args below meth c A Q C hret
  refine j_aload_n C 0 0 dJ0_length_8abf5_0 rfl rfl ?_
  refine j_strV C (by decide) fJ0_length_8abf5_9 dJ0_length_8abf5_1 ?_
  refine j_strL C 12 (by decide) rfl dJ0_length_8abf5_4 ?_
  refine j_aload_n C 0 0 dJ0_length_8abf5_5 rfl rfl ?_
  refine j_callSS C (d := 0) (As := []) (st := [.int (sI 12)]) 0 (by decide) (s1_J0_coder_7d493 hM0) gJ0_length_8abf5_J0_coder_7d493 rfl hdJ0_coder_7d493 (by decide) (Nat.le_of_ble_eq_true rfl) dJ0_length_8abf5_6 rfl (fun r101 M102 h103 => ?_)
  obtain ⟨a105, rfl, rfl, h104⟩ := h103
  refine y_ishrP C dJ0_length_8abf5_9 (by omega) (fun a106 la106 ua106 => ?_)
  exact hret _ _ _ _ dJ0_length_8abf5_10 ⟨a106, rfl, rfl, by omega⟩
set_option maxHeartbeats 4000000 in
theorem s1_J1_canEncode_9a6ad {l : Launch} {dC : Nat → ClassId} {dI : Nat → Nat → Nat} {ad : Nat → Nat} {cA : Nat → ClassId} {pr : Nat → Nat → Bool} {Kz : mm_M} {M0 : mm_M} (hM0 : INV pr Kz M0) (a0 : Int) (ha0 : -2147483648 ≤ a0 ∧ a0 ≤ 2147483647) : Ci l 0 yJ1_canEncode_9a6ad wsJ1_canEncode_9a6ad dC dI ad cA [.int (sI a0)] M0 (fun r M' => ∃ a : Int, r = sI a ∧ M0 = M' ∧ 0 ≤ a ∧ a ≤ 1 ∧ ((a0 < 0 ∧ a = 0) ∨ (0 ≤ a0 ∧ 255 < a0 ∧ a = 0) ∨ (0 ≤ a0 ∧ a0 ≤ 255 ∧ a = 1))) := by
  refine ci_of (cc := cJ1_canEncode_9a6ad) (maxL := 1) (ty := .boolean) (lv := [(0, .int (sI a0))]) (by decide) rfl (fun r M' hp => by obtain ⟨a, rfl, -, h⟩ := hp; rcases (show a = 0 ∨ a = 1 by omega) with rfl | rfl <;> rfl) (Nat.le_of_ble_eq_true rfl) rfl ?_
  intro p e s m args below meth c A Q C hret
  refine j_iload_n C 0 0 dJ1_canEncode_9a6ad_0 rfl rfl ?_
  refine y_if_lt C 15 dJ1_canEncode_9a6ad_1 (by decide) (by omega) (fun h101 => ?_) (fun h101 => ?_)
  · refine y_iconst C dJ1_canEncode_9a6ad_15 ?_
    exact hret _ _ _ _ dJ1_canEncode_9a6ad_16 ⟨0, rfl, rfl, by omega⟩
  · refine j_iload_n C 0 0 dJ1_canEncode_9a6ad_4 rfl rfl ?_
    refine y_sipush C dJ1_canEncode_9a6ad_5 rfl ?_
    refine y_icmp_gt C 15 dJ1_canEncode_9a6ad_8 (by decide) (by omega) (fun h102 => ?_) (fun h102 => ?_)
    · refine y_iconst C dJ1_canEncode_9a6ad_15 ?_
      exact hret _ _ _ _ dJ1_canEncode_9a6ad_16 ⟨0, rfl, rfl, by omega⟩
    · refine y_iconst C dJ1_canEncode_9a6ad_11 ?_
      refine j_goto C 16 dJ1_canEncode_9a6ad_12 (by decide) ?_
      exact hret _ _ _ _ dJ1_canEncode_9a6ad_16 ⟨1, rfl, rfl, by omega⟩
set_option maxHeartbeats 4000000 in
theorem s1_J1_indexOfChar_4cfef {l : Launch} {dC : Nat → ClassId} {dI : Nat → Nat → Nat} {ad : Nat → Nat} {cA : Nat → ClassId} {pr : Nat → Nat → Bool} {Kz : mm_M} {M0 : mm_M} (hM0 : INV pr Kz M0) (a1 : Int) (ha1 : -2147483648 ≤ a1 ∧ a1 ≤ 2147483647) (a2 : Int) (ha2 : -2147483648 ≤ a2 ∧ a2 ≤ 2147483647) (a3 : Int) (ha3 : -2147483648 ≤ a3 ∧ a3 ≤ 2147483647) (hp0 : 0 ≤ a2 ∧ a2 ≤ 12) (hp1 : 0 ≤ a3 ∧ a3 ≤ 12) : Ci l 0 yJ1_indexOfChar_4cfef wsJ1_indexOfChar_4cfef dC dI ad cA [.ref (dI 1001 0), .int (sI a1), .int (sI a2), .int (sI a3)] M0 (fun r M' => ∃ a : Int, r = sI a ∧ M0 = M' ∧ (-1) ≤ a ∧ a ≤ 11) := by
  refine ci_of (cc := cJ1_indexOfChar_4cfef) (maxL := 6) (ty := .int) (lv := [(0, .ref (dI 1001 0)), (1, .int (sI a1)), (2, .int (sI a2)), (3, .int (sI a3))]) (by decide) rfl (fun r M' hp => rfl) (Nat.le_of_ble_eq_true rfl) rfl ?_
  intro p e s m args below meth c A Q C hret
  refine j_iload_n C 1 1 dJ1_indexOfChar_4cfef_0 rfl rfl ?_
  refine y_i2b C dJ1_indexOfChar_4cfef_1 (fun a101 la101 ua101 => ?_)
  refine j_istore C 4 [(4, .int (sI a101)), (0, .ref (dI 1001 0)), (1, .int (sI a1)), (2, .int (sI a2)), (3, .int (sI a3))] dJ1_indexOfChar_4cfef_2 (by decide) rfl ?_
  refine j_iload_n C 3 2 dJ1_indexOfChar_4cfef_4 rfl rfl ?_
  refine j_istore C 5 [(5, .int (sI a2)), (4, .int (sI a101)), (0, .ref (dI 1001 0)), (1, .int (sI a1)), (2, .int (sI a2)), (3, .int (sI a3))] dJ1_indexOfChar_4cfef_5 (by decide) rfl ?_
  have L108 : ∀ (n106 : Nat), ∀ (a109 : Int), (0 ≤ a109 ∧ a109 ≤ 12 ∧ (12 - a109) < (n106 : Int)) → jj p l e (cn_R 0) s m args below meth c 0 0 Q 6 dC dI ad cA A M0 7 [(0, .ref (dI 1001 0)), (3, .int (sI a3)), (4, .int (sI a101)), (5, .int (sI a109))] [] := by
    intro n106
    induction n106 with
    | zero =>
      intro a109 h110
      exfalso; omega
    | succ n106 ih107 =>
      intro a109 h110
      refine j_iload C 3 dJ1_indexOfChar_4cfef_7 rfl ?_
      refine j_iload_n C 1 3 dJ1_indexOfChar_4cfef_9 rfl rfl ?_
      refine y_icmp_ge C 31 dJ1_indexOfChar_4cfef_10 (by decide) (by omega) (fun h111 => ?_) (fun h111 => ?_)
      · refine y_iconst C dJ1_indexOfChar_4cfef_31 ?_
        exact hret _ _ _ _ dJ1_indexOfChar_4cfef_32 ⟨(-1), rfl, rfl, by omega⟩
      · refine j_aload_n C 0 0 dJ1_indexOfChar_4cfef_13 rfl rfl ?_
        refine j_iload C 3 dJ1_indexOfChar_4cfef_14 rfl ?_
        refine j_strR C 12 (by decide) rfl dJ1_indexOfChar_4cfef_16 (by omega) (fun a112 la112 ua112 => ?_)
        refine j_iload C 2 dJ1_indexOfChar_4cfef_17 rfl ?_
        refine y_icmp_ne C 25 dJ1_indexOfChar_4cfef_19 (by decide) (by omega) (fun h113 => ?_) (fun h113 => ?_)
        · refine y_iinc C 3 [(5, .int (sI (a109 + 1))), (0, .ref (dI 1001 0)), (3, .int (sI a3)), (4, .int (sI a101))] dJ1_indexOfChar_4cfef_25 rfl (by decide) rfl ?_
          refine j_goto C 7 dJ1_indexOfChar_4cfef_28 (by decide) ?_
          refine j_lv [1, 2, 3, 0] rfl ?_; exact ih107 (a109 + 1) (by omega)
        · refine j_iload C 3 dJ1_indexOfChar_4cfef_22 rfl ?_
          exact hret _ _ _ _ dJ1_indexOfChar_4cfef_24 ⟨a109, rfl, rfl, by omega⟩
  refine j_lv [2, 5, 1, 0] rfl ?_; exact L108 2010 a2 (by omega)
set_option maxHeartbeats 4000000 in
theorem s1_J1_indexOf_4cfef {l : Launch} {dC : Nat → ClassId} {dI : Nat → Nat → Nat} {ad : Nat → Nat} {cA : Nat → ClassId} {pr : Nat → Nat → Bool} {Kz : mm_M} {M0 : mm_M} (hM0 : INV pr Kz M0) (a1 : Int) (ha1 : -2147483648 ≤ a1 ∧ a1 ≤ 2147483647) (a2 : Int) (ha2 : -2147483648 ≤ a2 ∧ a2 ≤ 2147483647) (a3 : Int) (ha3 : -2147483648 ≤ a3 ∧ a3 ≤ 2147483647) (hp0 : 0 ≤ a2 ∧ a2 ≤ 12) (hp1 : 0 ≤ a3 ∧ a3 ≤ 12) : Ci l 1 yJ1_indexOf_4cfef wsJ1_indexOf_4cfef dC dI ad cA [.ref (dI 1001 0), .int (sI a1), .int (sI a2), .int (sI a3)] M0 (fun r M' => ∃ a : Int, r = sI a ∧ M0 = M' ∧ (-1) ≤ a ∧ a ≤ 11 ∧ ((0 ≤ a1 ∧ a1 ≤ 255 ∧ (-1) ≤ a ∧ a ≤ 11) ∨ (0 ≤ a1 ∧ a1 ≤ 255 ∧ a = (-1)) ∨ (a = (-1)))) := by
  refine ci_of (cc := cJ1_indexOf_4cfef) (maxL := 4) (ty := .int) (lv := [(0, .ref (dI 1001 0)), (1, .int (sI a1)), (2, .int (sI a2)), (3, .int (sI a3))]) (by decide) rfl (fun r M' hp => rfl) (Nat.le_of_ble_eq_true rfl) rfl ?_
  intro p e s m args below meth c A Q C hret
  refine j_iload_n C 1 1 dJ1_indexOf_4cfef_0 rfl rfl ?_
  refine j_callSi C (d := 0) (As := [.int (sI a1)]) (st := []) (s1_J1_canEncode_9a6ad hM0 a1 (by omega)) gJ1_indexOf_4cfef_J1_canEncode_9a6ad rfl hdJ1_canEncode_9a6ads (by decide) (Nat.le_of_ble_eq_true rfl) dJ1_indexOf_4cfef_1 rfl (fun r101 M102 h103 => ?_)
  obtain ⟨a105, rfl, rfl, h104⟩ := h103
  refine y_if_ne C 9 dJ1_indexOf_4cfef_4 (by decide) (by omega) (fun h106 => ?_) (fun h106 => ?_)
  · refine j_iload_n C 2 2 dJ1_indexOf_4cfef_9 rfl rfl ?_
    refine y_iconst C dJ1_indexOf_4cfef_10 ?_
    refine y_mmax C wJ1_indexOf_4cfef_92_0 wJ1_indexOf_4cfef_92_1 wJ1_indexOf_4cfef_92_2 wJ1_indexOf_4cfef_92_3 (by decide) (Nat.le_of_ble_eq_true rfl) dJ1_indexOf_4cfef_11 (by omega) (fun a107 ha107 => ?_)
    refine j_istore_n C 2 [(2, .int (sI a107)), (0, .ref (dI 1001 0)), (1, .int (sI a1)), (3, .int (sI a3))] dJ1_indexOf_4cfef_14 rfl (by decide) rfl ?_
    refine j_iload_n C 3 3 dJ1_indexOf_4cfef_15 rfl rfl ?_
    refine j_aload_n C 1 0 dJ1_indexOf_4cfef_16 rfl rfl ?_
    refine j_strL C 12 (by decide) rfl dJ1_indexOf_4cfef_17 ?_
    refine y_mmin C wJ1_indexOf_4cfef_38_0 wJ1_indexOf_4cfef_38_1 wJ1_indexOf_4cfef_38_2 wJ1_indexOf_4cfef_38_3 (by decide) (Nat.le_of_ble_eq_true rfl) dJ1_indexOf_4cfef_18 (by omega) (fun a108 ha108 => ?_)
    refine j_istore_n C 3 [(3, .int (sI a108)), (2, .int (sI a107)), (0, .ref (dI 1001 0)), (1, .int (sI a1))] dJ1_indexOf_4cfef_21 rfl (by decide) rfl ?_
    refine j_iload_n C 1 2 dJ1_indexOf_4cfef_22 rfl rfl ?_
    refine j_iload_n C 0 3 dJ1_indexOf_4cfef_23 rfl rfl ?_
    refine y_icmp_lt C 29 dJ1_indexOf_4cfef_24 (by decide) (by omega) (fun h109 => ?_) (fun h109 => ?_)
    · refine j_aload_n C 2 0 dJ1_indexOf_4cfef_29 rfl rfl ?_
      refine j_iload_n C 3 1 dJ1_indexOf_4cfef_30 rfl rfl ?_
      refine j_iload_n C 1 2 dJ1_indexOf_4cfef_31 rfl rfl ?_
      refine j_iload_n C 0 3 dJ1_indexOf_4cfef_32 rfl rfl ?_
      refine j_callSi C (d := 0) (As := [.ref (dI 1001 0), .int (sI a1), .int (sI a107), .int (sI a108)]) (st := []) (s1_J1_indexOfChar_4cfef hM0 a1 (by omega) a107 (by omega) a108 (by omega) (by omega) (by omega)) gJ1_indexOf_4cfef_J1_indexOfChar_4cfef rfl hdJ1_indexOfChar_4cfefs (by decide) (Nat.le_of_ble_eq_true rfl) dJ1_indexOf_4cfef_33 rfl (fun r110 M111 h112 => ?_)
      obtain ⟨a114, rfl, rfl, h113⟩ := h112
      exact hret _ _ _ _ dJ1_indexOf_4cfef_36 ⟨a114, rfl, rfl, by omega⟩
    · refine y_iconst C dJ1_indexOf_4cfef_27 ?_
      exact hret _ _ _ _ dJ1_indexOf_4cfef_28 ⟨(-1), rfl, rfl, by omega⟩
  · refine y_iconst C dJ1_indexOf_4cfef_7 ?_
    exact hret _ _ _ _ dJ1_indexOf_4cfef_8 ⟨(-1), rfl, rfl, by omega⟩
set_option maxHeartbeats 4000000 in
theorem s1_J0_indexOf_7cf53 {l : Launch} {dC : Nat → ClassId} {dI : Nat → Nat → Nat} {ad : Nat → Nat} {cA : Nat → ClassId} {pr : Nat → Nat → Bool} {Kz : mm_M} {M0 : mm_M} (hM0 : INV pr Kz M0) (a1 : Int) (ha1 : -2147483648 ≤ a1 ∧ a1 ≤ 2147483647) (a2 : Int) (ha2 : -2147483648 ≤ a2 ∧ a2 ≤ 2147483647) (hp0 : 0 ≤ a2 ∧ a2 ≤ 0) : Ci l 2 yJ0_indexOf_7cf53 wsJ0_indexOf_7cf53 dC dI ad cA [.ref (dI 1000 0), .int (sI a1), .int (sI a2)] M0 (fun r M' => ∃ a : Int, r = sI a ∧ M0 = M' ∧ (-1) ≤ a ∧ a ≤ 11 ∧ (((-1) ≤ a ∧ a ≤ 11))) := by
  refine ci_of (cc := cJ0_indexOf_7cf53) (maxL := 3) (ty := .int) (lv := [(0, .ref (dI 1000 0)), (1, .int (sI a1)), (2, .int (sI a2))]) (by decide) rfl (fun r M' hp => rfl) (Nat.le_of_ble_eq_true rfl) rfl ?_
  intro p e s m args below meth c A Q C hret
  refine j_aload_n C 0 0 dJ0_indexOf_7cf53_0 rfl rfl ?_
  refine j_callSS C (d := 0) (As := []) (st := []) 0 (by decide) (s1_J0_isLatin1_aae02 hM0) gJ0_indexOf_7cf53_J0_isLatin1_aae02 rfl hdJ0_isLatin1_aae02 (by decide) (Nat.le_of_ble_eq_true rfl) dJ0_indexOf_7cf53_1 rfl (fun r101 M102 h103 => ?_)
  obtain ⟨a105, rfl, rfl, h104⟩ := h103
  refine y_if_eq C 23 dJ0_indexOf_7cf53_4 (by decide) (by omega) (fun h106 => ?_) (fun h106 => ?_)
  · exfalso; omega
  · refine j_aload_n C 0 0 dJ0_indexOf_7cf53_7 rfl rfl ?_
    refine j_strV C (by decide) fJ0_indexOf_7cf53_9 dJ0_indexOf_7cf53_8 ?_
    refine j_iload_n C 1 1 dJ0_indexOf_7cf53_11 rfl rfl ?_
    refine j_iload_n C 2 2 dJ0_indexOf_7cf53_12 rfl rfl ?_
    refine j_aload_n C 0 0 dJ0_indexOf_7cf53_13 rfl rfl ?_
    refine j_callSS C (d := 1) (As := []) (st := [.int (sI a2), .int (sI a1), .ref (dI 1001 0)]) 0 (by decide) (s1_J0_length_8abf5 hM0) gJ0_indexOf_7cf53_J0_length_8abf5 rfl hdJ0_length_8abf5 (by decide) (Nat.le_of_ble_eq_true rfl) dJ0_indexOf_7cf53_14 rfl (fun r107 M108 h109 => ?_)
    obtain ⟨a111, rfl, rfl, h110⟩ := h109
    refine j_callSi C (d := 1) (As := [.ref (dI 1001 0), .int (sI a1), .int (sI a2), .int (sI a111)]) (st := []) (s1_J1_indexOf_4cfef hM0 a1 (by omega) a2 (by omega) a111 (by omega) (by omega) (by omega)) gJ0_indexOf_7cf53_J1_indexOf_4cfef rfl hdJ1_indexOf_4cfefs (by decide) (Nat.le_of_ble_eq_true rfl) dJ0_indexOf_7cf53_17 rfl (fun r112 M113 h114 => ?_)
    obtain ⟨a116, rfl, rfl, h115⟩ := h114
    refine j_goto C 36 dJ0_indexOf_7cf53_20 (by decide) ?_
    exact hret _ _ _ _ dJ0_indexOf_7cf53_36 ⟨a116, rfl, rfl, by omega⟩
set_option maxHeartbeats 4000000 in
theorem s1_J0_indexOf_0f7a4 {l : Launch} {dC : Nat → ClassId} {dI : Nat → Nat → Nat} {ad : Nat → Nat} {cA : Nat → ClassId} {pr : Nat → Nat → Bool} {Kz : mm_M} {M0 : mm_M} (hM0 : INV pr Kz M0) (a1 : Int) (ha1 : -2147483648 ≤ a1 ∧ a1 ≤ 2147483647) : Ci l 3 yJ0_indexOf_0f7a4 wsJ0_indexOf_0f7a4 dC dI ad cA [.ref (dI 1000 0), .int (sI a1)] M0 (fun r M' => ∃ a : Int, r = sI a ∧ M0 = M' ∧ (-1) ≤ a ∧ a ≤ 11 ∧ (((-1) ≤ a ∧ a ≤ 11))) := by
  refine ci_of (cc := cJ0_indexOf_0f7a4) (maxL := 2) (ty := .int) (lv := [(0, .ref (dI 1000 0)), (1, .int (sI a1))]) (by decide) rfl (fun r M' hp => rfl) (Nat.le_of_ble_eq_true rfl) rfl ?_
  intro p e s m args below meth c A Q C hret
  refine j_aload_n C 0 0 dJ0_indexOf_0f7a4_0 rfl rfl ?_
  refine j_iload_n C 1 1 dJ0_indexOf_0f7a4_1 rfl rfl ?_
  refine y_iconst C dJ0_indexOf_0f7a4_2 ?_
  refine j_callSS C (d := 2) (As := [.int (sI a1), .int (sI 0)]) (st := []) 0 (by decide) (s1_J0_indexOf_7cf53 hM0 a1 (by omega) 0 (by omega) (by omega)) gJ0_indexOf_0f7a4_J0_indexOf_7cf53 rfl hdJ0_indexOf_7cf53 (by decide) (Nat.le_of_ble_eq_true rfl) dJ0_indexOf_0f7a4_3 rfl (fun r101 M102 h103 => ?_)
  obtain ⟨a105, rfl, rfl, h104⟩ := h103
  exact hret _ _ _ _ dJ0_indexOf_0f7a4_6 ⟨a105, rfl, rfl, by omega⟩
set_option maxHeartbeats 4000000 in
theorem s1_X3_numberOf {l : Launch} {dC : Nat → ClassId} {dI : Nat → Nat → Nat} {ad : Nat → Nat} {cA : Nat → ClassId} {pr : Nat → Nat → Bool} {Kz : mm_M} {M0 : mm_M} (hM0 : INV pr Kz M0) (a1 : Int) (ha1 : -2147483648 ≤ a1 ∧ a1 ≤ 2147483647) (a2 : Int) (ha2 : -2147483648 ≤ a2 ∧ a2 ≤ 2147483647) (hp0 : a1 < a2) (hp1 : 0 ≤ a1 ∧ a1 ≤ 899) (hp2 : 0 ≤ a2 ∧ a2 ≤ 900) : Ci l 0 yX3_numberOf wsX3_numberOf dC dI ad cA [.ref (ad 1), .int (sI a1), .int (sI a2)] M0 (fun r M' => ∃ a : Int, r = sI a ∧ M0 = M' ∧ (-2147483648) ≤ a ∧ a ≤ 2147483647) := by
  refine ci_of (cc := cX3_numberOf) (maxL := 5) (ty := .int) (lv := [(0, .ref (ad 1)), (1, .int (sI a1)), (2, .int (sI a2))]) (by decide) rfl (fun r M' hp => rfl) (Nat.le_of_ble_eq_true rfl) rfl ?_
  intro p e s m args below meth c A Q C hret
  refine j_iload_n C 2 2 dX3_numberOf_0 rfl rfl ?_
  refine j_iload_n C 1 1 dX3_numberOf_1 rfl rfl ?_
  refine y_isub C dX3_numberOf_2 ?_
  refine y_iconst C dX3_numberOf_3 ?_
  refine y_icmp_le C 11 dX3_numberOf_4 (by decide) (by omega) (fun h101 => ?_) (fun h101 => ?_)
  · refine y_iconst C dX3_numberOf_11 ?_
    refine j_istore_n C 3 [(3, .int (sI 0)), (0, .ref (ad 1)), (1, .int (sI a1)), (2, .int (sI a2))] dX3_numberOf_12 rfl (by decide) rfl ?_
    refine j_iload_n C 2 1 dX3_numberOf_13 rfl rfl ?_
    refine j_istore C 4 [(4, .int (sI a1)), (3, .int (sI 0)), (0, .ref (ad 1)), (1, .int (sI a1)), (2, .int (sI a2))] dX3_numberOf_14 (by decide) rfl ?_
    have L130 : ∀ (n128 : Nat), ∀ (a131 : Int) (a132 : Int), ((-2147483648) ≤ a131 ∧ a131 ≤ 2147483647 ∧ 0 ≤ a132 ∧ a132 ≤ 900 ∧ (900 - a132) < (n128 : Int)) → jj p l e (cn_R 0) s m args below meth c 0 0 Q 5 dC dI ad cA A M0 16 [(0, .ref (ad 1)), (2, .int (sI a2)), (3, .int (sI a131)), (4, .int (sI a132))] [] := by
      intro n128
      induction n128 with
      | zero =>
        intro a131 a132 h133
        exfalso; omega
      | succ n128 ih129 =>
        intro a131 a132 h133
        refine j_iload C 3 dX3_numberOf_16 rfl ?_
        refine j_iload_n C 1 2 dX3_numberOf_18 rfl rfl ?_
        refine y_icmp_ge C 41 dX3_numberOf_19 (by decide) (by omega) (fun h134 => ?_) (fun h134 => ?_)
        · refine j_iload_n C 2 3 dX3_numberOf_41 rfl rfl ?_
          exact hret _ _ _ _ dX3_numberOf_42 ⟨a131, rfl, rfl, by omega⟩
        · refine j_iload_n C 2 3 dX3_numberOf_22 rfl rfl ?_
          refine y_bipush C dX3_numberOf_23 rfl ?_
          refine y_imul0 C dX3_numberOf_25 (fun a135 la135 ua135 => ?_)
          refine j_aload_n C 0 0 dX3_numberOf_26 rfl rfl ?_
          refine j_iload C 3 dX3_numberOf_27 rfl ?_
          refine y_iald C 20 900 _ _ rfl rfl rfl ak_20 an_20 rfl (sb_20 _) hM0 dX3_numberOf_29 (by omega) (fun a136 ea136 la136 ua136 => ?_)
          refine y_iadd0 C dX3_numberOf_30 (fun a137 la137 ua137 => ?_)
          refine y_bipush C dX3_numberOf_31 rfl ?_
          refine y_isub0 C dX3_numberOf_33 (fun a138 la138 ua138 => ?_)
          refine j_istore_n C 3 [(3, .int (sI a138)), (0, .ref (ad 1)), (2, .int (sI a2)), (4, .int (sI a132))] dX3_numberOf_34 rfl (by decide) rfl ?_
          refine y_iinc C 3 [(4, .int (sI (a132 + 1))), (3, .int (sI a138)), (0, .ref (ad 1)), (2, .int (sI a2))] dX3_numberOf_35 rfl (by decide) rfl ?_
          refine j_goto C 16 dX3_numberOf_38 (by decide) ?_
          refine j_lv [2, 3, 1, 0] rfl ?_; exact ih129 a138 (a132 + 1) (by omega)
    refine j_lv [2, 4, 1, 0] rfl ?_; exact L130 4294967306 0 a1 (by omega)
  · refine y_sipush C dX3_numberOf_7 rfl ?_
    exact hret _ _ _ _ dX3_numberOf_10 ⟨3000, rfl, rfl, by omega⟩
set_option maxHeartbeats 4000000 in
theorem s2_J0_isLatin1_aae02 {l : Launch} {dC : Nat → ClassId} {dI : Nat → Nat → Nat} {ad : Nat → Nat} {cA : Nat → ClassId} {pr : Nat → Nat → Bool} {Kz : mm_M} {M0 : mm_M} (hM0 : INV pr Kz M0)  : Ci l 0 yJ0_isLatin1_aae02 wsJ0_isLatin1_aae02 dC dI ad cA [.ref (dI 1000 1)] M0 (fun r M' => ∃ a : Int, r = sI a ∧ M0 = M' ∧ 1 ≤ a ∧ a ≤ 1 ∧ ((a = 1))) := by
  refine ci_of (cc := cJ0_isLatin1_aae02) (maxL := 1) (ty := .boolean) (lv := [(0, .ref (dI 1000 1))]) (by decide) rfl (fun r M' hp => by obtain ⟨a, rfl, -, h⟩ := hp; rcases (show a = 0 ∨ a = 1 by omega) with rfl | rfl <;> rfl) (Nat.le_of_ble_eq_true rfl) rfl ?_
  intro p e s m args below meth c A Q C hret
  refine j_getsC C fJ0_isLatin1_aae02_38 dJ0_isLatin1_aae02_0 ?_
  refine y_if_eq C 17 dJ0_isLatin1_aae02_3 (by decide) (by omega) (fun h101 => ?_) (fun h101 => ?_)
  · exfalso; omega
  · refine j_aload_n C 0 0 dJ0_isLatin1_aae02_6 rfl rfl ?_
    refine j_strC C (by decide) fJ0_isLatin1_aae02_15 dJ0_isLatin1_aae02_7 ?_
    refine y_if_ne C 17 dJ0_isLatin1_aae02_10 (by decide) (by omega) (fun h102 => ?_) (fun h102 => ?_)
    · exfalso; omega
    · refine y_iconst C dJ0_isLatin1_aae02_13 ?_
      refine j_goto C 18 dJ0_isLatin1_aae02_14 (by decide) ?_
      exact hret _ _ _ _ dJ0_isLatin1_aae02_18 ⟨1, rfl, rfl, by omega⟩
set_option maxHeartbeats 4000000 in
theorem s1_J3_checkIndex_8e157 {l : Launch} {dC : Nat → ClassId} {dI : Nat → Nat → Nat} {ad : Nat → Nat} {cA : Nat → ClassId} {pr : Nat → Nat → Bool} {Kz : mm_M} {M0 : mm_M} (hM0 : INV pr Kz M0) (a0 : Int) (ha0 : -2147483648 ≤ a0 ∧ a0 ≤ 2147483647) (a1 : Int) (ha1 : -2147483648 ≤ a1 ∧ a1 ≤ 2147483647) (hp0 : a0 < a1) (hp1 : 0 ≤ a0 ∧ a0 ≤ 2147483647) : Ci l 0 yJ3_checkIndex_8e157 wsJ3_checkIndex_8e157 dC dI ad cA [.int (sI a0), .int (sI a1), .null] M0 (fun r M' => ∃ a : Int, r = sI a ∧ M0 = M' ∧ 0 ≤ a ∧ a ≤ 2147483646 ∧ ((a0 < a1 ∧ 0 ≤ a0 ∧ a0 < a1 ∧ a = a0))) := by
  refine ci_of (cc := cJ3_checkIndex_8e157) (maxL := 3) (ty := .int) (lv := [(0, .int (sI a0)), (1, .int (sI a1)), (2, .null)]) (by decide) rfl (fun r M' hp => rfl) (Nat.le_of_ble_eq_true rfl) rfl ?_
  intro p e s m args below meth c A Q C hret
  refine j_iload_n C 0 0 dJ3_checkIndex_8e157_0 rfl rfl ?_
  refine y_if_lt C 9 dJ3_checkIndex_8e157_1 (by decide) (by omega) (fun h101 => ?_) (fun h101 => ?_)
  · exfalso; omega
  · refine j_iload_n C 0 0 dJ3_checkIndex_8e157_4 rfl rfl ?_
    refine j_iload_n C 1 1 dJ3_checkIndex_8e157_5 rfl rfl ?_
    refine y_icmp_lt C 16 dJ3_checkIndex_8e157_6 (by decide) (by omega) (fun h102 => ?_) (fun h102 => ?_)
    · refine j_iload_n C 0 0 dJ3_checkIndex_8e157_16 rfl rfl ?_
      exact hret _ _ _ _ dJ3_checkIndex_8e157_17 ⟨a0, rfl, rfl, by omega⟩
    · exfalso; omega
set_option maxHeartbeats 4000000 in
theorem s2_J3_checkIndex_8e157 {l : Launch} {dC : Nat → ClassId} {dI : Nat → Nat → Nat} {ad : Nat → Nat} {cA : Nat → ClassId} {pr : Nat → Nat → Bool} {Kz : mm_M} {M0 : mm_M} (hM0 : INV pr Kz M0) (a0 : Int) (ha0 : -2147483648 ≤ a0 ∧ a0 ≤ 2147483647) (a1 : Int) (ha1 : -2147483648 ≤ a1 ∧ a1 ≤ 2147483647) (t2 : Nat) (hp0 : a0 < a1) (hp1 : 0 ≤ a0 ∧ a0 ≤ 2147483647) : Ci l 0 yJ3_checkIndex_8e157 wsJ3_checkIndex_8e157 dC dI ad cA [.int (sI a0), .int (sI a1), .ref t2] M0 (fun r M' => ∃ a : Int, r = sI a ∧ M0 = M' ∧ 0 ≤ a ∧ a ≤ 2147483646 ∧ ((a0 < a1 ∧ 0 ≤ a0 ∧ a0 < a1 ∧ a = a0))) := by
  refine ci_of (cc := cJ3_checkIndex_8e157) (maxL := 3) (ty := .int) (lv := [(0, .int (sI a0)), (1, .int (sI a1)), (2, .ref t2)]) (by decide) rfl (fun r M' hp => rfl) (Nat.le_of_ble_eq_true rfl) rfl ?_
  intro p e s m args below meth c A Q C hret
  refine j_iload_n C 0 0 dJ3_checkIndex_8e157_0 rfl rfl ?_
  refine y_if_lt C 9 dJ3_checkIndex_8e157_1 (by decide) (by omega) (fun h101 => ?_) (fun h101 => ?_)
  · exfalso; omega
  · refine j_iload_n C 0 0 dJ3_checkIndex_8e157_4 rfl rfl ?_
    refine j_iload_n C 1 1 dJ3_checkIndex_8e157_5 rfl rfl ?_
    refine y_icmp_lt C 16 dJ3_checkIndex_8e157_6 (by decide) (by omega) (fun h102 => ?_) (fun h102 => ?_)
    · refine j_iload_n C 0 0 dJ3_checkIndex_8e157_16 rfl rfl ?_
      exact hret _ _ _ _ dJ3_checkIndex_8e157_17 ⟨a0, rfl, rfl, by omega⟩
    · exfalso; omega
set_option maxHeartbeats 4000000 in
theorem s1_J0_checkIndex_df160 {l : Launch} {dC : Nat → ClassId} {dI : Nat → Nat → Nat} {ad : Nat → Nat} {cA : Nat → ClassId} {pr : Nat → Nat → Bool} {Kz : mm_M} {M0 : mm_M} (hM0 : INV pr Kz M0) (a0 : Int) (ha0 : -2147483648 ≤ a0 ∧ a0 ≤ 2147483647) (a1 : Int) (ha1 : -2147483648 ≤ a1 ∧ a1 ≤ 2147483647) (hp0 : a0 < a1) (hp1 : 0 ≤ a0 ∧ a0 ≤ 2147483647) : Cv l 1 yJ0_checkIndex_df160 wsJ0_checkIndex_df160 dC dI ad cA [.int (sI a0), .int (sI a1)] M0 (fun M' => M0 = M') := by
  refine cv_of (cc := cJ0_checkIndex_df160) (maxL := 2) (lv := [(0, .int (sI a0)), (1, .int (sI a1))]) (by decide) rfl (Nat.le_of_ble_eq_true rfl) rfl ?_
  intro p e s m args below meth c A Q C hret
  refine j_iload_n C 0 0 dJ0_checkIndex_df160_0 rfl rfl ?_
  refine j_iload_n C 1 1 dJ0_checkIndex_df160_1 rfl rfl ?_
  refine j_getsF C fJ0_checkIndex_df160_1053 dJ0_checkIndex_df160_2 ?_ (fun t101 => ?_)
  · refine j_callSi C (d := 0) (As := [.int (sI a0), .int (sI a1), .null]) (st := []) (s1_J3_checkIndex_8e157 hM0 a0 (by omega) a1 (by omega) (by omega) (by omega)) gJ0_checkIndex_df160_J3_checkIndex_8e157 rfl hdJ3_checkIndex_8e157s (by decide) (Nat.le_of_ble_eq_true rfl) dJ0_checkIndex_df160_5 rfl (fun r102 M103 h104 => ?_)
    obtain ⟨a106, rfl, rfl, h105⟩ := h104
    refine j_pop C dJ0_checkIndex_df160_8 rfl ?_
    exact hret _ _ _ dJ0_checkIndex_df160_9 rfl
  · refine j_callSi C (d := 0) (As := [.int (sI a0), .int (sI a1), .ref t101]) (st := []) (s2_J3_checkIndex_8e157 hM0 a0 (by omega) a1 (by omega) t101 (by omega) (by omega)) gJ0_checkIndex_df160_J3_checkIndex_8e157 rfl hdJ3_checkIndex_8e157s (by decide) (Nat.le_of_ble_eq_true rfl) dJ0_checkIndex_df160_5 rfl (fun r107 M108 h109 => ?_)
    obtain ⟨a111, rfl, rfl, h110⟩ := h109
    refine j_pop C dJ0_checkIndex_df160_8 rfl ?_
    exact hret _ _ _ dJ0_checkIndex_df160_9 rfl
set_option maxHeartbeats 4000000 in
theorem s1_J0_charAt_5068e {l : Launch} {dC : Nat → ClassId} {dI : Nat → Nat → Nat} {ad : Nat → Nat} {cA : Nat → ClassId} {pr : Nat → Nat → Bool} {Kz : mm_M} {M0 : mm_M} (hM0 : INV pr Kz M0) (a1 : Int) (ha1 : -2147483648 ≤ a1 ∧ a1 ≤ 2147483647) (hp0 : 0 ≤ a1 ∧ a1 ≤ 118) : Ci l 3 yJ0_charAt_5068e wsJ0_charAt_5068e dC dI ad cA [.ref (dI 1000 1), .int (sI a1)] M0 (fun r M' => ∃ a : Int, r = sI a ∧ M0 = M' ∧ 0 ≤ a ∧ a ≤ 127 ∧ (a = 32 ∨ a1 + 1 < 119)) := by
  refine ci_of (cc := cJ0_charAt_5068e) (maxL := 2) (ty := .char) (lv := [(0, .ref (dI 1000 1)), (1, .int (sI a1))]) (by decide) rfl (fun r M' hp => by obtain ⟨a, rfl, -, h⟩ := hp; exact nar_char (by omega)) (Nat.le_of_ble_eq_true rfl) rfl ?_
  intro p e s m args below meth c A Q C hret
  refine j_aload_n C 0 0 dJ0_charAt_5068e_0 rfl rfl ?_
  refine j_callSS C (d := 0) (As := []) (st := []) 1 (by decide) (s2_J0_isLatin1_aae02 hM0) gJ0_charAt_5068e_J0_isLatin1_aae02 rfl hdJ0_isLatin1_aae02 (by decide) (Nat.le_of_ble_eq_true rfl) dJ0_charAt_5068e_1 rfl (fun r101 M102 h103 => ?_)
  obtain ⟨a105, rfl, rfl, h104⟩ := h103
  refine y_if_eq C 16 dJ0_charAt_5068e_4 (by decide) (by omega) (fun h106 => ?_) (fun h106 => ?_)
  · exfalso; omega
  · refine j_aload_n C 0 0 dJ0_charAt_5068e_7 rfl rfl ?_
    refine j_strV C (by decide) fJ0_charAt_5068e_9 dJ0_charAt_5068e_8 ?_
    refine j_iload_n C 1 1 dJ0_charAt_5068e_11 rfl rfl ?_
    refine j_callSi C (d := 2) (As := [.ref (dI 1001 1), .int (sI a1)]) (st := []) (h_J1_charAt_1 (fun a b h => s1_J0_checkIndex_df160 hM0 a (by omega) b (by omega) (by omega) (by omega)) a1 (by omega)) gJ0_charAt_5068e_J1_charAt_3b067 rfl hdJ1_charAt_3b067s (by decide) (Nat.le_of_ble_eq_true rfl) dJ0_charAt_5068e_12 rfl (fun r107 M108 h109 => ?_)
    obtain ⟨a111, rfl, rfl, h110⟩ := h109
    exact hret _ _ _ _ dJ0_charAt_5068e_15 ⟨a111, rfl, rfl, by omega⟩
set_option maxHeartbeats 4000000 in
theorem s1_X3_wordOf {l : Launch} {dC : Nat → ClassId} {dI : Nat → Nat → Nat} {ad : Nat → Nat} {cA : Nat → ClassId} {pr : Nat → Nat → Bool} {Kz : mm_M} {M0 : mm_M} (hM0 : INV pr Kz M0) (a1 : Int) (ha1 : -2147483648 ≤ a1 ∧ a1 ≤ 2147483647) (a2 : Int) (ha2 : -2147483648 ≤ a2 ∧ a2 ≤ 2147483647) (hp0 : a1 < a2) (hp1 : 0 ≤ a1 ∧ a1 ≤ 899) (hp2 : 0 ≤ a2 ∧ a2 ≤ 900) : Ci l 4 yX3_wordOf wsX3_wordOf dC dI ad cA [.ref (ad 1), .int (sI a1), .int (sI a2)] M0 (fun r M' => ∃ a : Int, r = sI a ∧ M0 = M' ∧ 1000 ≤ a ∧ a ≤ 1017) := by
  refine ci_of (cc := cX3_wordOf) (maxL := 5) (ty := .int) (lv := [(0, .ref (ad 1)), (1, .int (sI a1)), (2, .int (sI a2))]) (by decide) rfl (fun r M' hp => rfl) (Nat.le_of_ble_eq_true rfl) rfl ?_
  intro p e s m args below meth c A Q C hret
  refine y_iconst C dX3_wordOf_0 ?_
  refine j_istore_n C 3 [(3, .int (sI 0)), (0, .ref (ad 1)), (1, .int (sI a1)), (2, .int (sI a2))] dX3_wordOf_1 rfl (by decide) rfl ?_
  have L4247 : ∀ (n4245 : Nat), ∀ (a4248 : Int), (0 ≤ a4248 ∧ a4248 ≤ 20 ∧ (20 - a4248) < (n4245 : Int)) → jj p l e (cn_R 4) s m args below meth c 0 0 Q 5 dC dI ad cA A M0 2 [(0, .ref (ad 1)), (1, .int (sI a1)), (2, .int (sI a2)), (3, .int (sI a4248))] [] := by
    intro n4245
    induction n4245 with
    | zero =>
      intro a4248 h4249
      exfalso; omega
    | succ n4245 ih4246 =>
      intro a4248 h4249
      refine j_iload_n C 3 3 dX3_wordOf_2 rfl rfl ?_
      refine y_bipush C dX3_wordOf_3 rfl ?_
      refine y_icmp_ge C 91 dX3_wordOf_5 (by decide) (by omega) (fun h4250 => ?_) (fun h4250 => ?_)
      · refine y_sipush C dX3_wordOf_91 rfl ?_
        exact hret _ _ _ _ dX3_wordOf_94 ⟨1017, rfl, rfl, by omega⟩
      · refine j_iload_n C 2 2 dX3_wordOf_8 rfl rfl ?_
        refine j_iload_n C 1 1 dX3_wordOf_9 rfl rfl ?_
        refine y_isub C dX3_wordOf_10 ?_
        refine y_bipush C dX3_wordOf_11 rfl ?_
        refine y_icmp_ge C 91 dX3_wordOf_13 (by decide) (by omega) (fun h4251 => ?_) (fun h4251 => ?_)
        · refine y_sipush C dX3_wordOf_91 rfl ?_
          exact hret _ _ _ _ dX3_wordOf_94 ⟨1017, rfl, rfl, by omega⟩
        · refine y_iconst C dX3_wordOf_16 ?_
          refine j_istore C 4 [(4, .int (sI 0)), (0, .ref (ad 1)), (1, .int (sI a1)), (2, .int (sI a2)), (3, .int (sI a4248))] dX3_wordOf_17 (by decide) rfl ?_
          have X4536 : ∀ (a4535 : Int), (0 ≤ a4535 ∧ a4535 ≤ 900) → jj p l e (cn_R 4) s m args below meth c 0 0 Q 5 dC dI ad cA A M0 54 [(0, .ref (ad 1)), (1, .int (sI a1)), (2, .int (sI a2)), (3, .int (sI a4248)), (4, .int (sI a4535))] [] := by
            intro a4535 h4537
            refine j_iload C 4 dX3_wordOf_54 rfl ?_
            refine j_iload_n C 2 2 dX3_wordOf_56 rfl rfl ?_
            refine j_iload_n C 1 1 dX3_wordOf_57 rfl rfl ?_
            refine y_isub C dX3_wordOf_58 ?_
            refine y_icmp_ne C 85 dX3_wordOf_59 (by decide) (by omega) (fun h4538 => ?_) (fun h4538 => ?_)
            · refine y_iinc C 3 [(3, .int (sI (a4248 + 1))), (0, .ref (ad 1)), (1, .int (sI a1)), (2, .int (sI a2)), (4, .int (sI a4535))] dX3_wordOf_85 rfl (by decide) rfl ?_
              refine j_goto C 2 dX3_wordOf_88 (by decide) ?_
              refine j_lv [1, 2, 3, 0] rfl ?_; exact ih4246 (a4248 + 1) (by omega)
            · refine j_ldcS C 1 (by decide) rfl rfl dX3_wordOf_62 ?_
              refine j_iload_n C 3 3 dX3_wordOf_64 rfl rfl ?_
              refine y_bipush C dX3_wordOf_65 rfl ?_
              refine y_imul C dX3_wordOf_67 ?_
              refine j_iload C 4 dX3_wordOf_68 rfl ?_
              refine y_iadd C dX3_wordOf_70 ?_
              refine j_callSS C (d := 3) (As := [.int (sI ((a4248 * 7) + a4535))]) (st := []) 1 (by decide) (s1_J0_charAt_5068e hM0 ((a4248 * 7) + a4535) (by omega) (by omega)) gX3_wordOf_J0_charAt_5068e rfl hdJ0_charAt_5068e (by decide) (Nat.le_of_ble_eq_true rfl) dX3_wordOf_71 rfl (fun r4539 M4540 h4541 => ?_)
              obtain ⟨a4543, rfl, rfl, h4542⟩ := h4541
              refine y_bipush C dX3_wordOf_74 rfl ?_
              refine y_icmp_ne C 85 dX3_wordOf_76 (by decide) (by omega) (fun h4544 => ?_) (fun h4544 => ?_)
              · refine y_iinc C 3 [(3, .int (sI (a4248 + 1))), (0, .ref (ad 1)), (1, .int (sI a1)), (2, .int (sI a2)), (4, .int (sI a4535))] dX3_wordOf_85 rfl (by decide) rfl ?_
                refine j_goto C 2 dX3_wordOf_88 (by decide) ?_
                refine j_lv [1, 2, 3, 0] rfl ?_; exact ih4246 (a4248 + 1) (by omega)
              · refine y_sipush C dX3_wordOf_79 rfl ?_
                refine j_iload_n C 3 3 dX3_wordOf_82 rfl rfl ?_
                refine y_iadd C dX3_wordOf_83 ?_
                exact hret _ _ _ _ dX3_wordOf_84 ⟨(1000 + a4248), rfl, rfl, by omega⟩
          have L4524 : ∀ (n4522 : Nat), ∀ (a4525 : Int), (0 ≤ a4525 ∧ a4525 ≤ 900 ∧ (900 - a4525) < (n4522 : Int)) → jj p l e (cn_R 4) s m args below meth c 0 0 Q 5 dC dI ad cA A M0 19 [(0, .ref (ad 1)), (1, .int (sI a1)), (2, .int (sI a2)), (3, .int (sI a4248)), (4, .int (sI a4525))] [] := by
            intro n4522
            induction n4522 with
            | zero =>
              intro a4525 h4526
              exfalso; omega
            | succ n4522 ih4523 =>
              intro a4525 h4526
              refine j_iload C 4 dX3_wordOf_19 rfl ?_
              refine j_iload_n C 2 2 dX3_wordOf_21 rfl rfl ?_
              refine j_iload_n C 1 1 dX3_wordOf_22 rfl rfl ?_
              refine y_isub C dX3_wordOf_23 ?_
              refine y_icmp_ge C 54 dX3_wordOf_24 (by decide) (by omega) (fun h4527 => ?_) (fun h4527 => ?_)
              · exact X4536 a4525 (by omega)
              · refine j_ldcS C 1 (by decide) rfl rfl dX3_wordOf_27 ?_
                refine j_iload_n C 3 3 dX3_wordOf_29 rfl rfl ?_
                refine y_bipush C dX3_wordOf_30 rfl ?_
                refine y_imul C dX3_wordOf_32 ?_
                refine j_iload C 4 dX3_wordOf_33 rfl ?_
                refine y_iadd C dX3_wordOf_35 ?_
                refine j_callSS C (d := 3) (As := [.int (sI ((a4248 * 7) + a4525))]) (st := []) 1 (by decide) (s1_J0_charAt_5068e hM0 ((a4248 * 7) + a4525) (by omega) (by omega)) gX3_wordOf_J0_charAt_5068e rfl hdJ0_charAt_5068e (by decide) (Nat.le_of_ble_eq_true rfl) dX3_wordOf_36 rfl (fun r4528 M4529 h4530 => ?_)
                obtain ⟨a4532, rfl, rfl, h4531⟩ := h4530
                refine j_aload_n C 0 0 dX3_wordOf_39 rfl rfl ?_
                refine j_iload_n C 1 1 dX3_wordOf_40 rfl rfl ?_
                refine j_iload C 4 dX3_wordOf_41 rfl ?_
                refine y_iadd C dX3_wordOf_43 ?_
                refine y_iald C 20 900 _ _ rfl rfl rfl ak_20 an_20 rfl (sb_20 _) hM0 dX3_wordOf_44 (by omega) (fun a4533 ea4533 la4533 ua4533 => ?_)
                refine y_icmp_ne C 54 dX3_wordOf_45 (by decide) (by omega) (fun h4534 => ?_) (fun h4534 => ?_)
                · exact X4536 a4525 (by omega)
                · refine y_iinc C 4 [(4, .int (sI (a4525 + 1))), (0, .ref (ad 1)), (1, .int (sI a1)), (2, .int (sI a2)), (3, .int (sI a4248))] dX3_wordOf_48 rfl (by decide) rfl ?_
                  refine j_goto C 19 dX3_wordOf_51 (by decide) ?_
                  refine j_lv [1, 2, 3, 4, 0] rfl ?_; exact ih4523 (a4525 + 1) (by omega)
          refine j_lv [1, 2, 3, 4, 0] rfl ?_; exact L4524 2010 0 (by omega)
  refine j_lv [1, 2, 3, 0] rfl ?_; exact L4247 2010 0 (by omega)
set_option maxHeartbeats 4000000 in
theorem s1_X3_meaning {l : Launch} {dC : Nat → ClassId} {dI : Nat → Nat → Nat} {ad : Nat → Nat} {cA : Nat → ClassId} {pr : Nat → Nat → Bool} {Kz : mm_M} {M0 : mm_M} (hM0 : INV pr Kz M0) (a1 : Int) (ha1 : -2147483648 ≤ a1 ∧ a1 ≤ 2147483647) (a2 : Int) (ha2 : -2147483648 ≤ a2 ∧ a2 ≤ 2147483647) (hp0 : a1 < a2) (hp1 : 0 ≤ a1 ∧ a1 ≤ 899) (hp2 : 0 ≤ a2 ∧ a2 ≤ 900) : Ci l 5 yX3_meaning wsX3_meaning dC dI ad cA [.ref (ad 1), .int (sI a1), .int (sI a2)] M0 (fun r M' => ∃ a : Int, r = sI a ∧ M0 = M' ∧ (-2147483648) ≤ a ∧ a ≤ 2147483647 ∧ ((a = 3000) ∨ (a = (2000 + (M0.1 1 (a1).toNat).toInt)) ∨ (48 ≤ (M0.1 1 (a1).toNat).toInt ∧ (M0.1 1 (a1).toNat).toInt ≤ 57 ∧ 48 ≤ (M0.1 1 (a1).toNat).toInt ∧ (M0.1 1 (a1).toNat).toInt ≤ 57 ∧ (-2147483648) ≤ a ∧ a ≤ 2147483647) ∨ (97 ≤ (M0.1 1 (a1).toNat).toInt ∧ (M0.1 1 (a1).toNat).toInt ≤ 122 ∧ 97 ≤ (M0.1 1 (a1).toNat).toInt ∧ (M0.1 1 (a1).toNat).toInt ≤ 122 ∧ 1000 ≤ a ∧ a ≤ 1017))) := by
  refine ci_of (cc := cX3_meaning) (maxL := 3) (ty := .int) (lv := [(0, .ref (ad 1)), (1, .int (sI a1)), (2, .int (sI a2))]) (by decide) rfl (fun r M' hp => rfl) (Nat.le_of_ble_eq_true rfl) rfl ?_
  intro p e s m args below meth c A Q C hret
  refine j_aload_n C 0 0 dX3_meaning_0 rfl rfl ?_
  refine j_iload_n C 1 1 dX3_meaning_1 rfl rfl ?_
  refine y_iald C 20 900 _ _ rfl rfl rfl ak_20 an_20 rfl (sb_20 _) hM0 dX3_meaning_2 (by omega) (fun a101 ea101 la101 ua101 => ?_)
  refine j_callSi C (d := 0) (As := [.int (sI a101)]) (st := []) (s1_X3_isSmall hM0 a101 (by omega)) gX3_meaning_X3_isSmall rfl hdX3_isSmalls (by decide) (Nat.le_of_ble_eq_true rfl) dX3_meaning_3 rfl (fun r102 M103 h104 => ?_)
  obtain ⟨a106, rfl, rfl, h105⟩ := h104
  refine y_if_eq C 16 dX3_meaning_6 (by decide) (by omega) (fun h107 => ?_) (fun h107 => ?_)
  · refine j_aload_n C 0 0 dX3_meaning_16 rfl rfl ?_
    refine j_iload_n C 1 1 dX3_meaning_17 rfl rfl ?_
    refine y_iald C 20 900 _ _ rfl rfl rfl ak_20 an_20 rfl (sb_20 _) hM0 dX3_meaning_18 (by omega) (fun a108 ea108 la108 ua108 => ?_)
    refine j_callSi C (d := 0) (As := [.int (sI a108)]) (st := []) (s1_X3_isDigit hM0 a108 (by omega)) gX3_meaning_X3_isDigit rfl hdX3_isDigits (by decide) (Nat.le_of_ble_eq_true rfl) dX3_meaning_19 rfl (fun r109 M110 h111 => ?_)
    obtain ⟨a113, rfl, rfl, h112⟩ := h111
    refine y_if_eq C 32 dX3_meaning_22 (by decide) (by omega) (fun h114 => ?_) (fun h114 => ?_)
    · refine j_ldcS C 0 (by decide) rfl rfl dX3_meaning_32 ?_
      refine j_aload_n C 0 0 dX3_meaning_34 rfl rfl ?_
      refine j_iload_n C 1 1 dX3_meaning_35 rfl rfl ?_
      refine y_iald C 20 900 _ _ rfl rfl rfl ak_20 an_20 rfl (sb_20 _) hM0 dX3_meaning_36 (by omega) (fun a115 ea115 la115 ua115 => ?_)
      refine y_i2c C dX3_meaning_37 (fun a116 la116 ua116 => ?_)
      refine j_callSS C (d := 3) (As := [.int (sI a116)]) (st := []) 0 (by decide) (s1_J0_indexOf_0f7a4 hM0 a116 (by omega)) gX3_meaning_J0_indexOf_0f7a4 rfl hdJ0_indexOf_0f7a4 (by decide) (Nat.le_of_ble_eq_true rfl) dX3_meaning_38 rfl (fun r117 M118 h119 => ?_)
      obtain ⟨a121, rfl, rfl, h120⟩ := h119
      refine y_if_lt C 54 dX3_meaning_41 (by decide) (by omega) (fun h122 => ?_) (fun h122 => ?_)
      · refine y_sipush C dX3_meaning_54 rfl ?_
        exact hret _ _ _ _ dX3_meaning_57 ⟨3000, rfl, rfl, by omega⟩
      · refine y_sipush C dX3_meaning_44 rfl ?_
        refine j_aload_n C 0 0 dX3_meaning_47 rfl rfl ?_
        refine j_iload_n C 1 1 dX3_meaning_48 rfl rfl ?_
        refine y_iald C 20 900 _ _ rfl rfl rfl ak_20 an_20 rfl (sb_20 _) hM0 dX3_meaning_49 (by omega) (fun a123 ea123 la123 ua123 => ?_)
        refine y_iadd C dX3_meaning_50 ?_
        refine j_goto C 57 dX3_meaning_51 (by decide) ?_
        exact hret _ _ _ _ dX3_meaning_57 ⟨(2000 + a123), rfl, rfl, by omega⟩
    · refine j_aload_n C 0 0 dX3_meaning_25 rfl rfl ?_
      refine j_iload_n C 1 1 dX3_meaning_26 rfl rfl ?_
      refine j_iload_n C 2 2 dX3_meaning_27 rfl rfl ?_
      refine j_callSi C (d := 0) (As := [.ref (ad 1), .int (sI a1), .int (sI a2)]) (st := []) (s1_X3_numberOf hM0 a1 (by omega) a2 (by omega) (by omega) (by omega) (by omega)) gX3_meaning_X3_numberOf rfl hdX3_numberOfs (by decide) (Nat.le_of_ble_eq_true rfl) dX3_meaning_28 rfl (fun r124 M125 h126 => ?_)
      obtain ⟨a128, rfl, rfl, h127⟩ := h126
      exact hret _ _ _ _ dX3_meaning_31 ⟨a128, rfl, rfl, by omega⟩
  · refine j_aload_n C 0 0 dX3_meaning_9 rfl rfl ?_
    refine j_iload_n C 1 1 dX3_meaning_10 rfl rfl ?_
    refine j_iload_n C 2 2 dX3_meaning_11 rfl rfl ?_
    refine j_callSi C (d := 4) (As := [.ref (ad 1), .int (sI a1), .int (sI a2)]) (st := []) (s1_X3_wordOf hM0 a1 (by omega) a2 (by omega) (by omega) (by omega) (by omega)) gX3_meaning_X3_wordOf rfl hdX3_wordOfs (by decide) (Nat.le_of_ble_eq_true rfl) dX3_meaning_12 rfl (fun r129 M130 h131 => ?_)
    obtain ⟨a133, rfl, rfl, h132⟩ := h131
    exact hret _ _ _ _ dX3_meaning_15 ⟨a133, rfl, rfl, by omega⟩
set_option maxHeartbeats 4000000 in
theorem s1_X8_split {l : Launch} {dC : Nat → ClassId} {dI : Nat → Nat → Nat} {ad : Nat → Nat} {cA : Nat → ClassId} {pr : Nat → Nat → Bool} {Kz : mm_M} {M0 : mm_M} (hM0 : INV pr Kz M0) (hpr : PX pr) (a2 : Int) (ha2 : -2147483648 ≤ a2 ∧ a2 ≤ 2147483647) (hp0 : 0 ≤ a2 ∧ a2 ≤ 900) : Cv l 6 yX8_split wsX8_split dC dI ad cA [.ref (ad 78), .ref (ad 1), .int (sI a2)] M0 (fun M' => INV pr Kz M') := by
  refine cv_of (cc := cX8_split) (maxL := 7) (lv := [(0, .ref (ad 78)), (1, .ref (ad 1)), (2, .int (sI a2))]) (by decide) rfl (Nat.le_of_ble_eq_true rfl) rfl ?_
  intro p e s m args below meth c A Q C hret
  refine y_iconst C dX8_split_0 ?_
  refine j_istore_n C 3 [(3, .int (sI 0)), (0, .ref (ad 78)), (1, .ref (ad 1)), (2, .int (sI a2))] dX8_split_1 rfl (by decide) rfl ?_
  refine y_iconst C dX8_split_2 ?_
  refine j_istore C 4 [(4, .int (sI 0)), (3, .int (sI 0)), (0, .ref (ad 78)), (1, .ref (ad 1)), (2, .int (sI a2))] dX8_split_3 (by decide) rfl ?_
  refine y_iconst C dX8_split_5 ?_
  refine j_istore C 5 [(5, .int (sI 1)), (4, .int (sI 0)), (3, .int (sI 0)), (0, .ref (ad 78)), (1, .ref (ad 1)), (2, .int (sI a2))] dX8_split_6 (by decide) rfl ?_
  have X212 : ∀ (a210 : Int) (M211 : mm_M), (0 ≤ a210 ∧ a210 ≤ 900) → INV pr Kz M211 → jj p l e (cn_R 6) s m args below meth c 0 0 Q 7 dC dI ad cA A M211 109 [(0, .ref (ad 78)), (2, .int (sI a2)), (3, .int (sI a210))] [] := by
    intro a210 M211 h213 hM211
    refine j_aload_n C 0 0 dX8_split_109 rfl rfl ?_
    refine y_getC C 7 80 fX8_split_15 rfl rfl ft_7_1 sm_7_1 rfl hM211 dX8_split_110 ?_
    refine j_iload_n C 2 3 dX8_split_113 rfl rfl ?_
    refine j_iload_n C 1 2 dX8_split_114 rfl rfl ?_
    refine y_iastF C 32 901 rfl rfl rfl ak_32 an_32 rfl (sb_32 _) hM211 (PX.w hpr rfl rfl) dX8_split_115 (by omega) (fun M214 eM214 hM214 => ?_)
    refine j_aload_n C 0 0 dX8_split_116 rfl rfl ?_
    refine y_getC C 7 79 fX8_split_9 rfl rfl ft_7_0 sm_7_0 rfl hM214 dX8_split_117 ?_
    refine j_iload_n C 2 3 dX8_split_120 rfl rfl ?_
    refine y_sipush C dX8_split_121 rfl ?_
    refine y_iastF C 31 901 rfl rfl rfl ak_31 an_31 rfl (sb_31 _) hM214 (PX.w hpr rfl rfl) dX8_split_124 (by omega) (fun M215 eM215 hM215 => ?_)
    exact hret _ _ _ dX8_split_125 hM215
  have L173 : ∀ (n171 : Nat), ∀ (a174 : Int) (a175 : Int) (a176 : Int) (M177 : mm_M), (0 ≤ a174 ∧ a174 ≤ 900 ∧ 0 ≤ a175 ∧ a175 ≤ 900 ∧ 0 ≤ a176 ∧ a176 ≤ 1 ∧ (a174 ≤ a175) ∧ (a175 ≤ a2) ∧ (900 - a175) < (n171 : Int)) → INV pr Kz M177 → jj p l e (cn_R 6) s m args below meth c 0 0 Q 7 dC dI ad cA A M177 8 [(0, .ref (ad 78)), (1, .ref (ad 1)), (2, .int (sI a2)), (3, .int (sI a174)), (4, .int (sI a175)), (5, .int (sI a176))] [] := by
    intro n171
    induction n171 with
    | zero =>
      intro a174 a175 a176 M177 h178 hM177
      exfalso; omega
    | succ n171 ih172 =>
      intro a174 a175 a176 M177 h178 hM177
      refine j_iload C 4 dX8_split_8 rfl ?_
      refine j_iload_n C 2 2 dX8_split_10 rfl rfl ?_
      refine y_icmp_ge C 109 dX8_split_11 (by decide) (by omega) (fun h179 => ?_) (fun h179 => ?_)
      · refine j_lv [0, 2, 3] rfl ?_; exact X212 a174 M177 (by omega) hM177
      · refine j_iload C 4 dX8_split_14 rfl ?_
        refine j_aload_n C 1 1 dX8_split_16 rfl rfl ?_
        refine y_alen C 20 900 rfl rfl rfl an_20 rfl rfl dX8_split_17 ?_
        refine y_icmp_ge C 109 dX8_split_18 (by decide) (by omega) (fun h180 => ?_) (fun h180 => ?_)
        · exfalso; omega
        · refine j_iload C 5 dX8_split_21 rfl ?_
          refine y_if_eq C 109 dX8_split_23 (by decide) (by omega) (fun h181 => ?_) (fun h181 => ?_)
          · refine j_lv [0, 2, 3] rfl ?_; exact X212 a174 M177 (by omega) hM177
          · refine j_iload C 4 dX8_split_26 rfl ?_
            refine y_iconst C dX8_split_28 ?_
            refine y_iadd C dX8_split_29 ?_
            refine j_istore C 6 [(6, .int (sI (a175 + 1))), (0, .ref (ad 78)), (1, .ref (ad 1)), (2, .int (sI a2)), (3, .int (sI a174)), (4, .int (sI a175)), (5, .int (sI a176))] dX8_split_30 (by decide) rfl ?_
            refine j_aload_n C 2 1 dX8_split_32 rfl rfl ?_
            refine j_iload C 5 dX8_split_33 rfl ?_
            refine y_iald C 20 900 _ _ rfl rfl rfl ak_20 an_20 rfl (sb_20 _) hM177 dX8_split_35 (by omega) (fun a182 ea182 la182 ua182 => ?_)
            refine j_callSi C (d := 0) (As := [.int (sI a182)]) (st := []) (s1_X3_isBlank hM177 a182 (by omega)) gX8_split_X3_isBlank rfl hdX3_isBlanks (by decide) (Nat.le_of_ble_eq_true rfl) dX8_split_36 rfl (fun r183 M184 h185 => ?_)
            obtain ⟨a187, rfl, rfl, h186⟩ := h185
            have J207 : ∀ (a203 : Int) (a204 : Int) (a205 : Int) (M206 : mm_M), (0 ≤ a203 ∧ a203 ≤ 901 ∧ 0 ≤ a204 ∧ a204 ≤ 1 ∧ 1 ≤ a205 ∧ a205 ≤ 900 ∧ (a175 < a205) ∧ (a205 ≤ a2) ∧ (a203 ≤ a175 + 1)) → INV pr Kz M206 → jj p l e (cn_R 6) s m args below meth c 0 0 Q 7 dC dI ad cA A M206 95 [(0, .ref (ad 78)), (1, .ref (ad 1)), (2, .int (sI a2)), (3, .int (sI a203)), (4, .int (sI a175)), (5, .int (sI a204)), (6, .int (sI a205))] [] := by
              intro a203 a204 a205 M206 h208 hM206
              refine j_iload C 4 dX8_split_95 rfl ?_
              refine y_iconst C dX8_split_97 ?_
              refine y_iadd C dX8_split_98 ?_
              refine j_iload C 6 dX8_split_99 rfl ?_
              refine y_mmax C wX8_split_75_0 wX8_split_75_1 wX8_split_75_2 wX8_split_75_3 (by decide) (Nat.le_of_ble_eq_true rfl) dX8_split_101 (by omega) (fun a209 ha209 => ?_)
              refine j_istore C 4 [(4, .int (sI a209)), (0, .ref (ad 78)), (1, .ref (ad 1)), (2, .int (sI a2)), (3, .int (sI a203)), (5, .int (sI a204)), (6, .int (sI a205))] dX8_split_104 (by decide) rfl ?_
              refine j_goto C 8 dX8_split_106 (by decide) ?_
              refine j_lv [1, 2, 3, 4, 0, 5] rfl ?_; exact ih172 a203 a209 a204 M206 (by omega) hM206
            refine y_if_ne C 95 dX8_split_39 (by decide) (by omega) (fun h188 => ?_) (fun h188 => ?_)
            · refine j_lv [1, 2, 3, 4, 5, 6, 0] rfl ?_; exact J207 a174 a176 (a175 + 1) M177 (by omega) hM177
            · refine j_aload_n C 2 1 dX8_split_42 rfl rfl ?_
              refine j_iload C 5 dX8_split_43 rfl ?_
              refine j_iload_n C 3 2 dX8_split_45 rfl rfl ?_
              refine j_callSi C (d := 1) (As := [.ref (ad 1), .int (sI a175), .int (sI a2)]) (st := []) (s1_X3_endOf hM177 a175 (by omega) a2 (by omega) (by omega) (by omega) (by omega)) gX8_split_X3_endOf rfl hdX3_endOfs (by decide) (Nat.le_of_ble_eq_true rfl) dX8_split_46 rfl (fun r189 M190 h191 => ?_)
              obtain ⟨a193, rfl, rfl, h192⟩ := h191
              refine j_istore C 6 [(6, .int (sI a193)), (0, .ref (ad 78)), (1, .ref (ad 1)), (2, .int (sI a2)), (3, .int (sI a174)), (4, .int (sI a175)), (5, .int (sI a176))] dX8_split_49 (by decide) rfl ?_
              refine j_aload_n C 1 0 dX8_split_51 rfl rfl ?_
              refine y_getC C 7 80 fX8_split_15 rfl rfl ft_7_1 sm_7_1 rfl hM177 dX8_split_52 ?_
              refine j_iload_n C 4 3 dX8_split_55 rfl rfl ?_
              refine j_iload C 5 dX8_split_56 rfl ?_
              refine y_iastF C 32 901 rfl rfl rfl ak_32 an_32 rfl (sb_32 _) hM177 (PX.w hpr rfl rfl) dX8_split_58 (by omega) (fun M194 eM194 hM194 => ?_)
              refine j_aload_n C 1 0 dX8_split_59 rfl rfl ?_
              refine y_getC C 7 79 fX8_split_9 rfl rfl ft_7_0 sm_7_0 rfl hM194 dX8_split_60 ?_
              refine j_iload_n C 4 3 dX8_split_63 rfl rfl ?_
              refine j_aload_n C 2 1 dX8_split_64 rfl rfl ?_
              refine j_iload C 5 dX8_split_65 rfl ?_
              refine j_iload C 0 dX8_split_67 rfl ?_
              refine j_callSi C (d := 5) (As := [.ref (ad 1), .int (sI a175), .int (sI a193)]) (st := [.int (sI a174), .ref (ad 79)]) (s1_X3_meaning hM194 a175 (by omega) a193 (by omega) (by omega) (by omega) (by omega)) gX8_split_X3_meaning rfl hdX3_meanings (by decide) (Nat.le_of_ble_eq_true rfl) dX8_split_69 rfl (fun r195 M196 h197 => ?_)
              obtain ⟨a199, rfl, rfl, h198⟩ := h197
              refine y_iastF C 31 901 rfl rfl rfl ak_31 an_31 rfl (sb_31 _) hM194 (PX.w hpr rfl rfl) dX8_split_72 (by omega) (fun M200 eM200 hM200 => ?_)
              refine j_aload_n C 1 0 dX8_split_73 rfl rfl ?_
              refine y_getC C 7 79 fX8_split_9 rfl rfl ft_7_0 sm_7_0 rfl hM200 dX8_split_74 ?_
              refine j_iload_n C 4 3 dX8_split_77 rfl rfl ?_
              refine y_iald C 31 901 _ _ rfl rfl rfl ak_31 an_31 rfl (sb_31 _) hM200 dX8_split_78 (by omega) (fun a201 ea201 la201 ua201 => ?_)
              refine y_sipush C dX8_split_79 rfl ?_
              refine y_icmp_eq C 89 dX8_split_82 (by decide) (by omega) (fun h202 => ?_) (fun h202 => ?_)
              · refine y_iconst C dX8_split_89 ?_
                refine j_istore C 5 [(5, .int (sI 0)), (6, .int (sI a193)), (0, .ref (ad 78)), (1, .ref (ad 1)), (2, .int (sI a2)), (3, .int (sI a174)), (4, .int (sI a175))] dX8_split_90 (by decide) rfl ?_
                refine y_iinc C 5 [(3, .int (sI (a174 + 1))), (5, .int (sI 0)), (6, .int (sI a193)), (0, .ref (ad 78)), (1, .ref (ad 1)), (2, .int (sI a2)), (4, .int (sI a175))] dX8_split_92 rfl (by decide) rfl ?_
                refine j_lv [3, 4, 5, 0, 6, 1, 2] rfl ?_; exact J207 (a174 + 1) 0 a193 M200 (by omega) hM200
              · refine y_iconst C dX8_split_85 ?_
                refine j_goto C 90 dX8_split_86 (by decide) ?_
                refine j_istore C 5 [(5, .int (sI 1)), (6, .int (sI a193)), (0, .ref (ad 78)), (1, .ref (ad 1)), (2, .int (sI a2)), (3, .int (sI a174)), (4, .int (sI a175))] dX8_split_90 (by decide) rfl ?_
                refine y_iinc C 5 [(3, .int (sI (a174 + 1))), (5, .int (sI 1)), (6, .int (sI a193)), (0, .ref (ad 78)), (1, .ref (ad 1)), (2, .int (sI a2)), (4, .int (sI a175))] dX8_split_92 rfl (by decide) rfl ?_
                refine j_lv [3, 4, 5, 0, 6, 1, 2] rfl ?_; exact J207 (a174 + 1) 1 a193 M200 (by omega) hM200
  refine j_lv [3, 4, 5, 2, 1, 0] rfl ?_; exact L173 2010 0 0 1 M0 (by omega) hM0
set_option maxHeartbeats 4000000 in
theorem s1_X8_token {l : Launch} {dC : Nat → ClassId} {dI : Nat → Nat → Nat} {ad : Nat → Nat} {cA : Nat → ClassId} {pr : Nat → Nat → Bool} {Kz : mm_M} {M0 : mm_M} (hM0 : INV pr Kz M0)  : Ci l 0 yX8_token wsX8_token dC dI ad cA [.ref (ad 78)] M0 (fun r M' => ∃ a : Int, r = sI a ∧ M0 = M' ∧ (-2147483648) ≤ a ∧ a ≤ 2147483647 ∧ ((901 ≤ (M0.1 78 2).toInt ∧ (M0.1 78 2).toInt ≤ 901 ∧ 901 ≤ (M0.1 78 2).toInt ∧ a = 3001) ∨ (0 ≤ (M0.1 78 2).toInt ∧ (M0.1 78 2).toInt ≤ 900 ∧ (M0.1 78 2).toInt < 901 ∧ (-2147483648) ≤ a ∧ a ≤ 2147483647))) := by
  refine ci_of (cc := cX8_token) (maxL := 1) (ty := .int) (lv := [(0, .ref (ad 78))]) (by decide) rfl (fun r M' hp => rfl) (Nat.le_of_ble_eq_true rfl) rfl ?_
  intro p e s m args below meth c A Q C hret
  refine j_aload_n C 0 0 dX8_token_0 rfl rfl ?_
  refine y_getI C 7 _ _ fX8_token_18 rfl rfl ft_7_2 sb_7_2 hM0 dX8_token_1 (fun a101 ea101 la101 ua101 => ?_)
  refine j_aload_n C 0 0 dX8_token_4 rfl rfl ?_
  refine y_getC C 7 79 fX8_token_9 rfl rfl ft_7_0 sm_7_0 rfl hM0 dX8_token_5 ?_
  refine y_alen C 31 901 rfl rfl rfl an_31 rfl rfl dX8_token_8 ?_
  refine y_icmp_ge C 24 dX8_token_9 (by decide) (by omega) (fun h103 => ?_) (fun h103 => ?_)
  · refine y_sipush C dX8_token_24 rfl ?_
    exact hret _ _ _ _ dX8_token_27 ⟨3001, rfl, rfl, by omega⟩
  · refine j_aload_n C 0 0 dX8_token_12 rfl rfl ?_
    refine y_getC C 7 79 fX8_token_9 rfl rfl ft_7_0 sm_7_0 rfl hM0 dX8_token_13 ?_
    refine j_aload_n C 0 0 dX8_token_16 rfl rfl ?_
    refine y_getI C 7 _ _ fX8_token_18 rfl rfl ft_7_2 sb_7_2 hM0 dX8_token_17 (fun a104 ea104 la104 ua104 => ?_)
    refine y_iald C 31 901 _ _ rfl rfl rfl ak_31 an_31 rfl (sb_31 _) hM0 dX8_token_20 (by omega) (fun a106 ea106 la106 ua106 => ?_)
    refine j_goto C 27 dX8_token_21 (by decide) ?_
    exact hret _ _ _ _ dX8_token_27 ⟨a106, rfl, rfl, by omega⟩
set_option maxHeartbeats 4000000 in
theorem s1_X8_fail {l : Launch} {dC : Nat → ClassId} {dI : Nat → Nat → Nat} {ad : Nat → Nat} {cA : Nat → ClassId} {pr : Nat → Nat → Bool} {Kz : mm_M} {M0 : mm_M} (hM0 : INV pr Kz M0) (hpr : PX pr) (a1 : Int) (ha1 : -2147483648 ≤ a1 ∧ a1 ≤ 2147483647) (hp0 : 1 ≤ a1 ∧ a1 ≤ 4) : Cv l 0 yX8_fail wsX8_fail dC dI ad cA [.ref (ad 78), .int (sI a1)] M0 (fun M' => INV pr Kz M' ∧ FR [78] M0 M' ∧ ((M0.1 78 5).toInt = 0 ∧ 901 ≤ (M0.1 78 2).toInt ∨ 1 ≤ (M'.1 78 5).toInt)) := by
  refine cv_of (cc := cX8_fail) (maxL := 2) (lv := [(0, .ref (ad 78)), (1, .int (sI a1))]) (by decide) rfl (Nat.le_of_ble_eq_true rfl) rfl ?_
  intro p e s m args below meth c A Q C hret
  refine j_aload_n C 0 0 dX8_fail_0 rfl rfl ?_
  refine y_getI C 7 _ _ fX8_fail_22 rfl rfl ft_7_5 sb_7_5 hM0 dX8_fail_1 (fun a101 ea101 la101 ua101 => ?_)
  refine y_if_ne C 56 dX8_fail_4 (by decide) (by omega) (fun h103 => ?_) (fun h103 => ?_)
  · exact hret _ _ _ dX8_fail_56 ⟨hM0, FR.rf, by omega⟩
  · refine j_aload_n C 0 0 dX8_fail_7 rfl rfl ?_
    refine y_getI C 7 _ _ fX8_fail_18 rfl rfl ft_7_2 sb_7_2 hM0 dX8_fail_8 (fun a104 ea104 la104 ua104 => ?_)
    refine j_aload_n C 0 0 dX8_fail_11 rfl rfl ?_
    refine y_getC C 7 79 fX8_fail_9 rfl rfl ft_7_0 sm_7_0 rfl hM0 dX8_fail_12 ?_
    refine y_alen C 31 901 rfl rfl rfl an_31 rfl rfl dX8_fail_15 ?_
    refine y_icmp_ge C 56 dX8_fail_16 (by decide) (by omega) (fun h106 => ?_) (fun h106 => ?_)
    · exact hret _ _ _ dX8_fail_56 ⟨hM0, FR.rf, by omega⟩
    · refine j_aload_n C 0 0 dX8_fail_19 rfl rfl ?_
      refine j_aload_n C 0 0 dX8_fail_20 rfl rfl ?_
      refine y_getC C 7 79 fX8_fail_9 rfl rfl ft_7_0 sm_7_0 rfl hM0 dX8_fail_21 ?_
      refine j_aload_n C 0 0 dX8_fail_24 rfl rfl ?_
      refine y_getI C 7 _ _ fX8_fail_18 rfl rfl ft_7_2 sb_7_2 hM0 dX8_fail_25 (fun a107 ea107 la107 ua107 => ?_)
      refine y_iald C 31 901 _ _ rfl rfl rfl ak_31 an_31 rfl (sb_31 _) hM0 dX8_fail_28 (by omega) (fun a109 ea109 la109 ua109 => ?_)
      refine y_sipush C dX8_fail_29 rfl ?_
      refine y_icmp_ne C 39 dX8_fail_32 (by decide) (by omega) (fun h110 => ?_) (fun h110 => ?_)
      · refine j_iload_n C 1 1 dX8_fail_39 rfl rfl ?_
        refine y_putI C 7 _ _ qX8_fail_22 rfl rfl ft_7_5 sb_7_5 hM0 (PX.w hpr rfl rfl) dX8_fail_40 (by omega) (fun M111 eM111 hM111 => ?_)
        refine j_aload_n C 0 0 dX8_fail_43 rfl rfl ?_
        refine j_aload_n C 0 0 dX8_fail_44 rfl rfl ?_
        refine y_getC C 7 80 fX8_fail_15 rfl rfl ft_7_1 sm_7_1 rfl hM111 dX8_fail_45 ?_
        refine j_aload_n C 0 0 dX8_fail_48 rfl rfl ?_
        refine y_getI C 7 _ _ fX8_fail_18 rfl rfl ft_7_2 sb_7_2 hM111 dX8_fail_49 (fun a112 ea112 la112 ua112 => ?_)
        have qa112 : a112 = a104 := (s_fb eM111 (by decide) (ea112)).trans ea104.symm
        refine y_iald C 32 901 _ _ rfl rfl rfl ak_32 an_32 rfl (sb_32 _) hM111 dX8_fail_52 (by omega) (fun a114 ea114 la114 ua114 => ?_)
        refine y_putIF C 7 qX8_fail_25 rfl rfl ft_7_6 sb_7_6 hM111 (PX.w hpr rfl rfl) dX8_fail_53 (fun M115 eM115 hM115 => ?_)
        have zz78_5 := (Eq.trans (s_fb eM115 (by decide) (rfl) : (M115.1 78 5).toInt = (M111.1 78 5).toInt) (s_wr eM111 (by omega))); exact hret _ _ _ dX8_fail_56 ⟨hM115, ((FR.rf.wI eM111 (by decide)).wI eM115 (by decide)), by omega⟩
      · refine y_iconst C dX8_fail_35 ?_
        refine j_goto C 40 dX8_fail_36 (by decide) ?_
        refine y_putI C 7 _ _ qX8_fail_22 rfl rfl ft_7_5 sb_7_5 hM0 (PX.w hpr rfl rfl) dX8_fail_40 (by omega) (fun M116 eM116 hM116 => ?_)
        refine j_aload_n C 0 0 dX8_fail_43 rfl rfl ?_
        refine j_aload_n C 0 0 dX8_fail_44 rfl rfl ?_
        refine y_getC C 7 80 fX8_fail_15 rfl rfl ft_7_1 sm_7_1 rfl hM116 dX8_fail_45 ?_
        refine j_aload_n C 0 0 dX8_fail_48 rfl rfl ?_
        refine y_getI C 7 _ _ fX8_fail_18 rfl rfl ft_7_2 sb_7_2 hM116 dX8_fail_49 (fun a117 ea117 la117 ua117 => ?_)
        have qa117 : a117 = a104 := (s_fb eM116 (by decide) (ea117)).trans ea104.symm
        refine y_iald C 32 901 _ _ rfl rfl rfl ak_32 an_32 rfl (sb_32 _) hM116 dX8_fail_52 (by omega) (fun a119 ea119 la119 ua119 => ?_)
        refine y_putIF C 7 qX8_fail_25 rfl rfl ft_7_6 sb_7_6 hM116 (PX.w hpr rfl rfl) dX8_fail_53 (fun M120 eM120 hM120 => ?_)
        have zz78_5 := (Eq.trans (s_fb eM120 (by decide) (rfl) : (M120.1 78 5).toInt = (M116.1 78 5).toInt) (s_wr eM116 (by omega))); exact hret _ _ _ dX8_fail_56 ⟨hM120, ((FR.rf.wI eM116 (by decide)).wI eM120 (by decide)), by omega⟩
set_option maxHeartbeats 4000000 in
theorem s1_X8_expect {l : Launch} {dC : Nat → ClassId} {dI : Nat → Nat → Nat} {ad : Nat → Nat} {cA : Nat → ClassId} {pr : Nat → Nat → Bool} {Kz : mm_M} {M0 : mm_M} (hM0 : INV pr Kz M0) (hpr : PX pr) (a1 : Int) (ha1 : -2147483648 ≤ a1 ∧ a1 ≤ 2147483647) (hp0 : ¬ a1 = 3001) : Cv l 1 yX8_expect wsX8_expect dC dI ad cA [.ref (ad 78), .int (sI a1)] M0 (fun M' => INV pr Kz M' ∧ FR [78] M0 M') := by
  refine cv_of (cc := cX8_expect) (maxL := 2) (lv := [(0, .ref (ad 78)), (1, .int (sI a1))]) (by decide) rfl (Nat.le_of_ble_eq_true rfl) rfl ?_
  intro p e s m args below meth c A Q C hret
  refine j_aload_n C 0 0 dX8_expect_0 rfl rfl ?_
  refine y_getI C 7 _ _ fX8_expect_22 rfl rfl ft_7_5 sb_7_5 hM0 dX8_expect_1 (fun a101 ea101 la101 ua101 => ?_)
  refine y_if_eq C 8 dX8_expect_4 (by decide) (by omega) (fun h103 => ?_) (fun h103 => ?_)
  · refine j_aload_n C 0 0 dX8_expect_8 rfl rfl ?_
    refine j_callVi C (d := 0) (As := []) (st := []) 78 (s_lt rfl rfl) (s_kc (c := 7) rfl rfl) (by decide) rfl (s1_X8_token hM0) gX8_expect_X8_token rfl hdX8_token (by decide) (Nat.le_of_ble_eq_true rfl) dX8_expect_9 rfl (fun r104 M105 h106 => ?_)
    obtain ⟨a108, rfl, rfl, h107⟩ := h106
    refine j_iload_n C 1 1 dX8_expect_12 rfl rfl ?_
    refine y_icmp_ne C 29 dX8_expect_13 (by decide) (by omega) (fun h109 => ?_) (fun h109 => ?_)
    · refine j_aload_n C 0 0 dX8_expect_29 rfl rfl ?_
      refine y_iconst C dX8_expect_30 ?_
      refine j_callVv C (d := 0) (As := [.int (sI 2)]) (st := []) 78 (s_lt rfl rfl) (s_kc (c := 7) rfl rfl) (by decide) rfl (s1_X8_fail hM0 hpr 2 (by omega) (by omega)) gX8_expect_X8_fail rfl hdX8_fail (by decide) (Nat.le_of_ble_eq_true rfl) dX8_expect_31 rfl (fun M111 h112 => ?_)
      obtain ⟨hM111, fM111, h113⟩ := h112
      exact hret _ _ _ dX8_expect_34 ⟨hM111, (FR.rf.tr fM111 (by decide))⟩
    · refine j_aload_n C 0 0 dX8_expect_16 rfl rfl ?_
      refine j_dup C dX8_expect_17 rfl ?_
      refine y_getI C 7 _ _ fX8_expect_18 rfl rfl ft_7_2 sb_7_2 hM0 dX8_expect_18 (fun a114 ea114 la114 ua114 => ?_)
      refine y_iconst C dX8_expect_21 ?_
      refine y_iadd C dX8_expect_22 ?_
      refine y_putI C 7 _ _ qX8_expect_18 rfl rfl ft_7_2 sb_7_2 hM0 (PX.w hpr rfl rfl) dX8_expect_23 (by omega) (fun M116 eM116 hM116 => ?_)
      refine j_goto C 34 dX8_expect_26 (by decide) ?_
      exact hret _ _ _ dX8_expect_34 ⟨hM116, (FR.rf.wI eM116 (by decide))⟩
  · exact hret _ _ _ dX8_expect_7 ⟨hM0, FR.rf⟩
set_option maxHeartbeats 4000000 in
theorem s1_X8_endLine {l : Launch} {dC : Nat → ClassId} {dI : Nat → Nat → Nat} {ad : Nat → Nat} {cA : Nat → ClassId} {pr : Nat → Nat → Bool} {Kz : mm_M} {M0 : mm_M} (hM0 : INV pr Kz M0) (hpr : PX pr)  : Cv l 2 yX8_endLine wsX8_endLine dC dI ad cA [.ref (ad 78)] M0 (fun M' => INV pr Kz M') := by
  refine cv_of (cc := cX8_endLine) (maxL := 1) (lv := [(0, .ref (ad 78))]) (by decide) rfl (Nat.le_of_ble_eq_true rfl) rfl ?_
  intro p e s m args below meth c A Q C hret
  refine j_aload_n C 0 0 dX8_endLine_0 rfl rfl ?_
  refine y_sipush C dX8_endLine_1 rfl ?_
  refine j_callVv C (d := 1) (As := [.int (sI 2059)]) (st := []) 78 (s_lt rfl rfl) (s_kc (c := 7) rfl rfl) (by decide) rfl (s1_X8_expect hM0 hpr 2059 (by omega) (by omega)) gX8_endLine_X8_expect rfl hdX8_expect (by decide) (Nat.le_of_ble_eq_true rfl) dX8_endLine_4 rfl (fun M102 h103 => ?_)
  obtain ⟨hM102, fM102⟩ := h103
  refine j_aload_n C 0 0 dX8_endLine_7 rfl rfl ?_
  refine y_getM C 7 6 fX8_endLine_28 rfl rfl ft_7_3 sm_7_3 (by decide) hM102 dX8_endLine_8 (fun v105 ev105 cv105 => ?_)
  refine j_dup C dX8_endLine_11 rfl ?_
  refine y_getI C 6 _ _ fX8_endLine_84 cv105 rfl ft_6_1 sb_6_1 hM102 dX8_endLine_12 (fun a106 ea106 la106 ua106 => ?_)
  refine y_iconst C dX8_endLine_15 ?_
  refine y_iadd0 C dX8_endLine_16 (fun a108 la108 ua108 => ?_)
  refine y_putIF C 6 qX8_endLine_84 cv105 rfl ft_6_1 sb_6_1 hM102 (PX.w hpr cv105 rfl) dX8_endLine_17 (fun M109 eM109 hM109 => ?_)
  exact hret _ _ _ dX8_endLine_20 hM109
set_option maxHeartbeats 4000000 in
theorem s1_X8_numberWithin {l : Launch} {dC : Nat → ClassId} {dI : Nat → Nat → Nat} {ad : Nat → Nat} {cA : Nat → ClassId} {pr : Nat → Nat → Bool} {Kz : mm_M} {M0 : mm_M} (hM0 : INV pr Kz M0) (hpr : PX pr) (a1 : Int) (ha1 : -2147483648 ≤ a1 ∧ a1 ≤ 2147483647) (a2 : Int) (ha2 : -2147483648 ≤ a2 ∧ a2 ≤ 2147483647) : Ci l 1 yX8_numberWithin wsX8_numberWithin dC dI ad cA [.ref (ad 78), .int (sI a1), .int (sI a2)] M0 (fun r M' => ∃ a : Int, r = sI a ∧ INV pr Kz M' ∧ FR [78] M0 M' ∧ (-2147483648) ≤ a ∧ a ≤ 2147483647) := by
  refine ci_of (cc := cX8_numberWithin) (maxL := 4) (ty := .int) (lv := [(0, .ref (ad 78)), (1, .int (sI a1)), (2, .int (sI a2))]) (by decide) rfl (fun r M' hp => rfl) (Nat.le_of_ble_eq_true rfl) rfl ?_
  intro p e s m args below meth c A Q C hret
  refine j_aload_n C 0 0 dX8_numberWithin_0 rfl rfl ?_
  refine j_callVi C (d := 0) (As := []) (st := []) 78 (s_lt rfl rfl) (s_kc (c := 7) rfl rfl) (by decide) rfl (s1_X8_token hM0) gX8_numberWithin_X8_token rfl hdX8_token (by decide) (Nat.le_of_ble_eq_true rfl) dX8_numberWithin_1 rfl (fun r101 M102 h103 => ?_)
  obtain ⟨a105, rfl, rfl, h104⟩ := h103
  refine j_istore_n C 3 [(3, .int (sI a105)), (0, .ref (ad 78)), (1, .int (sI a1)), (2, .int (sI a2))] dX8_numberWithin_4 rfl (by decide) rfl ?_
  refine j_aload_n C 1 0 dX8_numberWithin_5 rfl rfl ?_
  refine y_getI C 7 _ _ fX8_numberWithin_22 rfl rfl ft_7_5 sb_7_5 hM0 dX8_numberWithin_6 (fun a106 ea106 la106 ua106 => ?_)
  refine y_if_eq C 14 dX8_numberWithin_9 (by decide) (by omega) (fun h108 => ?_) (fun h108 => ?_)
  · refine j_iload_n C 0 3 dX8_numberWithin_14 rfl rfl ?_
    refine y_sipush C dX8_numberWithin_15 rfl ?_
    refine y_icmp_lt C 29 dX8_numberWithin_18 (by decide) (by omega) (fun h109 => ?_) (fun h109 => ?_)
    · refine j_iload_n C 0 3 dX8_numberWithin_29 rfl rfl ?_
      refine j_iload_n C 2 1 dX8_numberWithin_30 rfl rfl ?_
      refine y_icmp_lt C 39 dX8_numberWithin_31 (by decide) (by omega) (fun h110 => ?_) (fun h110 => ?_)
      · refine j_aload_n C 1 0 dX8_numberWithin_39 rfl rfl ?_
        refine y_iconst C dX8_numberWithin_40 ?_
        refine j_callVv C (d := 0) (As := [.int (sI 3)]) (st := []) 78 (s_lt rfl rfl) (s_kc (c := 7) rfl rfl) (by decide) rfl (s1_X8_fail hM0 hpr 3 (by omega) (by omega)) gX8_numberWithin_X8_fail rfl hdX8_fail (by decide) (Nat.le_of_ble_eq_true rfl) dX8_numberWithin_41 rfl (fun M112 h113 => ?_)
        obtain ⟨hM112, fM112, h114⟩ := h113
        refine j_goto C 57 dX8_numberWithin_44 (by decide) ?_
        refine j_iload_n C 0 3 dX8_numberWithin_57 rfl rfl ?_
        exact hret _ _ _ _ dX8_numberWithin_58 ⟨a105, rfl, hM112, (FR.rf.tr fM112 (by decide)), by omega⟩
      · refine j_iload_n C 0 3 dX8_numberWithin_34 rfl rfl ?_
        refine j_iload_n C 3 2 dX8_numberWithin_35 rfl rfl ?_
        refine y_icmp_le C 47 dX8_numberWithin_36 (by decide) (by omega) (fun h115 => ?_) (fun h115 => ?_)
        · refine j_aload_n C 1 0 dX8_numberWithin_47 rfl rfl ?_
          refine j_dup C dX8_numberWithin_48 rfl ?_
          refine y_getI C 7 _ _ fX8_numberWithin_18 rfl rfl ft_7_2 sb_7_2 hM0 dX8_numberWithin_49 (fun a116 ea116 la116 ua116 => ?_)
          refine y_iconst C dX8_numberWithin_52 ?_
          refine y_iadd C dX8_numberWithin_53 ?_
          refine y_putI C 7 _ _ qX8_numberWithin_18 rfl rfl ft_7_2 sb_7_2 hM0 (PX.w hpr rfl rfl) dX8_numberWithin_54 (by omega) (fun M118 eM118 hM118 => ?_)
          refine j_iload_n C 0 3 dX8_numberWithin_57 rfl rfl ?_
          exact hret _ _ _ _ dX8_numberWithin_58 ⟨a105, rfl, hM118, (FR.rf.wI eM118 (by decide)), by omega⟩
        · refine j_aload_n C 1 0 dX8_numberWithin_39 rfl rfl ?_
          refine y_iconst C dX8_numberWithin_40 ?_
          refine j_callVv C (d := 0) (As := [.int (sI 3)]) (st := []) 78 (s_lt rfl rfl) (s_kc (c := 7) rfl rfl) (by decide) rfl (s1_X8_fail hM0 hpr 3 (by omega) (by omega)) gX8_numberWithin_X8_fail rfl hdX8_fail (by decide) (Nat.le_of_ble_eq_true rfl) dX8_numberWithin_41 rfl (fun M120 h121 => ?_)
          obtain ⟨hM120, fM120, h122⟩ := h121
          refine j_goto C 57 dX8_numberWithin_44 (by decide) ?_
          refine j_iload_n C 0 3 dX8_numberWithin_57 rfl rfl ?_
          exact hret _ _ _ _ dX8_numberWithin_58 ⟨a105, rfl, hM120, (FR.rf.tr fM120 (by decide)), by omega⟩
    · refine j_aload_n C 1 0 dX8_numberWithin_21 rfl rfl ?_
      refine y_iconst C dX8_numberWithin_22 ?_
      refine j_callVv C (d := 0) (As := [.int (sI 2)]) (st := []) 78 (s_lt rfl rfl) (s_kc (c := 7) rfl rfl) (by decide) rfl (s1_X8_fail hM0 hpr 2 (by omega) (by omega)) gX8_numberWithin_X8_fail rfl hdX8_fail (by decide) (Nat.le_of_ble_eq_true rfl) dX8_numberWithin_23 rfl (fun M124 h125 => ?_)
      obtain ⟨hM124, fM124, h126⟩ := h125
      refine j_goto C 57 dX8_numberWithin_26 (by decide) ?_
      refine j_iload_n C 0 3 dX8_numberWithin_57 rfl rfl ?_
      exact hret _ _ _ _ dX8_numberWithin_58 ⟨a105, rfl, hM124, (FR.rf.tr fM124 (by decide)), by omega⟩
  · refine j_iload_n C 2 1 dX8_numberWithin_12 rfl rfl ?_
    exact hret _ _ _ _ dX8_numberWithin_13 ⟨a1, rfl, hM0, FR.rf, by omega⟩
set_option maxHeartbeats 4000000 in
theorem s1_X8_takeFlag {l : Launch} {dC : Nat → ClassId} {dI : Nat → Nat → Nat} {ad : Nat → Nat} {cA : Nat → ClassId} {pr : Nat → Nat → Bool} {Kz : mm_M} {M0 : mm_M} (hM0 : INV pr Kz M0) (hpr : PX pr) (a1 : Int) (ha1 : -2147483648 ≤ a1 ∧ a1 ≤ 2147483647) (hp0 : 0 ≤ a1 ∧ a1 ≤ 7) : Ci l 2 yX8_takeFlag wsX8_takeFlag dC dI ad cA [.ref (ad 78), .int (sI a1)] M0 (fun r M' => ∃ a : Int, r = sI a ∧ INV pr Kz M' ∧ 0 ≤ a ∧ a ≤ 1) := by
  refine ci_of (cc := cX8_takeFlag) (maxL := 3) (ty := .boolean) (lv := [(0, .ref (ad 78)), (1, .int (sI a1))]) (by decide) rfl (fun r M' hp => by obtain ⟨a, rfl, -, h⟩ := hp; rcases (show a = 0 ∨ a = 1 by omega) with rfl | rfl <;> rfl) (Nat.le_of_ble_eq_true rfl) rfl ?_
  intro p e s m args below meth c A Q C hret
  refine j_aload_n C 0 0 dX8_takeFlag_0 rfl rfl ?_
  refine j_callVi C (d := 0) (As := []) (st := []) 78 (s_lt rfl rfl) (s_kc (c := 7) rfl rfl) (by decide) rfl (s1_X8_token hM0) gX8_takeFlag_X8_token rfl hdX8_token (by decide) (Nat.le_of_ble_eq_true rfl) dX8_takeFlag_1 rfl (fun r101 M102 h103 => ?_)
  obtain ⟨a105, rfl, rfl, h104⟩ := h103
  refine j_istore_n C 2 [(2, .int (sI a105)), (0, .ref (ad 78)), (1, .int (sI a1))] dX8_takeFlag_4 rfl (by decide) rfl ?_
  refine j_iload_n C 0 2 dX8_takeFlag_5 rfl rfl ?_
  refine y_sipush C dX8_takeFlag_6 rfl ?_
  refine y_icmp_eq C 28 dX8_takeFlag_9 (by decide) (by omega) (fun h106 => ?_) (fun h106 => ?_)
  · refine j_aload_n C 1 0 dX8_takeFlag_28 rfl rfl ?_
    refine j_dup C dX8_takeFlag_29 rfl ?_
    refine y_getI C 7 _ _ fX8_takeFlag_18 rfl rfl ft_7_2 sb_7_2 hM0 dX8_takeFlag_30 (fun a107 ea107 la107 ua107 => ?_)
    refine y_iconst C dX8_takeFlag_33 ?_
    refine y_iadd C dX8_takeFlag_34 ?_
    refine y_putI C 7 _ _ qX8_takeFlag_18 rfl rfl ft_7_2 sb_7_2 hM0 (PX.w hpr rfl rfl) dX8_takeFlag_35 (by omega) (fun M109 eM109 hM109 => ?_)
    refine j_iload_n C 0 2 dX8_takeFlag_38 rfl rfl ?_
    refine y_sipush C dX8_takeFlag_39 rfl ?_
    refine y_icmp_ne C 64 dX8_takeFlag_42 (by decide) (by omega) (fun h110 => ?_) (fun h110 => ?_)
    · exfalso; omega
    · refine j_aload_n C 1 0 dX8_takeFlag_45 rfl rfl ?_
      refine y_getM C 7 8 fX8_takeFlag_32 rfl rfl ft_7_4 sm_7_4 (by decide) hM109 dX8_takeFlag_46 (fun v111 ev111 cv111 => ?_)
      refine y_getT C 8 26 fX8_takeFlag_123 cv111 rfl ft_8_2 rfl sm_8_2 st_8_2 (by decide) hM109 dX8_takeFlag_49 (fun v112 cv112 => ?_)
      refine j_iload_n C 2 1 dX8_takeFlag_52 rfl rfl ?_
      refine j_aload_n C 1 0 dX8_takeFlag_53 rfl rfl ?_
      refine y_iconst C dX8_takeFlag_54 ?_
      refine y_bipush C dX8_takeFlag_55 rfl ?_
      refine j_callVi C (d := 1) (As := [.int (sI 0), .int (sI 9)]) (st := [.int (sI a1), .ref (ad v112)]) 78 (s_lt rfl rfl) (s_kc (c := 7) rfl rfl) (by decide) rfl (s1_X8_numberWithin hM109 hpr 0 (by omega) 9 (by omega)) gX8_takeFlag_X8_numberWithin rfl hdX8_numberWithin (by decide) (Nat.le_of_ble_eq_true rfl) dX8_takeFlag_57 rfl (fun r113 M114 h115 => ?_)
      obtain ⟨a117, rfl, hM114, fM114, h116⟩ := h115
      refine y_iastF C 26 8 cv112 rfl rfl ak_26 an_26 rfl (sb_26 _) hM114 (PX.w hpr cv112 rfl) dX8_takeFlag_60 (by omega) (fun M118 eM118 hM118 => ?_)
      refine j_goto C 104 dX8_takeFlag_61 (by decide) ?_
      refine y_iconst C dX8_takeFlag_104 ?_
      exact hret _ _ _ _ dX8_takeFlag_105 ⟨1, rfl, hM118, by omega⟩
  · refine j_iload_n C 0 2 dX8_takeFlag_12 rfl rfl ?_
    refine y_sipush C dX8_takeFlag_13 rfl ?_
    refine y_icmp_eq C 28 dX8_takeFlag_16 (by decide) (by omega) (fun h119 => ?_) (fun h119 => ?_)
    · refine j_aload_n C 1 0 dX8_takeFlag_28 rfl rfl ?_
      refine j_dup C dX8_takeFlag_29 rfl ?_
      refine y_getI C 7 _ _ fX8_takeFlag_18 rfl rfl ft_7_2 sb_7_2 hM0 dX8_takeFlag_30 (fun a120 ea120 la120 ua120 => ?_)
      refine y_iconst C dX8_takeFlag_33 ?_
      refine y_iadd C dX8_takeFlag_34 ?_
      refine y_putI C 7 _ _ qX8_takeFlag_18 rfl rfl ft_7_2 sb_7_2 hM0 (PX.w hpr rfl rfl) dX8_takeFlag_35 (by omega) (fun M122 eM122 hM122 => ?_)
      refine j_iload_n C 0 2 dX8_takeFlag_38 rfl rfl ?_
      refine y_sipush C dX8_takeFlag_39 rfl ?_
      refine y_icmp_ne C 64 dX8_takeFlag_42 (by decide) (by omega) (fun h123 => ?_) (fun h123 => ?_)
      · refine j_iload_n C 0 2 dX8_takeFlag_64 rfl rfl ?_
        refine y_sipush C dX8_takeFlag_65 rfl ?_
        refine y_icmp_ne C 89 dX8_takeFlag_68 (by decide) (by omega) (fun h124 => ?_) (fun h124 => ?_)
        · exfalso; omega
        · refine j_aload_n C 1 0 dX8_takeFlag_71 rfl rfl ?_
          refine y_getM C 7 8 fX8_takeFlag_32 rfl rfl ft_7_4 sm_7_4 (by decide) hM122 dX8_takeFlag_72 (fun v125 ev125 cv125 => ?_)
          refine j_dup C dX8_takeFlag_75 rfl ?_
          refine y_getI C 8 _ _ fX8_takeFlag_129 cv125 rfl ft_8_3 sb_8_3 hM122 dX8_takeFlag_76 (fun a126 ea126 la126 ua126 => ?_)
          refine y_iconst C dX8_takeFlag_79 ?_
          refine j_iload_n C 2 1 dX8_takeFlag_80 rfl rfl ?_
          refine y_shl1 C 7 128 dX8_takeFlag_81 rfl (by decide) (by omega) (fun a128 la128 ua128 => ?_)
          refine y_iorN C 8 255 dX8_takeFlag_82 rfl (by decide) (by omega) (fun a129 la129 ua129 => ?_)
          refine y_putI C 8 _ _ qX8_takeFlag_129 cv125 rfl ft_8_3 sb_8_3 hM122 (PX.w hpr cv125 rfl) dX8_takeFlag_83 (by omega) (fun M130 eM130 hM130 => ?_)
          refine j_goto C 104 dX8_takeFlag_86 (by decide) ?_
          refine y_iconst C dX8_takeFlag_104 ?_
          exact hret _ _ _ _ dX8_takeFlag_105 ⟨1, rfl, hM130, by omega⟩
      · exfalso; omega
    · refine j_iload_n C 0 2 dX8_takeFlag_19 rfl rfl ?_
      refine y_sipush C dX8_takeFlag_20 rfl ?_
      refine y_icmp_eq C 28 dX8_takeFlag_23 (by decide) (by omega) (fun h131 => ?_) (fun h131 => ?_)
      · refine j_aload_n C 1 0 dX8_takeFlag_28 rfl rfl ?_
        refine j_dup C dX8_takeFlag_29 rfl ?_
        refine y_getI C 7 _ _ fX8_takeFlag_18 rfl rfl ft_7_2 sb_7_2 hM0 dX8_takeFlag_30 (fun a132 ea132 la132 ua132 => ?_)
        refine y_iconst C dX8_takeFlag_33 ?_
        refine y_iadd C dX8_takeFlag_34 ?_
        refine y_putI C 7 _ _ qX8_takeFlag_18 rfl rfl ft_7_2 sb_7_2 hM0 (PX.w hpr rfl rfl) dX8_takeFlag_35 (by omega) (fun M134 eM134 hM134 => ?_)
        refine j_iload_n C 0 2 dX8_takeFlag_38 rfl rfl ?_
        refine y_sipush C dX8_takeFlag_39 rfl ?_
        refine y_icmp_ne C 64 dX8_takeFlag_42 (by decide) (by omega) (fun h135 => ?_) (fun h135 => ?_)
        · refine j_iload_n C 0 2 dX8_takeFlag_64 rfl rfl ?_
          refine y_sipush C dX8_takeFlag_65 rfl ?_
          refine y_icmp_ne C 89 dX8_takeFlag_68 (by decide) (by omega) (fun h136 => ?_) (fun h136 => ?_)
          · refine j_aload_n C 1 0 dX8_takeFlag_89 rfl rfl ?_
            refine y_getM C 7 8 fX8_takeFlag_32 rfl rfl ft_7_4 sm_7_4 (by decide) hM134 dX8_takeFlag_90 (fun v137 ev137 cv137 => ?_)
            refine j_dup C dX8_takeFlag_93 rfl ?_
            refine y_getI C 8 _ _ fX8_takeFlag_132 cv137 rfl ft_8_4 sb_8_4 hM134 dX8_takeFlag_94 (fun a138 ea138 la138 ua138 => ?_)
            refine y_iconst C dX8_takeFlag_97 ?_
            refine j_iload_n C 2 1 dX8_takeFlag_98 rfl rfl ?_
            refine y_shl1 C 7 128 dX8_takeFlag_99 rfl (by decide) (by omega) (fun a140 la140 ua140 => ?_)
            refine y_iorN C 8 255 dX8_takeFlag_100 rfl (by decide) (by omega) (fun a141 la141 ua141 => ?_)
            refine y_putI C 8 _ _ qX8_takeFlag_132 cv137 rfl ft_8_4 sb_8_4 hM134 (PX.w hpr cv137 rfl) dX8_takeFlag_101 (by omega) (fun M142 eM142 hM142 => ?_)
            refine y_iconst C dX8_takeFlag_104 ?_
            exact hret _ _ _ _ dX8_takeFlag_105 ⟨1, rfl, hM142, by omega⟩
          · exfalso; omega
        · exfalso; omega
      · refine y_iconst C dX8_takeFlag_26 ?_
        exact hret _ _ _ _ dX8_takeFlag_27 ⟨0, rfl, hM0, by omega⟩
set_option maxHeartbeats 4000000 in
theorem s1_X8_kindLine {l : Launch} {dC : Nat → ClassId} {dI : Nat → Nat → Nat} {ad : Nat → Nat} {cA : Nat → ClassId} {pr : Nat → Nat → Bool} {Kz : mm_M} {M0 : mm_M} (hM0 : INV pr Kz M0) (hpr : PX pr)  (hp0 : (M0.1 78 2).toInt < 901) : Cv l 3 yX8_kindLine wsX8_kindLine dC dI ad cA [.ref (ad 78)] M0 (fun M' => INV pr Kz M') := by
  refine cv_of (cc := cX8_kindLine) (maxL := 4) (lv := [(0, .ref (ad 78))]) (by decide) rfl (Nat.le_of_ble_eq_true rfl) rfl ?_
  intro p e s m args below meth c A Q C hret
  refine j_aload_n C 0 0 dX8_kindLine_0 rfl rfl ?_
  refine y_getM C 7 8 fX8_kindLine_32 rfl rfl ft_7_4 sm_7_4 (by decide) hM0 dX8_kindLine_1 (fun v101 ev101 cv101 => ?_)
  refine y_getI C 8 _ _ fX8_kindLine_114 cv101 rfl ft_8_0 sb_8_0 hM0 dX8_kindLine_4 (fun a102 ea102 la102 ua102 => ?_)
  refine j_istore_n C 1 [(1, .int (sI a102)), (0, .ref (ad 78))] dX8_kindLine_7 rfl (by decide) rfl ?_
  refine j_iload_n C 0 1 dX8_kindLine_8 rfl rfl ?_
  refine y_bipush C dX8_kindLine_9 rfl ?_
  refine y_icmp_lt C 20 dX8_kindLine_11 (by decide) (by omega) (fun h104 => ?_) (fun h104 => ?_)
  · refine j_aload_n C 1 0 dX8_kindLine_20 rfl rfl ?_
    refine j_dup C dX8_kindLine_21 rfl ?_
    refine y_getI C 7 _ _ fX8_kindLine_18 rfl rfl ft_7_2 sb_7_2 hM0 dX8_kindLine_22 (fun a105 ea105 la105 ua105 => ?_)
    refine y_iconst C dX8_kindLine_25 ?_
    refine y_iadd C dX8_kindLine_26 ?_
    refine y_putI C 7 _ _ qX8_kindLine_18 rfl rfl ft_7_2 sb_7_2 hM0 (PX.w hpr rfl rfl) dX8_kindLine_27 (by omega) (fun M107 eM107 hM107 => ?_)
    refine j_aload_n C 1 0 dX8_kindLine_30 rfl rfl ?_
    refine y_sipush C dX8_kindLine_31 rfl ?_
    refine j_callVv C (d := 1) (As := [.int (sI 1004)]) (st := []) 78 (s_lt rfl rfl) (s_kc (c := 7) rfl rfl) (by decide) rfl (s1_X8_expect hM107 hpr 1004 (by omega) (by omega)) gX8_kindLine_X8_expect rfl hdX8_expect (by decide) (Nat.le_of_ble_eq_true rfl) dX8_kindLine_34 rfl (fun M109 h110 => ?_)
    obtain ⟨hM109, fM109⟩ := h110
    refine j_aload_n C 1 0 dX8_kindLine_37 rfl rfl ?_
    refine y_getV C 7 v101 fX8_kindLine_32 rfl rfl ft_7_4 (s_pF fM109 (s_pI eM107 (ev101))) dX8_kindLine_38 ?_
    refine y_getT C 8 25 fX8_kindLine_117 cv101 rfl ft_8_1 rfl sm_8_1 st_8_1 (by decide) hM109 dX8_kindLine_41 (fun v112 cv112 => ?_)
    refine j_iload_n C 0 1 dX8_kindLine_44 rfl rfl ?_
    refine j_aload_n C 1 0 dX8_kindLine_45 rfl rfl ?_
    refine y_iconst C dX8_kindLine_46 ?_
    refine y_bipush C dX8_kindLine_47 rfl ?_
    refine j_callVi C (d := 1) (As := [.int (sI 1), .int (sI 99)]) (st := [.int (sI a102), .ref (ad v112)]) 78 (s_lt rfl rfl) (s_kc (c := 7) rfl rfl) (by decide) rfl (s1_X8_numberWithin hM109 hpr 1 (by omega) 99 (by omega)) gX8_kindLine_X8_numberWithin rfl hdX8_numberWithin (by decide) (Nat.le_of_ble_eq_true rfl) dX8_kindLine_49 rfl (fun r113 M114 h115 => ?_)
    obtain ⟨a117, rfl, hM114, fM114, h116⟩ := h115
    refine y_iastF C 25 8 cv112 rfl rfl ak_25 an_25 rfl (sb_25 _) hM114 (PX.w hpr cv112 rfl) dX8_kindLine_52 (by omega) (fun M118 eM118 hM118 => ?_)
    refine j_aload_n C 1 0 dX8_kindLine_53 rfl rfl ?_
    refine y_getV C 7 v101 fX8_kindLine_32 rfl rfl ft_7_4 (s_pI eM118 (s_pF fM114 (s_pF fM109 (s_pI eM107 (ev101))))) dX8_kindLine_54 ?_
    refine y_getT C 8 26 fX8_kindLine_123 cv101 rfl ft_8_2 rfl sm_8_2 st_8_2 (by decide) hM118 dX8_kindLine_57 (fun v119 cv119 => ?_)
    refine j_iload_n C 0 1 dX8_kindLine_60 rfl rfl ?_
    refine y_iconst C dX8_kindLine_61 ?_
    refine y_iastF C 26 8 cv119 rfl rfl ak_26 an_26 rfl (sb_26 _) hM118 (PX.w hpr cv119 rfl) dX8_kindLine_62 (by omega) (fun M120 eM120 hM120 => ?_)
    refine j_aload_n C 1 0 dX8_kindLine_63 rfl rfl ?_
    refine y_getV C 7 v101 fX8_kindLine_32 rfl rfl ft_7_4 (s_pI eM120 (s_pI eM118 (s_pF fM114 (s_pF fM109 (s_pI eM107 (ev101)))))) dX8_kindLine_64 ?_
    refine j_dup C dX8_kindLine_67 rfl ?_
    refine y_getI C 8 _ _ fX8_kindLine_114 cv101 rfl ft_8_0 sb_8_0 hM120 dX8_kindLine_68 (fun a121 ea121 la121 ua121 => ?_)
    have qa121 : a121 = a102 := (s_fb eM107 (by decide) (s_fF fM109 (s_nin cv101 (by decide)) (s_fF fM114 (s_nin cv101 (by decide)) (s_fa eM118 (s_ne (c := 8) (d := 25) cv101 cv112 (by decide)) (s_fa eM120 (s_ne (c := 8) (d := 26) cv101 cv119 (by decide)) (ea121)))))).trans ea102.symm
    refine y_iconst C dX8_kindLine_71 ?_
    refine y_iadd C dX8_kindLine_72 ?_
    refine y_putI C 8 _ _ qX8_kindLine_114 cv101 rfl ft_8_0 sb_8_0 hM120 (PX.w hpr cv101 rfl) dX8_kindLine_73 (by omega) (fun M123 eM123 hM123 => ?_)
    refine y_iconst C dX8_kindLine_76 ?_
    refine j_istore_n C 2 [(2, .int (sI 1)), (1, .int (sI a102)), (0, .ref (ad 78))] dX8_kindLine_77 rfl (by decide) rfl ?_
    refine y_iconst C dX8_kindLine_78 ?_
    refine j_istore_n C 3 [(3, .int (sI 0)), (2, .int (sI 1)), (1, .int (sI a102)), (0, .ref (ad 78))] dX8_kindLine_79 rfl (by decide) rfl ?_
    have L516 : ∀ (n514 : Nat), ∀ (a517 : Int) (a518 : Int) (M519 : mm_M), (0 ≤ a517 ∧ a517 ≤ 1 ∧ 0 ≤ a518 ∧ a518 ≤ 900 ∧ (900 - a518) < (n514 : Int)) → INV pr Kz M519 → jj p l e (cn_R 3) s m args below meth c 0 0 Q 4 dC dI ad cA A M519 80 [(0, .ref (ad 78)), (1, .int (sI a102)), (2, .int (sI a517)), (3, .int (sI a518))] [] := by
      intro n514
      induction n514 with
      | zero =>
        intro a517 a518 M519 h520 hM519
        exfalso; omega
      | succ n514 ih515 =>
        intro a517 a518 M519 h520 hM519
        refine j_iload_n C 3 3 dX8_kindLine_80 rfl rfl ?_
        refine y_sipush C dX8_kindLine_81 rfl ?_
        refine y_icmp_ge C 110 dX8_kindLine_84 (by decide) (by omega) (fun h521 => ?_) (fun h521 => ?_)
        · exact hret _ _ _ dX8_kindLine_110 hM519
        · refine j_iload_n C 2 2 dX8_kindLine_87 rfl rfl ?_
          refine y_if_eq C 110 dX8_kindLine_88 (by decide) (by omega) (fun h522 => ?_) (fun h522 => ?_)
          · exact hret _ _ _ dX8_kindLine_110 hM519
          · refine j_aload_n C 0 0 dX8_kindLine_91 rfl rfl ?_
            refine y_getI C 7 _ _ fX8_kindLine_22 rfl rfl ft_7_5 sb_7_5 hM519 dX8_kindLine_92 (fun a523 ea523 la523 ua523 => ?_)
            refine y_if_ne C 110 dX8_kindLine_95 (by decide) (by omega) (fun h525 => ?_) (fun h525 => ?_)
            · exact hret _ _ _ dX8_kindLine_110 hM519
            · refine j_aload_n C 0 0 dX8_kindLine_98 rfl rfl ?_
              refine j_iload_n C 1 1 dX8_kindLine_99 rfl rfl ?_
              refine j_callVi C (d := 2) (As := [.int (sI a102)]) (st := []) 78 (s_lt rfl rfl) (s_kc (c := 7) rfl rfl) (by decide) rfl (s1_X8_takeFlag hM519 hpr a102 (by omega) (by omega)) gX8_kindLine_X8_takeFlag rfl hdX8_takeFlag (by decide) (Nat.le_of_ble_eq_true rfl) dX8_kindLine_100 rfl (fun r526 M527 h528 => ?_)
              obtain ⟨a530, rfl, hM527, h529⟩ := h528
              refine j_istore_n C 2 [(2, .int (sI a530)), (0, .ref (ad 78)), (1, .int (sI a102)), (3, .int (sI a518))] dX8_kindLine_103 rfl (by decide) rfl ?_
              refine y_iinc C 3 [(3, .int (sI (a518 + 1))), (2, .int (sI a530)), (0, .ref (ad 78)), (1, .int (sI a102))] dX8_kindLine_104 rfl (by decide) rfl ?_
              refine j_goto C 80 dX8_kindLine_107 (by decide) ?_
              refine j_lv [2, 3, 1, 0] rfl ?_; exact ih515 a530 (a518 + 1) M527 (by omega) hM527
    refine j_lv [3, 2, 1, 0] rfl ?_; exact L516 2010 1 0 M123 (by omega) hM123
  · refine j_aload_n C 1 0 dX8_kindLine_14 rfl rfl ?_
    refine y_iconst C dX8_kindLine_15 ?_
    refine j_callVv C (d := 0) (As := [.int (sI 4)]) (st := []) 78 (s_lt rfl rfl) (s_kc (c := 7) rfl rfl) (by decide) rfl (s1_X8_fail hM0 hpr 4 (by omega) (by omega)) gX8_kindLine_X8_fail rfl hdX8_fail (by decide) (Nat.le_of_ble_eq_true rfl) dX8_kindLine_16 rfl (fun M532 h533 => ?_)
    obtain ⟨hM532, fM532, h534⟩ := h533
    exact hret _ _ _ dX8_kindLine_19 hM532
set_option maxHeartbeats 4000000 in
theorem s1_X8_takeMark {l : Launch} {dC : Nat → ClassId} {dI : Nat → Nat → Nat} {ad : Nat → Nat} {cA : Nat → ClassId} {pr : Nat → Nat → Bool} {Kz : mm_M} {M0 : mm_M} (hM0 : INV pr Kz M0) (hpr : PX pr) (a1 : Int) (ha1 : -2147483648 ≤ a1 ∧ a1 ≤ 2147483647) (hp0 : 0 ≤ a1 ∧ a1 ≤ 5) : Ci l 2 yX8_takeMark wsX8_takeMark dC dI ad cA [.ref (ad 78), .int (sI a1)] M0 (fun r M' => ∃ a : Int, r = sI a ∧ INV pr Kz M' ∧ 0 ≤ a ∧ a ≤ 1) := by
  refine ci_of (cc := cX8_takeMark) (maxL := 4) (ty := .boolean) (lv := [(0, .ref (ad 78)), (1, .int (sI a1))]) (by decide) rfl (fun r M' hp => by obtain ⟨a, rfl, -, h⟩ := hp; rcases (show a = 0 ∨ a = 1 by omega) with rfl | rfl <;> rfl) (Nat.le_of_ble_eq_true rfl) rfl ?_
  intro p e s m args below meth c A Q C hret
  refine j_aload_n C 0 0 dX8_takeMark_0 rfl rfl ?_
  refine j_callVi C (d := 0) (As := []) (st := []) 78 (s_lt rfl rfl) (s_kc (c := 7) rfl rfl) (by decide) rfl (s1_X8_token hM0) gX8_takeMark_X8_token rfl hdX8_token (by decide) (Nat.le_of_ble_eq_true rfl) dX8_takeMark_1 rfl (fun r101 M102 h103 => ?_)
  obtain ⟨a105, rfl, rfl, h104⟩ := h103
  refine j_istore_n C 2 [(2, .int (sI a105)), (0, .ref (ad 78)), (1, .int (sI a1))] dX8_takeMark_4 rfl (by decide) rfl ?_
  refine j_iload_n C 0 2 dX8_takeMark_5 rfl rfl ?_
  refine y_sipush C dX8_takeMark_6 rfl ?_
  refine y_icmp_eq C 21 dX8_takeMark_9 (by decide) (by omega) (fun h106 => ?_) (fun h106 => ?_)
  · refine j_aload_n C 1 0 dX8_takeMark_21 rfl rfl ?_
    refine j_dup C dX8_takeMark_22 rfl ?_
    refine y_getI C 7 _ _ fX8_takeMark_18 rfl rfl ft_7_2 sb_7_2 hM0 dX8_takeMark_23 (fun a107 ea107 la107 ua107 => ?_)
    refine y_iconst C dX8_takeMark_26 ?_
    refine y_iadd C dX8_takeMark_27 ?_
    refine y_putI C 7 _ _ qX8_takeMark_18 rfl rfl ft_7_2 sb_7_2 hM0 (PX.w hpr rfl rfl) dX8_takeMark_28 (by omega) (fun M109 eM109 hM109 => ?_)
    refine j_aload_n C 1 0 dX8_takeMark_31 rfl rfl ?_
    refine y_iconst C dX8_takeMark_32 ?_
    refine y_bipush C dX8_takeMark_33 rfl ?_
    refine j_callVi C (d := 1) (As := [.int (sI 0), .int (sI 9)]) (st := []) 78 (s_lt rfl rfl) (s_kc (c := 7) rfl rfl) (by decide) rfl (s1_X8_numberWithin hM109 hpr 0 (by omega) 9 (by omega)) gX8_takeMark_X8_numberWithin rfl hdX8_numberWithin (by decide) (Nat.le_of_ble_eq_true rfl) dX8_takeMark_35 rfl (fun r110 M111 h112 => ?_)
    obtain ⟨a114, rfl, hM111, fM111, h113⟩ := h112
    refine j_istore_n C 3 [(3, .int (sI a114)), (2, .int (sI a105)), (0, .ref (ad 78)), (1, .int (sI a1))] dX8_takeMark_38 rfl (by decide) rfl ?_
    refine j_iload_n C 1 2 dX8_takeMark_39 rfl rfl ?_
    refine y_sipush C dX8_takeMark_40 rfl ?_
    refine y_icmp_ne C 59 dX8_takeMark_43 (by decide) (by omega) (fun h115 => ?_) (fun h115 => ?_)
    · exfalso; omega
    · refine j_aload_n C 2 0 dX8_takeMark_46 rfl rfl ?_
      refine y_getM C 7 6 fX8_takeMark_28 rfl rfl ft_7_3 sm_7_3 (by decide) hM111 dX8_takeMark_47 (fun v116 ev116 cv116 => ?_)
      refine y_getT C 6 22 fX8_takeMark_141 cv116 rfl ft_6_3 rfl sm_6_3 st_6_3 (by decide) hM111 dX8_takeMark_50 (fun v117 cv117 => ?_)
      refine j_iload_n C 3 1 dX8_takeMark_53 rfl rfl ?_
      refine j_iload_n C 0 3 dX8_takeMark_54 rfl rfl ?_
      refine y_iastF C 22 6 cv117 rfl rfl ak_22 an_22 rfl (sb_22 _) hM111 (PX.w hpr cv117 rfl) dX8_takeMark_55 (by omega) (fun M118 eM118 hM118 => ?_)
      refine j_goto C 69 dX8_takeMark_56 (by decide) ?_
      refine y_iconst C dX8_takeMark_69 ?_
      exact hret _ _ _ _ dX8_takeMark_70 ⟨1, rfl, hM118, by omega⟩
  · refine j_iload_n C 0 2 dX8_takeMark_12 rfl rfl ?_
    refine y_sipush C dX8_takeMark_13 rfl ?_
    refine y_icmp_eq C 21 dX8_takeMark_16 (by decide) (by omega) (fun h119 => ?_) (fun h119 => ?_)
    · refine j_aload_n C 1 0 dX8_takeMark_21 rfl rfl ?_
      refine j_dup C dX8_takeMark_22 rfl ?_
      refine y_getI C 7 _ _ fX8_takeMark_18 rfl rfl ft_7_2 sb_7_2 hM0 dX8_takeMark_23 (fun a120 ea120 la120 ua120 => ?_)
      refine y_iconst C dX8_takeMark_26 ?_
      refine y_iadd C dX8_takeMark_27 ?_
      refine y_putI C 7 _ _ qX8_takeMark_18 rfl rfl ft_7_2 sb_7_2 hM0 (PX.w hpr rfl rfl) dX8_takeMark_28 (by omega) (fun M122 eM122 hM122 => ?_)
      refine j_aload_n C 1 0 dX8_takeMark_31 rfl rfl ?_
      refine y_iconst C dX8_takeMark_32 ?_
      refine y_bipush C dX8_takeMark_33 rfl ?_
      refine j_callVi C (d := 1) (As := [.int (sI 0), .int (sI 9)]) (st := []) 78 (s_lt rfl rfl) (s_kc (c := 7) rfl rfl) (by decide) rfl (s1_X8_numberWithin hM122 hpr 0 (by omega) 9 (by omega)) gX8_takeMark_X8_numberWithin rfl hdX8_numberWithin (by decide) (Nat.le_of_ble_eq_true rfl) dX8_takeMark_35 rfl (fun r123 M124 h125 => ?_)
      obtain ⟨a127, rfl, hM124, fM124, h126⟩ := h125
      refine j_istore_n C 3 [(3, .int (sI a127)), (2, .int (sI a105)), (0, .ref (ad 78)), (1, .int (sI a1))] dX8_takeMark_38 rfl (by decide) rfl ?_
      refine j_iload_n C 1 2 dX8_takeMark_39 rfl rfl ?_
      refine y_sipush C dX8_takeMark_40 rfl ?_
      refine y_icmp_ne C 59 dX8_takeMark_43 (by decide) (by omega) (fun h128 => ?_) (fun h128 => ?_)
      · refine j_aload_n C 2 0 dX8_takeMark_59 rfl rfl ?_
        refine y_getM C 7 6 fX8_takeMark_28 rfl rfl ft_7_3 sm_7_3 (by decide) hM124 dX8_takeMark_60 (fun v129 ev129 cv129 => ?_)
        refine y_getT C 6 23 fX8_takeMark_144 cv129 rfl ft_6_4 rfl sm_6_4 st_6_4 (by decide) hM124 dX8_takeMark_63 (fun v130 cv130 => ?_)
        refine j_iload_n C 3 1 dX8_takeMark_66 rfl rfl ?_
        refine j_iload_n C 0 3 dX8_takeMark_67 rfl rfl ?_
        refine y_iastF C 23 6 cv130 rfl rfl ak_23 an_23 rfl (sb_23 _) hM124 (PX.w hpr cv130 rfl) dX8_takeMark_68 (by omega) (fun M131 eM131 hM131 => ?_)
        refine y_iconst C dX8_takeMark_69 ?_
        exact hret _ _ _ _ dX8_takeMark_70 ⟨1, rfl, hM131, by omega⟩
      · exfalso; omega
    · refine y_iconst C dX8_takeMark_19 ?_
      exact hret _ _ _ _ dX8_takeMark_20 ⟨0, rfl, hM0, by omega⟩
set_option maxHeartbeats 4000000 in
theorem s1_X8_buyerLine {l : Launch} {dC : Nat → ClassId} {dI : Nat → Nat → Nat} {ad : Nat → Nat} {cA : Nat → ClassId} {pr : Nat → Nat → Bool} {Kz : mm_M} {M0 : mm_M} (hM0 : INV pr Kz M0) (hpr : PX pr)  (hp0 : (M0.1 78 2).toInt < 901) : Cv l 3 yX8_buyerLine wsX8_buyerLine dC dI ad cA [.ref (ad 78)] M0 (fun M' => INV pr Kz M') := by
  refine cv_of (cc := cX8_buyerLine) (maxL := 4) (lv := [(0, .ref (ad 78))]) (by decide) rfl (Nat.le_of_ble_eq_true rfl) rfl ?_
  intro p e s m args below meth c A Q C hret
  refine j_aload_n C 0 0 dX8_buyerLine_0 rfl rfl ?_
  refine y_getM C 7 6 fX8_buyerLine_28 rfl rfl ft_7_3 sm_7_3 (by decide) hM0 dX8_buyerLine_1 (fun v101 ev101 cv101 => ?_)
  refine y_getI C 6 _ _ fX8_buyerLine_135 cv101 rfl ft_6_0 sb_6_0 hM0 dX8_buyerLine_4 (fun a102 ea102 la102 ua102 => ?_)
  refine j_istore_n C 1 [(1, .int (sI a102)), (0, .ref (ad 78))] dX8_buyerLine_7 rfl (by decide) rfl ?_
  refine j_iload_n C 0 1 dX8_buyerLine_8 rfl rfl ?_
  refine y_bipush C dX8_buyerLine_9 rfl ?_
  refine y_icmp_lt C 20 dX8_buyerLine_11 (by decide) (by omega) (fun h104 => ?_) (fun h104 => ?_)
  · refine j_aload_n C 1 0 dX8_buyerLine_20 rfl rfl ?_
    refine j_dup C dX8_buyerLine_21 rfl ?_
    refine y_getI C 7 _ _ fX8_buyerLine_18 rfl rfl ft_7_2 sb_7_2 hM0 dX8_buyerLine_22 (fun a105 ea105 la105 ua105 => ?_)
    refine y_iconst C dX8_buyerLine_25 ?_
    refine y_iadd C dX8_buyerLine_26 ?_
    refine y_putI C 7 _ _ qX8_buyerLine_18 rfl rfl ft_7_2 sb_7_2 hM0 (PX.w hpr rfl rfl) dX8_buyerLine_27 (by omega) (fun M107 eM107 hM107 => ?_)
    refine j_aload_n C 1 0 dX8_buyerLine_30 rfl rfl ?_
    refine y_sipush C dX8_buyerLine_31 rfl ?_
    refine j_callVv C (d := 1) (As := [.int (sI 1001)]) (st := []) 78 (s_lt rfl rfl) (s_kc (c := 7) rfl rfl) (by decide) rfl (s1_X8_expect hM107 hpr 1001 (by omega) (by omega)) gX8_buyerLine_X8_expect rfl hdX8_expect (by decide) (Nat.le_of_ble_eq_true rfl) dX8_buyerLine_34 rfl (fun M109 h110 => ?_)
    obtain ⟨hM109, fM109⟩ := h110
    refine j_aload_n C 1 0 dX8_buyerLine_37 rfl rfl ?_
    refine y_getV C 7 v101 fX8_buyerLine_28 rfl rfl ft_7_3 (s_pF fM109 (s_pI eM107 (ev101))) dX8_buyerLine_38 ?_
    refine y_getT C 6 21 fX8_buyerLine_138 cv101 rfl ft_6_2 rfl sm_6_2 st_6_2 (by decide) hM109 dX8_buyerLine_41 (fun v112 cv112 => ?_)
    refine j_iload_n C 0 1 dX8_buyerLine_44 rfl rfl ?_
    refine j_aload_n C 1 0 dX8_buyerLine_45 rfl rfl ?_
    refine y_iconst C dX8_buyerLine_46 ?_
    refine y_sipush C dX8_buyerLine_47 rfl ?_
    refine j_callVi C (d := 1) (As := [.int (sI 0), .int (sI 999)]) (st := [.int (sI a102), .ref (ad v112)]) 78 (s_lt rfl rfl) (s_kc (c := 7) rfl rfl) (by decide) rfl (s1_X8_numberWithin hM109 hpr 0 (by omega) 999 (by omega)) gX8_buyerLine_X8_numberWithin rfl hdX8_numberWithin (by decide) (Nat.le_of_ble_eq_true rfl) dX8_buyerLine_50 rfl (fun r113 M114 h115 => ?_)
    obtain ⟨a117, rfl, hM114, fM114, h116⟩ := h115
    refine y_iastF C 21 6 cv112 rfl rfl ak_21 an_21 rfl (sb_21 _) hM114 (PX.w hpr cv112 rfl) dX8_buyerLine_53 (by omega) (fun M118 eM118 hM118 => ?_)
    refine j_aload_n C 1 0 dX8_buyerLine_54 rfl rfl ?_
    refine y_getV C 7 v101 fX8_buyerLine_28 rfl rfl ft_7_3 (s_pI eM118 (s_pF fM114 (s_pF fM109 (s_pI eM107 (ev101))))) dX8_buyerLine_55 ?_
    refine y_getT C 6 22 fX8_buyerLine_141 cv101 rfl ft_6_3 rfl sm_6_3 st_6_3 (by decide) hM118 dX8_buyerLine_58 (fun v119 cv119 => ?_)
    refine j_iload_n C 0 1 dX8_buyerLine_61 rfl rfl ?_
    refine y_iconst C dX8_buyerLine_62 ?_
    refine y_iastF C 22 6 cv119 rfl rfl ak_22 an_22 rfl (sb_22 _) hM118 (PX.w hpr cv119 rfl) dX8_buyerLine_63 (by omega) (fun M120 eM120 hM120 => ?_)
    refine j_aload_n C 1 0 dX8_buyerLine_64 rfl rfl ?_
    refine y_getV C 7 v101 fX8_buyerLine_28 rfl rfl ft_7_3 (s_pI eM120 (s_pI eM118 (s_pF fM114 (s_pF fM109 (s_pI eM107 (ev101)))))) dX8_buyerLine_65 ?_
    refine y_getT C 6 23 fX8_buyerLine_144 cv101 rfl ft_6_4 rfl sm_6_4 st_6_4 (by decide) hM120 dX8_buyerLine_68 (fun v121 cv121 => ?_)
    refine j_iload_n C 0 1 dX8_buyerLine_71 rfl rfl ?_
    refine y_iconst C dX8_buyerLine_72 ?_
    refine y_iastF C 23 6 cv121 rfl rfl ak_23 an_23 rfl (sb_23 _) hM120 (PX.w hpr cv121 rfl) dX8_buyerLine_73 (by omega) (fun M122 eM122 hM122 => ?_)
    refine j_aload_n C 1 0 dX8_buyerLine_74 rfl rfl ?_
    refine y_getV C 7 v101 fX8_buyerLine_28 rfl rfl ft_7_3 (s_pI eM122 (s_pI eM120 (s_pI eM118 (s_pF fM114 (s_pF fM109 (s_pI eM107 (ev101))))))) dX8_buyerLine_75 ?_
    refine j_dup C dX8_buyerLine_78 rfl ?_
    refine y_getI C 6 _ _ fX8_buyerLine_135 cv101 rfl ft_6_0 sb_6_0 hM122 dX8_buyerLine_79 (fun a123 ea123 la123 ua123 => ?_)
    have qa123 : a123 = a102 := (s_fb eM107 (by decide) (s_fF fM109 (s_nin cv101 (by decide)) (s_fF fM114 (s_nin cv101 (by decide)) (s_fa eM118 (s_ne (c := 6) (d := 21) cv101 cv112 (by decide)) (s_fa eM120 (s_ne (c := 6) (d := 22) cv101 cv119 (by decide)) (s_fa eM122 (s_ne (c := 6) (d := 23) cv101 cv121 (by decide)) (ea123))))))).trans ea102.symm
    refine y_iconst C dX8_buyerLine_82 ?_
    refine y_iadd C dX8_buyerLine_83 ?_
    refine y_putI C 6 _ _ qX8_buyerLine_135 cv101 rfl ft_6_0 sb_6_0 hM122 (PX.w hpr cv101 rfl) dX8_buyerLine_84 (by omega) (fun M125 eM125 hM125 => ?_)
    refine y_iconst C dX8_buyerLine_87 ?_
    refine j_istore_n C 2 [(2, .int (sI 1)), (1, .int (sI a102)), (0, .ref (ad 78))] dX8_buyerLine_88 rfl (by decide) rfl ?_
    refine y_iconst C dX8_buyerLine_89 ?_
    refine j_istore_n C 3 [(3, .int (sI 0)), (2, .int (sI 1)), (1, .int (sI a102)), (0, .ref (ad 78))] dX8_buyerLine_90 rfl (by decide) rfl ?_
    have L518 : ∀ (n516 : Nat), ∀ (a519 : Int) (a520 : Int) (M521 : mm_M), (0 ≤ a519 ∧ a519 ≤ 1 ∧ 0 ≤ a520 ∧ a520 ≤ 900 ∧ (900 - a520) < (n516 : Int)) → INV pr Kz M521 → jj p l e (cn_R 3) s m args below meth c 0 0 Q 4 dC dI ad cA A M521 91 [(0, .ref (ad 78)), (1, .int (sI a102)), (2, .int (sI a519)), (3, .int (sI a520))] [] := by
      intro n516
      induction n516 with
      | zero =>
        intro a519 a520 M521 h522 hM521
        exfalso; omega
      | succ n516 ih517 =>
        intro a519 a520 M521 h522 hM521
        refine j_iload_n C 3 3 dX8_buyerLine_91 rfl rfl ?_
        refine y_sipush C dX8_buyerLine_92 rfl ?_
        refine y_icmp_ge C 121 dX8_buyerLine_95 (by decide) (by omega) (fun h523 => ?_) (fun h523 => ?_)
        · exact hret _ _ _ dX8_buyerLine_121 hM521
        · refine j_iload_n C 2 2 dX8_buyerLine_98 rfl rfl ?_
          refine y_if_eq C 121 dX8_buyerLine_99 (by decide) (by omega) (fun h524 => ?_) (fun h524 => ?_)
          · exact hret _ _ _ dX8_buyerLine_121 hM521
          · refine j_aload_n C 0 0 dX8_buyerLine_102 rfl rfl ?_
            refine y_getI C 7 _ _ fX8_buyerLine_22 rfl rfl ft_7_5 sb_7_5 hM521 dX8_buyerLine_103 (fun a525 ea525 la525 ua525 => ?_)
            refine y_if_ne C 121 dX8_buyerLine_106 (by decide) (by omega) (fun h527 => ?_) (fun h527 => ?_)
            · exact hret _ _ _ dX8_buyerLine_121 hM521
            · refine j_aload_n C 0 0 dX8_buyerLine_109 rfl rfl ?_
              refine j_iload_n C 1 1 dX8_buyerLine_110 rfl rfl ?_
              refine j_callVi C (d := 2) (As := [.int (sI a102)]) (st := []) 78 (s_lt rfl rfl) (s_kc (c := 7) rfl rfl) (by decide) rfl (s1_X8_takeMark hM521 hpr a102 (by omega) (by omega)) gX8_buyerLine_X8_takeMark rfl hdX8_takeMark (by decide) (Nat.le_of_ble_eq_true rfl) dX8_buyerLine_111 rfl (fun r528 M529 h530 => ?_)
              obtain ⟨a532, rfl, hM529, h531⟩ := h530
              refine j_istore_n C 2 [(2, .int (sI a532)), (0, .ref (ad 78)), (1, .int (sI a102)), (3, .int (sI a520))] dX8_buyerLine_114 rfl (by decide) rfl ?_
              refine y_iinc C 3 [(3, .int (sI (a520 + 1))), (2, .int (sI a532)), (0, .ref (ad 78)), (1, .int (sI a102))] dX8_buyerLine_115 rfl (by decide) rfl ?_
              refine j_goto C 91 dX8_buyerLine_118 (by decide) ?_
              refine j_lv [2, 3, 1, 0] rfl ?_; exact ih517 a532 (a520 + 1) M529 (by omega) hM529
    refine j_lv [3, 2, 1, 0] rfl ?_; exact L518 2010 1 0 M125 (by omega) hM125
  · refine j_aload_n C 1 0 dX8_buyerLine_14 rfl rfl ?_
    refine y_iconst C dX8_buyerLine_15 ?_
    refine j_callVv C (d := 0) (As := [.int (sI 4)]) (st := []) 78 (s_lt rfl rfl) (s_kc (c := 7) rfl rfl) (by decide) rfl (s1_X8_fail hM0 hpr 4 (by omega) (by omega)) gX8_buyerLine_X8_fail rfl hdX8_fail (by decide) (Nat.le_of_ble_eq_true rfl) dX8_buyerLine_16 rfl (fun M534 h535 => ?_)
    obtain ⟨hM534, fM534, h536⟩ := h535
    exact hret _ _ _ dX8_buyerLine_19 hM534
set_option maxHeartbeats 4000000 in
theorem s1_X8_goDeeper {l : Launch} {dC : Nat → ClassId} {dI : Nat → Nat → Nat} {ad : Nat → Nat} {cA : Nat → ClassId} {pr : Nat → Nat → Bool} {Kz : mm_M} {M0 : mm_M} (hM0 : INV pr Kz M0) (hpr : PX pr)  (hp0 : (M0.1 78 2).toInt < 901) : Cv l 0 yX8_goDeeper wsX8_goDeeper dC dI ad cA [.ref (ad 78), .int (sI 0)] M0 (fun M' => INV pr Kz M' ∧ FR [78] M0 M' ∧ (0 < 6 ∨ 1 ≤ (M'.1 78 5).toInt)) := by
  refine cv_of (cc := cX8_goDeeper) (maxL := 2) (lv := [(0, .ref (ad 78)), (1, .int (sI 0))]) (by decide) rfl (Nat.le_of_ble_eq_true rfl) rfl ?_
  intro p e s m args below meth c A Q C hret
  refine j_iload_n C 1 1 dX8_goDeeper_0 rfl rfl ?_
  refine y_bipush C dX8_goDeeper_1 rfl ?_
  refine y_icmp_lt C 14 dX8_goDeeper_3 (by decide) (by omega) (fun h101 => ?_) (fun h101 => ?_)
  · refine j_aload_n C 0 0 dX8_goDeeper_14 rfl rfl ?_
    refine j_dup C dX8_goDeeper_15 rfl ?_
    refine y_getI C 7 _ _ fX8_goDeeper_18 rfl rfl ft_7_2 sb_7_2 hM0 dX8_goDeeper_16 (fun a102 ea102 la102 ua102 => ?_)
    refine y_iconst C dX8_goDeeper_19 ?_
    refine y_iadd C dX8_goDeeper_20 ?_
    refine y_putI C 7 _ _ qX8_goDeeper_18 rfl rfl ft_7_2 sb_7_2 hM0 (PX.w hpr rfl rfl) dX8_goDeeper_21 (by omega) (fun M104 eM104 hM104 => ?_)
    have zz78_5 : (M104.1 78 5).toInt = (M0.1 78 5).toInt := s_fb eM104 (by decide) (rfl); exact hret _ _ _ dX8_goDeeper_24 ⟨hM104, (FR.rf.wI eM104 (by decide)), by omega⟩
  · exfalso; omega
set_option maxHeartbeats 4000000 in
theorem s2_X8_goDeeper {l : Launch} {dC : Nat → ClassId} {dI : Nat → Nat → Nat} {ad : Nat → Nat} {cA : Nat → ClassId} {pr : Nat → Nat → Bool} {Kz : mm_M} {M0 : mm_M} (hM0 : INV pr Kz M0) (hpr : PX pr)  (hp0 : (M0.1 78 2).toInt < 901) : Cv l 0 yX8_goDeeper wsX8_goDeeper dC dI ad cA [.ref (ad 78), .int (sI 1)] M0 (fun M' => INV pr Kz M' ∧ FR [78] M0 M' ∧ (1 < 6 ∨ 1 ≤ (M'.1 78 5).toInt)) := by
  refine cv_of (cc := cX8_goDeeper) (maxL := 2) (lv := [(0, .ref (ad 78)), (1, .int (sI 1))]) (by decide) rfl (Nat.le_of_ble_eq_true rfl) rfl ?_
  intro p e s m args below meth c A Q C hret
  refine j_iload_n C 1 1 dX8_goDeeper_0 rfl rfl ?_
  refine y_bipush C dX8_goDeeper_1 rfl ?_
  refine y_icmp_lt C 14 dX8_goDeeper_3 (by decide) (by omega) (fun h101 => ?_) (fun h101 => ?_)
  · refine j_aload_n C 0 0 dX8_goDeeper_14 rfl rfl ?_
    refine j_dup C dX8_goDeeper_15 rfl ?_
    refine y_getI C 7 _ _ fX8_goDeeper_18 rfl rfl ft_7_2 sb_7_2 hM0 dX8_goDeeper_16 (fun a102 ea102 la102 ua102 => ?_)
    refine y_iconst C dX8_goDeeper_19 ?_
    refine y_iadd C dX8_goDeeper_20 ?_
    refine y_putI C 7 _ _ qX8_goDeeper_18 rfl rfl ft_7_2 sb_7_2 hM0 (PX.w hpr rfl rfl) dX8_goDeeper_21 (by omega) (fun M104 eM104 hM104 => ?_)
    have zz78_5 : (M104.1 78 5).toInt = (M0.1 78 5).toInt := s_fb eM104 (by decide) (rfl); exact hret _ _ _ dX8_goDeeper_24 ⟨hM104, (FR.rf.wI eM104 (by decide)), by omega⟩
  · exfalso; omega
set_option maxHeartbeats 4000000 in
theorem s3_X8_goDeeper {l : Launch} {dC : Nat → ClassId} {dI : Nat → Nat → Nat} {ad : Nat → Nat} {cA : Nat → ClassId} {pr : Nat → Nat → Bool} {Kz : mm_M} {M0 : mm_M} (hM0 : INV pr Kz M0) (hpr : PX pr)  (hp0 : (M0.1 78 2).toInt < 901) : Cv l 0 yX8_goDeeper wsX8_goDeeper dC dI ad cA [.ref (ad 78), .int (sI 2)] M0 (fun M' => INV pr Kz M' ∧ FR [78] M0 M' ∧ (2 < 6 ∨ 1 ≤ (M'.1 78 5).toInt)) := by
  refine cv_of (cc := cX8_goDeeper) (maxL := 2) (lv := [(0, .ref (ad 78)), (1, .int (sI 2))]) (by decide) rfl (Nat.le_of_ble_eq_true rfl) rfl ?_
  intro p e s m args below meth c A Q C hret
  refine j_iload_n C 1 1 dX8_goDeeper_0 rfl rfl ?_
  refine y_bipush C dX8_goDeeper_1 rfl ?_
  refine y_icmp_lt C 14 dX8_goDeeper_3 (by decide) (by omega) (fun h101 => ?_) (fun h101 => ?_)
  · refine j_aload_n C 0 0 dX8_goDeeper_14 rfl rfl ?_
    refine j_dup C dX8_goDeeper_15 rfl ?_
    refine y_getI C 7 _ _ fX8_goDeeper_18 rfl rfl ft_7_2 sb_7_2 hM0 dX8_goDeeper_16 (fun a102 ea102 la102 ua102 => ?_)
    refine y_iconst C dX8_goDeeper_19 ?_
    refine y_iadd C dX8_goDeeper_20 ?_
    refine y_putI C 7 _ _ qX8_goDeeper_18 rfl rfl ft_7_2 sb_7_2 hM0 (PX.w hpr rfl rfl) dX8_goDeeper_21 (by omega) (fun M104 eM104 hM104 => ?_)
    have zz78_5 : (M104.1 78 5).toInt = (M0.1 78 5).toInt := s_fb eM104 (by decide) (rfl); exact hret _ _ _ dX8_goDeeper_24 ⟨hM104, (FR.rf.wI eM104 (by decide)), by omega⟩
  · exfalso; omega
set_option maxHeartbeats 4000000 in
theorem s4_X8_goDeeper {l : Launch} {dC : Nat → ClassId} {dI : Nat → Nat → Nat} {ad : Nat → Nat} {cA : Nat → ClassId} {pr : Nat → Nat → Bool} {Kz : mm_M} {M0 : mm_M} (hM0 : INV pr Kz M0) (hpr : PX pr)  (hp0 : (M0.1 78 2).toInt < 901) : Cv l 0 yX8_goDeeper wsX8_goDeeper dC dI ad cA [.ref (ad 78), .int (sI 3)] M0 (fun M' => INV pr Kz M' ∧ FR [78] M0 M' ∧ (3 < 6 ∨ 1 ≤ (M'.1 78 5).toInt)) := by
  refine cv_of (cc := cX8_goDeeper) (maxL := 2) (lv := [(0, .ref (ad 78)), (1, .int (sI 3))]) (by decide) rfl (Nat.le_of_ble_eq_true rfl) rfl ?_
  intro p e s m args below meth c A Q C hret
  refine j_iload_n C 1 1 dX8_goDeeper_0 rfl rfl ?_
  refine y_bipush C dX8_goDeeper_1 rfl ?_
  refine y_icmp_lt C 14 dX8_goDeeper_3 (by decide) (by omega) (fun h101 => ?_) (fun h101 => ?_)
  · refine j_aload_n C 0 0 dX8_goDeeper_14 rfl rfl ?_
    refine j_dup C dX8_goDeeper_15 rfl ?_
    refine y_getI C 7 _ _ fX8_goDeeper_18 rfl rfl ft_7_2 sb_7_2 hM0 dX8_goDeeper_16 (fun a102 ea102 la102 ua102 => ?_)
    refine y_iconst C dX8_goDeeper_19 ?_
    refine y_iadd C dX8_goDeeper_20 ?_
    refine y_putI C 7 _ _ qX8_goDeeper_18 rfl rfl ft_7_2 sb_7_2 hM0 (PX.w hpr rfl rfl) dX8_goDeeper_21 (by omega) (fun M104 eM104 hM104 => ?_)
    have zz78_5 : (M104.1 78 5).toInt = (M0.1 78 5).toInt := s_fb eM104 (by decide) (rfl); exact hret _ _ _ dX8_goDeeper_24 ⟨hM104, (FR.rf.wI eM104 (by decide)), by omega⟩
  · exfalso; omega
set_option maxHeartbeats 4000000 in
theorem s5_X8_goDeeper {l : Launch} {dC : Nat → ClassId} {dI : Nat → Nat → Nat} {ad : Nat → Nat} {cA : Nat → ClassId} {pr : Nat → Nat → Bool} {Kz : mm_M} {M0 : mm_M} (hM0 : INV pr Kz M0) (hpr : PX pr)  (hp0 : (M0.1 78 2).toInt < 901) : Cv l 0 yX8_goDeeper wsX8_goDeeper dC dI ad cA [.ref (ad 78), .int (sI 4)] M0 (fun M' => INV pr Kz M' ∧ FR [78] M0 M' ∧ (4 < 6 ∨ 1 ≤ (M'.1 78 5).toInt)) := by
  refine cv_of (cc := cX8_goDeeper) (maxL := 2) (lv := [(0, .ref (ad 78)), (1, .int (sI 4))]) (by decide) rfl (Nat.le_of_ble_eq_true rfl) rfl ?_
  intro p e s m args below meth c A Q C hret
  refine j_iload_n C 1 1 dX8_goDeeper_0 rfl rfl ?_
  refine y_bipush C dX8_goDeeper_1 rfl ?_
  refine y_icmp_lt C 14 dX8_goDeeper_3 (by decide) (by omega) (fun h101 => ?_) (fun h101 => ?_)
  · refine j_aload_n C 0 0 dX8_goDeeper_14 rfl rfl ?_
    refine j_dup C dX8_goDeeper_15 rfl ?_
    refine y_getI C 7 _ _ fX8_goDeeper_18 rfl rfl ft_7_2 sb_7_2 hM0 dX8_goDeeper_16 (fun a102 ea102 la102 ua102 => ?_)
    refine y_iconst C dX8_goDeeper_19 ?_
    refine y_iadd C dX8_goDeeper_20 ?_
    refine y_putI C 7 _ _ qX8_goDeeper_18 rfl rfl ft_7_2 sb_7_2 hM0 (PX.w hpr rfl rfl) dX8_goDeeper_21 (by omega) (fun M104 eM104 hM104 => ?_)
    have zz78_5 : (M104.1 78 5).toInt = (M0.1 78 5).toInt := s_fb eM104 (by decide) (rfl); exact hret _ _ _ dX8_goDeeper_24 ⟨hM104, (FR.rf.wI eM104 (by decide)), by omega⟩
  · exfalso; omega
set_option maxHeartbeats 4000000 in
theorem s6_X8_goDeeper {l : Launch} {dC : Nat → ClassId} {dI : Nat → Nat → Nat} {ad : Nat → Nat} {cA : Nat → ClassId} {pr : Nat → Nat → Bool} {Kz : mm_M} {M0 : mm_M} (hM0 : INV pr Kz M0) (hpr : PX pr)  (hp0 : (M0.1 78 2).toInt < 901) : Cv l 0 yX8_goDeeper wsX8_goDeeper dC dI ad cA [.ref (ad 78), .int (sI 5)] M0 (fun M' => INV pr Kz M' ∧ FR [78] M0 M' ∧ (5 < 6 ∨ 1 ≤ (M'.1 78 5).toInt)) := by
  refine cv_of (cc := cX8_goDeeper) (maxL := 2) (lv := [(0, .ref (ad 78)), (1, .int (sI 5))]) (by decide) rfl (Nat.le_of_ble_eq_true rfl) rfl ?_
  intro p e s m args below meth c A Q C hret
  refine j_iload_n C 1 1 dX8_goDeeper_0 rfl rfl ?_
  refine y_bipush C dX8_goDeeper_1 rfl ?_
  refine y_icmp_lt C 14 dX8_goDeeper_3 (by decide) (by omega) (fun h101 => ?_) (fun h101 => ?_)
  · refine j_aload_n C 0 0 dX8_goDeeper_14 rfl rfl ?_
    refine j_dup C dX8_goDeeper_15 rfl ?_
    refine y_getI C 7 _ _ fX8_goDeeper_18 rfl rfl ft_7_2 sb_7_2 hM0 dX8_goDeeper_16 (fun a102 ea102 la102 ua102 => ?_)
    refine y_iconst C dX8_goDeeper_19 ?_
    refine y_iadd C dX8_goDeeper_20 ?_
    refine y_putI C 7 _ _ qX8_goDeeper_18 rfl rfl ft_7_2 sb_7_2 hM0 (PX.w hpr rfl rfl) dX8_goDeeper_21 (by omega) (fun M104 eM104 hM104 => ?_)
    have zz78_5 : (M104.1 78 5).toInt = (M0.1 78 5).toInt := s_fb eM104 (by decide) (rfl); exact hret _ _ _ dX8_goDeeper_24 ⟨hM104, (FR.rf.wI eM104 (by decide)), by omega⟩
  · exfalso; omega
set_option maxHeartbeats 4000000 in
theorem s7_X8_goDeeper {l : Launch} {dC : Nat → ClassId} {dI : Nat → Nat → Nat} {ad : Nat → Nat} {cA : Nat → ClassId} {pr : Nat → Nat → Bool} {Kz : mm_M} {M0 : mm_M} (hM0 : INV pr Kz M0) (hpr : PX pr)  (hp0 : (M0.1 78 2).toInt < 901) : Cv l 1 yX8_goDeeper wsX8_goDeeper dC dI ad cA [.ref (ad 78), .int (sI 6)] M0 (fun M' => INV pr Kz M' ∧ FR [78] M0 M' ∧ (6 < 6 ∨ 1 ≤ (M'.1 78 5).toInt)) := by
  refine cv_of (cc := cX8_goDeeper) (maxL := 2) (lv := [(0, .ref (ad 78)), (1, .int (sI 6))]) (by decide) rfl (Nat.le_of_ble_eq_true rfl) rfl ?_
  intro p e s m args below meth c A Q C hret
  refine j_iload_n C 1 1 dX8_goDeeper_0 rfl rfl ?_
  refine y_bipush C dX8_goDeeper_1 rfl ?_
  refine y_icmp_lt C 14 dX8_goDeeper_3 (by decide) (by omega) (fun h101 => ?_) (fun h101 => ?_)
  · exfalso; omega
  · refine j_aload_n C 0 0 dX8_goDeeper_6 rfl rfl ?_
    refine y_iconst C dX8_goDeeper_7 ?_
    refine j_callVv C (d := 0) (As := [.int (sI 4)]) (st := []) 78 (s_lt rfl rfl) (s_kc (c := 7) rfl rfl) (by decide) rfl (s1_X8_fail hM0 hpr 4 (by omega) (by omega)) gX8_goDeeper_X8_fail rfl hdX8_fail (by decide) (Nat.le_of_ble_eq_true rfl) dX8_goDeeper_8 rfl (fun M103 h104 => ?_)
    obtain ⟨hM103, fM103, h105⟩ := h104
    refine j_goto C 24 dX8_goDeeper_11 (by decide) ?_
    exact hret _ _ _ dX8_goDeeper_24 ⟨hM103, (FR.rf.tr fM103 (by decide)), by omega⟩
set_option maxHeartbeats 4000000 in
theorem s1_X8_atom {l : Launch} {dC : Nat → ClassId} {dI : Nat → Nat → Nat} {ad : Nat → Nat} {cA : Nat → ClassId} {pr : Nat → Nat → Bool} {Kz : mm_M} {M0 : mm_M} (hM0 : INV pr Kz M0) (hpr : PX pr)  (hp0 : 1 ≤ (M0.1 78 5).toInt ∧ (M0.1 78 5).toInt ≤ 4) : Cv l 0 yX8_atom wsX8_atom dC dI ad cA [.ref (ad 78), .int (sI 7)] M0 (fun M' => INV pr Kz M' ∧ (1 ≤ (M'.1 78 5).toInt ∧ (M'.1 78 5).toInt ≤ 4)) := by
  refine cv_of (cc := cX8_atom) (maxL := 3) (lv := [(0, .ref (ad 78)), (1, .int (sI 7))]) (by decide) rfl (Nat.le_of_ble_eq_true rfl) rfl ?_
  intro p e s m args below meth c A Q C hret
  refine j_aload_n C 0 0 dX8_atom_0 rfl rfl ?_
  refine y_getI C 7 _ _ fX8_atom_22 rfl rfl ft_7_5 sb_7_5 hM0 dX8_atom_1 (fun a101 ea101 la101 ua101 => ?_)
  refine y_if_eq C 8 dX8_atom_4 (by decide) (by omega) (fun h103 => ?_) (fun h103 => ?_)
  · exfalso; omega
  · exact hret _ _ _ dX8_atom_7 ⟨hM0, by omega⟩
set_option maxHeartbeats 4000000 in
theorem s1_X8_term {l : Launch} {dC : Nat → ClassId} {dI : Nat → Nat → Nat} {ad : Nat → Nat} {cA : Nat → ClassId} {pr : Nat → Nat → Bool} {Kz : mm_M} {M0 : mm_M} (hM0 : INV pr Kz M0) (hpr : PX pr)  (hp0 : 1 ≤ (M0.1 78 5).toInt ∧ (M0.1 78 5).toInt ≤ 4) : Cv l 1 yX8_term wsX8_term dC dI ad cA [.ref (ad 78), .int (sI 7)] M0 (fun M' => INV pr Kz M' ∧ (1 ≤ (M'.1 78 5).toInt ∧ (M'.1 78 5).toInt ≤ 4)) := by
  refine cv_of (cc := cX8_term) (maxL := 3) (lv := [(0, .ref (ad 78)), (1, .int (sI 7))]) (by decide) rfl (Nat.le_of_ble_eq_true rfl) rfl ?_
  intro p e s m args below meth c A Q C hret
  refine j_aload_n C 0 0 dX8_term_0 rfl rfl ?_
  refine j_iload_n C 1 1 dX8_term_1 rfl rfl ?_
  have z101 := (hM0).rd (i := 78) (c := 7) (k := 5) rfl sb_7_5
  refine j_callVv C (d := 0) (As := [.int (sI 7)]) (st := []) 78 (s_lt rfl rfl) (s_kc (c := 7) rfl rfl) (by decide) rfl (s1_X8_atom hM0 hpr (by omega)) gX8_term_X8_atom rfl hdX8_atom (by decide) (Nat.le_of_ble_eq_true rfl) dX8_term_2 rfl (fun M103 h104 => ?_)
  obtain ⟨hM103, h105⟩ := h104
  refine y_iconst C dX8_term_5 ?_
  refine j_istore_n C 2 [(2, .int (sI 0)), (0, .ref (ad 78)), (1, .int (sI 7))] dX8_term_6 rfl (by decide) rfl ?_
  have L114 : ∀ (n112 : Nat), ∀ (a115 : Int) (M116 : mm_M), (0 ≤ a115 ∧ a115 ≤ 0 ∧ (1 ≤ (M116.1 78 5).toInt ∧ (M116.1 78 5).toInt ≤ 4) ∧ 0 < (n112 : Int)) → INV pr Kz M116 → jj p l e (cn_R 1) s m args below meth c 0 0 Q 3 dC dI ad cA A M116 7 [(0, .ref (ad 78)), (1, .int (sI 7)), (2, .int (sI a115))] [] := by
    intro n112
    induction n112 with
    | zero =>
      intro a115 M116 h117 hM116
      exfalso; omega
    | succ n112 ih113 =>
      intro a115 M116 h117 hM116
      refine j_iload_n C 2 2 dX8_term_7 rfl rfl ?_
      refine y_sipush C dX8_term_8 rfl ?_
      refine y_icmp_ge C 59 dX8_term_11 (by decide) (by omega) (fun h118 => ?_) (fun h118 => ?_)
      · exfalso; omega
      · refine j_aload_n C 0 0 dX8_term_14 rfl rfl ?_
        refine y_getI C 7 _ _ fX8_term_22 rfl rfl ft_7_5 sb_7_5 hM116 dX8_term_15 (fun a119 ea119 la119 ua119 => ?_)
        refine y_if_ne C 59 dX8_term_18 (by decide) (by omega) (fun h121 => ?_) (fun h121 => ?_)
        · exact hret _ _ _ dX8_term_59 ⟨hM116, by omega⟩
        · exfalso; omega
  refine j_lv [1, 2, 0] rfl ?_; exact L114 2010 0 M103 (by omega) hM103
set_option maxHeartbeats 4000000 in
theorem s1_X8_sum {l : Launch} {dC : Nat → ClassId} {dI : Nat → Nat → Nat} {ad : Nat → Nat} {cA : Nat → ClassId} {pr : Nat → Nat → Bool} {Kz : mm_M} {M0 : mm_M} (hM0 : INV pr Kz M0) (hpr : PX pr)  (hp0 : 1 ≤ (M0.1 78 5).toInt ∧ (M0.1 78 5).toInt ≤ 4) : Cv l 2 yX8_sum wsX8_sum dC dI ad cA [.ref (ad 78), .int (sI 7)] M0 (fun M' => INV pr Kz M' ∧ (1 ≤ (M'.1 78 5).toInt ∧ (M'.1 78 5).toInt ≤ 4)) := by
  refine cv_of (cc := cX8_sum) (maxL := 4) (lv := [(0, .ref (ad 78)), (1, .int (sI 7))]) (by decide) rfl (Nat.le_of_ble_eq_true rfl) rfl ?_
  intro p e s m args below meth c A Q C hret
  refine j_aload_n C 0 0 dX8_sum_0 rfl rfl ?_
  refine j_iload_n C 1 1 dX8_sum_1 rfl rfl ?_
  have z101 := (hM0).rd (i := 78) (c := 7) (k := 5) rfl sb_7_5
  refine j_callVv C (d := 1) (As := [.int (sI 7)]) (st := []) 78 (s_lt rfl rfl) (s_kc (c := 7) rfl rfl) (by decide) rfl (s1_X8_term hM0 hpr (by omega)) gX8_sum_X8_term rfl hdX8_term (by decide) (Nat.le_of_ble_eq_true rfl) dX8_sum_2 rfl (fun M103 h104 => ?_)
  obtain ⟨hM103, h105⟩ := h104
  refine j_aload_n C 0 0 dX8_sum_5 rfl rfl ?_
  refine j_callVi C (d := 0) (As := []) (st := []) 78 (s_lt rfl rfl) (s_kc (c := 7) rfl rfl) (by decide) rfl (s1_X8_token hM103) gX8_sum_X8_token rfl hdX8_token (by decide) (Nat.le_of_ble_eq_true rfl) dX8_sum_6 rfl (fun r106 M107 h108 => ?_)
  obtain ⟨a110, rfl, rfl, h109⟩ := h108
  refine j_istore_n C 2 [(2, .int (sI a110)), (0, .ref (ad 78)), (1, .int (sI 7))] dX8_sum_9 rfl (by decide) rfl ?_
  refine y_iconst C dX8_sum_10 ?_
  refine j_istore_n C 3 [(3, .int (sI 0)), (2, .int (sI a110)), (0, .ref (ad 78)), (1, .int (sI 7))] dX8_sum_11 rfl (by decide) rfl ?_
  have L120 : ∀ (n118 : Nat), ∀ (a121 : Int) (a122 : Int) (M123 : mm_M), ((-2147483648) ≤ a121 ∧ a121 ≤ 2147483647 ∧ 0 ≤ a122 ∧ a122 ≤ 0 ∧ (1 ≤ (M123.1 78 5).toInt ∧ (M123.1 78 5).toInt ≤ 4) ∧ 0 < (n118 : Int)) → INV pr Kz M123 → jj p l e (cn_R 2) s m args below meth c 0 0 Q 4 dC dI ad cA A M123 12 [(0, .ref (ad 78)), (1, .int (sI 7)), (2, .int (sI a121)), (3, .int (sI a122))] [] := by
    intro n118
    induction n118 with
    | zero =>
      intro a121 a122 M123 h124 hM123
      exfalso; omega
    | succ n118 ih119 =>
      intro a121 a122 M123 h124 hM123
      refine j_iload_n C 3 3 dX8_sum_12 rfl rfl ?_
      refine y_sipush C dX8_sum_13 rfl ?_
      refine y_icmp_ge C 71 dX8_sum_16 (by decide) (by omega) (fun h125 => ?_) (fun h125 => ?_)
      · exfalso; omega
      · refine j_aload_n C 0 0 dX8_sum_19 rfl rfl ?_
        refine y_getI C 7 _ _ fX8_sum_22 rfl rfl ft_7_5 sb_7_5 hM123 dX8_sum_20 (fun a126 ea126 la126 ua126 => ?_)
        refine y_if_ne C 71 dX8_sum_23 (by decide) (by omega) (fun h128 => ?_) (fun h128 => ?_)
        · exact hret _ _ _ dX8_sum_71 ⟨hM123, by omega⟩
        · exfalso; omega
  refine j_lv [2, 3, 1, 0] rfl ?_; exact L120 4294967306 a110 0 M103 (by omega) hM103
set_option maxHeartbeats 4000000 in
theorem s1_X8_emit {l : Launch} {dC : Nat → ClassId} {dI : Nat → Nat → Nat} {ad : Nat → Nat} {cA : Nat → ClassId} {pr : Nat → Nat → Bool} {Kz : mm_M} {M0 : mm_M} (hM0 : INV pr Kz M0) (hpr : PX pr) (a1 : Int) (ha1 : -2147483648 ≤ a1 ∧ a1 ≤ 2147483647) : Cv l 0 yX8_emit wsX8_emit dC dI ad cA [.ref (ad 78), .int (sI a1)] M0 (fun M' => INV pr Kz M') := by
  refine cv_of (cc := cX8_emit) (maxL := 2) (lv := [(0, .ref (ad 78)), (1, .int (sI a1))]) (by decide) rfl (Nat.le_of_ble_eq_true rfl) rfl ?_
  intro p e s m args below meth c A Q C hret
  refine j_aload_n C 0 0 dX8_emit_0 rfl rfl ?_
  refine y_getI C 7 _ _ fX8_emit_22 rfl rfl ft_7_5 sb_7_5 hM0 dX8_emit_1 (fun a101 ea101 la101 ua101 => ?_)
  refine y_if_ne C 54 dX8_emit_4 (by decide) (by omega) (fun h103 => ?_) (fun h103 => ?_)
  · exact hret _ _ _ dX8_emit_54 hM0
  · refine j_aload_n C 0 0 dX8_emit_7 rfl rfl ?_
    refine y_getM C 7 6 fX8_emit_28 rfl rfl ft_7_3 sm_7_3 (by decide) hM0 dX8_emit_8 (fun v104 ev104 cv104 => ?_)
    refine y_getI C 6 _ _ fX8_emit_93 cv104 rfl ft_6_6 sb_6_6 hM0 dX8_emit_11 (fun a105 ea105 la105 ua105 => ?_)
    refine j_aload_n C 0 0 dX8_emit_14 rfl rfl ?_
    refine y_getV C 7 v104 fX8_emit_28 rfl rfl ft_7_3 (ev104) dX8_emit_15 ?_
    refine y_getT C 6 24 fX8_emit_150 cv104 rfl ft_6_5 rfl sm_6_5 st_6_5 (by decide) hM0 dX8_emit_18 (fun v107 cv107 => ?_)
    refine y_alen C 24 900 cv107 rfl rfl an_24 rfl rfl dX8_emit_21 ?_
    refine y_icmp_ge C 54 dX8_emit_22 (by decide) (by omega) (fun h108 => ?_) (fun h108 => ?_)
    · exact hret _ _ _ dX8_emit_54 hM0
    · refine j_aload_n C 0 0 dX8_emit_25 rfl rfl ?_
      refine y_getV C 7 v104 fX8_emit_28 rfl rfl ft_7_3 (ev104) dX8_emit_26 ?_
      refine y_getT C 6 24 fX8_emit_150 cv104 rfl ft_6_5 rfl sm_6_5 st_6_5 (by decide) hM0 dX8_emit_29 (fun v109 cv109 => ?_)
      refine j_aload_n C 0 0 dX8_emit_32 rfl rfl ?_
      refine y_getV C 7 v104 fX8_emit_28 rfl rfl ft_7_3 (ev104) dX8_emit_33 ?_
      refine y_getI C 6 _ _ fX8_emit_93 cv104 rfl ft_6_6 sb_6_6 hM0 dX8_emit_36 (fun a110 ea110 la110 ua110 => ?_)
      refine j_iload_n C 1 1 dX8_emit_39 rfl rfl ?_
      refine y_iastF C 24 900 cv109 rfl rfl ak_24 an_24 rfl (sb_24 _) hM0 (PX.w hpr cv109 rfl) dX8_emit_40 (by omega) (fun M112 eM112 hM112 => ?_)
      refine j_aload_n C 0 0 dX8_emit_41 rfl rfl ?_
      refine y_getV C 7 v104 fX8_emit_28 rfl rfl ft_7_3 (s_pI eM112 (ev104)) dX8_emit_42 ?_
      refine j_dup C dX8_emit_45 rfl ?_
      refine y_getI C 6 _ _ fX8_emit_93 cv104 rfl ft_6_6 sb_6_6 hM112 dX8_emit_46 (fun a113 ea113 la113 ua113 => ?_)
      have qa113 : a113 = a105 := (s_fa eM112 (s_ne (c := 6) (d := 24) cv104 cv109 (by decide)) (ea113)).trans ea105.symm
      refine y_iconst C dX8_emit_49 ?_
      refine y_iadd C dX8_emit_50 ?_
      refine y_putI C 6 _ _ qX8_emit_93 cv104 rfl ft_6_6 sb_6_6 hM112 (PX.w hpr cv104 rfl) dX8_emit_51 (by omega) (fun M115 eM115 hM115 => ?_)
      exact hret _ _ _ dX8_emit_54 hM115
set_option maxHeartbeats 4000000 in
theorem s2_X8_atom {l : Launch} {dC : Nat → ClassId} {dI : Nat → Nat → Nat} {ad : Nat → Nat} {cA : Nat → ClassId} {pr : Nat → Nat → Bool} {Kz : mm_M} {M0 : mm_M} (hM0 : INV pr Kz M0) (hpr : PX pr)  : Cv l 3 yX8_atom wsX8_atom dC dI ad cA [.ref (ad 78), .int (sI 6)] M0 (fun M' => INV pr Kz M') := by
  refine cv_of (cc := cX8_atom) (maxL := 3) (lv := [(0, .ref (ad 78)), (1, .int (sI 6))]) (by decide) rfl (Nat.le_of_ble_eq_true rfl) rfl ?_
  intro p e s m args below meth c A Q C hret
  refine j_aload_n C 0 0 dX8_atom_0 rfl rfl ?_
  refine y_getI C 7 _ _ fX8_atom_22 rfl rfl ft_7_5 sb_7_5 hM0 dX8_atom_1 (fun a101 ea101 la101 ua101 => ?_)
  refine y_if_eq C 8 dX8_atom_4 (by decide) (by omega) (fun h103 => ?_) (fun h103 => ?_)
  · refine j_aload_n C 0 0 dX8_atom_8 rfl rfl ?_
    refine j_callVi C (d := 0) (As := []) (st := []) 78 (s_lt rfl rfl) (s_kc (c := 7) rfl rfl) (by decide) rfl (s1_X8_token hM0) gX8_atom_X8_token rfl hdX8_token (by decide) (Nat.le_of_ble_eq_true rfl) dX8_atom_9 rfl (fun r104 M105 h106 => ?_)
    obtain ⟨a108, rfl, rfl, h107⟩ := h106
    refine j_istore_n C 2 [(2, .int (sI a108)), (0, .ref (ad 78)), (1, .int (sI 6))] dX8_atom_12 rfl (by decide) rfl ?_
    refine j_iload_n C 0 2 dX8_atom_13 rfl rfl ?_
    refine y_sipush C dX8_atom_14 rfl ?_
    refine y_icmp_ge C 38 dX8_atom_17 (by decide) (by omega) (fun h109 => ?_) (fun h109 => ?_)
    · refine j_iload_n C 0 2 dX8_atom_38 rfl rfl ?_
      refine y_sipush C dX8_atom_39 rfl ?_
      refine y_icmp_ne C 67 dX8_atom_42 (by decide) (by omega) (fun h110 => ?_) (fun h110 => ?_)
      · refine j_aload_n C 1 0 dX8_atom_67 rfl rfl ?_
        refine y_iconst C dX8_atom_68 ?_
        refine j_callVv C (d := 0) (As := [.int (sI 2)]) (st := []) 78 (s_lt rfl rfl) (s_kc (c := 7) rfl rfl) (by decide) rfl (s1_X8_fail hM0 hpr 2 (by omega) (by omega)) gX8_atom_X8_fail rfl hdX8_fail (by decide) (Nat.le_of_ble_eq_true rfl) dX8_atom_69 rfl (fun M112 h113 => ?_)
        obtain ⟨hM112, fM112, h114⟩ := h113
        exact hret _ _ _ dX8_atom_72 hM112
      · refine j_aload_n C 1 0 dX8_atom_45 rfl rfl ?_
        refine j_iload_n C 2 1 dX8_atom_46 rfl rfl ?_
        refine j_callVv C (d := 1) (As := [.int (sI 6)]) (st := []) 78 (s_lt rfl rfl) (s_kc (c := 7) rfl rfl) (by decide) rfl (s7_X8_goDeeper hM0 hpr (by omega)) gX8_atom_X8_goDeeper rfl hdX8_goDeeper (by decide) (Nat.le_of_ble_eq_true rfl) dX8_atom_47 rfl (fun M116 h117 => ?_)
        obtain ⟨hM116, fM116, h118⟩ := h117
        refine j_aload_n C 1 0 dX8_atom_50 rfl rfl ?_
        refine j_iload_n C 2 1 dX8_atom_51 rfl rfl ?_
        refine y_iconst C dX8_atom_52 ?_
        refine y_iadd C dX8_atom_53 ?_
        have z119 := (hM116).rd (i := 78) (c := 7) (k := 5) rfl sb_7_5
        refine j_callVv C (d := 2) (As := [.int (sI (6 + 1))]) (st := []) 78 (s_lt rfl rfl) (s_kc (c := 7) rfl rfl) (by decide) rfl (s1_X8_sum hM116 hpr (by omega)) gX8_atom_X8_sum rfl hdX8_sum (by decide) (Nat.le_of_ble_eq_true rfl) dX8_atom_54 rfl (fun M121 h122 => ?_)
        obtain ⟨hM121, h123⟩ := h122
        refine j_aload_n C 1 0 dX8_atom_57 rfl rfl ?_
        refine y_sipush C dX8_atom_58 rfl ?_
        refine j_callVv C (d := 1) (As := [.int (sI 2041)]) (st := []) 78 (s_lt rfl rfl) (s_kc (c := 7) rfl rfl) (by decide) rfl (s1_X8_expect hM121 hpr 2041 (by omega) (by omega)) gX8_atom_X8_expect rfl hdX8_expect (by decide) (Nat.le_of_ble_eq_true rfl) dX8_atom_61 rfl (fun M125 h126 => ?_)
        obtain ⟨hM125, fM125⟩ := h126
        refine j_goto C 72 dX8_atom_64 (by decide) ?_
        exact hret _ _ _ dX8_atom_72 hM125
    · refine j_aload_n C 1 0 dX8_atom_20 rfl rfl ?_
      refine j_dup C dX8_atom_21 rfl ?_
      refine y_getI C 7 _ _ fX8_atom_18 rfl rfl ft_7_2 sb_7_2 hM0 dX8_atom_22 (fun a128 ea128 la128 ua128 => ?_)
      refine y_iconst C dX8_atom_25 ?_
      refine y_iadd C dX8_atom_26 ?_
      refine y_putI C 7 _ _ qX8_atom_18 rfl rfl ft_7_2 sb_7_2 hM0 (PX.w hpr rfl rfl) dX8_atom_27 (by omega) (fun M130 eM130 hM130 => ?_)
      refine j_aload_n C 1 0 dX8_atom_30 rfl rfl ?_
      refine j_iload_n C 0 2 dX8_atom_31 rfl rfl ?_
      refine j_callVv C (d := 0) (As := [.int (sI a108)]) (st := []) 78 (s_lt rfl rfl) (s_kc (c := 7) rfl rfl) (by decide) rfl (s1_X8_emit hM130 hpr a108 (by omega)) gX8_atom_X8_emit rfl hdX8_emit (by decide) (Nat.le_of_ble_eq_true rfl) dX8_atom_32 rfl (fun M132 h133 => ?_)
      have hM132 := h133
      refine j_goto C 72 dX8_atom_35 (by decide) ?_
      exact hret _ _ _ dX8_atom_72 hM132
  · exact hret _ _ _ dX8_atom_7 hM0
set_option maxHeartbeats 4000000 in
theorem s2_X8_term {l : Launch} {dC : Nat → ClassId} {dI : Nat → Nat → Nat} {ad : Nat → Nat} {cA : Nat → ClassId} {pr : Nat → Nat → Bool} {Kz : mm_M} {M0 : mm_M} (hM0 : INV pr Kz M0) (hpr : PX pr)  : Cv l 4 yX8_term wsX8_term dC dI ad cA [.ref (ad 78), .int (sI 6)] M0 (fun M' => INV pr Kz M') := by
  refine cv_of (cc := cX8_term) (maxL := 3) (lv := [(0, .ref (ad 78)), (1, .int (sI 6))]) (by decide) rfl (Nat.le_of_ble_eq_true rfl) rfl ?_
  intro p e s m args below meth c A Q C hret
  refine j_aload_n C 0 0 dX8_term_0 rfl rfl ?_
  refine j_iload_n C 1 1 dX8_term_1 rfl rfl ?_
  refine j_callVv C (d := 3) (As := [.int (sI 6)]) (st := []) 78 (s_lt rfl rfl) (s_kc (c := 7) rfl rfl) (by decide) rfl (s2_X8_atom hM0 hpr) gX8_term_X8_atom rfl hdX8_atom (by decide) (Nat.le_of_ble_eq_true rfl) dX8_term_2 rfl (fun M102 h103 => ?_)
  have hM102 := h103
  refine y_iconst C dX8_term_5 ?_
  refine j_istore_n C 2 [(2, .int (sI 0)), (0, .ref (ad 78)), (1, .int (sI 6))] dX8_term_6 rfl (by decide) rfl ?_
  have L797 : ∀ (n795 : Nat), ∀ (a798 : Int) (M799 : mm_M), (0 ≤ a798 ∧ a798 ≤ 900 ∧ (900 - a798) < (n795 : Int)) → INV pr Kz M799 → jj p l e (cn_R 4) s m args below meth c 0 0 Q 3 dC dI ad cA A M799 7 [(0, .ref (ad 78)), (1, .int (sI 6)), (2, .int (sI a798))] [] := by
    intro n795
    induction n795 with
    | zero =>
      intro a798 M799 h800 hM799
      exfalso; omega
    | succ n795 ih796 =>
      intro a798 M799 h800 hM799
      refine j_iload_n C 2 2 dX8_term_7 rfl rfl ?_
      refine y_sipush C dX8_term_8 rfl ?_
      refine y_icmp_ge C 59 dX8_term_11 (by decide) (by omega) (fun h801 => ?_) (fun h801 => ?_)
      · exact hret _ _ _ dX8_term_59 hM799
      · refine j_aload_n C 0 0 dX8_term_14 rfl rfl ?_
        refine y_getI C 7 _ _ fX8_term_22 rfl rfl ft_7_5 sb_7_5 hM799 dX8_term_15 (fun a802 ea802 la802 ua802 => ?_)
        refine y_if_ne C 59 dX8_term_18 (by decide) (by omega) (fun h804 => ?_) (fun h804 => ?_)
        · exact hret _ _ _ dX8_term_59 hM799
        · refine j_aload_n C 0 0 dX8_term_21 rfl rfl ?_
          refine j_callVi C (d := 0) (As := []) (st := []) 78 (s_lt rfl rfl) (s_kc (c := 7) rfl rfl) (by decide) rfl (s1_X8_token hM799) gX8_term_X8_token rfl hdX8_token (by decide) (Nat.le_of_ble_eq_true rfl) dX8_term_22 rfl (fun r805 M806 h807 => ?_)
          obtain ⟨a809, rfl, rfl, h808⟩ := h807
          refine y_sipush C dX8_term_25 rfl ?_
          refine y_icmp_ne C 59 dX8_term_28 (by decide) (by omega) (fun h810 => ?_) (fun h810 => ?_)
          · exact hret _ _ _ dX8_term_59 hM799
          · refine j_aload_n C 0 0 dX8_term_31 rfl rfl ?_
            refine j_dup C dX8_term_32 rfl ?_
            refine y_getI C 7 _ _ fX8_term_18 rfl rfl ft_7_2 sb_7_2 hM799 dX8_term_33 (fun a811 ea811 la811 ua811 => ?_)
            refine y_iconst C dX8_term_36 ?_
            refine y_iadd C dX8_term_37 ?_
            refine y_putI C 7 _ _ qX8_term_18 rfl rfl ft_7_2 sb_7_2 hM799 (PX.w hpr rfl rfl) dX8_term_38 (by omega) (fun M813 eM813 hM813 => ?_)
            refine j_aload_n C 0 0 dX8_term_41 rfl rfl ?_
            refine j_iload_n C 1 1 dX8_term_42 rfl rfl ?_
            refine j_callVv C (d := 3) (As := [.int (sI 6)]) (st := []) 78 (s_lt rfl rfl) (s_kc (c := 7) rfl rfl) (by decide) rfl (s2_X8_atom hM813 hpr) gX8_term_X8_atom rfl hdX8_atom (by decide) (Nat.le_of_ble_eq_true rfl) dX8_term_43 rfl (fun M815 h816 => ?_)
            have hM815 := h816
            refine j_aload_n C 0 0 dX8_term_46 rfl rfl ?_
            refine y_sipush C dX8_term_47 rfl ?_
            refine j_callVv C (d := 0) (As := [.int (sI 2042)]) (st := []) 78 (s_lt rfl rfl) (s_kc (c := 7) rfl rfl) (by decide) rfl (s1_X8_emit hM815 hpr 2042 (by omega)) gX8_term_X8_emit rfl hdX8_emit (by decide) (Nat.le_of_ble_eq_true rfl) dX8_term_50 rfl (fun M819 h820 => ?_)
            have hM819 := h820
            refine y_iinc C 2 [(2, .int (sI (a798 + 1))), (0, .ref (ad 78)), (1, .int (sI 6))] dX8_term_53 rfl (by decide) rfl ?_
            refine j_goto C 7 dX8_term_56 (by decide) ?_
            refine j_lv [1, 2, 0] rfl ?_; exact ih796 (a798 + 1) M819 (by omega) hM819
  refine j_lv [1, 2, 0] rfl ?_; exact L797 2010 0 M102 (by omega) hM102
set_option maxHeartbeats 4000000 in
theorem s2_X8_sum {l : Launch} {dC : Nat → ClassId} {dI : Nat → Nat → Nat} {ad : Nat → Nat} {cA : Nat → ClassId} {pr : Nat → Nat → Bool} {Kz : mm_M} {M0 : mm_M} (hM0 : INV pr Kz M0) (hpr : PX pr)  : Cv l 5 yX8_sum wsX8_sum dC dI ad cA [.ref (ad 78), .int (sI 6)] M0 (fun M' => INV pr Kz M') := by
  refine cv_of (cc := cX8_sum) (maxL := 4) (lv := [(0, .ref (ad 78)), (1, .int (sI 6))]) (by decide) rfl (Nat.le_of_ble_eq_true rfl) rfl ?_
  intro p e s m args below meth c A Q C hret
  refine j_aload_n C 0 0 dX8_sum_0 rfl rfl ?_
  refine j_iload_n C 1 1 dX8_sum_1 rfl rfl ?_
  refine j_callVv C (d := 4) (As := [.int (sI 6)]) (st := []) 78 (s_lt rfl rfl) (s_kc (c := 7) rfl rfl) (by decide) rfl (s2_X8_term hM0 hpr) gX8_sum_X8_term rfl hdX8_term (by decide) (Nat.le_of_ble_eq_true rfl) dX8_sum_2 rfl (fun M102 h103 => ?_)
  have hM102 := h103
  refine j_aload_n C 0 0 dX8_sum_5 rfl rfl ?_
  refine j_callVi C (d := 0) (As := []) (st := []) 78 (s_lt rfl rfl) (s_kc (c := 7) rfl rfl) (by decide) rfl (s1_X8_token hM102) gX8_sum_X8_token rfl hdX8_token (by decide) (Nat.le_of_ble_eq_true rfl) dX8_sum_6 rfl (fun r105 M106 h107 => ?_)
  obtain ⟨a109, rfl, rfl, h108⟩ := h107
  refine j_istore_n C 2 [(2, .int (sI a109)), (0, .ref (ad 78)), (1, .int (sI 6))] dX8_sum_9 rfl (by decide) rfl ?_
  refine y_iconst C dX8_sum_10 ?_
  refine j_istore_n C 3 [(3, .int (sI 0)), (2, .int (sI a109)), (0, .ref (ad 78)), (1, .int (sI 6))] dX8_sum_11 rfl (by decide) rfl ?_
  have L1342 : ∀ (n1340 : Nat), ∀ (a1343 : Int) (a1344 : Int) (M1345 : mm_M), ((-2147483648) ≤ a1343 ∧ a1343 ≤ 2147483647 ∧ 0 ≤ a1344 ∧ a1344 ≤ 900 ∧ (a1343 = 3001 ∨ (M1345.1 78 2).toInt < 901) ∧ (900 - a1344) < (n1340 : Int)) → INV pr Kz M1345 → jj p l e (cn_R 5) s m args below meth c 0 0 Q 4 dC dI ad cA A M1345 12 [(0, .ref (ad 78)), (1, .int (sI 6)), (2, .int (sI a1343)), (3, .int (sI a1344))] [] := by
    intro n1340
    induction n1340 with
    | zero =>
      intro a1343 a1344 M1345 h1346 hM1345
      exfalso; omega
    | succ n1340 ih1341 =>
      intro a1343 a1344 M1345 h1346 hM1345
      refine j_iload_n C 3 3 dX8_sum_12 rfl rfl ?_
      refine y_sipush C dX8_sum_13 rfl ?_
      refine y_icmp_ge C 71 dX8_sum_16 (by decide) (by omega) (fun h1347 => ?_) (fun h1347 => ?_)
      · exact hret _ _ _ dX8_sum_71 hM1345
      · refine j_aload_n C 0 0 dX8_sum_19 rfl rfl ?_
        refine y_getI C 7 _ _ fX8_sum_22 rfl rfl ft_7_5 sb_7_5 hM1345 dX8_sum_20 (fun a1348 ea1348 la1348 ua1348 => ?_)
        refine y_if_ne C 71 dX8_sum_23 (by decide) (by omega) (fun h1350 => ?_) (fun h1350 => ?_)
        · exact hret _ _ _ dX8_sum_71 hM1345
        · refine j_iload_n C 2 2 dX8_sum_26 rfl rfl ?_
          refine y_sipush C dX8_sum_27 rfl ?_
          refine y_icmp_eq C 40 dX8_sum_30 (by decide) (by omega) (fun h1351 => ?_) (fun h1351 => ?_)
          · refine j_aload_n C 0 0 dX8_sum_40 rfl rfl ?_
            refine j_dup C dX8_sum_41 rfl ?_
            refine y_getI C 7 _ _ fX8_sum_18 rfl rfl ft_7_2 sb_7_2 hM1345 dX8_sum_42 (fun a1352 ea1352 la1352 ua1352 => ?_)
            refine y_iconst C dX8_sum_45 ?_
            refine y_iadd C dX8_sum_46 ?_
            refine y_putI C 7 _ _ qX8_sum_18 rfl rfl ft_7_2 sb_7_2 hM1345 (PX.w hpr rfl rfl) dX8_sum_47 (by omega) (fun M1354 eM1354 hM1354 => ?_)
            refine j_aload_n C 0 0 dX8_sum_50 rfl rfl ?_
            refine j_iload_n C 1 1 dX8_sum_51 rfl rfl ?_
            refine j_callVv C (d := 4) (As := [.int (sI 6)]) (st := []) 78 (s_lt rfl rfl) (s_kc (c := 7) rfl rfl) (by decide) rfl (s2_X8_term hM1354 hpr) gX8_sum_X8_term rfl hdX8_term (by decide) (Nat.le_of_ble_eq_true rfl) dX8_sum_52 rfl (fun M1356 h1357 => ?_)
            have hM1356 := h1357
            refine j_aload_n C 0 0 dX8_sum_55 rfl rfl ?_
            refine j_iload_n C 2 2 dX8_sum_56 rfl rfl ?_
            refine j_callVv C (d := 0) (As := [.int (sI a1343)]) (st := []) 78 (s_lt rfl rfl) (s_kc (c := 7) rfl rfl) (by decide) rfl (s1_X8_emit hM1356 hpr a1343 (by omega)) gX8_sum_X8_emit rfl hdX8_emit (by decide) (Nat.le_of_ble_eq_true rfl) dX8_sum_57 rfl (fun M1360 h1361 => ?_)
            have hM1360 := h1361
            refine j_aload_n C 0 0 dX8_sum_60 rfl rfl ?_
            refine j_callVi C (d := 0) (As := []) (st := []) 78 (s_lt rfl rfl) (s_kc (c := 7) rfl rfl) (by decide) rfl (s1_X8_token hM1360) gX8_sum_X8_token rfl hdX8_token (by decide) (Nat.le_of_ble_eq_true rfl) dX8_sum_61 rfl (fun r1363 M1364 h1365 => ?_)
            obtain ⟨a1367, rfl, rfl, h1366⟩ := h1365
            refine j_istore_n C 2 [(2, .int (sI a1367)), (0, .ref (ad 78)), (1, .int (sI 6)), (3, .int (sI a1344))] dX8_sum_64 rfl (by decide) rfl ?_
            refine y_iinc C 3 [(3, .int (sI (a1344 + 1))), (2, .int (sI a1367)), (0, .ref (ad 78)), (1, .int (sI 6))] dX8_sum_65 rfl (by decide) rfl ?_
            refine j_goto C 12 dX8_sum_68 (by decide) ?_
            refine j_lv [2, 3, 1, 0] rfl ?_; exact ih1341 a1367 (a1344 + 1) M1360 (by omega) hM1360
          · refine j_iload_n C 2 2 dX8_sum_33 rfl rfl ?_
            refine y_sipush C dX8_sum_34 rfl ?_
            refine y_icmp_ne C 71 dX8_sum_37 (by decide) (by omega) (fun h1368 => ?_) (fun h1368 => ?_)
            · exact hret _ _ _ dX8_sum_71 hM1345
            · refine j_aload_n C 0 0 dX8_sum_40 rfl rfl ?_
              refine j_dup C dX8_sum_41 rfl ?_
              refine y_getI C 7 _ _ fX8_sum_18 rfl rfl ft_7_2 sb_7_2 hM1345 dX8_sum_42 (fun a1369 ea1369 la1369 ua1369 => ?_)
              refine y_iconst C dX8_sum_45 ?_
              refine y_iadd C dX8_sum_46 ?_
              refine y_putI C 7 _ _ qX8_sum_18 rfl rfl ft_7_2 sb_7_2 hM1345 (PX.w hpr rfl rfl) dX8_sum_47 (by omega) (fun M1371 eM1371 hM1371 => ?_)
              refine j_aload_n C 0 0 dX8_sum_50 rfl rfl ?_
              refine j_iload_n C 1 1 dX8_sum_51 rfl rfl ?_
              refine j_callVv C (d := 4) (As := [.int (sI 6)]) (st := []) 78 (s_lt rfl rfl) (s_kc (c := 7) rfl rfl) (by decide) rfl (s2_X8_term hM1371 hpr) gX8_sum_X8_term rfl hdX8_term (by decide) (Nat.le_of_ble_eq_true rfl) dX8_sum_52 rfl (fun M1373 h1374 => ?_)
              have hM1373 := h1374
              refine j_aload_n C 0 0 dX8_sum_55 rfl rfl ?_
              refine j_iload_n C 2 2 dX8_sum_56 rfl rfl ?_
              refine j_callVv C (d := 0) (As := [.int (sI a1343)]) (st := []) 78 (s_lt rfl rfl) (s_kc (c := 7) rfl rfl) (by decide) rfl (s1_X8_emit hM1373 hpr a1343 (by omega)) gX8_sum_X8_emit rfl hdX8_emit (by decide) (Nat.le_of_ble_eq_true rfl) dX8_sum_57 rfl (fun M1377 h1378 => ?_)
              have hM1377 := h1378
              refine j_aload_n C 0 0 dX8_sum_60 rfl rfl ?_
              refine j_callVi C (d := 0) (As := []) (st := []) 78 (s_lt rfl rfl) (s_kc (c := 7) rfl rfl) (by decide) rfl (s1_X8_token hM1377) gX8_sum_X8_token rfl hdX8_token (by decide) (Nat.le_of_ble_eq_true rfl) dX8_sum_61 rfl (fun r1380 M1381 h1382 => ?_)
              obtain ⟨a1384, rfl, rfl, h1383⟩ := h1382
              refine j_istore_n C 2 [(2, .int (sI a1384)), (0, .ref (ad 78)), (1, .int (sI 6)), (3, .int (sI a1344))] dX8_sum_64 rfl (by decide) rfl ?_
              refine y_iinc C 3 [(3, .int (sI (a1344 + 1))), (2, .int (sI a1384)), (0, .ref (ad 78)), (1, .int (sI 6))] dX8_sum_65 rfl (by decide) rfl ?_
              refine j_goto C 12 dX8_sum_68 (by decide) ?_
              refine j_lv [2, 3, 1, 0] rfl ?_; exact ih1341 a1384 (a1344 + 1) M1377 (by omega) hM1377
  refine j_lv [2, 3, 1, 0] rfl ?_; exact L1342 4294967306 a109 0 M102 (by omega) hM102
set_option maxHeartbeats 4000000 in
theorem s3_X8_atom {l : Launch} {dC : Nat → ClassId} {dI : Nat → Nat → Nat} {ad : Nat → Nat} {cA : Nat → ClassId} {pr : Nat → Nat → Bool} {Kz : mm_M} {M0 : mm_M} (hM0 : INV pr Kz M0) (hpr : PX pr)  : Cv l 6 yX8_atom wsX8_atom dC dI ad cA [.ref (ad 78), .int (sI 5)] M0 (fun M' => INV pr Kz M') := by
  refine cv_of (cc := cX8_atom) (maxL := 3) (lv := [(0, .ref (ad 78)), (1, .int (sI 5))]) (by decide) rfl (Nat.le_of_ble_eq_true rfl) rfl ?_
  intro p e s m args below meth c A Q C hret
  refine j_aload_n C 0 0 dX8_atom_0 rfl rfl ?_
  refine y_getI C 7 _ _ fX8_atom_22 rfl rfl ft_7_5 sb_7_5 hM0 dX8_atom_1 (fun a101 ea101 la101 ua101 => ?_)
  refine y_if_eq C 8 dX8_atom_4 (by decide) (by omega) (fun h103 => ?_) (fun h103 => ?_)
  · refine j_aload_n C 0 0 dX8_atom_8 rfl rfl ?_
    refine j_callVi C (d := 0) (As := []) (st := []) 78 (s_lt rfl rfl) (s_kc (c := 7) rfl rfl) (by decide) rfl (s1_X8_token hM0) gX8_atom_X8_token rfl hdX8_token (by decide) (Nat.le_of_ble_eq_true rfl) dX8_atom_9 rfl (fun r104 M105 h106 => ?_)
    obtain ⟨a108, rfl, rfl, h107⟩ := h106
    refine j_istore_n C 2 [(2, .int (sI a108)), (0, .ref (ad 78)), (1, .int (sI 5))] dX8_atom_12 rfl (by decide) rfl ?_
    refine j_iload_n C 0 2 dX8_atom_13 rfl rfl ?_
    refine y_sipush C dX8_atom_14 rfl ?_
    refine y_icmp_ge C 38 dX8_atom_17 (by decide) (by omega) (fun h109 => ?_) (fun h109 => ?_)
    · refine j_iload_n C 0 2 dX8_atom_38 rfl rfl ?_
      refine y_sipush C dX8_atom_39 rfl ?_
      refine y_icmp_ne C 67 dX8_atom_42 (by decide) (by omega) (fun h110 => ?_) (fun h110 => ?_)
      · refine j_aload_n C 1 0 dX8_atom_67 rfl rfl ?_
        refine y_iconst C dX8_atom_68 ?_
        refine j_callVv C (d := 0) (As := [.int (sI 2)]) (st := []) 78 (s_lt rfl rfl) (s_kc (c := 7) rfl rfl) (by decide) rfl (s1_X8_fail hM0 hpr 2 (by omega) (by omega)) gX8_atom_X8_fail rfl hdX8_fail (by decide) (Nat.le_of_ble_eq_true rfl) dX8_atom_69 rfl (fun M112 h113 => ?_)
        obtain ⟨hM112, fM112, h114⟩ := h113
        exact hret _ _ _ dX8_atom_72 hM112
      · refine j_aload_n C 1 0 dX8_atom_45 rfl rfl ?_
        refine j_iload_n C 2 1 dX8_atom_46 rfl rfl ?_
        refine j_callVv C (d := 0) (As := [.int (sI 5)]) (st := []) 78 (s_lt rfl rfl) (s_kc (c := 7) rfl rfl) (by decide) rfl (s6_X8_goDeeper hM0 hpr (by omega)) gX8_atom_X8_goDeeper rfl hdX8_goDeeper (by decide) (Nat.le_of_ble_eq_true rfl) dX8_atom_47 rfl (fun M116 h117 => ?_)
        obtain ⟨hM116, fM116, h118⟩ := h117
        refine j_aload_n C 1 0 dX8_atom_50 rfl rfl ?_
        refine j_iload_n C 2 1 dX8_atom_51 rfl rfl ?_
        refine y_iconst C dX8_atom_52 ?_
        refine y_iadd C dX8_atom_53 ?_
        refine j_callVv C (d := 5) (As := [.int (sI (5 + 1))]) (st := []) 78 (s_lt rfl rfl) (s_kc (c := 7) rfl rfl) (by decide) rfl (s2_X8_sum hM116 hpr) gX8_atom_X8_sum rfl hdX8_sum (by decide) (Nat.le_of_ble_eq_true rfl) dX8_atom_54 rfl (fun M120 h121 => ?_)
        have hM120 := h121
        refine j_aload_n C 1 0 dX8_atom_57 rfl rfl ?_
        refine y_sipush C dX8_atom_58 rfl ?_
        refine j_callVv C (d := 1) (As := [.int (sI 2041)]) (st := []) 78 (s_lt rfl rfl) (s_kc (c := 7) rfl rfl) (by decide) rfl (s1_X8_expect hM120 hpr 2041 (by omega) (by omega)) gX8_atom_X8_expect rfl hdX8_expect (by decide) (Nat.le_of_ble_eq_true rfl) dX8_atom_61 rfl (fun M124 h125 => ?_)
        obtain ⟨hM124, fM124⟩ := h125
        refine j_goto C 72 dX8_atom_64 (by decide) ?_
        exact hret _ _ _ dX8_atom_72 hM124
    · refine j_aload_n C 1 0 dX8_atom_20 rfl rfl ?_
      refine j_dup C dX8_atom_21 rfl ?_
      refine y_getI C 7 _ _ fX8_atom_18 rfl rfl ft_7_2 sb_7_2 hM0 dX8_atom_22 (fun a127 ea127 la127 ua127 => ?_)
      refine y_iconst C dX8_atom_25 ?_
      refine y_iadd C dX8_atom_26 ?_
      refine y_putI C 7 _ _ qX8_atom_18 rfl rfl ft_7_2 sb_7_2 hM0 (PX.w hpr rfl rfl) dX8_atom_27 (by omega) (fun M129 eM129 hM129 => ?_)
      refine j_aload_n C 1 0 dX8_atom_30 rfl rfl ?_
      refine j_iload_n C 0 2 dX8_atom_31 rfl rfl ?_
      refine j_callVv C (d := 0) (As := [.int (sI a108)]) (st := []) 78 (s_lt rfl rfl) (s_kc (c := 7) rfl rfl) (by decide) rfl (s1_X8_emit hM129 hpr a108 (by omega)) gX8_atom_X8_emit rfl hdX8_emit (by decide) (Nat.le_of_ble_eq_true rfl) dX8_atom_32 rfl (fun M131 h132 => ?_)
      have hM131 := h132
      refine j_goto C 72 dX8_atom_35 (by decide) ?_
      exact hret _ _ _ dX8_atom_72 hM131
  · exact hret _ _ _ dX8_atom_7 hM0
set_option maxHeartbeats 4000000 in
theorem s3_X8_term {l : Launch} {dC : Nat → ClassId} {dI : Nat → Nat → Nat} {ad : Nat → Nat} {cA : Nat → ClassId} {pr : Nat → Nat → Bool} {Kz : mm_M} {M0 : mm_M} (hM0 : INV pr Kz M0) (hpr : PX pr)  : Cv l 7 yX8_term wsX8_term dC dI ad cA [.ref (ad 78), .int (sI 5)] M0 (fun M' => INV pr Kz M') := by
  refine cv_of (cc := cX8_term) (maxL := 3) (lv := [(0, .ref (ad 78)), (1, .int (sI 5))]) (by decide) rfl (Nat.le_of_ble_eq_true rfl) rfl ?_
  intro p e s m args below meth c A Q C hret
  refine j_aload_n C 0 0 dX8_term_0 rfl rfl ?_
  refine j_iload_n C 1 1 dX8_term_1 rfl rfl ?_
  refine j_callVv C (d := 6) (As := [.int (sI 5)]) (st := []) 78 (s_lt rfl rfl) (s_kc (c := 7) rfl rfl) (by decide) rfl (s3_X8_atom hM0 hpr) gX8_term_X8_atom rfl hdX8_atom (by decide) (Nat.le_of_ble_eq_true rfl) dX8_term_2 rfl (fun M102 h103 => ?_)
  have hM102 := h103
  refine y_iconst C dX8_term_5 ?_
  refine j_istore_n C 2 [(2, .int (sI 0)), (0, .ref (ad 78)), (1, .int (sI 5))] dX8_term_6 rfl (by decide) rfl ?_
  have L797 : ∀ (n795 : Nat), ∀ (a798 : Int) (M799 : mm_M), (0 ≤ a798 ∧ a798 ≤ 900 ∧ (900 - a798) < (n795 : Int)) → INV pr Kz M799 → jj p l e (cn_R 7) s m args below meth c 0 0 Q 3 dC dI ad cA A M799 7 [(0, .ref (ad 78)), (1, .int (sI 5)), (2, .int (sI a798))] [] := by
    intro n795
    induction n795 with
    | zero =>
      intro a798 M799 h800 hM799
      exfalso; omega
    | succ n795 ih796 =>
      intro a798 M799 h800 hM799
      refine j_iload_n C 2 2 dX8_term_7 rfl rfl ?_
      refine y_sipush C dX8_term_8 rfl ?_
      refine y_icmp_ge C 59 dX8_term_11 (by decide) (by omega) (fun h801 => ?_) (fun h801 => ?_)
      · exact hret _ _ _ dX8_term_59 hM799
      · refine j_aload_n C 0 0 dX8_term_14 rfl rfl ?_
        refine y_getI C 7 _ _ fX8_term_22 rfl rfl ft_7_5 sb_7_5 hM799 dX8_term_15 (fun a802 ea802 la802 ua802 => ?_)
        refine y_if_ne C 59 dX8_term_18 (by decide) (by omega) (fun h804 => ?_) (fun h804 => ?_)
        · exact hret _ _ _ dX8_term_59 hM799
        · refine j_aload_n C 0 0 dX8_term_21 rfl rfl ?_
          refine j_callVi C (d := 0) (As := []) (st := []) 78 (s_lt rfl rfl) (s_kc (c := 7) rfl rfl) (by decide) rfl (s1_X8_token hM799) gX8_term_X8_token rfl hdX8_token (by decide) (Nat.le_of_ble_eq_true rfl) dX8_term_22 rfl (fun r805 M806 h807 => ?_)
          obtain ⟨a809, rfl, rfl, h808⟩ := h807
          refine y_sipush C dX8_term_25 rfl ?_
          refine y_icmp_ne C 59 dX8_term_28 (by decide) (by omega) (fun h810 => ?_) (fun h810 => ?_)
          · exact hret _ _ _ dX8_term_59 hM799
          · refine j_aload_n C 0 0 dX8_term_31 rfl rfl ?_
            refine j_dup C dX8_term_32 rfl ?_
            refine y_getI C 7 _ _ fX8_term_18 rfl rfl ft_7_2 sb_7_2 hM799 dX8_term_33 (fun a811 ea811 la811 ua811 => ?_)
            refine y_iconst C dX8_term_36 ?_
            refine y_iadd C dX8_term_37 ?_
            refine y_putI C 7 _ _ qX8_term_18 rfl rfl ft_7_2 sb_7_2 hM799 (PX.w hpr rfl rfl) dX8_term_38 (by omega) (fun M813 eM813 hM813 => ?_)
            refine j_aload_n C 0 0 dX8_term_41 rfl rfl ?_
            refine j_iload_n C 1 1 dX8_term_42 rfl rfl ?_
            refine j_callVv C (d := 6) (As := [.int (sI 5)]) (st := []) 78 (s_lt rfl rfl) (s_kc (c := 7) rfl rfl) (by decide) rfl (s3_X8_atom hM813 hpr) gX8_term_X8_atom rfl hdX8_atom (by decide) (Nat.le_of_ble_eq_true rfl) dX8_term_43 rfl (fun M815 h816 => ?_)
            have hM815 := h816
            refine j_aload_n C 0 0 dX8_term_46 rfl rfl ?_
            refine y_sipush C dX8_term_47 rfl ?_
            refine j_callVv C (d := 0) (As := [.int (sI 2042)]) (st := []) 78 (s_lt rfl rfl) (s_kc (c := 7) rfl rfl) (by decide) rfl (s1_X8_emit hM815 hpr 2042 (by omega)) gX8_term_X8_emit rfl hdX8_emit (by decide) (Nat.le_of_ble_eq_true rfl) dX8_term_50 rfl (fun M819 h820 => ?_)
            have hM819 := h820
            refine y_iinc C 2 [(2, .int (sI (a798 + 1))), (0, .ref (ad 78)), (1, .int (sI 5))] dX8_term_53 rfl (by decide) rfl ?_
            refine j_goto C 7 dX8_term_56 (by decide) ?_
            refine j_lv [1, 2, 0] rfl ?_; exact ih796 (a798 + 1) M819 (by omega) hM819
  refine j_lv [1, 2, 0] rfl ?_; exact L797 2010 0 M102 (by omega) hM102
set_option maxHeartbeats 4000000 in
theorem s3_X8_sum {l : Launch} {dC : Nat → ClassId} {dI : Nat → Nat → Nat} {ad : Nat → Nat} {cA : Nat → ClassId} {pr : Nat → Nat → Bool} {Kz : mm_M} {M0 : mm_M} (hM0 : INV pr Kz M0) (hpr : PX pr)  : Cv l 8 yX8_sum wsX8_sum dC dI ad cA [.ref (ad 78), .int (sI 5)] M0 (fun M' => INV pr Kz M') := by
  refine cv_of (cc := cX8_sum) (maxL := 4) (lv := [(0, .ref (ad 78)), (1, .int (sI 5))]) (by decide) rfl (Nat.le_of_ble_eq_true rfl) rfl ?_
  intro p e s m args below meth c A Q C hret
  refine j_aload_n C 0 0 dX8_sum_0 rfl rfl ?_
  refine j_iload_n C 1 1 dX8_sum_1 rfl rfl ?_
  refine j_callVv C (d := 7) (As := [.int (sI 5)]) (st := []) 78 (s_lt rfl rfl) (s_kc (c := 7) rfl rfl) (by decide) rfl (s3_X8_term hM0 hpr) gX8_sum_X8_term rfl hdX8_term (by decide) (Nat.le_of_ble_eq_true rfl) dX8_sum_2 rfl (fun M102 h103 => ?_)
  have hM102 := h103
  refine j_aload_n C 0 0 dX8_sum_5 rfl rfl ?_
  refine j_callVi C (d := 0) (As := []) (st := []) 78 (s_lt rfl rfl) (s_kc (c := 7) rfl rfl) (by decide) rfl (s1_X8_token hM102) gX8_sum_X8_token rfl hdX8_token (by decide) (Nat.le_of_ble_eq_true rfl) dX8_sum_6 rfl (fun r105 M106 h107 => ?_)
  obtain ⟨a109, rfl, rfl, h108⟩ := h107
  refine j_istore_n C 2 [(2, .int (sI a109)), (0, .ref (ad 78)), (1, .int (sI 5))] dX8_sum_9 rfl (by decide) rfl ?_
  refine y_iconst C dX8_sum_10 ?_
  refine j_istore_n C 3 [(3, .int (sI 0)), (2, .int (sI a109)), (0, .ref (ad 78)), (1, .int (sI 5))] dX8_sum_11 rfl (by decide) rfl ?_
  have L1342 : ∀ (n1340 : Nat), ∀ (a1343 : Int) (a1344 : Int) (M1345 : mm_M), ((-2147483648) ≤ a1343 ∧ a1343 ≤ 2147483647 ∧ 0 ≤ a1344 ∧ a1344 ≤ 900 ∧ (a1343 = 3001 ∨ (M1345.1 78 2).toInt < 901) ∧ (900 - a1344) < (n1340 : Int)) → INV pr Kz M1345 → jj p l e (cn_R 8) s m args below meth c 0 0 Q 4 dC dI ad cA A M1345 12 [(0, .ref (ad 78)), (1, .int (sI 5)), (2, .int (sI a1343)), (3, .int (sI a1344))] [] := by
    intro n1340
    induction n1340 with
    | zero =>
      intro a1343 a1344 M1345 h1346 hM1345
      exfalso; omega
    | succ n1340 ih1341 =>
      intro a1343 a1344 M1345 h1346 hM1345
      refine j_iload_n C 3 3 dX8_sum_12 rfl rfl ?_
      refine y_sipush C dX8_sum_13 rfl ?_
      refine y_icmp_ge C 71 dX8_sum_16 (by decide) (by omega) (fun h1347 => ?_) (fun h1347 => ?_)
      · exact hret _ _ _ dX8_sum_71 hM1345
      · refine j_aload_n C 0 0 dX8_sum_19 rfl rfl ?_
        refine y_getI C 7 _ _ fX8_sum_22 rfl rfl ft_7_5 sb_7_5 hM1345 dX8_sum_20 (fun a1348 ea1348 la1348 ua1348 => ?_)
        refine y_if_ne C 71 dX8_sum_23 (by decide) (by omega) (fun h1350 => ?_) (fun h1350 => ?_)
        · exact hret _ _ _ dX8_sum_71 hM1345
        · refine j_iload_n C 2 2 dX8_sum_26 rfl rfl ?_
          refine y_sipush C dX8_sum_27 rfl ?_
          refine y_icmp_eq C 40 dX8_sum_30 (by decide) (by omega) (fun h1351 => ?_) (fun h1351 => ?_)
          · refine j_aload_n C 0 0 dX8_sum_40 rfl rfl ?_
            refine j_dup C dX8_sum_41 rfl ?_
            refine y_getI C 7 _ _ fX8_sum_18 rfl rfl ft_7_2 sb_7_2 hM1345 dX8_sum_42 (fun a1352 ea1352 la1352 ua1352 => ?_)
            refine y_iconst C dX8_sum_45 ?_
            refine y_iadd C dX8_sum_46 ?_
            refine y_putI C 7 _ _ qX8_sum_18 rfl rfl ft_7_2 sb_7_2 hM1345 (PX.w hpr rfl rfl) dX8_sum_47 (by omega) (fun M1354 eM1354 hM1354 => ?_)
            refine j_aload_n C 0 0 dX8_sum_50 rfl rfl ?_
            refine j_iload_n C 1 1 dX8_sum_51 rfl rfl ?_
            refine j_callVv C (d := 7) (As := [.int (sI 5)]) (st := []) 78 (s_lt rfl rfl) (s_kc (c := 7) rfl rfl) (by decide) rfl (s3_X8_term hM1354 hpr) gX8_sum_X8_term rfl hdX8_term (by decide) (Nat.le_of_ble_eq_true rfl) dX8_sum_52 rfl (fun M1356 h1357 => ?_)
            have hM1356 := h1357
            refine j_aload_n C 0 0 dX8_sum_55 rfl rfl ?_
            refine j_iload_n C 2 2 dX8_sum_56 rfl rfl ?_
            refine j_callVv C (d := 0) (As := [.int (sI a1343)]) (st := []) 78 (s_lt rfl rfl) (s_kc (c := 7) rfl rfl) (by decide) rfl (s1_X8_emit hM1356 hpr a1343 (by omega)) gX8_sum_X8_emit rfl hdX8_emit (by decide) (Nat.le_of_ble_eq_true rfl) dX8_sum_57 rfl (fun M1360 h1361 => ?_)
            have hM1360 := h1361
            refine j_aload_n C 0 0 dX8_sum_60 rfl rfl ?_
            refine j_callVi C (d := 0) (As := []) (st := []) 78 (s_lt rfl rfl) (s_kc (c := 7) rfl rfl) (by decide) rfl (s1_X8_token hM1360) gX8_sum_X8_token rfl hdX8_token (by decide) (Nat.le_of_ble_eq_true rfl) dX8_sum_61 rfl (fun r1363 M1364 h1365 => ?_)
            obtain ⟨a1367, rfl, rfl, h1366⟩ := h1365
            refine j_istore_n C 2 [(2, .int (sI a1367)), (0, .ref (ad 78)), (1, .int (sI 5)), (3, .int (sI a1344))] dX8_sum_64 rfl (by decide) rfl ?_
            refine y_iinc C 3 [(3, .int (sI (a1344 + 1))), (2, .int (sI a1367)), (0, .ref (ad 78)), (1, .int (sI 5))] dX8_sum_65 rfl (by decide) rfl ?_
            refine j_goto C 12 dX8_sum_68 (by decide) ?_
            refine j_lv [2, 3, 1, 0] rfl ?_; exact ih1341 a1367 (a1344 + 1) M1360 (by omega) hM1360
          · refine j_iload_n C 2 2 dX8_sum_33 rfl rfl ?_
            refine y_sipush C dX8_sum_34 rfl ?_
            refine y_icmp_ne C 71 dX8_sum_37 (by decide) (by omega) (fun h1368 => ?_) (fun h1368 => ?_)
            · exact hret _ _ _ dX8_sum_71 hM1345
            · refine j_aload_n C 0 0 dX8_sum_40 rfl rfl ?_
              refine j_dup C dX8_sum_41 rfl ?_
              refine y_getI C 7 _ _ fX8_sum_18 rfl rfl ft_7_2 sb_7_2 hM1345 dX8_sum_42 (fun a1369 ea1369 la1369 ua1369 => ?_)
              refine y_iconst C dX8_sum_45 ?_
              refine y_iadd C dX8_sum_46 ?_
              refine y_putI C 7 _ _ qX8_sum_18 rfl rfl ft_7_2 sb_7_2 hM1345 (PX.w hpr rfl rfl) dX8_sum_47 (by omega) (fun M1371 eM1371 hM1371 => ?_)
              refine j_aload_n C 0 0 dX8_sum_50 rfl rfl ?_
              refine j_iload_n C 1 1 dX8_sum_51 rfl rfl ?_
              refine j_callVv C (d := 7) (As := [.int (sI 5)]) (st := []) 78 (s_lt rfl rfl) (s_kc (c := 7) rfl rfl) (by decide) rfl (s3_X8_term hM1371 hpr) gX8_sum_X8_term rfl hdX8_term (by decide) (Nat.le_of_ble_eq_true rfl) dX8_sum_52 rfl (fun M1373 h1374 => ?_)
              have hM1373 := h1374
              refine j_aload_n C 0 0 dX8_sum_55 rfl rfl ?_
              refine j_iload_n C 2 2 dX8_sum_56 rfl rfl ?_
              refine j_callVv C (d := 0) (As := [.int (sI a1343)]) (st := []) 78 (s_lt rfl rfl) (s_kc (c := 7) rfl rfl) (by decide) rfl (s1_X8_emit hM1373 hpr a1343 (by omega)) gX8_sum_X8_emit rfl hdX8_emit (by decide) (Nat.le_of_ble_eq_true rfl) dX8_sum_57 rfl (fun M1377 h1378 => ?_)
              have hM1377 := h1378
              refine j_aload_n C 0 0 dX8_sum_60 rfl rfl ?_
              refine j_callVi C (d := 0) (As := []) (st := []) 78 (s_lt rfl rfl) (s_kc (c := 7) rfl rfl) (by decide) rfl (s1_X8_token hM1377) gX8_sum_X8_token rfl hdX8_token (by decide) (Nat.le_of_ble_eq_true rfl) dX8_sum_61 rfl (fun r1380 M1381 h1382 => ?_)
              obtain ⟨a1384, rfl, rfl, h1383⟩ := h1382
              refine j_istore_n C 2 [(2, .int (sI a1384)), (0, .ref (ad 78)), (1, .int (sI 5)), (3, .int (sI a1344))] dX8_sum_64 rfl (by decide) rfl ?_
              refine y_iinc C 3 [(3, .int (sI (a1344 + 1))), (2, .int (sI a1384)), (0, .ref (ad 78)), (1, .int (sI 5))] dX8_sum_65 rfl (by decide) rfl ?_
              refine j_goto C 12 dX8_sum_68 (by decide) ?_
              refine j_lv [2, 3, 1, 0] rfl ?_; exact ih1341 a1384 (a1344 + 1) M1377 (by omega) hM1377
  refine j_lv [2, 3, 1, 0] rfl ?_; exact L1342 4294967306 a109 0 M102 (by omega) hM102
set_option maxHeartbeats 4000000 in
theorem s4_X8_atom {l : Launch} {dC : Nat → ClassId} {dI : Nat → Nat → Nat} {ad : Nat → Nat} {cA : Nat → ClassId} {pr : Nat → Nat → Bool} {Kz : mm_M} {M0 : mm_M} (hM0 : INV pr Kz M0) (hpr : PX pr)  : Cv l 9 yX8_atom wsX8_atom dC dI ad cA [.ref (ad 78), .int (sI 4)] M0 (fun M' => INV pr Kz M') := by
  refine cv_of (cc := cX8_atom) (maxL := 3) (lv := [(0, .ref (ad 78)), (1, .int (sI 4))]) (by decide) rfl (Nat.le_of_ble_eq_true rfl) rfl ?_
  intro p e s m args below meth c A Q C hret
  refine j_aload_n C 0 0 dX8_atom_0 rfl rfl ?_
  refine y_getI C 7 _ _ fX8_atom_22 rfl rfl ft_7_5 sb_7_5 hM0 dX8_atom_1 (fun a101 ea101 la101 ua101 => ?_)
  refine y_if_eq C 8 dX8_atom_4 (by decide) (by omega) (fun h103 => ?_) (fun h103 => ?_)
  · refine j_aload_n C 0 0 dX8_atom_8 rfl rfl ?_
    refine j_callVi C (d := 0) (As := []) (st := []) 78 (s_lt rfl rfl) (s_kc (c := 7) rfl rfl) (by decide) rfl (s1_X8_token hM0) gX8_atom_X8_token rfl hdX8_token (by decide) (Nat.le_of_ble_eq_true rfl) dX8_atom_9 rfl (fun r104 M105 h106 => ?_)
    obtain ⟨a108, rfl, rfl, h107⟩ := h106
    refine j_istore_n C 2 [(2, .int (sI a108)), (0, .ref (ad 78)), (1, .int (sI 4))] dX8_atom_12 rfl (by decide) rfl ?_
    refine j_iload_n C 0 2 dX8_atom_13 rfl rfl ?_
    refine y_sipush C dX8_atom_14 rfl ?_
    refine y_icmp_ge C 38 dX8_atom_17 (by decide) (by omega) (fun h109 => ?_) (fun h109 => ?_)
    · refine j_iload_n C 0 2 dX8_atom_38 rfl rfl ?_
      refine y_sipush C dX8_atom_39 rfl ?_
      refine y_icmp_ne C 67 dX8_atom_42 (by decide) (by omega) (fun h110 => ?_) (fun h110 => ?_)
      · refine j_aload_n C 1 0 dX8_atom_67 rfl rfl ?_
        refine y_iconst C dX8_atom_68 ?_
        refine j_callVv C (d := 0) (As := [.int (sI 2)]) (st := []) 78 (s_lt rfl rfl) (s_kc (c := 7) rfl rfl) (by decide) rfl (s1_X8_fail hM0 hpr 2 (by omega) (by omega)) gX8_atom_X8_fail rfl hdX8_fail (by decide) (Nat.le_of_ble_eq_true rfl) dX8_atom_69 rfl (fun M112 h113 => ?_)
        obtain ⟨hM112, fM112, h114⟩ := h113
        exact hret _ _ _ dX8_atom_72 hM112
      · refine j_aload_n C 1 0 dX8_atom_45 rfl rfl ?_
        refine j_iload_n C 2 1 dX8_atom_46 rfl rfl ?_
        refine j_callVv C (d := 0) (As := [.int (sI 4)]) (st := []) 78 (s_lt rfl rfl) (s_kc (c := 7) rfl rfl) (by decide) rfl (s5_X8_goDeeper hM0 hpr (by omega)) gX8_atom_X8_goDeeper rfl hdX8_goDeeper (by decide) (Nat.le_of_ble_eq_true rfl) dX8_atom_47 rfl (fun M116 h117 => ?_)
        obtain ⟨hM116, fM116, h118⟩ := h117
        refine j_aload_n C 1 0 dX8_atom_50 rfl rfl ?_
        refine j_iload_n C 2 1 dX8_atom_51 rfl rfl ?_
        refine y_iconst C dX8_atom_52 ?_
        refine y_iadd C dX8_atom_53 ?_
        refine j_callVv C (d := 8) (As := [.int (sI (4 + 1))]) (st := []) 78 (s_lt rfl rfl) (s_kc (c := 7) rfl rfl) (by decide) rfl (s3_X8_sum hM116 hpr) gX8_atom_X8_sum rfl hdX8_sum (by decide) (Nat.le_of_ble_eq_true rfl) dX8_atom_54 rfl (fun M120 h121 => ?_)
        have hM120 := h121
        refine j_aload_n C 1 0 dX8_atom_57 rfl rfl ?_
        refine y_sipush C dX8_atom_58 rfl ?_
        refine j_callVv C (d := 1) (As := [.int (sI 2041)]) (st := []) 78 (s_lt rfl rfl) (s_kc (c := 7) rfl rfl) (by decide) rfl (s1_X8_expect hM120 hpr 2041 (by omega) (by omega)) gX8_atom_X8_expect rfl hdX8_expect (by decide) (Nat.le_of_ble_eq_true rfl) dX8_atom_61 rfl (fun M124 h125 => ?_)
        obtain ⟨hM124, fM124⟩ := h125
        refine j_goto C 72 dX8_atom_64 (by decide) ?_
        exact hret _ _ _ dX8_atom_72 hM124
    · refine j_aload_n C 1 0 dX8_atom_20 rfl rfl ?_
      refine j_dup C dX8_atom_21 rfl ?_
      refine y_getI C 7 _ _ fX8_atom_18 rfl rfl ft_7_2 sb_7_2 hM0 dX8_atom_22 (fun a127 ea127 la127 ua127 => ?_)
      refine y_iconst C dX8_atom_25 ?_
      refine y_iadd C dX8_atom_26 ?_
      refine y_putI C 7 _ _ qX8_atom_18 rfl rfl ft_7_2 sb_7_2 hM0 (PX.w hpr rfl rfl) dX8_atom_27 (by omega) (fun M129 eM129 hM129 => ?_)
      refine j_aload_n C 1 0 dX8_atom_30 rfl rfl ?_
      refine j_iload_n C 0 2 dX8_atom_31 rfl rfl ?_
      refine j_callVv C (d := 0) (As := [.int (sI a108)]) (st := []) 78 (s_lt rfl rfl) (s_kc (c := 7) rfl rfl) (by decide) rfl (s1_X8_emit hM129 hpr a108 (by omega)) gX8_atom_X8_emit rfl hdX8_emit (by decide) (Nat.le_of_ble_eq_true rfl) dX8_atom_32 rfl (fun M131 h132 => ?_)
      have hM131 := h132
      refine j_goto C 72 dX8_atom_35 (by decide) ?_
      exact hret _ _ _ dX8_atom_72 hM131
  · exact hret _ _ _ dX8_atom_7 hM0
set_option maxHeartbeats 4000000 in
theorem s4_X8_term {l : Launch} {dC : Nat → ClassId} {dI : Nat → Nat → Nat} {ad : Nat → Nat} {cA : Nat → ClassId} {pr : Nat → Nat → Bool} {Kz : mm_M} {M0 : mm_M} (hM0 : INV pr Kz M0) (hpr : PX pr)  : Cv l 10 yX8_term wsX8_term dC dI ad cA [.ref (ad 78), .int (sI 4)] M0 (fun M' => INV pr Kz M') := by
  refine cv_of (cc := cX8_term) (maxL := 3) (lv := [(0, .ref (ad 78)), (1, .int (sI 4))]) (by decide) rfl (Nat.le_of_ble_eq_true rfl) rfl ?_
  intro p e s m args below meth c A Q C hret
  refine j_aload_n C 0 0 dX8_term_0 rfl rfl ?_
  refine j_iload_n C 1 1 dX8_term_1 rfl rfl ?_
  refine j_callVv C (d := 9) (As := [.int (sI 4)]) (st := []) 78 (s_lt rfl rfl) (s_kc (c := 7) rfl rfl) (by decide) rfl (s4_X8_atom hM0 hpr) gX8_term_X8_atom rfl hdX8_atom (by decide) (Nat.le_of_ble_eq_true rfl) dX8_term_2 rfl (fun M102 h103 => ?_)
  have hM102 := h103
  refine y_iconst C dX8_term_5 ?_
  refine j_istore_n C 2 [(2, .int (sI 0)), (0, .ref (ad 78)), (1, .int (sI 4))] dX8_term_6 rfl (by decide) rfl ?_
  have L797 : ∀ (n795 : Nat), ∀ (a798 : Int) (M799 : mm_M), (0 ≤ a798 ∧ a798 ≤ 900 ∧ (900 - a798) < (n795 : Int)) → INV pr Kz M799 → jj p l e (cn_R 10) s m args below meth c 0 0 Q 3 dC dI ad cA A M799 7 [(0, .ref (ad 78)), (1, .int (sI 4)), (2, .int (sI a798))] [] := by
    intro n795
    induction n795 with
    | zero =>
      intro a798 M799 h800 hM799
      exfalso; omega
    | succ n795 ih796 =>
      intro a798 M799 h800 hM799
      refine j_iload_n C 2 2 dX8_term_7 rfl rfl ?_
      refine y_sipush C dX8_term_8 rfl ?_
      refine y_icmp_ge C 59 dX8_term_11 (by decide) (by omega) (fun h801 => ?_) (fun h801 => ?_)
      · exact hret _ _ _ dX8_term_59 hM799
      · refine j_aload_n C 0 0 dX8_term_14 rfl rfl ?_
        refine y_getI C 7 _ _ fX8_term_22 rfl rfl ft_7_5 sb_7_5 hM799 dX8_term_15 (fun a802 ea802 la802 ua802 => ?_)
        refine y_if_ne C 59 dX8_term_18 (by decide) (by omega) (fun h804 => ?_) (fun h804 => ?_)
        · exact hret _ _ _ dX8_term_59 hM799
        · refine j_aload_n C 0 0 dX8_term_21 rfl rfl ?_
          refine j_callVi C (d := 0) (As := []) (st := []) 78 (s_lt rfl rfl) (s_kc (c := 7) rfl rfl) (by decide) rfl (s1_X8_token hM799) gX8_term_X8_token rfl hdX8_token (by decide) (Nat.le_of_ble_eq_true rfl) dX8_term_22 rfl (fun r805 M806 h807 => ?_)
          obtain ⟨a809, rfl, rfl, h808⟩ := h807
          refine y_sipush C dX8_term_25 rfl ?_
          refine y_icmp_ne C 59 dX8_term_28 (by decide) (by omega) (fun h810 => ?_) (fun h810 => ?_)
          · exact hret _ _ _ dX8_term_59 hM799
          · refine j_aload_n C 0 0 dX8_term_31 rfl rfl ?_
            refine j_dup C dX8_term_32 rfl ?_
            refine y_getI C 7 _ _ fX8_term_18 rfl rfl ft_7_2 sb_7_2 hM799 dX8_term_33 (fun a811 ea811 la811 ua811 => ?_)
            refine y_iconst C dX8_term_36 ?_
            refine y_iadd C dX8_term_37 ?_
            refine y_putI C 7 _ _ qX8_term_18 rfl rfl ft_7_2 sb_7_2 hM799 (PX.w hpr rfl rfl) dX8_term_38 (by omega) (fun M813 eM813 hM813 => ?_)
            refine j_aload_n C 0 0 dX8_term_41 rfl rfl ?_
            refine j_iload_n C 1 1 dX8_term_42 rfl rfl ?_
            refine j_callVv C (d := 9) (As := [.int (sI 4)]) (st := []) 78 (s_lt rfl rfl) (s_kc (c := 7) rfl rfl) (by decide) rfl (s4_X8_atom hM813 hpr) gX8_term_X8_atom rfl hdX8_atom (by decide) (Nat.le_of_ble_eq_true rfl) dX8_term_43 rfl (fun M815 h816 => ?_)
            have hM815 := h816
            refine j_aload_n C 0 0 dX8_term_46 rfl rfl ?_
            refine y_sipush C dX8_term_47 rfl ?_
            refine j_callVv C (d := 0) (As := [.int (sI 2042)]) (st := []) 78 (s_lt rfl rfl) (s_kc (c := 7) rfl rfl) (by decide) rfl (s1_X8_emit hM815 hpr 2042 (by omega)) gX8_term_X8_emit rfl hdX8_emit (by decide) (Nat.le_of_ble_eq_true rfl) dX8_term_50 rfl (fun M819 h820 => ?_)
            have hM819 := h820
            refine y_iinc C 2 [(2, .int (sI (a798 + 1))), (0, .ref (ad 78)), (1, .int (sI 4))] dX8_term_53 rfl (by decide) rfl ?_
            refine j_goto C 7 dX8_term_56 (by decide) ?_
            refine j_lv [1, 2, 0] rfl ?_; exact ih796 (a798 + 1) M819 (by omega) hM819
  refine j_lv [1, 2, 0] rfl ?_; exact L797 2010 0 M102 (by omega) hM102
set_option maxHeartbeats 4000000 in
theorem s4_X8_sum {l : Launch} {dC : Nat → ClassId} {dI : Nat → Nat → Nat} {ad : Nat → Nat} {cA : Nat → ClassId} {pr : Nat → Nat → Bool} {Kz : mm_M} {M0 : mm_M} (hM0 : INV pr Kz M0) (hpr : PX pr)  : Cv l 11 yX8_sum wsX8_sum dC dI ad cA [.ref (ad 78), .int (sI 4)] M0 (fun M' => INV pr Kz M') := by
  refine cv_of (cc := cX8_sum) (maxL := 4) (lv := [(0, .ref (ad 78)), (1, .int (sI 4))]) (by decide) rfl (Nat.le_of_ble_eq_true rfl) rfl ?_
  intro p e s m args below meth c A Q C hret
  refine j_aload_n C 0 0 dX8_sum_0 rfl rfl ?_
  refine j_iload_n C 1 1 dX8_sum_1 rfl rfl ?_
  refine j_callVv C (d := 10) (As := [.int (sI 4)]) (st := []) 78 (s_lt rfl rfl) (s_kc (c := 7) rfl rfl) (by decide) rfl (s4_X8_term hM0 hpr) gX8_sum_X8_term rfl hdX8_term (by decide) (Nat.le_of_ble_eq_true rfl) dX8_sum_2 rfl (fun M102 h103 => ?_)
  have hM102 := h103
  refine j_aload_n C 0 0 dX8_sum_5 rfl rfl ?_
  refine j_callVi C (d := 0) (As := []) (st := []) 78 (s_lt rfl rfl) (s_kc (c := 7) rfl rfl) (by decide) rfl (s1_X8_token hM102) gX8_sum_X8_token rfl hdX8_token (by decide) (Nat.le_of_ble_eq_true rfl) dX8_sum_6 rfl (fun r105 M106 h107 => ?_)
  obtain ⟨a109, rfl, rfl, h108⟩ := h107
  refine j_istore_n C 2 [(2, .int (sI a109)), (0, .ref (ad 78)), (1, .int (sI 4))] dX8_sum_9 rfl (by decide) rfl ?_
  refine y_iconst C dX8_sum_10 ?_
  refine j_istore_n C 3 [(3, .int (sI 0)), (2, .int (sI a109)), (0, .ref (ad 78)), (1, .int (sI 4))] dX8_sum_11 rfl (by decide) rfl ?_
  have L1342 : ∀ (n1340 : Nat), ∀ (a1343 : Int) (a1344 : Int) (M1345 : mm_M), ((-2147483648) ≤ a1343 ∧ a1343 ≤ 2147483647 ∧ 0 ≤ a1344 ∧ a1344 ≤ 900 ∧ (a1343 = 3001 ∨ (M1345.1 78 2).toInt < 901) ∧ (900 - a1344) < (n1340 : Int)) → INV pr Kz M1345 → jj p l e (cn_R 11) s m args below meth c 0 0 Q 4 dC dI ad cA A M1345 12 [(0, .ref (ad 78)), (1, .int (sI 4)), (2, .int (sI a1343)), (3, .int (sI a1344))] [] := by
    intro n1340
    induction n1340 with
    | zero =>
      intro a1343 a1344 M1345 h1346 hM1345
      exfalso; omega
    | succ n1340 ih1341 =>
      intro a1343 a1344 M1345 h1346 hM1345
      refine j_iload_n C 3 3 dX8_sum_12 rfl rfl ?_
      refine y_sipush C dX8_sum_13 rfl ?_
      refine y_icmp_ge C 71 dX8_sum_16 (by decide) (by omega) (fun h1347 => ?_) (fun h1347 => ?_)
      · exact hret _ _ _ dX8_sum_71 hM1345
      · refine j_aload_n C 0 0 dX8_sum_19 rfl rfl ?_
        refine y_getI C 7 _ _ fX8_sum_22 rfl rfl ft_7_5 sb_7_5 hM1345 dX8_sum_20 (fun a1348 ea1348 la1348 ua1348 => ?_)
        refine y_if_ne C 71 dX8_sum_23 (by decide) (by omega) (fun h1350 => ?_) (fun h1350 => ?_)
        · exact hret _ _ _ dX8_sum_71 hM1345
        · refine j_iload_n C 2 2 dX8_sum_26 rfl rfl ?_
          refine y_sipush C dX8_sum_27 rfl ?_
          refine y_icmp_eq C 40 dX8_sum_30 (by decide) (by omega) (fun h1351 => ?_) (fun h1351 => ?_)
          · refine j_aload_n C 0 0 dX8_sum_40 rfl rfl ?_
            refine j_dup C dX8_sum_41 rfl ?_
            refine y_getI C 7 _ _ fX8_sum_18 rfl rfl ft_7_2 sb_7_2 hM1345 dX8_sum_42 (fun a1352 ea1352 la1352 ua1352 => ?_)
            refine y_iconst C dX8_sum_45 ?_
            refine y_iadd C dX8_sum_46 ?_
            refine y_putI C 7 _ _ qX8_sum_18 rfl rfl ft_7_2 sb_7_2 hM1345 (PX.w hpr rfl rfl) dX8_sum_47 (by omega) (fun M1354 eM1354 hM1354 => ?_)
            refine j_aload_n C 0 0 dX8_sum_50 rfl rfl ?_
            refine j_iload_n C 1 1 dX8_sum_51 rfl rfl ?_
            refine j_callVv C (d := 10) (As := [.int (sI 4)]) (st := []) 78 (s_lt rfl rfl) (s_kc (c := 7) rfl rfl) (by decide) rfl (s4_X8_term hM1354 hpr) gX8_sum_X8_term rfl hdX8_term (by decide) (Nat.le_of_ble_eq_true rfl) dX8_sum_52 rfl (fun M1356 h1357 => ?_)
            have hM1356 := h1357
            refine j_aload_n C 0 0 dX8_sum_55 rfl rfl ?_
            refine j_iload_n C 2 2 dX8_sum_56 rfl rfl ?_
            refine j_callVv C (d := 0) (As := [.int (sI a1343)]) (st := []) 78 (s_lt rfl rfl) (s_kc (c := 7) rfl rfl) (by decide) rfl (s1_X8_emit hM1356 hpr a1343 (by omega)) gX8_sum_X8_emit rfl hdX8_emit (by decide) (Nat.le_of_ble_eq_true rfl) dX8_sum_57 rfl (fun M1360 h1361 => ?_)
            have hM1360 := h1361
            refine j_aload_n C 0 0 dX8_sum_60 rfl rfl ?_
            refine j_callVi C (d := 0) (As := []) (st := []) 78 (s_lt rfl rfl) (s_kc (c := 7) rfl rfl) (by decide) rfl (s1_X8_token hM1360) gX8_sum_X8_token rfl hdX8_token (by decide) (Nat.le_of_ble_eq_true rfl) dX8_sum_61 rfl (fun r1363 M1364 h1365 => ?_)
            obtain ⟨a1367, rfl, rfl, h1366⟩ := h1365
            refine j_istore_n C 2 [(2, .int (sI a1367)), (0, .ref (ad 78)), (1, .int (sI 4)), (3, .int (sI a1344))] dX8_sum_64 rfl (by decide) rfl ?_
            refine y_iinc C 3 [(3, .int (sI (a1344 + 1))), (2, .int (sI a1367)), (0, .ref (ad 78)), (1, .int (sI 4))] dX8_sum_65 rfl (by decide) rfl ?_
            refine j_goto C 12 dX8_sum_68 (by decide) ?_
            refine j_lv [2, 3, 1, 0] rfl ?_; exact ih1341 a1367 (a1344 + 1) M1360 (by omega) hM1360
          · refine j_iload_n C 2 2 dX8_sum_33 rfl rfl ?_
            refine y_sipush C dX8_sum_34 rfl ?_
            refine y_icmp_ne C 71 dX8_sum_37 (by decide) (by omega) (fun h1368 => ?_) (fun h1368 => ?_)
            · exact hret _ _ _ dX8_sum_71 hM1345
            · refine j_aload_n C 0 0 dX8_sum_40 rfl rfl ?_
              refine j_dup C dX8_sum_41 rfl ?_
              refine y_getI C 7 _ _ fX8_sum_18 rfl rfl ft_7_2 sb_7_2 hM1345 dX8_sum_42 (fun a1369 ea1369 la1369 ua1369 => ?_)
              refine y_iconst C dX8_sum_45 ?_
              refine y_iadd C dX8_sum_46 ?_
              refine y_putI C 7 _ _ qX8_sum_18 rfl rfl ft_7_2 sb_7_2 hM1345 (PX.w hpr rfl rfl) dX8_sum_47 (by omega) (fun M1371 eM1371 hM1371 => ?_)
              refine j_aload_n C 0 0 dX8_sum_50 rfl rfl ?_
              refine j_iload_n C 1 1 dX8_sum_51 rfl rfl ?_
              refine j_callVv C (d := 10) (As := [.int (sI 4)]) (st := []) 78 (s_lt rfl rfl) (s_kc (c := 7) rfl rfl) (by decide) rfl (s4_X8_term hM1371 hpr) gX8_sum_X8_term rfl hdX8_term (by decide) (Nat.le_of_ble_eq_true rfl) dX8_sum_52 rfl (fun M1373 h1374 => ?_)
              have hM1373 := h1374
              refine j_aload_n C 0 0 dX8_sum_55 rfl rfl ?_
              refine j_iload_n C 2 2 dX8_sum_56 rfl rfl ?_
              refine j_callVv C (d := 0) (As := [.int (sI a1343)]) (st := []) 78 (s_lt rfl rfl) (s_kc (c := 7) rfl rfl) (by decide) rfl (s1_X8_emit hM1373 hpr a1343 (by omega)) gX8_sum_X8_emit rfl hdX8_emit (by decide) (Nat.le_of_ble_eq_true rfl) dX8_sum_57 rfl (fun M1377 h1378 => ?_)
              have hM1377 := h1378
              refine j_aload_n C 0 0 dX8_sum_60 rfl rfl ?_
              refine j_callVi C (d := 0) (As := []) (st := []) 78 (s_lt rfl rfl) (s_kc (c := 7) rfl rfl) (by decide) rfl (s1_X8_token hM1377) gX8_sum_X8_token rfl hdX8_token (by decide) (Nat.le_of_ble_eq_true rfl) dX8_sum_61 rfl (fun r1380 M1381 h1382 => ?_)
              obtain ⟨a1384, rfl, rfl, h1383⟩ := h1382
              refine j_istore_n C 2 [(2, .int (sI a1384)), (0, .ref (ad 78)), (1, .int (sI 4)), (3, .int (sI a1344))] dX8_sum_64 rfl (by decide) rfl ?_
              refine y_iinc C 3 [(3, .int (sI (a1344 + 1))), (2, .int (sI a1384)), (0, .ref (ad 78)), (1, .int (sI 4))] dX8_sum_65 rfl (by decide) rfl ?_
              refine j_goto C 12 dX8_sum_68 (by decide) ?_
              refine j_lv [2, 3, 1, 0] rfl ?_; exact ih1341 a1384 (a1344 + 1) M1377 (by omega) hM1377
  refine j_lv [2, 3, 1, 0] rfl ?_; exact L1342 4294967306 a109 0 M102 (by omega) hM102
set_option maxHeartbeats 4000000 in
theorem s5_X8_atom {l : Launch} {dC : Nat → ClassId} {dI : Nat → Nat → Nat} {ad : Nat → Nat} {cA : Nat → ClassId} {pr : Nat → Nat → Bool} {Kz : mm_M} {M0 : mm_M} (hM0 : INV pr Kz M0) (hpr : PX pr)  : Cv l 12 yX8_atom wsX8_atom dC dI ad cA [.ref (ad 78), .int (sI 3)] M0 (fun M' => INV pr Kz M') := by
  refine cv_of (cc := cX8_atom) (maxL := 3) (lv := [(0, .ref (ad 78)), (1, .int (sI 3))]) (by decide) rfl (Nat.le_of_ble_eq_true rfl) rfl ?_
  intro p e s m args below meth c A Q C hret
  refine j_aload_n C 0 0 dX8_atom_0 rfl rfl ?_
  refine y_getI C 7 _ _ fX8_atom_22 rfl rfl ft_7_5 sb_7_5 hM0 dX8_atom_1 (fun a101 ea101 la101 ua101 => ?_)
  refine y_if_eq C 8 dX8_atom_4 (by decide) (by omega) (fun h103 => ?_) (fun h103 => ?_)
  · refine j_aload_n C 0 0 dX8_atom_8 rfl rfl ?_
    refine j_callVi C (d := 0) (As := []) (st := []) 78 (s_lt rfl rfl) (s_kc (c := 7) rfl rfl) (by decide) rfl (s1_X8_token hM0) gX8_atom_X8_token rfl hdX8_token (by decide) (Nat.le_of_ble_eq_true rfl) dX8_atom_9 rfl (fun r104 M105 h106 => ?_)
    obtain ⟨a108, rfl, rfl, h107⟩ := h106
    refine j_istore_n C 2 [(2, .int (sI a108)), (0, .ref (ad 78)), (1, .int (sI 3))] dX8_atom_12 rfl (by decide) rfl ?_
    refine j_iload_n C 0 2 dX8_atom_13 rfl rfl ?_
    refine y_sipush C dX8_atom_14 rfl ?_
    refine y_icmp_ge C 38 dX8_atom_17 (by decide) (by omega) (fun h109 => ?_) (fun h109 => ?_)
    · refine j_iload_n C 0 2 dX8_atom_38 rfl rfl ?_
      refine y_sipush C dX8_atom_39 rfl ?_
      refine y_icmp_ne C 67 dX8_atom_42 (by decide) (by omega) (fun h110 => ?_) (fun h110 => ?_)
      · refine j_aload_n C 1 0 dX8_atom_67 rfl rfl ?_
        refine y_iconst C dX8_atom_68 ?_
        refine j_callVv C (d := 0) (As := [.int (sI 2)]) (st := []) 78 (s_lt rfl rfl) (s_kc (c := 7) rfl rfl) (by decide) rfl (s1_X8_fail hM0 hpr 2 (by omega) (by omega)) gX8_atom_X8_fail rfl hdX8_fail (by decide) (Nat.le_of_ble_eq_true rfl) dX8_atom_69 rfl (fun M112 h113 => ?_)
        obtain ⟨hM112, fM112, h114⟩ := h113
        exact hret _ _ _ dX8_atom_72 hM112
      · refine j_aload_n C 1 0 dX8_atom_45 rfl rfl ?_
        refine j_iload_n C 2 1 dX8_atom_46 rfl rfl ?_
        refine j_callVv C (d := 0) (As := [.int (sI 3)]) (st := []) 78 (s_lt rfl rfl) (s_kc (c := 7) rfl rfl) (by decide) rfl (s4_X8_goDeeper hM0 hpr (by omega)) gX8_atom_X8_goDeeper rfl hdX8_goDeeper (by decide) (Nat.le_of_ble_eq_true rfl) dX8_atom_47 rfl (fun M116 h117 => ?_)
        obtain ⟨hM116, fM116, h118⟩ := h117
        refine j_aload_n C 1 0 dX8_atom_50 rfl rfl ?_
        refine j_iload_n C 2 1 dX8_atom_51 rfl rfl ?_
        refine y_iconst C dX8_atom_52 ?_
        refine y_iadd C dX8_atom_53 ?_
        refine j_callVv C (d := 11) (As := [.int (sI (3 + 1))]) (st := []) 78 (s_lt rfl rfl) (s_kc (c := 7) rfl rfl) (by decide) rfl (s4_X8_sum hM116 hpr) gX8_atom_X8_sum rfl hdX8_sum (by decide) (Nat.le_of_ble_eq_true rfl) dX8_atom_54 rfl (fun M120 h121 => ?_)
        have hM120 := h121
        refine j_aload_n C 1 0 dX8_atom_57 rfl rfl ?_
        refine y_sipush C dX8_atom_58 rfl ?_
        refine j_callVv C (d := 1) (As := [.int (sI 2041)]) (st := []) 78 (s_lt rfl rfl) (s_kc (c := 7) rfl rfl) (by decide) rfl (s1_X8_expect hM120 hpr 2041 (by omega) (by omega)) gX8_atom_X8_expect rfl hdX8_expect (by decide) (Nat.le_of_ble_eq_true rfl) dX8_atom_61 rfl (fun M124 h125 => ?_)
        obtain ⟨hM124, fM124⟩ := h125
        refine j_goto C 72 dX8_atom_64 (by decide) ?_
        exact hret _ _ _ dX8_atom_72 hM124
    · refine j_aload_n C 1 0 dX8_atom_20 rfl rfl ?_
      refine j_dup C dX8_atom_21 rfl ?_
      refine y_getI C 7 _ _ fX8_atom_18 rfl rfl ft_7_2 sb_7_2 hM0 dX8_atom_22 (fun a127 ea127 la127 ua127 => ?_)
      refine y_iconst C dX8_atom_25 ?_
      refine y_iadd C dX8_atom_26 ?_
      refine y_putI C 7 _ _ qX8_atom_18 rfl rfl ft_7_2 sb_7_2 hM0 (PX.w hpr rfl rfl) dX8_atom_27 (by omega) (fun M129 eM129 hM129 => ?_)
      refine j_aload_n C 1 0 dX8_atom_30 rfl rfl ?_
      refine j_iload_n C 0 2 dX8_atom_31 rfl rfl ?_
      refine j_callVv C (d := 0) (As := [.int (sI a108)]) (st := []) 78 (s_lt rfl rfl) (s_kc (c := 7) rfl rfl) (by decide) rfl (s1_X8_emit hM129 hpr a108 (by omega)) gX8_atom_X8_emit rfl hdX8_emit (by decide) (Nat.le_of_ble_eq_true rfl) dX8_atom_32 rfl (fun M131 h132 => ?_)
      have hM131 := h132
      refine j_goto C 72 dX8_atom_35 (by decide) ?_
      exact hret _ _ _ dX8_atom_72 hM131
  · exact hret _ _ _ dX8_atom_7 hM0
set_option maxHeartbeats 4000000 in
theorem s5_X8_term {l : Launch} {dC : Nat → ClassId} {dI : Nat → Nat → Nat} {ad : Nat → Nat} {cA : Nat → ClassId} {pr : Nat → Nat → Bool} {Kz : mm_M} {M0 : mm_M} (hM0 : INV pr Kz M0) (hpr : PX pr)  : Cv l 13 yX8_term wsX8_term dC dI ad cA [.ref (ad 78), .int (sI 3)] M0 (fun M' => INV pr Kz M') := by
  refine cv_of (cc := cX8_term) (maxL := 3) (lv := [(0, .ref (ad 78)), (1, .int (sI 3))]) (by decide) rfl (Nat.le_of_ble_eq_true rfl) rfl ?_
  intro p e s m args below meth c A Q C hret
  refine j_aload_n C 0 0 dX8_term_0 rfl rfl ?_
  refine j_iload_n C 1 1 dX8_term_1 rfl rfl ?_
  refine j_callVv C (d := 12) (As := [.int (sI 3)]) (st := []) 78 (s_lt rfl rfl) (s_kc (c := 7) rfl rfl) (by decide) rfl (s5_X8_atom hM0 hpr) gX8_term_X8_atom rfl hdX8_atom (by decide) (Nat.le_of_ble_eq_true rfl) dX8_term_2 rfl (fun M102 h103 => ?_)
  have hM102 := h103
  refine y_iconst C dX8_term_5 ?_
  refine j_istore_n C 2 [(2, .int (sI 0)), (0, .ref (ad 78)), (1, .int (sI 3))] dX8_term_6 rfl (by decide) rfl ?_
  have L797 : ∀ (n795 : Nat), ∀ (a798 : Int) (M799 : mm_M), (0 ≤ a798 ∧ a798 ≤ 900 ∧ (900 - a798) < (n795 : Int)) → INV pr Kz M799 → jj p l e (cn_R 13) s m args below meth c 0 0 Q 3 dC dI ad cA A M799 7 [(0, .ref (ad 78)), (1, .int (sI 3)), (2, .int (sI a798))] [] := by
    intro n795
    induction n795 with
    | zero =>
      intro a798 M799 h800 hM799
      exfalso; omega
    | succ n795 ih796 =>
      intro a798 M799 h800 hM799
      refine j_iload_n C 2 2 dX8_term_7 rfl rfl ?_
      refine y_sipush C dX8_term_8 rfl ?_
      refine y_icmp_ge C 59 dX8_term_11 (by decide) (by omega) (fun h801 => ?_) (fun h801 => ?_)
      · exact hret _ _ _ dX8_term_59 hM799
      · refine j_aload_n C 0 0 dX8_term_14 rfl rfl ?_
        refine y_getI C 7 _ _ fX8_term_22 rfl rfl ft_7_5 sb_7_5 hM799 dX8_term_15 (fun a802 ea802 la802 ua802 => ?_)
        refine y_if_ne C 59 dX8_term_18 (by decide) (by omega) (fun h804 => ?_) (fun h804 => ?_)
        · exact hret _ _ _ dX8_term_59 hM799
        · refine j_aload_n C 0 0 dX8_term_21 rfl rfl ?_
          refine j_callVi C (d := 0) (As := []) (st := []) 78 (s_lt rfl rfl) (s_kc (c := 7) rfl rfl) (by decide) rfl (s1_X8_token hM799) gX8_term_X8_token rfl hdX8_token (by decide) (Nat.le_of_ble_eq_true rfl) dX8_term_22 rfl (fun r805 M806 h807 => ?_)
          obtain ⟨a809, rfl, rfl, h808⟩ := h807
          refine y_sipush C dX8_term_25 rfl ?_
          refine y_icmp_ne C 59 dX8_term_28 (by decide) (by omega) (fun h810 => ?_) (fun h810 => ?_)
          · exact hret _ _ _ dX8_term_59 hM799
          · refine j_aload_n C 0 0 dX8_term_31 rfl rfl ?_
            refine j_dup C dX8_term_32 rfl ?_
            refine y_getI C 7 _ _ fX8_term_18 rfl rfl ft_7_2 sb_7_2 hM799 dX8_term_33 (fun a811 ea811 la811 ua811 => ?_)
            refine y_iconst C dX8_term_36 ?_
            refine y_iadd C dX8_term_37 ?_
            refine y_putI C 7 _ _ qX8_term_18 rfl rfl ft_7_2 sb_7_2 hM799 (PX.w hpr rfl rfl) dX8_term_38 (by omega) (fun M813 eM813 hM813 => ?_)
            refine j_aload_n C 0 0 dX8_term_41 rfl rfl ?_
            refine j_iload_n C 1 1 dX8_term_42 rfl rfl ?_
            refine j_callVv C (d := 12) (As := [.int (sI 3)]) (st := []) 78 (s_lt rfl rfl) (s_kc (c := 7) rfl rfl) (by decide) rfl (s5_X8_atom hM813 hpr) gX8_term_X8_atom rfl hdX8_atom (by decide) (Nat.le_of_ble_eq_true rfl) dX8_term_43 rfl (fun M815 h816 => ?_)
            have hM815 := h816
            refine j_aload_n C 0 0 dX8_term_46 rfl rfl ?_
            refine y_sipush C dX8_term_47 rfl ?_
            refine j_callVv C (d := 0) (As := [.int (sI 2042)]) (st := []) 78 (s_lt rfl rfl) (s_kc (c := 7) rfl rfl) (by decide) rfl (s1_X8_emit hM815 hpr 2042 (by omega)) gX8_term_X8_emit rfl hdX8_emit (by decide) (Nat.le_of_ble_eq_true rfl) dX8_term_50 rfl (fun M819 h820 => ?_)
            have hM819 := h820
            refine y_iinc C 2 [(2, .int (sI (a798 + 1))), (0, .ref (ad 78)), (1, .int (sI 3))] dX8_term_53 rfl (by decide) rfl ?_
            refine j_goto C 7 dX8_term_56 (by decide) ?_
            refine j_lv [1, 2, 0] rfl ?_; exact ih796 (a798 + 1) M819 (by omega) hM819
  refine j_lv [1, 2, 0] rfl ?_; exact L797 2010 0 M102 (by omega) hM102
set_option maxHeartbeats 4000000 in
theorem s5_X8_sum {l : Launch} {dC : Nat → ClassId} {dI : Nat → Nat → Nat} {ad : Nat → Nat} {cA : Nat → ClassId} {pr : Nat → Nat → Bool} {Kz : mm_M} {M0 : mm_M} (hM0 : INV pr Kz M0) (hpr : PX pr)  : Cv l 14 yX8_sum wsX8_sum dC dI ad cA [.ref (ad 78), .int (sI 3)] M0 (fun M' => INV pr Kz M') := by
  refine cv_of (cc := cX8_sum) (maxL := 4) (lv := [(0, .ref (ad 78)), (1, .int (sI 3))]) (by decide) rfl (Nat.le_of_ble_eq_true rfl) rfl ?_
  intro p e s m args below meth c A Q C hret
  refine j_aload_n C 0 0 dX8_sum_0 rfl rfl ?_
  refine j_iload_n C 1 1 dX8_sum_1 rfl rfl ?_
  refine j_callVv C (d := 13) (As := [.int (sI 3)]) (st := []) 78 (s_lt rfl rfl) (s_kc (c := 7) rfl rfl) (by decide) rfl (s5_X8_term hM0 hpr) gX8_sum_X8_term rfl hdX8_term (by decide) (Nat.le_of_ble_eq_true rfl) dX8_sum_2 rfl (fun M102 h103 => ?_)
  have hM102 := h103
  refine j_aload_n C 0 0 dX8_sum_5 rfl rfl ?_
  refine j_callVi C (d := 0) (As := []) (st := []) 78 (s_lt rfl rfl) (s_kc (c := 7) rfl rfl) (by decide) rfl (s1_X8_token hM102) gX8_sum_X8_token rfl hdX8_token (by decide) (Nat.le_of_ble_eq_true rfl) dX8_sum_6 rfl (fun r105 M106 h107 => ?_)
  obtain ⟨a109, rfl, rfl, h108⟩ := h107
  refine j_istore_n C 2 [(2, .int (sI a109)), (0, .ref (ad 78)), (1, .int (sI 3))] dX8_sum_9 rfl (by decide) rfl ?_
  refine y_iconst C dX8_sum_10 ?_
  refine j_istore_n C 3 [(3, .int (sI 0)), (2, .int (sI a109)), (0, .ref (ad 78)), (1, .int (sI 3))] dX8_sum_11 rfl (by decide) rfl ?_
  have L1342 : ∀ (n1340 : Nat), ∀ (a1343 : Int) (a1344 : Int) (M1345 : mm_M), ((-2147483648) ≤ a1343 ∧ a1343 ≤ 2147483647 ∧ 0 ≤ a1344 ∧ a1344 ≤ 900 ∧ (a1343 = 3001 ∨ (M1345.1 78 2).toInt < 901) ∧ (900 - a1344) < (n1340 : Int)) → INV pr Kz M1345 → jj p l e (cn_R 14) s m args below meth c 0 0 Q 4 dC dI ad cA A M1345 12 [(0, .ref (ad 78)), (1, .int (sI 3)), (2, .int (sI a1343)), (3, .int (sI a1344))] [] := by
    intro n1340
    induction n1340 with
    | zero =>
      intro a1343 a1344 M1345 h1346 hM1345
      exfalso; omega
    | succ n1340 ih1341 =>
      intro a1343 a1344 M1345 h1346 hM1345
      refine j_iload_n C 3 3 dX8_sum_12 rfl rfl ?_
      refine y_sipush C dX8_sum_13 rfl ?_
      refine y_icmp_ge C 71 dX8_sum_16 (by decide) (by omega) (fun h1347 => ?_) (fun h1347 => ?_)
      · exact hret _ _ _ dX8_sum_71 hM1345
      · refine j_aload_n C 0 0 dX8_sum_19 rfl rfl ?_
        refine y_getI C 7 _ _ fX8_sum_22 rfl rfl ft_7_5 sb_7_5 hM1345 dX8_sum_20 (fun a1348 ea1348 la1348 ua1348 => ?_)
        refine y_if_ne C 71 dX8_sum_23 (by decide) (by omega) (fun h1350 => ?_) (fun h1350 => ?_)
        · exact hret _ _ _ dX8_sum_71 hM1345
        · refine j_iload_n C 2 2 dX8_sum_26 rfl rfl ?_
          refine y_sipush C dX8_sum_27 rfl ?_
          refine y_icmp_eq C 40 dX8_sum_30 (by decide) (by omega) (fun h1351 => ?_) (fun h1351 => ?_)
          · refine j_aload_n C 0 0 dX8_sum_40 rfl rfl ?_
            refine j_dup C dX8_sum_41 rfl ?_
            refine y_getI C 7 _ _ fX8_sum_18 rfl rfl ft_7_2 sb_7_2 hM1345 dX8_sum_42 (fun a1352 ea1352 la1352 ua1352 => ?_)
            refine y_iconst C dX8_sum_45 ?_
            refine y_iadd C dX8_sum_46 ?_
            refine y_putI C 7 _ _ qX8_sum_18 rfl rfl ft_7_2 sb_7_2 hM1345 (PX.w hpr rfl rfl) dX8_sum_47 (by omega) (fun M1354 eM1354 hM1354 => ?_)
            refine j_aload_n C 0 0 dX8_sum_50 rfl rfl ?_
            refine j_iload_n C 1 1 dX8_sum_51 rfl rfl ?_
            refine j_callVv C (d := 13) (As := [.int (sI 3)]) (st := []) 78 (s_lt rfl rfl) (s_kc (c := 7) rfl rfl) (by decide) rfl (s5_X8_term hM1354 hpr) gX8_sum_X8_term rfl hdX8_term (by decide) (Nat.le_of_ble_eq_true rfl) dX8_sum_52 rfl (fun M1356 h1357 => ?_)
            have hM1356 := h1357
            refine j_aload_n C 0 0 dX8_sum_55 rfl rfl ?_
            refine j_iload_n C 2 2 dX8_sum_56 rfl rfl ?_
            refine j_callVv C (d := 0) (As := [.int (sI a1343)]) (st := []) 78 (s_lt rfl rfl) (s_kc (c := 7) rfl rfl) (by decide) rfl (s1_X8_emit hM1356 hpr a1343 (by omega)) gX8_sum_X8_emit rfl hdX8_emit (by decide) (Nat.le_of_ble_eq_true rfl) dX8_sum_57 rfl (fun M1360 h1361 => ?_)
            have hM1360 := h1361
            refine j_aload_n C 0 0 dX8_sum_60 rfl rfl ?_
            refine j_callVi C (d := 0) (As := []) (st := []) 78 (s_lt rfl rfl) (s_kc (c := 7) rfl rfl) (by decide) rfl (s1_X8_token hM1360) gX8_sum_X8_token rfl hdX8_token (by decide) (Nat.le_of_ble_eq_true rfl) dX8_sum_61 rfl (fun r1363 M1364 h1365 => ?_)
            obtain ⟨a1367, rfl, rfl, h1366⟩ := h1365
            refine j_istore_n C 2 [(2, .int (sI a1367)), (0, .ref (ad 78)), (1, .int (sI 3)), (3, .int (sI a1344))] dX8_sum_64 rfl (by decide) rfl ?_
            refine y_iinc C 3 [(3, .int (sI (a1344 + 1))), (2, .int (sI a1367)), (0, .ref (ad 78)), (1, .int (sI 3))] dX8_sum_65 rfl (by decide) rfl ?_
            refine j_goto C 12 dX8_sum_68 (by decide) ?_
            refine j_lv [2, 3, 1, 0] rfl ?_; exact ih1341 a1367 (a1344 + 1) M1360 (by omega) hM1360
          · refine j_iload_n C 2 2 dX8_sum_33 rfl rfl ?_
            refine y_sipush C dX8_sum_34 rfl ?_
            refine y_icmp_ne C 71 dX8_sum_37 (by decide) (by omega) (fun h1368 => ?_) (fun h1368 => ?_)
            · exact hret _ _ _ dX8_sum_71 hM1345
            · refine j_aload_n C 0 0 dX8_sum_40 rfl rfl ?_
              refine j_dup C dX8_sum_41 rfl ?_
              refine y_getI C 7 _ _ fX8_sum_18 rfl rfl ft_7_2 sb_7_2 hM1345 dX8_sum_42 (fun a1369 ea1369 la1369 ua1369 => ?_)
              refine y_iconst C dX8_sum_45 ?_
              refine y_iadd C dX8_sum_46 ?_
              refine y_putI C 7 _ _ qX8_sum_18 rfl rfl ft_7_2 sb_7_2 hM1345 (PX.w hpr rfl rfl) dX8_sum_47 (by omega) (fun M1371 eM1371 hM1371 => ?_)
              refine j_aload_n C 0 0 dX8_sum_50 rfl rfl ?_
              refine j_iload_n C 1 1 dX8_sum_51 rfl rfl ?_
              refine j_callVv C (d := 13) (As := [.int (sI 3)]) (st := []) 78 (s_lt rfl rfl) (s_kc (c := 7) rfl rfl) (by decide) rfl (s5_X8_term hM1371 hpr) gX8_sum_X8_term rfl hdX8_term (by decide) (Nat.le_of_ble_eq_true rfl) dX8_sum_52 rfl (fun M1373 h1374 => ?_)
              have hM1373 := h1374
              refine j_aload_n C 0 0 dX8_sum_55 rfl rfl ?_
              refine j_iload_n C 2 2 dX8_sum_56 rfl rfl ?_
              refine j_callVv C (d := 0) (As := [.int (sI a1343)]) (st := []) 78 (s_lt rfl rfl) (s_kc (c := 7) rfl rfl) (by decide) rfl (s1_X8_emit hM1373 hpr a1343 (by omega)) gX8_sum_X8_emit rfl hdX8_emit (by decide) (Nat.le_of_ble_eq_true rfl) dX8_sum_57 rfl (fun M1377 h1378 => ?_)
              have hM1377 := h1378
              refine j_aload_n C 0 0 dX8_sum_60 rfl rfl ?_
              refine j_callVi C (d := 0) (As := []) (st := []) 78 (s_lt rfl rfl) (s_kc (c := 7) rfl rfl) (by decide) rfl (s1_X8_token hM1377) gX8_sum_X8_token rfl hdX8_token (by decide) (Nat.le_of_ble_eq_true rfl) dX8_sum_61 rfl (fun r1380 M1381 h1382 => ?_)
              obtain ⟨a1384, rfl, rfl, h1383⟩ := h1382
              refine j_istore_n C 2 [(2, .int (sI a1384)), (0, .ref (ad 78)), (1, .int (sI 3)), (3, .int (sI a1344))] dX8_sum_64 rfl (by decide) rfl ?_
              refine y_iinc C 3 [(3, .int (sI (a1344 + 1))), (2, .int (sI a1384)), (0, .ref (ad 78)), (1, .int (sI 3))] dX8_sum_65 rfl (by decide) rfl ?_
              refine j_goto C 12 dX8_sum_68 (by decide) ?_
              refine j_lv [2, 3, 1, 0] rfl ?_; exact ih1341 a1384 (a1344 + 1) M1377 (by omega) hM1377
  refine j_lv [2, 3, 1, 0] rfl ?_; exact L1342 4294967306 a109 0 M102 (by omega) hM102
set_option maxHeartbeats 4000000 in
theorem s6_X8_atom {l : Launch} {dC : Nat → ClassId} {dI : Nat → Nat → Nat} {ad : Nat → Nat} {cA : Nat → ClassId} {pr : Nat → Nat → Bool} {Kz : mm_M} {M0 : mm_M} (hM0 : INV pr Kz M0) (hpr : PX pr)  : Cv l 15 yX8_atom wsX8_atom dC dI ad cA [.ref (ad 78), .int (sI 2)] M0 (fun M' => INV pr Kz M') := by
  refine cv_of (cc := cX8_atom) (maxL := 3) (lv := [(0, .ref (ad 78)), (1, .int (sI 2))]) (by decide) rfl (Nat.le_of_ble_eq_true rfl) rfl ?_
  intro p e s m args below meth c A Q C hret
  refine j_aload_n C 0 0 dX8_atom_0 rfl rfl ?_
  refine y_getI C 7 _ _ fX8_atom_22 rfl rfl ft_7_5 sb_7_5 hM0 dX8_atom_1 (fun a101 ea101 la101 ua101 => ?_)
  refine y_if_eq C 8 dX8_atom_4 (by decide) (by omega) (fun h103 => ?_) (fun h103 => ?_)
  · refine j_aload_n C 0 0 dX8_atom_8 rfl rfl ?_
    refine j_callVi C (d := 0) (As := []) (st := []) 78 (s_lt rfl rfl) (s_kc (c := 7) rfl rfl) (by decide) rfl (s1_X8_token hM0) gX8_atom_X8_token rfl hdX8_token (by decide) (Nat.le_of_ble_eq_true rfl) dX8_atom_9 rfl (fun r104 M105 h106 => ?_)
    obtain ⟨a108, rfl, rfl, h107⟩ := h106
    refine j_istore_n C 2 [(2, .int (sI a108)), (0, .ref (ad 78)), (1, .int (sI 2))] dX8_atom_12 rfl (by decide) rfl ?_
    refine j_iload_n C 0 2 dX8_atom_13 rfl rfl ?_
    refine y_sipush C dX8_atom_14 rfl ?_
    refine y_icmp_ge C 38 dX8_atom_17 (by decide) (by omega) (fun h109 => ?_) (fun h109 => ?_)
    · refine j_iload_n C 0 2 dX8_atom_38 rfl rfl ?_
      refine y_sipush C dX8_atom_39 rfl ?_
      refine y_icmp_ne C 67 dX8_atom_42 (by decide) (by omega) (fun h110 => ?_) (fun h110 => ?_)
      · refine j_aload_n C 1 0 dX8_atom_67 rfl rfl ?_
        refine y_iconst C dX8_atom_68 ?_
        refine j_callVv C (d := 0) (As := [.int (sI 2)]) (st := []) 78 (s_lt rfl rfl) (s_kc (c := 7) rfl rfl) (by decide) rfl (s1_X8_fail hM0 hpr 2 (by omega) (by omega)) gX8_atom_X8_fail rfl hdX8_fail (by decide) (Nat.le_of_ble_eq_true rfl) dX8_atom_69 rfl (fun M112 h113 => ?_)
        obtain ⟨hM112, fM112, h114⟩ := h113
        exact hret _ _ _ dX8_atom_72 hM112
      · refine j_aload_n C 1 0 dX8_atom_45 rfl rfl ?_
        refine j_iload_n C 2 1 dX8_atom_46 rfl rfl ?_
        refine j_callVv C (d := 0) (As := [.int (sI 2)]) (st := []) 78 (s_lt rfl rfl) (s_kc (c := 7) rfl rfl) (by decide) rfl (s3_X8_goDeeper hM0 hpr (by omega)) gX8_atom_X8_goDeeper rfl hdX8_goDeeper (by decide) (Nat.le_of_ble_eq_true rfl) dX8_atom_47 rfl (fun M116 h117 => ?_)
        obtain ⟨hM116, fM116, h118⟩ := h117
        refine j_aload_n C 1 0 dX8_atom_50 rfl rfl ?_
        refine j_iload_n C 2 1 dX8_atom_51 rfl rfl ?_
        refine y_iconst C dX8_atom_52 ?_
        refine y_iadd C dX8_atom_53 ?_
        refine j_callVv C (d := 14) (As := [.int (sI (2 + 1))]) (st := []) 78 (s_lt rfl rfl) (s_kc (c := 7) rfl rfl) (by decide) rfl (s5_X8_sum hM116 hpr) gX8_atom_X8_sum rfl hdX8_sum (by decide) (Nat.le_of_ble_eq_true rfl) dX8_atom_54 rfl (fun M120 h121 => ?_)
        have hM120 := h121
        refine j_aload_n C 1 0 dX8_atom_57 rfl rfl ?_
        refine y_sipush C dX8_atom_58 rfl ?_
        refine j_callVv C (d := 1) (As := [.int (sI 2041)]) (st := []) 78 (s_lt rfl rfl) (s_kc (c := 7) rfl rfl) (by decide) rfl (s1_X8_expect hM120 hpr 2041 (by omega) (by omega)) gX8_atom_X8_expect rfl hdX8_expect (by decide) (Nat.le_of_ble_eq_true rfl) dX8_atom_61 rfl (fun M124 h125 => ?_)
        obtain ⟨hM124, fM124⟩ := h125
        refine j_goto C 72 dX8_atom_64 (by decide) ?_
        exact hret _ _ _ dX8_atom_72 hM124
    · refine j_aload_n C 1 0 dX8_atom_20 rfl rfl ?_
      refine j_dup C dX8_atom_21 rfl ?_
      refine y_getI C 7 _ _ fX8_atom_18 rfl rfl ft_7_2 sb_7_2 hM0 dX8_atom_22 (fun a127 ea127 la127 ua127 => ?_)
      refine y_iconst C dX8_atom_25 ?_
      refine y_iadd C dX8_atom_26 ?_
      refine y_putI C 7 _ _ qX8_atom_18 rfl rfl ft_7_2 sb_7_2 hM0 (PX.w hpr rfl rfl) dX8_atom_27 (by omega) (fun M129 eM129 hM129 => ?_)
      refine j_aload_n C 1 0 dX8_atom_30 rfl rfl ?_
      refine j_iload_n C 0 2 dX8_atom_31 rfl rfl ?_
      refine j_callVv C (d := 0) (As := [.int (sI a108)]) (st := []) 78 (s_lt rfl rfl) (s_kc (c := 7) rfl rfl) (by decide) rfl (s1_X8_emit hM129 hpr a108 (by omega)) gX8_atom_X8_emit rfl hdX8_emit (by decide) (Nat.le_of_ble_eq_true rfl) dX8_atom_32 rfl (fun M131 h132 => ?_)
      have hM131 := h132
      refine j_goto C 72 dX8_atom_35 (by decide) ?_
      exact hret _ _ _ dX8_atom_72 hM131
  · exact hret _ _ _ dX8_atom_7 hM0
set_option maxHeartbeats 4000000 in
theorem s6_X8_term {l : Launch} {dC : Nat → ClassId} {dI : Nat → Nat → Nat} {ad : Nat → Nat} {cA : Nat → ClassId} {pr : Nat → Nat → Bool} {Kz : mm_M} {M0 : mm_M} (hM0 : INV pr Kz M0) (hpr : PX pr)  : Cv l 16 yX8_term wsX8_term dC dI ad cA [.ref (ad 78), .int (sI 2)] M0 (fun M' => INV pr Kz M') := by
  refine cv_of (cc := cX8_term) (maxL := 3) (lv := [(0, .ref (ad 78)), (1, .int (sI 2))]) (by decide) rfl (Nat.le_of_ble_eq_true rfl) rfl ?_
  intro p e s m args below meth c A Q C hret
  refine j_aload_n C 0 0 dX8_term_0 rfl rfl ?_
  refine j_iload_n C 1 1 dX8_term_1 rfl rfl ?_
  refine j_callVv C (d := 15) (As := [.int (sI 2)]) (st := []) 78 (s_lt rfl rfl) (s_kc (c := 7) rfl rfl) (by decide) rfl (s6_X8_atom hM0 hpr) gX8_term_X8_atom rfl hdX8_atom (by decide) (Nat.le_of_ble_eq_true rfl) dX8_term_2 rfl (fun M102 h103 => ?_)
  have hM102 := h103
  refine y_iconst C dX8_term_5 ?_
  refine j_istore_n C 2 [(2, .int (sI 0)), (0, .ref (ad 78)), (1, .int (sI 2))] dX8_term_6 rfl (by decide) rfl ?_
  have L797 : ∀ (n795 : Nat), ∀ (a798 : Int) (M799 : mm_M), (0 ≤ a798 ∧ a798 ≤ 900 ∧ (900 - a798) < (n795 : Int)) → INV pr Kz M799 → jj p l e (cn_R 16) s m args below meth c 0 0 Q 3 dC dI ad cA A M799 7 [(0, .ref (ad 78)), (1, .int (sI 2)), (2, .int (sI a798))] [] := by
    intro n795
    induction n795 with
    | zero =>
      intro a798 M799 h800 hM799
      exfalso; omega
    | succ n795 ih796 =>
      intro a798 M799 h800 hM799
      refine j_iload_n C 2 2 dX8_term_7 rfl rfl ?_
      refine y_sipush C dX8_term_8 rfl ?_
      refine y_icmp_ge C 59 dX8_term_11 (by decide) (by omega) (fun h801 => ?_) (fun h801 => ?_)
      · exact hret _ _ _ dX8_term_59 hM799
      · refine j_aload_n C 0 0 dX8_term_14 rfl rfl ?_
        refine y_getI C 7 _ _ fX8_term_22 rfl rfl ft_7_5 sb_7_5 hM799 dX8_term_15 (fun a802 ea802 la802 ua802 => ?_)
        refine y_if_ne C 59 dX8_term_18 (by decide) (by omega) (fun h804 => ?_) (fun h804 => ?_)
        · exact hret _ _ _ dX8_term_59 hM799
        · refine j_aload_n C 0 0 dX8_term_21 rfl rfl ?_
          refine j_callVi C (d := 0) (As := []) (st := []) 78 (s_lt rfl rfl) (s_kc (c := 7) rfl rfl) (by decide) rfl (s1_X8_token hM799) gX8_term_X8_token rfl hdX8_token (by decide) (Nat.le_of_ble_eq_true rfl) dX8_term_22 rfl (fun r805 M806 h807 => ?_)
          obtain ⟨a809, rfl, rfl, h808⟩ := h807
          refine y_sipush C dX8_term_25 rfl ?_
          refine y_icmp_ne C 59 dX8_term_28 (by decide) (by omega) (fun h810 => ?_) (fun h810 => ?_)
          · exact hret _ _ _ dX8_term_59 hM799
          · refine j_aload_n C 0 0 dX8_term_31 rfl rfl ?_
            refine j_dup C dX8_term_32 rfl ?_
            refine y_getI C 7 _ _ fX8_term_18 rfl rfl ft_7_2 sb_7_2 hM799 dX8_term_33 (fun a811 ea811 la811 ua811 => ?_)
            refine y_iconst C dX8_term_36 ?_
            refine y_iadd C dX8_term_37 ?_
            refine y_putI C 7 _ _ qX8_term_18 rfl rfl ft_7_2 sb_7_2 hM799 (PX.w hpr rfl rfl) dX8_term_38 (by omega) (fun M813 eM813 hM813 => ?_)
            refine j_aload_n C 0 0 dX8_term_41 rfl rfl ?_
            refine j_iload_n C 1 1 dX8_term_42 rfl rfl ?_
            refine j_callVv C (d := 15) (As := [.int (sI 2)]) (st := []) 78 (s_lt rfl rfl) (s_kc (c := 7) rfl rfl) (by decide) rfl (s6_X8_atom hM813 hpr) gX8_term_X8_atom rfl hdX8_atom (by decide) (Nat.le_of_ble_eq_true rfl) dX8_term_43 rfl (fun M815 h816 => ?_)
            have hM815 := h816
            refine j_aload_n C 0 0 dX8_term_46 rfl rfl ?_
            refine y_sipush C dX8_term_47 rfl ?_
            refine j_callVv C (d := 0) (As := [.int (sI 2042)]) (st := []) 78 (s_lt rfl rfl) (s_kc (c := 7) rfl rfl) (by decide) rfl (s1_X8_emit hM815 hpr 2042 (by omega)) gX8_term_X8_emit rfl hdX8_emit (by decide) (Nat.le_of_ble_eq_true rfl) dX8_term_50 rfl (fun M819 h820 => ?_)
            have hM819 := h820
            refine y_iinc C 2 [(2, .int (sI (a798 + 1))), (0, .ref (ad 78)), (1, .int (sI 2))] dX8_term_53 rfl (by decide) rfl ?_
            refine j_goto C 7 dX8_term_56 (by decide) ?_
            refine j_lv [1, 2, 0] rfl ?_; exact ih796 (a798 + 1) M819 (by omega) hM819
  refine j_lv [1, 2, 0] rfl ?_; exact L797 2010 0 M102 (by omega) hM102
set_option maxHeartbeats 4000000 in
theorem s6_X8_sum {l : Launch} {dC : Nat → ClassId} {dI : Nat → Nat → Nat} {ad : Nat → Nat} {cA : Nat → ClassId} {pr : Nat → Nat → Bool} {Kz : mm_M} {M0 : mm_M} (hM0 : INV pr Kz M0) (hpr : PX pr)  : Cv l 17 yX8_sum wsX8_sum dC dI ad cA [.ref (ad 78), .int (sI 2)] M0 (fun M' => INV pr Kz M') := by
  refine cv_of (cc := cX8_sum) (maxL := 4) (lv := [(0, .ref (ad 78)), (1, .int (sI 2))]) (by decide) rfl (Nat.le_of_ble_eq_true rfl) rfl ?_
  intro p e s m args below meth c A Q C hret
  refine j_aload_n C 0 0 dX8_sum_0 rfl rfl ?_
  refine j_iload_n C 1 1 dX8_sum_1 rfl rfl ?_
  refine j_callVv C (d := 16) (As := [.int (sI 2)]) (st := []) 78 (s_lt rfl rfl) (s_kc (c := 7) rfl rfl) (by decide) rfl (s6_X8_term hM0 hpr) gX8_sum_X8_term rfl hdX8_term (by decide) (Nat.le_of_ble_eq_true rfl) dX8_sum_2 rfl (fun M102 h103 => ?_)
  have hM102 := h103
  refine j_aload_n C 0 0 dX8_sum_5 rfl rfl ?_
  refine j_callVi C (d := 0) (As := []) (st := []) 78 (s_lt rfl rfl) (s_kc (c := 7) rfl rfl) (by decide) rfl (s1_X8_token hM102) gX8_sum_X8_token rfl hdX8_token (by decide) (Nat.le_of_ble_eq_true rfl) dX8_sum_6 rfl (fun r105 M106 h107 => ?_)
  obtain ⟨a109, rfl, rfl, h108⟩ := h107
  refine j_istore_n C 2 [(2, .int (sI a109)), (0, .ref (ad 78)), (1, .int (sI 2))] dX8_sum_9 rfl (by decide) rfl ?_
  refine y_iconst C dX8_sum_10 ?_
  refine j_istore_n C 3 [(3, .int (sI 0)), (2, .int (sI a109)), (0, .ref (ad 78)), (1, .int (sI 2))] dX8_sum_11 rfl (by decide) rfl ?_
  have L1342 : ∀ (n1340 : Nat), ∀ (a1343 : Int) (a1344 : Int) (M1345 : mm_M), ((-2147483648) ≤ a1343 ∧ a1343 ≤ 2147483647 ∧ 0 ≤ a1344 ∧ a1344 ≤ 900 ∧ (a1343 = 3001 ∨ (M1345.1 78 2).toInt < 901) ∧ (900 - a1344) < (n1340 : Int)) → INV pr Kz M1345 → jj p l e (cn_R 17) s m args below meth c 0 0 Q 4 dC dI ad cA A M1345 12 [(0, .ref (ad 78)), (1, .int (sI 2)), (2, .int (sI a1343)), (3, .int (sI a1344))] [] := by
    intro n1340
    induction n1340 with
    | zero =>
      intro a1343 a1344 M1345 h1346 hM1345
      exfalso; omega
    | succ n1340 ih1341 =>
      intro a1343 a1344 M1345 h1346 hM1345
      refine j_iload_n C 3 3 dX8_sum_12 rfl rfl ?_
      refine y_sipush C dX8_sum_13 rfl ?_
      refine y_icmp_ge C 71 dX8_sum_16 (by decide) (by omega) (fun h1347 => ?_) (fun h1347 => ?_)
      · exact hret _ _ _ dX8_sum_71 hM1345
      · refine j_aload_n C 0 0 dX8_sum_19 rfl rfl ?_
        refine y_getI C 7 _ _ fX8_sum_22 rfl rfl ft_7_5 sb_7_5 hM1345 dX8_sum_20 (fun a1348 ea1348 la1348 ua1348 => ?_)
        refine y_if_ne C 71 dX8_sum_23 (by decide) (by omega) (fun h1350 => ?_) (fun h1350 => ?_)
        · exact hret _ _ _ dX8_sum_71 hM1345
        · refine j_iload_n C 2 2 dX8_sum_26 rfl rfl ?_
          refine y_sipush C dX8_sum_27 rfl ?_
          refine y_icmp_eq C 40 dX8_sum_30 (by decide) (by omega) (fun h1351 => ?_) (fun h1351 => ?_)
          · refine j_aload_n C 0 0 dX8_sum_40 rfl rfl ?_
            refine j_dup C dX8_sum_41 rfl ?_
            refine y_getI C 7 _ _ fX8_sum_18 rfl rfl ft_7_2 sb_7_2 hM1345 dX8_sum_42 (fun a1352 ea1352 la1352 ua1352 => ?_)
            refine y_iconst C dX8_sum_45 ?_
            refine y_iadd C dX8_sum_46 ?_
            refine y_putI C 7 _ _ qX8_sum_18 rfl rfl ft_7_2 sb_7_2 hM1345 (PX.w hpr rfl rfl) dX8_sum_47 (by omega) (fun M1354 eM1354 hM1354 => ?_)
            refine j_aload_n C 0 0 dX8_sum_50 rfl rfl ?_
            refine j_iload_n C 1 1 dX8_sum_51 rfl rfl ?_
            refine j_callVv C (d := 16) (As := [.int (sI 2)]) (st := []) 78 (s_lt rfl rfl) (s_kc (c := 7) rfl rfl) (by decide) rfl (s6_X8_term hM1354 hpr) gX8_sum_X8_term rfl hdX8_term (by decide) (Nat.le_of_ble_eq_true rfl) dX8_sum_52 rfl (fun M1356 h1357 => ?_)
            have hM1356 := h1357
            refine j_aload_n C 0 0 dX8_sum_55 rfl rfl ?_
            refine j_iload_n C 2 2 dX8_sum_56 rfl rfl ?_
            refine j_callVv C (d := 0) (As := [.int (sI a1343)]) (st := []) 78 (s_lt rfl rfl) (s_kc (c := 7) rfl rfl) (by decide) rfl (s1_X8_emit hM1356 hpr a1343 (by omega)) gX8_sum_X8_emit rfl hdX8_emit (by decide) (Nat.le_of_ble_eq_true rfl) dX8_sum_57 rfl (fun M1360 h1361 => ?_)
            have hM1360 := h1361
            refine j_aload_n C 0 0 dX8_sum_60 rfl rfl ?_
            refine j_callVi C (d := 0) (As := []) (st := []) 78 (s_lt rfl rfl) (s_kc (c := 7) rfl rfl) (by decide) rfl (s1_X8_token hM1360) gX8_sum_X8_token rfl hdX8_token (by decide) (Nat.le_of_ble_eq_true rfl) dX8_sum_61 rfl (fun r1363 M1364 h1365 => ?_)
            obtain ⟨a1367, rfl, rfl, h1366⟩ := h1365
            refine j_istore_n C 2 [(2, .int (sI a1367)), (0, .ref (ad 78)), (1, .int (sI 2)), (3, .int (sI a1344))] dX8_sum_64 rfl (by decide) rfl ?_
            refine y_iinc C 3 [(3, .int (sI (a1344 + 1))), (2, .int (sI a1367)), (0, .ref (ad 78)), (1, .int (sI 2))] dX8_sum_65 rfl (by decide) rfl ?_
            refine j_goto C 12 dX8_sum_68 (by decide) ?_
            refine j_lv [2, 3, 1, 0] rfl ?_; exact ih1341 a1367 (a1344 + 1) M1360 (by omega) hM1360
          · refine j_iload_n C 2 2 dX8_sum_33 rfl rfl ?_
            refine y_sipush C dX8_sum_34 rfl ?_
            refine y_icmp_ne C 71 dX8_sum_37 (by decide) (by omega) (fun h1368 => ?_) (fun h1368 => ?_)
            · exact hret _ _ _ dX8_sum_71 hM1345
            · refine j_aload_n C 0 0 dX8_sum_40 rfl rfl ?_
              refine j_dup C dX8_sum_41 rfl ?_
              refine y_getI C 7 _ _ fX8_sum_18 rfl rfl ft_7_2 sb_7_2 hM1345 dX8_sum_42 (fun a1369 ea1369 la1369 ua1369 => ?_)
              refine y_iconst C dX8_sum_45 ?_
              refine y_iadd C dX8_sum_46 ?_
              refine y_putI C 7 _ _ qX8_sum_18 rfl rfl ft_7_2 sb_7_2 hM1345 (PX.w hpr rfl rfl) dX8_sum_47 (by omega) (fun M1371 eM1371 hM1371 => ?_)
              refine j_aload_n C 0 0 dX8_sum_50 rfl rfl ?_
              refine j_iload_n C 1 1 dX8_sum_51 rfl rfl ?_
              refine j_callVv C (d := 16) (As := [.int (sI 2)]) (st := []) 78 (s_lt rfl rfl) (s_kc (c := 7) rfl rfl) (by decide) rfl (s6_X8_term hM1371 hpr) gX8_sum_X8_term rfl hdX8_term (by decide) (Nat.le_of_ble_eq_true rfl) dX8_sum_52 rfl (fun M1373 h1374 => ?_)
              have hM1373 := h1374
              refine j_aload_n C 0 0 dX8_sum_55 rfl rfl ?_
              refine j_iload_n C 2 2 dX8_sum_56 rfl rfl ?_
              refine j_callVv C (d := 0) (As := [.int (sI a1343)]) (st := []) 78 (s_lt rfl rfl) (s_kc (c := 7) rfl rfl) (by decide) rfl (s1_X8_emit hM1373 hpr a1343 (by omega)) gX8_sum_X8_emit rfl hdX8_emit (by decide) (Nat.le_of_ble_eq_true rfl) dX8_sum_57 rfl (fun M1377 h1378 => ?_)
              have hM1377 := h1378
              refine j_aload_n C 0 0 dX8_sum_60 rfl rfl ?_
              refine j_callVi C (d := 0) (As := []) (st := []) 78 (s_lt rfl rfl) (s_kc (c := 7) rfl rfl) (by decide) rfl (s1_X8_token hM1377) gX8_sum_X8_token rfl hdX8_token (by decide) (Nat.le_of_ble_eq_true rfl) dX8_sum_61 rfl (fun r1380 M1381 h1382 => ?_)
              obtain ⟨a1384, rfl, rfl, h1383⟩ := h1382
              refine j_istore_n C 2 [(2, .int (sI a1384)), (0, .ref (ad 78)), (1, .int (sI 2)), (3, .int (sI a1344))] dX8_sum_64 rfl (by decide) rfl ?_
              refine y_iinc C 3 [(3, .int (sI (a1344 + 1))), (2, .int (sI a1384)), (0, .ref (ad 78)), (1, .int (sI 2))] dX8_sum_65 rfl (by decide) rfl ?_
              refine j_goto C 12 dX8_sum_68 (by decide) ?_
              refine j_lv [2, 3, 1, 0] rfl ?_; exact ih1341 a1384 (a1344 + 1) M1377 (by omega) hM1377
  refine j_lv [2, 3, 1, 0] rfl ?_; exact L1342 4294967306 a109 0 M102 (by omega) hM102
set_option maxHeartbeats 4000000 in
theorem s7_X8_atom {l : Launch} {dC : Nat → ClassId} {dI : Nat → Nat → Nat} {ad : Nat → Nat} {cA : Nat → ClassId} {pr : Nat → Nat → Bool} {Kz : mm_M} {M0 : mm_M} (hM0 : INV pr Kz M0) (hpr : PX pr)  : Cv l 18 yX8_atom wsX8_atom dC dI ad cA [.ref (ad 78), .int (sI 1)] M0 (fun M' => INV pr Kz M') := by
  refine cv_of (cc := cX8_atom) (maxL := 3) (lv := [(0, .ref (ad 78)), (1, .int (sI 1))]) (by decide) rfl (Nat.le_of_ble_eq_true rfl) rfl ?_
  intro p e s m args below meth c A Q C hret
  refine j_aload_n C 0 0 dX8_atom_0 rfl rfl ?_
  refine y_getI C 7 _ _ fX8_atom_22 rfl rfl ft_7_5 sb_7_5 hM0 dX8_atom_1 (fun a101 ea101 la101 ua101 => ?_)
  refine y_if_eq C 8 dX8_atom_4 (by decide) (by omega) (fun h103 => ?_) (fun h103 => ?_)
  · refine j_aload_n C 0 0 dX8_atom_8 rfl rfl ?_
    refine j_callVi C (d := 0) (As := []) (st := []) 78 (s_lt rfl rfl) (s_kc (c := 7) rfl rfl) (by decide) rfl (s1_X8_token hM0) gX8_atom_X8_token rfl hdX8_token (by decide) (Nat.le_of_ble_eq_true rfl) dX8_atom_9 rfl (fun r104 M105 h106 => ?_)
    obtain ⟨a108, rfl, rfl, h107⟩ := h106
    refine j_istore_n C 2 [(2, .int (sI a108)), (0, .ref (ad 78)), (1, .int (sI 1))] dX8_atom_12 rfl (by decide) rfl ?_
    refine j_iload_n C 0 2 dX8_atom_13 rfl rfl ?_
    refine y_sipush C dX8_atom_14 rfl ?_
    refine y_icmp_ge C 38 dX8_atom_17 (by decide) (by omega) (fun h109 => ?_) (fun h109 => ?_)
    · refine j_iload_n C 0 2 dX8_atom_38 rfl rfl ?_
      refine y_sipush C dX8_atom_39 rfl ?_
      refine y_icmp_ne C 67 dX8_atom_42 (by decide) (by omega) (fun h110 => ?_) (fun h110 => ?_)
      · refine j_aload_n C 1 0 dX8_atom_67 rfl rfl ?_
        refine y_iconst C dX8_atom_68 ?_
        refine j_callVv C (d := 0) (As := [.int (sI 2)]) (st := []) 78 (s_lt rfl rfl) (s_kc (c := 7) rfl rfl) (by decide) rfl (s1_X8_fail hM0 hpr 2 (by omega) (by omega)) gX8_atom_X8_fail rfl hdX8_fail (by decide) (Nat.le_of_ble_eq_true rfl) dX8_atom_69 rfl (fun M112 h113 => ?_)
        obtain ⟨hM112, fM112, h114⟩ := h113
        exact hret _ _ _ dX8_atom_72 hM112
      · refine j_aload_n C 1 0 dX8_atom_45 rfl rfl ?_
        refine j_iload_n C 2 1 dX8_atom_46 rfl rfl ?_
        refine j_callVv C (d := 0) (As := [.int (sI 1)]) (st := []) 78 (s_lt rfl rfl) (s_kc (c := 7) rfl rfl) (by decide) rfl (s2_X8_goDeeper hM0 hpr (by omega)) gX8_atom_X8_goDeeper rfl hdX8_goDeeper (by decide) (Nat.le_of_ble_eq_true rfl) dX8_atom_47 rfl (fun M116 h117 => ?_)
        obtain ⟨hM116, fM116, h118⟩ := h117
        refine j_aload_n C 1 0 dX8_atom_50 rfl rfl ?_
        refine j_iload_n C 2 1 dX8_atom_51 rfl rfl ?_
        refine y_iconst C dX8_atom_52 ?_
        refine y_iadd C dX8_atom_53 ?_
        refine j_callVv C (d := 17) (As := [.int (sI (1 + 1))]) (st := []) 78 (s_lt rfl rfl) (s_kc (c := 7) rfl rfl) (by decide) rfl (s6_X8_sum hM116 hpr) gX8_atom_X8_sum rfl hdX8_sum (by decide) (Nat.le_of_ble_eq_true rfl) dX8_atom_54 rfl (fun M120 h121 => ?_)
        have hM120 := h121
        refine j_aload_n C 1 0 dX8_atom_57 rfl rfl ?_
        refine y_sipush C dX8_atom_58 rfl ?_
        refine j_callVv C (d := 1) (As := [.int (sI 2041)]) (st := []) 78 (s_lt rfl rfl) (s_kc (c := 7) rfl rfl) (by decide) rfl (s1_X8_expect hM120 hpr 2041 (by omega) (by omega)) gX8_atom_X8_expect rfl hdX8_expect (by decide) (Nat.le_of_ble_eq_true rfl) dX8_atom_61 rfl (fun M124 h125 => ?_)
        obtain ⟨hM124, fM124⟩ := h125
        refine j_goto C 72 dX8_atom_64 (by decide) ?_
        exact hret _ _ _ dX8_atom_72 hM124
    · refine j_aload_n C 1 0 dX8_atom_20 rfl rfl ?_
      refine j_dup C dX8_atom_21 rfl ?_
      refine y_getI C 7 _ _ fX8_atom_18 rfl rfl ft_7_2 sb_7_2 hM0 dX8_atom_22 (fun a127 ea127 la127 ua127 => ?_)
      refine y_iconst C dX8_atom_25 ?_
      refine y_iadd C dX8_atom_26 ?_
      refine y_putI C 7 _ _ qX8_atom_18 rfl rfl ft_7_2 sb_7_2 hM0 (PX.w hpr rfl rfl) dX8_atom_27 (by omega) (fun M129 eM129 hM129 => ?_)
      refine j_aload_n C 1 0 dX8_atom_30 rfl rfl ?_
      refine j_iload_n C 0 2 dX8_atom_31 rfl rfl ?_
      refine j_callVv C (d := 0) (As := [.int (sI a108)]) (st := []) 78 (s_lt rfl rfl) (s_kc (c := 7) rfl rfl) (by decide) rfl (s1_X8_emit hM129 hpr a108 (by omega)) gX8_atom_X8_emit rfl hdX8_emit (by decide) (Nat.le_of_ble_eq_true rfl) dX8_atom_32 rfl (fun M131 h132 => ?_)
      have hM131 := h132
      refine j_goto C 72 dX8_atom_35 (by decide) ?_
      exact hret _ _ _ dX8_atom_72 hM131
  · exact hret _ _ _ dX8_atom_7 hM0
set_option maxHeartbeats 4000000 in
theorem s7_X8_term {l : Launch} {dC : Nat → ClassId} {dI : Nat → Nat → Nat} {ad : Nat → Nat} {cA : Nat → ClassId} {pr : Nat → Nat → Bool} {Kz : mm_M} {M0 : mm_M} (hM0 : INV pr Kz M0) (hpr : PX pr)  : Cv l 19 yX8_term wsX8_term dC dI ad cA [.ref (ad 78), .int (sI 1)] M0 (fun M' => INV pr Kz M') := by
  refine cv_of (cc := cX8_term) (maxL := 3) (lv := [(0, .ref (ad 78)), (1, .int (sI 1))]) (by decide) rfl (Nat.le_of_ble_eq_true rfl) rfl ?_
  intro p e s m args below meth c A Q C hret
  refine j_aload_n C 0 0 dX8_term_0 rfl rfl ?_
  refine j_iload_n C 1 1 dX8_term_1 rfl rfl ?_
  refine j_callVv C (d := 18) (As := [.int (sI 1)]) (st := []) 78 (s_lt rfl rfl) (s_kc (c := 7) rfl rfl) (by decide) rfl (s7_X8_atom hM0 hpr) gX8_term_X8_atom rfl hdX8_atom (by decide) (Nat.le_of_ble_eq_true rfl) dX8_term_2 rfl (fun M102 h103 => ?_)
  have hM102 := h103
  refine y_iconst C dX8_term_5 ?_
  refine j_istore_n C 2 [(2, .int (sI 0)), (0, .ref (ad 78)), (1, .int (sI 1))] dX8_term_6 rfl (by decide) rfl ?_
  have L797 : ∀ (n795 : Nat), ∀ (a798 : Int) (M799 : mm_M), (0 ≤ a798 ∧ a798 ≤ 900 ∧ (900 - a798) < (n795 : Int)) → INV pr Kz M799 → jj p l e (cn_R 19) s m args below meth c 0 0 Q 3 dC dI ad cA A M799 7 [(0, .ref (ad 78)), (1, .int (sI 1)), (2, .int (sI a798))] [] := by
    intro n795
    induction n795 with
    | zero =>
      intro a798 M799 h800 hM799
      exfalso; omega
    | succ n795 ih796 =>
      intro a798 M799 h800 hM799
      refine j_iload_n C 2 2 dX8_term_7 rfl rfl ?_
      refine y_sipush C dX8_term_8 rfl ?_
      refine y_icmp_ge C 59 dX8_term_11 (by decide) (by omega) (fun h801 => ?_) (fun h801 => ?_)
      · exact hret _ _ _ dX8_term_59 hM799
      · refine j_aload_n C 0 0 dX8_term_14 rfl rfl ?_
        refine y_getI C 7 _ _ fX8_term_22 rfl rfl ft_7_5 sb_7_5 hM799 dX8_term_15 (fun a802 ea802 la802 ua802 => ?_)
        refine y_if_ne C 59 dX8_term_18 (by decide) (by omega) (fun h804 => ?_) (fun h804 => ?_)
        · exact hret _ _ _ dX8_term_59 hM799
        · refine j_aload_n C 0 0 dX8_term_21 rfl rfl ?_
          refine j_callVi C (d := 0) (As := []) (st := []) 78 (s_lt rfl rfl) (s_kc (c := 7) rfl rfl) (by decide) rfl (s1_X8_token hM799) gX8_term_X8_token rfl hdX8_token (by decide) (Nat.le_of_ble_eq_true rfl) dX8_term_22 rfl (fun r805 M806 h807 => ?_)
          obtain ⟨a809, rfl, rfl, h808⟩ := h807
          refine y_sipush C dX8_term_25 rfl ?_
          refine y_icmp_ne C 59 dX8_term_28 (by decide) (by omega) (fun h810 => ?_) (fun h810 => ?_)
          · exact hret _ _ _ dX8_term_59 hM799
          · refine j_aload_n C 0 0 dX8_term_31 rfl rfl ?_
            refine j_dup C dX8_term_32 rfl ?_
            refine y_getI C 7 _ _ fX8_term_18 rfl rfl ft_7_2 sb_7_2 hM799 dX8_term_33 (fun a811 ea811 la811 ua811 => ?_)
            refine y_iconst C dX8_term_36 ?_
            refine y_iadd C dX8_term_37 ?_
            refine y_putI C 7 _ _ qX8_term_18 rfl rfl ft_7_2 sb_7_2 hM799 (PX.w hpr rfl rfl) dX8_term_38 (by omega) (fun M813 eM813 hM813 => ?_)
            refine j_aload_n C 0 0 dX8_term_41 rfl rfl ?_
            refine j_iload_n C 1 1 dX8_term_42 rfl rfl ?_
            refine j_callVv C (d := 18) (As := [.int (sI 1)]) (st := []) 78 (s_lt rfl rfl) (s_kc (c := 7) rfl rfl) (by decide) rfl (s7_X8_atom hM813 hpr) gX8_term_X8_atom rfl hdX8_atom (by decide) (Nat.le_of_ble_eq_true rfl) dX8_term_43 rfl (fun M815 h816 => ?_)
            have hM815 := h816
            refine j_aload_n C 0 0 dX8_term_46 rfl rfl ?_
            refine y_sipush C dX8_term_47 rfl ?_
            refine j_callVv C (d := 0) (As := [.int (sI 2042)]) (st := []) 78 (s_lt rfl rfl) (s_kc (c := 7) rfl rfl) (by decide) rfl (s1_X8_emit hM815 hpr 2042 (by omega)) gX8_term_X8_emit rfl hdX8_emit (by decide) (Nat.le_of_ble_eq_true rfl) dX8_term_50 rfl (fun M819 h820 => ?_)
            have hM819 := h820
            refine y_iinc C 2 [(2, .int (sI (a798 + 1))), (0, .ref (ad 78)), (1, .int (sI 1))] dX8_term_53 rfl (by decide) rfl ?_
            refine j_goto C 7 dX8_term_56 (by decide) ?_
            refine j_lv [1, 2, 0] rfl ?_; exact ih796 (a798 + 1) M819 (by omega) hM819
  refine j_lv [1, 2, 0] rfl ?_; exact L797 2010 0 M102 (by omega) hM102
set_option maxHeartbeats 4000000 in
theorem s7_X8_sum {l : Launch} {dC : Nat → ClassId} {dI : Nat → Nat → Nat} {ad : Nat → Nat} {cA : Nat → ClassId} {pr : Nat → Nat → Bool} {Kz : mm_M} {M0 : mm_M} (hM0 : INV pr Kz M0) (hpr : PX pr)  : Cv l 20 yX8_sum wsX8_sum dC dI ad cA [.ref (ad 78), .int (sI 1)] M0 (fun M' => INV pr Kz M') := by
  refine cv_of (cc := cX8_sum) (maxL := 4) (lv := [(0, .ref (ad 78)), (1, .int (sI 1))]) (by decide) rfl (Nat.le_of_ble_eq_true rfl) rfl ?_
  intro p e s m args below meth c A Q C hret
  refine j_aload_n C 0 0 dX8_sum_0 rfl rfl ?_
  refine j_iload_n C 1 1 dX8_sum_1 rfl rfl ?_
  refine j_callVv C (d := 19) (As := [.int (sI 1)]) (st := []) 78 (s_lt rfl rfl) (s_kc (c := 7) rfl rfl) (by decide) rfl (s7_X8_term hM0 hpr) gX8_sum_X8_term rfl hdX8_term (by decide) (Nat.le_of_ble_eq_true rfl) dX8_sum_2 rfl (fun M102 h103 => ?_)
  have hM102 := h103
  refine j_aload_n C 0 0 dX8_sum_5 rfl rfl ?_
  refine j_callVi C (d := 0) (As := []) (st := []) 78 (s_lt rfl rfl) (s_kc (c := 7) rfl rfl) (by decide) rfl (s1_X8_token hM102) gX8_sum_X8_token rfl hdX8_token (by decide) (Nat.le_of_ble_eq_true rfl) dX8_sum_6 rfl (fun r105 M106 h107 => ?_)
  obtain ⟨a109, rfl, rfl, h108⟩ := h107
  refine j_istore_n C 2 [(2, .int (sI a109)), (0, .ref (ad 78)), (1, .int (sI 1))] dX8_sum_9 rfl (by decide) rfl ?_
  refine y_iconst C dX8_sum_10 ?_
  refine j_istore_n C 3 [(3, .int (sI 0)), (2, .int (sI a109)), (0, .ref (ad 78)), (1, .int (sI 1))] dX8_sum_11 rfl (by decide) rfl ?_
  have L1342 : ∀ (n1340 : Nat), ∀ (a1343 : Int) (a1344 : Int) (M1345 : mm_M), ((-2147483648) ≤ a1343 ∧ a1343 ≤ 2147483647 ∧ 0 ≤ a1344 ∧ a1344 ≤ 900 ∧ (a1343 = 3001 ∨ (M1345.1 78 2).toInt < 901) ∧ (900 - a1344) < (n1340 : Int)) → INV pr Kz M1345 → jj p l e (cn_R 20) s m args below meth c 0 0 Q 4 dC dI ad cA A M1345 12 [(0, .ref (ad 78)), (1, .int (sI 1)), (2, .int (sI a1343)), (3, .int (sI a1344))] [] := by
    intro n1340
    induction n1340 with
    | zero =>
      intro a1343 a1344 M1345 h1346 hM1345
      exfalso; omega
    | succ n1340 ih1341 =>
      intro a1343 a1344 M1345 h1346 hM1345
      refine j_iload_n C 3 3 dX8_sum_12 rfl rfl ?_
      refine y_sipush C dX8_sum_13 rfl ?_
      refine y_icmp_ge C 71 dX8_sum_16 (by decide) (by omega) (fun h1347 => ?_) (fun h1347 => ?_)
      · exact hret _ _ _ dX8_sum_71 hM1345
      · refine j_aload_n C 0 0 dX8_sum_19 rfl rfl ?_
        refine y_getI C 7 _ _ fX8_sum_22 rfl rfl ft_7_5 sb_7_5 hM1345 dX8_sum_20 (fun a1348 ea1348 la1348 ua1348 => ?_)
        refine y_if_ne C 71 dX8_sum_23 (by decide) (by omega) (fun h1350 => ?_) (fun h1350 => ?_)
        · exact hret _ _ _ dX8_sum_71 hM1345
        · refine j_iload_n C 2 2 dX8_sum_26 rfl rfl ?_
          refine y_sipush C dX8_sum_27 rfl ?_
          refine y_icmp_eq C 40 dX8_sum_30 (by decide) (by omega) (fun h1351 => ?_) (fun h1351 => ?_)
          · refine j_aload_n C 0 0 dX8_sum_40 rfl rfl ?_
            refine j_dup C dX8_sum_41 rfl ?_
            refine y_getI C 7 _ _ fX8_sum_18 rfl rfl ft_7_2 sb_7_2 hM1345 dX8_sum_42 (fun a1352 ea1352 la1352 ua1352 => ?_)
            refine y_iconst C dX8_sum_45 ?_
            refine y_iadd C dX8_sum_46 ?_
            refine y_putI C 7 _ _ qX8_sum_18 rfl rfl ft_7_2 sb_7_2 hM1345 (PX.w hpr rfl rfl) dX8_sum_47 (by omega) (fun M1354 eM1354 hM1354 => ?_)
            refine j_aload_n C 0 0 dX8_sum_50 rfl rfl ?_
            refine j_iload_n C 1 1 dX8_sum_51 rfl rfl ?_
            refine j_callVv C (d := 19) (As := [.int (sI 1)]) (st := []) 78 (s_lt rfl rfl) (s_kc (c := 7) rfl rfl) (by decide) rfl (s7_X8_term hM1354 hpr) gX8_sum_X8_term rfl hdX8_term (by decide) (Nat.le_of_ble_eq_true rfl) dX8_sum_52 rfl (fun M1356 h1357 => ?_)
            have hM1356 := h1357
            refine j_aload_n C 0 0 dX8_sum_55 rfl rfl ?_
            refine j_iload_n C 2 2 dX8_sum_56 rfl rfl ?_
            refine j_callVv C (d := 0) (As := [.int (sI a1343)]) (st := []) 78 (s_lt rfl rfl) (s_kc (c := 7) rfl rfl) (by decide) rfl (s1_X8_emit hM1356 hpr a1343 (by omega)) gX8_sum_X8_emit rfl hdX8_emit (by decide) (Nat.le_of_ble_eq_true rfl) dX8_sum_57 rfl (fun M1360 h1361 => ?_)
            have hM1360 := h1361
            refine j_aload_n C 0 0 dX8_sum_60 rfl rfl ?_
            refine j_callVi C (d := 0) (As := []) (st := []) 78 (s_lt rfl rfl) (s_kc (c := 7) rfl rfl) (by decide) rfl (s1_X8_token hM1360) gX8_sum_X8_token rfl hdX8_token (by decide) (Nat.le_of_ble_eq_true rfl) dX8_sum_61 rfl (fun r1363 M1364 h1365 => ?_)
            obtain ⟨a1367, rfl, rfl, h1366⟩ := h1365
            refine j_istore_n C 2 [(2, .int (sI a1367)), (0, .ref (ad 78)), (1, .int (sI 1)), (3, .int (sI a1344))] dX8_sum_64 rfl (by decide) rfl ?_
            refine y_iinc C 3 [(3, .int (sI (a1344 + 1))), (2, .int (sI a1367)), (0, .ref (ad 78)), (1, .int (sI 1))] dX8_sum_65 rfl (by decide) rfl ?_
            refine j_goto C 12 dX8_sum_68 (by decide) ?_
            refine j_lv [2, 3, 1, 0] rfl ?_; exact ih1341 a1367 (a1344 + 1) M1360 (by omega) hM1360
          · refine j_iload_n C 2 2 dX8_sum_33 rfl rfl ?_
            refine y_sipush C dX8_sum_34 rfl ?_
            refine y_icmp_ne C 71 dX8_sum_37 (by decide) (by omega) (fun h1368 => ?_) (fun h1368 => ?_)
            · exact hret _ _ _ dX8_sum_71 hM1345
            · refine j_aload_n C 0 0 dX8_sum_40 rfl rfl ?_
              refine j_dup C dX8_sum_41 rfl ?_
              refine y_getI C 7 _ _ fX8_sum_18 rfl rfl ft_7_2 sb_7_2 hM1345 dX8_sum_42 (fun a1369 ea1369 la1369 ua1369 => ?_)
              refine y_iconst C dX8_sum_45 ?_
              refine y_iadd C dX8_sum_46 ?_
              refine y_putI C 7 _ _ qX8_sum_18 rfl rfl ft_7_2 sb_7_2 hM1345 (PX.w hpr rfl rfl) dX8_sum_47 (by omega) (fun M1371 eM1371 hM1371 => ?_)
              refine j_aload_n C 0 0 dX8_sum_50 rfl rfl ?_
              refine j_iload_n C 1 1 dX8_sum_51 rfl rfl ?_
              refine j_callVv C (d := 19) (As := [.int (sI 1)]) (st := []) 78 (s_lt rfl rfl) (s_kc (c := 7) rfl rfl) (by decide) rfl (s7_X8_term hM1371 hpr) gX8_sum_X8_term rfl hdX8_term (by decide) (Nat.le_of_ble_eq_true rfl) dX8_sum_52 rfl (fun M1373 h1374 => ?_)
              have hM1373 := h1374
              refine j_aload_n C 0 0 dX8_sum_55 rfl rfl ?_
              refine j_iload_n C 2 2 dX8_sum_56 rfl rfl ?_
              refine j_callVv C (d := 0) (As := [.int (sI a1343)]) (st := []) 78 (s_lt rfl rfl) (s_kc (c := 7) rfl rfl) (by decide) rfl (s1_X8_emit hM1373 hpr a1343 (by omega)) gX8_sum_X8_emit rfl hdX8_emit (by decide) (Nat.le_of_ble_eq_true rfl) dX8_sum_57 rfl (fun M1377 h1378 => ?_)
              have hM1377 := h1378
              refine j_aload_n C 0 0 dX8_sum_60 rfl rfl ?_
              refine j_callVi C (d := 0) (As := []) (st := []) 78 (s_lt rfl rfl) (s_kc (c := 7) rfl rfl) (by decide) rfl (s1_X8_token hM1377) gX8_sum_X8_token rfl hdX8_token (by decide) (Nat.le_of_ble_eq_true rfl) dX8_sum_61 rfl (fun r1380 M1381 h1382 => ?_)
              obtain ⟨a1384, rfl, rfl, h1383⟩ := h1382
              refine j_istore_n C 2 [(2, .int (sI a1384)), (0, .ref (ad 78)), (1, .int (sI 1)), (3, .int (sI a1344))] dX8_sum_64 rfl (by decide) rfl ?_
              refine y_iinc C 3 [(3, .int (sI (a1344 + 1))), (2, .int (sI a1384)), (0, .ref (ad 78)), (1, .int (sI 1))] dX8_sum_65 rfl (by decide) rfl ?_
              refine j_goto C 12 dX8_sum_68 (by decide) ?_
              refine j_lv [2, 3, 1, 0] rfl ?_; exact ih1341 a1384 (a1344 + 1) M1377 (by omega) hM1377
  refine j_lv [2, 3, 1, 0] rfl ?_; exact L1342 4294967306 a109 0 M102 (by omega) hM102
set_option maxHeartbeats 4000000 in
theorem s8_X8_atom {l : Launch} {dC : Nat → ClassId} {dI : Nat → Nat → Nat} {ad : Nat → Nat} {cA : Nat → ClassId} {pr : Nat → Nat → Bool} {Kz : mm_M} {M0 : mm_M} (hM0 : INV pr Kz M0) (hpr : PX pr)  : Cv l 21 yX8_atom wsX8_atom dC dI ad cA [.ref (ad 78), .int (sI 0)] M0 (fun M' => INV pr Kz M') := by
  refine cv_of (cc := cX8_atom) (maxL := 3) (lv := [(0, .ref (ad 78)), (1, .int (sI 0))]) (by decide) rfl (Nat.le_of_ble_eq_true rfl) rfl ?_
  intro p e s m args below meth c A Q C hret
  refine j_aload_n C 0 0 dX8_atom_0 rfl rfl ?_
  refine y_getI C 7 _ _ fX8_atom_22 rfl rfl ft_7_5 sb_7_5 hM0 dX8_atom_1 (fun a101 ea101 la101 ua101 => ?_)
  refine y_if_eq C 8 dX8_atom_4 (by decide) (by omega) (fun h103 => ?_) (fun h103 => ?_)
  · refine j_aload_n C 0 0 dX8_atom_8 rfl rfl ?_
    refine j_callVi C (d := 0) (As := []) (st := []) 78 (s_lt rfl rfl) (s_kc (c := 7) rfl rfl) (by decide) rfl (s1_X8_token hM0) gX8_atom_X8_token rfl hdX8_token (by decide) (Nat.le_of_ble_eq_true rfl) dX8_atom_9 rfl (fun r104 M105 h106 => ?_)
    obtain ⟨a108, rfl, rfl, h107⟩ := h106
    refine j_istore_n C 2 [(2, .int (sI a108)), (0, .ref (ad 78)), (1, .int (sI 0))] dX8_atom_12 rfl (by decide) rfl ?_
    refine j_iload_n C 0 2 dX8_atom_13 rfl rfl ?_
    refine y_sipush C dX8_atom_14 rfl ?_
    refine y_icmp_ge C 38 dX8_atom_17 (by decide) (by omega) (fun h109 => ?_) (fun h109 => ?_)
    · refine j_iload_n C 0 2 dX8_atom_38 rfl rfl ?_
      refine y_sipush C dX8_atom_39 rfl ?_
      refine y_icmp_ne C 67 dX8_atom_42 (by decide) (by omega) (fun h110 => ?_) (fun h110 => ?_)
      · refine j_aload_n C 1 0 dX8_atom_67 rfl rfl ?_
        refine y_iconst C dX8_atom_68 ?_
        refine j_callVv C (d := 0) (As := [.int (sI 2)]) (st := []) 78 (s_lt rfl rfl) (s_kc (c := 7) rfl rfl) (by decide) rfl (s1_X8_fail hM0 hpr 2 (by omega) (by omega)) gX8_atom_X8_fail rfl hdX8_fail (by decide) (Nat.le_of_ble_eq_true rfl) dX8_atom_69 rfl (fun M112 h113 => ?_)
        obtain ⟨hM112, fM112, h114⟩ := h113
        exact hret _ _ _ dX8_atom_72 hM112
      · refine j_aload_n C 1 0 dX8_atom_45 rfl rfl ?_
        refine j_iload_n C 2 1 dX8_atom_46 rfl rfl ?_
        refine j_callVv C (d := 0) (As := [.int (sI 0)]) (st := []) 78 (s_lt rfl rfl) (s_kc (c := 7) rfl rfl) (by decide) rfl (s1_X8_goDeeper hM0 hpr (by omega)) gX8_atom_X8_goDeeper rfl hdX8_goDeeper (by decide) (Nat.le_of_ble_eq_true rfl) dX8_atom_47 rfl (fun M116 h117 => ?_)
        obtain ⟨hM116, fM116, h118⟩ := h117
        refine j_aload_n C 1 0 dX8_atom_50 rfl rfl ?_
        refine j_iload_n C 2 1 dX8_atom_51 rfl rfl ?_
        refine y_iconst C dX8_atom_52 ?_
        refine y_iadd C dX8_atom_53 ?_
        refine j_callVv C (d := 20) (As := [.int (sI (0 + 1))]) (st := []) 78 (s_lt rfl rfl) (s_kc (c := 7) rfl rfl) (by decide) rfl (s7_X8_sum hM116 hpr) gX8_atom_X8_sum rfl hdX8_sum (by decide) (Nat.le_of_ble_eq_true rfl) dX8_atom_54 rfl (fun M120 h121 => ?_)
        have hM120 := h121
        refine j_aload_n C 1 0 dX8_atom_57 rfl rfl ?_
        refine y_sipush C dX8_atom_58 rfl ?_
        refine j_callVv C (d := 1) (As := [.int (sI 2041)]) (st := []) 78 (s_lt rfl rfl) (s_kc (c := 7) rfl rfl) (by decide) rfl (s1_X8_expect hM120 hpr 2041 (by omega) (by omega)) gX8_atom_X8_expect rfl hdX8_expect (by decide) (Nat.le_of_ble_eq_true rfl) dX8_atom_61 rfl (fun M124 h125 => ?_)
        obtain ⟨hM124, fM124⟩ := h125
        refine j_goto C 72 dX8_atom_64 (by decide) ?_
        exact hret _ _ _ dX8_atom_72 hM124
    · refine j_aload_n C 1 0 dX8_atom_20 rfl rfl ?_
      refine j_dup C dX8_atom_21 rfl ?_
      refine y_getI C 7 _ _ fX8_atom_18 rfl rfl ft_7_2 sb_7_2 hM0 dX8_atom_22 (fun a127 ea127 la127 ua127 => ?_)
      refine y_iconst C dX8_atom_25 ?_
      refine y_iadd C dX8_atom_26 ?_
      refine y_putI C 7 _ _ qX8_atom_18 rfl rfl ft_7_2 sb_7_2 hM0 (PX.w hpr rfl rfl) dX8_atom_27 (by omega) (fun M129 eM129 hM129 => ?_)
      refine j_aload_n C 1 0 dX8_atom_30 rfl rfl ?_
      refine j_iload_n C 0 2 dX8_atom_31 rfl rfl ?_
      refine j_callVv C (d := 0) (As := [.int (sI a108)]) (st := []) 78 (s_lt rfl rfl) (s_kc (c := 7) rfl rfl) (by decide) rfl (s1_X8_emit hM129 hpr a108 (by omega)) gX8_atom_X8_emit rfl hdX8_emit (by decide) (Nat.le_of_ble_eq_true rfl) dX8_atom_32 rfl (fun M131 h132 => ?_)
      have hM131 := h132
      refine j_goto C 72 dX8_atom_35 (by decide) ?_
      exact hret _ _ _ dX8_atom_72 hM131
  · exact hret _ _ _ dX8_atom_7 hM0
set_option maxHeartbeats 4000000 in
theorem s8_X8_term {l : Launch} {dC : Nat → ClassId} {dI : Nat → Nat → Nat} {ad : Nat → Nat} {cA : Nat → ClassId} {pr : Nat → Nat → Bool} {Kz : mm_M} {M0 : mm_M} (hM0 : INV pr Kz M0) (hpr : PX pr)  : Cv l 22 yX8_term wsX8_term dC dI ad cA [.ref (ad 78), .int (sI 0)] M0 (fun M' => INV pr Kz M') := by
  refine cv_of (cc := cX8_term) (maxL := 3) (lv := [(0, .ref (ad 78)), (1, .int (sI 0))]) (by decide) rfl (Nat.le_of_ble_eq_true rfl) rfl ?_
  intro p e s m args below meth c A Q C hret
  refine j_aload_n C 0 0 dX8_term_0 rfl rfl ?_
  refine j_iload_n C 1 1 dX8_term_1 rfl rfl ?_
  refine j_callVv C (d := 21) (As := [.int (sI 0)]) (st := []) 78 (s_lt rfl rfl) (s_kc (c := 7) rfl rfl) (by decide) rfl (s8_X8_atom hM0 hpr) gX8_term_X8_atom rfl hdX8_atom (by decide) (Nat.le_of_ble_eq_true rfl) dX8_term_2 rfl (fun M102 h103 => ?_)
  have hM102 := h103
  refine y_iconst C dX8_term_5 ?_
  refine j_istore_n C 2 [(2, .int (sI 0)), (0, .ref (ad 78)), (1, .int (sI 0))] dX8_term_6 rfl (by decide) rfl ?_
  have L797 : ∀ (n795 : Nat), ∀ (a798 : Int) (M799 : mm_M), (0 ≤ a798 ∧ a798 ≤ 900 ∧ (900 - a798) < (n795 : Int)) → INV pr Kz M799 → jj p l e (cn_R 22) s m args below meth c 0 0 Q 3 dC dI ad cA A M799 7 [(0, .ref (ad 78)), (1, .int (sI 0)), (2, .int (sI a798))] [] := by
    intro n795
    induction n795 with
    | zero =>
      intro a798 M799 h800 hM799
      exfalso; omega
    | succ n795 ih796 =>
      intro a798 M799 h800 hM799
      refine j_iload_n C 2 2 dX8_term_7 rfl rfl ?_
      refine y_sipush C dX8_term_8 rfl ?_
      refine y_icmp_ge C 59 dX8_term_11 (by decide) (by omega) (fun h801 => ?_) (fun h801 => ?_)
      · exact hret _ _ _ dX8_term_59 hM799
      · refine j_aload_n C 0 0 dX8_term_14 rfl rfl ?_
        refine y_getI C 7 _ _ fX8_term_22 rfl rfl ft_7_5 sb_7_5 hM799 dX8_term_15 (fun a802 ea802 la802 ua802 => ?_)
        refine y_if_ne C 59 dX8_term_18 (by decide) (by omega) (fun h804 => ?_) (fun h804 => ?_)
        · exact hret _ _ _ dX8_term_59 hM799
        · refine j_aload_n C 0 0 dX8_term_21 rfl rfl ?_
          refine j_callVi C (d := 0) (As := []) (st := []) 78 (s_lt rfl rfl) (s_kc (c := 7) rfl rfl) (by decide) rfl (s1_X8_token hM799) gX8_term_X8_token rfl hdX8_token (by decide) (Nat.le_of_ble_eq_true rfl) dX8_term_22 rfl (fun r805 M806 h807 => ?_)
          obtain ⟨a809, rfl, rfl, h808⟩ := h807
          refine y_sipush C dX8_term_25 rfl ?_
          refine y_icmp_ne C 59 dX8_term_28 (by decide) (by omega) (fun h810 => ?_) (fun h810 => ?_)
          · exact hret _ _ _ dX8_term_59 hM799
          · refine j_aload_n C 0 0 dX8_term_31 rfl rfl ?_
            refine j_dup C dX8_term_32 rfl ?_
            refine y_getI C 7 _ _ fX8_term_18 rfl rfl ft_7_2 sb_7_2 hM799 dX8_term_33 (fun a811 ea811 la811 ua811 => ?_)
            refine y_iconst C dX8_term_36 ?_
            refine y_iadd C dX8_term_37 ?_
            refine y_putI C 7 _ _ qX8_term_18 rfl rfl ft_7_2 sb_7_2 hM799 (PX.w hpr rfl rfl) dX8_term_38 (by omega) (fun M813 eM813 hM813 => ?_)
            refine j_aload_n C 0 0 dX8_term_41 rfl rfl ?_
            refine j_iload_n C 1 1 dX8_term_42 rfl rfl ?_
            refine j_callVv C (d := 21) (As := [.int (sI 0)]) (st := []) 78 (s_lt rfl rfl) (s_kc (c := 7) rfl rfl) (by decide) rfl (s8_X8_atom hM813 hpr) gX8_term_X8_atom rfl hdX8_atom (by decide) (Nat.le_of_ble_eq_true rfl) dX8_term_43 rfl (fun M815 h816 => ?_)
            have hM815 := h816
            refine j_aload_n C 0 0 dX8_term_46 rfl rfl ?_
            refine y_sipush C dX8_term_47 rfl ?_
            refine j_callVv C (d := 0) (As := [.int (sI 2042)]) (st := []) 78 (s_lt rfl rfl) (s_kc (c := 7) rfl rfl) (by decide) rfl (s1_X8_emit hM815 hpr 2042 (by omega)) gX8_term_X8_emit rfl hdX8_emit (by decide) (Nat.le_of_ble_eq_true rfl) dX8_term_50 rfl (fun M819 h820 => ?_)
            have hM819 := h820
            refine y_iinc C 2 [(2, .int (sI (a798 + 1))), (0, .ref (ad 78)), (1, .int (sI 0))] dX8_term_53 rfl (by decide) rfl ?_
            refine j_goto C 7 dX8_term_56 (by decide) ?_
            refine j_lv [1, 2, 0] rfl ?_; exact ih796 (a798 + 1) M819 (by omega) hM819
  refine j_lv [1, 2, 0] rfl ?_; exact L797 2010 0 M102 (by omega) hM102
set_option maxHeartbeats 4000000 in
theorem s8_X8_sum {l : Launch} {dC : Nat → ClassId} {dI : Nat → Nat → Nat} {ad : Nat → Nat} {cA : Nat → ClassId} {pr : Nat → Nat → Bool} {Kz : mm_M} {M0 : mm_M} (hM0 : INV pr Kz M0) (hpr : PX pr)  : Cv l 23 yX8_sum wsX8_sum dC dI ad cA [.ref (ad 78), .int (sI 0)] M0 (fun M' => INV pr Kz M') := by
  refine cv_of (cc := cX8_sum) (maxL := 4) (lv := [(0, .ref (ad 78)), (1, .int (sI 0))]) (by decide) rfl (Nat.le_of_ble_eq_true rfl) rfl ?_
  intro p e s m args below meth c A Q C hret
  refine j_aload_n C 0 0 dX8_sum_0 rfl rfl ?_
  refine j_iload_n C 1 1 dX8_sum_1 rfl rfl ?_
  refine j_callVv C (d := 22) (As := [.int (sI 0)]) (st := []) 78 (s_lt rfl rfl) (s_kc (c := 7) rfl rfl) (by decide) rfl (s8_X8_term hM0 hpr) gX8_sum_X8_term rfl hdX8_term (by decide) (Nat.le_of_ble_eq_true rfl) dX8_sum_2 rfl (fun M102 h103 => ?_)
  have hM102 := h103
  refine j_aload_n C 0 0 dX8_sum_5 rfl rfl ?_
  refine j_callVi C (d := 0) (As := []) (st := []) 78 (s_lt rfl rfl) (s_kc (c := 7) rfl rfl) (by decide) rfl (s1_X8_token hM102) gX8_sum_X8_token rfl hdX8_token (by decide) (Nat.le_of_ble_eq_true rfl) dX8_sum_6 rfl (fun r105 M106 h107 => ?_)
  obtain ⟨a109, rfl, rfl, h108⟩ := h107
  refine j_istore_n C 2 [(2, .int (sI a109)), (0, .ref (ad 78)), (1, .int (sI 0))] dX8_sum_9 rfl (by decide) rfl ?_
  refine y_iconst C dX8_sum_10 ?_
  refine j_istore_n C 3 [(3, .int (sI 0)), (2, .int (sI a109)), (0, .ref (ad 78)), (1, .int (sI 0))] dX8_sum_11 rfl (by decide) rfl ?_
  have L1342 : ∀ (n1340 : Nat), ∀ (a1343 : Int) (a1344 : Int) (M1345 : mm_M), ((-2147483648) ≤ a1343 ∧ a1343 ≤ 2147483647 ∧ 0 ≤ a1344 ∧ a1344 ≤ 900 ∧ (a1343 = 3001 ∨ (M1345.1 78 2).toInt < 901) ∧ (900 - a1344) < (n1340 : Int)) → INV pr Kz M1345 → jj p l e (cn_R 23) s m args below meth c 0 0 Q 4 dC dI ad cA A M1345 12 [(0, .ref (ad 78)), (1, .int (sI 0)), (2, .int (sI a1343)), (3, .int (sI a1344))] [] := by
    intro n1340
    induction n1340 with
    | zero =>
      intro a1343 a1344 M1345 h1346 hM1345
      exfalso; omega
    | succ n1340 ih1341 =>
      intro a1343 a1344 M1345 h1346 hM1345
      refine j_iload_n C 3 3 dX8_sum_12 rfl rfl ?_
      refine y_sipush C dX8_sum_13 rfl ?_
      refine y_icmp_ge C 71 dX8_sum_16 (by decide) (by omega) (fun h1347 => ?_) (fun h1347 => ?_)
      · exact hret _ _ _ dX8_sum_71 hM1345
      · refine j_aload_n C 0 0 dX8_sum_19 rfl rfl ?_
        refine y_getI C 7 _ _ fX8_sum_22 rfl rfl ft_7_5 sb_7_5 hM1345 dX8_sum_20 (fun a1348 ea1348 la1348 ua1348 => ?_)
        refine y_if_ne C 71 dX8_sum_23 (by decide) (by omega) (fun h1350 => ?_) (fun h1350 => ?_)
        · exact hret _ _ _ dX8_sum_71 hM1345
        · refine j_iload_n C 2 2 dX8_sum_26 rfl rfl ?_
          refine y_sipush C dX8_sum_27 rfl ?_
          refine y_icmp_eq C 40 dX8_sum_30 (by decide) (by omega) (fun h1351 => ?_) (fun h1351 => ?_)
          · refine j_aload_n C 0 0 dX8_sum_40 rfl rfl ?_
            refine j_dup C dX8_sum_41 rfl ?_
            refine y_getI C 7 _ _ fX8_sum_18 rfl rfl ft_7_2 sb_7_2 hM1345 dX8_sum_42 (fun a1352 ea1352 la1352 ua1352 => ?_)
            refine y_iconst C dX8_sum_45 ?_
            refine y_iadd C dX8_sum_46 ?_
            refine y_putI C 7 _ _ qX8_sum_18 rfl rfl ft_7_2 sb_7_2 hM1345 (PX.w hpr rfl rfl) dX8_sum_47 (by omega) (fun M1354 eM1354 hM1354 => ?_)
            refine j_aload_n C 0 0 dX8_sum_50 rfl rfl ?_
            refine j_iload_n C 1 1 dX8_sum_51 rfl rfl ?_
            refine j_callVv C (d := 22) (As := [.int (sI 0)]) (st := []) 78 (s_lt rfl rfl) (s_kc (c := 7) rfl rfl) (by decide) rfl (s8_X8_term hM1354 hpr) gX8_sum_X8_term rfl hdX8_term (by decide) (Nat.le_of_ble_eq_true rfl) dX8_sum_52 rfl (fun M1356 h1357 => ?_)
            have hM1356 := h1357
            refine j_aload_n C 0 0 dX8_sum_55 rfl rfl ?_
            refine j_iload_n C 2 2 dX8_sum_56 rfl rfl ?_
            refine j_callVv C (d := 0) (As := [.int (sI a1343)]) (st := []) 78 (s_lt rfl rfl) (s_kc (c := 7) rfl rfl) (by decide) rfl (s1_X8_emit hM1356 hpr a1343 (by omega)) gX8_sum_X8_emit rfl hdX8_emit (by decide) (Nat.le_of_ble_eq_true rfl) dX8_sum_57 rfl (fun M1360 h1361 => ?_)
            have hM1360 := h1361
            refine j_aload_n C 0 0 dX8_sum_60 rfl rfl ?_
            refine j_callVi C (d := 0) (As := []) (st := []) 78 (s_lt rfl rfl) (s_kc (c := 7) rfl rfl) (by decide) rfl (s1_X8_token hM1360) gX8_sum_X8_token rfl hdX8_token (by decide) (Nat.le_of_ble_eq_true rfl) dX8_sum_61 rfl (fun r1363 M1364 h1365 => ?_)
            obtain ⟨a1367, rfl, rfl, h1366⟩ := h1365
            refine j_istore_n C 2 [(2, .int (sI a1367)), (0, .ref (ad 78)), (1, .int (sI 0)), (3, .int (sI a1344))] dX8_sum_64 rfl (by decide) rfl ?_
            refine y_iinc C 3 [(3, .int (sI (a1344 + 1))), (2, .int (sI a1367)), (0, .ref (ad 78)), (1, .int (sI 0))] dX8_sum_65 rfl (by decide) rfl ?_
            refine j_goto C 12 dX8_sum_68 (by decide) ?_
            refine j_lv [2, 3, 1, 0] rfl ?_; exact ih1341 a1367 (a1344 + 1) M1360 (by omega) hM1360
          · refine j_iload_n C 2 2 dX8_sum_33 rfl rfl ?_
            refine y_sipush C dX8_sum_34 rfl ?_
            refine y_icmp_ne C 71 dX8_sum_37 (by decide) (by omega) (fun h1368 => ?_) (fun h1368 => ?_)
            · exact hret _ _ _ dX8_sum_71 hM1345
            · refine j_aload_n C 0 0 dX8_sum_40 rfl rfl ?_
              refine j_dup C dX8_sum_41 rfl ?_
              refine y_getI C 7 _ _ fX8_sum_18 rfl rfl ft_7_2 sb_7_2 hM1345 dX8_sum_42 (fun a1369 ea1369 la1369 ua1369 => ?_)
              refine y_iconst C dX8_sum_45 ?_
              refine y_iadd C dX8_sum_46 ?_
              refine y_putI C 7 _ _ qX8_sum_18 rfl rfl ft_7_2 sb_7_2 hM1345 (PX.w hpr rfl rfl) dX8_sum_47 (by omega) (fun M1371 eM1371 hM1371 => ?_)
              refine j_aload_n C 0 0 dX8_sum_50 rfl rfl ?_
              refine j_iload_n C 1 1 dX8_sum_51 rfl rfl ?_
              refine j_callVv C (d := 22) (As := [.int (sI 0)]) (st := []) 78 (s_lt rfl rfl) (s_kc (c := 7) rfl rfl) (by decide) rfl (s8_X8_term hM1371 hpr) gX8_sum_X8_term rfl hdX8_term (by decide) (Nat.le_of_ble_eq_true rfl) dX8_sum_52 rfl (fun M1373 h1374 => ?_)
              have hM1373 := h1374
              refine j_aload_n C 0 0 dX8_sum_55 rfl rfl ?_
              refine j_iload_n C 2 2 dX8_sum_56 rfl rfl ?_
              refine j_callVv C (d := 0) (As := [.int (sI a1343)]) (st := []) 78 (s_lt rfl rfl) (s_kc (c := 7) rfl rfl) (by decide) rfl (s1_X8_emit hM1373 hpr a1343 (by omega)) gX8_sum_X8_emit rfl hdX8_emit (by decide) (Nat.le_of_ble_eq_true rfl) dX8_sum_57 rfl (fun M1377 h1378 => ?_)
              have hM1377 := h1378
              refine j_aload_n C 0 0 dX8_sum_60 rfl rfl ?_
              refine j_callVi C (d := 0) (As := []) (st := []) 78 (s_lt rfl rfl) (s_kc (c := 7) rfl rfl) (by decide) rfl (s1_X8_token hM1377) gX8_sum_X8_token rfl hdX8_token (by decide) (Nat.le_of_ble_eq_true rfl) dX8_sum_61 rfl (fun r1380 M1381 h1382 => ?_)
              obtain ⟨a1384, rfl, rfl, h1383⟩ := h1382
              refine j_istore_n C 2 [(2, .int (sI a1384)), (0, .ref (ad 78)), (1, .int (sI 0)), (3, .int (sI a1344))] dX8_sum_64 rfl (by decide) rfl ?_
              refine y_iinc C 3 [(3, .int (sI (a1344 + 1))), (2, .int (sI a1384)), (0, .ref (ad 78)), (1, .int (sI 0))] dX8_sum_65 rfl (by decide) rfl ?_
              refine j_goto C 12 dX8_sum_68 (by decide) ?_
              refine j_lv [2, 3, 1, 0] rfl ?_; exact ih1341 a1384 (a1344 + 1) M1377 (by omega) hM1377
  refine j_lv [2, 3, 1, 0] rfl ?_; exact L1342 4294967306 a109 0 M102 (by omega) hM102
set_option maxHeartbeats 4000000 in
theorem s1_X8_unit {l : Launch} {dC : Nat → ClassId} {dI : Nat → Nat → Nat} {ad : Nat → Nat} {cA : Nat → ClassId} {pr : Nat → Nat → Bool} {Kz : mm_M} {M0 : mm_M} (hM0 : INV pr Kz M0) (hpr : PX pr)  (hp0 : 1 ≤ (M0.1 78 5).toInt ∧ (M0.1 78 5).toInt ≤ 4) : Cv l 0 yX8_unit wsX8_unit dC dI ad cA [.ref (ad 78), .int (sI 7)] M0 (fun M' => INV pr Kz M' ∧ (1 ≤ (M'.1 78 5).toInt ∧ (M'.1 78 5).toInt ≤ 4)) := by
  refine cv_of (cc := cX8_unit) (maxL := 4) (lv := [(0, .ref (ad 78)), (1, .int (sI 7))]) (by decide) rfl (Nat.le_of_ble_eq_true rfl) rfl ?_
  intro p e s m args below meth c A Q C hret
  refine j_aload_n C 0 0 dX8_unit_0 rfl rfl ?_
  refine y_getI C 7 _ _ fX8_unit_22 rfl rfl ft_7_5 sb_7_5 hM0 dX8_unit_1 (fun a101 ea101 la101 ua101 => ?_)
  refine y_if_eq C 8 dX8_unit_4 (by decide) (by omega) (fun h103 => ?_) (fun h103 => ?_)
  · exfalso; omega
  · exact hret _ _ _ dX8_unit_7 ⟨hM0, by omega⟩
set_option maxHeartbeats 4000000 in
theorem s1_X8_both {l : Launch} {dC : Nat → ClassId} {dI : Nat → Nat → Nat} {ad : Nat → Nat} {cA : Nat → ClassId} {pr : Nat → Nat → Bool} {Kz : mm_M} {M0 : mm_M} (hM0 : INV pr Kz M0) (hpr : PX pr)  (hp0 : 1 ≤ (M0.1 78 5).toInt ∧ (M0.1 78 5).toInt ≤ 4) : Cv l 1 yX8_both wsX8_both dC dI ad cA [.ref (ad 78), .int (sI 7)] M0 (fun M' => INV pr Kz M' ∧ (1 ≤ (M'.1 78 5).toInt ∧ (M'.1 78 5).toInt ≤ 4)) := by
  refine cv_of (cc := cX8_both) (maxL := 3) (lv := [(0, .ref (ad 78)), (1, .int (sI 7))]) (by decide) rfl (Nat.le_of_ble_eq_true rfl) rfl ?_
  intro p e s m args below meth c A Q C hret
  refine j_aload_n C 0 0 dX8_both_0 rfl rfl ?_
  refine j_iload_n C 1 1 dX8_both_1 rfl rfl ?_
  have z101 := (hM0).rd (i := 78) (c := 7) (k := 5) rfl sb_7_5
  refine j_callVv C (d := 0) (As := [.int (sI 7)]) (st := []) 78 (s_lt rfl rfl) (s_kc (c := 7) rfl rfl) (by decide) rfl (s1_X8_unit hM0 hpr (by omega)) gX8_both_X8_unit rfl hdX8_unit (by decide) (Nat.le_of_ble_eq_true rfl) dX8_both_2 rfl (fun M103 h104 => ?_)
  obtain ⟨hM103, h105⟩ := h104
  refine y_iconst C dX8_both_5 ?_
  refine j_istore_n C 2 [(2, .int (sI 0)), (0, .ref (ad 78)), (1, .int (sI 7))] dX8_both_6 rfl (by decide) rfl ?_
  have L114 : ∀ (n112 : Nat), ∀ (a115 : Int) (M116 : mm_M), (0 ≤ a115 ∧ a115 ≤ 0 ∧ (1 ≤ (M116.1 78 5).toInt ∧ (M116.1 78 5).toInt ≤ 4) ∧ 0 < (n112 : Int)) → INV pr Kz M116 → jj p l e (cn_R 1) s m args below meth c 0 0 Q 3 dC dI ad cA A M116 7 [(0, .ref (ad 78)), (1, .int (sI 7)), (2, .int (sI a115))] [] := by
    intro n112
    induction n112 with
    | zero =>
      intro a115 M116 h117 hM116
      exfalso; omega
    | succ n112 ih113 =>
      intro a115 M116 h117 hM116
      refine j_iload_n C 2 2 dX8_both_7 rfl rfl ?_
      refine y_sipush C dX8_both_8 rfl ?_
      refine y_icmp_ge C 59 dX8_both_11 (by decide) (by omega) (fun h118 => ?_) (fun h118 => ?_)
      · exfalso; omega
      · refine j_aload_n C 0 0 dX8_both_14 rfl rfl ?_
        refine y_getI C 7 _ _ fX8_both_22 rfl rfl ft_7_5 sb_7_5 hM116 dX8_both_15 (fun a119 ea119 la119 ua119 => ?_)
        refine y_if_ne C 59 dX8_both_18 (by decide) (by omega) (fun h121 => ?_) (fun h121 => ?_)
        · exact hret _ _ _ dX8_both_59 ⟨hM116, by omega⟩
        · exfalso; omega
  refine j_lv [1, 2, 0] rfl ?_; exact L114 2010 0 M103 (by omega) hM103
set_option maxHeartbeats 4000000 in
theorem s1_X8_truth {l : Launch} {dC : Nat → ClassId} {dI : Nat → Nat → Nat} {ad : Nat → Nat} {cA : Nat → ClassId} {pr : Nat → Nat → Bool} {Kz : mm_M} {M0 : mm_M} (hM0 : INV pr Kz M0) (hpr : PX pr)  (hp0 : 1 ≤ (M0.1 78 5).toInt ∧ (M0.1 78 5).toInt ≤ 4) : Cv l 2 yX8_truth wsX8_truth dC dI ad cA [.ref (ad 78), .int (sI 7)] M0 (fun M' => INV pr Kz M' ∧ (1 ≤ (M'.1 78 5).toInt ∧ (M'.1 78 5).toInt ≤ 4)) := by
  refine cv_of (cc := cX8_truth) (maxL := 3) (lv := [(0, .ref (ad 78)), (1, .int (sI 7))]) (by decide) rfl (Nat.le_of_ble_eq_true rfl) rfl ?_
  intro p e s m args below meth c A Q C hret
  refine j_aload_n C 0 0 dX8_truth_0 rfl rfl ?_
  refine j_iload_n C 1 1 dX8_truth_1 rfl rfl ?_
  have z101 := (hM0).rd (i := 78) (c := 7) (k := 5) rfl sb_7_5
  refine j_callVv C (d := 1) (As := [.int (sI 7)]) (st := []) 78 (s_lt rfl rfl) (s_kc (c := 7) rfl rfl) (by decide) rfl (s1_X8_both hM0 hpr (by omega)) gX8_truth_X8_both rfl hdX8_both (by decide) (Nat.le_of_ble_eq_true rfl) dX8_truth_2 rfl (fun M103 h104 => ?_)
  obtain ⟨hM103, h105⟩ := h104
  refine y_iconst C dX8_truth_5 ?_
  refine j_istore_n C 2 [(2, .int (sI 0)), (0, .ref (ad 78)), (1, .int (sI 7))] dX8_truth_6 rfl (by decide) rfl ?_
  have L114 : ∀ (n112 : Nat), ∀ (a115 : Int) (M116 : mm_M), (0 ≤ a115 ∧ a115 ≤ 0 ∧ (1 ≤ (M116.1 78 5).toInt ∧ (M116.1 78 5).toInt ≤ 4) ∧ 0 < (n112 : Int)) → INV pr Kz M116 → jj p l e (cn_R 2) s m args below meth c 0 0 Q 3 dC dI ad cA A M116 7 [(0, .ref (ad 78)), (1, .int (sI 7)), (2, .int (sI a115))] [] := by
    intro n112
    induction n112 with
    | zero =>
      intro a115 M116 h117 hM116
      exfalso; omega
    | succ n112 ih113 =>
      intro a115 M116 h117 hM116
      refine j_iload_n C 2 2 dX8_truth_7 rfl rfl ?_
      refine y_sipush C dX8_truth_8 rfl ?_
      refine y_icmp_ge C 59 dX8_truth_11 (by decide) (by omega) (fun h118 => ?_) (fun h118 => ?_)
      · exfalso; omega
      · refine j_aload_n C 0 0 dX8_truth_14 rfl rfl ?_
        refine y_getI C 7 _ _ fX8_truth_22 rfl rfl ft_7_5 sb_7_5 hM116 dX8_truth_15 (fun a119 ea119 la119 ua119 => ?_)
        refine y_if_ne C 59 dX8_truth_18 (by decide) (by omega) (fun h121 => ?_) (fun h121 => ?_)
        · exact hret _ _ _ dX8_truth_59 ⟨hM116, by omega⟩
        · exfalso; omega
  refine j_lv [1, 2, 0] rfl ?_; exact L114 2010 0 M103 (by omega) hM103
set_option maxHeartbeats 4000000 in
theorem s2_X8_unit {l : Launch} {dC : Nat → ClassId} {dI : Nat → Nat → Nat} {ad : Nat → Nat} {cA : Nat → ClassId} {pr : Nat → Nat → Bool} {Kz : mm_M} {M0 : mm_M} (hM0 : INV pr Kz M0) (hpr : PX pr)  : Cv l 6 yX8_unit wsX8_unit dC dI ad cA [.ref (ad 78), .int (sI 6)] M0 (fun M' => INV pr Kz M') := by
  refine cv_of (cc := cX8_unit) (maxL := 4) (lv := [(0, .ref (ad 78)), (1, .int (sI 6))]) (by decide) rfl (Nat.le_of_ble_eq_true rfl) rfl ?_
  intro p e s m args below meth c A Q C hret
  refine j_aload_n C 0 0 dX8_unit_0 rfl rfl ?_
  refine y_getI C 7 _ _ fX8_unit_22 rfl rfl ft_7_5 sb_7_5 hM0 dX8_unit_1 (fun a101 ea101 la101 ua101 => ?_)
  refine y_if_eq C 8 dX8_unit_4 (by decide) (by omega) (fun h103 => ?_) (fun h103 => ?_)
  · refine j_aload_n C 0 0 dX8_unit_8 rfl rfl ?_
    refine j_callVi C (d := 0) (As := []) (st := []) 78 (s_lt rfl rfl) (s_kc (c := 7) rfl rfl) (by decide) rfl (s1_X8_token hM0) gX8_unit_X8_token rfl hdX8_token (by decide) (Nat.le_of_ble_eq_true rfl) dX8_unit_9 rfl (fun r104 M105 h106 => ?_)
    obtain ⟨a108, rfl, rfl, h107⟩ := h106
    refine j_istore_n C 2 [(2, .int (sI a108)), (0, .ref (ad 78)), (1, .int (sI 6))] dX8_unit_12 rfl (by decide) rfl ?_
    refine j_iload_n C 0 2 dX8_unit_13 rfl rfl ?_
    refine y_sipush C dX8_unit_14 rfl ?_
    refine y_icmp_ne C 42 dX8_unit_17 (by decide) (by omega) (fun h109 => ?_) (fun h109 => ?_)
    · refine j_iload_n C 0 2 dX8_unit_42 rfl rfl ?_
      refine y_sipush C dX8_unit_43 rfl ?_
      refine y_icmp_ne C 71 dX8_unit_46 (by decide) (by omega) (fun h110 => ?_) (fun h110 => ?_)
      · refine j_aload_n C 1 0 dX8_unit_71 rfl rfl ?_
        refine j_iload_n C 2 1 dX8_unit_72 rfl rfl ?_
        refine j_callVv C (d := 5) (As := [.int (sI 6)]) (st := []) 78 (s_lt rfl rfl) (s_kc (c := 7) rfl rfl) (by decide) rfl (s2_X8_sum hM0 hpr) gX8_unit_X8_sum rfl hdX8_sum (by decide) (Nat.le_of_ble_eq_true rfl) dX8_unit_73 rfl (fun M112 h113 => ?_)
        have hM112 := h113
        refine j_aload_n C 1 0 dX8_unit_76 rfl rfl ?_
        refine j_callVi C (d := 0) (As := []) (st := []) 78 (s_lt rfl rfl) (s_kc (c := 7) rfl rfl) (by decide) rfl (s1_X8_token hM112) gX8_unit_X8_token rfl hdX8_token (by decide) (Nat.le_of_ble_eq_true rfl) dX8_unit_77 rfl (fun r115 M116 h117 => ?_)
        obtain ⟨a119, rfl, rfl, h118⟩ := h117
        refine j_istore_n C 3 [(3, .int (sI a119)), (2, .int (sI a108)), (0, .ref (ad 78)), (1, .int (sI 6))] dX8_unit_80 rfl (by decide) rfl ?_
        refine j_iload_n C 0 3 dX8_unit_81 rfl rfl ?_
        refine y_sipush C dX8_unit_82 rfl ?_
        refine y_icmp_eq C 102 dX8_unit_85 (by decide) (by omega) (fun h120 => ?_) (fun h120 => ?_)
        · refine j_aload_n C 2 0 dX8_unit_102 rfl rfl ?_
          refine j_dup C dX8_unit_103 rfl ?_
          refine y_getI C 7 _ _ fX8_unit_18 rfl rfl ft_7_2 sb_7_2 hM112 dX8_unit_104 (fun a121 ea121 la121 ua121 => ?_)
          refine y_iconst C dX8_unit_107 ?_
          refine y_iadd C dX8_unit_108 ?_
          refine y_putI C 7 _ _ qX8_unit_18 rfl rfl ft_7_2 sb_7_2 hM112 (PX.w hpr rfl rfl) dX8_unit_109 (by omega) (fun M123 eM123 hM123 => ?_)
          refine j_aload_n C 2 0 dX8_unit_112 rfl rfl ?_
          refine j_iload_n C 3 1 dX8_unit_113 rfl rfl ?_
          refine j_callVv C (d := 5) (As := [.int (sI 6)]) (st := []) 78 (s_lt rfl rfl) (s_kc (c := 7) rfl rfl) (by decide) rfl (s2_X8_sum hM123 hpr) gX8_unit_X8_sum rfl hdX8_sum (by decide) (Nat.le_of_ble_eq_true rfl) dX8_unit_114 rfl (fun M125 h126 => ?_)
          have hM125 := h126
          refine j_aload_n C 2 0 dX8_unit_117 rfl rfl ?_
          refine j_iload_n C 0 3 dX8_unit_118 rfl rfl ?_
          refine j_callVv C (d := 0) (As := [.int (sI a119)]) (st := []) 78 (s_lt rfl rfl) (s_kc (c := 7) rfl rfl) (by decide) rfl (s1_X8_emit hM125 hpr a119 (by omega)) gX8_unit_X8_emit rfl hdX8_emit (by decide) (Nat.le_of_ble_eq_true rfl) dX8_unit_119 rfl (fun M129 h130 => ?_)
          have hM129 := h130
          refine j_goto C 130 dX8_unit_122 (by decide) ?_
          exact hret _ _ _ dX8_unit_130 hM129
        · refine j_iload_n C 0 3 dX8_unit_88 rfl rfl ?_
          refine y_sipush C dX8_unit_89 rfl ?_
          refine y_icmp_eq C 102 dX8_unit_92 (by decide) (by omega) (fun h132 => ?_) (fun h132 => ?_)
          · refine j_aload_n C 2 0 dX8_unit_102 rfl rfl ?_
            refine j_dup C dX8_unit_103 rfl ?_
            refine y_getI C 7 _ _ fX8_unit_18 rfl rfl ft_7_2 sb_7_2 hM112 dX8_unit_104 (fun a133 ea133 la133 ua133 => ?_)
            refine y_iconst C dX8_unit_107 ?_
            refine y_iadd C dX8_unit_108 ?_
            refine y_putI C 7 _ _ qX8_unit_18 rfl rfl ft_7_2 sb_7_2 hM112 (PX.w hpr rfl rfl) dX8_unit_109 (by omega) (fun M135 eM135 hM135 => ?_)
            refine j_aload_n C 2 0 dX8_unit_112 rfl rfl ?_
            refine j_iload_n C 3 1 dX8_unit_113 rfl rfl ?_
            refine j_callVv C (d := 5) (As := [.int (sI 6)]) (st := []) 78 (s_lt rfl rfl) (s_kc (c := 7) rfl rfl) (by decide) rfl (s2_X8_sum hM135 hpr) gX8_unit_X8_sum rfl hdX8_sum (by decide) (Nat.le_of_ble_eq_true rfl) dX8_unit_114 rfl (fun M137 h138 => ?_)
            have hM137 := h138
            refine j_aload_n C 2 0 dX8_unit_117 rfl rfl ?_
            refine j_iload_n C 0 3 dX8_unit_118 rfl rfl ?_
            refine j_callVv C (d := 0) (As := [.int (sI a119)]) (st := []) 78 (s_lt rfl rfl) (s_kc (c := 7) rfl rfl) (by decide) rfl (s1_X8_emit hM137 hpr a119 (by omega)) gX8_unit_X8_emit rfl hdX8_emit (by decide) (Nat.le_of_ble_eq_true rfl) dX8_unit_119 rfl (fun M141 h142 => ?_)
            have hM141 := h142
            refine j_goto C 130 dX8_unit_122 (by decide) ?_
            exact hret _ _ _ dX8_unit_130 hM141
          · refine j_iload_n C 0 3 dX8_unit_95 rfl rfl ?_
            refine y_sipush C dX8_unit_96 rfl ?_
            refine y_icmp_ne C 125 dX8_unit_99 (by decide) (by omega) (fun h144 => ?_) (fun h144 => ?_)
            · refine j_aload_n C 2 0 dX8_unit_125 rfl rfl ?_
              refine y_iconst C dX8_unit_126 ?_
              refine j_callVv C (d := 0) (As := [.int (sI 2)]) (st := []) 78 (s_lt rfl rfl) (s_kc (c := 7) rfl rfl) (by decide) rfl (s1_X8_fail hM112 hpr 2 (by omega) (by omega)) gX8_unit_X8_fail rfl hdX8_fail (by decide) (Nat.le_of_ble_eq_true rfl) dX8_unit_127 rfl (fun M146 h147 => ?_)
              obtain ⟨hM146, fM146, h148⟩ := h147
              exact hret _ _ _ dX8_unit_130 hM146
            · refine j_aload_n C 2 0 dX8_unit_102 rfl rfl ?_
              refine j_dup C dX8_unit_103 rfl ?_
              refine y_getI C 7 _ _ fX8_unit_18 rfl rfl ft_7_2 sb_7_2 hM112 dX8_unit_104 (fun a149 ea149 la149 ua149 => ?_)
              refine y_iconst C dX8_unit_107 ?_
              refine y_iadd C dX8_unit_108 ?_
              refine y_putI C 7 _ _ qX8_unit_18 rfl rfl ft_7_2 sb_7_2 hM112 (PX.w hpr rfl rfl) dX8_unit_109 (by omega) (fun M151 eM151 hM151 => ?_)
              refine j_aload_n C 2 0 dX8_unit_112 rfl rfl ?_
              refine j_iload_n C 3 1 dX8_unit_113 rfl rfl ?_
              refine j_callVv C (d := 5) (As := [.int (sI 6)]) (st := []) 78 (s_lt rfl rfl) (s_kc (c := 7) rfl rfl) (by decide) rfl (s2_X8_sum hM151 hpr) gX8_unit_X8_sum rfl hdX8_sum (by decide) (Nat.le_of_ble_eq_true rfl) dX8_unit_114 rfl (fun M153 h154 => ?_)
              have hM153 := h154
              refine j_aload_n C 2 0 dX8_unit_117 rfl rfl ?_
              refine j_iload_n C 0 3 dX8_unit_118 rfl rfl ?_
              refine j_callVv C (d := 0) (As := [.int (sI a119)]) (st := []) 78 (s_lt rfl rfl) (s_kc (c := 7) rfl rfl) (by decide) rfl (s1_X8_emit hM153 hpr a119 (by omega)) gX8_unit_X8_emit rfl hdX8_emit (by decide) (Nat.le_of_ble_eq_true rfl) dX8_unit_119 rfl (fun M157 h158 => ?_)
              have hM157 := h158
              refine j_goto C 130 dX8_unit_122 (by decide) ?_
              exact hret _ _ _ dX8_unit_130 hM157
      · refine j_aload_n C 1 0 dX8_unit_49 rfl rfl ?_
        refine j_iload_n C 2 1 dX8_unit_50 rfl rfl ?_
        refine j_callVv C (d := 1) (As := [.int (sI 6)]) (st := []) 78 (s_lt rfl rfl) (s_kc (c := 7) rfl rfl) (by decide) rfl (s7_X8_goDeeper hM0 hpr (by omega)) gX8_unit_X8_goDeeper rfl hdX8_goDeeper (by decide) (Nat.le_of_ble_eq_true rfl) dX8_unit_51 rfl (fun M161 h162 => ?_)
        obtain ⟨hM161, fM161, h163⟩ := h162
        refine j_aload_n C 1 0 dX8_unit_54 rfl rfl ?_
        refine j_iload_n C 2 1 dX8_unit_55 rfl rfl ?_
        refine y_iconst C dX8_unit_56 ?_
        refine y_iadd C dX8_unit_57 ?_
        have z164 := (hM161).rd (i := 78) (c := 7) (k := 5) rfl sb_7_5
        refine j_callVv C (d := 2) (As := [.int (sI (6 + 1))]) (st := []) 78 (s_lt rfl rfl) (s_kc (c := 7) rfl rfl) (by decide) rfl (s1_X8_truth hM161 hpr (by omega)) gX8_unit_X8_truth rfl hdX8_truth (by decide) (Nat.le_of_ble_eq_true rfl) dX8_unit_58 rfl (fun M166 h167 => ?_)
        obtain ⟨hM166, h168⟩ := h167
        refine j_aload_n C 1 0 dX8_unit_61 rfl rfl ?_
        refine y_sipush C dX8_unit_62 rfl ?_
        refine j_callVv C (d := 1) (As := [.int (sI 2093)]) (st := []) 78 (s_lt rfl rfl) (s_kc (c := 7) rfl rfl) (by decide) rfl (s1_X8_expect hM166 hpr 2093 (by omega) (by omega)) gX8_unit_X8_expect rfl hdX8_expect (by decide) (Nat.le_of_ble_eq_true rfl) dX8_unit_65 rfl (fun M170 h171 => ?_)
        obtain ⟨hM170, fM170⟩ := h171
        refine j_goto C 130 dX8_unit_68 (by decide) ?_
        exact hret _ _ _ dX8_unit_130 hM170
    · refine j_aload_n C 1 0 dX8_unit_20 rfl rfl ?_
      refine j_iload_n C 2 1 dX8_unit_21 rfl rfl ?_
      refine j_callVv C (d := 1) (As := [.int (sI 6)]) (st := []) 78 (s_lt rfl rfl) (s_kc (c := 7) rfl rfl) (by decide) rfl (s7_X8_goDeeper hM0 hpr (by omega)) gX8_unit_X8_goDeeper rfl hdX8_goDeeper (by decide) (Nat.le_of_ble_eq_true rfl) dX8_unit_22 rfl (fun M174 h175 => ?_)
      obtain ⟨hM174, fM174, h176⟩ := h175
      refine j_aload_n C 1 0 dX8_unit_25 rfl rfl ?_
      refine j_iload_n C 2 1 dX8_unit_26 rfl rfl ?_
      refine y_iconst C dX8_unit_27 ?_
      refine y_iadd C dX8_unit_28 ?_
      have z177 := (hM174).rd (i := 78) (c := 7) (k := 5) rfl sb_7_5
      refine j_callVv C (d := 0) (As := [.int (sI (6 + 1))]) (st := []) 78 (s_lt rfl rfl) (s_kc (c := 7) rfl rfl) (by decide) rfl (s1_X8_unit hM174 hpr (by omega)) gX8_unit_X8_unit rfl hdX8_unit (by decide) (Nat.le_of_ble_eq_true rfl) dX8_unit_29 rfl (fun M179 h180 => ?_)
      obtain ⟨hM179, h181⟩ := h180
      refine j_aload_n C 1 0 dX8_unit_32 rfl rfl ?_
      refine y_sipush C dX8_unit_33 rfl ?_
      refine j_callVv C (d := 0) (As := [.int (sI 1016)]) (st := []) 78 (s_lt rfl rfl) (s_kc (c := 7) rfl rfl) (by decide) rfl (s1_X8_emit hM179 hpr 1016 (by omega)) gX8_unit_X8_emit rfl hdX8_emit (by decide) (Nat.le_of_ble_eq_true rfl) dX8_unit_36 rfl (fun M183 h184 => ?_)
      have hM183 := h184
      refine j_goto C 130 dX8_unit_39 (by decide) ?_
      exact hret _ _ _ dX8_unit_130 hM183
  · exact hret _ _ _ dX8_unit_7 hM0
set_option maxHeartbeats 4000000 in
theorem s2_X8_both {l : Launch} {dC : Nat → ClassId} {dI : Nat → Nat → Nat} {ad : Nat → Nat} {cA : Nat → ClassId} {pr : Nat → Nat → Bool} {Kz : mm_M} {M0 : mm_M} (hM0 : INV pr Kz M0) (hpr : PX pr)  : Cv l 7 yX8_both wsX8_both dC dI ad cA [.ref (ad 78), .int (sI 6)] M0 (fun M' => INV pr Kz M') := by
  refine cv_of (cc := cX8_both) (maxL := 3) (lv := [(0, .ref (ad 78)), (1, .int (sI 6))]) (by decide) rfl (Nat.le_of_ble_eq_true rfl) rfl ?_
  intro p e s m args below meth c A Q C hret
  refine j_aload_n C 0 0 dX8_both_0 rfl rfl ?_
  refine j_iload_n C 1 1 dX8_both_1 rfl rfl ?_
  refine j_callVv C (d := 6) (As := [.int (sI 6)]) (st := []) 78 (s_lt rfl rfl) (s_kc (c := 7) rfl rfl) (by decide) rfl (s2_X8_unit hM0 hpr) gX8_both_X8_unit rfl hdX8_unit (by decide) (Nat.le_of_ble_eq_true rfl) dX8_both_2 rfl (fun M102 h103 => ?_)
  have hM102 := h103
  refine y_iconst C dX8_both_5 ?_
  refine j_istore_n C 2 [(2, .int (sI 0)), (0, .ref (ad 78)), (1, .int (sI 6))] dX8_both_6 rfl (by decide) rfl ?_
  have L797 : ∀ (n795 : Nat), ∀ (a798 : Int) (M799 : mm_M), (0 ≤ a798 ∧ a798 ≤ 900 ∧ (900 - a798) < (n795 : Int)) → INV pr Kz M799 → jj p l e (cn_R 7) s m args below meth c 0 0 Q 3 dC dI ad cA A M799 7 [(0, .ref (ad 78)), (1, .int (sI 6)), (2, .int (sI a798))] [] := by
    intro n795
    induction n795 with
    | zero =>
      intro a798 M799 h800 hM799
      exfalso; omega
    | succ n795 ih796 =>
      intro a798 M799 h800 hM799
      refine j_iload_n C 2 2 dX8_both_7 rfl rfl ?_
      refine y_sipush C dX8_both_8 rfl ?_
      refine y_icmp_ge C 59 dX8_both_11 (by decide) (by omega) (fun h801 => ?_) (fun h801 => ?_)
      · exact hret _ _ _ dX8_both_59 hM799
      · refine j_aload_n C 0 0 dX8_both_14 rfl rfl ?_
        refine y_getI C 7 _ _ fX8_both_22 rfl rfl ft_7_5 sb_7_5 hM799 dX8_both_15 (fun a802 ea802 la802 ua802 => ?_)
        refine y_if_ne C 59 dX8_both_18 (by decide) (by omega) (fun h804 => ?_) (fun h804 => ?_)
        · exact hret _ _ _ dX8_both_59 hM799
        · refine j_aload_n C 0 0 dX8_both_21 rfl rfl ?_
          refine j_callVi C (d := 0) (As := []) (st := []) 78 (s_lt rfl rfl) (s_kc (c := 7) rfl rfl) (by decide) rfl (s1_X8_token hM799) gX8_both_X8_token rfl hdX8_token (by decide) (Nat.le_of_ble_eq_true rfl) dX8_both_22 rfl (fun r805 M806 h807 => ?_)
          obtain ⟨a809, rfl, rfl, h808⟩ := h807
          refine y_sipush C dX8_both_25 rfl ?_
          refine y_icmp_ne C 59 dX8_both_28 (by decide) (by omega) (fun h810 => ?_) (fun h810 => ?_)
          · exact hret _ _ _ dX8_both_59 hM799
          · refine j_aload_n C 0 0 dX8_both_31 rfl rfl ?_
            refine j_dup C dX8_both_32 rfl ?_
            refine y_getI C 7 _ _ fX8_both_18 rfl rfl ft_7_2 sb_7_2 hM799 dX8_both_33 (fun a811 ea811 la811 ua811 => ?_)
            refine y_iconst C dX8_both_36 ?_
            refine y_iadd C dX8_both_37 ?_
            refine y_putI C 7 _ _ qX8_both_18 rfl rfl ft_7_2 sb_7_2 hM799 (PX.w hpr rfl rfl) dX8_both_38 (by omega) (fun M813 eM813 hM813 => ?_)
            refine j_aload_n C 0 0 dX8_both_41 rfl rfl ?_
            refine j_iload_n C 1 1 dX8_both_42 rfl rfl ?_
            refine j_callVv C (d := 6) (As := [.int (sI 6)]) (st := []) 78 (s_lt rfl rfl) (s_kc (c := 7) rfl rfl) (by decide) rfl (s2_X8_unit hM813 hpr) gX8_both_X8_unit rfl hdX8_unit (by decide) (Nat.le_of_ble_eq_true rfl) dX8_both_43 rfl (fun M815 h816 => ?_)
            have hM815 := h816
            refine j_aload_n C 0 0 dX8_both_46 rfl rfl ?_
            refine y_sipush C dX8_both_47 rfl ?_
            refine j_callVv C (d := 0) (As := [.int (sI 1015)]) (st := []) 78 (s_lt rfl rfl) (s_kc (c := 7) rfl rfl) (by decide) rfl (s1_X8_emit hM815 hpr 1015 (by omega)) gX8_both_X8_emit rfl hdX8_emit (by decide) (Nat.le_of_ble_eq_true rfl) dX8_both_50 rfl (fun M819 h820 => ?_)
            have hM819 := h820
            refine y_iinc C 2 [(2, .int (sI (a798 + 1))), (0, .ref (ad 78)), (1, .int (sI 6))] dX8_both_53 rfl (by decide) rfl ?_
            refine j_goto C 7 dX8_both_56 (by decide) ?_
            refine j_lv [1, 2, 0] rfl ?_; exact ih796 (a798 + 1) M819 (by omega) hM819
  refine j_lv [1, 2, 0] rfl ?_; exact L797 2010 0 M102 (by omega) hM102
set_option maxHeartbeats 4000000 in
theorem s2_X8_truth {l : Launch} {dC : Nat → ClassId} {dI : Nat → Nat → Nat} {ad : Nat → Nat} {cA : Nat → ClassId} {pr : Nat → Nat → Bool} {Kz : mm_M} {M0 : mm_M} (hM0 : INV pr Kz M0) (hpr : PX pr)  : Cv l 8 yX8_truth wsX8_truth dC dI ad cA [.ref (ad 78), .int (sI 6)] M0 (fun M' => INV pr Kz M') := by
  refine cv_of (cc := cX8_truth) (maxL := 3) (lv := [(0, .ref (ad 78)), (1, .int (sI 6))]) (by decide) rfl (Nat.le_of_ble_eq_true rfl) rfl ?_
  intro p e s m args below meth c A Q C hret
  refine j_aload_n C 0 0 dX8_truth_0 rfl rfl ?_
  refine j_iload_n C 1 1 dX8_truth_1 rfl rfl ?_
  refine j_callVv C (d := 7) (As := [.int (sI 6)]) (st := []) 78 (s_lt rfl rfl) (s_kc (c := 7) rfl rfl) (by decide) rfl (s2_X8_both hM0 hpr) gX8_truth_X8_both rfl hdX8_both (by decide) (Nat.le_of_ble_eq_true rfl) dX8_truth_2 rfl (fun M102 h103 => ?_)
  have hM102 := h103
  refine y_iconst C dX8_truth_5 ?_
  refine j_istore_n C 2 [(2, .int (sI 0)), (0, .ref (ad 78)), (1, .int (sI 6))] dX8_truth_6 rfl (by decide) rfl ?_
  have L797 : ∀ (n795 : Nat), ∀ (a798 : Int) (M799 : mm_M), (0 ≤ a798 ∧ a798 ≤ 900 ∧ (900 - a798) < (n795 : Int)) → INV pr Kz M799 → jj p l e (cn_R 8) s m args below meth c 0 0 Q 3 dC dI ad cA A M799 7 [(0, .ref (ad 78)), (1, .int (sI 6)), (2, .int (sI a798))] [] := by
    intro n795
    induction n795 with
    | zero =>
      intro a798 M799 h800 hM799
      exfalso; omega
    | succ n795 ih796 =>
      intro a798 M799 h800 hM799
      refine j_iload_n C 2 2 dX8_truth_7 rfl rfl ?_
      refine y_sipush C dX8_truth_8 rfl ?_
      refine y_icmp_ge C 59 dX8_truth_11 (by decide) (by omega) (fun h801 => ?_) (fun h801 => ?_)
      · exact hret _ _ _ dX8_truth_59 hM799
      · refine j_aload_n C 0 0 dX8_truth_14 rfl rfl ?_
        refine y_getI C 7 _ _ fX8_truth_22 rfl rfl ft_7_5 sb_7_5 hM799 dX8_truth_15 (fun a802 ea802 la802 ua802 => ?_)
        refine y_if_ne C 59 dX8_truth_18 (by decide) (by omega) (fun h804 => ?_) (fun h804 => ?_)
        · exact hret _ _ _ dX8_truth_59 hM799
        · refine j_aload_n C 0 0 dX8_truth_21 rfl rfl ?_
          refine j_callVi C (d := 0) (As := []) (st := []) 78 (s_lt rfl rfl) (s_kc (c := 7) rfl rfl) (by decide) rfl (s1_X8_token hM799) gX8_truth_X8_token rfl hdX8_token (by decide) (Nat.le_of_ble_eq_true rfl) dX8_truth_22 rfl (fun r805 M806 h807 => ?_)
          obtain ⟨a809, rfl, rfl, h808⟩ := h807
          refine y_sipush C dX8_truth_25 rfl ?_
          refine y_icmp_ne C 59 dX8_truth_28 (by decide) (by omega) (fun h810 => ?_) (fun h810 => ?_)
          · exact hret _ _ _ dX8_truth_59 hM799
          · refine j_aload_n C 0 0 dX8_truth_31 rfl rfl ?_
            refine j_dup C dX8_truth_32 rfl ?_
            refine y_getI C 7 _ _ fX8_truth_18 rfl rfl ft_7_2 sb_7_2 hM799 dX8_truth_33 (fun a811 ea811 la811 ua811 => ?_)
            refine y_iconst C dX8_truth_36 ?_
            refine y_iadd C dX8_truth_37 ?_
            refine y_putI C 7 _ _ qX8_truth_18 rfl rfl ft_7_2 sb_7_2 hM799 (PX.w hpr rfl rfl) dX8_truth_38 (by omega) (fun M813 eM813 hM813 => ?_)
            refine j_aload_n C 0 0 dX8_truth_41 rfl rfl ?_
            refine j_iload_n C 1 1 dX8_truth_42 rfl rfl ?_
            refine j_callVv C (d := 7) (As := [.int (sI 6)]) (st := []) 78 (s_lt rfl rfl) (s_kc (c := 7) rfl rfl) (by decide) rfl (s2_X8_both hM813 hpr) gX8_truth_X8_both rfl hdX8_both (by decide) (Nat.le_of_ble_eq_true rfl) dX8_truth_43 rfl (fun M815 h816 => ?_)
            have hM815 := h816
            refine j_aload_n C 0 0 dX8_truth_46 rfl rfl ?_
            refine y_sipush C dX8_truth_47 rfl ?_
            refine j_callVv C (d := 0) (As := [.int (sI 1014)]) (st := []) 78 (s_lt rfl rfl) (s_kc (c := 7) rfl rfl) (by decide) rfl (s1_X8_emit hM815 hpr 1014 (by omega)) gX8_truth_X8_emit rfl hdX8_emit (by decide) (Nat.le_of_ble_eq_true rfl) dX8_truth_50 rfl (fun M819 h820 => ?_)
            have hM819 := h820
            refine y_iinc C 2 [(2, .int (sI (a798 + 1))), (0, .ref (ad 78)), (1, .int (sI 6))] dX8_truth_53 rfl (by decide) rfl ?_
            refine j_goto C 7 dX8_truth_56 (by decide) ?_
            refine j_lv [1, 2, 0] rfl ?_; exact ih796 (a798 + 1) M819 (by omega) hM819
  refine j_lv [1, 2, 0] rfl ?_; exact L797 2010 0 M102 (by omega) hM102
set_option maxHeartbeats 4000000 in
theorem s3_X8_unit {l : Launch} {dC : Nat → ClassId} {dI : Nat → Nat → Nat} {ad : Nat → Nat} {cA : Nat → ClassId} {pr : Nat → Nat → Bool} {Kz : mm_M} {M0 : mm_M} (hM0 : INV pr Kz M0) (hpr : PX pr)  : Cv l 9 yX8_unit wsX8_unit dC dI ad cA [.ref (ad 78), .int (sI 5)] M0 (fun M' => INV pr Kz M') := by
  refine cv_of (cc := cX8_unit) (maxL := 4) (lv := [(0, .ref (ad 78)), (1, .int (sI 5))]) (by decide) rfl (Nat.le_of_ble_eq_true rfl) rfl ?_
  intro p e s m args below meth c A Q C hret
  refine j_aload_n C 0 0 dX8_unit_0 rfl rfl ?_
  refine y_getI C 7 _ _ fX8_unit_22 rfl rfl ft_7_5 sb_7_5 hM0 dX8_unit_1 (fun a101 ea101 la101 ua101 => ?_)
  refine y_if_eq C 8 dX8_unit_4 (by decide) (by omega) (fun h103 => ?_) (fun h103 => ?_)
  · refine j_aload_n C 0 0 dX8_unit_8 rfl rfl ?_
    refine j_callVi C (d := 0) (As := []) (st := []) 78 (s_lt rfl rfl) (s_kc (c := 7) rfl rfl) (by decide) rfl (s1_X8_token hM0) gX8_unit_X8_token rfl hdX8_token (by decide) (Nat.le_of_ble_eq_true rfl) dX8_unit_9 rfl (fun r104 M105 h106 => ?_)
    obtain ⟨a108, rfl, rfl, h107⟩ := h106
    refine j_istore_n C 2 [(2, .int (sI a108)), (0, .ref (ad 78)), (1, .int (sI 5))] dX8_unit_12 rfl (by decide) rfl ?_
    refine j_iload_n C 0 2 dX8_unit_13 rfl rfl ?_
    refine y_sipush C dX8_unit_14 rfl ?_
    refine y_icmp_ne C 42 dX8_unit_17 (by decide) (by omega) (fun h109 => ?_) (fun h109 => ?_)
    · refine j_iload_n C 0 2 dX8_unit_42 rfl rfl ?_
      refine y_sipush C dX8_unit_43 rfl ?_
      refine y_icmp_ne C 71 dX8_unit_46 (by decide) (by omega) (fun h110 => ?_) (fun h110 => ?_)
      · refine j_aload_n C 1 0 dX8_unit_71 rfl rfl ?_
        refine j_iload_n C 2 1 dX8_unit_72 rfl rfl ?_
        refine j_callVv C (d := 8) (As := [.int (sI 5)]) (st := []) 78 (s_lt rfl rfl) (s_kc (c := 7) rfl rfl) (by decide) rfl (s3_X8_sum hM0 hpr) gX8_unit_X8_sum rfl hdX8_sum (by decide) (Nat.le_of_ble_eq_true rfl) dX8_unit_73 rfl (fun M112 h113 => ?_)
        have hM112 := h113
        refine j_aload_n C 1 0 dX8_unit_76 rfl rfl ?_
        refine j_callVi C (d := 0) (As := []) (st := []) 78 (s_lt rfl rfl) (s_kc (c := 7) rfl rfl) (by decide) rfl (s1_X8_token hM112) gX8_unit_X8_token rfl hdX8_token (by decide) (Nat.le_of_ble_eq_true rfl) dX8_unit_77 rfl (fun r115 M116 h117 => ?_)
        obtain ⟨a119, rfl, rfl, h118⟩ := h117
        refine j_istore_n C 3 [(3, .int (sI a119)), (2, .int (sI a108)), (0, .ref (ad 78)), (1, .int (sI 5))] dX8_unit_80 rfl (by decide) rfl ?_
        refine j_iload_n C 0 3 dX8_unit_81 rfl rfl ?_
        refine y_sipush C dX8_unit_82 rfl ?_
        refine y_icmp_eq C 102 dX8_unit_85 (by decide) (by omega) (fun h120 => ?_) (fun h120 => ?_)
        · refine j_aload_n C 2 0 dX8_unit_102 rfl rfl ?_
          refine j_dup C dX8_unit_103 rfl ?_
          refine y_getI C 7 _ _ fX8_unit_18 rfl rfl ft_7_2 sb_7_2 hM112 dX8_unit_104 (fun a121 ea121 la121 ua121 => ?_)
          refine y_iconst C dX8_unit_107 ?_
          refine y_iadd C dX8_unit_108 ?_
          refine y_putI C 7 _ _ qX8_unit_18 rfl rfl ft_7_2 sb_7_2 hM112 (PX.w hpr rfl rfl) dX8_unit_109 (by omega) (fun M123 eM123 hM123 => ?_)
          refine j_aload_n C 2 0 dX8_unit_112 rfl rfl ?_
          refine j_iload_n C 3 1 dX8_unit_113 rfl rfl ?_
          refine j_callVv C (d := 8) (As := [.int (sI 5)]) (st := []) 78 (s_lt rfl rfl) (s_kc (c := 7) rfl rfl) (by decide) rfl (s3_X8_sum hM123 hpr) gX8_unit_X8_sum rfl hdX8_sum (by decide) (Nat.le_of_ble_eq_true rfl) dX8_unit_114 rfl (fun M125 h126 => ?_)
          have hM125 := h126
          refine j_aload_n C 2 0 dX8_unit_117 rfl rfl ?_
          refine j_iload_n C 0 3 dX8_unit_118 rfl rfl ?_
          refine j_callVv C (d := 0) (As := [.int (sI a119)]) (st := []) 78 (s_lt rfl rfl) (s_kc (c := 7) rfl rfl) (by decide) rfl (s1_X8_emit hM125 hpr a119 (by omega)) gX8_unit_X8_emit rfl hdX8_emit (by decide) (Nat.le_of_ble_eq_true rfl) dX8_unit_119 rfl (fun M129 h130 => ?_)
          have hM129 := h130
          refine j_goto C 130 dX8_unit_122 (by decide) ?_
          exact hret _ _ _ dX8_unit_130 hM129
        · refine j_iload_n C 0 3 dX8_unit_88 rfl rfl ?_
          refine y_sipush C dX8_unit_89 rfl ?_
          refine y_icmp_eq C 102 dX8_unit_92 (by decide) (by omega) (fun h132 => ?_) (fun h132 => ?_)
          · refine j_aload_n C 2 0 dX8_unit_102 rfl rfl ?_
            refine j_dup C dX8_unit_103 rfl ?_
            refine y_getI C 7 _ _ fX8_unit_18 rfl rfl ft_7_2 sb_7_2 hM112 dX8_unit_104 (fun a133 ea133 la133 ua133 => ?_)
            refine y_iconst C dX8_unit_107 ?_
            refine y_iadd C dX8_unit_108 ?_
            refine y_putI C 7 _ _ qX8_unit_18 rfl rfl ft_7_2 sb_7_2 hM112 (PX.w hpr rfl rfl) dX8_unit_109 (by omega) (fun M135 eM135 hM135 => ?_)
            refine j_aload_n C 2 0 dX8_unit_112 rfl rfl ?_
            refine j_iload_n C 3 1 dX8_unit_113 rfl rfl ?_
            refine j_callVv C (d := 8) (As := [.int (sI 5)]) (st := []) 78 (s_lt rfl rfl) (s_kc (c := 7) rfl rfl) (by decide) rfl (s3_X8_sum hM135 hpr) gX8_unit_X8_sum rfl hdX8_sum (by decide) (Nat.le_of_ble_eq_true rfl) dX8_unit_114 rfl (fun M137 h138 => ?_)
            have hM137 := h138
            refine j_aload_n C 2 0 dX8_unit_117 rfl rfl ?_
            refine j_iload_n C 0 3 dX8_unit_118 rfl rfl ?_
            refine j_callVv C (d := 0) (As := [.int (sI a119)]) (st := []) 78 (s_lt rfl rfl) (s_kc (c := 7) rfl rfl) (by decide) rfl (s1_X8_emit hM137 hpr a119 (by omega)) gX8_unit_X8_emit rfl hdX8_emit (by decide) (Nat.le_of_ble_eq_true rfl) dX8_unit_119 rfl (fun M141 h142 => ?_)
            have hM141 := h142
            refine j_goto C 130 dX8_unit_122 (by decide) ?_
            exact hret _ _ _ dX8_unit_130 hM141
          · refine j_iload_n C 0 3 dX8_unit_95 rfl rfl ?_
            refine y_sipush C dX8_unit_96 rfl ?_
            refine y_icmp_ne C 125 dX8_unit_99 (by decide) (by omega) (fun h144 => ?_) (fun h144 => ?_)
            · refine j_aload_n C 2 0 dX8_unit_125 rfl rfl ?_
              refine y_iconst C dX8_unit_126 ?_
              refine j_callVv C (d := 0) (As := [.int (sI 2)]) (st := []) 78 (s_lt rfl rfl) (s_kc (c := 7) rfl rfl) (by decide) rfl (s1_X8_fail hM112 hpr 2 (by omega) (by omega)) gX8_unit_X8_fail rfl hdX8_fail (by decide) (Nat.le_of_ble_eq_true rfl) dX8_unit_127 rfl (fun M146 h147 => ?_)
              obtain ⟨hM146, fM146, h148⟩ := h147
              exact hret _ _ _ dX8_unit_130 hM146
            · refine j_aload_n C 2 0 dX8_unit_102 rfl rfl ?_
              refine j_dup C dX8_unit_103 rfl ?_
              refine y_getI C 7 _ _ fX8_unit_18 rfl rfl ft_7_2 sb_7_2 hM112 dX8_unit_104 (fun a149 ea149 la149 ua149 => ?_)
              refine y_iconst C dX8_unit_107 ?_
              refine y_iadd C dX8_unit_108 ?_
              refine y_putI C 7 _ _ qX8_unit_18 rfl rfl ft_7_2 sb_7_2 hM112 (PX.w hpr rfl rfl) dX8_unit_109 (by omega) (fun M151 eM151 hM151 => ?_)
              refine j_aload_n C 2 0 dX8_unit_112 rfl rfl ?_
              refine j_iload_n C 3 1 dX8_unit_113 rfl rfl ?_
              refine j_callVv C (d := 8) (As := [.int (sI 5)]) (st := []) 78 (s_lt rfl rfl) (s_kc (c := 7) rfl rfl) (by decide) rfl (s3_X8_sum hM151 hpr) gX8_unit_X8_sum rfl hdX8_sum (by decide) (Nat.le_of_ble_eq_true rfl) dX8_unit_114 rfl (fun M153 h154 => ?_)
              have hM153 := h154
              refine j_aload_n C 2 0 dX8_unit_117 rfl rfl ?_
              refine j_iload_n C 0 3 dX8_unit_118 rfl rfl ?_
              refine j_callVv C (d := 0) (As := [.int (sI a119)]) (st := []) 78 (s_lt rfl rfl) (s_kc (c := 7) rfl rfl) (by decide) rfl (s1_X8_emit hM153 hpr a119 (by omega)) gX8_unit_X8_emit rfl hdX8_emit (by decide) (Nat.le_of_ble_eq_true rfl) dX8_unit_119 rfl (fun M157 h158 => ?_)
              have hM157 := h158
              refine j_goto C 130 dX8_unit_122 (by decide) ?_
              exact hret _ _ _ dX8_unit_130 hM157
      · refine j_aload_n C 1 0 dX8_unit_49 rfl rfl ?_
        refine j_iload_n C 2 1 dX8_unit_50 rfl rfl ?_
        refine j_callVv C (d := 0) (As := [.int (sI 5)]) (st := []) 78 (s_lt rfl rfl) (s_kc (c := 7) rfl rfl) (by decide) rfl (s6_X8_goDeeper hM0 hpr (by omega)) gX8_unit_X8_goDeeper rfl hdX8_goDeeper (by decide) (Nat.le_of_ble_eq_true rfl) dX8_unit_51 rfl (fun M161 h162 => ?_)
        obtain ⟨hM161, fM161, h163⟩ := h162
        refine j_aload_n C 1 0 dX8_unit_54 rfl rfl ?_
        refine j_iload_n C 2 1 dX8_unit_55 rfl rfl ?_
        refine y_iconst C dX8_unit_56 ?_
        refine y_iadd C dX8_unit_57 ?_
        refine j_callVv C (d := 8) (As := [.int (sI (5 + 1))]) (st := []) 78 (s_lt rfl rfl) (s_kc (c := 7) rfl rfl) (by decide) rfl (s2_X8_truth hM161 hpr) gX8_unit_X8_truth rfl hdX8_truth (by decide) (Nat.le_of_ble_eq_true rfl) dX8_unit_58 rfl (fun M165 h166 => ?_)
        have hM165 := h166
        refine j_aload_n C 1 0 dX8_unit_61 rfl rfl ?_
        refine y_sipush C dX8_unit_62 rfl ?_
        refine j_callVv C (d := 1) (As := [.int (sI 2093)]) (st := []) 78 (s_lt rfl rfl) (s_kc (c := 7) rfl rfl) (by decide) rfl (s1_X8_expect hM165 hpr 2093 (by omega) (by omega)) gX8_unit_X8_expect rfl hdX8_expect (by decide) (Nat.le_of_ble_eq_true rfl) dX8_unit_65 rfl (fun M169 h170 => ?_)
        obtain ⟨hM169, fM169⟩ := h170
        refine j_goto C 130 dX8_unit_68 (by decide) ?_
        exact hret _ _ _ dX8_unit_130 hM169
    · refine j_aload_n C 1 0 dX8_unit_20 rfl rfl ?_
      refine j_iload_n C 2 1 dX8_unit_21 rfl rfl ?_
      refine j_callVv C (d := 0) (As := [.int (sI 5)]) (st := []) 78 (s_lt rfl rfl) (s_kc (c := 7) rfl rfl) (by decide) rfl (s6_X8_goDeeper hM0 hpr (by omega)) gX8_unit_X8_goDeeper rfl hdX8_goDeeper (by decide) (Nat.le_of_ble_eq_true rfl) dX8_unit_22 rfl (fun M173 h174 => ?_)
      obtain ⟨hM173, fM173, h175⟩ := h174
      refine j_aload_n C 1 0 dX8_unit_25 rfl rfl ?_
      refine j_iload_n C 2 1 dX8_unit_26 rfl rfl ?_
      refine y_iconst C dX8_unit_27 ?_
      refine y_iadd C dX8_unit_28 ?_
      refine j_callVv C (d := 6) (As := [.int (sI (5 + 1))]) (st := []) 78 (s_lt rfl rfl) (s_kc (c := 7) rfl rfl) (by decide) rfl (s2_X8_unit hM173 hpr) gX8_unit_X8_unit rfl hdX8_unit (by decide) (Nat.le_of_ble_eq_true rfl) dX8_unit_29 rfl (fun M177 h178 => ?_)
      have hM177 := h178
      refine j_aload_n C 1 0 dX8_unit_32 rfl rfl ?_
      refine y_sipush C dX8_unit_33 rfl ?_
      refine j_callVv C (d := 0) (As := [.int (sI 1016)]) (st := []) 78 (s_lt rfl rfl) (s_kc (c := 7) rfl rfl) (by decide) rfl (s1_X8_emit hM177 hpr 1016 (by omega)) gX8_unit_X8_emit rfl hdX8_emit (by decide) (Nat.le_of_ble_eq_true rfl) dX8_unit_36 rfl (fun M181 h182 => ?_)
      have hM181 := h182
      refine j_goto C 130 dX8_unit_39 (by decide) ?_
      exact hret _ _ _ dX8_unit_130 hM181
  · exact hret _ _ _ dX8_unit_7 hM0
set_option maxHeartbeats 4000000 in
theorem s3_X8_both {l : Launch} {dC : Nat → ClassId} {dI : Nat → Nat → Nat} {ad : Nat → Nat} {cA : Nat → ClassId} {pr : Nat → Nat → Bool} {Kz : mm_M} {M0 : mm_M} (hM0 : INV pr Kz M0) (hpr : PX pr)  : Cv l 10 yX8_both wsX8_both dC dI ad cA [.ref (ad 78), .int (sI 5)] M0 (fun M' => INV pr Kz M') := by
  refine cv_of (cc := cX8_both) (maxL := 3) (lv := [(0, .ref (ad 78)), (1, .int (sI 5))]) (by decide) rfl (Nat.le_of_ble_eq_true rfl) rfl ?_
  intro p e s m args below meth c A Q C hret
  refine j_aload_n C 0 0 dX8_both_0 rfl rfl ?_
  refine j_iload_n C 1 1 dX8_both_1 rfl rfl ?_
  refine j_callVv C (d := 9) (As := [.int (sI 5)]) (st := []) 78 (s_lt rfl rfl) (s_kc (c := 7) rfl rfl) (by decide) rfl (s3_X8_unit hM0 hpr) gX8_both_X8_unit rfl hdX8_unit (by decide) (Nat.le_of_ble_eq_true rfl) dX8_both_2 rfl (fun M102 h103 => ?_)
  have hM102 := h103
  refine y_iconst C dX8_both_5 ?_
  refine j_istore_n C 2 [(2, .int (sI 0)), (0, .ref (ad 78)), (1, .int (sI 5))] dX8_both_6 rfl (by decide) rfl ?_
  have L797 : ∀ (n795 : Nat), ∀ (a798 : Int) (M799 : mm_M), (0 ≤ a798 ∧ a798 ≤ 900 ∧ (900 - a798) < (n795 : Int)) → INV pr Kz M799 → jj p l e (cn_R 10) s m args below meth c 0 0 Q 3 dC dI ad cA A M799 7 [(0, .ref (ad 78)), (1, .int (sI 5)), (2, .int (sI a798))] [] := by
    intro n795
    induction n795 with
    | zero =>
      intro a798 M799 h800 hM799
      exfalso; omega
    | succ n795 ih796 =>
      intro a798 M799 h800 hM799
      refine j_iload_n C 2 2 dX8_both_7 rfl rfl ?_
      refine y_sipush C dX8_both_8 rfl ?_
      refine y_icmp_ge C 59 dX8_both_11 (by decide) (by omega) (fun h801 => ?_) (fun h801 => ?_)
      · exact hret _ _ _ dX8_both_59 hM799
      · refine j_aload_n C 0 0 dX8_both_14 rfl rfl ?_
        refine y_getI C 7 _ _ fX8_both_22 rfl rfl ft_7_5 sb_7_5 hM799 dX8_both_15 (fun a802 ea802 la802 ua802 => ?_)
        refine y_if_ne C 59 dX8_both_18 (by decide) (by omega) (fun h804 => ?_) (fun h804 => ?_)
        · exact hret _ _ _ dX8_both_59 hM799
        · refine j_aload_n C 0 0 dX8_both_21 rfl rfl ?_
          refine j_callVi C (d := 0) (As := []) (st := []) 78 (s_lt rfl rfl) (s_kc (c := 7) rfl rfl) (by decide) rfl (s1_X8_token hM799) gX8_both_X8_token rfl hdX8_token (by decide) (Nat.le_of_ble_eq_true rfl) dX8_both_22 rfl (fun r805 M806 h807 => ?_)
          obtain ⟨a809, rfl, rfl, h808⟩ := h807
          refine y_sipush C dX8_both_25 rfl ?_
          refine y_icmp_ne C 59 dX8_both_28 (by decide) (by omega) (fun h810 => ?_) (fun h810 => ?_)
          · exact hret _ _ _ dX8_both_59 hM799
          · refine j_aload_n C 0 0 dX8_both_31 rfl rfl ?_
            refine j_dup C dX8_both_32 rfl ?_
            refine y_getI C 7 _ _ fX8_both_18 rfl rfl ft_7_2 sb_7_2 hM799 dX8_both_33 (fun a811 ea811 la811 ua811 => ?_)
            refine y_iconst C dX8_both_36 ?_
            refine y_iadd C dX8_both_37 ?_
            refine y_putI C 7 _ _ qX8_both_18 rfl rfl ft_7_2 sb_7_2 hM799 (PX.w hpr rfl rfl) dX8_both_38 (by omega) (fun M813 eM813 hM813 => ?_)
            refine j_aload_n C 0 0 dX8_both_41 rfl rfl ?_
            refine j_iload_n C 1 1 dX8_both_42 rfl rfl ?_
            refine j_callVv C (d := 9) (As := [.int (sI 5)]) (st := []) 78 (s_lt rfl rfl) (s_kc (c := 7) rfl rfl) (by decide) rfl (s3_X8_unit hM813 hpr) gX8_both_X8_unit rfl hdX8_unit (by decide) (Nat.le_of_ble_eq_true rfl) dX8_both_43 rfl (fun M815 h816 => ?_)
            have hM815 := h816
            refine j_aload_n C 0 0 dX8_both_46 rfl rfl ?_
            refine y_sipush C dX8_both_47 rfl ?_
            refine j_callVv C (d := 0) (As := [.int (sI 1015)]) (st := []) 78 (s_lt rfl rfl) (s_kc (c := 7) rfl rfl) (by decide) rfl (s1_X8_emit hM815 hpr 1015 (by omega)) gX8_both_X8_emit rfl hdX8_emit (by decide) (Nat.le_of_ble_eq_true rfl) dX8_both_50 rfl (fun M819 h820 => ?_)
            have hM819 := h820
            refine y_iinc C 2 [(2, .int (sI (a798 + 1))), (0, .ref (ad 78)), (1, .int (sI 5))] dX8_both_53 rfl (by decide) rfl ?_
            refine j_goto C 7 dX8_both_56 (by decide) ?_
            refine j_lv [1, 2, 0] rfl ?_; exact ih796 (a798 + 1) M819 (by omega) hM819
  refine j_lv [1, 2, 0] rfl ?_; exact L797 2010 0 M102 (by omega) hM102
set_option maxHeartbeats 4000000 in
theorem s3_X8_truth {l : Launch} {dC : Nat → ClassId} {dI : Nat → Nat → Nat} {ad : Nat → Nat} {cA : Nat → ClassId} {pr : Nat → Nat → Bool} {Kz : mm_M} {M0 : mm_M} (hM0 : INV pr Kz M0) (hpr : PX pr)  : Cv l 11 yX8_truth wsX8_truth dC dI ad cA [.ref (ad 78), .int (sI 5)] M0 (fun M' => INV pr Kz M') := by
  refine cv_of (cc := cX8_truth) (maxL := 3) (lv := [(0, .ref (ad 78)), (1, .int (sI 5))]) (by decide) rfl (Nat.le_of_ble_eq_true rfl) rfl ?_
  intro p e s m args below meth c A Q C hret
  refine j_aload_n C 0 0 dX8_truth_0 rfl rfl ?_
  refine j_iload_n C 1 1 dX8_truth_1 rfl rfl ?_
  refine j_callVv C (d := 10) (As := [.int (sI 5)]) (st := []) 78 (s_lt rfl rfl) (s_kc (c := 7) rfl rfl) (by decide) rfl (s3_X8_both hM0 hpr) gX8_truth_X8_both rfl hdX8_both (by decide) (Nat.le_of_ble_eq_true rfl) dX8_truth_2 rfl (fun M102 h103 => ?_)
  have hM102 := h103
  refine y_iconst C dX8_truth_5 ?_
  refine j_istore_n C 2 [(2, .int (sI 0)), (0, .ref (ad 78)), (1, .int (sI 5))] dX8_truth_6 rfl (by decide) rfl ?_
  have L797 : ∀ (n795 : Nat), ∀ (a798 : Int) (M799 : mm_M), (0 ≤ a798 ∧ a798 ≤ 900 ∧ (900 - a798) < (n795 : Int)) → INV pr Kz M799 → jj p l e (cn_R 11) s m args below meth c 0 0 Q 3 dC dI ad cA A M799 7 [(0, .ref (ad 78)), (1, .int (sI 5)), (2, .int (sI a798))] [] := by
    intro n795
    induction n795 with
    | zero =>
      intro a798 M799 h800 hM799
      exfalso; omega
    | succ n795 ih796 =>
      intro a798 M799 h800 hM799
      refine j_iload_n C 2 2 dX8_truth_7 rfl rfl ?_
      refine y_sipush C dX8_truth_8 rfl ?_
      refine y_icmp_ge C 59 dX8_truth_11 (by decide) (by omega) (fun h801 => ?_) (fun h801 => ?_)
      · exact hret _ _ _ dX8_truth_59 hM799
      · refine j_aload_n C 0 0 dX8_truth_14 rfl rfl ?_
        refine y_getI C 7 _ _ fX8_truth_22 rfl rfl ft_7_5 sb_7_5 hM799 dX8_truth_15 (fun a802 ea802 la802 ua802 => ?_)
        refine y_if_ne C 59 dX8_truth_18 (by decide) (by omega) (fun h804 => ?_) (fun h804 => ?_)
        · exact hret _ _ _ dX8_truth_59 hM799
        · refine j_aload_n C 0 0 dX8_truth_21 rfl rfl ?_
          refine j_callVi C (d := 0) (As := []) (st := []) 78 (s_lt rfl rfl) (s_kc (c := 7) rfl rfl) (by decide) rfl (s1_X8_token hM799) gX8_truth_X8_token rfl hdX8_token (by decide) (Nat.le_of_ble_eq_true rfl) dX8_truth_22 rfl (fun r805 M806 h807 => ?_)
          obtain ⟨a809, rfl, rfl, h808⟩ := h807
          refine y_sipush C dX8_truth_25 rfl ?_
          refine y_icmp_ne C 59 dX8_truth_28 (by decide) (by omega) (fun h810 => ?_) (fun h810 => ?_)
          · exact hret _ _ _ dX8_truth_59 hM799
          · refine j_aload_n C 0 0 dX8_truth_31 rfl rfl ?_
            refine j_dup C dX8_truth_32 rfl ?_
            refine y_getI C 7 _ _ fX8_truth_18 rfl rfl ft_7_2 sb_7_2 hM799 dX8_truth_33 (fun a811 ea811 la811 ua811 => ?_)
            refine y_iconst C dX8_truth_36 ?_
            refine y_iadd C dX8_truth_37 ?_
            refine y_putI C 7 _ _ qX8_truth_18 rfl rfl ft_7_2 sb_7_2 hM799 (PX.w hpr rfl rfl) dX8_truth_38 (by omega) (fun M813 eM813 hM813 => ?_)
            refine j_aload_n C 0 0 dX8_truth_41 rfl rfl ?_
            refine j_iload_n C 1 1 dX8_truth_42 rfl rfl ?_
            refine j_callVv C (d := 10) (As := [.int (sI 5)]) (st := []) 78 (s_lt rfl rfl) (s_kc (c := 7) rfl rfl) (by decide) rfl (s3_X8_both hM813 hpr) gX8_truth_X8_both rfl hdX8_both (by decide) (Nat.le_of_ble_eq_true rfl) dX8_truth_43 rfl (fun M815 h816 => ?_)
            have hM815 := h816
            refine j_aload_n C 0 0 dX8_truth_46 rfl rfl ?_
            refine y_sipush C dX8_truth_47 rfl ?_
            refine j_callVv C (d := 0) (As := [.int (sI 1014)]) (st := []) 78 (s_lt rfl rfl) (s_kc (c := 7) rfl rfl) (by decide) rfl (s1_X8_emit hM815 hpr 1014 (by omega)) gX8_truth_X8_emit rfl hdX8_emit (by decide) (Nat.le_of_ble_eq_true rfl) dX8_truth_50 rfl (fun M819 h820 => ?_)
            have hM819 := h820
            refine y_iinc C 2 [(2, .int (sI (a798 + 1))), (0, .ref (ad 78)), (1, .int (sI 5))] dX8_truth_53 rfl (by decide) rfl ?_
            refine j_goto C 7 dX8_truth_56 (by decide) ?_
            refine j_lv [1, 2, 0] rfl ?_; exact ih796 (a798 + 1) M819 (by omega) hM819
  refine j_lv [1, 2, 0] rfl ?_; exact L797 2010 0 M102 (by omega) hM102
set_option maxHeartbeats 4000000 in
theorem s4_X8_unit {l : Launch} {dC : Nat → ClassId} {dI : Nat → Nat → Nat} {ad : Nat → Nat} {cA : Nat → ClassId} {pr : Nat → Nat → Bool} {Kz : mm_M} {M0 : mm_M} (hM0 : INV pr Kz M0) (hpr : PX pr)  : Cv l 12 yX8_unit wsX8_unit dC dI ad cA [.ref (ad 78), .int (sI 4)] M0 (fun M' => INV pr Kz M') := by
  refine cv_of (cc := cX8_unit) (maxL := 4) (lv := [(0, .ref (ad 78)), (1, .int (sI 4))]) (by decide) rfl (Nat.le_of_ble_eq_true rfl) rfl ?_
  intro p e s m args below meth c A Q C hret
  refine j_aload_n C 0 0 dX8_unit_0 rfl rfl ?_
  refine y_getI C 7 _ _ fX8_unit_22 rfl rfl ft_7_5 sb_7_5 hM0 dX8_unit_1 (fun a101 ea101 la101 ua101 => ?_)
  refine y_if_eq C 8 dX8_unit_4 (by decide) (by omega) (fun h103 => ?_) (fun h103 => ?_)
  · refine j_aload_n C 0 0 dX8_unit_8 rfl rfl ?_
    refine j_callVi C (d := 0) (As := []) (st := []) 78 (s_lt rfl rfl) (s_kc (c := 7) rfl rfl) (by decide) rfl (s1_X8_token hM0) gX8_unit_X8_token rfl hdX8_token (by decide) (Nat.le_of_ble_eq_true rfl) dX8_unit_9 rfl (fun r104 M105 h106 => ?_)
    obtain ⟨a108, rfl, rfl, h107⟩ := h106
    refine j_istore_n C 2 [(2, .int (sI a108)), (0, .ref (ad 78)), (1, .int (sI 4))] dX8_unit_12 rfl (by decide) rfl ?_
    refine j_iload_n C 0 2 dX8_unit_13 rfl rfl ?_
    refine y_sipush C dX8_unit_14 rfl ?_
    refine y_icmp_ne C 42 dX8_unit_17 (by decide) (by omega) (fun h109 => ?_) (fun h109 => ?_)
    · refine j_iload_n C 0 2 dX8_unit_42 rfl rfl ?_
      refine y_sipush C dX8_unit_43 rfl ?_
      refine y_icmp_ne C 71 dX8_unit_46 (by decide) (by omega) (fun h110 => ?_) (fun h110 => ?_)
      · refine j_aload_n C 1 0 dX8_unit_71 rfl rfl ?_
        refine j_iload_n C 2 1 dX8_unit_72 rfl rfl ?_
        refine j_callVv C (d := 11) (As := [.int (sI 4)]) (st := []) 78 (s_lt rfl rfl) (s_kc (c := 7) rfl rfl) (by decide) rfl (s4_X8_sum hM0 hpr) gX8_unit_X8_sum rfl hdX8_sum (by decide) (Nat.le_of_ble_eq_true rfl) dX8_unit_73 rfl (fun M112 h113 => ?_)
        have hM112 := h113
        refine j_aload_n C 1 0 dX8_unit_76 rfl rfl ?_
        refine j_callVi C (d := 0) (As := []) (st := []) 78 (s_lt rfl rfl) (s_kc (c := 7) rfl rfl) (by decide) rfl (s1_X8_token hM112) gX8_unit_X8_token rfl hdX8_token (by decide) (Nat.le_of_ble_eq_true rfl) dX8_unit_77 rfl (fun r115 M116 h117 => ?_)
        obtain ⟨a119, rfl, rfl, h118⟩ := h117
        refine j_istore_n C 3 [(3, .int (sI a119)), (2, .int (sI a108)), (0, .ref (ad 78)), (1, .int (sI 4))] dX8_unit_80 rfl (by decide) rfl ?_
        refine j_iload_n C 0 3 dX8_unit_81 rfl rfl ?_
        refine y_sipush C dX8_unit_82 rfl ?_
        refine y_icmp_eq C 102 dX8_unit_85 (by decide) (by omega) (fun h120 => ?_) (fun h120 => ?_)
        · refine j_aload_n C 2 0 dX8_unit_102 rfl rfl ?_
          refine j_dup C dX8_unit_103 rfl ?_
          refine y_getI C 7 _ _ fX8_unit_18 rfl rfl ft_7_2 sb_7_2 hM112 dX8_unit_104 (fun a121 ea121 la121 ua121 => ?_)
          refine y_iconst C dX8_unit_107 ?_
          refine y_iadd C dX8_unit_108 ?_
          refine y_putI C 7 _ _ qX8_unit_18 rfl rfl ft_7_2 sb_7_2 hM112 (PX.w hpr rfl rfl) dX8_unit_109 (by omega) (fun M123 eM123 hM123 => ?_)
          refine j_aload_n C 2 0 dX8_unit_112 rfl rfl ?_
          refine j_iload_n C 3 1 dX8_unit_113 rfl rfl ?_
          refine j_callVv C (d := 11) (As := [.int (sI 4)]) (st := []) 78 (s_lt rfl rfl) (s_kc (c := 7) rfl rfl) (by decide) rfl (s4_X8_sum hM123 hpr) gX8_unit_X8_sum rfl hdX8_sum (by decide) (Nat.le_of_ble_eq_true rfl) dX8_unit_114 rfl (fun M125 h126 => ?_)
          have hM125 := h126
          refine j_aload_n C 2 0 dX8_unit_117 rfl rfl ?_
          refine j_iload_n C 0 3 dX8_unit_118 rfl rfl ?_
          refine j_callVv C (d := 0) (As := [.int (sI a119)]) (st := []) 78 (s_lt rfl rfl) (s_kc (c := 7) rfl rfl) (by decide) rfl (s1_X8_emit hM125 hpr a119 (by omega)) gX8_unit_X8_emit rfl hdX8_emit (by decide) (Nat.le_of_ble_eq_true rfl) dX8_unit_119 rfl (fun M129 h130 => ?_)
          have hM129 := h130
          refine j_goto C 130 dX8_unit_122 (by decide) ?_
          exact hret _ _ _ dX8_unit_130 hM129
        · refine j_iload_n C 0 3 dX8_unit_88 rfl rfl ?_
          refine y_sipush C dX8_unit_89 rfl ?_
          refine y_icmp_eq C 102 dX8_unit_92 (by decide) (by omega) (fun h132 => ?_) (fun h132 => ?_)
          · refine j_aload_n C 2 0 dX8_unit_102 rfl rfl ?_
            refine j_dup C dX8_unit_103 rfl ?_
            refine y_getI C 7 _ _ fX8_unit_18 rfl rfl ft_7_2 sb_7_2 hM112 dX8_unit_104 (fun a133 ea133 la133 ua133 => ?_)
            refine y_iconst C dX8_unit_107 ?_
            refine y_iadd C dX8_unit_108 ?_
            refine y_putI C 7 _ _ qX8_unit_18 rfl rfl ft_7_2 sb_7_2 hM112 (PX.w hpr rfl rfl) dX8_unit_109 (by omega) (fun M135 eM135 hM135 => ?_)
            refine j_aload_n C 2 0 dX8_unit_112 rfl rfl ?_
            refine j_iload_n C 3 1 dX8_unit_113 rfl rfl ?_
            refine j_callVv C (d := 11) (As := [.int (sI 4)]) (st := []) 78 (s_lt rfl rfl) (s_kc (c := 7) rfl rfl) (by decide) rfl (s4_X8_sum hM135 hpr) gX8_unit_X8_sum rfl hdX8_sum (by decide) (Nat.le_of_ble_eq_true rfl) dX8_unit_114 rfl (fun M137 h138 => ?_)
            have hM137 := h138
            refine j_aload_n C 2 0 dX8_unit_117 rfl rfl ?_
            refine j_iload_n C 0 3 dX8_unit_118 rfl rfl ?_
            refine j_callVv C (d := 0) (As := [.int (sI a119)]) (st := []) 78 (s_lt rfl rfl) (s_kc (c := 7) rfl rfl) (by decide) rfl (s1_X8_emit hM137 hpr a119 (by omega)) gX8_unit_X8_emit rfl hdX8_emit (by decide) (Nat.le_of_ble_eq_true rfl) dX8_unit_119 rfl (fun M141 h142 => ?_)
            have hM141 := h142
            refine j_goto C 130 dX8_unit_122 (by decide) ?_
            exact hret _ _ _ dX8_unit_130 hM141
          · refine j_iload_n C 0 3 dX8_unit_95 rfl rfl ?_
            refine y_sipush C dX8_unit_96 rfl ?_
            refine y_icmp_ne C 125 dX8_unit_99 (by decide) (by omega) (fun h144 => ?_) (fun h144 => ?_)
            · refine j_aload_n C 2 0 dX8_unit_125 rfl rfl ?_
              refine y_iconst C dX8_unit_126 ?_
              refine j_callVv C (d := 0) (As := [.int (sI 2)]) (st := []) 78 (s_lt rfl rfl) (s_kc (c := 7) rfl rfl) (by decide) rfl (s1_X8_fail hM112 hpr 2 (by omega) (by omega)) gX8_unit_X8_fail rfl hdX8_fail (by decide) (Nat.le_of_ble_eq_true rfl) dX8_unit_127 rfl (fun M146 h147 => ?_)
              obtain ⟨hM146, fM146, h148⟩ := h147
              exact hret _ _ _ dX8_unit_130 hM146
            · refine j_aload_n C 2 0 dX8_unit_102 rfl rfl ?_
              refine j_dup C dX8_unit_103 rfl ?_
              refine y_getI C 7 _ _ fX8_unit_18 rfl rfl ft_7_2 sb_7_2 hM112 dX8_unit_104 (fun a149 ea149 la149 ua149 => ?_)
              refine y_iconst C dX8_unit_107 ?_
              refine y_iadd C dX8_unit_108 ?_
              refine y_putI C 7 _ _ qX8_unit_18 rfl rfl ft_7_2 sb_7_2 hM112 (PX.w hpr rfl rfl) dX8_unit_109 (by omega) (fun M151 eM151 hM151 => ?_)
              refine j_aload_n C 2 0 dX8_unit_112 rfl rfl ?_
              refine j_iload_n C 3 1 dX8_unit_113 rfl rfl ?_
              refine j_callVv C (d := 11) (As := [.int (sI 4)]) (st := []) 78 (s_lt rfl rfl) (s_kc (c := 7) rfl rfl) (by decide) rfl (s4_X8_sum hM151 hpr) gX8_unit_X8_sum rfl hdX8_sum (by decide) (Nat.le_of_ble_eq_true rfl) dX8_unit_114 rfl (fun M153 h154 => ?_)
              have hM153 := h154
              refine j_aload_n C 2 0 dX8_unit_117 rfl rfl ?_
              refine j_iload_n C 0 3 dX8_unit_118 rfl rfl ?_
              refine j_callVv C (d := 0) (As := [.int (sI a119)]) (st := []) 78 (s_lt rfl rfl) (s_kc (c := 7) rfl rfl) (by decide) rfl (s1_X8_emit hM153 hpr a119 (by omega)) gX8_unit_X8_emit rfl hdX8_emit (by decide) (Nat.le_of_ble_eq_true rfl) dX8_unit_119 rfl (fun M157 h158 => ?_)
              have hM157 := h158
              refine j_goto C 130 dX8_unit_122 (by decide) ?_
              exact hret _ _ _ dX8_unit_130 hM157
      · refine j_aload_n C 1 0 dX8_unit_49 rfl rfl ?_
        refine j_iload_n C 2 1 dX8_unit_50 rfl rfl ?_
        refine j_callVv C (d := 0) (As := [.int (sI 4)]) (st := []) 78 (s_lt rfl rfl) (s_kc (c := 7) rfl rfl) (by decide) rfl (s5_X8_goDeeper hM0 hpr (by omega)) gX8_unit_X8_goDeeper rfl hdX8_goDeeper (by decide) (Nat.le_of_ble_eq_true rfl) dX8_unit_51 rfl (fun M161 h162 => ?_)
        obtain ⟨hM161, fM161, h163⟩ := h162
        refine j_aload_n C 1 0 dX8_unit_54 rfl rfl ?_
        refine j_iload_n C 2 1 dX8_unit_55 rfl rfl ?_
        refine y_iconst C dX8_unit_56 ?_
        refine y_iadd C dX8_unit_57 ?_
        refine j_callVv C (d := 11) (As := [.int (sI (4 + 1))]) (st := []) 78 (s_lt rfl rfl) (s_kc (c := 7) rfl rfl) (by decide) rfl (s3_X8_truth hM161 hpr) gX8_unit_X8_truth rfl hdX8_truth (by decide) (Nat.le_of_ble_eq_true rfl) dX8_unit_58 rfl (fun M165 h166 => ?_)
        have hM165 := h166
        refine j_aload_n C 1 0 dX8_unit_61 rfl rfl ?_
        refine y_sipush C dX8_unit_62 rfl ?_
        refine j_callVv C (d := 1) (As := [.int (sI 2093)]) (st := []) 78 (s_lt rfl rfl) (s_kc (c := 7) rfl rfl) (by decide) rfl (s1_X8_expect hM165 hpr 2093 (by omega) (by omega)) gX8_unit_X8_expect rfl hdX8_expect (by decide) (Nat.le_of_ble_eq_true rfl) dX8_unit_65 rfl (fun M169 h170 => ?_)
        obtain ⟨hM169, fM169⟩ := h170
        refine j_goto C 130 dX8_unit_68 (by decide) ?_
        exact hret _ _ _ dX8_unit_130 hM169
    · refine j_aload_n C 1 0 dX8_unit_20 rfl rfl ?_
      refine j_iload_n C 2 1 dX8_unit_21 rfl rfl ?_
      refine j_callVv C (d := 0) (As := [.int (sI 4)]) (st := []) 78 (s_lt rfl rfl) (s_kc (c := 7) rfl rfl) (by decide) rfl (s5_X8_goDeeper hM0 hpr (by omega)) gX8_unit_X8_goDeeper rfl hdX8_goDeeper (by decide) (Nat.le_of_ble_eq_true rfl) dX8_unit_22 rfl (fun M173 h174 => ?_)
      obtain ⟨hM173, fM173, h175⟩ := h174
      refine j_aload_n C 1 0 dX8_unit_25 rfl rfl ?_
      refine j_iload_n C 2 1 dX8_unit_26 rfl rfl ?_
      refine y_iconst C dX8_unit_27 ?_
      refine y_iadd C dX8_unit_28 ?_
      refine j_callVv C (d := 9) (As := [.int (sI (4 + 1))]) (st := []) 78 (s_lt rfl rfl) (s_kc (c := 7) rfl rfl) (by decide) rfl (s3_X8_unit hM173 hpr) gX8_unit_X8_unit rfl hdX8_unit (by decide) (Nat.le_of_ble_eq_true rfl) dX8_unit_29 rfl (fun M177 h178 => ?_)
      have hM177 := h178
      refine j_aload_n C 1 0 dX8_unit_32 rfl rfl ?_
      refine y_sipush C dX8_unit_33 rfl ?_
      refine j_callVv C (d := 0) (As := [.int (sI 1016)]) (st := []) 78 (s_lt rfl rfl) (s_kc (c := 7) rfl rfl) (by decide) rfl (s1_X8_emit hM177 hpr 1016 (by omega)) gX8_unit_X8_emit rfl hdX8_emit (by decide) (Nat.le_of_ble_eq_true rfl) dX8_unit_36 rfl (fun M181 h182 => ?_)
      have hM181 := h182
      refine j_goto C 130 dX8_unit_39 (by decide) ?_
      exact hret _ _ _ dX8_unit_130 hM181
  · exact hret _ _ _ dX8_unit_7 hM0
