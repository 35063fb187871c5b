set_option maxHeartbeats 4000000 in
theorem s2_X11_who {l : Launch} {dC : Nat → ClassId} {dI : Nat → Nat → Nat} {ad : Nat → Nat} {cA : Nat → ClassId} {pr : Nat → Nat → Bool} {Kz : mm_M} {M0 : mm_M} (hM0 : INV pr Kz M0) (hpr : PX pr) (a1 : Int) (ha1 : -2147483648 ≤ a1 ∧ a1 ≤ 2147483647) (a2 : Int) (ha2 : -2147483648 ≤ a2 ∧ a2 ≤ 2147483647) (gp : Nat) (cgp : s_c gp = 6) (egp : gp = M0.2.2 0 4) (hp0 : b01 (APX M0 gp) = 1) (hp1 : b01 (LAW M0 gp) = 1) (hp2 : b01 (PRR (rwX M0 gp 12)) = 1) (hp3 : (M0.1 12 3).toInt < pw2 (M0.1 12 0).toInt) : Ci l 6 yX11_who wsX11_who dC dI ad cA [.ref (ad 0), .int (sI a1), .int (sI a2)] M0 (fun r M' => ∃ a : Int, r = sI a ∧ INV pr Kz M' ∧ FX [81, 82, 83, 84, 85, 86, 88, 89, 90, 92, 93, 96] M0 M' ∧ (-7) ≤ a ∧ a ≤ 63 ∧ (b01 (APX M' gp) = 1)) := by
  refine ci_of (cc := cX11_who) (maxL := 4) (ty := .int) (lv := [(0, .ref (ad 0)), (1, .int (sI a1)), (2, .int (sI a2))]) (by decide) rfl (fun r M' hp => rfl) (Nat.le_of_ble_eq_true rfl) rfl ?_
  intro p e s m args below meth c A Q C hret
  refine j_aload_n C 0 0 dX11_who_0 rfl rfl ?_
  refine j_iload_n C 1 1 dX11_who_1 rfl rfl ?_
  refine j_callVi C (d := 2) (As := [.int (sI a1)]) (st := []) 0 (s_lt rfl rfl) (s_kc (c := 10) rfl rfl) (by decide) rfl (s1_X11_cameRefusal hM0 a1 (by omega)) gX11_who_X11_cameRefusal rfl hdX11_cameRefusal (by decide) (Nat.le_of_ble_eq_true rfl) dX11_who_2 rfl (fun r102 M103 h104 => ?_)
  obtain ⟨a106, rfl, rfl, h105⟩ := h104
  refine j_istore_n C 3 [(3, .int (sI a106)), (0, .ref (ad 0)), (1, .int (sI a1)), (2, .int (sI a2))] dX11_who_5 rfl (by decide) rfl ?_
  refine j_iload_n C 0 3 dX11_who_6 rfl rfl ?_
  refine y_if_eq C 12 dX11_who_7 (by decide) (by omega) (fun h107 => ?_) (fun h107 => ?_)
  · refine j_aload_n C 1 0 dX11_who_12 rfl rfl ?_
    refine y_getC C 10 50 fX11_who_52 rfl rfl ft_10_9 sm_10_9 rfl hM0 dX11_who_13 ?_
    refine j_iload_n C 2 1 dX11_who_16 rfl rfl ?_
    refine y_aald C 28 4 9 rfl rfl rfl rfl an_28 rfl sma_28 sta_28 (by decide) hM0 dX11_who_17 (by omega) (fun v108 cv108 => ?_)
    refine j_iload_n C 3 2 dX11_who_18 rfl rfl ?_
    refine j_callVi C (d := 0) (As := [.int (sI a2)]) (st := []) v108 (s_lt cv108 rfl) (s_kc (c := 9) cv108 rfl) (by decide) rfl (s1_X10_has hM0 cv108 a2 (by omega)) gX11_who_X10_has rfl hdX10_has (by decide) (Nat.le_of_ble_eq_true rfl) dX11_who_19 rfl (fun r109 M110 h111 => ?_)
    obtain ⟨a113, rfl, rfl, h112⟩ := h111
    refine y_if_ne C 28 dX11_who_22 (by decide) (by omega) (fun h114 => ?_) (fun h114 => ?_)
    · refine j_aload_n C 1 0 dX11_who_28 rfl rfl ?_
      refine y_getC C 10 88 fX11_who_94 rfl rfl ft_10_14 sm_10_14 rfl hM0 dX11_who_29 ?_
      refine j_aload_n C 1 0 dX11_who_32 rfl rfl ?_
      refine y_getV C 10 gp fX11_who_26 rfl rfl ft_10_4 (egp) dX11_who_33 ?_
      refine j_aload_n C 1 0 dX11_who_36 rfl rfl ?_
      refine y_getC C 10 12 fX11_who_36 rfl rfl ft_10_6 sm_10_6 rfl hM0 dX11_who_37 ?_
      refine j_aload_n C 1 0 dX11_who_40 rfl rfl ?_
      refine y_getC C 10 12 fX11_who_36 rfl rfl ft_10_6 sm_10_6 rfl hM0 dX11_who_41 ?_
      refine y_getI C 8 _ _ fX11_who_153 rfl rfl ft_8_4 sb_8_4 hM0 dX11_who_44 (fun a115 ea115 la115 ua115 => ?_)
      refine j_callVv C (d := 5) (As := [.ref (ad gp), .ref (ad 12), .int (sI a115)]) (st := []) 88 (s_lt rfl rfl) (s_kc (c := 4) rfl rfl) (by decide) rfl (s2_X5_look hM0 hpr cgp a115 (by omega) (by omega) (by omega) (by omega) (by omega) (by omega)) gX11_who_X5_look rfl hdX5_look (by decide) (Nat.le_of_ble_eq_true rfl) dX11_who_47 rfl (fun M119 h120 => ?_)
      obtain ⟨hM119, fM119, h121⟩ := h120
      have u122a := tn_a (M := M119) (p := gp) (f := rwX M0 gp 12) (by omega)
      refine j_aload_n C 1 0 dX11_who_50 rfl rfl ?_
      refine y_getC C 10 95 fX11_who_103 rfl rfl ft_10_15 sm_10_15 rfl hM119 dX11_who_51 ?_
      refine j_aload_n C 1 0 dX11_who_54 rfl rfl ?_
      refine y_getC C 10 50 fX11_who_52 rfl rfl ft_10_9 sm_10_9 rfl hM119 dX11_who_55 ?_
      refine j_iload_n C 2 1 dX11_who_58 rfl rfl ?_
      refine y_aald C 28 4 9 rfl rfl rfl rfl an_28 rfl sma_28 sta_28 (by decide) hM119 dX11_who_59 (by omega) (fun v123 cv123 => ?_)
      refine j_iload_n C 3 2 dX11_who_60 rfl rfl ?_
      refine j_callVi C (d := 3) (As := [.ref (ad v123), .int (sI a2)]) (st := []) 95 (s_lt rfl rfl) (s_kc (c := 0) rfl rfl) (by decide) rfl (s2_X0_comers hM119 hpr cv123 a2 (by omega)) gX11_who_X0_comers rfl hdX0_comers (by decide) (Nat.le_of_ble_eq_true rfl) dX11_who_61 rfl (fun r124 M125 h126 => ?_)
      obtain ⟨a128, rfl, hM125, fM125, h127⟩ := h126
      have u129A7 := hM119.rd (i := gp) (c := 6) (k := 7) cgp (show s_b 6 7 = (0, 900) from rfl)
      have u129A9 := hM119.rd (i := gp) (c := 6) (k := 9) cgp (show s_b 6 9 = (0, 900) from rfl)
      have u129A := apx_o (M := M119) (N := M125) (p := gp) (ple_f (p := gp) ((FX.rf.tr fM125 (by decide)) : FX [88, 92, 93, 96] M119 M125) cgp (by decide)) (((FX.rf.tr fM125 (by decide)) : FX [88, 92, 93, 96] M119 M125).cell (by decide)) (((FX.rf.tr fM125 (by decide)) : FX [88, 92, 93, 96] M119 M125).cell (by decide)) (((FX.rf.tr fM125 (by decide)) : FX [88, 92, 93, 96] M119 M125).cell (by decide)) u129A7.1 u129A9.1 (by omega)
      exact hret _ _ _ _ dX11_who_64 ⟨a128, rfl, hM125, ((FX.rf.tr fM119 (by decide)).tr fM125 (by decide)), by omega⟩
    · refine y_bipush C dX11_who_25 rfl ?_
      exact hret _ _ _ _ dX11_who_27 ⟨(-7), rfl, hM0, FX.rf, by omega⟩
  · refine j_iload_n C 0 3 dX11_who_10 rfl rfl ?_
    exact hret _ _ _ _ dX11_who_11 ⟨a106, rfl, hM0, FX.rf, by omega⟩
set_option maxHeartbeats 4000000 in
theorem s2_X11_putBytes {l : Launch} {dC : Nat → ClassId} {dI : Nat → Nat → Nat} {ad : Nat → Nat} {cA : Nat → ClassId} {pr : Nat → Nat → Bool} {Kz : mm_M} {M0 : mm_M} (hM0 : INV pr Kz M0) (hpr : PX pr) (hq20 : ∀ i k, s_c i = 20 → pr i k = false) (hq10_1 : ∀ i, s_c i = 10 → pr i 1 = false) (a1 : Int) (ha1 : -2147483648 ≤ a1 ∧ a1 ≤ 2147483647) (hp0 : (M0.1 0 1).toInt ≤ 896) : Cv l 0 yX11_putBytes wsX11_putBytes dC dI ad cA [.ref (ad 0), .int (sI a1)] M0 (fun M' => INV pr Kz M' ∧ FX [0, 1] M0 M' ∧ ((M'.1 0 1).toInt = (M0.1 0 1).toInt + 4 ∨ 896 < (M0.1 0 1).toInt) ∧ (b01 (PBX M0 M' a1) = 1)) := by
  refine cv_of (cc := cX11_putBytes) (maxL := 3) (lv := [(0, .ref (ad 0)), (1, .int (sI a1))]) (by decide) rfl (Nat.le_of_ble_eq_true rfl) rfl ?_
  intro p e s m args below meth c A Q C hret
  refine y_bipush C dX11_putBytes_0 rfl ?_
  refine j_istore_n C 2 [(2, .int (sI 24)), (0, .ref (ad 0)), (1, .int (sI a1))] dX11_putBytes_2 rfl (by decide) rfl ?_
  have u101z := pbx0 M0 a1
  have L119 : ∀ (n117 : Nat), ∀ (a120 : Int) (M121 : mm_M), ((-8) ≤ a120 ∧ a120 ≤ 24 ∧ (8 * (M121.1 0 1).toInt + a120 = 8 * (M0.1 0 1).toInt + 24 ∨ 896 < (M0.1 0 1).toInt) ∧ (b01 (PBX M0 M121 a1) = 1) ∧ ((M0.1 0 1).toInt ≤ (M121.1 0 1).toInt) ∧ (a120 - (-8)) < (n117 : Int)) → INV pr Kz M121 → FX [0, 1] M0 M121 → jj p l e (cn_R 0) s m args below meth c 0 0 Q 3 dC dI ad cA A M121 3 [(0, .ref (ad 0)), (1, .int (sI a1)), (2, .int (sI a120))] [] := by
    intro n117
    induction n117 with
    | zero =>
      intro a120 M121 h122 hM121 fM121
      exfalso; omega
    | succ n117 ih118 =>
      intro a120 M121 h122 hM121 fM121
      refine j_iload_n C 2 2 dX11_putBytes_3 rfl rfl ?_
      refine y_if_lt C 51 dX11_putBytes_4 (by decide) (by omega) (fun h123 => ?_) (fun h123 => ?_)
      · exact hret _ _ _ dX11_putBytes_51 ⟨hM121, (FX.rf.tr fM121 (by decide)), by omega⟩
      · refine j_aload_n C 0 0 dX11_putBytes_7 rfl rfl ?_
        refine y_getI C 10 _ _ fX11_putBytes_13 rfl rfl ft_10_1 sb_10_1 hM121 dX11_putBytes_8 (fun a124 ea124 la124 ua124 => ?_)
        refine j_aload_n C 0 0 dX11_putBytes_11 rfl rfl ?_
        refine y_getC C 10 1 fX11_putBytes_9 rfl rfl ft_10_0 sm_10_0 rfl hM121 dX11_putBytes_12 ?_
        refine y_alen C 20 900 rfl rfl rfl an_20 rfl rfl dX11_putBytes_15 ?_
        refine y_icmp_ge C 51 dX11_putBytes_16 (by decide) (by omega) (fun h126 => ?_) (fun h126 => ?_)
        · exact hret _ _ _ dX11_putBytes_51 ⟨hM121, (FX.rf.tr fM121 (by decide)), by omega⟩
        · refine j_aload_n C 0 0 dX11_putBytes_19 rfl rfl ?_
          refine y_getC C 10 1 fX11_putBytes_9 rfl rfl ft_10_0 sm_10_0 rfl hM121 dX11_putBytes_20 ?_
          refine j_aload_n C 0 0 dX11_putBytes_23 rfl rfl ?_
          refine y_getI C 10 _ _ fX11_putBytes_13 rfl rfl ft_10_1 sb_10_1 hM121 dX11_putBytes_24 (fun a127 ea127 la127 ua127 => ?_)
          refine j_iload_n C 1 1 dX11_putBytes_27 rfl rfl ?_
          refine j_iload_n C 2 2 dX11_putBytes_28 rfl rfl ?_
          refine e_iushr C dX11_putBytes_29 (fun lb129 ub129 => ?_)
          refine y_sipush C dX11_putBytes_30 rfl ?_
          refine e_iandR C dX11_putBytes_33 (by omega) (fun lb130 ub130 => ?_)
          refine y_iast C 20 900 _ _ rfl rfl rfl ak_20 an_20 rfl (sb_20 _) hM121 (hq20 _ _ rfl) dX11_putBytes_34 (by omega) (by omega) (fun M131 eM131 hM131 => ?_)
          refine j_aload_n C 0 0 dX11_putBytes_35 rfl rfl ?_
          refine j_dup C dX11_putBytes_36 rfl ?_
          refine y_getI C 10 _ _ fX11_putBytes_13 rfl rfl ft_10_1 sb_10_1 hM131 dX11_putBytes_37 (fun a132 ea132 la132 ua132 => ?_)
          have qa132 : a132 = a124 := (s_fa eM131 (by decide) (ea132)).trans ea124.symm
          refine y_iconst C dX11_putBytes_40 ?_
          refine y_iadd C dX11_putBytes_41 ?_
          refine y_putI C 10 _ _ qX11_putBytes_13 rfl rfl ft_10_1 sb_10_1 hM131 (hq10_1 _ rfl) dX11_putBytes_42 (by omega) (fun M134 eM134 hM134 => ?_)
          refine y_iinc C 2 [(2, .int (sI (a120 + (-8)))), (0, .ref (ad 0)), (1, .int (sI a1))] dX11_putBytes_45 rfl (by decide) rfl ?_
          refine j_goto C 3 dX11_putBytes_48 (by decide) ?_
          have u135s := pbxt (M0 := M0) (M := M121) (x := a1) (by omega) eM131 eM134 (by omega) (by omega) ⟨rfl, by omega, by omega⟩ (by omega)
          have zz0_1 := (Eq.trans (rfl : (M134.1 0 1).toInt = (M134.1 0 1).toInt) (s_wr eM134 (by omega))); refine j_lv [1, 2, 0] rfl ?_; exact ih118 (a120 + (-8)) M134 (by omega) hM134 (((FX.rf.tr fM121 (by decide)).wI eM131 (by decide)).wI eM134 (by decide))
  refine j_lv [1, 2, 0] rfl ?_; exact L119 2010 24 M0 (by omega) hM0 FX.rf
set_option maxHeartbeats 4000000 in
theorem s2_X11_feed {l : Launch} {dC : Nat → ClassId} {dI : Nat → Nat → Nat} {ad : Nat → Nat} {cA : Nat → ClassId} {pr : Nat → Nat → Bool} {Kz : mm_M} {M0 : mm_M} (hM0 : INV pr Kz M0) (hpr : PX pr) (hq20 : ∀ i k, s_c i = 20 → pr i k = false) (hq10_1 : ∀ i, s_c i = 10 → pr i 1 = false) (a1 : Int) (ha1 : -2147483648 ≤ a1 ∧ a1 ≤ 2147483647) (a2 : Int) (ha2 : -2147483648 ≤ a2 ∧ a2 ≤ 2147483647) (a3 : Int) (ha3 : -2147483648 ≤ a3 ∧ a3 ≤ 2147483647) (a4 : Int) (ha4 : -2147483648 ≤ a4 ∧ a4 ≤ 2147483647) (a5 : Int) (ha5 : -2147483648 ≤ a5 ∧ a5 ≤ 2147483647) : Ci l 1 yX11_feed wsX11_feed dC dI ad cA [.ref (ad 0), .int (sI a1), .int (sI a2), .int (sI a3), .int (sI a4), .int (sI a5)] M0 (fun r M' => ∃ a : Int, r = sI a ∧ INV pr Kz M' ∧ FX [0, 1] M0 M' ∧ (-5) ≤ a ∧ a ≤ 900 ∧ ((M0.1 0 1).toInt ≤ 880 ∧ a = (M0.1 0 1).toInt + 20 ∧ (M'.1 0 1).toInt = a ∨ 880 < (M0.1 0 1).toInt ∧ a = -5 ∧ (M'.1 0 1).toInt = (M0.1 0 1).toInt) ∧ (b01 (FDX M0 M' a1 a2 a3 a4 a5) = 1)) := by
  refine ci_of (cc := cX11_feed) (maxL := 6) (ty := .int) (lv := [(0, .ref (ad 0)), (1, .int (sI a1)), (2, .int (sI a2)), (3, .int (sI a3)), (4, .int (sI a4)), (5, .int (sI a5))]) (by decide) rfl (fun r M' hp => rfl) (Nat.le_of_ble_eq_true rfl) rfl ?_
  intro p e s m args below meth c A Q C hret
  refine j_aload_n C 0 0 dX11_feed_0 rfl rfl ?_
  refine y_getI C 10 _ _ fX11_feed_13 rfl rfl ft_10_1 sb_10_1 hM0 dX11_feed_1 (fun a101 ea101 la101 ua101 => ?_)
  refine y_bipush C dX11_feed_4 rfl ?_
  refine y_iadd C dX11_feed_6 ?_
  refine y_sipush C dX11_feed_7 rfl ?_
  refine y_icmp_le C 16 dX11_feed_10 (by decide) (by omega) (fun h103 => ?_) (fun h103 => ?_)
  · refine j_aload_n C 0 0 dX11_feed_16 rfl rfl ?_
    refine j_iload_n C 1 1 dX11_feed_17 rfl rfl ?_
    refine j_callVv C (d := 0) (As := [.int (sI a1)]) (st := []) 0 (s_lt rfl rfl) (s_kc (c := 10) rfl rfl) (by decide) rfl (s2_X11_putBytes hM0 hpr hq20 hq10_1 a1 (by omega) (by omega)) gX11_feed_X11_putBytes rfl hdX11_putBytes (by decide) (Nat.le_of_ble_eq_true rfl) dX11_feed_18 rfl (fun M105 h106 => ?_)
    obtain ⟨hM105, fM105, h107⟩ := h106
    refine j_aload_n C 0 0 dX11_feed_21 rfl rfl ?_
    refine j_iload_n C 2 2 dX11_feed_22 rfl rfl ?_
    refine j_callVv C (d := 0) (As := [.int (sI a2)]) (st := []) 0 (s_lt rfl rfl) (s_kc (c := 10) rfl rfl) (by decide) rfl (s2_X11_putBytes hM105 hpr hq20 hq10_1 a2 (by omega) (by omega)) gX11_feed_X11_putBytes rfl hdX11_putBytes (by decide) (Nat.le_of_ble_eq_true rfl) dX11_feed_23 rfl (fun M109 h110 => ?_)
    obtain ⟨hM109, fM109, h111⟩ := h110
    refine j_aload_n C 0 0 dX11_feed_26 rfl rfl ?_
    refine j_iload_n C 3 3 dX11_feed_27 rfl rfl ?_
    refine j_callVv C (d := 0) (As := [.int (sI a3)]) (st := []) 0 (s_lt rfl rfl) (s_kc (c := 10) rfl rfl) (by decide) rfl (s2_X11_putBytes hM109 hpr hq20 hq10_1 a3 (by omega) (by omega)) gX11_feed_X11_putBytes rfl hdX11_putBytes (by decide) (Nat.le_of_ble_eq_true rfl) dX11_feed_28 rfl (fun M113 h114 => ?_)
    obtain ⟨hM113, fM113, h115⟩ := h114
    refine j_aload_n C 0 0 dX11_feed_31 rfl rfl ?_
    refine j_iload C 4 dX11_feed_32 rfl ?_
    refine j_callVv C (d := 0) (As := [.int (sI a4)]) (st := []) 0 (s_lt rfl rfl) (s_kc (c := 10) rfl rfl) (by decide) rfl (s2_X11_putBytes hM113 hpr hq20 hq10_1 a4 (by omega) (by omega)) gX11_feed_X11_putBytes rfl hdX11_putBytes (by decide) (Nat.le_of_ble_eq_true rfl) dX11_feed_34 rfl (fun M117 h118 => ?_)
    obtain ⟨hM117, fM117, h119⟩ := h118
    refine j_aload_n C 0 0 dX11_feed_37 rfl rfl ?_
    refine j_iload C 5 dX11_feed_38 rfl ?_
    refine j_callVv C (d := 0) (As := [.int (sI a5)]) (st := []) 0 (s_lt rfl rfl) (s_kc (c := 10) rfl rfl) (by decide) rfl (s2_X11_putBytes hM117 hpr hq20 hq10_1 a5 (by omega) (by omega)) gX11_feed_X11_putBytes rfl hdX11_putBytes (by decide) (Nat.le_of_ble_eq_true rfl) dX11_feed_40 rfl (fun M121 h122 => ?_)
    obtain ⟨hM121, fM121, h123⟩ := h122
    refine j_aload_n C 0 0 dX11_feed_43 rfl rfl ?_
    refine y_getI C 10 _ _ fX11_feed_13 rfl rfl ft_10_1 sb_10_1 hM121 dX11_feed_44 (fun a124 ea124 la124 ua124 => ?_)
    have u126f := fdx5 (a := a1) (b := a2) (c := a3) (d := a4) (e := a5) (M := M0) (M1 := M105) (M2 := M109) (M3 := M113) (M4 := M117) (M5 := M121) (by omega) (by omega) (by omega) (by omega) (by omega) (by omega)
    exact hret _ _ _ _ dX11_feed_47 ⟨a124, rfl, hM121, (((((FX.rf.tr fM105 (by decide)).tr fM109 (by decide)).tr fM113 (by decide)).tr fM117 (by decide)).tr fM121 (by decide)), by omega⟩
  · refine y_bipush C dX11_feed_13 rfl ?_
    have u127z := fdx0 M0 a1 a2 a3 a4 a5
    exact hret _ _ _ _ dX11_feed_15 ⟨(-5), rfl, hM0, FX.rf, by omega⟩
