set_option maxHeartbeats 4000000 in
theorem s3_X11_restore {l : Launch} {dC : Nat → ClassId} {dI : Nat → Nat → Nat} {ad : Nat → Nat} {cA : Nat → ClassId} {pr : Nat → Nat → Bool} {Kz : mm_M} {M0 : mm_M} (hM0 : INV pr Kz M0) (hpr : PX pr) (hq6_0 : ∀ i, s_c i = 6 → pr i 0 = false) (hq6_1 : ∀ i, s_c i = 6 → pr i 1 = false) (hq8_0 : ∀ i, s_c i = 8 → pr i 0 = false) (a1 : Int) (ha1 : -2147483648 ≤ a1 ∧ a1 ≤ 2147483647) (hp0 : M0.2.2 0 4 = 7) (hp1 : M0.2.2 0 5 = 2) : Ci l 3 yX11_restore wsX11_restore dC dI ad cA [.ref (ad 0), .int (sI a1)] M0 (fun r M' => ∃ a : Int, r = sI a ∧ INV pr Kz M' ∧ FX [7, 8, 9, 10, 11, 12, 13, 14, 18, 83] M0 M' ∧ (-5) ≤ a ∧ a ≤ 0 ∧ (a1 = 0 ∧ a = 0 ∧ ¬ (M0.1 60 0).toInt = 0 ∧ b01 (PCP M' M0 7 61) = 1 ∧ b01 (skX M' 12 = skX M0 66) = 1 ∧ (M'.1 18 2).toInt = 0 ∧ b01 (FIL M' 83 0 8) = 1 ∨ a1 = 1 ∧ a = 0 ∧ ¬ (M0.1 69 0).toInt = 0 ∧ b01 (PCP M' M0 7 70) = 1 ∧ b01 (skX M' 12 = skX M0 75) = 1 ∧ (M'.1 18 2).toInt = 0 ∧ b01 (FIL M' 83 0 8) = 1 ∨ (a1 = 0 ∧ (M0.1 60 0).toInt = 0 ∨ a1 = 1 ∧ (M0.1 69 0).toInt = 0) ∧ a = -5 ∧ b01 (SMC M' M0 [7, 7 + 1, 7 + 2, 7 + 3, 7 + 4, 12, 13, 14, 18, 81, 82, 83, 84]) = 1 ∨ (a1 < 0 ∨ 1 < a1) ∧ a = -2 ∧ b01 (SMC M' M0 [7, 7 + 1, 7 + 2, 7 + 3, 7 + 4, 12, 13, 14, 18, 81, 82, 83, 84]) = 1)) := by
  refine ci_of (cc := cX11_restore) (maxL := 2) (ty := .int) (lv := [(0, .ref (ad 0)), (1, .int (sI a1))]) (by decide) rfl (fun r M' hp => rfl) (Nat.le_of_ble_eq_true rfl) rfl ?_
  intro p e s m args below meth c A Q C hret
  have epc0_4 : 7 = M0.2.2 0 4 := by omega
  refine j_iload_n C 1 1 dX11_restore_0 rfl rfl ?_
  refine y_if_lt C 13 dX11_restore_1 (by decide) (by omega) (fun h102 => ?_) (fun h102 => ?_)
  · refine y_bipush C dX11_restore_13 rfl ?_
    have u103a := smc_r M0 [7, 7 + 1, 7 + 2, 7 + 3, 7 + 4, 12, 13, 14, 18, 81, 82, 83, 84]
    exact hret _ _ _ _ dX11_restore_15 ⟨(-2), rfl, hM0, FX.rf, by omega⟩
  · refine j_iload_n C 1 1 dX11_restore_4 rfl rfl ?_
    refine j_aload_n C 0 0 dX11_restore_5 rfl rfl ?_
    refine y_getC C 10 59 fX11_restore_58 rfl rfl ft_10_10 sm_10_10 rfl hM0 dX11_restore_6 ?_
    refine y_alen C 30 2 rfl rfl rfl an_30 rfl rfl dX11_restore_9 ?_
    refine y_icmp_lt C 16 dX11_restore_10 (by decide) (by omega) (fun h104 => ?_) (fun h104 => ?_)
    · refine j_aload_n C 0 0 dX11_restore_16 rfl rfl ?_
      refine y_getC C 10 59 fX11_restore_58 rfl rfl ft_10_10 sm_10_10 rfl hM0 dX11_restore_17 ?_
      refine j_iload_n C 1 1 dX11_restore_20 rfl rfl ?_
      rcases (show a1 = 0 ∨ a1 = 1 by omega) with h105 | h105
      · rw [h105]
        refine y_aaldK C 30 2 2 60 rfl rfl rfl rfl an_30 rfl sma_30 sta_30 (by decide) hM0 dX11_restore_21 (by omega) rfl ?_
        refine y_getI C 2 _ _ fX11_restore_393 rfl rfl ft_2_0 sb_2_0 hM0 dX11_restore_22 (fun a107 ea107 la107 ua107 => ?_)
        obtain rfl : a107 = (M0.1 60 0).toInt := ea107
        refine y_if_ne C 31 dX11_restore_25 (by decide) (by omega) (fun h109 => ?_) (fun h109 => ?_)
        · refine j_aload_n C 0 0 dX11_restore_31 rfl rfl ?_
          refine y_getV C 10 7 fX11_restore_26 rfl rfl ft_10_4 (epc0_4) dX11_restore_32 ?_
          refine j_aload_n C 0 0 dX11_restore_35 rfl rfl ?_
          refine y_getC C 10 59 fX11_restore_58 rfl rfl ft_10_10 sm_10_10 rfl hM0 dX11_restore_36 ?_
          refine j_iload_n C 1 1 dX11_restore_39 rfl rfl ?_
          refine y_aaldK C 30 2 2 60 rfl rfl rfl rfl an_30 rfl sma_30 sta_30 (by decide) hM0 dX11_restore_40 (by omega) rfl ?_
          refine y_getC C 2 61 fX11_restore_397 rfl rfl ft_2_1 sm_2_1 rfl hM0 dX11_restore_41 ?_
          refine j_callVv C (d := 0) (As := [.ref (ad 61)]) (st := []) 7 (s_lt rfl rfl) (s_kc (c := 6) rfl rfl) (by decide) rfl (s8_X7_copyFrom hM0 hpr hq6_0 hq6_1) gX11_restore_X7_copyFrom rfl hdX7_copyFrom (by decide) (Nat.le_of_ble_eq_true rfl) dX11_restore_44 rfl (fun M112 h113 => ?_)
          obtain ⟨hM112, fM112, h114⟩ := h113
          refine j_aload_n C 0 0 dX11_restore_47 rfl rfl ?_
          refine y_getC C 10 12 fX11_restore_36 rfl rfl ft_10_6 sm_10_6 rfl hM112 dX11_restore_48 ?_
          refine j_aload_n C 0 0 dX11_restore_51 rfl rfl ?_
          refine y_getC C 10 59 fX11_restore_58 rfl rfl ft_10_10 sm_10_10 rfl hM112 dX11_restore_52 ?_
          refine j_iload_n C 1 1 dX11_restore_55 rfl rfl ?_
          refine y_aaldK C 30 2 2 60 rfl rfl rfl rfl an_30 rfl sma_30 sta_30 (by decide) hM112 dX11_restore_56 (by omega) rfl ?_
          refine y_getC C 2 66 fX11_restore_400 rfl rfl ft_2_2 sm_2_2 rfl hM112 dX11_restore_57 ?_
          refine j_callVv C (d := 0) (As := [.ref (ad 66)]) (st := []) 12 (s_lt rfl rfl) (s_kc (c := 8) rfl rfl) (by decide) rfl (s36_X9_copyFrom hM112 hpr hq8_0) gX11_restore_X9_copyFrom rfl hdX9_copyFrom (by decide) (Nat.le_of_ble_eq_true rfl) dX11_restore_60 rfl (fun M117 h118 => ?_)
          obtain ⟨hM117, fM117, h119⟩ := h118
          refine j_aload_n C 0 0 dX11_restore_63 rfl rfl ?_
          refine j_callVv C (d := 2) (As := []) (st := []) 0 (s_lt rfl rfl) (s_kc (c := 10) rfl rfl) (by decide) rfl (s2_X11_beginAnew hM117 hpr) gX11_restore_X11_beginAnew rfl hdX11_beginAnew (by decide) (Nat.le_of_ble_eq_true rfl) dX11_restore_64 rfl (fun M121 h122 => ?_)
          obtain ⟨hM121, fM121, h123⟩ := h122
          refine y_iconst C dX11_restore_67 ?_
          have u124p : b01 (PCP M121 M0 7 61) = 1 := pcp_m (B := M0) (C := M112) (b01_e (by omega)) (ple_r M0 61) (ple_f (p := 7) (((FX.rf.tr fM117 (by decide)).tr fM121 (by decide)) : FX [12, 13, 14, 18, 83] M112 M121) rfl (by decide))
          have u124s : b01 (skX M121 12 = skX M0 66) = 1 := b01_i ((sk_f (ske_n ((FX.rf.tr fM121 (by decide)) : FX [18, 83] M117 M121) ⟨by decide, by decide, by decide⟩)).trans ((b01_e (P := skX M117 12 = skX M112 66) (by omega)).trans (sk_f (ske_n ((FX.rf.tr fM112 (by decide)) : FX [7, 8, 9, 10, 11] M0 M112) ⟨by decide, by decide, by decide⟩))))
          exact hret _ _ _ _ dX11_restore_68 ⟨0, rfl, hM121, (((FX.rf.tr fM112 (by decide)).tr fM117 (by decide)).tr fM121 (by decide)), by omega⟩
        · refine y_bipush C dX11_restore_28 rfl ?_
          have u125a := smc_r M0 [7, 7 + 1, 7 + 2, 7 + 3, 7 + 4, 12, 13, 14, 18, 81, 82, 83, 84]
          exact hret _ _ _ _ dX11_restore_30 ⟨(-5), rfl, hM0, FX.rf, by omega⟩
      · rw [h105]
        refine y_aaldK C 30 2 2 69 rfl rfl rfl rfl an_30 rfl sma_30 sta_30 (by decide) hM0 dX11_restore_21 (by omega) rfl ?_
        refine y_getI C 2 _ _ fX11_restore_393 rfl rfl ft_2_0 sb_2_0 hM0 dX11_restore_22 (fun a127 ea127 la127 ua127 => ?_)
        obtain rfl : a127 = (M0.1 69 0).toInt := ea127
        refine y_if_ne C 31 dX11_restore_25 (by decide) (by omega) (fun h129 => ?_) (fun h129 => ?_)
        · refine j_aload_n C 0 0 dX11_restore_31 rfl rfl ?_
          refine y_getV C 10 7 fX11_restore_26 rfl rfl ft_10_4 (epc0_4) dX11_restore_32 ?_
          refine j_aload_n C 0 0 dX11_restore_35 rfl rfl ?_
          refine y_getC C 10 59 fX11_restore_58 rfl rfl ft_10_10 sm_10_10 rfl hM0 dX11_restore_36 ?_
          refine j_iload_n C 1 1 dX11_restore_39 rfl rfl ?_
          refine y_aaldK C 30 2 2 69 rfl rfl rfl rfl an_30 rfl sma_30 sta_30 (by decide) hM0 dX11_restore_40 (by omega) rfl ?_
          refine y_getC C 2 70 fX11_restore_397 rfl rfl ft_2_1 sm_2_1 rfl hM0 dX11_restore_41 ?_
          refine j_callVv C (d := 0) (As := [.ref (ad 70)]) (st := []) 7 (s_lt rfl rfl) (s_kc (c := 6) rfl rfl) (by decide) rfl (s9_X7_copyFrom hM0 hpr hq6_0 hq6_1) gX11_restore_X7_copyFrom rfl hdX7_copyFrom (by decide) (Nat.le_of_ble_eq_true rfl) dX11_restore_44 rfl (fun M132 h133 => ?_)
          obtain ⟨hM132, fM132, h134⟩ := h133
          refine j_aload_n C 0 0 dX11_restore_47 rfl rfl ?_
          refine y_getC C 10 12 fX11_restore_36 rfl rfl ft_10_6 sm_10_6 rfl hM132 dX11_restore_48 ?_
          refine j_aload_n C 0 0 dX11_restore_51 rfl rfl ?_
          refine y_getC C 10 59 fX11_restore_58 rfl rfl ft_10_10 sm_10_10 rfl hM132 dX11_restore_52 ?_
          refine j_iload_n C 1 1 dX11_restore_55 rfl rfl ?_
          refine y_aaldK C 30 2 2 69 rfl rfl rfl rfl an_30 rfl sma_30 sta_30 (by decide) hM132 dX11_restore_56 (by omega) rfl ?_
          refine y_getC C 2 75 fX11_restore_400 rfl rfl ft_2_2 sm_2_2 rfl hM132 dX11_restore_57 ?_
          refine j_callVv C (d := 0) (As := [.ref (ad 75)]) (st := []) 12 (s_lt rfl rfl) (s_kc (c := 8) rfl rfl) (by decide) rfl (s37_X9_copyFrom hM132 hpr hq8_0) gX11_restore_X9_copyFrom rfl hdX9_copyFrom (by decide) (Nat.le_of_ble_eq_true rfl) dX11_restore_60 rfl (fun M137 h138 => ?_)
          obtain ⟨hM137, fM137, h139⟩ := h138
          refine j_aload_n C 0 0 dX11_restore_63 rfl rfl ?_
          refine j_callVv C (d := 2) (As := []) (st := []) 0 (s_lt rfl rfl) (s_kc (c := 10) rfl rfl) (by decide) rfl (s2_X11_beginAnew hM137 hpr) gX11_restore_X11_beginAnew rfl hdX11_beginAnew (by decide) (Nat.le_of_ble_eq_true rfl) dX11_restore_64 rfl (fun M141 h142 => ?_)
          obtain ⟨hM141, fM141, h143⟩ := h142
          refine y_iconst C dX11_restore_67 ?_
          have u144p : b01 (PCP M141 M0 7 70) = 1 := pcp_m (B := M0) (C := M132) (b01_e (by omega)) (ple_r M0 70) (ple_f (p := 7) (((FX.rf.tr fM137 (by decide)).tr fM141 (by decide)) : FX [12, 13, 14, 18, 83] M132 M141) rfl (by decide))
          have u144s : b01 (skX M141 12 = skX M0 75) = 1 := b01_i ((sk_f (ske_n ((FX.rf.tr fM141 (by decide)) : FX [18, 83] M137 M141) ⟨by decide, by decide, by decide⟩)).trans ((b01_e (P := skX M137 12 = skX M132 75) (by omega)).trans (sk_f (ske_n ((FX.rf.tr fM132 (by decide)) : FX [7, 8, 9, 10, 11] M0 M132) ⟨by decide, by decide, by decide⟩))))
          exact hret _ _ _ _ dX11_restore_68 ⟨0, rfl, hM141, (((FX.rf.tr fM132 (by decide)).tr fM137 (by decide)).tr fM141 (by decide)), by omega⟩
        · refine y_bipush C dX11_restore_28 rfl ?_
          have u145a := smc_r M0 [7, 7 + 1, 7 + 2, 7 + 3, 7 + 4, 12, 13, 14, 18, 81, 82, 83, 84]
          exact hret _ _ _ _ dX11_restore_30 ⟨(-5), rfl, hM0, FX.rf, by omega⟩
    · refine y_bipush C dX11_restore_13 rfl ?_
      have u146a := smc_r M0 [7, 7 + 1, 7 + 2, 7 + 3, 7 + 4, 12, 13, 14, 18, 81, 82, 83, 84]
      exact hret _ _ _ _ dX11_restore_15 ⟨(-2), rfl, hM0, FX.rf, by omega⟩
