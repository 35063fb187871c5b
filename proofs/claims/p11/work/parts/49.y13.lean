section
set_option maxHeartbeats 4000000 in
theorem s2_X11_shop {l : Launch} {dC : Nat → ClassId} {dI : Nat → Nat → Nat} {ad : Nat → Nat} {cA : Nat → ClassId} {pr : Nat → Nat → Bool} {Kz : mm_M} {M0 : mm_M} (hM0 : INV pr Kz M0) (hpr : PX pr) (hq7_3 : ∀ i, s_c i = 7 → pr i 3 = false) (hq7_4 : ∀ i, s_c i = 7 → pr i 4 = false) (hq6_0 : ∀ i, s_c i = 6 → pr i 0 = false) (hq6_1 : ∀ i, s_c i = 6 → pr i 1 = false) (hq8_0 : ∀ i, s_c i = 8 → pr i 0 = false) (hq10_1 : ∀ i, s_c i = 10 → pr i 1 = false) (hq10_2 : ∀ i, s_c i = 10 → pr i 2 = false) (hq10_3 : ∀ i, s_c i = 10 → pr i 3 = false) (hq10_4 : ∀ i, s_c i = 10 → pr i 4 = false) (hq10_5 : ∀ i, s_c i = 10 → pr i 5 = false) (a1 : Int) (ha1 : -2147483648 ≤ a1 ∧ a1 ≤ 2147483647) (hp0 : M0.2.2 0 4 = 2) (hp1 : M0.2.2 0 5 = 7) : Ci l 29 yX11_shop wsX11_shop dC dI ad cA [.ref (ad 0), .int (sI a1)] M0 (fun r M' => ∃ a : Int, r = sI a ∧ INV pr Kz M' ∧ (-2147483648) ≤ a ∧ a ≤ 2147483647 ∧ (0 ≤ a1 ∧ a1 ≤ (M0.1 0 1).toInt ∧ (M'.1 0 1).toInt = 0 ∧ (M'.1 0 2).toInt = (rdP (mskT (M0.1 1) a1) a1).1 ∧ ((rdP (mskT (M0.1 1) a1) a1).1 = 0 ∧ (M'.1 0 3).toInt = -1 ∧ a = (rdP (mskT (M0.1 1) a1) a1).2.2 ∨ ¬ (rdP (mskT (M0.1 1) a1) a1).1 = 0 ∧ (M'.1 0 3).toInt = (rdP (mskT (M0.1 1) a1) a1).2.1 ∧ a = -30 - (rdP (mskT (M0.1 1) a1) a1).1) ∨ (a1 < 0 ∨ (M0.1 0 1).toInt < a1) ∧ a = -3 ∧ (M'.1 0 1).toInt = (M0.1 0 1).toInt ∧ (M'.1 0 2).toInt = (M0.1 0 2).toInt ∧ (M'.1 0 3).toInt = (M0.1 0 3).toInt) ∧ (((a1 < 0 ∨ (M0.1 0 1).toInt < a1) ∨ 0 ≤ a1 ∧ a1 ≤ (M0.1 0 1).toInt ∧ ¬ (rdP (mskT (M0.1 1) a1) a1).1 = 0) ∧ b01 (SME M' M0 [0, 78, 79, 80, 7, 7 + 1, 7 + 2, 7 + 3, 7 + 4, 15, 16, 17]) = 1 ∧ M'.2.2 0 4 = 2 ∧ M'.2.2 0 5 = 7 ∨ (0 ≤ a1 ∧ a1 ≤ (M0.1 0 1).toInt ∧ (rdP (mskT (M0.1 1) a1) a1).1 = 0) ∧ b01 (SME M' M0 [0, 78, 79, 80, 7, 7 + 1, 7 + 2, 7 + 3, 7 + 4, 15, 16, 17, 12, 13, 14, 18, 83]) = 1 ∧ M'.2.2 0 4 = 7 ∧ M'.2.2 0 5 = 2 ∧ b01 (LAW M' 7) = 1 ∧ b01 (MKX M' 7) = 1 ∧ b01 (PRR (rwX M' 7 12)) = 1 ∧ b01 (TLD (mskT (M0.1 1) a1) a1 (rwX M' 7 12)) = 1 ∧ (M'.1 18 2).toInt = 0 ∧ b01 (FIL M' 83 0 8) = 1) ∧ (b01 (SMJX M' M0) = 1)) := by
  refine ci_of (cc := cX11_shop) (maxL := 3) (ty := .int) (lv := [(0, .ref (ad 0)), (1, .int (sI a1))]) (by decide) rfl (fun r M' hp => rfl) (Nat.le_of_ble_eq_true rfl) rfl ?_
  intro p e s m args below meth c A Q C hret
  have epc0_4 : 2 = M0.2.2 0 4 := by exact hp0.symm
  have epc0_5 : 7 = M0.2.2 0 5 := by exact hp1.symm
  refine j_iload_n C 1 1 dX11_shop_0 rfl rfl ?_
  refine y_if_lt C 12 dX11_shop_1 (by decide) (by exact ⟨ha1.1, ha1.2⟩) (fun h102 => ?_) (fun h102 => ?_)
  · refine y_bipush C dX11_shop_12 rfl ?_
    have u103s := smx_r M0 [0, 78, 79, 80, 7, 7 + 1, 7 + 2, 7 + 3, 7 + 4, 15, 16, 17]
    have u103j := smjx_r M0
    exact hret _ _ _ _ dX11_shop_14 ⟨(-3), rfl, hM0, by exact ⟨(by decide), ⟨(by decide), ⟨(by (clear epc0_5 epc0_4 hret C hq10_5 hq10_4 hq10_3 hq10_2 hq10_1 hq8_0 hq6_1 hq6_0 hq7_4 hq7_3 hpr hM0; omega)), ⟨(by (clear epc0_5 epc0_4 hret C hq10_5 hq10_4 hq10_3 hq10_2 hq10_1 hq8_0 hq6_1 hq6_0 hq7_4 hq7_3 hpr hM0; omega)), u103j⟩⟩⟩⟩⟩
  · refine j_iload_n C 1 1 dX11_shop_4 rfl rfl ?_
    refine j_aload_n C 0 0 dX11_shop_5 rfl rfl ?_
    refine y_getI C 10 _ _ fX11_shop_13 rfl rfl ft_10_1 sb_10_1 hM0 dX11_shop_6 (fun a104 ea104 la104 ua104 => ?_)
    obtain rfl : a104 = (M0.1 0 1).toInt := ea104
    refine y_icmp_le C 15 dX11_shop_9 (by decide) (by exact ⟨⟨ha1.1, ha1.2⟩, ⟨(by (clear epc0_5 epc0_4 hret C hp1 hp0 hq10_5 hq10_4 hq10_3 hq10_2 hq10_1 hq8_0 hq6_1 hq6_0 hq7_4 hq7_3 hpr hM0; omega)), (by (clear epc0_5 epc0_4 hret C hp1 hp0 hq10_5 hq10_4 hq10_3 hq10_2 hq10_1 hq8_0 hq6_1 hq6_0 hq7_4 hq7_3 hpr hM0; omega))⟩⟩) (fun h106 => ?_) (fun h106 => ?_)
    · refine j_aload_n C 0 0 dX11_shop_15 rfl rfl ?_
      refine y_getC C 10 78 fX11_shop_67 rfl rfl ft_10_11 sm_10_11 rfl hM0 dX11_shop_16 ?_
      refine j_aload_n C 0 0 dX11_shop_19 rfl rfl ?_
      refine y_getC C 10 1 fX11_shop_9 rfl rfl ft_10_0 sm_10_0 rfl hM0 dX11_shop_20 ?_
      refine j_iload_n C 1 1 dX11_shop_23 rfl rfl ?_
      refine j_aload_n C 0 0 dX11_shop_24 rfl rfl ?_
      refine y_getV C 10 7 fX11_shop_30 rfl rfl ft_10_5 (epc0_5) dX11_shop_25 ?_
      refine j_aload_n C 0 0 dX11_shop_28 rfl rfl ?_
      refine y_getC C 10 15 fX11_shop_40 rfl rfl ft_10_7 sm_10_7 rfl hM0 dX11_shop_29 ?_
      have u107t := tp_0 M0 a1
      obtain ⟨prz108, Kzz108, hprz108, hz108, hnez108, hbkz108⟩ := fzXs [10] hpr hM0
      refine j_callVv C (d := 28) (As := [.ref (ad 1), .int (sI a1), .ref (ad 7), .ref (ad 15)]) (st := []) 78 (s_lt rfl rfl) (s_kc (c := 7) rfl rfl) (by decide) rfl (s1_X8_read hz108 hprz108 (fun i h => hnez108 i 3 (by rw [h]; rfl) (hq7_3 i h)) (fun i h => hnez108 i 4 (by rw [h]; rfl) (hq7_4 i h)) (fun i h => hnez108 i 0 (by rw [h]; rfl) (hq6_0 i h)) (fun i h => hnez108 i 1 (by rw [h]; rfl) (hq6_1 i h)) (fun i h => hnez108 i 0 (by rw [h]; rfl) (hq8_0 i h)) a1 (by exact ⟨ha1.1, ha1.2⟩) rfl rfl (mskT (M0.1 1) a1) a1 (by omega) (by exact u107t) (by (clear hbkz108 hnez108 hz108 hprz108 u107t epc0_5 epc0_4 hret C hp1 hp0 hq10_5 hq10_4 hq10_3 hq10_2 hq10_1 hq8_0 hq6_1 hq6_0 hq7_4 hq7_3 hpr hM0; omega))) gX11_shop_X8_read rfl hdX8_read (by decide) (Nat.le_of_ble_eq_true rfl) dX11_shop_32 rfl (fun M110 h111 => ?_)
      obtain ⟨hM110, h112⟩ := h111
      have zbM110 := (hbkz108 _ hM110).2
      have hM110 := (hbkz108 _ hM110).1
      have u1131 := congrArg Int32.toInt (zbM110 0 1 rfl rfl).1
      have u1132 := congrArg Int32.toInt (zbM110 0 2 rfl rfl).1
      have u1133 := congrArg Int32.toInt (zbM110 0 3 rfl rfl).1
      have u113p4 : 2 = M110.2.2 0 4 := by rw [(b01_e (show b01 (RDF M0 M110 7 15) = 1 by exact h112.2.2)).1.1 0 (by decide)]; exact epc0_4
      have u113p5 : 7 = M110.2.2 0 5 := by rw [(b01_e (show b01 (RDF M0 M110 7 15) = 1 by exact h112.2.2)).1.1 0 (by decide)]; exact epc0_5
      refine j_aload_n C 0 0 dX11_shop_35 rfl rfl ?_
      refine y_iconst C dX11_shop_36 ?_
      refine y_putI C 10 _ _ qX11_shop_13 rfl rfl ft_10_1 sb_10_1 hM110 (hq10_1 _ rfl) dX11_shop_37 (by exact ⟨⟨(by decide), (by decide)⟩, ⟨(by decide), (by decide)⟩⟩) (fun M114 eM114 hM114 => ?_)
      refine j_aload_n C 0 0 dX11_shop_40 rfl rfl ?_
      refine j_aload_n C 0 0 dX11_shop_41 rfl rfl ?_
      refine y_getC C 10 78 fX11_shop_67 rfl rfl ft_10_11 sm_10_11 rfl hM114 dX11_shop_42 ?_
      refine y_getI C 7 _ _ fX11_shop_117 rfl rfl ft_7_5 sb_7_5 hM114 dX11_shop_45 (fun a115 ea115 la115 ua115 => ?_)
      obtain rfl : a115 = (M110.1 78 5).toInt := s_fa eM114 (by decide) (ea115)
      refine y_putIF C 10 qX11_shop_17 rfl rfl ft_10_2 sb_10_2 hM114 (hq10_2 _ rfl) dX11_shop_48 (fun M117 eM117 hM117 => ?_)
      refine j_aload_n C 0 0 dX11_shop_51 rfl rfl ?_
      refine j_aload_n C 0 0 dX11_shop_52 rfl rfl ?_
      refine y_getC C 10 78 fX11_shop_67 rfl rfl ft_10_11 sm_10_11 rfl hM117 dX11_shop_53 ?_
      refine y_getI C 7 _ _ fX11_shop_120 rfl rfl ft_7_6 sb_7_6 hM117 dX11_shop_56 (fun a118 ea118 la118 ua118 => ?_)
      obtain rfl : a118 = (M110.1 78 6).toInt := s_fa eM114 (by decide) (s_fa eM117 (by decide) (ea118))
      refine y_putIF C 10 qX11_shop_20 rfl rfl ft_10_3 sb_10_3 hM117 (hq10_3 _ rfl) dX11_shop_59 (fun M120 eM120 hM120 => ?_)
      refine j_aload_n C 0 0 dX11_shop_62 rfl rfl ?_
      refine y_getI C 10 _ _ fX11_shop_17 rfl rfl ft_10_2 sb_10_2 hM120 dX11_shop_63 (fun a121 ea121 la121 ua121 => ?_)
      obtain rfl : a121 = (M110.1 78 5).toInt := (s_fb eM120 (by decide) (ea121)).trans (s_wr eM117 (by omega))
      have zz0_2 := (Eq.trans (s_fb eM120 (by decide) (rfl) : (M120.1 0 2).toInt = (M117.1 0 2).toInt) (s_wr eM117 (by exact ⟨la121, ua121⟩)))
      refine y_if_eq C 77 dX11_shop_66 (by decide) (by exact ⟨la121, ua121⟩) (fun h124 => ?_) (fun h124 => ?_)
      · refine j_aload_n C 0 0 dX11_shop_77 rfl rfl ?_
        refine y_getV C 10 2 fX11_shop_26 rfl rfl ft_10_4 (s_pI eM120 (s_pI eM117 (s_pI eM114 (u113p4)))) dX11_shop_78 ?_
        refine j_astore_n C 2 [(2, .ref (ad 2)), (0, .ref (ad 0)), (1, .int (sI a1))] dX11_shop_81 rfl (by decide) rfl ?_
        refine j_aload_n C 1 0 dX11_shop_82 rfl rfl ?_
        refine j_aload_n C 1 0 dX11_shop_83 rfl rfl ?_
        refine y_getV C 10 7 fX11_shop_30 rfl rfl ft_10_5 (s_pI eM120 (s_pI eM117 (s_pI eM114 (u113p5)))) dX11_shop_84 ?_
        refine y_putP C 10 6 qX11_shop_26 rfl rfl rfl rfl ft_10_4 sm_10_4 (by decide) hM120 (hq10_4 _ rfl) rfl dX11_shop_87 (fun M125 eM125 hM125 => ?_)
        refine j_aload_n C 1 0 dX11_shop_90 rfl rfl ?_
        refine j_aload_n C 0 2 dX11_shop_91 rfl rfl ?_
        refine y_putP C 10 6 qX11_shop_30 rfl rfl rfl rfl ft_10_5 sm_10_5 (by decide) hM125 (hq10_5 _ rfl) rfl dX11_shop_92 (fun M126 eM126 hM126 => ?_)
        refine j_aload_n C 1 0 dX11_shop_95 rfl rfl ?_
        refine y_getC C 10 15 fX11_shop_40 rfl rfl ft_10_7 sm_10_7 rfl hM126 dX11_shop_96 ?_
        refine j_aload_n C 1 0 dX11_shop_99 rfl rfl ?_
        refine y_getC C 10 12 fX11_shop_36 rfl rfl ft_10_6 sm_10_6 rfl hM126 dX11_shop_100 ?_
        refine y_getI C 8 _ _ fX11_shop_121 rfl rfl ft_8_7 sb_8_7 hM126 dX11_shop_103 (fun a127 ea127 la127 ua127 => ?_)
        obtain rfl : a127 = (M110.1 12 7).toInt := s_fa eM114 (by decide) (s_fa eM117 (by decide) (s_fa eM120 (by decide) (s_fP eM125 (s_fP eM126 (ea127)))))
        refine y_putIF C 8 qX11_shop_121 rfl rfl ft_8_7 sb_8_7 hM126 (PX.w hpr rfl rfl) dX11_shop_106 (fun M129 eM129 hM129 => ?_)
        refine j_aload_n C 1 0 dX11_shop_109 rfl rfl ?_
        refine y_getC C 10 12 fX11_shop_36 rfl rfl ft_10_6 sm_10_6 rfl hM129 dX11_shop_110 ?_
        refine j_aload_n C 1 0 dX11_shop_113 rfl rfl ?_
        refine y_getC C 10 15 fX11_shop_40 rfl rfl ft_10_7 sm_10_7 rfl hM129 dX11_shop_114 ?_
        refine j_callVv C (d := 0) (As := [.ref (ad 15)]) (st := []) 12 (s_lt rfl rfl) (s_kc (c := 8) rfl rfl) (by decide) rfl (s33_X9_copyFrom hM129 hpr hq8_0) gX11_shop_X9_copyFrom rfl hdX9_copyFrom (by decide) (Nat.le_of_ble_eq_true rfl) dX11_shop_117 rfl (fun M131 h132 => ?_)
        obtain ⟨hM131, fM131, h133⟩ := h132
        refine j_aload_n C 1 0 dX11_shop_120 rfl rfl ?_
        refine j_callVv C (d := 2) (As := []) (st := []) 0 (s_lt rfl rfl) (s_kc (c := 10) rfl rfl) (by decide) rfl (s2_X11_beginAnew hM131 hpr) gX11_shop_X11_beginAnew rfl hdX11_beginAnew (by decide) (Nat.le_of_ble_eq_true rfl) dX11_shop_121 rfl (fun M135 h136 => ?_)
        obtain ⟨hM135, fM135, h137⟩ := h136
        refine j_aload_n C 1 0 dX11_shop_124 rfl rfl ?_
        refine y_getV C 10 7 fX11_shop_26 rfl rfl ft_10_4 (s_pX fM135 (s_pX fM131 (s_pI eM129 (s_pP eM126 (by decide) (s_pW eM125))))) dX11_shop_125 ?_
        refine y_getI C 6 _ _ fX11_shop_131 rfl rfl ft_6_1 sb_6_1 hM135 dX11_shop_128 (fun a138 ea138 la138 ua138 => ?_)
        obtain rfl : a138 = (M110.1 7 1).toInt := s_fa eM114 (by decide) (s_fa eM117 (by decide) (s_fa eM120 (by decide) (s_fP eM125 (s_fP eM126 (s_fa eM129 (by decide) (s_fX fM131 (by decide) (s_fX fM135 (by decide) (ea138))))))))
        have u140k4 := s_pX fM135 (s_pX fM131 (s_pI eM129 (s_pP eM126 (by decide) (s_pW eM125))))
        have u140k5 := s_pX fM135 (s_pX fM131 (s_pI eM129 (s_pW eM126)))
        have u140j := (smjx_f (smjx_f (smjx_w (smjx_p (smjx_p (smjx_w (smjx_w (smjx_w (smjx_d (show b01 (RDF M0 M110 7 15) = 1 by exact h112.2.2)) eM114) eM117) eM120) eM125) eM126) eM129) fM131 (by decide)) fM135 (by decide))
        have u140s := (smx_f (smx_f (smx_w (smx_p (smx_p (smx_w (smx_w (smx_w (smx_d (S := [0, 78, 79, 80, 7, 7 + 1, 7 + 2, 7 + 3, 7 + 4, 15, 16, 17, 12, 13, 14, 18, 83]) (show b01 (RDF M0 M110 7 15) = 1 by exact h112.2.2) (by decide) (by decide) (by decide)) eM114 (by decide)) eM117 (by decide)) eM120 (by decide)) eM125) eM126) eM129 (by decide)) fM131 (by decide)) fM135 (by decide))
        have u140d : b01 (SME M126 M110 [0]) = 1 := (smx_p (smx_p (smx_w (smx_w (smx_w (smx_r M110 [0]) eM114 (by decide)) eM117 (by decide)) eM120 (by decide)) eM125) eM126)
        have u140n : b01 (SME M135 M110 [0, 15, 12, 13, 14, 18, 83]) = 1 := (smx_f (smx_f (smx_w (smx_p (smx_p (smx_w (smx_w (smx_w (smx_r M110 [0, 15, 12, 13, 14, 18, 83]) eM114 (by decide)) eM117 (by decide)) eM120 (by decide)) eM125) eM126) eM129 (by decide)) fM131 (by decide)) fM135 (by decide))
        have u140b6 := hM110.rd (i := 7) (c := 6) (k := 6) rfl (show s_b 6 6 = (0, 900) from rfl)
        have u140b7 := hM110.rd (i := 7) (c := 6) (k := 7) rfl (show s_b 6 7 = (0, 900) from rfl)
        have u140b9 := hM110.rd (i := 7) (c := 6) (k := 9) rfl (show s_b 6 9 = (0, 900) from rfl)
        have u140D : rwX M129 7 15 = uR (rwX M110 7 15) 31 (M110.1 12 7).toInt := (rx_31 (p := 7) (v := 15) rfl rfl eM129).trans (congrArg (fun r => uR r 31 (M110.1 12 7).toInt) (rx_f (p := 7) (v := 15) (ple_s (p := 7) u140d (by decide)) (ske_s (v := 15) u140d (by decide))))
        have u140K : skX M135 12 = skX M129 15 := (sk_f (ske_n ((FX.rf.tr fM135 (by decide)) : FX [18, 83] M131 M135) ⟨by decide, by decide, by decide⟩)).trans (b01_e (P := skX M131 12 = skX M129 15) (by exact h133))
        have u140x := shx_n (a := (M110.1 78 5).toInt) (f := mskT (M0.1 1) a1) (n := a1) (x := (M110.1 12 7).toInt) (S := []) (M := M0) (R := M110) (D := M129) (N := M135) (p := 7) (v := 15) (by exact h112.2.1) (by exact h124) (show b01 (RDF M0 M110 7 15) = 1 by exact h112.2.2) u140b6.2 u140b7.1 u140b9.1 rfl rfl u140D u140K (ple_f (p := 7) (((FX.rf.tr fM131 (by decide)).tr fM135 (by decide)) : FX [12, 13, 14, 18, 83] M129 M135) rfl (by decide)) (ple_s (p := 7) u140n (by decide))
        have zz7_1 : (M135.1 7 1).toInt = (M110.1 7 1).toInt := s_fa eM114 (by decide) (s_fa eM117 (by decide) (s_fa eM120 (by decide) (s_fP eM125 (s_fP eM126 (s_fa eM129 (by decide) (s_fX fM131 (by decide) (s_fX fM135 (by decide) (rfl))))))))
        have zz0_1 := (Eq.trans (s_fb eM117 (by decide) (s_fb eM120 (by decide) (s_fP eM125 (s_fP eM126 (s_fa eM129 (by decide) (s_fX fM131 (by decide) (s_fX fM135 (by decide) (rfl))))))) : (M135.1 0 1).toInt = (M114.1 0 1).toInt) (s_wr eM114 (by exact ⟨(by decide), (by decide)⟩))); have zz0_2 := (Eq.trans (s_fb eM120 (by decide) (s_fP eM125 (s_fP eM126 (s_fa eM129 (by decide) (s_fX fM131 (by decide) (s_fX fM135 (by decide) (rfl)))))) : (M135.1 0 2).toInt = (M117.1 0 2).toInt) (s_wr eM117 (by exact ⟨la121, ua121⟩))); have zz0_3 := (Eq.trans (s_fP eM125 (s_fP eM126 (s_fa eM129 (by decide) (s_fX fM131 (by decide) (s_fX fM135 (by decide) (rfl))))) : (M135.1 0 3).toInt = (M120.1 0 3).toInt) (s_wr eM120 (by exact ⟨la118, ua118⟩))); exact hret _ _ _ _ dX11_shop_131 ⟨(M110.1 7 1).toInt, rfl, hM135, by (clear zz7_1 u140K u140D u140b9 u140b7 u140b6 u140n u140d ea138 fM135 hM135 h133 fM131 hM131 hM129 eM129 ua127 la127 ea127 hM126 eM126 hM125 eM125 ua121 la121 ea121 hM120 eM120 ua118 la118 ea118 hM117 eM117 ua115 la115 ea115 hM114 eM114 u113p5 u113p4 u1133 u1132 u1131 hM110 zbM110 hbkz108 hnez108 hz108 hprz108 u107t ua104 la104 epc0_5 epc0_4 hret C hp1 hp0 ha1 hq10_5 hq10_4 hq10_3 hq10_2 hq10_1 hq8_0 hq6_1 hq6_0 hq7_4 hq7_3 hpr hM0; omega)⟩
      · refine y_bipush C dX11_shop_69 rfl ?_
        refine j_aload_n C 0 0 dX11_shop_71 rfl rfl ?_
        refine y_getI C 10 _ _ fX11_shop_17 rfl rfl ft_10_2 sb_10_2 hM120 dX11_shop_72 (fun a141 ea141 la141 ua141 => ?_)
        obtain rfl : a141 = (M110.1 78 5).toInt := (s_fb eM120 (by decide) (ea141)).trans (s_wr eM117 (by exact ⟨la121, ua121⟩))
        have u143 : 0 ≤ (M110.1 78 5).toInt ∧ (M110.1 78 5).toInt ≤ 4 := by exact ⟨la115, ua115⟩
        refine y_isub C dX11_shop_75 ?_
        have u144s := (smx_w (smx_w (smx_w (smx_d (S := [0, 78, 79, 80, 7, 7 + 1, 7 + 2, 7 + 3, 7 + 4, 15, 16, 17]) (show b01 (RDF M0 M110 7 15) = 1 by exact h112.2.2) (by decide) (by decide) (by decide)) eM114 (by decide)) eM117 (by decide)) eM120 (by decide))
        have u144k4 := s_pI eM120 (s_pI eM117 (s_pI eM114 (u113p4)))
        have u144k5 := s_pI eM120 (s_pI eM117 (s_pI eM114 (u113p5)))
        have u144j := (smjx_w (smjx_w (smjx_w (smjx_d (show b01 (RDF M0 M110 7 15) = 1 by exact h112.2.2)) eM114) eM117) eM120)
        have zz0_1 := (Eq.trans (s_fb eM117 (by decide) (s_fb eM120 (by decide) (rfl)) : (M120.1 0 1).toInt = (M114.1 0 1).toInt) (s_wr eM114 (by exact ⟨(by decide), (by decide)⟩))); have zz0_2 := (Eq.trans (s_fb eM120 (by decide) (rfl) : (M120.1 0 2).toInt = (M117.1 0 2).toInt) (s_wr eM117 (by exact ⟨la121, ua121⟩))); have zz0_3 := (Eq.trans (rfl : (M120.1 0 3).toInt = (M120.1 0 3).toInt) (s_wr eM120 (by exact ⟨la118, ua118⟩))); have zz18_2 : (M120.1 18 2).toInt = (M110.1 18 2).toInt := s_fa eM114 (by decide) (s_fa eM117 (by decide) (s_fa eM120 (by decide) (rfl))); exact hret _ _ _ _ dX11_shop_76 ⟨((-30) - (M110.1 78 5).toInt), rfl, hM120, by (clear zz18_2 zz0_2 u143 ua141 la141 ea141 ua121 la121 hM120 eM120 ua118 la118 ea118 hM117 eM117 ea115 hM114 eM114 u113p5 u113p4 u1133 u1132 u1131 hM110 zbM110 hbkz108 hnez108 hz108 hprz108 u107t ua104 la104 epc0_5 epc0_4 hret C hp1 hp0 ha1 hq10_5 hq10_4 hq10_3 hq10_2 hq10_1 hq8_0 hq6_1 hq6_0 hq7_4 hq7_3 hpr hM0; exact ⟨(by omega), ⟨(by omega), ⟨(by omega), ⟨(by omega), u144j⟩⟩⟩⟩)⟩
    · refine y_bipush C dX11_shop_12 rfl ?_
      have u145s := smx_r M0 [0, 78, 79, 80, 7, 7 + 1, 7 + 2, 7 + 3, 7 + 4, 15, 16, 17]
      have u145j := smjx_r M0
      exact hret _ _ _ _ dX11_shop_14 ⟨(-3), rfl, hM0, by exact ⟨(by decide), ⟨(by decide), ⟨(by (clear ua104 la104 epc0_5 epc0_4 hret C hq10_5 hq10_4 hq10_3 hq10_2 hq10_1 hq8_0 hq6_1 hq6_0 hq7_4 hq7_3 hpr hM0; omega)), ⟨(by (clear ua104 la104 epc0_5 epc0_4 hret C hq10_5 hq10_4 hq10_3 hq10_2 hq10_1 hq8_0 hq6_1 hq6_0 hq7_4 hq7_3 hpr hM0; omega)), u145j⟩⟩⟩⟩⟩
set_option maxHeartbeats 4000000 in
theorem s3_X11_shop {l : Launch} {dC : Nat → ClassId} {dI : Nat → Nat → Nat} {ad : Nat → Nat} {cA : Nat → ClassId} {pr : Nat → Nat → Bool} {Kz : mm_M} {M0 : mm_M} (hM0 : INV pr Kz M0) (hpr : PX pr) (hq7_3 : ∀ i, s_c i = 7 → pr i 3 = false) (hq7_4 : ∀ i, s_c i = 7 → pr i 4 = false) (hq6_0 : ∀ i, s_c i = 6 → pr i 0 = false) (hq6_1 : ∀ i, s_c i = 6 → pr i 1 = false) (hq8_0 : ∀ i, s_c i = 8 → pr i 0 = false) (hq10_1 : ∀ i, s_c i = 10 → pr i 1 = false) (hq10_2 : ∀ i, s_c i = 10 → pr i 2 = false) (hq10_3 : ∀ i, s_c i = 10 → pr i 3 = false) (hq10_4 : ∀ i, s_c i = 10 → pr i 4 = false) (hq10_5 : ∀ i, s_c i = 10 → pr i 5 = false) (a1 : Int) (ha1 : -2147483648 ≤ a1 ∧ a1 ≤ 2147483647) (hp0 : M0.2.2 0 4 = 7) (hp1 : M0.2.2 0 5 = 2) : Ci l 29 yX11_shop wsX11_shop dC dI ad cA [.ref (ad 0), .int (sI a1)] M0 (fun r M' => ∃ a : Int, r = sI a ∧ INV pr Kz M' ∧ (-2147483648) ≤ a ∧ a ≤ 2147483647 ∧ (0 ≤ a1 ∧ a1 ≤ (M0.1 0 1).toInt ∧ (M'.1 0 1).toInt = 0 ∧ (M'.1 0 2).toInt = (rdP (mskT (M0.1 1) a1) a1).1 ∧ ((rdP (mskT (M0.1 1) a1) a1).1 = 0 ∧ (M'.1 0 3).toInt = -1 ∧ a = (rdP (mskT (M0.1 1) a1) a1).2.2 ∨ ¬ (rdP (mskT (M0.1 1) a1) a1).1 = 0 ∧ (M'.1 0 3).toInt = (rdP (mskT (M0.1 1) a1) a1).2.1 ∧ a = -30 - (rdP (mskT (M0.1 1) a1) a1).1) ∨ (a1 < 0 ∨ (M0.1 0 1).toInt < a1) ∧ a = -3 ∧ (M'.1 0 1).toInt = (M0.1 0 1).toInt ∧ (M'.1 0 2).toInt = (M0.1 0 2).toInt ∧ (M'.1 0 3).toInt = (M0.1 0 3).toInt) ∧ (((a1 < 0 ∨ (M0.1 0 1).toInt < a1) ∨ 0 ≤ a1 ∧ a1 ≤ (M0.1 0 1).toInt ∧ ¬ (rdP (mskT (M0.1 1) a1) a1).1 = 0) ∧ b01 (SME M' M0 [0, 78, 79, 80, 2, 2 + 1, 2 + 2, 2 + 3, 2 + 4, 15, 16, 17]) = 1 ∧ M'.2.2 0 4 = 7 ∧ M'.2.2 0 5 = 2 ∨ (0 ≤ a1 ∧ a1 ≤ (M0.1 0 1).toInt ∧ (rdP (mskT (M0.1 1) a1) a1).1 = 0) ∧ b01 (SME M' M0 [0, 78, 79, 80, 2, 2 + 1, 2 + 2, 2 + 3, 2 + 4, 15, 16, 17, 12, 13, 14, 18, 83]) = 1 ∧ M'.2.2 0 4 = 2 ∧ M'.2.2 0 5 = 7 ∧ b01 (LAW M' 2) = 1 ∧ b01 (MKX M' 2) = 1 ∧ b01 (PRR (rwX M' 2 12)) = 1 ∧ b01 (TLD (mskT (M0.1 1) a1) a1 (rwX M' 2 12)) = 1 ∧ (M'.1 18 2).toInt = 0 ∧ b01 (FIL M' 83 0 8) = 1) ∧ (b01 (SMJX M' M0) = 1)) := by
  refine ci_of (cc := cX11_shop) (maxL := 3) (ty := .int) (lv := [(0, .ref (ad 0)), (1, .int (sI a1))]) (by decide) rfl (fun r M' hp => rfl) (Nat.le_of_ble_eq_true rfl) rfl ?_
  intro p e s m args below meth c A Q C hret
  have epc0_4 : 7 = M0.2.2 0 4 := by exact hp0.symm
  have epc0_5 : 2 = M0.2.2 0 5 := by exact hp1.symm
  refine j_iload_n C 1 1 dX11_shop_0 rfl rfl ?_
  refine y_if_lt C 12 dX11_shop_1 (by decide) (by exact ⟨ha1.1, ha1.2⟩) (fun h102 => ?_) (fun h102 => ?_)
  · refine y_bipush C dX11_shop_12 rfl ?_
    have u103s := smx_r M0 [0, 78, 79, 80, 2, 2 + 1, 2 + 2, 2 + 3, 2 + 4, 15, 16, 17]
    have u103j := smjx_r M0
    exact hret _ _ _ _ dX11_shop_14 ⟨(-3), rfl, hM0, by exact ⟨(by decide), ⟨(by decide), ⟨(by (clear epc0_5 epc0_4 hret C hq10_5 hq10_4 hq10_3 hq10_2 hq10_1 hq8_0 hq6_1 hq6_0 hq7_4 hq7_3 hpr hM0; omega)), ⟨(by (clear epc0_5 epc0_4 hret C hq10_5 hq10_4 hq10_3 hq10_2 hq10_1 hq8_0 hq6_1 hq6_0 hq7_4 hq7_3 hpr hM0; omega)), u103j⟩⟩⟩⟩⟩
  · refine j_iload_n C 1 1 dX11_shop_4 rfl rfl ?_
    refine j_aload_n C 0 0 dX11_shop_5 rfl rfl ?_
    refine y_getI C 10 _ _ fX11_shop_13 rfl rfl ft_10_1 sb_10_1 hM0 dX11_shop_6 (fun a104 ea104 la104 ua104 => ?_)
    obtain rfl : a104 = (M0.1 0 1).toInt := ea104
    refine y_icmp_le C 15 dX11_shop_9 (by decide) (by exact ⟨⟨ha1.1, ha1.2⟩, ⟨(by omega), (by omega)⟩⟩) (fun h106 => ?_) (fun h106 => ?_)
    · refine j_aload_n C 0 0 dX11_shop_15 rfl rfl ?_
      refine y_getC C 10 78 fX11_shop_67 rfl rfl ft_10_11 sm_10_11 rfl hM0 dX11_shop_16 ?_
      refine j_aload_n C 0 0 dX11_shop_19 rfl rfl ?_
      refine y_getC C 10 1 fX11_shop_9 rfl rfl ft_10_0 sm_10_0 rfl hM0 dX11_shop_20 ?_
      refine j_iload_n C 1 1 dX11_shop_23 rfl rfl ?_
      refine j_aload_n C 0 0 dX11_shop_24 rfl rfl ?_
      refine y_getV C 10 2 fX11_shop_30 rfl rfl ft_10_5 (epc0_5) dX11_shop_25 ?_
      refine j_aload_n C 0 0 dX11_shop_28 rfl rfl ?_
      refine y_getC C 10 15 fX11_shop_40 rfl rfl ft_10_7 sm_10_7 rfl hM0 dX11_shop_29 ?_
      have u107t := tp_0 M0 a1
      obtain ⟨prz108, Kzz108, hprz108, hz108, hnez108, hbkz108⟩ := fzXs [10] hpr hM0
      refine j_callVv C (d := 28) (As := [.ref (ad 1), .int (sI a1), .ref (ad 2), .ref (ad 15)]) (st := []) 78 (s_lt rfl rfl) (s_kc (c := 7) rfl rfl) (by decide) rfl (s1_X8_read hz108 hprz108 (fun i h => hnez108 i 3 (by rw [h]; rfl) (hq7_3 i h)) (fun i h => hnez108 i 4 (by rw [h]; rfl) (hq7_4 i h)) (fun i h => hnez108 i 0 (by rw [h]; rfl) (hq6_0 i h)) (fun i h => hnez108 i 1 (by rw [h]; rfl) (hq6_1 i h)) (fun i h => hnez108 i 0 (by rw [h]; rfl) (hq8_0 i h)) a1 (by exact ⟨ha1.1, ha1.2⟩) rfl rfl (mskT (M0.1 1) a1) a1 (by omega) (by exact u107t) (by omega)) gX11_shop_X8_read rfl hdX8_read (by decide) (Nat.le_of_ble_eq_true rfl) dX11_shop_32 rfl (fun M110 h111 => ?_)
      obtain ⟨hM110, h112⟩ := h111
      have zbM110 := (hbkz108 _ hM110).2
      have hM110 := (hbkz108 _ hM110).1
      have u1131 := congrArg Int32.toInt (zbM110 0 1 rfl rfl).1
      have u1132 := congrArg Int32.toInt (zbM110 0 2 rfl rfl).1
      have u1133 := congrArg Int32.toInt (zbM110 0 3 rfl rfl).1
      have u113p4 : 7 = M110.2.2 0 4 := by rw [(b01_e (show b01 (RDF M0 M110 2 15) = 1 by exact h112.2.2)).1.1 0 (by decide)]; exact epc0_4
      have u113p5 : 2 = M110.2.2 0 5 := by rw [(b01_e (show b01 (RDF M0 M110 2 15) = 1 by exact h112.2.2)).1.1 0 (by decide)]; exact epc0_5
      refine j_aload_n C 0 0 dX11_shop_35 rfl rfl ?_
      refine y_iconst C dX11_shop_36 ?_
      refine y_putI C 10 _ _ qX11_shop_13 rfl rfl ft_10_1 sb_10_1 hM110 (hq10_1 _ rfl) dX11_shop_37 (by exact ⟨⟨(by decide), (by decide)⟩, ⟨(by decide), (by decide)⟩⟩) (fun M114 eM114 hM114 => ?_)
      refine j_aload_n C 0 0 dX11_shop_40 rfl rfl ?_
      refine j_aload_n C 0 0 dX11_shop_41 rfl rfl ?_
      refine y_getC C 10 78 fX11_shop_67 rfl rfl ft_10_11 sm_10_11 rfl hM114 dX11_shop_42 ?_
      refine y_getI C 7 _ _ fX11_shop_117 rfl rfl ft_7_5 sb_7_5 hM114 dX11_shop_45 (fun a115 ea115 la115 ua115 => ?_)
      obtain rfl : a115 = (M110.1 78 5).toInt := s_fa eM114 (by decide) (ea115)
      refine y_putIF C 10 qX11_shop_17 rfl rfl ft_10_2 sb_10_2 hM114 (hq10_2 _ rfl) dX11_shop_48 (fun M117 eM117 hM117 => ?_)
      refine j_aload_n C 0 0 dX11_shop_51 rfl rfl ?_
      refine j_aload_n C 0 0 dX11_shop_52 rfl rfl ?_
      refine y_getC C 10 78 fX11_shop_67 rfl rfl ft_10_11 sm_10_11 rfl hM117 dX11_shop_53 ?_
      refine y_getI C 7 _ _ fX11_shop_120 rfl rfl ft_7_6 sb_7_6 hM117 dX11_shop_56 (fun a118 ea118 la118 ua118 => ?_)
      obtain rfl : a118 = (M110.1 78 6).toInt := s_fa eM114 (by decide) (s_fa eM117 (by decide) (ea118))
      refine y_putIF C 10 qX11_shop_20 rfl rfl ft_10_3 sb_10_3 hM117 (hq10_3 _ rfl) dX11_shop_59 (fun M120 eM120 hM120 => ?_)
      refine j_aload_n C 0 0 dX11_shop_62 rfl rfl ?_
      refine y_getI C 10 _ _ fX11_shop_17 rfl rfl ft_10_2 sb_10_2 hM120 dX11_shop_63 (fun a121 ea121 la121 ua121 => ?_)
      obtain rfl : a121 = (M110.1 78 5).toInt := (s_fb eM120 (by decide) (ea121)).trans (s_wr eM117 (by omega))
      have zz0_2 := (Eq.trans (s_fb eM120 (by decide) (rfl) : (M120.1 0 2).toInt = (M117.1 0 2).toInt) (s_wr eM117 (by exact ⟨la121, ua121⟩)))
      refine y_if_eq C 77 dX11_shop_66 (by decide) (by exact ⟨la121, ua121⟩) (fun h124 => ?_) (fun h124 => ?_)
      · refine j_aload_n C 0 0 dX11_shop_77 rfl rfl ?_
        refine y_getV C 10 7 fX11_shop_26 rfl rfl ft_10_4 (s_pI eM120 (s_pI eM117 (s_pI eM114 (u113p4)))) dX11_shop_78 ?_
        refine j_astore_n C 2 [(2, .ref (ad 7)), (0, .ref (ad 0)), (1, .int (sI a1))] dX11_shop_81 rfl (by decide) rfl ?_
        refine j_aload_n C 1 0 dX11_shop_82 rfl rfl ?_
        refine j_aload_n C 1 0 dX11_shop_83 rfl rfl ?_
        refine y_getV C 10 2 fX11_shop_30 rfl rfl ft_10_5 (s_pI eM120 (s_pI eM117 (s_pI eM114 (u113p5)))) dX11_shop_84 ?_
        refine y_putP C 10 6 qX11_shop_26 rfl rfl rfl rfl ft_10_4 sm_10_4 (by decide) hM120 (hq10_4 _ rfl) rfl dX11_shop_87 (fun M125 eM125 hM125 => ?_)
        refine j_aload_n C 1 0 dX11_shop_90 rfl rfl ?_
        refine j_aload_n C 0 2 dX11_shop_91 rfl rfl ?_
        refine y_putP C 10 6 qX11_shop_30 rfl rfl rfl rfl ft_10_5 sm_10_5 (by decide) hM125 (hq10_5 _ rfl) rfl dX11_shop_92 (fun M126 eM126 hM126 => ?_)
        refine j_aload_n C 1 0 dX11_shop_95 rfl rfl ?_
        refine y_getC C 10 15 fX11_shop_40 rfl rfl ft_10_7 sm_10_7 rfl hM126 dX11_shop_96 ?_
        refine j_aload_n C 1 0 dX11_shop_99 rfl rfl ?_
        refine y_getC C 10 12 fX11_shop_36 rfl rfl ft_10_6 sm_10_6 rfl hM126 dX11_shop_100 ?_
        refine y_getI C 8 _ _ fX11_shop_121 rfl rfl ft_8_7 sb_8_7 hM126 dX11_shop_103 (fun a127 ea127 la127 ua127 => ?_)
        obtain rfl : a127 = (M110.1 12 7).toInt := s_fa eM114 (by decide) (s_fa eM117 (by decide) (s_fa eM120 (by decide) (s_fP eM125 (s_fP eM126 (ea127)))))
        refine y_putIF C 8 qX11_shop_121 rfl rfl ft_8_7 sb_8_7 hM126 (PX.w hpr rfl rfl) dX11_shop_106 (fun M129 eM129 hM129 => ?_)
        refine j_aload_n C 1 0 dX11_shop_109 rfl rfl ?_
        refine y_getC C 10 12 fX11_shop_36 rfl rfl ft_10_6 sm_10_6 rfl hM129 dX11_shop_110 ?_
        refine j_aload_n C 1 0 dX11_shop_113 rfl rfl ?_
        refine y_getC C 10 15 fX11_shop_40 rfl rfl ft_10_7 sm_10_7 rfl hM129 dX11_shop_114 ?_
        refine j_callVv C (d := 0) (As := [.ref (ad 15)]) (st := []) 12 (s_lt rfl rfl) (s_kc (c := 8) rfl rfl) (by decide) rfl (s33_X9_copyFrom hM129 hpr hq8_0) gX11_shop_X9_copyFrom rfl hdX9_copyFrom (by decide) (Nat.le_of_ble_eq_true rfl) dX11_shop_117 rfl (fun M131 h132 => ?_)
        obtain ⟨hM131, fM131, h133⟩ := h132
        refine j_aload_n C 1 0 dX11_shop_120 rfl rfl ?_
        refine j_callVv C (d := 2) (As := []) (st := []) 0 (s_lt rfl rfl) (s_kc (c := 10) rfl rfl) (by decide) rfl (s2_X11_beginAnew hM131 hpr) gX11_shop_X11_beginAnew rfl hdX11_beginAnew (by decide) (Nat.le_of_ble_eq_true rfl) dX11_shop_121 rfl (fun M135 h136 => ?_)
        obtain ⟨hM135, fM135, h137⟩ := h136
        refine j_aload_n C 1 0 dX11_shop_124 rfl rfl ?_
        refine y_getV C 10 2 fX11_shop_26 rfl rfl ft_10_4 (s_pX fM135 (s_pX fM131 (s_pI eM129 (s_pP eM126 (by decide) (s_pW eM125))))) dX11_shop_125 ?_
        refine y_getI C 6 _ _ fX11_shop_131 rfl rfl ft_6_1 sb_6_1 hM135 dX11_shop_128 (fun a138 ea138 la138 ua138 => ?_)
        obtain rfl : a138 = (M110.1 2 1).toInt := s_fa eM114 (by decide) (s_fa eM117 (by decide) (s_fa eM120 (by decide) (s_fP eM125 (s_fP eM126 (s_fa eM129 (by decide) (s_fX fM131 (by decide) (s_fX fM135 (by decide) (ea138))))))))
        have u140k4 := s_pX fM135 (s_pX fM131 (s_pI eM129 (s_pP eM126 (by decide) (s_pW eM125))))
        have u140k5 := s_pX fM135 (s_pX fM131 (s_pI eM129 (s_pW eM126)))
        have u140j := (smjx_f (smjx_f (smjx_w (smjx_p (smjx_p (smjx_w (smjx_w (smjx_w (smjx_d (show b01 (RDF M0 M110 2 15) = 1 by exact h112.2.2)) eM114) eM117) eM120) eM125) eM126) eM129) fM131 (by decide)) fM135 (by decide))
        have u140s := (smx_f (smx_f (smx_w (smx_p (smx_p (smx_w (smx_w (smx_w (smx_d (S := [0, 78, 79, 80, 2, 2 + 1, 2 + 2, 2 + 3, 2 + 4, 15, 16, 17, 12, 13, 14, 18, 83]) (show b01 (RDF M0 M110 2 15) = 1 by exact h112.2.2) (by decide) (by decide) (by decide)) eM114 (by decide)) eM117 (by decide)) eM120 (by decide)) eM125) eM126) eM129 (by decide)) fM131 (by decide)) fM135 (by decide))
        have u140d : b01 (SME M126 M110 [0]) = 1 := (smx_p (smx_p (smx_w (smx_w (smx_w (smx_r M110 [0]) eM114 (by decide)) eM117 (by decide)) eM120 (by decide)) eM125) eM126)
        have u140n : b01 (SME M135 M110 [0, 15, 12, 13, 14, 18, 83]) = 1 := (smx_f (smx_f (smx_w (smx_p (smx_p (smx_w (smx_w (smx_w (smx_r M110 [0, 15, 12, 13, 14, 18, 83]) eM114 (by decide)) eM117 (by decide)) eM120 (by decide)) eM125) eM126) eM129 (by decide)) fM131 (by decide)) fM135 (by decide))
        have u140b6 := hM110.rd (i := 2) (c := 6) (k := 6) rfl (show s_b 6 6 = (0, 900) from rfl)
        have u140b7 := hM110.rd (i := 2) (c := 6) (k := 7) rfl (show s_b 6 7 = (0, 900) from rfl)
        have u140b9 := hM110.rd (i := 2) (c := 6) (k := 9) rfl (show s_b 6 9 = (0, 900) from rfl)
        have u140D : rwX M129 2 15 = uR (rwX M110 2 15) 31 (M110.1 12 7).toInt := (rx_31 (p := 2) (v := 15) rfl rfl eM129).trans (congrArg (fun r => uR r 31 (M110.1 12 7).toInt) (rx_f (p := 2) (v := 15) (ple_s (p := 2) u140d (by decide)) (ske_s (v := 15) u140d (by decide))))
        have u140K : skX M135 12 = skX M129 15 := (sk_f (ske_n ((FX.rf.tr fM135 (by decide)) : FX [18, 83] M131 M135) ⟨by decide, by decide, by decide⟩)).trans (b01_e (P := skX M131 12 = skX M129 15) (by exact h133))
        have u140x := shx_n (a := (M110.1 78 5).toInt) (f := mskT (M0.1 1) a1) (n := a1) (x := (M110.1 12 7).toInt) (S := []) (M := M0) (R := M110) (D := M129) (N := M135) (p := 2) (v := 15) (by exact h112.2.1) (by exact h124) (show b01 (RDF M0 M110 2 15) = 1 by exact h112.2.2) u140b6.2 u140b7.1 u140b9.1 rfl rfl u140D u140K (ple_f (p := 2) (((FX.rf.tr fM131 (by decide)).tr fM135 (by decide)) : FX [12, 13, 14, 18, 83] M129 M135) rfl (by decide)) (ple_s (p := 2) u140n (by decide))
        have zz2_1 : (M135.1 2 1).toInt = (M110.1 2 1).toInt := s_fa eM114 (by decide) (s_fa eM117 (by decide) (s_fa eM120 (by decide) (s_fP eM125 (s_fP eM126 (s_fa eM129 (by decide) (s_fX fM131 (by decide) (s_fX fM135 (by decide) (rfl))))))))
        have zz0_1 := (Eq.trans (s_fb eM117 (by decide) (s_fb eM120 (by decide) (s_fP eM125 (s_fP eM126 (s_fa eM129 (by decide) (s_fX fM131 (by decide) (s_fX fM135 (by decide) (rfl))))))) : (M135.1 0 1).toInt = (M114.1 0 1).toInt) (s_wr eM114 (by exact ⟨(by decide), (by decide)⟩))); have zz0_2 := (Eq.trans (s_fb eM120 (by decide) (s_fP eM125 (s_fP eM126 (s_fa eM129 (by decide) (s_fX fM131 (by decide) (s_fX fM135 (by decide) (rfl)))))) : (M135.1 0 2).toInt = (M117.1 0 2).toInt) (s_wr eM117 (by exact ⟨la121, ua121⟩))); have zz0_3 := (Eq.trans (s_fP eM125 (s_fP eM126 (s_fa eM129 (by decide) (s_fX fM131 (by decide) (s_fX fM135 (by decide) (rfl))))) : (M135.1 0 3).toInt = (M120.1 0 3).toInt) (s_wr eM120 (by exact ⟨la118, ua118⟩))); exact hret _ _ _ _ dX11_shop_131 ⟨(M110.1 2 1).toInt, rfl, hM135, by (clear zz2_1 u140K u140D u140b9 u140b7 u140b6 u140n u140d ea138 fM135 hM135 h133 fM131 hM131 hM129 eM129 ua127 la127 ea127 hM126 eM126 hM125 eM125 ua121 la121 ea121 hM120 eM120 ua118 la118 ea118 hM117 eM117 ua115 la115 ea115 hM114 eM114 u113p5 u113p4 u1133 u1132 u1131 hM110 zbM110 hbkz108 hnez108 hz108 hprz108 u107t ua104 la104 epc0_5 epc0_4 hret C hp1 hp0 ha1 hq10_5 hq10_4 hq10_3 hq10_2 hq10_1 hq8_0 hq6_1 hq6_0 hq7_4 hq7_3 hpr hM0; omega)⟩
      · refine y_bipush C dX11_shop_69 rfl ?_
        refine j_aload_n C 0 0 dX11_shop_71 rfl rfl ?_
        refine y_getI C 10 _ _ fX11_shop_17 rfl rfl ft_10_2 sb_10_2 hM120 dX11_shop_72 (fun a141 ea141 la141 ua141 => ?_)
        obtain rfl : a141 = (M110.1 78 5).toInt := (s_fb eM120 (by decide) (ea141)).trans (s_wr eM117 (by exact ⟨la121, ua121⟩))
        have u143 : 0 ≤ (M110.1 78 5).toInt ∧ (M110.1 78 5).toInt ≤ 4 := by exact ⟨la115, ua115⟩
        refine y_isub C dX11_shop_75 ?_
        have u144s := (smx_w (smx_w (smx_w (smx_d (S := [0, 78, 79, 80, 2, 2 + 1, 2 + 2, 2 + 3, 2 + 4, 15, 16, 17]) (show b01 (RDF M0 M110 2 15) = 1 by exact h112.2.2) (by decide) (by decide) (by decide)) eM114 (by decide)) eM117 (by decide)) eM120 (by decide))
        have u144k4 := s_pI eM120 (s_pI eM117 (s_pI eM114 (u113p4)))
        have u144k5 := s_pI eM120 (s_pI eM117 (s_pI eM114 (u113p5)))
        have u144j := (smjx_w (smjx_w (smjx_w (smjx_d (show b01 (RDF M0 M110 2 15) = 1 by exact h112.2.2)) eM114) eM117) eM120)
        have zz0_1 := (Eq.trans (s_fb eM117 (by decide) (s_fb eM120 (by decide) (rfl)) : (M120.1 0 1).toInt = (M114.1 0 1).toInt) (s_wr eM114 (by exact ⟨(by decide), (by decide)⟩))); have zz0_2 := (Eq.trans (s_fb eM120 (by decide) (rfl) : (M120.1 0 2).toInt = (M117.1 0 2).toInt) (s_wr eM117 (by exact ⟨la121, ua121⟩))); have zz0_3 := (Eq.trans (rfl : (M120.1 0 3).toInt = (M120.1 0 3).toInt) (s_wr eM120 (by exact ⟨la118, ua118⟩))); have zz18_2 : (M120.1 18 2).toInt = (M110.1 18 2).toInt := s_fa eM114 (by decide) (s_fa eM117 (by decide) (s_fa eM120 (by decide) (rfl))); exact hret _ _ _ _ dX11_shop_76 ⟨((-30) - (M110.1 78 5).toInt), rfl, hM120, by (clear zz18_2 zz0_2 u143 ua141 la141 ea141 ua121 la121 hM120 eM120 ua118 la118 ea118 hM117 eM117 ea115 hM114 eM114 u113p5 u113p4 u1133 u1132 u1131 hM110 zbM110 hbkz108 hnez108 hz108 hprz108 u107t ua104 la104 epc0_5 epc0_4 hret C hp1 hp0 ha1 hq10_5 hq10_4 hq10_3 hq10_2 hq10_1 hq8_0 hq6_1 hq6_0 hq7_4 hq7_3 hpr hM0; exact ⟨(by omega), ⟨(by omega), ⟨(by omega), ⟨(by omega), u144j⟩⟩⟩⟩)⟩
    · refine y_bipush C dX11_shop_12 rfl ?_
      have u145s := smx_r M0 [0, 78, 79, 80, 2, 2 + 1, 2 + 2, 2 + 3, 2 + 4, 15, 16, 17]
      have u145j := smjx_r M0
      exact hret _ _ _ _ dX11_shop_14 ⟨(-3), rfl, hM0, by exact ⟨(by decide), ⟨(by decide), ⟨(by (clear ua104 la104 epc0_5 epc0_4 hret C hq10_5 hq10_4 hq10_3 hq10_2 hq10_1 hq8_0 hq6_1 hq6_0 hq7_4 hq7_3 hpr hM0; omega)), ⟨(by (clear ua104 la104 epc0_5 epc0_4 hret C hq10_5 hq10_4 hq10_3 hq10_2 hq10_1 hq8_0 hq6_1 hq6_0 hq7_4 hq7_3 hpr hM0; omega)), u145j⟩⟩⟩⟩⟩
end
