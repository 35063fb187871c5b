set_option maxHeartbeats 4000000 in
theorem s2_X11_rota {l : Launch} {dC : Nat → ClassId} {dI : Nat → Nat → Nat} {ad : Nat → Nat} {cA : Nat → ClassId} {pr : Nat → Nat → Bool} {Kz : mm_M} {M0 : mm_M} (hM0 : INV pr Kz M0) (hpr : PX pr) (a1 : Int) (ha1 : -2147483648 ≤ a1 ∧ a1 ≤ 2147483647) (gp : Nat) (cgp : s_c gp = 6) (egp : gp = M0.2.2 0 4) (hp0 : b01 (APX M0 gp) = 1) (hp1 : b01 (LAW M0 gp) = 1) (hp2 : b01 (PRR (rwX M0 gp 12)) = 1) (hp3 : (M0.1 12 3).toInt < pw2 (M0.1 12 0).toInt) : Ci l 6 yX11_rota wsX11_rota dC dI ad cA [.ref (ad 0), .int (sI a1)] M0 (fun r M' => ∃ a : Int, r = sI a ∧ INV pr Kz M' ∧ FX [81, 82, 83, 84, 85, 86, 88, 89, 90, 91] M0 M' ∧ (-5) ≤ a ∧ a ≤ 255 ∧ (b01 (APX M' gp) = 1)) := by
  refine ci_of (cc := cX11_rota) (maxL := 5) (ty := .int) (lv := [(0, .ref (ad 0)), (1, .int (sI a1))]) (by decide) rfl (fun r M' hp => rfl) (Nat.le_of_ble_eq_true rfl) rfl ?_
  intro p e s m args below meth c A Q C hret
  refine j_iload_n C 1 1 dX11_rota_0 rfl rfl ?_
  refine y_if_lt C 9 dX11_rota_1 (by decide) (by omega) (fun h102 => ?_) (fun h102 => ?_)
  · refine y_bipush C dX11_rota_9 rfl ?_
    exact hret _ _ _ _ dX11_rota_11 ⟨(-2), rfl, hM0, FX.rf, by omega⟩
  · refine j_iload_n C 1 1 dX11_rota_4 rfl rfl ?_
    refine y_iconst C dX11_rota_5 ?_
    refine y_icmp_le C 12 dX11_rota_6 (by decide) (by omega) (fun h104 => ?_) (fun h104 => ?_)
    · refine j_aload_n C 0 0 dX11_rota_12 rfl rfl ?_
      refine y_getC C 10 12 fX11_rota_36 rfl rfl ft_10_6 sm_10_6 rfl hM0 dX11_rota_13 ?_
      refine j_callVi C (d := 1) (As := []) (st := []) 12 (s_lt rfl rfl) (s_kc (c := 8) rfl rfl) (by decide) rfl (s1_X9_isShut hM0 rfl) gX11_rota_X9_isShut rfl hdX9_isShut (by decide) (Nat.le_of_ble_eq_true rfl) dX11_rota_16 rfl (fun r105 M106 h107 => ?_)
      obtain ⟨a109, rfl, rfl, h108⟩ := h107
      refine y_if_eq C 25 dX11_rota_19 (by decide) (by omega) (fun h110 => ?_) (fun h110 => ?_)
      · refine j_aload_n C 0 0 dX11_rota_25 rfl rfl ?_
        refine y_getC C 10 88 fX11_rota_94 rfl rfl ft_10_14 sm_10_14 rfl hM0 dX11_rota_26 ?_
        refine j_aload_n C 0 0 dX11_rota_29 rfl rfl ?_
        refine y_getV C 10 gp fX11_rota_26 rfl rfl ft_10_4 (egp) dX11_rota_30 ?_
        refine j_aload_n C 0 0 dX11_rota_33 rfl rfl ?_
        refine y_getC C 10 12 fX11_rota_36 rfl rfl ft_10_6 sm_10_6 rfl hM0 dX11_rota_34 ?_
        refine j_aload_n C 0 0 dX11_rota_37 rfl rfl ?_
        refine y_getC C 10 12 fX11_rota_36 rfl rfl ft_10_6 sm_10_6 rfl hM0 dX11_rota_38 ?_
        refine y_getI C 8 _ _ fX11_rota_153 rfl rfl ft_8_4 sb_8_4 hM0 dX11_rota_41 (fun a111 ea111 la111 ua111 => ?_)
        refine j_callVv C (d := 5) (As := [.ref (ad gp), .ref (ad 12), .int (sI a111)]) (st := []) 88 (s_lt rfl rfl) (s_kc (c := 4) rfl rfl) (by decide) rfl (s2_X5_look hM0 hpr cgp a111 (by omega) (by omega) (by omega) (by omega) (by omega) (by omega)) gX11_rota_X5_look rfl hdX5_look (by decide) (Nat.le_of_ble_eq_true rfl) dX11_rota_44 rfl (fun M115 h116 => ?_)
        obtain ⟨hM115, fM115, h117⟩ := h116
        have u118a := tn_a (M := M115) (p := gp) (f := rwX M0 gp 12) (by omega)
        refine j_aload_n C 0 0 dX11_rota_47 rfl rfl ?_
        refine y_getC C 10 88 fX11_rota_94 rfl rfl ft_10_14 sm_10_14 rfl hM115 dX11_rota_48 ?_
        refine j_callVi C (d := 1) (As := []) (st := []) 88 (s_lt rfl rfl) (s_kc (c := 4) rfl rfl) (by decide) rfl (s1_X5_takersNow hM115) gX11_rota_X5_takersNow rfl hdX5_takersNow (by decide) (Nat.le_of_ble_eq_true rfl) dX11_rota_51 rfl (fun r119 M120 h121 => ?_)
        obtain ⟨a123, rfl, rfl, h122⟩ := h121
        refine j_istore_n C 2 [(2, .int (sI a123)), (0, .ref (ad 0)), (1, .int (sI a1))] dX11_rota_54 rfl (by decide) rfl ?_
        refine y_iconst C dX11_rota_55 ?_
        refine j_istore_n C 3 [(3, .int (sI 0)), (2, .int (sI a123)), (0, .ref (ad 0)), (1, .int (sI a1))] dX11_rota_56 rfl (by decide) rfl ?_
        have L12556 : ∀ (n12554 : Nat), ∀ (a12557 : Int) (M12558 : mm_M), (0 ≤ a12557 ∧ a12557 ≤ 9 ∧ (b01 (APX M12558 gp) = 1) ∧ (9 - a12557) < (n12554 : Int)) → INV pr Kz M12558 → FX [81, 82, 83, 84, 85, 86, 88, 89, 90, 91] M0 M12558 → jj p l e (cn_R 6) s m args below meth c 0 0 Q 5 dC dI ad cA A M12558 57 [(0, .ref (ad 0)), (1, .int (sI a1)), (2, .int (sI a123)), (3, .int (sI a12557))] [] := by
          intro n12554
          induction n12554 with
          | zero =>
            intro a12557 M12558 h12559 hM12558 fM12558
            exfalso; omega
          | succ n12554 ih12555 =>
            intro a12557 M12558 h12559 hM12558 fM12558
            refine j_iload_n C 3 3 dX11_rota_57 rfl rfl ?_
            refine j_aload_n C 0 0 dX11_rota_58 rfl rfl ?_
            refine y_getC C 10 12 fX11_rota_36 rfl rfl ft_10_6 sm_10_6 rfl hM12558 dX11_rota_59 ?_
            refine y_getI C 8 _ _ fX11_rota_160 rfl rfl ft_8_0 sb_8_0 hM12558 dX11_rota_62 (fun a12561 ea12561 la12561 ua12561 => ?_)
            have qa12561 : a12561 = (M0.1 12 0).toInt := s_fX fM12558 (by decide) (ea12561)
            refine y_icmp_gt C 166 dX11_rota_65 (by decide) (by omega) (fun h12563 => ?_) (fun h12563 => ?_)
            · refine y_iconst C dX11_rota_166 ?_
              exact hret _ _ _ _ dX11_rota_167 ⟨(-1), rfl, hM12558, (FX.rf.tr fM12558 (by decide)), by omega⟩
            · refine y_iconst C dX11_rota_68 ?_
              refine j_istore C 4 [(4, .int (sI 0)), (0, .ref (ad 0)), (1, .int (sI a1)), (2, .int (sI a123)), (3, .int (sI a12557))] dX11_rota_69 (by decide) rfl ?_
              have L13755 : ∀ (n13753 : Nat), ∀ (a13756 : Int) (M13757 : mm_M), (0 ≤ a13756 ∧ a13756 ≤ 256 ∧ (b01 (APX M13757 gp) = 1) ∧ (256 - a13756) < (n13753 : Int)) → INV pr Kz M13757 → FX [81, 82, 83, 84, 85, 86, 88, 89, 90, 91] M0 M13757 → jj p l e (cn_R 6) s m args below meth c 0 0 Q 5 dC dI ad cA A M13757 71 [(0, .ref (ad 0)), (1, .int (sI a1)), (2, .int (sI a123)), (3, .int (sI a12557)), (4, .int (sI a13756))] [] := by
                intro n13753
                induction n13753 with
                | zero =>
                  intro a13756 M13757 h13758 hM13757 fM13757
                  exfalso; omega
                | succ n13753 ih13754 =>
                  intro a13756 M13757 h13758 hM13757 fM13757
                  refine j_iload C 4 dX11_rota_71 rfl ?_
                  refine j_aload_n C 0 0 dX11_rota_73 rfl rfl ?_
                  refine y_getC C 10 12 fX11_rota_36 rfl rfl ft_10_6 sm_10_6 rfl hM13757 dX11_rota_74 ?_
                  refine j_callVi C (d := 0) (As := []) (st := [.int (sI a13756)]) 12 (s_lt rfl rfl) (s_kc (c := 8) rfl rfl) (by decide) rfl (s1_X9_everyKind hM13757 rfl) gX11_rota_X9_everyKind rfl hdX9_everyKind (by decide) (Nat.le_of_ble_eq_true rfl) dX11_rota_77 rfl (fun r13760 M13761 h13762 => ?_)
                  obtain ⟨a13764, rfl, rfl, h13763⟩ := h13762
                  refine y_icmp_gt C 160 dX11_rota_80 (by decide) (by omega) (fun h13765 => ?_) (fun h13765 => ?_)
                  · refine y_iinc C 3 [(3, .int (sI (a12557 + 1))), (0, .ref (ad 0)), (1, .int (sI a1)), (2, .int (sI a123)), (4, .int (sI a13756))] dX11_rota_160 rfl (by decide) rfl ?_
                    refine j_goto C 57 dX11_rota_163 (by decide) ?_
                    refine j_lv [1, 2, 3, 0] rfl ?_; exact ih12555 (a12557 + 1) M13757 (by omega) hM13757 (FX.rf.tr fM13757 (by decide))
                  · refine j_aload_n C 0 0 dX11_rota_83 rfl rfl ?_
                    refine j_iload C 4 dX11_rota_84 rfl ?_
                    refine j_iload_n C 3 3 dX11_rota_86 rfl rfl ?_
                    refine j_callVi C (d := 1) (As := [.int (sI a13756), .int (sI a12557)]) (st := []) 0 (s_lt rfl rfl) (s_kc (c := 10) rfl rfl) (by decide) rfl (s1_X11_isHideable hM13757 a13756 (by omega) a12557 (by omega)) gX11_rota_X11_isHideable rfl hdX11_isHideable (by decide) (Nat.le_of_ble_eq_true rfl) dX11_rota_87 rfl (fun r13767 M13768 h13769 => ?_)
                    obtain ⟨a13771, rfl, rfl, h13770⟩ := h13769
                    refine y_if_eq C 154 dX11_rota_90 (by decide) (by omega) (fun h13772 => ?_) (fun h13772 => ?_)
                    · refine y_iinc C 4 [(4, .int (sI (a13756 + 1))), (0, .ref (ad 0)), (1, .int (sI a1)), (2, .int (sI a123)), (3, .int (sI a12557))] dX11_rota_154 rfl (by decide) rfl ?_
                      refine j_goto C 71 dX11_rota_157 (by decide) ?_
                      refine j_lv [1, 2, 3, 4, 0] rfl ?_; exact ih13754 (a13756 + 1) M13757 (by omega) hM13757 (FX.rf.tr fM13757 (by decide))
                    · refine j_aload_n C 0 0 dX11_rota_93 rfl rfl ?_
                      refine y_getC C 10 88 fX11_rota_94 rfl rfl ft_10_14 sm_10_14 rfl hM13757 dX11_rota_94 ?_
                      refine j_aload_n C 0 0 dX11_rota_97 rfl rfl ?_
                      refine y_getV C 10 gp fX11_rota_26 rfl rfl ft_10_4 (s_pX fM13757 (egp)) dX11_rota_98 ?_
                      refine j_aload_n C 0 0 dX11_rota_101 rfl rfl ?_
                      refine y_getC C 10 12 fX11_rota_36 rfl rfl ft_10_6 sm_10_6 rfl hM13757 dX11_rota_102 ?_
                      refine j_aload_n C 0 0 dX11_rota_105 rfl rfl ?_
                      refine y_getC C 10 12 fX11_rota_36 rfl rfl ft_10_6 sm_10_6 rfl hM13757 dX11_rota_106 ?_
                      refine y_getI C 8 _ _ fX11_rota_153 rfl rfl ft_8_4 sb_8_4 hM13757 dX11_rota_109 (fun a13774 ea13774 la13774 ua13774 => ?_)
                      have qa13774 : a13774 = a111 := (s_fX fM13757 (by decide) (ea13774)).trans ea111.symm
                      refine j_iload C 4 dX11_rota_112 rfl ?_
                      refine y_iorN C 8 255 dX11_rota_114 rfl (by decide) (by omega) (fun a13776 la13776 ua13776 => ?_)
                      have u13777L7 := hM0.rd (i := gp) (c := 6) (k := 7) cgp (show s_b 6 7 = (0, 900) from rfl)
                      have u13777L9 := hM0.rd (i := gp) (c := 6) (k := 9) cgp (show s_b 6 9 = (0, 900) from rfl)
                      have u13777L := law_p (M := M0) (N := M13757) (p := gp) (ple_f (p := gp) ((FX.rf.tr fM13757 (by decide)) : FX [81, 82, 83, 84, 85, 86, 88, 89, 90, 91] M0 M13757) cgp (by decide)) u13777L7.1 u13777L9.1 (by omega)
                      have u13777e : rwX M13757 gp 12 = rwX M0 gp 12 := (rx_f (p := gp) (v := 12) (ple_f (p := gp) ((FX.rf.tr fM13757 (by decide)) : FX [81, 82, 83, 84, 85, 86, 88, 89, 90, 91] M0 M13757) cgp (by decide)) (ske_n ((FX.rf.tr fM13757 (by decide)) : FX [81, 82, 83, 84, 85, 86, 88, 89, 90, 91] M0 M13757) ⟨by decide, by decide, by decide⟩))
                      have u13777R : b01 (PRR (rwX M13757 gp 12)) = 1 := by rw [u13777e]; omega
                      have u13777S : (M13757.1 12 3).toInt < pw2 (M13757.1 12 0).toInt := by rw [((FX.rf.tr fM13757 (by decide)) : FX [81, 82, 83, 84, 85, 86, 88, 89, 90, 91] M0 M13757).cell (i := 12) (by decide)]; omega
                      refine j_callVv C (d := 5) (As := [.ref (ad gp), .ref (ad 12), .int (sI a13776)]) (st := []) 88 (s_lt rfl rfl) (s_kc (c := 4) rfl rfl) (by decide) rfl (s2_X5_look hM13757 hpr cgp a13776 (by omega) (by omega) (by omega) (by omega) (by omega) (by omega)) gX11_rota_X5_look rfl hdX5_look (by decide) (Nat.le_of_ble_eq_true rfl) dX11_rota_115 rfl (fun M13779 h13780 => ?_)
                      obtain ⟨hM13779, fM13779, h13781⟩ := h13780
                      have u13782a := tn_a (M := M13779) (p := gp) (f := rwX M13757 gp 12) (by omega)
                      refine j_iload_n C 2 2 dX11_rota_118 rfl rfl ?_
                      refine j_aload_n C 0 0 dX11_rota_119 rfl rfl ?_
                      refine y_getC C 10 88 fX11_rota_94 rfl rfl ft_10_14 sm_10_14 rfl hM13779 dX11_rota_120 ?_
                      refine j_callVi C (d := 1) (As := []) (st := [.int (sI a123)]) 88 (s_lt rfl rfl) (s_kc (c := 4) rfl rfl) (by decide) rfl (s1_X5_takersNow hM13779) gX11_rota_X5_takersNow rfl hdX5_takersNow (by decide) (Nat.le_of_ble_eq_true rfl) dX11_rota_123 rfl (fun r13783 M13784 h13785 => ?_)
                      obtain ⟨a13787, rfl, rfl, h13786⟩ := h13785
                      refine y_iconst C dX11_rota_126 ?_
                      refine y_not C dX11_rota_127 ?_
                      refine y_iandL C dX11_rota_128 (by omega) (fun a13788 la13788 ua13788 => ?_)
                      refine y_if_ne C 154 dX11_rota_129 (by decide) (by omega) (fun h13789 => ?_) (fun h13789 => ?_)
                      · refine y_iinc C 4 [(4, .int (sI (a13756 + 1))), (0, .ref (ad 0)), (1, .int (sI a1)), (2, .int (sI a123)), (3, .int (sI a12557))] dX11_rota_154 rfl (by decide) rfl ?_
                        refine j_goto C 71 dX11_rota_157 (by decide) ?_
                        refine j_lv [1, 2, 3, 4, 0] rfl ?_; exact ih13754 (a13756 + 1) M13779 (by omega) hM13779 ((FX.rf.tr fM13757 (by decide)).tr fM13779 (by decide))
                      · refine j_aload_n C 0 0 dX11_rota_132 rfl rfl ?_
                        refine y_getC C 10 88 fX11_rota_94 rfl rfl ft_10_14 sm_10_14 rfl hM13779 dX11_rota_133 ?_
                        refine j_callVi C (d := 3) (As := []) (st := []) 88 (s_lt rfl rfl) (s_kc (c := 4) rfl rfl) (by decide) rfl (s3_X5_shortest hM13779 hpr) gX11_rota_X5_shortest rfl hdX5_shortest (by decide) (Nat.le_of_ble_eq_true rfl) dX11_rota_136 rfl (fun r13791 M13792 h13793 => ?_)
                        obtain ⟨a13795, rfl, hM13792, fM13792, h13794⟩ := h13793
                        refine y_iconst C dX11_rota_139 ?_
                        refine y_icmp_ne C 154 dX11_rota_140 (by decide) (by omega) (fun h13796 => ?_) (fun h13796 => ?_)
                        · refine y_iinc C 4 [(4, .int (sI (a13756 + 1))), (0, .ref (ad 0)), (1, .int (sI a1)), (2, .int (sI a123)), (3, .int (sI a12557))] dX11_rota_154 rfl (by decide) rfl ?_
                          refine j_goto C 71 dX11_rota_157 (by decide) ?_
                          have u13797A7 := hM13779.rd (i := gp) (c := 6) (k := 7) cgp (show s_b 6 7 = (0, 900) from rfl)
                          have u13797A9 := hM13779.rd (i := gp) (c := 6) (k := 9) cgp (show s_b 6 9 = (0, 900) from rfl)
                          have u13797A := apx_o (M := M13779) (N := M13792) (p := gp) (ple_f (p := gp) ((FX.rf.tr fM13792 (by decide)) : FX [91] M13779 M13792) cgp (by decide)) (((FX.rf.tr fM13792 (by decide)) : FX [91] M13779 M13792).cell (by decide)) (((FX.rf.tr fM13792 (by decide)) : FX [91] M13779 M13792).cell (by decide)) (((FX.rf.tr fM13792 (by decide)) : FX [91] M13779 M13792).cell (by decide)) u13797A7.1 u13797A9.1 (by omega)
                          refine j_lv [1, 2, 3, 4, 0] rfl ?_; exact ih13754 (a13756 + 1) M13792 (by omega) hM13792 (((FX.rf.tr fM13757 (by decide)).tr fM13779 (by decide)).tr fM13792 (by decide))
                        · refine j_iload_n C 1 1 dX11_rota_143 rfl rfl ?_
                          refine y_if_ne C 151 dX11_rota_144 (by decide) (by omega) (fun h13798 => ?_) (fun h13798 => ?_)
                          · refine j_iload C 4 dX11_rota_151 rfl ?_
                            have u13799A7 := hM13779.rd (i := gp) (c := 6) (k := 7) cgp (show s_b 6 7 = (0, 900) from rfl)
                            have u13799A9 := hM13779.rd (i := gp) (c := 6) (k := 9) cgp (show s_b 6 9 = (0, 900) from rfl)
                            have u13799A := apx_o (M := M13779) (N := M13792) (p := gp) (ple_f (p := gp) ((FX.rf.tr fM13792 (by decide)) : FX [91] M13779 M13792) cgp (by decide)) (((FX.rf.tr fM13792 (by decide)) : FX [91] M13779 M13792).cell (by decide)) (((FX.rf.tr fM13792 (by decide)) : FX [91] M13779 M13792).cell (by decide)) (((FX.rf.tr fM13792 (by decide)) : FX [91] M13779 M13792).cell (by decide)) u13799A7.1 u13799A9.1 (by omega)
                            exact hret _ _ _ _ dX11_rota_153 ⟨a13756, rfl, hM13792, (((FX.rf.tr fM13757 (by decide)).tr fM13779 (by decide)).tr fM13792 (by decide)), by omega⟩
                          · refine j_iload_n C 3 3 dX11_rota_147 rfl rfl ?_
                            refine j_goto C 153 dX11_rota_148 (by decide) ?_
                            have u13800A7 := hM13779.rd (i := gp) (c := 6) (k := 7) cgp (show s_b 6 7 = (0, 900) from rfl)
                            have u13800A9 := hM13779.rd (i := gp) (c := 6) (k := 9) cgp (show s_b 6 9 = (0, 900) from rfl)
                            have u13800A := apx_o (M := M13779) (N := M13792) (p := gp) (ple_f (p := gp) ((FX.rf.tr fM13792 (by decide)) : FX [91] M13779 M13792) cgp (by decide)) (((FX.rf.tr fM13792 (by decide)) : FX [91] M13779 M13792).cell (by decide)) (((FX.rf.tr fM13792 (by decide)) : FX [91] M13779 M13792).cell (by decide)) (((FX.rf.tr fM13792 (by decide)) : FX [91] M13779 M13792).cell (by decide)) u13800A7.1 u13800A9.1 (by omega)
                            exact hret _ _ _ _ dX11_rota_153 ⟨a12557, rfl, hM13792, (((FX.rf.tr fM13757 (by decide)).tr fM13779 (by decide)).tr fM13792 (by decide)), by omega⟩
              refine j_lv [1, 2, 3, 4, 0] rfl ?_; exact L13755 2010 0 M12558 (by omega) hM12558 (FX.rf.tr fM12558 (by decide))
        refine j_lv [2, 3, 1, 0] rfl ?_; exact L12556 2010 0 M115 (by omega) hM115 (FX.rf.tr fM115 (by decide))
      · refine y_bipush C dX11_rota_22 rfl ?_
        exact hret _ _ _ _ dX11_rota_24 ⟨(-5), rfl, hM0, FX.rf, by omega⟩
    · refine y_bipush C dX11_rota_9 rfl ?_
      exact hret _ _ _ _ dX11_rota_11 ⟨(-2), rfl, hM0, FX.rf, by omega⟩
set_option maxHeartbeats 4000000 in
theorem s2_X11_earns {l : Launch} {dC : Nat → ClassId} {dI : Nat → Nat → Nat} {ad : Nat → Nat} {cA : Nat → ClassId} {pr : Nat → Nat → Bool} {Kz : mm_M} {M0 : mm_M} (hM0 : INV pr Kz M0) (hpr : PX pr) (a1 : Int) (ha1 : -2147483648 ≤ a1 ∧ a1 ≤ 2147483647) (a2 : Int) (ha2 : -2147483648 ≤ a2 ∧ a2 ≤ 2147483647) (gp : Nat) (cgp : s_c gp = 6) (egp : gp = M0.2.2 0 4) (hp0 : b01 (APX M0 gp) = 1) (hp1 : b01 (LAW M0 gp) = 1) (hp2 : b01 (PRR (rwX M0 gp 12)) = 1) (hp3 : (M0.1 12 3).toInt < pw2 (M0.1 12 0).toInt) : Cj l 6 yX11_earns wsX11_earns dC dI ad cA [.ref (ad 0), .int (sI a1), .int (sI a2)] M0 (fun r M' => ∃ a : Int, r = sJ a ∧ INV pr Kz M' ∧ FX [81, 82, 83, 84, 85, 86, 88, 89, 90, 92, 93, 94] M0 M' ∧ (-9223372036854775808) ≤ a ∧ a ≤ 9223372036854775807 ∧ (b01 (APX M' gp) = 1)) := by
  refine cj_of (cc := cX11_earns) (maxL := 4) (lv := [(0, .ref (ad 0)), (1, .int (sI a1)), (2, .int (sI a2))]) (by decide) rfl (Nat.le_of_ble_eq_true rfl) rfl ?_
  intro p e s m args below meth c A Q C hret
  refine j_iload_n C 2 2 dX11_earns_0 rfl rfl ?_
  refine j_iload_n C 1 1 dX11_earns_1 rfl rfl ?_
  refine y_bipush C dX11_earns_2 rfl ?_
  refine j_callSi C (d := 0) (As := [.int (sI a2), .int (sI a1), .int (sI 8)]) (st := []) (s1_X11_chanceRefusal hM0 a2 (by omega) a1 (by omega) 8 (by omega)) gX11_earns_X11_chanceRefusal rfl hdX11_chanceRefusals (by decide) (Nat.le_of_ble_eq_true rfl) dX11_earns_4 rfl (fun r102 M103 h104 => ?_)
  obtain ⟨a106, rfl, rfl, h105⟩ := h104
  refine j_istore_n C 3 [(3, .int (sI a106)), (0, .ref (ad 0)), (1, .int (sI a1)), (2, .int (sI a2))] dX11_earns_7 rfl (by decide) rfl ?_
  refine j_iload_n C 0 3 dX11_earns_8 rfl rfl ?_
  refine y_if_eq C 15 dX11_earns_9 (by decide) (by omega) (fun h107 => ?_) (fun h107 => ?_)
  · refine j_aload_n C 1 0 dX11_earns_15 rfl rfl ?_
    refine y_getC C 10 88 fX11_earns_94 rfl rfl ft_10_14 sm_10_14 rfl hM0 dX11_earns_16 ?_
    refine j_aload_n C 1 0 dX11_earns_19 rfl rfl ?_
    refine y_getV C 10 gp fX11_earns_26 rfl rfl ft_10_4 (egp) dX11_earns_20 ?_
    refine j_aload_n C 1 0 dX11_earns_23 rfl rfl ?_
    refine y_getC C 10 12 fX11_earns_36 rfl rfl ft_10_6 sm_10_6 rfl hM0 dX11_earns_24 ?_
    refine j_aload_n C 1 0 dX11_earns_27 rfl rfl ?_
    refine y_getC C 10 12 fX11_earns_36 rfl rfl ft_10_6 sm_10_6 rfl hM0 dX11_earns_28 ?_
    refine y_getI C 8 _ _ fX11_earns_153 rfl rfl ft_8_4 sb_8_4 hM0 dX11_earns_31 (fun a108 ea108 la108 ua108 => ?_)
    refine j_callVv C (d := 5) (As := [.ref (ad gp), .ref (ad 12), .int (sI a108)]) (st := []) 88 (s_lt rfl rfl) (s_kc (c := 4) rfl rfl) (by decide) rfl (s2_X5_look hM0 hpr cgp a108 (by omega) (by omega) (by omega) (by omega) (by omega) (by omega)) gX11_earns_X5_look rfl hdX5_look (by decide) (Nat.le_of_ble_eq_true rfl) dX11_earns_34 rfl (fun M112 h113 => ?_)
    obtain ⟨hM112, fM112, h114⟩ := h113
    have u115a := tn_a (M := M112) (p := gp) (f := rwX M0 gp 12) (by omega)
    refine j_aload_n C 1 0 dX11_earns_37 rfl rfl ?_
    refine y_getC C 10 88 fX11_earns_94 rfl rfl ft_10_14 sm_10_14 rfl hM112 dX11_earns_38 ?_
    refine j_iload_n C 2 1 dX11_earns_41 rfl rfl ?_
    refine j_callVv C (d := 3) (As := [.int (sI a1)]) (st := []) 88 (s_lt rfl rfl) (s_kc (c := 4) rfl rfl) (by decide) rfl (s2_X5_passDays hM112 hpr a1 (by omega)) gX11_earns_X5_passDays rfl hdX5_passDays (by decide) (Nat.le_of_ble_eq_true rfl) dX11_earns_42 rfl (fun M117 h118 => ?_)
    obtain ⟨hM117, fM117⟩ := h118
    refine j_aload_n C 1 0 dX11_earns_45 rfl rfl ?_
    refine y_getC C 10 88 fX11_earns_94 rfl rfl ft_10_14 sm_10_14 rfl hM117 dX11_earns_46 ?_
    refine y_getJ C 4 fX11_earns_341 rfl rfl ft_4_8 dX11_earns_49 (fun a120 ea120 la120 ua120 => ?_)
    refine j_aload_n C 1 0 dX11_earns_52 rfl rfl ?_
    refine y_getC C 10 88 fX11_earns_94 rfl rfl ft_10_14 sm_10_14 rfl hM117 dX11_earns_53 ?_
    refine y_getJ C 4 fX11_earns_296 rfl rfl ft_4_7 dX11_earns_56 (fun a121 ea121 la121 ua121 => ?_)
    refine j_iload_n C 3 2 dX11_earns_59 rfl rfl ?_
    refine j_callSj C (d := 1) (As := [.long (sJ a120), .long (sJ a121), .int (sI a2)]) (st := []) (s1_X11_inLowestTerms hM117 a120 (by omega) a121 (by omega) a2 (by omega)) gX11_earns_X11_inLowestTerms rfl hdX11_inLowestTermss (by decide) (Nat.le_of_ble_eq_true rfl) dX11_earns_60 rfl (fun r122 M123 h124 => ?_)
    obtain ⟨a126, rfl, rfl, h125⟩ := h124
    have u127A7 := hM112.rd (i := gp) (c := 6) (k := 7) cgp (show s_b 6 7 = (0, 900) from rfl)
    have u127A9 := hM112.rd (i := gp) (c := 6) (k := 9) cgp (show s_b 6 9 = (0, 900) from rfl)
    have u127A := apx_o (M := M112) (N := M117) (p := gp) (ple_f (p := gp) ((FX.rf.tr fM117 (by decide)) : FX [88, 92, 93, 94] M112 M117) cgp (by decide)) (((FX.rf.tr fM117 (by decide)) : FX [88, 92, 93, 94] M112 M117).cell (by decide)) (((FX.rf.tr fM117 (by decide)) : FX [88, 92, 93, 94] M112 M117).cell (by decide)) (((FX.rf.tr fM117 (by decide)) : FX [88, 92, 93, 94] M112 M117).cell (by decide)) u127A7.1 u127A9.1 (by omega)
    exact hret _ _ _ _ dX11_earns_63 ⟨a126, rfl, hM117, ((FX.rf.tr fM112 (by decide)).tr fM117 (by decide)), by omega⟩
  · refine j_iload_n C 0 3 dX11_earns_12 rfl rfl ?_
    refine y_i2l C dX11_earns_13 (by omega) ?_
    exact hret _ _ _ _ dX11_earns_14 ⟨a106, rfl, hM0, FX.rf, by omega⟩
set_option maxHeartbeats 4000000 in
theorem s3_X5_aim {l : Launch} {dC : Nat → ClassId} {dI : Nat → Nat → Nat} {ad : Nat → Nat} {cA : Nat → ClassId} {pr : Nat → Nat → Bool} {Kz : mm_M} {M0 : mm_M} (hM0 : INV pr Kz M0) (hpr : PX pr) {v1 : Nat} (cv1 : s_c v1 = 6) (a3 : Int) (ha3 : -2147483648 ≤ a3 ∧ a3 ≤ 2147483647) (hp0 : b01 (APX M0 v1) = 1) (hp1 : b01 (LAW M0 v1) = 1) (hp2 : b01 (PRR (rwX M0 v1 15)) = 1) (hp3 : (M0.1 15 3).toInt < pw2 (M0.1 15 0).toInt) (hp4 : 0 ≤ a3 ∧ a3 ≤ 255) : Cv l 1 yX5_aim wsX5_aim dC dI ad cA [.ref (ad 88), .ref (ad v1), .ref (ad 15), .int (sI a3)] M0 (fun M' => INV pr Kz M' ∧ FX [81, 82, 83, 84, 88] M0 M' ∧ (b01 (AIM M' v1 (seH (rwX M0 v1 15) (sI a3))) = 1) ∧ (b01 (TN M' v1 (rwX M0 v1 15)) = 1) ∧ (M'.2.2 88 10 = 15)) := by
  refine cv_of (cc := cX5_aim) (maxL := 4) (lv := [(0, .ref (ad 88)), (1, .ref (ad v1)), (2, .ref (ad 15)), (3, .int (sI a3))]) (by decide) rfl (Nat.le_of_ble_eq_true rfl) rfl ?_
  intro p e s m args below meth c A Q C hret
  refine j_aload_n C 0 0 dX5_aim_0 rfl rfl ?_
  refine j_aload_n C 1 1 dX5_aim_1 rfl rfl ?_
  refine y_putP C 4 6 qX5_aim_52 rfl rfl rfl rfl ft_4_9 sm_4_9 (by decide) hM0 (PX.w hpr rfl rfl) cv1 dX5_aim_2 (fun M101 eM101 hM101 => ?_)
  refine j_aload_n C 0 0 dX5_aim_5 rfl rfl ?_
  refine j_aload_n C 2 2 dX5_aim_6 rfl rfl ?_
  refine y_putP C 4 8 qX5_aim_56 rfl rfl rfl rfl ft_4_10 sm_4_10 (by decide) hM101 (PX.w hpr rfl rfl) rfl dX5_aim_7 (fun M102 eM102 hM102 => ?_)
  refine j_aload_n C 0 0 dX5_aim_10 rfl rfl ?_
  refine j_aload_n C 0 0 dX5_aim_11 rfl rfl ?_
  refine y_getV C 4 15 fX5_aim_56 rfl rfl ft_4_10 (s_pW eM102) dX5_aim_12 ?_
  refine j_callVi C (d := 0) (As := []) (st := [.ref (ad 88)]) 15 (s_lt rfl rfl) (s_kc (c := 8) rfl rfl) (by decide) rfl (s3_X9_everyKind hM102) gX5_aim_X9_everyKind rfl hdX9_everyKind (by decide) (Nat.le_of_ble_eq_true rfl) dX5_aim_15 rfl (fun r103 M104 h105 => ?_)
  obtain ⟨a107, rfl, rfl, h106⟩ := h105
  rw [show M102.1 15 = M0.1 15 from ((wP_cell eM102).trans (wP_cell eM101))] at h106
  obtain rfl : a107 = (pw2 (M0.1 15 0).toInt - 1) := by omega
  refine y_putI C 4 _ _ qX5_aim_38 rfl rfl ft_4_11 sb_4_11 hM102 (PX.w hpr rfl rfl) dX5_aim_18 (by omega) (fun M108 eM108 hM108 => ?_)
  refine j_aload_n C 0 0 dX5_aim_21 rfl rfl ?_
  refine j_aload_n C 0 0 dX5_aim_22 rfl rfl ?_
  refine y_getI C 4 _ _ fX5_aim_38 rfl rfl ft_4_11 sb_4_11 hM108 dX5_aim_23 (fun a109 ea109 la109 ua109 => ?_)
  obtain rfl : a109 = (pw2 (M0.1 15 0).toInt - 1) := (ea109).trans (s_wr eM108 (by omega))
  refine j_iload_n C 3 3 dX5_aim_26 rfl rfl ?_
  refine y_iconst C dX5_aim_27 ?_
  refine y_not C dX5_aim_28 ?_
  refine e_iandL C dX5_aim_29 (by omega) (fun lb111 ub111 => ?_)
  refine y_putI C 4 _ _ qX5_aim_42 rfl rfl ft_4_12 sb_4_12 hM108 (PX.w hpr rfl rfl) dX5_aim_30 (by omega) (fun M112 eM112 hM112 => ?_)
  refine j_aload_n C 0 0 dX5_aim_33 rfl rfl ?_
  refine j_aload_n C 0 0 dX5_aim_34 rfl rfl ?_
  refine y_getV C 4 15 fX5_aim_56 rfl rfl ft_4_10 (s_pI eM112 (s_pI eM108 (s_pW eM102))) dX5_aim_35 ?_
  refine y_getI C 8 _ _ fX5_aim_66 rfl rfl ft_8_3 sb_8_3 hM112 dX5_aim_38 (fun a113 ea113 la113 ua113 => ?_)
  obtain rfl : a113 = (M0.1 15 3).toInt := s_fP eM101 (s_fP eM102 (s_fa eM108 (by decide) (s_fa eM112 (by decide) (ea113))))
  refine j_aload_n C 0 0 dX5_aim_41 rfl rfl ?_
  refine y_getI C 4 _ _ fX5_aim_38 rfl rfl ft_4_11 sb_4_11 hM112 dX5_aim_42 (fun a115 ea115 la115 ua115 => ?_)
  obtain rfl : a115 = (pw2 (M0.1 15 0).toInt - 1) := (s_fb eM112 (by decide) (ea115)).trans (s_wr eM108 (by omega))
  refine e_iandR C dX5_aim_45 (by omega) (fun lb117 ub117 => ?_)
  refine y_putI C 4 _ _ qX5_aim_45 rfl rfl ft_4_13 sb_4_13 hM112 (PX.w hpr rfl rfl) dX5_aim_46 (by omega) (fun M118 eM118 hM118 => ?_)
  refine j_aload_n C 0 0 dX5_aim_49 rfl rfl ?_
  refine y_getC C 4 81 fX5_aim_48 rfl rfl ft_4_0 sm_4_0 rfl hM118 dX5_aim_50 ?_
  refine j_aload_n C 0 0 dX5_aim_53 rfl rfl ?_
  refine y_getV C 4 v1 fX5_aim_52 rfl rfl ft_4_9 (s_pI eM118 (s_pI eM112 (s_pI eM108 (s_pP eM102 (by decide) (s_pW eM101))))) dX5_aim_54 ?_
  refine j_aload_n C 0 0 dX5_aim_57 rfl rfl ?_
  refine y_getV C 4 15 fX5_aim_56 rfl rfl ft_4_10 (s_pI eM118 (s_pI eM112 (s_pI eM108 (s_pW eM102)))) dX5_aim_58 ?_
  have u1197 := hM0.rd (i := v1) (c := 6) (k := 7) cv1 (show s_b 6 7 = (0, 900) from rfl)
  have u1199 := hM0.rd (i := v1) (c := 6) (k := 9) cv1 (show s_b 6 9 = (0, 900) from rfl)
  have u119A := apx_o (M := M0) (N := M118) (p := v1) (ple_f ((((((FX.rf.wP eM101 (by decide)).wP eM102 (by decide)).wI eM108 (by decide)).wI eM112 (by decide)).wI eM118 (by decide)) : FX [88] M0 M118) cv1 (by decide)) (((((((FX.rf.wP eM101 (by decide)).wP eM102 (by decide)).wI eM108 (by decide)).wI eM112 (by decide)).wI eM118 (by decide)) : FX [88] M0 M118).cell (by decide)) (((((((FX.rf.wP eM101 (by decide)).wP eM102 (by decide)).wI eM108 (by decide)).wI eM112 (by decide)).wI eM118 (by decide)) : FX [88] M0 M118).cell (by decide)) (((((((FX.rf.wP eM101 (by decide)).wP eM102 (by decide)).wI eM108 (by decide)).wI eM112 (by decide)).wI eM118 (by decide)) : FX [88] M0 M118).cell (by decide)) u1197.1 u1199.1 (by omega)
  refine j_callVv C (d := 0) (As := [.ref (ad v1), .ref (ad 15)]) (st := []) 81 (s_lt rfl rfl) (s_kc (c := 3) rfl rfl) (by decide) rfl (s2_X4_tune hM118 hpr cv1 rfl (by omega)) gX5_aim_X4_tune rfl hdX4_tune (by decide) (Nat.le_of_ble_eq_true rfl) dX5_aim_61 rfl (fun M121 h122 => ?_)
  obtain ⟨hM121, fM121, h123⟩ := h122
  have ev181 : v1 = M121.2.2 81 5 := by omega
  have zz88_11 := (Eq.trans (s_fb eM112 (by decide) (s_fb eM118 (by decide) (s_fX fM121 (by decide) (rfl))) : (M121.1 88 11).toInt = (M108.1 88 11).toInt) (s_wr eM108 (by omega)))
  have zz88_12 := (Eq.trans (s_fb eM118 (by decide) (s_fX fM121 (by decide) (rfl)) : (M121.1 88 12).toInt = (M112.1 88 12).toInt) (s_wr eM112 (by omega)))
  have zz88_13 := (Eq.trans (s_fX fM121 (by decide) (rfl) : (M121.1 88 13).toInt = (M118.1 88 13).toInt) (s_wr eM118 (by omega)))
  have u1247 := hM0.rd (i := v1) (c := 6) (k := 7) cv1 (show s_b 6 7 = (0, 900) from rfl)
  have u1249 := hM0.rd (i := v1) (c := 6) (k := 9) cv1 (show s_b 6 9 = (0, 900) from rfl)
  have u124p := (ple_f (p := v1) (((((((FX.rf.wP eM101 (by decide)).wP eM102 (by decide)).wI eM108 (by decide)).wI eM112 (by decide)).wI eM118 (by decide)).tr fM121 (by decide)) : FX [81, 82, 83, 84, 88] M0 M121) cv1 (by decide))
  have u124r : rwX M118 v1 15 = rwX M0 v1 15 := (rx_f (p := v1) (v := 15) (ple_f (p := v1) ((((((FX.rf.wP eM101 (by decide)).wP eM102 (by decide)).wI eM108 (by decide)).wI eM112 (by decide)).wI eM118 (by decide)) : FX [88] M0 M118) cv1 (by decide)) (ske_n ((((((FX.rf.wP eM101 (by decide)).wP eM102 (by decide)).wI eM108 (by decide)).wI eM112 (by decide)).wI eM118 (by decide)) : FX [88] M0 M118) ⟨by decide, by decide, by decide⟩))
  have u124K := hM0.rd (i := 15) (c := 8) (k := 0) rfl (show s_b 8 0 = (0, 8) from rfl)
  have u124S := hM0.rd (i := 15) (c := 8) (k := 3) rfl (show s_b 8 3 = (0, 255) from rfl)
  have u124B := hM0.rd (i := v1) (c := 6) (k := 0) cv1 (show s_b 6 0 = (0, 6) from rfl)
  have u124e0 : M118.1 15 = M0.1 15 := ((((((FX.rf.wP eM101 (by decide)).wP eM102 (by decide)).wI eM108 (by decide)).wI eM112 (by decide)).wI eM118 (by decide)) : FX [88] M0 M118).cell (by decide)
  have u124L := law_p (M := M0) (N := M118) (p := v1) (ple_f (p := v1) ((((((FX.rf.wP eM101 (by decide)).wP eM102 (by decide)).wI eM108 (by decide)).wI eM112 (by decide)).wI eM118 (by decide)) : FX [88] M0 M118) cv1 (by decide)) u1247.1 u1249.1 (by omega)
  have u124b7 := hM118.rd (i := v1) (c := 6) (k := 7) cv1 (show s_b 6 7 = (0, 900) from rfl)
  have u124b9 := hM118.rd (i := v1) (c := 6) (k := 9) cv1 (show s_b 6 9 = (0, 900) from rfl)
  have u124T := tn_0 (M := M118) (N := M121) (p := v1) (v := 15) (ple_f (p := v1) ((FX.rf.tr fM121 (by decide)) : FX [81, 82, 83, 84] M118 M121) cv1 (by decide)) (by omega) (by omega) u124L (by rw [u124r]; omega) (by omega) (by omega) u124b7.1 u124b9.1
  rw [u124r] at u124T
  have u1249p : M121.2.2 88 9 = v1 := (s_pX fM121 (s_pI eM118 (s_pI eM112 (s_pI eM108 (s_pP eM102 (by decide) (s_pW eM101))))) : v1 = M121.2.2 88 9).symm
  have u12410p : M121.2.2 88 10 = 15 := (s_pX fM121 (s_pI eM118 (s_pI eM112 (s_pI eM108 (s_pW eM102)))) : 15 = M121.2.2 88 10).symm
  have u124a := aim_i (M := M0) (N := M121) (p := v1) (v := 15) (h := a3) cv1 u1249p (by omega) (by omega) (by omega) u124p (by omega) (by omega) (by omega) (by omega)
  exact hret _ _ _ dX5_aim_64 ⟨hM121, ((((((FX.rf.wP eM101 (by decide)).wP eM102 (by decide)).wI eM108 (by decide)).wI eM112 (by decide)).wI eM118 (by decide)).tr fM121 (by decide)), by omega⟩
set_option maxHeartbeats 4000000 in
theorem s3_X5_look {l : Launch} {dC : Nat → ClassId} {dI : Nat → Nat → Nat} {ad : Nat → Nat} {cA : Nat → ClassId} {pr : Nat → Nat → Bool} {Kz : mm_M} {M0 : mm_M} (hM0 : INV pr Kz M0) (hpr : PX pr) {v1 : Nat} (cv1 : s_c v1 = 6) (a3 : Int) (ha3 : -2147483648 ≤ a3 ∧ a3 ≤ 2147483647) (hp0 : b01 (APX M0 v1) = 1) (hp1 : b01 (LAW M0 v1) = 1) (hp2 : b01 (PRR (rwX M0 v1 15)) = 1) (hp3 : (M0.1 15 3).toInt < pw2 (M0.1 15 0).toInt) (hp4 : 0 ≤ a3 ∧ a3 ≤ 255) : Cv l 5 yX5_look wsX5_look dC dI ad cA [.ref (ad 88), .ref (ad v1), .ref (ad 15), .int (sI a3)] M0 (fun M' => INV pr Kz M' ∧ FX [81, 82, 83, 84, 85, 86, 88, 89, 90] M0 M' ∧ (b01 (LKP M' v1 (seH (rwX M0 v1 15) (sI a3))) = 1) ∧ (b01 (TN M' v1 (rwX M0 v1 15)) = 1) ∧ (M'.2.2 88 9 = v1)) := by
  refine cv_of (cc := cX5_look) (maxL := 5) (lv := [(0, .ref (ad 88)), (1, .ref (ad v1)), (2, .ref (ad 15)), (3, .int (sI a3))]) (by decide) rfl (Nat.le_of_ble_eq_true rfl) rfl ?_
  intro p e s m args below meth c A Q C hret
  refine j_aload_n C 0 0 dX5_look_0 rfl rfl ?_
  refine j_aload_n C 1 1 dX5_look_1 rfl rfl ?_
  refine j_aload_n C 2 2 dX5_look_2 rfl rfl ?_
  refine j_iload_n C 3 3 dX5_look_3 rfl rfl ?_
  refine j_callVv C (d := 1) (As := [.ref (ad v1), .ref (ad 15), .int (sI a3)]) (st := []) 88 (s_lt rfl rfl) (s_kc (c := 4) rfl rfl) (by decide) rfl (s3_X5_aim hM0 hpr cv1 a3 (by omega) (by omega) (by omega) (by omega) (by omega) (by omega)) gX5_look_X5_aim rfl hdX5_aim (by decide) (Nat.le_of_ble_eq_true rfl) dX5_look_4 rfl (fun M102 h103 => ?_)
  obtain ⟨hM102, fM102, h104⟩ := h103
  have e88a : v1 = M102.2.2 88 9 := (b01_e (P := AIM M102 v1 (seH (rwX M0 v1 15) (sI a3))) (by omega)).1.symm
  have u105a := aim_e (M := M102) (p := v1) (f := (seH (rwX M0 v1 15) (sI a3))) (by omega)
  have u105v := evF_b (f := (seH (rwX M0 v1 15) (sI a3))) (by omega)
  refine j_aload_n C 0 0 dX5_look_7 rfl rfl ?_
  refine y_getC C 4 90 fX5_look_15 rfl rfl ft_4_2 sm_4_2 rfl hM102 dX5_look_8 ?_
  refine y_iconst C dX5_look_11 ?_
  refine j_callSv C (d := 0) (As := [.ref (ad 90), .int (sI 0)]) (st := []) (s6_J7_fill_53178 hM102 hpr 0 (by omega)) gX5_look_J7_fill_53178 rfl hdJ7_fill_53178s (by decide) (Nat.le_of_ble_eq_true rfl) dX5_look_12 rfl (fun M107 h108 => ?_)
  obtain ⟨hM107, fM107, h109⟩ := h108
  refine j_aload_n C 0 0 dX5_look_15 rfl rfl ?_
  refine y_getC C 4 90 fX5_look_15 rfl rfl ft_4_2 sm_4_2 rfl hM107 dX5_look_16 ?_
  refine j_aload_n C 0 0 dX5_look_19 rfl rfl ?_
  refine y_getI C 4 _ _ fX5_look_45 rfl rfl ft_4_13 sb_4_13 hM107 dX5_look_20 (fun a110 ea110 la110 ua110 => ?_)
  obtain rfl : a110 = (M102.1 88 13).toInt := s_fX fM107 (by decide) (ea110)
  refine y_iconst C dX5_look_23 ?_
  refine y_iastF C 39 256 rfl rfl rfl ak_39 an_39 rfl (sb_39 _) hM107 (PX.w hpr rfl rfl) dX5_look_24 (by omega) (fun M112 eM112 hM112 => ?_)
  refine j_aload_n C 0 0 dX5_look_25 rfl rfl ?_
  refine y_getI C 4 _ _ fX5_look_45 rfl rfl ft_4_13 sb_4_13 hM112 dX5_look_26 (fun a113 ea113 la113 ua113 => ?_)
  obtain rfl : a113 = (M102.1 88 13).toInt := s_fX fM107 (by decide) (s_fa eM112 (by decide) (ea113))
  refine j_istore C 4 [(4, .int (sI (M102.1 88 13).toInt)), (0, .ref (ad 88)), (1, .ref (ad v1)), (2, .ref (ad 15)), (3, .int (sI a3))] dX5_look_29 (by decide) rfl ?_
  have u115l := lkq_0 (M := M107) (N := M112) (f := (seH (rwX M0 v1 15) (sI a3))) (s := (M102.1 88 13).toInt) (by omega) eM112 (by omega)
  have u115T := tn_g (M := M102) (N := M112) (p := v1) (f := rwX M0 v1 15) (by omega) (((FX.rf.tr fM107 (by decide)).wI eM112 (by decide)) : FX [90] M102 M112) cv1 (by decide)
  have u115A := aim_c (M := M102) (N := M112) (p := v1) (f := (seH (rwX M0 v1 15) (sI a3))) (by omega) (((FX.rf.tr fM107 (by decide)).wI eM112 (by decide)) : FX [90] M102 M112) cv1 (by decide)
  have L133 : ∀ (n131 : Nat), ∀ (a134 : Int) (M135 : mm_M), (0 ≤ a134 ∧ a134 ≤ 256 ∧ (b01 (LKQ M135 (seH (rwX M0 v1 15) (sI a3)) a134) = 1) ∧ (b01 (TN M135 v1 (rwX M0 v1 15)) = 1) ∧ (b01 (AIM M135 v1 (seH (rwX M0 v1 15) (sI a3))) = 1) ∧ (((seH (rwX M0 v1 15) (sI a3)) 27).toInt ≤ a134) ∧ (a134 ≤ evF (seH (rwX M0 v1 15) (sI a3)) + 1) ∧ (256 - a134) < (n131 : Int)) → INV pr Kz M135 → FX [81, 82, 83, 84, 85, 86, 88, 89, 90] M0 M135 → jj p l e (cn_R 5) s m args below meth c 0 0 Q 5 dC dI ad cA A M135 31 [(0, .ref (ad 88)), (3, .int (sI a3)), (4, .int (sI a134))] [] := by
    intro n131
    induction n131 with
    | zero =>
      intro a134 M135 h136 hM135 fM135
      exfalso; omega
    | succ n131 ih132 =>
      intro a134 M135 h136 hM135 fM135
      have e88M135 : v1 = M135.2.2 88 9 := (b01_e (P := AIM M135 v1 (seH (rwX M0 v1 15) (sI a3))) (by omega)).1.symm
      have u137a := aim_e (M := M135) (p := v1) (f := (seH (rwX M0 v1 15) (sI a3))) (by omega)
      have u137v := evF_b (f := (seH (rwX M0 v1 15) (sI a3))) (by omega)
      refine j_iload C 2 dX5_look_31 rfl ?_
      refine j_aload_n C 0 0 dX5_look_33 rfl rfl ?_
      refine y_getI C 4 _ _ fX5_look_38 rfl rfl ft_4_11 sb_4_11 hM135 dX5_look_34 (fun a138 ea138 la138 ua138 => ?_)
      obtain rfl : a138 = (M135.1 88 11).toInt := ea138
      refine y_icmp_gt C 64 dX5_look_37 (by decide) (by omega) (fun h140 => ?_) (fun h140 => ?_)
      · have u150p := lkp_i (M := M135) (p := v1) (f := (seH (rwX M0 v1 15) (sI a3))) (t := a134) (b01_e (by omega)) (by omega) (by omega)
        have u1509 : M135.2.2 88 9 = v1 := (b01_e (P := AIM M135 v1 (seH (rwX M0 v1 15) (sI a3))) (by omega)).1
        exact hret _ _ _ dX5_look_64 ⟨hM135, (FX.rf.tr fM135 (by decide)), by omega⟩
      · refine j_aload_n C 0 0 dX5_look_40 rfl rfl ?_
        refine y_getC C 4 90 fX5_look_15 rfl rfl ft_4_2 sm_4_2 rfl hM135 dX5_look_41 ?_
        refine j_iload C 2 dX5_look_44 rfl ?_
        refine y_iald C 39 256 _ _ rfl rfl rfl ak_39 an_39 rfl (sb_39 _) hM135 dX5_look_46 (by omega) (fun a141 ea141 la141 ua141 => ?_)
        obtain rfl : a141 = (M135.1 90 (a134).toNat).toInt := ea141
        refine y_iconst C dX5_look_47 ?_
        refine y_icmp_ne C 58 dX5_look_48 (by decide) (by omega) (fun h142 => ?_) (fun h142 => ?_)
        · refine y_iinc C 2 [(4, .int (sI (a134 + 1))), (0, .ref (ad 88)), (3, .int (sI a3))] dX5_look_58 rfl (by decide) rfl ?_
          refine j_goto C 31 dX5_look_61 (by decide) ?_
          have u143l := lkq_n (M := M135) (f := (seH (rwX M0 v1 15) (sI a3))) (t := a134) (t' := a134 + 1) (by omega) (by omega) rfl
          refine j_lv [1, 2, 0] rfl ?_; exact ih132 (a134 + 1) M135 (by omega) hM135 (FX.rf.tr fM135 (by decide))
        · have u144r : b01 (RC (seH (rwX M0 v1 15) (sI a3)) a134) = 1 := b01_i ((b01_e (P := LKQ M135 (seH (rwX M0 v1 15) (sI a3)) a134) (by omega)).2.1 a134 (by omega) (by omega) (by omega))
          refine j_aload_n C 0 0 dX5_look_51 rfl rfl ?_
          refine j_iload C 2 dX5_look_52 rfl ?_
          refine j_iload_n C 1 3 dX5_look_54 rfl rfl ?_
          refine j_callVv C (d := 4) (As := [.int (sI a134), .int (sI a3)]) (st := []) 88 (s_lt rfl rfl) (s_kc (c := 4) rfl rfl) (by decide) rfl (s2_X5_meet hM135 hpr a134 (by omega) a3 (by omega) v1 cv1 (e88M135) (rwX M0 v1 15) (by omega) (by omega) (by omega) (by omega) (by omega) (by omega) (by omega)) gX5_look_X5_meet rfl hdX5_meet (by decide) (Nat.le_of_ble_eq_true rfl) dX5_look_55 rfl (fun M146 h147 => ?_)
          obtain ⟨hM146, fM146, h148⟩ := h147
          refine y_iinc C 2 [(4, .int (sI (a134 + 1))), (0, .ref (ad 88)), (3, .int (sI a3))] dX5_look_58 rfl (by decide) rfl ?_
          refine j_goto C 31 dX5_look_61 (by decide) ?_
          have u149A := aim_c (M := M135) (N := M146) (p := v1) (f := (seH (rwX M0 v1 15) (sI a3))) (by omega) ((FX.rf.tr fM146 (by decide)) : FX [82, 85, 86, 89, 90] M135 M146) cv1 (by decide)
          refine j_lv [1, 2, 0] rfl ?_; exact ih132 (a134 + 1) M146 (by omega) hM146 ((FX.rf.tr fM135 (by decide)).tr fM146 (by decide))
  refine j_lv [1, 4, 0] rfl ?_; exact L133 2010 (M102.1 88 13).toInt M112 (by omega) hM112 (((FX.rf.tr fM102 (by decide)).tr fM107 (by decide)).wI eM112 (by decide))
set_option maxHeartbeats 4000000 in
theorem s2_X11_bestPrice {l : Launch} {dC : Nat → ClassId} {dI : Nat → Nat → Nat} {ad : Nat → Nat} {cA : Nat → ClassId} {pr : Nat → Nat → Bool} {Kz : mm_M} {M0 : mm_M} (hM0 : INV pr Kz M0) (hpr : PX pr) (hq8_0 : ∀ i, s_c i = 8 → pr i 0 = false) (a1 : Int) (ha1 : -2147483648 ≤ a1 ∧ a1 ≤ 2147483647) (a2 : Int) (ha2 : -2147483648 ≤ a2 ∧ a2 ≤ 2147483647) (gp : Nat) (cgp : s_c gp = 6) (egp : gp = M0.2.2 0 4) (hp0 : b01 (APX M0 gp) = 1) (hp1 : b01 (LAW M0 gp) = 1) (hp2 : b01 (PRR (rwX M0 gp 12)) = 1) (hp3 : (M0.1 12 3).toInt < pw2 (M0.1 12 0).toInt) : Ci l 6 yX11_bestPrice wsX11_bestPrice dC dI ad cA [.ref (ad 0), .int (sI a1), .int (sI a2)] M0 (fun r M' => ∃ a : Int, r = sI a ∧ INV pr Kz M' ∧ FX [15, 16, 17, 81, 82, 83, 84, 85, 86, 88, 89, 90, 92, 93, 94] M0 M' ∧ (-5) ≤ a ∧ a ≤ 99 ∧ (b01 (APX M' gp) = 1)) := by
  refine ci_of (cc := cX11_bestPrice) (maxL := 7) (ty := .int) (lv := [(0, .ref (ad 0)), (1, .int (sI a1)), (2, .int (sI a2))]) (by decide) rfl (fun r M' hp => rfl) (Nat.le_of_ble_eq_true rfl) rfl ?_
  intro p e s m args below meth c A Q C hret
  refine j_aload_n C 0 0 dX11_bestPrice_0 rfl rfl ?_
  refine j_iload_n C 1 1 dX11_bestPrice_1 rfl rfl ?_
  refine j_callVi C (d := 0) (As := [.int (sI a1)]) (st := []) 0 (s_lt rfl rfl) (s_kc (c := 10) rfl rfl) (by decide) rfl (s1_X11_isKind hM0 a1 (by omega)) gX11_bestPrice_X11_isKind rfl hdX11_isKind (by decide) (Nat.le_of_ble_eq_true rfl) dX11_bestPrice_2 rfl (fun r102 M103 h104 => ?_)
  obtain ⟨a106, rfl, rfl, h105⟩ := h104
  refine y_if_ne C 11 dX11_bestPrice_5 (by decide) (by omega) (fun h107 => ?_) (fun h107 => ?_)
  · refine j_iload_n C 2 2 dX11_bestPrice_11 rfl rfl ?_
    refine y_iconst C dX11_bestPrice_12 ?_
    refine y_icmp_lt C 21 dX11_bestPrice_13 (by decide) (by omega) (fun h108 => ?_) (fun h108 => ?_)
    · refine y_bipush C dX11_bestPrice_21 rfl ?_
      exact hret _ _ _ _ dX11_bestPrice_23 ⟨(-3), rfl, hM0, FX.rf, by omega⟩
    · refine j_iload_n C 2 2 dX11_bestPrice_16 rfl rfl ?_
      refine y_iconst C dX11_bestPrice_17 ?_
      refine y_icmp_le C 24 dX11_bestPrice_18 (by decide) (by omega) (fun h110 => ?_) (fun h110 => ?_)
      · refine j_aload_n C 0 0 dX11_bestPrice_24 rfl rfl ?_
        refine y_getC C 10 12 fX11_bestPrice_36 rfl rfl ft_10_6 sm_10_6 rfl hM0 dX11_bestPrice_25 ?_
        refine j_callVi C (d := 1) (As := []) (st := []) 12 (s_lt rfl rfl) (s_kc (c := 8) rfl rfl) (by decide) rfl (s1_X9_isShut hM0 rfl) gX11_bestPrice_X9_isShut rfl hdX9_isShut (by decide) (Nat.le_of_ble_eq_true rfl) dX11_bestPrice_28 rfl (fun r111 M112 h113 => ?_)
        obtain ⟨a115, rfl, rfl, h114⟩ := h113
        refine y_if_eq C 37 dX11_bestPrice_31 (by decide) (by omega) (fun h116 => ?_) (fun h116 => ?_)
        · refine j_aload_n C 0 0 dX11_bestPrice_37 rfl rfl ?_
          refine y_getC C 10 15 fX11_bestPrice_40 rfl rfl ft_10_7 sm_10_7 rfl hM0 dX11_bestPrice_38 ?_
          refine j_aload_n C 0 0 dX11_bestPrice_41 rfl rfl ?_
          refine y_getC C 10 12 fX11_bestPrice_36 rfl rfl ft_10_6 sm_10_6 rfl hM0 dX11_bestPrice_42 ?_
          refine j_callVv C (d := 0) (As := [.ref (ad 12)]) (st := []) 15 (s_lt rfl rfl) (s_kc (c := 8) rfl rfl) (by decide) rfl (s2_X9_copyFrom hM0 hpr hq8_0) gX11_bestPrice_X9_copyFrom rfl hdX9_copyFrom (by decide) (Nat.le_of_ble_eq_true rfl) dX11_bestPrice_45 rfl (fun M118 h119 => ?_)
          obtain ⟨hM118, fM118, h120⟩ := h119
          refine y_iconst C dX11_bestPrice_48 ?_
          refine j_istore_n C 3 [(3, .int (sI 1)), (0, .ref (ad 0)), (1, .int (sI a1)), (2, .int (sI a2))] dX11_bestPrice_49 rfl (by decide) rfl ?_
          refine y_ldc2 C (-1) dX11_bestPrice_50 kX11_bestPrice_219 rfl ?_
          refine j_lstore C 4 [(4, .long (sJ (-1))), (3, .int (sI 1)), (0, .ref (ad 0)), (1, .int (sI a1)), (2, .int (sI a2))] dX11_bestPrice_53 (by decide) rfl ?_
          refine y_iconst C dX11_bestPrice_55 ?_
          refine j_istore C 6 [(6, .int (sI 1)), (4, .long (sJ (-1))), (3, .int (sI 1)), (0, .ref (ad 0)), (1, .int (sI a1)), (2, .int (sI a2))] dX11_bestPrice_56 (by decide) rfl ?_
          have u121A7 := hM0.rd (i := gp) (c := 6) (k := 7) cgp (show s_b 6 7 = (0, 900) from rfl)
          have u121A9 := hM0.rd (i := gp) (c := 6) (k := 9) cgp (show s_b 6 9 = (0, 900) from rfl)
          have u121A := apx_o (M := M0) (N := M118) (p := gp) (ple_f (p := gp) ((FX.rf.tr fM118 (by decide)) : FX [15, 16, 17] M0 M118) cgp (by decide)) (((FX.rf.tr fM118 (by decide)) : FX [15, 16, 17] M0 M118).cell (by decide)) (((FX.rf.tr fM118 (by decide)) : FX [15, 16, 17] M0 M118).cell (by decide)) (((FX.rf.tr fM118 (by decide)) : FX [15, 16, 17] M0 M118).cell (by decide)) u121A7.1 u121A9.1 (by omega)
          have u121e : rwX M118 gp 15 = (rwX M0 gp 12) := rx_eq (M := M0) (N := M118) (p := gp) (v := 15) (w := 12) (ple_f (p := gp) ((FX.rf.tr fM118 (by decide)) : FX [15, 16, 17] M0 M118) cgp (by decide)) (b01_e (by omega))
          have u121R : b01 (PRR (rwX M118 gp 15)) = 1 := by rw [u121e]; omega
          have u121S : (M118.1 15 3).toInt < pw2 (M118.1 15 0).toInt := by rw [show M118.1 15 3 = M0.1 12 3 from congrFun u121e 27, show M118.1 15 0 = M0.1 12 0 from congrFun u121e 26]; omega
          have L718 : ∀ (n716 : Nat), ∀ (a719 : Int) (a720 : Int) (a721 : Int) (M722 : mm_M), (1 ≤ a719 ∧ a719 ≤ 99 ∧ (-9223372036854775808) ≤ a720 ∧ a720 ≤ 9223372036854775807 ∧ 1 ≤ a721 ∧ a721 ≤ 100 ∧ (b01 (APX M722 gp) = 1) ∧ (b01 (PRR (rwX M722 gp 15)) = 1) ∧ ((M722.1 15 3).toInt < pw2 (M722.1 15 0).toInt) ∧ (100 - a721) < (n716 : Int)) → INV pr Kz M722 → FX [15, 16, 17, 81, 82, 83, 84, 85, 86, 88, 89, 90, 92, 93, 94] M0 M722 → jj p l e (cn_R 6) s m args below meth c 0 0 Q 7 dC dI ad cA A M722 58 [(0, .ref (ad 0)), (1, .int (sI a1)), (2, .int (sI a2)), (3, .int (sI a719)), (4, .long (sJ a720)), (6, .int (sI a721))] [] := by
            intro n716
            induction n716 with
            | zero =>
              intro a719 a720 a721 M722 h723 hM722 fM722
              exfalso; omega
            | succ n716 ih717 =>
              intro a719 a720 a721 M722 h723 hM722 fM722
              refine j_iload C 5 dX11_bestPrice_58 rfl ?_
              refine y_bipush C dX11_bestPrice_60 rfl ?_
              refine y_icmp_gt C 146 dX11_bestPrice_62 (by decide) (by omega) (fun h725 => ?_) (fun h725 => ?_)
              · refine j_iload_n C 3 3 dX11_bestPrice_146 rfl rfl ?_
                exact hret _ _ _ _ dX11_bestPrice_147 ⟨a719, rfl, hM722, (FX.rf.tr fM722 (by decide)), by omega⟩
              · refine j_aload_n C 0 0 dX11_bestPrice_65 rfl rfl ?_
                refine y_getC C 10 15 fX11_bestPrice_40 rfl rfl ft_10_7 sm_10_7 rfl hM722 dX11_bestPrice_66 ?_
                refine y_getC C 8 16 fX11_bestPrice_144 rfl rfl ft_8_1 sm_8_1 rfl hM722 dX11_bestPrice_69 ?_
                refine j_iload_n C 1 1 dX11_bestPrice_72 rfl rfl ?_
                refine j_iload C 5 dX11_bestPrice_73 rfl ?_
                refine y_iastF C 25 8 rfl rfl rfl ak_25 an_25 rfl (sb_25 _) hM722 (PX.w hpr rfl rfl) dX11_bestPrice_75 (by omega) (fun M726 eM726 hM726 => ?_)
                have u727A7 := hM722.rd (i := gp) (c := 6) (k := 7) cgp (show s_b 6 7 = (0, 900) from rfl)
                have u727A9 := hM722.rd (i := gp) (c := 6) (k := 9) cgp (show s_b 6 9 = (0, 900) from rfl)
                have u727A := apx_o (M := M722) (N := M726) (p := gp) (ple_f (p := gp) ((FX.rf.wI eM726 (by decide)) : FX [16] M722 M726) cgp (by decide)) (((FX.rf.wI eM726 (by decide)) : FX [16] M722 M726).cell (by decide)) (((FX.rf.wI eM726 (by decide)) : FX [16] M722 M726).cell (by decide)) (((FX.rf.wI eM726 (by decide)) : FX [16] M722 M726).cell (by decide)) u727A7.1 u727A9.1 (by omega)
                have u727L7 := hM0.rd (i := gp) (c := 6) (k := 7) cgp (show s_b 6 7 = (0, 900) from rfl)
                have u727L9 := hM0.rd (i := gp) (c := 6) (k := 9) cgp (show s_b 6 9 = (0, 900) from rfl)
                have u727L := law_p (M := M0) (N := M726) (p := gp) (ple_f (p := gp) (((FX.rf.tr fM722 (by decide)).wI eM726 (by decide)) : FX [15, 16, 17, 81, 82, 83, 84, 85, 86, 88, 89, 90, 92, 93, 94] M0 M726) cgp (by decide)) u727L7.1 u727L9.1 (by omega)
                have u727R : b01 (PRR (rwX M726 gp 15)) = 1 := by rw [rx_p (v := 15) cgp rfl eM726 (by omega)]; exact b01_i (prr_p (b01_e (by omega)) (by omega) (by omega))
                have u727S : (M726.1 15 3).toInt < pw2 (M726.1 15 0).toInt := by rw [((FX.rf.wI eM726 (by decide)) : FX [16] M722 M726).cell (i := 15) (by decide)]; omega
                refine j_aload_n C 0 0 dX11_bestPrice_76 rfl rfl ?_
                refine y_getC C 10 88 fX11_bestPrice_94 rfl rfl ft_10_14 sm_10_14 rfl hM726 dX11_bestPrice_77 ?_
                refine j_aload_n C 0 0 dX11_bestPrice_80 rfl rfl ?_
                refine y_getV C 10 gp fX11_bestPrice_26 rfl rfl ft_10_4 (s_pI eM726 (s_pX fM722 (egp))) dX11_bestPrice_81 ?_
                refine j_aload_n C 0 0 dX11_bestPrice_84 rfl rfl ?_
                refine y_getC C 10 15 fX11_bestPrice_40 rfl rfl ft_10_7 sm_10_7 rfl hM726 dX11_bestPrice_85 ?_
                refine j_aload_n C 0 0 dX11_bestPrice_88 rfl rfl ?_
                refine y_getC C 10 15 fX11_bestPrice_40 rfl rfl ft_10_7 sm_10_7 rfl hM726 dX11_bestPrice_89 ?_
                refine y_getI C 8 _ _ fX11_bestPrice_153 rfl rfl ft_8_4 sb_8_4 hM726 dX11_bestPrice_92 (fun a728 ea728 la728 ua728 => ?_)
                have qa728 : a728 = (M722.1 15 4).toInt := s_fa eM726 (by decide) (ea728)
                refine j_callVv C (d := 5) (As := [.ref (ad gp), .ref (ad 15), .int (sI a728)]) (st := []) 88 (s_lt rfl rfl) (s_kc (c := 4) rfl rfl) (by decide) rfl (s3_X5_look hM726 hpr cgp a728 (by omega) (by omega) (by omega) (by omega) (by omega) (by omega)) gX11_bestPrice_X5_look rfl hdX5_look (by decide) (Nat.le_of_ble_eq_true rfl) dX11_bestPrice_95 rfl (fun M731 h732 => ?_)
                obtain ⟨hM731, fM731, h733⟩ := h732
                have u734a := tn_a (M := M731) (p := gp) (f := rwX M726 gp 15) (by omega)
                refine j_aload_n C 0 0 dX11_bestPrice_98 rfl rfl ?_
                refine y_getC C 10 88 fX11_bestPrice_94 rfl rfl ft_10_14 sm_10_14 rfl hM731 dX11_bestPrice_99 ?_
                refine j_iload_n C 2 2 dX11_bestPrice_102 rfl rfl ?_
                refine j_callVv C (d := 3) (As := [.int (sI a2)]) (st := []) 88 (s_lt rfl rfl) (s_kc (c := 4) rfl rfl) (by decide) rfl (s2_X5_passDays hM731 hpr a2 (by omega)) gX11_bestPrice_X5_passDays rfl hdX5_passDays (by decide) (Nat.le_of_ble_eq_true rfl) dX11_bestPrice_103 rfl (fun M736 h737 => ?_)
                obtain ⟨hM736, fM736⟩ := h737
                refine j_aload_n C 0 0 dX11_bestPrice_106 rfl rfl ?_
                refine y_getC C 10 88 fX11_bestPrice_94 rfl rfl ft_10_14 sm_10_14 rfl hM736 dX11_bestPrice_107 ?_
                refine y_getJ C 4 fX11_bestPrice_341 rfl rfl ft_4_8 dX11_bestPrice_110 (fun a739 ea739 la739 ua739 => ?_)
                refine j_lload C 4 dX11_bestPrice_113 rfl ?_
                have J742 : ∀ (a741 : Int), (1 ≤ a741 ∧ a741 ≤ 99) → jj p l e (cn_R 6) s m args below meth c 0 0 Q 7 dC dI ad cA A M736 125 [(0, .ref (ad 0)), (1, .int (sI a1)), (2, .int (sI a2)), (4, .long (sJ a720)), (6, .int (sI a721))] [.int (sI a741)] := by
                  intro a741 h743
                  refine j_istore_n C 3 [(3, .int (sI a741)), (0, .ref (ad 0)), (1, .int (sI a1)), (2, .int (sI a2)), (4, .long (sJ a720)), (6, .int (sI a721))] dX11_bestPrice_125 rfl (by decide) rfl ?_
                  refine j_lload C 4 dX11_bestPrice_126 rfl ?_
                  refine j_aload_n C 1 0 dX11_bestPrice_128 rfl rfl ?_
                  refine y_getC C 10 88 fX11_bestPrice_94 rfl rfl ft_10_14 sm_10_14 rfl hM736 dX11_bestPrice_129 ?_
                  refine y_getJ C 4 fX11_bestPrice_341 rfl rfl ft_4_8 dX11_bestPrice_132 (fun a744 ea744 la744 ua744 => ?_)
                  refine y_mmaxl C wX11_bestPrice_330_0 wX11_bestPrice_330_1 wX11_bestPrice_330_2 wX11_bestPrice_330_3 (by decide) (Nat.le_of_ble_eq_true rfl) dX11_bestPrice_135 (fun a745 la745 ua745 => ?_)
                  refine j_lstore C 4 [(4, .long (sJ a745)), (3, .int (sI a741)), (0, .ref (ad 0)), (1, .int (sI a1)), (2, .int (sI a2)), (6, .int (sI a721))] dX11_bestPrice_138 (by decide) rfl ?_
                  refine y_iinc C 5 [(6, .int (sI (a721 + 1))), (4, .long (sJ a745)), (3, .int (sI a741)), (0, .ref (ad 0)), (1, .int (sI a1)), (2, .int (sI a2))] dX11_bestPrice_140 rfl (by decide) rfl ?_
                  refine j_goto C 58 dX11_bestPrice_143 (by decide) ?_
                  have u746A7 := hM731.rd (i := gp) (c := 6) (k := 7) cgp (show s_b 6 7 = (0, 900) from rfl)
                  have u746A9 := hM731.rd (i := gp) (c := 6) (k := 9) cgp (show s_b 6 9 = (0, 900) from rfl)
                  have u746A := apx_o (M := M731) (N := M736) (p := gp) (ple_f (p := gp) ((FX.rf.tr fM736 (by decide)) : FX [88, 92, 93, 94] M731 M736) cgp (by decide)) (((FX.rf.tr fM736 (by decide)) : FX [88, 92, 93, 94] M731 M736).cell (by decide)) (((FX.rf.tr fM736 (by decide)) : FX [88, 92, 93, 94] M731 M736).cell (by decide)) (((FX.rf.tr fM736 (by decide)) : FX [88, 92, 93, 94] M731 M736).cell (by decide)) u746A7.1 u746A9.1 (by omega)
                  have u746R : b01 (PRR (rwX M736 gp 15)) = 1 := by rw [(rx_f (p := gp) (v := 15) (ple_f (p := gp) (((FX.rf.tr fM731 (by decide)).tr fM736 (by decide)) : FX [81, 82, 83, 84, 85, 86, 88, 89, 90, 92, 93, 94] M726 M736) cgp (by decide)) (ske_n (((FX.rf.tr fM731 (by decide)).tr fM736 (by decide)) : FX [81, 82, 83, 84, 85, 86, 88, 89, 90, 92, 93, 94] M726 M736) ⟨by decide, by decide, by decide⟩))]; omega
                  have u746S : (M736.1 15 3).toInt < pw2 (M736.1 15 0).toInt := by rw [((((FX.rf.wI eM726 (by decide)).tr fM731 (by decide)).tr fM736 (by decide)) : FX [16, 81, 82, 83, 84, 85, 86, 88, 89, 90, 92, 93, 94] M722 M736).cell (i := 15) (by decide)]; omega
                  refine j_lv [3, 4, 5, 2, 1, 0] rfl ?_; exact ih717 a741 a745 (a721 + 1) M736 (by omega) hM736 ((((FX.rf.tr fM722 (by decide)).wI eM726 (by decide)).tr fM731 (by decide)).tr fM736 (by decide))
                refine y_lcmp_le C 124 dX11_bestPrice_115 dX11_bestPrice_116 (by decide) (by omega) (fun h740 => ?_) (fun h740 => ?_)
                · refine j_iload_n C 3 3 dX11_bestPrice_124 rfl rfl ?_
                  refine j_lv [0, 1, 2, 4, 5] rfl ?_; exact J742 a719 (by omega)
                · refine j_iload C 5 dX11_bestPrice_119 rfl ?_
                  refine j_goto C 125 dX11_bestPrice_121 (by decide) ?_
                  refine j_lv [0, 1, 2, 4, 5] rfl ?_; exact J742 a721 (by omega)
          refine j_lv [3, 4, 5, 2, 1, 0] rfl ?_; exact L718 2010 1 (-1) 1 M118 (by omega) hM118 (FX.rf.tr fM118 (by decide))
        · refine y_bipush C dX11_bestPrice_34 rfl ?_
          exact hret _ _ _ _ dX11_bestPrice_36 ⟨(-5), rfl, hM0, FX.rf, by omega⟩
      · refine y_bipush C dX11_bestPrice_21 rfl ?_
        exact hret _ _ _ _ dX11_bestPrice_23 ⟨(-3), rfl, hM0, FX.rf, by omega⟩
  · refine y_bipush C dX11_bestPrice_8 rfl ?_
    exact hret _ _ _ _ dX11_bestPrice_10 ⟨(-2), rfl, hM0, FX.rf, by omega⟩
set_option maxHeartbeats 4000000 in
theorem s3_X5_meet {l : Launch} {dC : Nat → ClassId} {dI : Nat → Nat → Nat} {ad : Nat → Nat} {cA : Nat → ClassId} {pr : Nat → Nat → Bool} {Kz : mm_M} {M0 : mm_M} (hM0 : INV pr Kz M0) (hpr : PX pr) (a1 : Int) (ha1 : -2147483648 ≤ a1 ∧ a1 ≤ 2147483647) (a2 : Int) (ha2 : -2147483648 ≤ a2 ∧ a2 ≤ 2147483647) (gp : Nat) (cgp : s_c gp = 6) (egp : gp = M0.2.2 88 9) (f : Nat → Int32) (hp0 : b01 (TN M0 gp f) = 1) (hp1 : 0 ≤ a1 ∧ a1 ≤ 255) (hp2 : 0 ≤ a2 ∧ a2 ≤ 255) : Cv l 4 yX5_meet wsX5_meet dC dI ad cA [.ref (ad 88), .int (sI a1), .int (sI a2)] M0 (fun M' => INV pr Kz M' ∧ FX [82, 85, 86, 89, 90] M0 M' ∧ (b01 (TN M' gp f) = 1)) := by
  refine cv_of (cc := cX5_meet) (maxL := 5) (lv := [(0, .ref (ad 88)), (1, .int (sI a1)), (2, .int (sI a2))]) (by decide) rfl (Nat.le_of_ble_eq_true rfl) rfl ?_
  intro p e s m args below meth c A Q C hret
  have e81g : gp = M0.2.2 81 5 := (b01_e (P := TN M0 gp f) (by omega)).1.1.symm
  refine j_aload_n C 0 0 dX5_meet_0 rfl rfl ?_
  refine y_getC C 4 90 fX5_meet_15 rfl rfl ft_4_2 sm_4_2 rfl hM0 dX5_meet_1 ?_
  refine j_iload_n C 1 1 dX5_meet_4 rfl rfl ?_
  refine y_iconst C dX5_meet_5 ?_
  refine y_iastF C 39 256 rfl rfl rfl ak_39 an_39 rfl (sb_39 _) hM0 (PX.w hpr rfl rfl) dX5_meet_6 (by omega) (fun M102 eM102 hM102 => ?_)
  refine y_iconst C dX5_meet_7 ?_
  refine j_istore_n C 3 [(3, .int (sI 0)), (0, .ref (ad 88)), (1, .int (sI a1)), (2, .int (sI a2))] dX5_meet_8 rfl (by decide) rfl ?_
  have u103T := tn_g (M := M0) (N := M102) (p := gp) (f := f) (by omega) ((FX.rf.wI eM102 (by decide)) : FX [90] M0 M102) cgp (by decide)
  have L125 : ∀ (n123 : Nat), ∀ (a126 : Int) (M127 : mm_M), (0 ≤ a126 ∧ a126 ≤ 6 ∧ (b01 (TN M127 gp f) = 1) ∧ (6 - a126) < (n123 : Int)) → INV pr Kz M127 → FX [82, 85, 86, 89, 90] M0 M127 → jj p l e (cn_R 4) s m args below meth c 0 0 Q 5 dC dI ad cA A M127 9 [(0, .ref (ad 88)), (1, .int (sI a1)), (2, .int (sI a2)), (3, .int (sI a126))] [] := by
    intro n123
    induction n123 with
    | zero =>
      intro a126 M127 h128 hM127 fM127
      exfalso; omega
    | succ n123 ih124 =>
      intro a126 M127 h128 hM127 fM127
      have e81M127 : gp = M127.2.2 81 5 := (b01_e (P := TN M127 gp f) (by omega)).1.1.symm
      refine j_iload_n C 3 3 dX5_meet_9 rfl rfl ?_
      refine j_aload_n C 0 0 dX5_meet_10 rfl rfl ?_
      refine y_getV C 4 gp fX5_meet_52 rfl rfl ft_4_9 (s_pX fM127 (egp)) dX5_meet_11 ?_
      refine y_getI C 6 _ _ fX5_meet_92 cgp rfl ft_6_0 sb_6_0 hM127 dX5_meet_14 (fun a130 ea130 la130 ua130 => ?_)
      have qa130 : a130 = (M0.1 gp 0).toInt := s_fX fM127 (s_nin cgp (by decide)) (ea130)
      refine y_icmp_ge C 68 dX5_meet_17 (by decide) (by omega) (fun h132 => ?_) (fun h132 => ?_)
      · exact hret _ _ _ dX5_meet_68 ⟨hM127, (FX.rf.tr fM127 (by decide)), by omega⟩
      · refine j_aload_n C 0 0 dX5_meet_20 rfl rfl ?_
        refine y_getC C 4 81 fX5_meet_48 rfl rfl ft_4_0 sm_4_0 rfl hM127 dX5_meet_21 ?_
        refine j_iload_n C 3 3 dX5_meet_24 rfl rfl ?_
        refine j_iload_n C 1 1 dX5_meet_25 rfl rfl ?_
        refine j_iload_n C 2 2 dX5_meet_26 rfl rfl ?_
        have u133E := tn_e (M := M127) (p := gp) (f := f) (by omega)
        refine j_callVi C (d := 3) (As := [.int (sI a126), .int (sI a1), .int (sI a2)]) (st := []) 81 (s_lt rfl rfl) (s_kc (c := 3) rfl rfl) (by decide) rfl (s2_X4_choice hM127 hpr a126 (by omega) a1 (by omega) a2 (by omega) gp cgp (e81M127) (by omega) (by omega) (by omega) (by omega) (by omega) (by omega) (by omega) (by omega)) gX5_meet_X4_choice rfl hdX4_choice (by decide) (Nat.le_of_ble_eq_true rfl) dX5_meet_27 rfl (fun r134 M135 h136 => ?_)
        obtain ⟨a138, rfl, hM135, fM135, h137⟩ := h136
        refine j_istore C 4 [(4, .int (sI a138)), (0, .ref (ad 88)), (1, .int (sI a1)), (2, .int (sI a2)), (3, .int (sI a126))] dX5_meet_30 (by decide) rfl ?_
        refine j_aload_n C 1 0 dX5_meet_32 rfl rfl ?_
        refine y_getC C 4 89 fX5_meet_9 rfl rfl ft_4_1 sm_4_1 rfl hM135 dX5_meet_33 ?_
        refine j_iload_n C 2 1 dX5_meet_36 rfl rfl ?_
        refine y_bipush C dX5_meet_37 rfl ?_
        refine y_imul C dX5_meet_39 ?_
        refine j_iload_n C 4 3 dX5_meet_40 rfl rfl ?_
        refine y_iadd C dX5_meet_41 ?_
        refine j_iload C 0 dX5_meet_42 rfl ?_
        refine y_iast C 38 1536 _ _ rfl rfl rfl ak_38 an_38 rfl (sb_38 _) hM135 (PX.w hpr rfl rfl) dX5_meet_44 (by omega) (by omega) (fun M139 eM139 hM139 => ?_)
        refine j_iload C 0 dX5_meet_45 rfl ?_
        refine y_if_lt C 62 dX5_meet_47 (by decide) (by omega) (fun h140 => ?_) (fun h140 => ?_)
        · refine y_iinc C 4 [(3, .int (sI (a126 + 1))), (4, .int (sI a138)), (0, .ref (ad 88)), (1, .int (sI a1)), (2, .int (sI a2))] dX5_meet_62 rfl (by decide) rfl ?_
          refine j_goto C 9 dX5_meet_65 (by decide) ?_
          have u141T := tn_f (M := M127) (N := M135) (p := gp) (f := f) (by omega) fM135 (by decide) cgp (by omega)
          have u141U := tn_g (M := M135) (N := M139) (p := gp) (f := f) u141T ((FX.rf.wI eM139 (by decide)) : FX [89] M135 M139) cgp (by decide)
          refine j_lv [2, 3, 4, 0] rfl ?_; exact ih124 (a126 + 1) M139 (by omega) hM139 (((FX.rf.tr fM127 (by decide)).tr fM135 (by decide)).wI eM139 (by decide))
        · refine j_aload_n C 1 0 dX5_meet_50 rfl rfl ?_
          refine y_getC C 4 90 fX5_meet_15 rfl rfl ft_4_2 sm_4_2 rfl hM139 dX5_meet_51 ?_
          refine j_iload_n C 2 1 dX5_meet_54 rfl rfl ?_
          refine y_iconst C dX5_meet_55 ?_
          refine j_iload C 0 dX5_meet_56 rfl ?_
          refine y_shl1 C 7 128 dX5_meet_58 rfl (by decide) (by omega) (fun a142 la142 ua142 => ?_)
          refine y_iorN C 8 255 dX5_meet_59 rfl (by decide) (by omega) (fun a143 la143 ua143 => ?_)
          refine y_iconst C dX5_meet_60 ?_
          refine y_iastF C 39 256 rfl rfl rfl ak_39 an_39 rfl (sb_39 _) hM139 (PX.w hpr rfl rfl) dX5_meet_61 (by omega) (fun M144 eM144 hM144 => ?_)
          refine y_iinc C 4 [(3, .int (sI (a126 + 1))), (4, .int (sI a138)), (0, .ref (ad 88)), (1, .int (sI a1)), (2, .int (sI a2))] dX5_meet_62 rfl (by decide) rfl ?_
          refine j_goto C 9 dX5_meet_65 (by decide) ?_
          have u145T := tn_f (M := M127) (N := M135) (p := gp) (f := f) (by omega) fM135 (by decide) cgp (by omega)
          have u145U := tn_g (M := M135) (N := M144) (p := gp) (f := f) u145T (((FX.rf.wI eM139 (by decide)).wI eM144 (by decide)) : FX [89, 90] M135 M144) cgp (by decide)
          refine j_lv [2, 3, 4, 0] rfl ?_; exact ih124 (a126 + 1) M144 (by omega) hM144 ((((FX.rf.tr fM127 (by decide)).tr fM135 (by decide)).wI eM139 (by decide)).wI eM144 (by decide))
  refine j_lv [1, 2, 3, 0] rfl ?_; exact L125 2010 0 M102 (by omega) hM102 (FX.rf.wI eM102 (by decide))
