set_option maxHeartbeats 4000000 in
theorem s1_X12_feed {l : Launch} {dC : Nat → ClassId} {dI : Nat → Nat → Nat} {ad : Nat → Nat} {cA : Nat → ClassId} {pr : Nat → Nat → Bool} {Kz : mm_M} {M0 : mm_M} (hM0 : INV pr Kz M0) (hpr : PM pr) (hq47 : ∀ i k, s_c i = 47 → pr i k = false) (hq11_5 : ∀ i, s_c i = 11 → pr i 5 = false) (a1 : Int) (ha1 : -2147483648 ≤ a1 ∧ a1 ≤ 2147483647) (a2 : Int) (ha2 : -2147483648 ≤ a2 ∧ a2 ≤ 2147483647) (a3 : Int) (ha3 : -2147483648 ≤ a3 ∧ a3 ≤ 2147483647) (a4 : Int) (ha4 : -2147483648 ≤ a4 ∧ a4 ≤ 2147483647) (a5 : Int) (ha5 : -2147483648 ≤ a5 ∧ a5 ≤ 2147483647) (hp0 : b01 (PI M0) = 1) : Ci l 0 yX12_feed wsX12_feed dC dI ad cA [.ref (ad 98), .int (sI a1), .int (sI a2), .int (sI a3), .int (sI a4), .int (sI a5)] M0 (fun r M' => ∃ a : Int, r = sI a ∧ INV pr Kz M' ∧ FR [98, 101] M0 M' ∧ (-5) ≤ a ∧ a ≤ 900 ∧ ((M0.1 98 5).toInt ≤ 880 ∧ a = (M0.1 98 5).toInt + 20 ∧ (M'.1 98 5).toInt = a ∨ 880 < (M0.1 98 5).toInt ∧ a = -5 ∧ (M'.1 98 5).toInt = (M0.1 98 5).toInt) ∧ (b01 (FDM M0 M' a1 a2 a3 a4 a5) = 1) ∧ (b01 (PI M') = 1)) := by
  refine ci_of (cc := cX12_feed) (maxL := 8) (ty := .int) (lv := [(0, .ref (ad 98)), (1, .int (sI a1)), (2, .int (sI a2)), (3, .int (sI a3)), (4, .int (sI a4)), (5, .int (sI a5))]) (by decide) rfl (fun r M' hp => rfl) (Nat.le_of_ble_eq_true rfl) rfl ?_
  intro p e s m args below meth c A Q C hret
  refine j_aload_n C 0 0 dX12_feed_0 rfl rfl ?_
  refine y_iconst C dX12_feed_1 ?_
  refine y_putIF C 11 qX12_feed_1 rfl rfl ft_11_0 sb_11_0 hM0 (PM.w hpr rfl rfl) dX12_feed_2 (fun M101 eM101 hM101 => ?_)
  have pM101 := pi_o eM101 (by decide) (by decide) (by exact hp0)
  refine j_aload_n C 0 0 dX12_feed_5 rfl rfl ?_
  refine y_getI C 11 _ _ fX12_feed_80 rfl rfl ft_11_5 sb_11_5 hM101 dX12_feed_6 (fun a102 ea102 la102 ua102 => ?_)
  obtain rfl : a102 = (M0.1 98 5).toInt := s_fb eM101 (by decide) (ea102)
  refine y_bipush C dX12_feed_9 rfl ?_
  refine y_iadd C dX12_feed_11 ?_
  refine y_sipush C dX12_feed_12 rfl ?_
  refine y_icmp_le C 21 dX12_feed_15 (by decide) (by exact ⟨⟨(by (clear pM101 hM101 eM101 hret C hp0 ha5 ha4 ha3 ha2 ha1 hq11_5 hq47 hpr hM0; omega)), (by (clear pM101 hM101 eM101 hret C hp0 ha5 ha4 ha3 ha2 ha1 hq11_5 hq47 hpr hM0; omega))⟩, ⟨(by decide), (by decide)⟩⟩) (fun h104 => ?_) (fun h104 => ?_)
  · refine y_iconst C dX12_feed_21 ?_
    refine j_istore C 6 [(6, .int (sI 0)), (0, .ref (ad 98)), (1, .int (sI a1)), (2, .int (sI a2)), (3, .int (sI a3)), (4, .int (sI a4)), (5, .int (sI a5))] dX12_feed_22 (by decide) rfl ?_
    have u105z := fdm0 (M := M0) (N := M101) a1 a2 a3 a4 a5 (show M101.1 101 = M0.1 101 from (wI_cell eM101 (by decide))) (s_fb eM101 (by decide) rfl)
    have L385 : ∀ (n383 : Nat), ∀ (a386 : Int) (M387 : mm_M), (0 ≤ a386 ∧ a386 ≤ 20 ∧ ((M387.1 98 5).toInt = (M0.1 98 5).toInt + a386) ∧ ((M0.1 98 5).toInt ≤ 880) ∧ (b01 (FDM M0 M387 a1 a2 a3 a4 a5) = 1) ∧ (b01 (PI M387) = 1) ∧ (20 - a386) < (n383 : Int)) → INV pr Kz M387 → FR [98, 101] M0 M387 → jj p l e (cn_R 0) s m args below meth c 0 0 Q 8 dC dI ad cA A M387 24 [(0, .ref (ad 98)), (1, .int (sI a1)), (2, .int (sI a2)), (3, .int (sI a3)), (4, .int (sI a4)), (5, .int (sI a5)), (6, .int (sI a386))] [] := by
      intro n383
      induction n383 with
      | zero =>
        intro a386 M387 h388 hM387 fM387
        exfalso; omega
      | succ n383 ih384 =>
        intro a386 M387 h388 hM387 fM387
        refine j_iload C 6 dX12_feed_24 rfl ?_
        refine y_bipush C dX12_feed_26 rfl ?_
        refine y_icmp_ge C 121 dX12_feed_28 (by decide) (by exact ⟨⟨(by (clear fM387 hM387 ih384 u105z h104 ua102 la102 ea102 pM101 hM101 eM101 hret C hp0 ha5 ha4 ha3 ha2 ha1 hq11_5 hq47 hpr hM0; omega)), (by (clear fM387 hM387 ih384 u105z h104 ua102 la102 ea102 pM101 hM101 eM101 hret C hp0 ha5 ha4 ha3 ha2 ha1 hq11_5 hq47 hpr hM0; omega))⟩, ⟨(by decide), (by decide)⟩⟩) (fun h389 => ?_) (fun h389 => ?_)
        · refine j_aload_n C 0 0 dX12_feed_121 rfl rfl ?_
          refine y_getI C 11 _ _ fX12_feed_80 rfl rfl ft_11_5 sb_11_5 hM387 dX12_feed_122 (fun a412 ea412 la412 ua412 => ?_)
          obtain rfl : a412 = (M387.1 98 5).toInt := ea412
          exact hret _ _ _ _ dX12_feed_125 ⟨(M387.1 98 5).toInt, rfl, hM387, (FR.rf.tr fM387 (by decide)), by exact ⟨(by (clear ua412 la412 fM387 hM387 ih384 u105z pM101 hM101 eM101 hret C hp0 ha5 ha4 ha3 ha2 ha1 hq11_5 hq47 hpr hM0; omega)), ⟨ua412, ⟨(by (clear ua412 la412 fM387 hM387 ih384 u105z pM101 hM101 eM101 hret C hp0 ha5 ha4 ha3 ha2 ha1 hq11_5 hq47 hpr hM0; omega)), ⟨h388.2.2.2.2.1, h388.2.2.2.2.2.1⟩⟩⟩⟩⟩
        · refine j_iload C 6 dX12_feed_31 rfl ?_
          refine y_iconst C dX12_feed_33 ?_
          have J400 : ∀ (a399 : Int), ((-2147483648) ≤ a399 ∧ a399 ≤ 2147483647 ∧ (a399 = ar5 a1 a2 a3 a4 a5 (a386 / 4))) → jj p l e (cn_R 0) s m args below meth c 0 0 Q 8 dC dI ad cA A M387 77 [(0, .ref (ad 98)), (1, .int (sI a1)), (2, .int (sI a2)), (3, .int (sI a3)), (4, .int (sI a4)), (5, .int (sI a5)), (6, .int (sI a386))] [.int (sI a399)] := by
            intro a399 h401
            have u402a := ar_s a1 a2 a3 a4 a5 (a386 / 4)
            refine j_istore C 7 [(7, .int (sI a399)), (0, .ref (ad 98)), (1, .int (sI a1)), (2, .int (sI a2)), (3, .int (sI a3)), (4, .int (sI a4)), (5, .int (sI a5)), (6, .int (sI a386))] dX12_feed_77 (by decide) rfl ?_
            refine j_aload_n C 1 0 dX12_feed_79 rfl rfl ?_
            refine y_getC C 11 101 fX12_feed_21 rfl rfl ft_11_3 sm_11_3 rfl hM387 dX12_feed_80 ?_
            refine j_aload_n C 1 0 dX12_feed_83 rfl rfl ?_
            refine y_getI C 11 _ _ fX12_feed_80 rfl rfl ft_11_5 sb_11_5 hM387 dX12_feed_84 (fun a403 ea403 la403 ua403 => ?_)
            obtain rfl : a403 = (M387.1 98 5).toInt := ea403
            refine j_iload C 0 dX12_feed_87 rfl ?_
            refine y_bipush C dX12_feed_89 rfl ?_
            refine y_bipush C dX12_feed_91 rfl ?_
            refine j_iload C 7 dX12_feed_93 rfl ?_
            refine y_iconst C dX12_feed_95 ?_
            refine y_irem C dX12_feed_96 (by exact ⟨h388.1, ⟨(by (clear ua403 la403 u402a h401 fM387 hM387 ih384 u105z h104 ua102 la102 ea102 pM101 hM101 eM101 hret C hp0 ha5 ha4 ha3 ha2 ha1 hq11_5 hq47 hpr hM0; omega)), ⟨(by decide), (by decide)⟩⟩⟩) ?_
            refine y_imul C dX12_feed_97 ?_
            refine y_isub C dX12_feed_98 ?_
            refine e_ishr C dX12_feed_99 (fun lb405 ub405 => ?_)
            refine y_sipush C dX12_feed_100 rfl ?_
            refine e_iandR C dX12_feed_103 (by exact ⟨(by decide), (by decide)⟩) (fun lb406 ub406 => ?_)
            refine y_iast C 47 900 _ _ rfl rfl rfl ak_47 an_47 rfl (sb_47 _) hM387 (hq47 _ _ rfl) dX12_feed_104 (by exact ⟨la403, (by (clear ub406 lb406 ub405 lb405 u402a h401 fM387 hM387 ih384 u105z pM101 hM101 eM101 hret C hp0 ha5 ha4 ha3 ha2 ha1 hq11_5 hq47 hpr hM0; omega))⟩) (by exact ⟨⟨(by (clear ub405 lb405 ua403 la403 u402a h401 h389 fM387 hM387 h388 ih384 u105z h104 ua102 la102 ea102 pM101 hM101 eM101 hret C hp0 ha5 ha4 ha3 ha2 ha1 hq11_5 hq47 hpr hM0; omega)), (by (clear ub405 lb405 ua403 la403 u402a h401 h389 fM387 hM387 h388 ih384 u105z h104 ua102 la102 ea102 pM101 hM101 eM101 hret C hp0 ha5 ha4 ha3 ha2 ha1 hq11_5 hq47 hpr hM0; omega))⟩, ⟨lb406, ub406⟩⟩) (fun M407 eM407 hM407 => ?_)
            have pM407 := pi_o eM407 (by decide) (by decide) (by exact h388.2.2.2.2.2.1)
            refine j_aload_n C 1 0 dX12_feed_105 rfl rfl ?_
            refine j_dup C dX12_feed_106 rfl ?_
            refine y_getI C 11 _ _ fX12_feed_80 rfl rfl ft_11_5 sb_11_5 hM407 dX12_feed_107 (fun a408 ea408 la408 ua408 => ?_)
            obtain rfl : a408 = (M387.1 98 5).toInt := s_fa eM407 (by decide) (ea408)
            refine y_iconst C dX12_feed_110 ?_
            refine y_iadd C dX12_feed_111 ?_
            refine y_putI C 11 _ _ qX12_feed_80 rfl rfl ft_11_5 sb_11_5 hM407 (hq11_5 _ rfl) dX12_feed_112 (by (clear ua408 la408 pM407 hM407 eM407 ub406 lb406 ub405 lb405 u402a h401 fM387 hM387 ih384 u105z pM101 hM101 eM101 hret C hp0 ha5 ha4 ha3 ha2 ha1 hq11_5 hq47 hpr hM0; omega)) (fun M410 eM410 hM410 => ?_)
            have pM410 := pi_o eM410 (by decide) (by decide) (by exact pM407)
            refine y_iinc C 7 [(6, .int (sI (a386 + 1))), (7, .int (sI a399)), (0, .ref (ad 98)), (1, .int (sI a1)), (2, .int (sI a2)), (3, .int (sI a3)), (4, .int (sI a4)), (5, .int (sI a5))] dX12_feed_115 rfl (by decide) rfl ?_
            refine j_goto C 24 dX12_feed_118 (by decide) ?_
            have u411s := fdmt (M0 := M0) (M := M387) (a := a1) (b := a2) (c := a3) (d := a4) (e := a5) (q := a386) (w := a399) (by exact h388.2.2.2.2.1) eM407 eM410 (by omega) (by (clear pM410 hM410 eM410 ua408 la408 pM407 hM407 eM407 ub406 lb406 ub405 lb405 u402a h401 fM387 hM387 ih384 u105z h104 ua102 la102 pM101 hM101 eM101 hret C hp0 ha5 ha4 ha3 ha2 ha1 hq11_5 hq47 hpr hM0; omega)) ⟨rfl, by (clear pM410 hM410 eM410 ua408 la408 ea408 pM407 hM407 eM407 ub405 lb405 ua403 la403 u402a h401 h389 fM387 hM387 h388 ih384 u105z h104 ua102 la102 ea102 pM101 hM101 eM101 hret C hp0 ha5 ha4 ha3 ha2 ha1 hq11_5 hq47 hpr hM0; omega), by omega⟩ (by exact h401.2.2)
            have zz98_5 := (Eq.trans (rfl : (M410.1 98 5).toInt = (M410.1 98 5).toInt) (s_wr eM410 (by (clear u411s pM410 hM410 eM410 ua408 la408 pM407 hM407 eM407 ub406 lb406 ub405 lb405 u402a h401 h389 fM387 hM387 h388 ih384 u105z h104 ua102 la102 ea102 pM101 hM101 eM101 hret C hp0 ha5 ha4 ha3 ha2 ha1 hq11_5 hq47 hpr hM0; omega)))); refine j_lv [2, 3, 4, 5, 6, 7, 0] rfl ?_; exact ih384 (a386 + 1) M410 (by exact ⟨(by (clear hM410 eM410 ua408 la408 pM407 hM407 eM407 ub406 lb406 ub405 lb405 ua403 la403 u402a h401 fM387 hM387 ih384 u105z pM101 hM101 eM101 hret C hp0 ha5 ha4 ha3 ha2 ha1 hq11_5 hq47 hpr hM0; omega)), ⟨(by (clear hM410 eM410 ua408 la408 pM407 hM407 eM407 ub406 lb406 ub405 lb405 ua403 la403 u402a h401 fM387 hM387 ih384 u105z pM101 hM101 eM101 hret C hp0 ha5 ha4 ha3 ha2 ha1 hq11_5 hq47 hpr hM0; omega)), ⟨(by (clear hM410 eM410 ua408 la408 pM407 hM407 eM407 ub406 lb406 ub405 lb405 ua403 la403 u402a h401 fM387 hM387 ih384 u105z pM101 hM101 eM101 hret C hp0 ha5 ha4 ha3 ha2 ha1 hq11_5 hq47 hpr hM0; omega)), ⟨h388.2.2.2.1, ⟨u411s, ⟨pM410, (by (clear hM410 eM410 ua408 la408 pM407 hM407 eM407 ub406 lb406 ub405 lb405 ua403 la403 u402a h401 fM387 hM387 ih384 u105z pM101 hM101 eM101 hret C hp0 ha5 ha4 ha3 ha2 ha1 hq11_5 hq47 hpr hM0; omega))⟩⟩⟩⟩⟩⟩) hM410 (((FR.rf.tr fM387 (by decide)).wI eM407 (by decide)).wI eM410 (by decide))
          refine y_icmp_ge C 41 dX12_feed_34 (by decide) (by exact ⟨⟨(by (clear J400 fM387 hM387 ih384 u105z h104 ua102 la102 ea102 pM101 hM101 eM101 hret C hp0 ha5 ha4 ha3 ha2 ha1 hq11_5 hq47 hpr hM0; omega)), (by (clear J400 fM387 hM387 ih384 u105z h104 ua102 la102 ea102 pM101 hM101 eM101 hret C hp0 ha5 ha4 ha3 ha2 ha1 hq11_5 hq47 hpr hM0; omega))⟩, ⟨(by decide), (by decide)⟩⟩) (fun h390 => ?_) (fun h390 => ?_)
          · refine j_iload C 6 dX12_feed_41 rfl ?_
            refine y_bipush C dX12_feed_43 rfl ?_
            refine y_icmp_ge C 52 dX12_feed_45 (by decide) (by exact ⟨⟨(by (clear J400 fM387 hM387 ih384 u105z h104 ua102 la102 ea102 pM101 hM101 eM101 hret C hp0 ha5 ha4 ha3 ha2 ha1 hq11_5 hq47 hpr hM0; omega)), (by (clear J400 fM387 hM387 ih384 u105z h104 ua102 la102 ea102 pM101 hM101 eM101 hret C hp0 ha5 ha4 ha3 ha2 ha1 hq11_5 hq47 hpr hM0; omega))⟩, ⟨(by decide), (by decide)⟩⟩) (fun h391 => ?_) (fun h391 => ?_)
            · refine j_iload C 6 dX12_feed_52 rfl ?_
              refine y_bipush C dX12_feed_54 rfl ?_
              refine y_icmp_ge C 63 dX12_feed_56 (by decide) (by exact ⟨⟨(by (clear J400 fM387 hM387 ih384 u105z h104 ua102 la102 ea102 pM101 hM101 eM101 hret C hp0 ha5 ha4 ha3 ha2 ha1 hq11_5 hq47 hpr hM0; omega)), (by (clear J400 fM387 hM387 ih384 u105z h104 ua102 la102 ea102 pM101 hM101 eM101 hret C hp0 ha5 ha4 ha3 ha2 ha1 hq11_5 hq47 hpr hM0; omega))⟩, ⟨(by decide), (by decide)⟩⟩) (fun h392 => ?_) (fun h392 => ?_)
              · refine j_iload C 6 dX12_feed_63 rfl ?_
                refine y_bipush C dX12_feed_65 rfl ?_
                refine y_icmp_ge C 75 dX12_feed_67 (by decide) (by exact ⟨⟨(by (clear J400 fM387 hM387 ih384 u105z h104 ua102 la102 ea102 pM101 hM101 eM101 hret C hp0 ha5 ha4 ha3 ha2 ha1 hq11_5 hq47 hpr hM0; omega)), (by (clear J400 fM387 hM387 ih384 u105z h104 ua102 la102 ea102 pM101 hM101 eM101 hret C hp0 ha5 ha4 ha3 ha2 ha1 hq11_5 hq47 hpr hM0; omega))⟩, ⟨(by decide), (by decide)⟩⟩) (fun h393 => ?_) (fun h393 => ?_)
                · refine j_iload C 5 dX12_feed_75 rfl ?_
                  have u394a := ar_s a1 a2 a3 a4 a5 (a386 / 4)
                  exact J400 a5 (by exact ⟨ha5.1, ⟨ha5.2, (by (clear J400 fM387 hM387 ih384 u105z h104 ua102 la102 ea102 pM101 hM101 eM101 hret C hp0 ha4 ha3 ha2 ha1 hq11_5 hq47 hpr hM0; omega))⟩⟩)
                · refine j_iload C 4 dX12_feed_70 rfl ?_
                  refine j_goto C 77 dX12_feed_72 (by decide) ?_
                  have u395a := ar_s a1 a2 a3 a4 a5 (a386 / 4)
                  exact J400 a4 (by exact ⟨ha4.1, ⟨ha4.2, (by (clear J400 fM387 hM387 ih384 u105z h104 ua102 la102 ea102 pM101 hM101 eM101 hret C hp0 ha5 ha3 ha2 ha1 hq11_5 hq47 hpr hM0; omega))⟩⟩)
              · refine j_iload_n C 3 3 dX12_feed_59 rfl rfl ?_
                refine j_goto C 77 dX12_feed_60 (by decide) ?_
                have u396a := ar_s a1 a2 a3 a4 a5 (a386 / 4)
                exact J400 a3 (by exact ⟨ha3.1, ⟨ha3.2, (by (clear J400 fM387 hM387 ih384 u105z h104 ua102 la102 ea102 pM101 hM101 eM101 hret C hp0 ha5 ha4 ha2 ha1 hq11_5 hq47 hpr hM0; omega))⟩⟩)
            · refine j_iload_n C 2 2 dX12_feed_48 rfl rfl ?_
              refine j_goto C 77 dX12_feed_49 (by decide) ?_
              have u397a := ar_s a1 a2 a3 a4 a5 (a386 / 4)
              exact J400 a2 (by exact ⟨ha2.1, ⟨ha2.2, (by (clear J400 fM387 hM387 ih384 u105z h104 ua102 la102 ea102 pM101 hM101 eM101 hret C hp0 ha5 ha4 ha3 ha1 hq11_5 hq47 hpr hM0; omega))⟩⟩)
          · refine j_iload_n C 1 1 dX12_feed_37 rfl rfl ?_
            refine j_goto C 77 dX12_feed_38 (by decide) ?_
            have u398a := ar_s a1 a2 a3 a4 a5 (a386 / 4)
            exact J400 a1 (by exact ⟨ha1.1, ⟨ha1.2, (by (clear J400 fM387 hM387 ih384 u105z h104 ua102 la102 ea102 pM101 hM101 eM101 hret C hp0 ha5 ha4 ha3 ha2 hq11_5 hq47 hpr hM0; omega))⟩⟩)
    have zz98_5 : (M101.1 98 5).toInt = (M0.1 98 5).toInt := s_fb eM101 (by decide) (rfl); refine j_lv [1, 2, 3, 4, 5, 6, 0] rfl ?_; exact L385 2010 0 M101 (by exact ⟨(by decide), ⟨(by decide), ⟨(by (clear zz98_5 L385 hM101 eM101 hret C hp0 ha5 ha4 ha3 ha2 ha1 hq11_5 hq47 hpr hM0; omega)), ⟨(by (clear zz98_5 L385 hM101 eM101 hret C hp0 ha5 ha4 ha3 ha2 ha1 hq11_5 hq47 hpr hM0; omega)), ⟨u105z, ⟨pM101, (by decide)⟩⟩⟩⟩⟩⟩) hM101 (FR.rf.wI eM101 (by decide))
  · refine y_bipush C dX12_feed_18 rfl ?_
    have u414z := fdm0 (M := M0) (N := M101) a1 a2 a3 a4 a5 (show M101.1 101 = M0.1 101 from (wI_cell eM101 (by decide))) (s_fb eM101 (by decide) rfl)
    have zz98_5 : (M101.1 98 5).toInt = (M0.1 98 5).toInt := s_fb eM101 (by decide) (rfl); exact hret _ _ _ _ dX12_feed_20 ⟨(-5), rfl, hM101, (FR.rf.wI eM101 (by decide)), by exact ⟨(by decide), ⟨(by decide), ⟨(by (clear zz98_5 hM101 eM101 hret C hp0 ha5 ha4 ha3 ha2 ha1 hq11_5 hq47 hpr hM0; omega)), ⟨u414z, pM101⟩⟩⟩⟩⟩
set_option maxHeartbeats 4000000 in
theorem s1_X12_fault {l : Launch} {dC : Nat → ClassId} {dI : Nat → Nat → Nat} {ad : Nat → Nat} {cA : Nat → ClassId} {pr : Nat → Nat → Bool} {Kz : mm_M} {M0 : mm_M} (hM0 : INV pr Kz M0) (hpr : PM pr) (a1 : Int) (ha1 : -2147483648 ≤ a1 ∧ a1 ≤ 2147483647) (hp0 : b01 (PI M0) = 1) : Ci l 0 yX12_fault wsX12_fault dC dI ad cA [.ref (ad 98), .int (sI a1)] M0 (fun r M' => ∃ a : Int, r = sI a ∧ INV pr Kz M' ∧ FR [98] M0 M' ∧ (-2147483648) ≤ a ∧ a ≤ 2147483647 ∧ (a1 = 0 ∧ a = (M0.1 98 13).toInt ∨ a1 = 1 ∧ a = (M0.1 98 14).toInt ∨ ¬ a1 = 0 ∧ ¬ a1 = 1 ∧ a = -1) ∧ (b01 (PI M') = 1)) := by
  refine ci_of (cc := cX12_fault) (maxL := 2) (ty := .int) (lv := [(0, .ref (ad 98)), (1, .int (sI a1))]) (by decide) rfl (fun r M' hp => rfl) (Nat.le_of_ble_eq_true rfl) rfl ?_
  intro p e s m args below meth c A Q C hret
  refine j_aload_n C 0 0 dX12_fault_0 rfl rfl ?_
  refine y_iconst C dX12_fault_1 ?_
  refine y_putIF C 11 qX12_fault_1 rfl rfl ft_11_0 sb_11_0 hM0 (PM.w hpr rfl rfl) dX12_fault_2 (fun M101 eM101 hM101 => ?_)
  have pM101 := pi_o eM101 (by decide) (by decide) (by exact hp0)
  refine j_iload_n C 1 1 dX12_fault_5 rfl rfl ?_
  refine y_if_ne C 16 dX12_fault_6 (by decide) (by exact ⟨ha1.1, ha1.2⟩) (fun h102 => ?_) (fun h102 => ?_)
  · refine j_iload_n C 1 1 dX12_fault_16 rfl rfl ?_
    refine y_iconst C dX12_fault_17 ?_
    refine y_icmp_ne C 28 dX12_fault_18 (by decide) (by exact ⟨⟨ha1.1, ha1.2⟩, ⟨(by decide), (by decide)⟩⟩) (fun h103 => ?_) (fun h103 => ?_)
    · refine y_iconst C dX12_fault_28 ?_
      exact hret _ _ _ _ dX12_fault_29 ⟨(-1), rfl, hM101, (FR.rf.wI eM101 (by decide)), by exact ⟨(by decide), ⟨(by decide), ⟨(by (clear hM101 eM101 hret C hp0 ha1 hpr hM0; omega)), pM101⟩⟩⟩⟩
    · refine j_aload_n C 0 0 dX12_fault_21 rfl rfl ?_
      refine y_getI C 11 _ _ fX12_fault_27 rfl rfl ft_11_14 sb_11_14 hM101 dX12_fault_22 (fun a104 ea104 la104 ua104 => ?_)
      obtain rfl : a104 = (M0.1 98 14).toInt := s_fb eM101 (by decide) (ea104)
      refine j_goto C 29 dX12_fault_25 (by decide) ?_
      exact hret _ _ _ _ dX12_fault_29 ⟨(M0.1 98 14).toInt, rfl, hM101, (FR.rf.wI eM101 (by decide)), by exact ⟨la104, ⟨ua104, ⟨(by (clear h102 hM101 eM101 hret C hp0 ha1 hpr hM0; omega)), pM101⟩⟩⟩⟩
  · refine j_aload_n C 0 0 dX12_fault_9 rfl rfl ?_
    refine y_getI C 11 _ _ fX12_fault_201 rfl rfl ft_11_13 sb_11_13 hM101 dX12_fault_10 (fun a106 ea106 la106 ua106 => ?_)
    obtain rfl : a106 = (M0.1 98 13).toInt := s_fb eM101 (by decide) (ea106)
    refine j_goto C 29 dX12_fault_13 (by decide) ?_
    exact hret _ _ _ _ dX12_fault_29 ⟨(M0.1 98 13).toInt, rfl, hM101, (FR.rf.wI eM101 (by decide)), by exact ⟨la106, ⟨ua106, ⟨(by (clear hM101 eM101 hret C hp0 ha1 hpr hM0; omega)), pM101⟩⟩⟩⟩
set_option maxHeartbeats 4000000 in
theorem s1_X12_within {l : Launch} {dC : Nat → ClassId} {dI : Nat → Nat → Nat} {ad : Nat → Nat} {cA : Nat → ClassId} {pr : Nat → Nat → Bool} {Kz : mm_M} {M0 : mm_M} (hM0 : INV pr Kz M0) (a0 : Int) (ha0 : -9223372036854775808 ≤ a0 ∧ a0 ≤ 9223372036854775807) (a2 : Int) (ha2 : -9223372036854775808 ≤ a2 ∧ a2 ≤ 9223372036854775807) (a4 : Int) (ha4 : -9223372036854775808 ≤ a4 ∧ a4 ≤ 9223372036854775807) : Ci l 0 yX12_within wsX12_within dC dI ad cA [.long (sJ a0), .long (sJ a2), .long (sJ a4)] M0 (fun r M' => ∃ a : Int, r = sI a ∧ M0 = M' ∧ 0 ≤ a ∧ a ≤ 1 ∧ ((a0 < a2 ∧ a = 0) ∨ (a2 ≤ a0 ∧ a4 < a0 ∧ a = 0) ∨ (a2 ≤ a0 ∧ a0 ≤ a4 ∧ a = 1))) := by
  refine ci_of (cc := cX12_within) (maxL := 6) (ty := .boolean) (lv := [(0, .long (sJ a0)), (2, .long (sJ a2)), (4, .long (sJ a4))]) (by decide) rfl (fun r M' hp => by obtain ⟨a, rfl, -, h⟩ := hp; rcases (show a = 0 ∨ a = 1 by omega) with rfl | rfl <;> rfl) (Nat.le_of_ble_eq_true rfl) rfl ?_
  intro p e s m args below meth c A Q C hret
  refine j_lload_n C 0 0 dX12_within_0 rfl rfl ?_
  refine j_lload_n C 1 2 dX12_within_1 rfl rfl ?_
  refine y_lcmp_lt C 17 dX12_within_2 dX12_within_3 (by decide) (by exact ⟨⟨ha0.1, ha0.2⟩, ⟨ha2.1, ha2.2⟩⟩) (fun h101 => ?_) (fun h101 => ?_)
  · refine y_iconst C dX12_within_17 ?_
    exact hret _ _ _ _ dX12_within_18 ⟨0, rfl, rfl, by exact ⟨(by decide), ⟨(by decide), (by (clear hret C ha4 ha2 ha0 hM0; omega))⟩⟩⟩
  · refine j_lload_n C 0 0 dX12_within_6 rfl rfl ?_
    refine j_lload C 2 dX12_within_7 rfl ?_
    refine y_lcmp_gt C 17 dX12_within_9 dX12_within_10 (by decide) (by exact ⟨⟨ha0.1, ha0.2⟩, ⟨ha4.1, ha4.2⟩⟩) (fun h102 => ?_) (fun h102 => ?_)
    · refine y_iconst C dX12_within_17 ?_
      exact hret _ _ _ _ dX12_within_18 ⟨0, rfl, rfl, by exact ⟨(by decide), ⟨(by decide), (by (clear hret C ha4 ha2 ha0 hM0; omega))⟩⟩⟩
    · refine y_iconst C dX12_within_13 ?_
      refine j_goto C 18 dX12_within_14 (by decide) ?_
      exact hret _ _ _ _ dX12_within_18 ⟨1, rfl, rfl, by exact ⟨(by decide), ⟨(by decide), (by omega)⟩⟩⟩
set_option maxHeartbeats 4000000 in
theorem s1_X12_isKind {l : Launch} {dC : Nat → ClassId} {dI : Nat → Nat → Nat} {ad : Nat → Nat} {cA : Nat → ClassId} {pr : Nat → Nat → Bool} {Kz : mm_M} {M0 : mm_M} (hM0 : INV pr Kz M0) (a1 : Int) (ha1 : -9223372036854775808 ≤ a1 ∧ a1 ≤ 9223372036854775807) : Ci l 1 yX12_isKind wsX12_isKind dC dI ad cA [.ref (ad 98), .long (sJ a1)] M0 (fun r M' => ∃ a : Int, r = sI a ∧ M0 = M' ∧ 0 ≤ a ∧ a ≤ 1 ∧ ((a1 < 0 ∧ 0 ≤ a ∧ a ≤ 0) ∨ (0 ≤ (M0.1 99 26).toInt ∧ (M0.1 99 26).toInt ≤ 8 ∧ 0 ≤ a1 ∧ ((M0.1 99 26).toInt - 1) < a1 ∧ 0 ≤ a ∧ a ≤ 0) ∨ (0 ≤ (M0.1 99 26).toInt ∧ (M0.1 99 26).toInt ≤ 8 ∧ 0 ≤ a1 ∧ a1 ≤ ((M0.1 99 26).toInt - 1) ∧ 1 ≤ a ∧ a ≤ 1))) := by
  refine ci_of (cc := cX12_isKind) (maxL := 3) (ty := .boolean) (lv := [(0, .ref (ad 98)), (1, .long (sJ a1))]) (by decide) rfl (fun r M' hp => by obtain ⟨a, rfl, -, h⟩ := hp; rcases (show a = 0 ∨ a = 1 by omega) with rfl | rfl <;> rfl) (Nat.le_of_ble_eq_true rfl) rfl ?_
  intro p e s m args below meth c A Q C hret
  refine j_lload_n C 1 1 dX12_isKind_0 rfl rfl ?_
  refine y_lconst C 0 dX12_isKind_1 rfl ?_
  refine j_aload_n C 0 0 dX12_isKind_2 rfl rfl ?_
  refine y_getC C 11 99 fX12_isKind_13 rfl rfl ft_11_1 sm_11_1 rfl hM0 dX12_isKind_3 ?_
  refine y_bipush C dX12_isKind_6 rfl ?_
  refine y_ialdH C 45 3543 rfl rfl rfl ak_45 an_45 rfl _ _ hM0 (hr_45_26_26 _ (by exact (by decide)) (by exact (by decide))) dX12_isKind_8 (by exact ⟨(by decide), (by decide)⟩) (fun a101 ea101 la101 ua101 => ?_)
  obtain rfl : a101 = (M0.1 99 26).toInt := ea101
  refine y_iconst C dX12_isKind_9 ?_
  refine y_isub C dX12_isKind_10 ?_
  refine y_i2l C dX12_isKind_11 (by omega) ?_
  refine j_callSi C (d := 0) (As := [.long (sJ a1), .long (sJ 0), .long (sJ ((M0.1 99 26).toInt - 1))]) (st := []) (s1_X12_within hM0 a1 (by exact ⟨ha1.1, ha1.2⟩) 0 (by exact ⟨(by decide), (by decide)⟩) ((M0.1 99 26).toInt - 1) (by omega)) gX12_isKind_X12_within rfl hdX12_withins (by decide) (Nat.le_of_ble_eq_true rfl) dX12_isKind_12 rfl (fun r102 M103 h104 => ?_)
  obtain ⟨a106, rfl, rfl, h105⟩ := h104
  exact hret _ _ _ _ dX12_isKind_15 ⟨a106, rfl, rfl, by exact ⟨h105.1, ⟨h105.2.1, (by omega)⟩⟩⟩
set_option maxHeartbeats 4000000 in
theorem s1_X12_everyKind {l : Launch} {dC : Nat → ClassId} {dI : Nat → Nat → Nat} {ad : Nat → Nat} {cA : Nat → ClassId} {pr : Nat → Nat → Bool} {Kz : mm_M} {M0 : mm_M} (hM0 : INV pr Kz M0)  : Ci l 0 yX12_everyKind wsX12_everyKind dC dI ad cA [.ref (ad 98)] M0 (fun r M' => ∃ a : Int, r = sI a ∧ M0 = M' ∧ 0 ≤ a ∧ a ≤ 255 ∧ (a = (evF (M0.1 99)))) := by
  refine ci_of (cc := cX12_everyKind) (maxL := 1) (ty := .int) (lv := [(0, .ref (ad 98))]) (by decide) rfl (fun r M' hp => rfl) (Nat.le_of_ble_eq_true rfl) rfl ?_
  intro p e s m args below meth c A Q C hret
  refine y_iconst C dX12_everyKind_0 ?_
  refine j_aload_n C 0 0 dX12_everyKind_1 rfl rfl ?_
  refine y_getC C 11 99 fX12_everyKind_13 rfl rfl ft_11_1 sm_11_1 rfl hM0 dX12_everyKind_2 ?_
  refine y_bipush C dX12_everyKind_5 rfl ?_
  refine y_ialdH C 45 3543 rfl rfl rfl ak_45 an_45 rfl _ _ hM0 (hr_45_26_26 _ (by exact (by decide)) (by exact (by decide))) dX12_everyKind_7 (by exact ⟨(by decide), (by decide)⟩) (fun a101 ea101 la101 ua101 => ?_)
  obtain rfl : a101 = (M0.1 99 26).toInt := ea101
  refine e_shl1 C 8 256 dX12_everyKind_8 rfl (by decide) (by exact ⟨la101, (by omega)⟩) (fun lb102 ub102 => ?_)
  refine y_iconst C dX12_everyKind_9 ?_
  refine y_isub C dX12_everyKind_10 ?_
  have u103 : evF (M0.1 99) = pw2 (M0.1 99 26).toInt - 1 := rfl
  exact hret _ _ _ _ dX12_everyKind_11 ⟨((pw2 (M0.1 99 26).toInt) - 1), rfl, rfl, by exact ⟨(by (clear ua101 la101 hret C hM0; omega)), ⟨(by (clear ua101 la101 hret C hM0; omega)), u103.symm⟩⟩⟩
set_option maxHeartbeats 4000000 in
theorem s1_X12_shown {l : Launch} {dC : Nat → ClassId} {dI : Nat → Nat → Nat} {ad : Nat → Nat} {cA : Nat → ClassId} {pr : Nat → Nat → Bool} {Kz : mm_M} {M0 : mm_M} (hM0 : INV pr Kz M0)  : Ci l 1 yX12_shown wsX12_shown dC dI ad cA [.ref (ad 98)] M0 (fun r M' => ∃ a : Int, r = sI a ∧ M0 = M' ∧ 0 ≤ a ∧ a ≤ 255 ∧ (a = (snF (M0.1 99)))) := by
  refine ci_of (cc := cX12_shown) (maxL := 1) (ty := .int) (lv := [(0, .ref (ad 98))]) (by decide) rfl (fun r M' hp => rfl) (Nat.le_of_ble_eq_true rfl) rfl ?_
  intro p e s m args below meth c A Q C hret
  refine j_aload_n C 0 0 dX12_shown_0 rfl rfl ?_
  refine j_callVi C (d := 0) (As := []) (st := []) 98 (s_lt rfl rfl) (s_kc (c := 11) rfl rfl) (by decide) rfl (s1_X12_everyKind hM0) gX12_shown_X12_everyKind rfl hdX12_everyKind (by decide) (Nat.le_of_ble_eq_true rfl) dX12_shown_1 rfl (fun r101 M102 h103 => ?_)
  obtain ⟨a105, rfl, rfl, h104⟩ := h103
  obtain rfl : a105 = (evF (M0.1 99)) := by exact h104.2.2
  refine j_aload_n C 0 0 dX12_shown_4 rfl rfl ?_
  refine y_getC C 11 99 fX12_shown_13 rfl rfl ft_11_1 sm_11_1 rfl hM0 dX12_shown_5 ?_
  refine y_bipush C dX12_shown_8 rfl ?_
  refine y_ialdH C 45 3543 rfl rfl rfl ak_45 an_45 rfl _ _ hM0 (hr_45_28_28 _ (by exact (by decide)) (by exact (by decide))) dX12_shown_10 (by exact ⟨(by decide), (by decide)⟩) (fun a106 ea106 la106 ua106 => ?_)
  obtain rfl : a106 = (M0.1 99 28).toInt := ea106
  refine y_iconst C dX12_shown_11 ?_
  refine y_not C dX12_shown_12 ?_
  refine e_iandL C dX12_shown_13 (by exact ⟨h104.1, (by omega)⟩) (fun lb107 ub107 => ?_)
  have u108 : snF (M0.1 99) = andI (evF (M0.1 99)) (-1 - (M0.1 99 28).toInt) := rfl
  exact hret _ _ _ _ dX12_shown_14 ⟨(andI (evF (M0.1 99)) ((-1) - (M0.1 99 28).toInt)), rfl, rfl, by exact ⟨lb107, ⟨(by (clear ua106 la106 hret C hM0; omega)), u108.symm⟩⟩⟩
set_option maxHeartbeats 4000000 in
theorem s1_X12_isShutBy {l : Launch} {dC : Nat → ClassId} {dI : Nat → Nat → Nat} {ad : Nat → Nat} {cA : Nat → ClassId} {pr : Nat → Nat → Bool} {Kz : mm_M} {M0 : mm_M} (hM0 : INV pr Kz M0) (a1 : Int) (ha1 : -2147483648 ≤ a1 ∧ a1 ≤ 2147483647) : Ci l 2 yX12_isShutBy wsX12_isShutBy dC dI ad cA [.ref (ad 98), .int (sI a1)] M0 (fun r M' => ∃ a : Int, r = sI a ∧ M0 = M' ∧ 0 ≤ a ∧ a ≤ 1 ∧ (a = (shF (M0.1 99) a1))) := by
  refine ci_of (cc := cX12_isShutBy) (maxL := 2) (ty := .boolean) (lv := [(0, .ref (ad 98)), (1, .int (sI a1))]) (by decide) rfl (fun r M' hp => by obtain ⟨a, rfl, -, h⟩ := hp; rcases (show a = 0 ∨ a = 1 by omega) with rfl | rfl <;> rfl) (Nat.le_of_ble_eq_true rfl) rfl ?_
  intro p e s m args below meth c A Q C hret
  refine j_aload_n C 0 0 dX12_isShutBy_0 rfl rfl ?_
  refine j_callVi C (d := 1) (As := []) (st := []) 98 (s_lt rfl rfl) (s_kc (c := 11) rfl rfl) (by decide) rfl (s1_X12_shown hM0) gX12_isShutBy_X12_shown rfl hdX12_shown (by decide) (Nat.le_of_ble_eq_true rfl) dX12_isShutBy_1 rfl (fun r101 M102 h103 => ?_)
  obtain ⟨a105, rfl, rfl, h104⟩ := h103
  obtain rfl : a105 = (snF (M0.1 99)) := by exact h104.2.2
  refine j_iload_n C 1 1 dX12_isShutBy_4 rfl rfl ?_
  refine y_iconst C dX12_isShutBy_5 ?_
  refine y_not C dX12_isShutBy_6 ?_
  refine e_iandL C dX12_isShutBy_7 (by exact ⟨h104.1, (by omega)⟩) (fun lb106 ub106 => ?_)
  refine y_if_ne C 15 dX12_isShutBy_8 (by decide) (by (clear hret C ha1 hM0; omega)) (fun h107 => ?_) (fun h107 => ?_)
  · refine y_iconst C dX12_isShutBy_15 ?_
    have u108 := shF_s (M0.1 99) a1
    exact hret _ _ _ _ dX12_isShutBy_16 ⟨0, rfl, rfl, by exact ⟨(by decide), ⟨(by decide), (by (clear ub106 lb106 h104 hret C ha1 hM0; omega))⟩⟩⟩
  · refine y_iconst C dX12_isShutBy_11 ?_
    refine j_goto C 16 dX12_isShutBy_12 (by decide) ?_
    have u109 := shF_s (M0.1 99) a1
    exact hret _ _ _ _ dX12_isShutBy_16 ⟨1, rfl, rfl, by exact ⟨(by decide), ⟨(by decide), (by (clear ub106 lb106 h104 hret C ha1 hM0; omega))⟩⟩⟩
set_option maxHeartbeats 4000000 in
theorem s1_X12_isIn {l : Launch} {dC : Nat → ClassId} {dI : Nat → Nat → Nat} {ad : Nat → Nat} {cA : Nat → ClassId} {pr : Nat → Nat → Bool} {Kz : mm_M} {M0 : mm_M} (hM0 : INV pr Kz M0) (a0 : Int) (ha0 : -9223372036854775808 ≤ a0 ∧ a0 ≤ 9223372036854775807) (a2 : Int) (ha2 : -2147483648 ≤ a2 ∧ a2 ≤ 2147483647) : Ci l 0 yX12_isIn wsX12_isIn dC dI ad cA [.long (sJ a0), .int (sI a2)] M0 (fun r M' => ∃ a : Int, r = sI a ∧ M0 = M' ∧ 0 ≤ a ∧ a ≤ 1 ∧ (a = (iiF a0 a2))) := by
  refine ci_of (cc := cX12_isIn) (maxL := 3) (ty := .boolean) (lv := [(0, .long (sJ a0)), (2, .int (sI a2))]) (by decide) rfl (fun r M' hp => by obtain ⟨a, rfl, -, h⟩ := hp; rcases (show a = 0 ∨ a = 1 by omega) with rfl | rfl <;> rfl) (Nat.le_of_ble_eq_true rfl) rfl ?_
  intro p e s m args below meth c A Q C hret
  refine j_lload_n C 0 0 dX12_isIn_0 rfl rfl ?_
  refine j_iload_n C 1 2 dX12_isIn_1 rfl rfl ?_
  refine e_lshr C dX12_isIn_2 (fun lb101 ub101 => ?_)
  refine y_lconst C 1 dX12_isIn_3 rfl ?_
  refine e_land C dX12_isIn_4 (fun lb102 ub102 => ?_)
  refine y_lconst C 1 dX12_isIn_5 rfl ?_
  refine y_lcmp_ne C 14 dX12_isIn_6 dX12_isIn_7 (by decide) (by exact ⟨⟨lb102, ub102⟩, ⟨(by decide), (by decide)⟩⟩) (fun h103 => ?_) (fun h103 => ?_)
  · refine y_iconst C dX12_isIn_14 ?_
    have u104 := iiF_s a0 a2
    exact hret _ _ _ _ dX12_isIn_15 ⟨0, rfl, rfl, by exact ⟨(by decide), ⟨(by decide), (by (clear ub102 lb102 ub101 lb101 hret C ha2 ha0 hM0; omega))⟩⟩⟩
  · refine y_iconst C dX12_isIn_10 ?_
    refine j_goto C 15 dX12_isIn_11 (by decide) ?_
    have u105 := iiF_s a0 a2
    exact hret _ _ _ _ dX12_isIn_15 ⟨1, rfl, rfl, by exact ⟨(by decide), ⟨(by decide), (by (clear ub102 lb102 ub101 lb101 hret C ha2 ha0 hM0; omega))⟩⟩⟩
set_option maxHeartbeats 4000000 in
theorem s1_X12_bitsOf {l : Launch} {dC : Nat → ClassId} {dI : Nat → Nat → Nat} {ad : Nat → Nat} {cA : Nat → ClassId} {pr : Nat → Nat → Bool} {Kz : mm_M} {M0 : mm_M} (hM0 : INV pr Kz M0) (a0 : Int) (ha0 : -2147483648 ≤ a0 ∧ a0 ≤ 2147483647) : Ci l 0 yX12_bitsOf wsX12_bitsOf dC dI ad cA [.int (sI a0)] M0 (fun r M' => ∃ a : Int, r = sI a ∧ M0 = M' ∧ 0 ≤ a ∧ a ≤ 8 ∧ (a = (bsF a0 (8 : Int).toNat))) := by
  refine ci_of (cc := cX12_bitsOf) (maxL := 3) (ty := .int) (lv := [(0, .int (sI a0))]) (by decide) rfl (fun r M' hp => rfl) (Nat.le_of_ble_eq_true rfl) rfl ?_
  intro p e s m args below meth c A Q C hret
  refine y_iconst C dX12_bitsOf_0 ?_
  refine j_istore_n C 1 [(1, .int (sI 0)), (0, .int (sI a0))] dX12_bitsOf_1 rfl (by decide) rfl ?_
  have u101 : bsF a0 (0 : Int).toNat = 0 := rfl
  refine y_iconst C dX12_bitsOf_2 ?_
  refine j_istore_n C 2 [(2, .int (sI 0)), (1, .int (sI 0)), (0, .int (sI a0))] dX12_bitsOf_3 rfl (by decide) rfl ?_
  have L110 : ∀ (n108 : Nat), ∀ (a111 : Int) (a112 : Int), (0 ≤ a111 ∧ a111 ≤ 8 ∧ 0 ≤ a112 ∧ a112 ≤ 8 ∧ (a111 = bsF a0 (a112).toNat) ∧ (a111 ≤ a112) ∧ (8 - a112) < (n108 : Int)) → jj p l e (cn_R 0) s m args below meth c 0 0 Q 3 dC dI ad cA A M0 4 [(0, .int (sI a0)), (1, .int (sI a111)), (2, .int (sI a112))] [] := by
    intro n108
    induction n108 with
    | zero =>
      intro a111 a112 h113
      exfalso; omega
    | succ n108 ih109 =>
      intro a111 a112 h113
      refine j_iload_n C 2 2 dX12_bitsOf_4 rfl rfl ?_
      refine y_bipush C dX12_bitsOf_5 rfl ?_
      refine y_icmp_ge C 24 dX12_bitsOf_7 (by decide) (by exact ⟨⟨(by omega), (by omega)⟩, ⟨(by decide), (by decide)⟩⟩) (fun h114 => ?_) (fun h114 => ?_)
      · obtain rfl : a112 = 8 := by omega
        refine j_iload_n C 1 1 dX12_bitsOf_24 rfl rfl ?_
        exact hret _ _ _ _ dX12_bitsOf_25 ⟨a111, rfl, rfl, by exact ⟨h113.1, ⟨h113.2.1, h113.2.2.2.2.1⟩⟩⟩
      · refine j_iload_n C 1 1 dX12_bitsOf_10 rfl rfl ?_
        refine j_iload_n C 0 0 dX12_bitsOf_11 rfl rfl ?_
        refine j_iload_n C 2 2 dX12_bitsOf_12 rfl rfl ?_
        refine e_ishr C dX12_bitsOf_13 (fun lb115 ub115 => ?_)
        refine y_iconst C dX12_bitsOf_14 ?_
        refine e_iandR C dX12_bitsOf_15 (by exact ⟨(by decide), (by decide)⟩) (fun lb116 ub116 => ?_)
        refine y_iadd C dX12_bitsOf_16 ?_
        refine j_istore_n C 1 [(1, .int (sI (a111 + (andI (shrI a0 a112) 1)))), (0, .int (sI a0)), (2, .int (sI a112))] dX12_bitsOf_17 rfl (by decide) rfl ?_
        have u117 := bsF_s a0 a112 (by exact h113.2.2.1)
        refine y_iinc C 2 [(2, .int (sI (a112 + 1))), (1, .int (sI (a111 + (andI (shrI a0 a112) 1)))), (0, .int (sI a0))] dX12_bitsOf_18 rfl (by decide) rfl ?_
        refine j_goto C 4 dX12_bitsOf_21 (by decide) ?_
        refine j_lv [2, 1, 0] rfl ?_; exact ih109 (a111 + (andI (shrI a0 a112) 1)) (a112 + 1) (by (clear ub115 lb115 ih109 u101 hret C ha0 hM0; omega))
  refine j_lv [2, 1, 0] rfl ?_; exact L110 2010 0 0 (by exact ⟨(by decide), ⟨(by decide), ⟨(by decide), ⟨(by decide), ⟨u101.symm, ⟨(by decide), (by decide)⟩⟩⟩⟩⟩⟩)
set_option maxHeartbeats 4000000 in
theorem s1_X12_between {l : Launch} {dC : Nat → ClassId} {dI : Nat → Nat → Nat} {ad : Nat → Nat} {cA : Nat → ClassId} {pr : Nat → Nat → Bool} {Kz : mm_M} {M0 : mm_M} (hM0 : INV pr Kz M0) (a0 : Int) (ha0 : -2147483648 ≤ a0 ∧ a0 ≤ 2147483647) (a1 : Int) (ha1 : -2147483648 ≤ a1 ∧ a1 ≤ 2147483647) (a2 : Int) (ha2 : -2147483648 ≤ a2 ∧ a2 ≤ 2147483647) : Ci l 0 yX12_between wsX12_between dC dI ad cA [.int (sI a0), .int (sI a1), .int (sI a2)] M0 (fun r M' => ∃ a : Int, r = sI a ∧ M0 = M' ∧ (-2147483648) ≤ a ∧ a ≤ 2147483647 ∧ (a = (btF a0 a1 a2))) := by
  refine ci_of (cc := cX12_between) (maxL := 5) (ty := .int) (lv := [(0, .int (sI a0)), (1, .int (sI a1)), (2, .int (sI a2))]) (by decide) rfl (fun r M' hp => rfl) (Nat.le_of_ble_eq_true rfl) rfl ?_
  intro p e s m args below meth c A Q C hret
  refine j_iload_n C 0 0 dX12_between_0 rfl rfl ?_
  rcases (show (a0 < 3003 ∨ 3008 < a0) ∨ a0 = 3003 ∨ a0 = 3004 ∨ a0 = 3005 ∨ a0 = 3006 ∨ a0 = 3007 ∨ a0 = 3008 by (clear hret C ha2 ha1 hM0; omega)) with h101 | h101 | h101 | h101 | h101 | h101 | h101
  · refine y_tabO C 81 dX12_between_1 (by decide) (by exact ⟨⟨ha0.1, ha0.2⟩, h101⟩) ?_
    refine j_iload_n C 0 0 dX12_between_81 rfl rfl ?_
    refine y_sipush C dX12_between_82 rfl ?_
    refine y_icmp_ne C 96 dX12_between_85 (by decide) (by exact ⟨⟨ha0.1, ha0.2⟩, ⟨(by decide), (by decide)⟩⟩) (fun h102 => ?_) (fun h102 => ?_)
    · refine j_iload_n C 0 0 dX12_between_96 rfl rfl ?_
      refine y_sipush C dX12_between_97 rfl ?_
      refine y_icmp_ne C 111 dX12_between_100 (by decide) (by exact ⟨⟨ha0.1, ha0.2⟩, ⟨(by decide), (by decide)⟩⟩) (fun h103 => ?_) (fun h103 => ?_)
      · refine j_iload_n C 1 1 dX12_between_111 rfl rfl ?_
        refine y_i2l C dX12_between_112 (by exact ⟨ha1.1, ha1.2⟩) ?_
        refine j_iload_n C 2 2 dX12_between_113 rfl rfl ?_
        refine y_i2l C dX12_between_114 (by exact ⟨ha2.1, ha2.2⟩) ?_
        refine e_lmul C dX12_between_115 (fun lb104 ub104 => ?_)
        refine j_lstore_n C 3 [(3, .long (sJ (mulJ a1 a2))), (0, .int (sI a0)), (1, .int (sI a1)), (2, .int (sI a2))] dX12_between_116 rfl (by decide) rfl ?_
        have u105 := clF_s (mulJ a1 a2)
        refine j_lload_n C 0 3 dX12_between_117 rfl rfl ?_
        refine y_ldc2 C 1000000 dX12_between_118 kX12_between_213 rfl ?_
        refine y_lcmp_le C 131 dX12_between_121 dX12_between_122 (by decide) (by exact ⟨⟨lb104, ub104⟩, ⟨(by decide), (by decide)⟩⟩) (fun h106 => ?_) (fun h106 => ?_)
        · refine j_lload_n C 0 3 dX12_between_131 rfl rfl ?_
          refine y_ldc2 C (-1000000) dX12_between_132 kX12_between_215 rfl ?_
          refine y_lcmp_ge C 145 dX12_between_135 dX12_between_136 (by decide) (by exact ⟨⟨lb104, ub104⟩, ⟨(by decide), (by decide)⟩⟩) (fun h107 => ?_) (fun h107 => ?_)
          · refine j_lload_n C 0 3 dX12_between_145 rfl rfl ?_
            refine y_l2i C dX12_between_146 ?_
            have u108 := btF_s a0 a1 a2
            exact hret _ _ _ _ dX12_between_147 ⟨(mulJ a1 a2), rfl, rfl, by (clear hret C ha2 ha1 hM0; omega)⟩
          · refine y_ldc2 C (-1000000) dX12_between_139 kX12_between_215 rfl ?_
            refine j_goto C 146 dX12_between_142 (by decide) ?_
            refine y_l2i C dX12_between_146 ?_
            have u109 := btF_s a0 a1 a2
            exact hret _ _ _ _ dX12_between_147 ⟨(-1000000), rfl, rfl, by exact ⟨(by decide), ⟨(by decide), (by (clear hret C ha2 ha1 hM0; omega))⟩⟩⟩
        · refine y_ldc2 C 1000000 dX12_between_125 kX12_between_213 rfl ?_
          refine j_goto C 146 dX12_between_128 (by decide) ?_
          refine y_l2i C dX12_between_146 ?_
          have u110 := btF_s a0 a1 a2
          exact hret _ _ _ _ dX12_between_147 ⟨1000000, rfl, rfl, by exact ⟨(by decide), ⟨(by decide), (by (clear hret C ha2 ha1 hM0; omega))⟩⟩⟩
      · refine j_iload_n C 1 1 dX12_between_103 rfl rfl ?_
        refine y_i2l C dX12_between_104 (by exact ⟨ha1.1, ha1.2⟩) ?_
        refine j_iload_n C 2 2 dX12_between_105 rfl rfl ?_
        refine y_i2l C dX12_between_106 (by exact ⟨ha2.1, ha2.2⟩) ?_
        refine y_lsub C dX12_between_107 ?_
        refine j_goto C 116 dX12_between_108 (by decide) ?_
        refine j_lstore_n C 3 [(3, .long (sJ (a1 - a2))), (0, .int (sI a0)), (1, .int (sI a1)), (2, .int (sI a2))] dX12_between_116 rfl (by decide) rfl ?_
        have u111 := clF_s (a1 - a2)
        refine j_lload_n C 0 3 dX12_between_117 rfl rfl ?_
        refine y_ldc2 C 1000000 dX12_between_118 kX12_between_213 rfl ?_
        refine y_lcmp_le C 131 dX12_between_121 dX12_between_122 (by decide) (by exact ⟨⟨(by (clear u111 h103 h102 h101 hret C ha0 hM0; omega)), (by (clear u111 h103 h102 h101 hret C ha0 hM0; omega))⟩, ⟨(by decide), (by decide)⟩⟩) (fun h112 => ?_) (fun h112 => ?_)
        · refine j_lload_n C 0 3 dX12_between_131 rfl rfl ?_
          refine y_ldc2 C (-1000000) dX12_between_132 kX12_between_215 rfl ?_
          refine y_lcmp_ge C 145 dX12_between_135 dX12_between_136 (by decide) (by exact ⟨⟨(by (clear u111 h103 h102 h101 hret C ha0 hM0; omega)), (by (clear u111 h103 h102 h101 hret C ha0 hM0; omega))⟩, ⟨(by decide), (by decide)⟩⟩) (fun h113 => ?_) (fun h113 => ?_)
          · refine j_lload_n C 0 3 dX12_between_145 rfl rfl ?_
            refine y_l2i C dX12_between_146 ?_
            have u114 := btF_s a0 a1 a2
            exact hret _ _ _ _ dX12_between_147 ⟨(a1 - a2), rfl, rfl, by (clear h102 h101 hret C ha2 ha1 ha0 hM0; omega)⟩
          · refine y_ldc2 C (-1000000) dX12_between_139 kX12_between_215 rfl ?_
            refine j_goto C 146 dX12_between_142 (by decide) ?_
            refine y_l2i C dX12_between_146 ?_
            have u115 := btF_s a0 a1 a2
            exact hret _ _ _ _ dX12_between_147 ⟨(-1000000), rfl, rfl, by exact ⟨(by decide), ⟨(by decide), (by (clear h112 h102 h101 hret C ha2 ha1 ha0 hM0; omega))⟩⟩⟩
        · refine y_ldc2 C 1000000 dX12_between_125 kX12_between_213 rfl ?_
          refine j_goto C 146 dX12_between_128 (by decide) ?_
          refine y_l2i C dX12_between_146 ?_
          have u116 := btF_s a0 a1 a2
          exact hret _ _ _ _ dX12_between_147 ⟨1000000, rfl, rfl, by exact ⟨(by decide), ⟨(by decide), (by (clear h102 h101 hret C ha2 ha1 ha0 hM0; omega))⟩⟩⟩
    · refine j_iload_n C 1 1 dX12_between_88 rfl rfl ?_
      refine y_i2l C dX12_between_89 (by exact ⟨ha1.1, ha1.2⟩) ?_
      refine j_iload_n C 2 2 dX12_between_90 rfl rfl ?_
      refine y_i2l C dX12_between_91 (by exact ⟨ha2.1, ha2.2⟩) ?_
      refine y_ladd C dX12_between_92 ?_
      refine j_goto C 116 dX12_between_93 (by decide) ?_
      refine j_lstore_n C 3 [(3, .long (sJ (a1 + a2))), (0, .int (sI a0)), (1, .int (sI a1)), (2, .int (sI a2))] dX12_between_116 rfl (by decide) rfl ?_
      have u117 := clF_s (a1 + a2)
      refine j_lload_n C 0 3 dX12_between_117 rfl rfl ?_
      refine y_ldc2 C 1000000 dX12_between_118 kX12_between_213 rfl ?_
      refine y_lcmp_le C 131 dX12_between_121 dX12_between_122 (by decide) (by exact ⟨⟨(by (clear u117 h102 h101 hret C ha0 hM0; omega)), (by (clear u117 h102 h101 hret C ha0 hM0; omega))⟩, ⟨(by decide), (by decide)⟩⟩) (fun h118 => ?_) (fun h118 => ?_)
      · refine j_lload_n C 0 3 dX12_between_131 rfl rfl ?_
        refine y_ldc2 C (-1000000) dX12_between_132 kX12_between_215 rfl ?_
        refine y_lcmp_ge C 145 dX12_between_135 dX12_between_136 (by decide) (by exact ⟨⟨(by (clear u117 h102 h101 hret C ha0 hM0; omega)), (by (clear u117 h102 h101 hret C ha0 hM0; omega))⟩, ⟨(by decide), (by decide)⟩⟩) (fun h119 => ?_) (fun h119 => ?_)
        · refine j_lload_n C 0 3 dX12_between_145 rfl rfl ?_
          refine y_l2i C dX12_between_146 ?_
          have u120 := btF_s a0 a1 a2
          exact hret _ _ _ _ dX12_between_147 ⟨(a1 + a2), rfl, rfl, by (clear h101 hret C ha2 ha1 ha0 hM0; omega)⟩
        · refine y_ldc2 C (-1000000) dX12_between_139 kX12_between_215 rfl ?_
          refine j_goto C 146 dX12_between_142 (by decide) ?_
          refine y_l2i C dX12_between_146 ?_
          have u121 := btF_s a0 a1 a2
          exact hret _ _ _ _ dX12_between_147 ⟨(-1000000), rfl, rfl, by exact ⟨(by decide), ⟨(by decide), (by (clear h118 h101 hret C ha2 ha1 ha0 hM0; omega))⟩⟩⟩
      · refine y_ldc2 C 1000000 dX12_between_125 kX12_between_213 rfl ?_
        refine j_goto C 146 dX12_between_128 (by decide) ?_
        refine y_l2i C dX12_between_146 ?_
        have u122 := btF_s a0 a1 a2
        exact hret _ _ _ _ dX12_between_147 ⟨1000000, rfl, rfl, by exact ⟨(by decide), ⟨(by decide), (by (clear h101 hret C ha2 ha1 ha0 hM0; omega))⟩⟩⟩
  · refine y_tabI C (off := 39) 40 3003 dX12_between_1 (by decide) rfl (by decide) h101 ?_
    refine j_iload_n C 1 1 dX12_between_40 rfl rfl ?_
    refine j_iload_n C 2 2 dX12_between_41 rfl rfl ?_
    refine y_icmp_ne C 49 dX12_between_42 (by decide) (by exact ⟨⟨ha1.1, ha1.2⟩, ⟨ha2.1, ha2.2⟩⟩) (fun h123 => ?_) (fun h123 => ?_)
    · refine y_iconst C dX12_between_49 ?_
      have u124 := btF_s a0 a1 a2
      exact hret _ _ _ _ dX12_between_50 ⟨0, rfl, rfl, by exact ⟨(by decide), ⟨(by decide), (by (clear hret C ha2 ha1 ha0 hM0; omega))⟩⟩⟩
    · refine y_iconst C dX12_between_45 ?_
      refine j_goto C 50 dX12_between_46 (by decide) ?_
      have u125 := btF_s a0 a1 a2
      exact hret _ _ _ _ dX12_between_50 ⟨1, rfl, rfl, by exact ⟨(by decide), ⟨(by decide), (by (clear hret C ha2 ha1 ha0 hM0; omega))⟩⟩⟩
  · refine y_tabI C (off := 50) 51 3004 dX12_between_1 (by decide) rfl (by decide) h101 ?_
    refine j_iload_n C 1 1 dX12_between_51 rfl rfl ?_
    refine j_iload_n C 2 2 dX12_between_52 rfl rfl ?_
    refine y_icmp_ge C 60 dX12_between_53 (by decide) (by exact ⟨⟨ha1.1, ha1.2⟩, ⟨ha2.1, ha2.2⟩⟩) (fun h126 => ?_) (fun h126 => ?_)
    · refine y_iconst C dX12_between_60 ?_
      have u127 := btF_s a0 a1 a2
      exact hret _ _ _ _ dX12_between_61 ⟨0, rfl, rfl, by exact ⟨(by decide), ⟨(by decide), (by (clear hret C ha2 ha1 ha0 hM0; omega))⟩⟩⟩
    · refine y_iconst C dX12_between_56 ?_
      refine j_goto C 61 dX12_between_57 (by decide) ?_
      have u128 := btF_s a0 a1 a2
      exact hret _ _ _ _ dX12_between_61 ⟨1, rfl, rfl, by exact ⟨(by decide), ⟨(by decide), (by (clear hret C ha2 ha1 ha0 hM0; omega))⟩⟩⟩
  · refine y_tabI C (off := 61) 62 3005 dX12_between_1 (by decide) rfl (by decide) h101 ?_
    refine j_iload_n C 1 1 dX12_between_62 rfl rfl ?_
    refine j_iload_n C 2 2 dX12_between_63 rfl rfl ?_
    refine y_icmp_le C 71 dX12_between_64 (by decide) (by exact ⟨⟨ha1.1, ha1.2⟩, ⟨ha2.1, ha2.2⟩⟩) (fun h129 => ?_) (fun h129 => ?_)
    · refine y_iconst C dX12_between_71 ?_
      have u130 := btF_s a0 a1 a2
      exact hret _ _ _ _ dX12_between_72 ⟨0, rfl, rfl, by exact ⟨(by decide), ⟨(by decide), (by (clear hret C ha2 ha1 ha0 hM0; omega))⟩⟩⟩
    · refine y_iconst C dX12_between_67 ?_
      refine j_goto C 72 dX12_between_68 (by decide) ?_
      have u131 := btF_s a0 a1 a2
      exact hret _ _ _ _ dX12_between_72 ⟨1, rfl, rfl, by exact ⟨(by decide), ⟨(by decide), (by (clear hret C ha2 ha1 ha0 hM0; omega))⟩⟩⟩
  · refine y_tabI C (off := 80) 81 3006 dX12_between_1 (by decide) rfl (by decide) h101 ?_
    refine j_iload_n C 0 0 dX12_between_81 rfl rfl ?_
    refine y_sipush C dX12_between_82 rfl ?_
    refine y_icmp_ne C 96 dX12_between_85 (by decide) (by exact ⟨⟨ha0.1, ha0.2⟩, ⟨(by decide), (by decide)⟩⟩) (fun h132 => ?_) (fun h132 => ?_)
    · refine j_iload_n C 0 0 dX12_between_96 rfl rfl ?_
      refine y_sipush C dX12_between_97 rfl ?_
      refine y_icmp_ne C 111 dX12_between_100 (by decide) (by exact ⟨⟨ha0.1, ha0.2⟩, ⟨(by decide), (by decide)⟩⟩) (fun h133 => ?_) (fun h133 => ?_)
      · refine j_iload_n C 1 1 dX12_between_111 rfl rfl ?_
        refine y_i2l C dX12_between_112 (by exact ⟨ha1.1, ha1.2⟩) ?_
        refine j_iload_n C 2 2 dX12_between_113 rfl rfl ?_
        refine y_i2l C dX12_between_114 (by exact ⟨ha2.1, ha2.2⟩) ?_
        refine e_lmul C dX12_between_115 (fun lb134 ub134 => ?_)
        refine j_lstore_n C 3 [(3, .long (sJ (mulJ a1 a2))), (0, .int (sI a0)), (1, .int (sI a1)), (2, .int (sI a2))] dX12_between_116 rfl (by decide) rfl ?_
        have u135 := clF_s (mulJ a1 a2)
        refine j_lload_n C 0 3 dX12_between_117 rfl rfl ?_
        refine y_ldc2 C 1000000 dX12_between_118 kX12_between_213 rfl ?_
        refine y_lcmp_le C 131 dX12_between_121 dX12_between_122 (by decide) (by exact ⟨⟨lb134, ub134⟩, ⟨(by decide), (by decide)⟩⟩) (fun h136 => ?_) (fun h136 => ?_)
        · refine j_lload_n C 0 3 dX12_between_131 rfl rfl ?_
          refine y_ldc2 C (-1000000) dX12_between_132 kX12_between_215 rfl ?_
          refine y_lcmp_ge C 145 dX12_between_135 dX12_between_136 (by decide) (by exact ⟨⟨lb134, ub134⟩, ⟨(by decide), (by decide)⟩⟩) (fun h137 => ?_) (fun h137 => ?_)
          · refine j_lload_n C 0 3 dX12_between_145 rfl rfl ?_
            refine y_l2i C dX12_between_146 ?_
            have u138 := btF_s a0 a1 a2
            exact hret _ _ _ _ dX12_between_147 ⟨(mulJ a1 a2), rfl, rfl, by (clear h133 h132 hret C ha2 ha1 ha0 hM0; omega)⟩
          · refine y_ldc2 C (-1000000) dX12_between_139 kX12_between_215 rfl ?_
            refine j_goto C 146 dX12_between_142 (by decide) ?_
            refine y_l2i C dX12_between_146 ?_
            have u139 := btF_s a0 a1 a2
            exact hret _ _ _ _ dX12_between_147 ⟨(-1000000), rfl, rfl, by exact ⟨(by decide), ⟨(by decide), (by (clear h133 h132 hret C ha2 ha1 ha0 hM0; omega))⟩⟩⟩
        · refine y_ldc2 C 1000000 dX12_between_125 kX12_between_213 rfl ?_
          refine j_goto C 146 dX12_between_128 (by decide) ?_
          refine y_l2i C dX12_between_146 ?_
          have u140 := btF_s a0 a1 a2
          exact hret _ _ _ _ dX12_between_147 ⟨1000000, rfl, rfl, by exact ⟨(by decide), ⟨(by decide), (by (clear h133 h132 hret C ha2 ha1 ha0 hM0; omega))⟩⟩⟩
      · exfalso; omega
    · exfalso; omega
  · refine y_tabI C (off := 72) 73 3007 dX12_between_1 (by decide) rfl (by decide) h101 ?_
    refine j_iload_n C 1 1 dX12_between_73 rfl rfl ?_
    refine j_iload_n C 2 2 dX12_between_74 rfl rfl ?_
    refine e_iand C dX12_between_75 (fun lb141 ub141 => ?_)
    have u142 := btF_s a0 a1 a2
    exact hret _ _ _ _ dX12_between_76 ⟨(andI a1 a2), rfl, rfl, by exact ⟨lb141, ⟨ub141, (by (clear hret C ha2 ha1 ha0 hM0; omega))⟩⟩⟩
  · refine y_tabI C (off := 76) 77 3008 dX12_between_1 (by decide) rfl (by decide) h101 ?_
    refine j_iload_n C 1 1 dX12_between_77 rfl rfl ?_
    refine j_iload_n C 2 2 dX12_between_78 rfl rfl ?_
    refine e_ior C dX12_between_79 (fun lb143 ub143 => ?_)
    have u144 := btF_s a0 a1 a2
    exact hret _ _ _ _ dX12_between_80 ⟨(orI a1 a2), rfl, rfl, by exact ⟨lb143, ⟨ub143, (by (clear hret C ha2 ha1 ha0 hM0; omega))⟩⟩⟩
set_option maxHeartbeats 4000000 in
theorem s1_X12_reckons {l : Launch} {dC : Nat → ClassId} {dI : Nat → Nat → Nat} {ad : Nat → Nat} {cA : Nat → ClassId} {pr : Nat → Nat → Bool} {Kz : mm_M} {M0 : mm_M} (hM0 : INV pr Kz M0) (hpr : PM pr) (hcw : CWK pr Kz) (a2 : Int) (ha2 : -2147483648 ≤ a2 ∧ a2 ≤ 2147483647) (a3 : Int) (ha3 : -2147483648 ≤ a3 ∧ a3 ≤ 2147483647) (a4 : Int) (ha4 : -2147483648 ≤ a4 ∧ a4 ≤ 2147483647) (hp0 : ¬ (M0.1 99 3).toInt = 0) (hp1 : 0 ≤ a2 ∧ a2 ≤ 5) (hp2 : 0 ≤ a3 ∧ a3 ≤ 7) (hp3 : b01 (PI M0) = 1) : Ci l 1 yX12_reckons wsX12_reckons dC dI ad cA [.ref (ad 98), .int (sI 1), .int (sI a2), .int (sI a3), .int (sI a4)] M0 (fun r M' => ∃ a : Int, r = sI a ∧ INV pr Kz M' ∧ FR [103, 104] M0 M' ∧ (-2147483648) ≤ a ∧ a ≤ 2147483647 ∧ (a = (rkF (M0.1 99) 1 a2 a3 a4)) ∧ (b01 (PI M') = 1)) := by
  refine ci_of (cc := cX12_reckons) (maxL := 8) (ty := .int) (lv := [(0, .ref (ad 98)), (1, .int (sI 1)), (2, .int (sI a2)), (3, .int (sI a3)), (4, .int (sI a4))]) (by decide) rfl (fun r M' hp => rfl) (Nat.le_of_ble_eq_true rfl) rfl ?_
  intro p e s m args below meth c A Q C hret
  have cw0 : zwL (M0.1 99) 1 := (hcw M0 hM0).2
  have zwS0 : zwS (M0.1 99) (281 + (M0.1 99 5).toInt) (M0.1 99 7).toInt := cw0.2.1
  have cwE0 : (M0.1 99 3).toInt = 0 ∨ 1 ≤ dqF (M0.1 99) (281 + (M0.1 99 5).toInt) (M0.1 99 7).toInt.toNat := cw0.2.2
  have cwA0 := INV.rd hM0 (i := 99) (c := 45) (k := 5) rfl rfl
  have cwB0 := INV.rd hM0 (i := 99) (c := 45) (k := 7) rfl rfl
  refine j_aload_n C 0 0 dX12_reckons_0 rfl rfl ?_
  refine y_getC C 11 104 fX12_reckons_33 rfl rfl ft_11_16 sm_11_16 rfl hM0 dX12_reckons_1 ?_
  refine y_iconst C dX12_reckons_4 ?_
  refine j_iload_n C 2 2 dX12_reckons_5 rfl rfl ?_
  refine y_iastF C 50 8 rfl rfl rfl ak_50 an_50 rfl (sb_50 _) hM0 (PM.w hpr rfl rfl) dX12_reckons_6 (by exact ⟨(by decide), (by decide)⟩) (fun M102 eM102 hM102 => ?_)
  have pM102 := pi_o eM102 (by decide) (by decide) (by exact hp3)
  refine j_aload_n C 0 0 dX12_reckons_7 rfl rfl ?_
  refine y_getC C 11 104 fX12_reckons_33 rfl rfl ft_11_16 sm_11_16 rfl hM102 dX12_reckons_8 ?_
  refine y_iconst C dX12_reckons_11 ?_
  refine j_aload_n C 0 0 dX12_reckons_12 rfl rfl ?_
  refine y_getC C 11 99 fX12_reckons_13 rfl rfl ft_11_1 sm_11_1 rfl hM102 dX12_reckons_13 ?_
  refine y_bipush C dX12_reckons_16 rfl ?_
  refine j_iload_n C 2 2 dX12_reckons_18 rfl rfl ?_
  refine y_iadd C dX12_reckons_19 ?_
  refine y_ialdF C 45 3543 rfl rfl rfl ak_45 an_45 rfl dX12_reckons_20 (by (clear pM102 hM102 eM102 cwB0 cwA0 cwE0 zwS0 cw0 hret C hp3 hp2 hp0 ha4 ha3 hcw hpr hM0; omega)) (fun a103 ea103 la103 ua103 => ?_)
  obtain rfl : a103 = (M0.1 99 ((8 + a2)).toNat).toInt := s_fa eM102 (by decide) (ea103)
  refine y_iastF C 50 8 rfl rfl rfl ak_50 an_50 rfl (sb_50 _) hM102 (PM.w hpr rfl rfl) dX12_reckons_21 (by exact ⟨(by decide), (by decide)⟩) (fun M104 eM104 hM104 => ?_)
  have pM104 := pi_o eM104 (by decide) (by decide) (by exact pM102)
  refine j_aload_n C 0 0 dX12_reckons_22 rfl rfl ?_
  refine y_getC C 11 104 fX12_reckons_33 rfl rfl ft_11_16 sm_11_16 rfl hM104 dX12_reckons_23 ?_
  refine y_iconst C dX12_reckons_26 ?_
  refine j_aload_n C 0 0 dX12_reckons_27 rfl rfl ?_
  refine y_getC C 11 99 fX12_reckons_13 rfl rfl ft_11_1 sm_11_1 rfl hM104 dX12_reckons_28 ?_
  refine y_bipush C dX12_reckons_31 rfl ?_
  refine j_iload_n C 2 2 dX12_reckons_33 rfl rfl ?_
  refine y_iadd C dX12_reckons_34 ?_
  refine y_ialdF C 45 3543 rfl rfl rfl ak_45 an_45 rfl dX12_reckons_35 (by (clear pM104 hM104 eM104 ua103 la103 ea103 pM102 hM102 eM102 cwB0 cwA0 cwE0 zwS0 cw0 hret C hp3 hp2 hp0 ha4 ha3 hcw hpr hM0; omega)) (fun a105 ea105 la105 ua105 => ?_)
  obtain rfl : a105 = (M0.1 99 ((14 + a2)).toNat).toInt := s_fa eM102 (by decide) (s_fa eM104 (by decide) (ea105))
  refine y_iastF C 50 8 rfl rfl rfl ak_50 an_50 rfl (sb_50 _) hM104 (PM.w hpr rfl rfl) dX12_reckons_36 (by exact ⟨(by decide), (by decide)⟩) (fun M106 eM106 hM106 => ?_)
  have pM106 := pi_o eM106 (by decide) (by decide) (by exact pM104)
  refine j_aload_n C 0 0 dX12_reckons_37 rfl rfl ?_
  refine y_getC C 11 104 fX12_reckons_33 rfl rfl ft_11_16 sm_11_16 rfl hM106 dX12_reckons_38 ?_
  refine y_iconst C dX12_reckons_41 ?_
  refine j_iload_n C 3 3 dX12_reckons_42 rfl rfl ?_
  refine y_iastF C 50 8 rfl rfl rfl ak_50 an_50 rfl (sb_50 _) hM106 (PM.w hpr rfl rfl) dX12_reckons_43 (by exact ⟨(by decide), (by decide)⟩) (fun M107 eM107 hM107 => ?_)
  have pM107 := pi_o eM107 (by decide) (by decide) (by exact pM106)
  refine j_aload_n C 0 0 dX12_reckons_44 rfl rfl ?_
  refine y_getC C 11 104 fX12_reckons_33 rfl rfl ft_11_16 sm_11_16 rfl hM107 dX12_reckons_45 ?_
  refine y_iconst C dX12_reckons_48 ?_
  refine j_aload_n C 0 0 dX12_reckons_49 rfl rfl ?_
  refine y_getC C 11 99 fX12_reckons_13 rfl rfl ft_11_1 sm_11_1 rfl hM107 dX12_reckons_50 ?_
  refine y_bipush C dX12_reckons_53 rfl ?_
  refine j_iload_n C 3 3 dX12_reckons_55 rfl rfl ?_
  refine y_iadd C dX12_reckons_56 ?_
  refine y_ialdF C 45 3543 rfl rfl rfl ak_45 an_45 rfl dX12_reckons_57 (by (clear pM107 hM107 eM107 pM106 hM106 eM106 ua105 la105 ea105 pM104 hM104 eM104 ua103 la103 ea103 pM102 hM102 eM102 cwB0 cwA0 cwE0 zwS0 cw0 hret C hp3 hp1 hp0 ha4 ha2 hcw hpr hM0; omega)) (fun a108 ea108 la108 ua108 => ?_)
  obtain rfl : a108 = (M0.1 99 ((33 + a3)).toNat).toInt := s_fa eM102 (by decide) (s_fa eM104 (by decide) (s_fa eM106 (by decide) (s_fa eM107 (by decide) (ea108))))
  refine y_iastF C 50 8 rfl rfl rfl ak_50 an_50 rfl (sb_50 _) hM107 (PM.w hpr rfl rfl) dX12_reckons_58 (by exact ⟨(by decide), (by decide)⟩) (fun M109 eM109 hM109 => ?_)
  have pM109 := pi_o eM109 (by decide) (by decide) (by exact pM107)
  refine j_aload_n C 0 0 dX12_reckons_59 rfl rfl ?_
  refine y_getC C 11 104 fX12_reckons_33 rfl rfl ft_11_16 sm_11_16 rfl hM109 dX12_reckons_60 ?_
  refine y_iconst C dX12_reckons_63 ?_
  refine j_aload_n C 0 0 dX12_reckons_64 rfl rfl ?_
  refine y_getC C 11 99 fX12_reckons_13 rfl rfl ft_11_1 sm_11_1 rfl hM109 dX12_reckons_65 ?_
  refine y_bipush C dX12_reckons_68 rfl ?_
  refine j_iload_n C 3 3 dX12_reckons_70 rfl rfl ?_
  refine y_iadd C dX12_reckons_71 ?_
  refine y_ialdF C 45 3543 rfl rfl rfl ak_45 an_45 rfl dX12_reckons_72 (by (clear pM109 hM109 eM109 ua108 la108 ea108 pM107 hM107 eM107 pM106 hM106 eM106 ua105 la105 ea105 pM104 hM104 eM104 ua103 la103 ea103 pM102 hM102 eM102 cwB0 cwA0 cwE0 zwS0 cw0 hret C hp3 hp1 hp0 ha4 ha2 hcw hpr hM0; omega)) (fun a110 ea110 la110 ua110 => ?_)
  obtain rfl : a110 = (M0.1 99 ((41 + a3)).toNat).toInt := s_fa eM102 (by decide) (s_fa eM104 (by decide) (s_fa eM106 (by decide) (s_fa eM107 (by decide) (s_fa eM109 (by decide) (ea110)))))
  refine y_iastF C 50 8 rfl rfl rfl ak_50 an_50 rfl (sb_50 _) hM109 (PM.w hpr rfl rfl) dX12_reckons_73 (by exact ⟨(by decide), (by decide)⟩) (fun M111 eM111 hM111 => ?_)
  have pM111 := pi_o eM111 (by decide) (by decide) (by exact pM109)
  refine j_aload_n C 0 0 dX12_reckons_74 rfl rfl ?_
  refine y_getC C 11 104 fX12_reckons_33 rfl rfl ft_11_16 sm_11_16 rfl hM111 dX12_reckons_75 ?_
  refine y_bipush C dX12_reckons_78 rfl ?_
  refine j_iload C 4 dX12_reckons_80 rfl ?_
  refine j_callSi C (d := 0) (As := [.int (sI a4)]) (st := [.int (sI 6), .ref (ad 104)]) (s1_X12_bitsOf hM111 a4 (by exact ⟨ha4.1, ha4.2⟩)) gX12_reckons_X12_bitsOf rfl hdX12_bitsOfs (by decide) (Nat.le_of_ble_eq_true rfl) dX12_reckons_82 rfl (fun r112 M113 h114 => ?_)
  obtain ⟨a116, rfl, rfl, h115⟩ := h114
  obtain rfl : a116 = (bsF a4 (8 : Int).toNat) := by exact h115.2.2
  refine y_iastF C 50 8 rfl rfl rfl ak_50 an_50 rfl (sb_50 _) hM111 (PM.w hpr rfl rfl) dX12_reckons_85 (by exact ⟨(by decide), (by decide)⟩) (fun M117 eM117 hM117 => ?_)
  have pM117 := pi_o eM117 (by decide) (by decide) (by exact pM111)
  refine j_aload_n C 0 0 dX12_reckons_86 rfl rfl ?_
  refine y_getC C 11 104 fX12_reckons_33 rfl rfl ft_11_16 sm_11_16 rfl hM117 dX12_reckons_87 ?_
  refine y_bipush C dX12_reckons_90 rfl ?_
  refine j_iload C 4 dX12_reckons_92 rfl ?_
  refine j_iload_n C 3 3 dX12_reckons_94 rfl rfl ?_
  refine e_ishr C dX12_reckons_95 (fun lb118 ub118 => ?_)
  refine y_iconst C dX12_reckons_96 ?_
  refine e_iandR C dX12_reckons_97 (by exact ⟨(by decide), (by decide)⟩) (fun lb119 ub119 => ?_)
  refine y_iastF C 50 8 rfl rfl rfl ak_50 an_50 rfl (sb_50 _) hM117 (PM.w hpr rfl rfl) dX12_reckons_98 (by exact ⟨(by decide), (by decide)⟩) (fun M120 eM120 hM120 => ?_)
  have pM120 := pi_o eM120 (by decide) (by decide) (by exact pM117)
  have u121 := wd_of (W := (wdF (M0.1 99) a2 a3 a4)) eM102 eM104 eM106 eM107 eM109 eM111 eM117 eM120 rfl rfl rfl rfl rfl rfl rfl rfl (by exact ⟨⟨ha2.1, ha2.2⟩, ⟨⟨la103, ua103⟩, ⟨⟨la105, ua105⟩, ⟨⟨ha3.1, ha3.2⟩, ⟨⟨la108, ua108⟩, ⟨⟨la110, ua110⟩, ⟨⟨(by (clear pM120 hM120 eM120 ub118 lb118 pM117 hM117 eM117 pM111 hM111 eM111 pM109 hM109 eM109 pM107 hM107 eM107 pM106 hM106 eM106 pM104 hM104 eM104 pM102 hM102 eM102 cwB0 cwA0 cwE0 zwS0 cw0 hret C hp3 hp0 ha4 hcw hpr hM0; omega)), (by (clear pM120 hM120 eM120 ub118 lb118 pM117 hM117 eM117 pM111 hM111 eM111 pM109 hM109 eM109 pM107 hM107 eM107 pM106 hM106 eM106 pM104 hM104 eM104 pM102 hM102 eM102 cwB0 cwA0 cwE0 zwS0 cw0 hret C hp3 hp0 ha4 hcw hpr hM0; omega))⟩, ⟨(by (clear pM120 hM120 eM120 ub118 lb118 pM117 hM117 eM117 pM111 hM111 eM111 pM109 hM109 eM109 pM107 hM107 eM107 pM106 hM106 eM106 pM104 hM104 eM104 pM102 hM102 eM102 cwB0 cwA0 cwE0 zwS0 cw0 hret C hp3 hp0 ha4 hcw hpr hM0; omega)), (by (clear pM120 hM120 eM120 ub118 lb118 pM117 hM117 eM117 pM111 hM111 eM111 pM109 hM109 eM109 pM107 hM107 eM107 pM106 hM106 eM106 pM104 hM104 eM104 pM102 hM102 eM102 cwB0 cwA0 cwE0 zwS0 cw0 hret C hp3 hp0 ha4 hcw hpr hM0; omega))⟩⟩⟩⟩⟩⟩⟩⟩)
  have u121s := st_0 M120 (M0.1 99) (wdF (M0.1 99) a2 a3 a4) (281 + (M0.1 99 5).toInt)
  refine y_iconst C dX12_reckons_99 ?_
  refine j_istore C 5 [(5, .int (sI 0)), (0, .ref (ad 98)), (1, .int (sI 1)), (2, .int (sI a2)), (3, .int (sI a3)), (4, .int (sI a4))] dX12_reckons_100 (by decide) rfl ?_
  refine y_iconst C dX12_reckons_102 ?_
  refine j_istore C 6 [(6, .int (sI 0)), (5, .int (sI 0)), (0, .ref (ad 98)), (1, .int (sI 1)), (2, .int (sI a2)), (3, .int (sI a3)), (4, .int (sI a4))] dX12_reckons_103 (by decide) rfl ?_
  have L158 : ∀ (n156 : Nat), ∀ (a159 : Int) (a160 : Int) (M161 : mm_M), (0 ≤ a159 ∧ a159 ≤ 900 ∧ 0 ≤ a160 ∧ a160 ≤ 900 ∧ (a159 = (rkS (M0.1 99) (wdF (M0.1 99) a2 a3 a4) (281 + (M0.1 99 5).toInt) (a160).toNat).1) ∧ (b01 (stOK M161 (rkS (M0.1 99) (wdF (M0.1 99) a2 a3 a4) (281 + (M0.1 99 5).toInt) (a160).toNat)) = 1) ∧ (b01 (wdOK M161 (wdF (M0.1 99) a2 a3 a4)) = 1) ∧ (a159 ≤ a160) ∧ (a160 ≤ (M0.1 99 7).toInt) ∧ (b01 (PI M161) = 1) ∧ (900 - a160) < (n156 : Int)) → INV pr Kz M161 → FR [103, 104] M0 M161 → jj p l e (cn_R 1) s m args below meth c 0 0 Q 8 dC dI ad cA A M161 105 [(0, .ref (ad 98)), (1, .int (sI 1)), (5, .int (sI a159)), (6, .int (sI a160))] [] := by
    intro n156
    induction n156 with
    | zero =>
      intro a159 a160 M161 h162 hM161 fM161
      exfalso; (clear fM161 hM161 u121s u121 pM120 hM120 eM120 ub119 lb119 ub118 lb118 pM117 hM117 eM117 h115 pM111 hM111 eM111 ua110 la110 ea110 pM109 hM109 eM109 ua108 la108 ea108 pM107 hM107 eM107 pM106 hM106 eM106 ua105 la105 ea105 pM104 hM104 eM104 ua103 la103 ea103 pM102 hM102 eM102 cwB0 cwA0 cwE0 zwS0 cw0 hret C hp3 hp2 hp1 hp0 ha4 ha3 ha2 hcw hpr hM0; omega)
    | succ n156 ih157 =>
      intro a159 a160 M161 h162 hM161 fM161
      refine j_iload C 3 dX12_reckons_105 rfl ?_
      refine j_aload_n C 0 0 dX12_reckons_107 rfl rfl ?_
      refine y_getC C 11 99 fX12_reckons_13 rfl rfl ft_11_1 sm_11_1 rfl hM161 dX12_reckons_108 ?_
      refine y_bipush C dX12_reckons_111 rfl ?_
      refine j_iload_n C 1 1 dX12_reckons_113 rfl rfl ?_
      refine y_iadd C dX12_reckons_114 ?_
      refine y_ialdH C 45 3543 rfl rfl rfl ak_45 an_45 rfl _ _ hM161 (hr_45_7_7 _ (by exact (by decide)) (by exact (by decide))) dX12_reckons_115 (by exact ⟨(by decide), (by decide)⟩) (fun a163 ea163 la163 ua163 => ?_)
      obtain rfl : a163 = (M0.1 99 7).toInt := s_fF fM161 (by decide) (ea163)
      refine y_icmp_ge C 256 dX12_reckons_116 (by decide) (by (clear ua163 la163 fM161 hM161 ih157 u121s u121 pM120 hM120 eM120 ub119 lb119 ub118 lb118 pM117 hM117 eM117 h115 pM111 hM111 eM111 ua110 la110 ea110 pM109 hM109 eM109 ua108 la108 ea108 pM107 hM107 eM107 pM106 hM106 eM106 ua105 la105 ea105 pM104 hM104 eM104 ua103 la103 ea103 pM102 hM102 eM102 cwA0 cwE0 zwS0 cw0 hret C hp3 hp2 hp1 hp0 ha4 ha3 ha2 hcw hpr hM0; omega)) (fun h164 => ?_) (fun h164 => ?_)
      · obtain rfl : a160 = (M0.1 99 7).toInt := by (clear ua163 la163 fM161 hM161 ih157 u121s u121 pM120 hM120 eM120 ub119 lb119 ub118 lb118 pM117 hM117 eM117 h115 pM111 hM111 eM111 ua110 la110 ea110 pM109 hM109 eM109 ua108 la108 ea108 pM107 hM107 eM107 pM106 hM106 eM106 ua105 la105 ea105 pM104 hM104 eM104 ua103 la103 ea103 pM102 hM102 eM102 cwB0 cwA0 cwE0 zwS0 cw0 hret C hp3 hp2 hp1 hp0 ha4 ha3 ha2 hcw hpr hM0; omega)
        refine j_aload_n C 0 0 dX12_reckons_256 rfl rfl ?_
        refine y_getC C 11 103 fX12_reckons_30 rfl rfl ft_11_15 sm_11_15 rfl hM161 dX12_reckons_257 ?_
        refine y_iconst C dX12_reckons_260 ?_
        refine y_iald C 49 900 _ _ rfl rfl rfl ak_49 an_49 rfl (sb_49 _) hM161 dX12_reckons_261 (by exact ⟨(by decide), (by decide)⟩) (fun a195 ea195 la195 ua195 => ?_)
        obtain rfl : a195 = (M161.1 103 0).toInt := ea195
        have u196z := rkS_1 (M0.1 99) (wdF (M0.1 99) a2 a3 a4) (281 + (M0.1 99 5).toInt) (M0.1 99 7).toInt.toNat
        have u196 := st_get (M := M161) (p := rkS (M0.1 99) (wdF (M0.1 99) a2 a3 a4) (281 + (M0.1 99 5).toInt) (M0.1 99 7).toInt.toNat) (by exact h162.2.2.2.2.2.1) (by (clear ua195 la195 h164 ua163 la163 ea163 fM161 hM161 ih157 u121s u121 pM120 hM120 eM120 ub119 lb119 ub118 lb118 pM117 hM117 eM117 h115 pM111 hM111 eM111 ua110 la110 ea110 pM109 hM109 eM109 ua108 la108 ea108 pM107 hM107 eM107 pM106 hM106 eM106 ua105 la105 ea105 pM104 hM104 eM104 ua103 la103 ea103 pM102 hM102 eM102 cwB0 cwA0 zwS0 cw0 hret C hp3 hp2 hp1 ha4 ha3 ha2 hcw hpr hM0; omega))
        have u196y : rkF (M0.1 99) 1 a2 a3 a4 = (rkS (M0.1 99) (wdF (M0.1 99) a2 a3 a4) (281 + (M0.1 99 5).toInt) (M0.1 99 7).toInt.toNat).2 0 := rfl
        exact hret _ _ _ _ dX12_reckons_262 ⟨(M161.1 103 0).toInt, rfl, hM161, (FR.rf.tr fM161 (by decide)), by exact ⟨la195, ⟨ua195, ⟨(by (clear u196z h164 ua163 la163 ea163 fM161 hM161 ih157 u121s u121 pM120 hM120 eM120 ub119 lb119 ub118 lb118 pM117 hM117 eM117 h115 pM111 hM111 eM111 ua110 la110 ea110 pM109 hM109 eM109 ua108 la108 ea108 pM107 hM107 eM107 pM106 hM106 eM106 ua105 la105 ea105 pM104 hM104 eM104 ua103 la103 ea103 pM102 hM102 eM102 cwB0 cwA0 cwE0 zwS0 cw0 hret C hp3 hp2 hp1 hp0 ha4 ha3 ha2 hcw hpr hM0; omega)), h162.2.2.2.2.2.2.2.2.2.1⟩⟩⟩⟩
      · refine j_aload_n C 0 0 dX12_reckons_119 rfl rfl ?_
        refine y_getC C 11 99 fX12_reckons_13 rfl rfl ft_11_1 sm_11_1 rfl hM161 dX12_reckons_120 ?_
        refine y_sipush C dX12_reckons_123 rfl ?_
        refine j_aload_n C 0 0 dX12_reckons_126 rfl rfl ?_
        refine y_getC C 11 99 fX12_reckons_13 rfl rfl ft_11_1 sm_11_1 rfl hM161 dX12_reckons_127 ?_
        refine y_iconst C dX12_reckons_130 ?_
        refine j_iload_n C 1 1 dX12_reckons_131 rfl rfl ?_
        refine y_iadd C dX12_reckons_132 ?_
        refine y_ialdH C 45 3543 rfl rfl rfl ak_45 an_45 rfl _ _ hM161 (hr_45_5_5 _ (by exact (by decide)) (by exact (by decide))) dX12_reckons_133 (by exact ⟨(by decide), (by decide)⟩) (fun a165 ea165 la165 ua165 => ?_)
        obtain rfl : a165 = (M0.1 99 5).toInt := s_fF fM161 (by decide) (ea165)
        refine y_iadd C dX12_reckons_134 ?_
        refine j_iload C 3 dX12_reckons_135 rfl ?_
        refine y_iadd C dX12_reckons_137 ?_
        refine y_ialdF C 45 3543 rfl rfl rfl ak_45 an_45 rfl dX12_reckons_138 (by (clear ua165 la165 h164 ua163 la163 ea163 fM161 hM161 ih157 u121s u121 pM120 hM120 eM120 ub119 lb119 ub118 lb118 pM117 hM117 eM117 h115 pM111 hM111 eM111 ua110 la110 ea110 pM109 hM109 eM109 ua108 la108 ea108 pM107 hM107 eM107 pM106 hM106 eM106 ua105 la105 ea105 pM104 hM104 eM104 ua103 la103 ea103 pM102 hM102 eM102 cwB0 cwE0 zwS0 cw0 hret C hp3 hp2 hp1 hp0 ha4 ha3 ha2 hcw hpr hM0; omega)) (fun a166 ea166 la166 ua166 => ?_)
        obtain rfl : a166 = (M0.1 99 (((281 + (M0.1 99 5).toInt) + a160)).toNat).toInt := s_fF fM161 (by decide) (ea166)
        refine j_istore C 7 [(7, .int (sI (M0.1 99 (((281 + (M0.1 99 5).toInt) + a160)).toNat).toInt)), (0, .ref (ad 98)), (1, .int (sI 1)), (5, .int (sI a159)), (6, .int (sI a160))] dX12_reckons_139 (by decide) rfl ?_
        have rka160 := rk_at (wdF (M0.1 99) a2 a3 a4) zwS0 a160 (by exact h162.2.2.1) (by (clear ua166 la166 ea166 ua165 la165 ea165 ua163 la163 fM161 hM161 h162 ih157 u121s u121 pM120 hM120 eM120 ub119 lb119 ub118 lb118 pM117 hM117 eM117 h115 pM111 hM111 eM111 ua110 la110 ea110 pM109 hM109 eM109 ua108 la108 ea108 pM107 hM107 eM107 pM106 hM106 eM106 ua105 la105 ea105 pM104 hM104 eM104 ua103 la103 ea103 pM102 hM102 eM102 cwB0 cwA0 cwE0 zwS0 cw0 hret C hp3 hp2 hp1 hp0 ha4 ha3 ha2 hcw hpr hM0; omega))
        simp only [] at rka160
        refine j_iload C 0 dX12_reckons_141 rfl ?_
        refine y_sipush C dX12_reckons_143 rfl ?_
        refine y_icmp_ge C 186 dX12_reckons_146 (by decide) (by exact ⟨⟨la166, ua166⟩, ⟨(by decide), (by decide)⟩⟩) (fun h168 => ?_) (fun h168 => ?_)
        · refine j_iload C 0 dX12_reckons_186 rfl ?_
          refine y_sipush C dX12_reckons_188 rfl ?_
          refine y_icmp_ne C 217 dX12_reckons_191 (by decide) (by exact ⟨⟨la166, ua166⟩, ⟨(by decide), (by decide)⟩⟩) (fun h169 => ?_) (fun h169 => ?_)
          · refine y_iinc C 3 [(5, .int (sI (a159 + (-1)))), (7, .int (sI (M0.1 99 (((281 + (M0.1 99 5).toInt) + a160)).toNat).toInt)), (0, .ref (ad 98)), (1, .int (sI 1)), (6, .int (sI a160))] dX12_reckons_217 rfl (by decide) rfl ?_
            refine j_aload_n C 2 0 dX12_reckons_220 rfl rfl ?_
            refine y_getC C 11 103 fX12_reckons_30 rfl rfl ft_11_15 sm_11_15 rfl hM161 dX12_reckons_221 ?_
            refine j_iload C 0 dX12_reckons_224 rfl ?_
            refine y_iconst C dX12_reckons_226 ?_
            refine y_isub C dX12_reckons_227 ?_
            refine j_iload C 1 dX12_reckons_228 rfl ?_
            refine j_aload_n C 2 0 dX12_reckons_230 rfl rfl ?_
            refine y_getC C 11 103 fX12_reckons_30 rfl rfl ft_11_15 sm_11_15 rfl hM161 dX12_reckons_231 ?_
            refine j_iload C 0 dX12_reckons_234 rfl ?_
            refine y_iconst C dX12_reckons_236 ?_
            refine y_isub C dX12_reckons_237 ?_
            refine y_iald C 49 900 _ _ rfl rfl rfl ak_49 an_49 rfl (sb_49 _) hM161 dX12_reckons_238 (by (clear ua165 la165 ea165 h164 ua163 la163 ea163 fM161 hM161 ih157 u121s u121 pM120 hM120 eM120 ub119 lb119 ub118 lb118 pM117 hM117 eM117 h115 pM111 hM111 eM111 ua110 la110 ea110 pM109 hM109 eM109 ua108 la108 ea108 pM107 hM107 eM107 pM106 hM106 eM106 ua105 la105 ea105 pM104 hM104 eM104 ua103 la103 ea103 pM102 hM102 eM102 cwB0 cwA0 cwE0 zwS0 cw0 hret C hp3 hp2 hp1 hp0 ha4 ha3 ha2 hcw hpr hM0; omega)) (fun a170 ea170 la170 ua170 => ?_)
            obtain rfl : a170 = (M161.1 103 (((a159 + (-1)) - 1)).toNat).toInt := ea170
            refine j_aload_n C 2 0 dX12_reckons_239 rfl rfl ?_
            refine y_getC C 11 103 fX12_reckons_30 rfl rfl ft_11_15 sm_11_15 rfl hM161 dX12_reckons_240 ?_
            refine j_iload C 0 dX12_reckons_243 rfl ?_
            refine y_iald C 49 900 _ _ rfl rfl rfl ak_49 an_49 rfl (sb_49 _) hM161 dX12_reckons_245 (by (clear ua170 la170 ua165 la165 ea165 h164 ua163 la163 ea163 fM161 hM161 ih157 u121s u121 pM120 hM120 eM120 ub119 lb119 ub118 lb118 pM117 hM117 eM117 h115 pM111 hM111 eM111 ua110 la110 ea110 pM109 hM109 eM109 ua108 la108 ea108 pM107 hM107 eM107 pM106 hM106 eM106 ua105 la105 ea105 pM104 hM104 eM104 ua103 la103 ea103 pM102 hM102 eM102 cwB0 cwA0 cwE0 zwS0 cw0 hret C hp3 hp2 hp1 hp0 ha4 ha3 ha2 hcw hpr hM0; omega)) (fun a171 ea171 la171 ua171 => ?_)
            obtain rfl : a171 = (M161.1 103 ((a159 + (-1))).toNat).toInt := ea171
            refine j_callSi C (d := 0) (As := [.int (sI (M0.1 99 (((281 + (M0.1 99 5).toInt) + a160)).toNat).toInt), .int (sI (M161.1 103 (((a159 + (-1)) - 1)).toNat).toInt), .int (sI (M161.1 103 ((a159 + (-1))).toNat).toInt)]) (st := [.int (sI ((a159 + (-1)) - 1)), .ref (ad 103)]) (s1_X12_between hM161 (M0.1 99 (((281 + (M0.1 99 5).toInt) + a160)).toNat).toInt (by exact ⟨la166, ua166⟩) (M161.1 103 (((a159 + (-1)) - 1)).toNat).toInt (by exact ⟨la170, ua170⟩) (M161.1 103 ((a159 + (-1))).toNat).toInt (by exact ⟨la171, ua171⟩)) gX12_reckons_X12_between rfl hdX12_betweens (by decide) (Nat.le_of_ble_eq_true rfl) dX12_reckons_246 rfl (fun r172 M173 h174 => ?_)
            obtain ⟨a176, rfl, rfl, h175⟩ := h174
            obtain rfl : a176 = (btF (M0.1 99 (((281 + (M0.1 99 5).toInt) + a160)).toNat).toInt (M161.1 103 (((a159 + (-1)) - 1)).toNat).toInt (M161.1 103 ((a159 + (-1))).toNat).toInt) := by exact h175.2.2
            refine y_iastF C 49 900 rfl rfl rfl ak_49 an_49 rfl (sb_49 _) hM161 (PM.w hpr rfl rfl) dX12_reckons_249 (by (clear h175 ua171 la171 ua170 la170 ua165 la165 ea165 h164 ua163 la163 ea163 fM161 hM161 ih157 u121s u121 pM120 hM120 eM120 ub119 lb119 ub118 lb118 pM117 hM117 eM117 h115 pM111 hM111 eM111 ua110 la110 ea110 pM109 hM109 eM109 ua108 la108 ea108 pM107 hM107 eM107 pM106 hM106 eM106 ua105 la105 ea105 pM104 hM104 eM104 ua103 la103 ea103 pM102 hM102 eM102 cwB0 cwA0 cwE0 zwS0 cw0 hret C hp3 hp2 hp1 hp0 ha4 ha3 ha2 hcw hpr hM0; omega)) (fun M177 eM177 hM177 => ?_)
            have pM177 := pi_o eM177 (by decide) (by decide) (by exact h162.2.2.2.2.2.2.2.2.2.1)
            have u178 := st_bin (W := (wdF (M0.1 99) a2 a3 a4)) (f := (M0.1 99)) (o := (281 + (M0.1 99 5).toInt)) (i := a160) eM177 (by exact h162.2.2.2.2.2.1) (by exact ⟨⟨h175.1, h175.2.1⟩, ⟨h162.2.2.1, ⟨(by (clear pM177 hM177 eM177 ua171 la171 ua170 la170 ua165 la165 ea165 h164 ua163 la163 ea163 fM161 hM161 ih157 u121s u121 pM120 hM120 eM120 ub119 lb119 ub118 lb118 pM117 hM117 eM117 h115 pM111 hM111 eM111 ua110 la110 ea110 pM109 hM109 eM109 ua108 la108 ea108 pM107 hM107 eM107 pM106 hM106 eM106 ua105 la105 ea105 pM104 hM104 eM104 ua103 la103 ea103 pM102 hM102 eM102 cwB0 cwA0 cwE0 zwS0 cw0 hret C hp3 hp2 hp1 hp0 ha4 ha3 ha2 hcw hpr hM0; omega)), ⟨(by (clear pM177 hM177 eM177 ua171 la171 ua170 la170 ua165 la165 ea165 h164 ua163 la163 ea163 fM161 hM161 ih157 u121s u121 pM120 hM120 eM120 ub119 lb119 ub118 lb118 pM117 hM117 eM117 h115 pM111 hM111 eM111 ua110 la110 ea110 pM109 hM109 eM109 ua108 la108 ea108 pM107 hM107 eM107 pM106 hM106 eM106 ua105 la105 ea105 pM104 hM104 eM104 ua103 la103 ea103 pM102 hM102 eM102 cwB0 cwA0 cwE0 zwS0 cw0 hret C hp3 hp2 hp1 hp0 ha4 ha3 ha2 hcw hpr hM0; omega)), ⟨h168, h169⟩⟩⟩⟩⟩) rfl
            have u178w := wd_keep (W := (wdF (M0.1 99) a2 a3 a4)) eM177 (by exact h162.2.2.2.2.2.2.1)
            refine y_iinc C 4 [(6, .int (sI (a160 + 1))), (5, .int (sI (a159 + (-1)))), (7, .int (sI (M0.1 99 (((281 + (M0.1 99 5).toInt) + a160)).toNat).toInt)), (0, .ref (ad 98)), (1, .int (sI 1))] dX12_reckons_250 rfl (by decide) rfl ?_
            refine j_goto C 105 dX12_reckons_253 (by decide) ?_
            refine j_lv [3, 4, 1, 0] rfl ?_; exact ih157 (a159 + (-1)) (a160 + 1) M177 (by (clear hM177 eM177 h175 ua171 la171 ua170 la170 ua165 la165 ea165 ua163 la163 fM161 hM161 ih157 u121s u121 pM120 hM120 eM120 ub119 lb119 ub118 lb118 pM117 hM117 eM117 h115 pM111 hM111 eM111 ua110 la110 ea110 pM109 hM109 eM109 ua108 la108 ea108 pM107 hM107 eM107 pM106 hM106 eM106 ua105 la105 ea105 pM104 hM104 eM104 ua103 la103 ea103 pM102 hM102 eM102 cwA0 cwE0 zwS0 cw0 hret C hp3 hp2 hp1 hp0 ha4 ha3 ha2 hcw hpr hM0; omega)) hM177 ((FR.rf.tr fM161 (by decide)).wI eM177 (by decide))
          · refine j_aload_n C 1 0 dX12_reckons_194 rfl rfl ?_
            refine y_getC C 11 103 fX12_reckons_30 rfl rfl ft_11_15 sm_11_15 rfl hM161 dX12_reckons_195 ?_
            refine j_iload C 3 dX12_reckons_198 rfl ?_
            refine y_iconst C dX12_reckons_200 ?_
            refine y_isub C dX12_reckons_201 ?_
            refine y_iconst C dX12_reckons_202 ?_
            refine j_aload_n C 1 0 dX12_reckons_203 rfl rfl ?_
            refine y_getC C 11 103 fX12_reckons_30 rfl rfl ft_11_15 sm_11_15 rfl hM161 dX12_reckons_204 ?_
            refine j_iload C 3 dX12_reckons_207 rfl ?_
            refine y_iconst C dX12_reckons_209 ?_
            refine y_isub C dX12_reckons_210 ?_
            refine y_iald C 49 900 _ _ rfl rfl rfl ak_49 an_49 rfl (sb_49 _) hM161 dX12_reckons_211 (by (clear h168 ua166 la166 ua165 la165 ea165 h164 ua163 la163 ea163 fM161 hM161 ih157 u121s u121 pM120 hM120 eM120 ub119 lb119 ub118 lb118 pM117 hM117 eM117 h115 pM111 hM111 eM111 ua110 la110 ea110 pM109 hM109 eM109 ua108 la108 ea108 pM107 hM107 eM107 pM106 hM106 eM106 ua105 la105 ea105 pM104 hM104 eM104 ua103 la103 ea103 pM102 hM102 eM102 cwB0 cwA0 cwE0 zwS0 cw0 hret C hp3 hp2 hp1 hp0 ha4 ha3 ha2 hcw hpr hM0; omega)) (fun a179 ea179 la179 ua179 => ?_)
            obtain rfl : a179 = (M161.1 103 ((a159 - 1)).toNat).toInt := ea179
            refine e_isub C dX12_reckons_212 (fun lb180 ub180 => ?_)
            refine y_iastF C 49 900 rfl rfl rfl ak_49 an_49 rfl (sb_49 _) hM161 (PM.w hpr rfl rfl) dX12_reckons_213 (by (clear ub180 lb180 ua179 la179 h168 ua166 la166 ua165 la165 ea165 h164 ua163 la163 ea163 fM161 hM161 ih157 u121s u121 pM120 hM120 eM120 ub119 lb119 ub118 lb118 pM117 hM117 eM117 h115 pM111 hM111 eM111 ua110 la110 ea110 pM109 hM109 eM109 ua108 la108 ea108 pM107 hM107 eM107 pM106 hM106 eM106 ua105 la105 ea105 pM104 hM104 eM104 ua103 la103 ea103 pM102 hM102 eM102 cwB0 cwA0 cwE0 zwS0 cw0 hret C hp3 hp2 hp1 hp0 ha4 ha3 ha2 hcw hpr hM0; omega)) (fun M181 eM181 hM181 => ?_)
            have pM181 := pi_o eM181 (by decide) (by decide) (by exact h162.2.2.2.2.2.2.2.2.2.1)
            have u182 := st_not (W := (wdF (M0.1 99) a2 a3 a4)) (f := (M0.1 99)) (o := (281 + (M0.1 99 5).toInt)) (i := a160) eM181 (by exact h162.2.2.2.2.2.1) (by exact ⟨h162.2.2.1, ⟨(by (clear pM181 hM181 eM181 ub180 lb180 ua179 la179 h168 ua166 la166 ua165 la165 ea165 h164 ua163 la163 ea163 fM161 hM161 ih157 u121s u121 pM120 hM120 eM120 ub119 lb119 ub118 lb118 pM117 hM117 eM117 h115 pM111 hM111 eM111 ua110 la110 ea110 pM109 hM109 eM109 ua108 la108 ea108 pM107 hM107 eM107 pM106 hM106 eM106 ua105 la105 ea105 pM104 hM104 eM104 ua103 la103 ea103 pM102 hM102 eM102 cwB0 cwA0 cwE0 zwS0 cw0 hret C hp3 hp2 hp1 hp0 ha4 ha3 ha2 hcw hpr hM0; omega)), ⟨h162.2.2.2.2.1, h169⟩⟩⟩)
            have u182w := wd_keep (W := (wdF (M0.1 99) a2 a3 a4)) eM181 (by exact h162.2.2.2.2.2.2.1)
            refine j_goto C 250 dX12_reckons_214 (by decide) ?_
            refine y_iinc C 4 [(6, .int (sI (a160 + 1))), (7, .int (sI (M0.1 99 (((281 + (M0.1 99 5).toInt) + a160)).toNat).toInt)), (0, .ref (ad 98)), (1, .int (sI 1)), (5, .int (sI a159))] dX12_reckons_250 rfl (by decide) rfl ?_
            refine j_goto C 105 dX12_reckons_253 (by decide) ?_
            refine j_lv [2, 3, 4, 0] rfl ?_; exact ih157 a159 (a160 + 1) M181 (by exact ⟨h162.1, ⟨h162.2.1, ⟨(by (clear hM181 eM181 ub180 lb180 ua179 la179 h168 ua166 la166 ua165 la165 ea165 ua163 la163 fM161 hM161 ih157 u121s u121 pM120 hM120 eM120 ub119 lb119 ub118 lb118 pM117 hM117 eM117 h115 pM111 hM111 eM111 ua110 la110 ea110 pM109 hM109 eM109 ua108 la108 ea108 pM107 hM107 eM107 pM106 hM106 eM106 ua105 la105 ea105 pM104 hM104 eM104 ua103 la103 ea103 pM102 hM102 eM102 cwA0 cwE0 zwS0 cw0 hret C hp3 hp2 hp1 hp0 ha4 ha3 ha2 hcw hpr hM0; omega)), ⟨(by (clear hM181 eM181 ub180 lb180 ua179 la179 h168 ua166 la166 ua165 la165 ea165 ua163 la163 fM161 hM161 ih157 u121s u121 pM120 hM120 eM120 ub119 lb119 ub118 lb118 pM117 hM117 eM117 h115 pM111 hM111 eM111 ua110 la110 ea110 pM109 hM109 eM109 ua108 la108 ea108 pM107 hM107 eM107 pM106 hM106 eM106 ua105 la105 ea105 pM104 hM104 eM104 ua103 la103 ea103 pM102 hM102 eM102 cwA0 cwE0 zwS0 cw0 hret C hp3 hp2 hp1 hp0 ha4 ha3 ha2 hcw hpr hM0; omega)), ⟨(by (clear hM181 eM181 ub180 lb180 ua179 la179 h168 ua166 la166 ua165 la165 ea165 ua163 la163 fM161 hM161 ih157 u121s u121 pM120 hM120 eM120 ub119 lb119 ub118 lb118 pM117 hM117 eM117 h115 pM111 hM111 eM111 ua110 la110 ea110 pM109 hM109 eM109 ua108 la108 ea108 pM107 hM107 eM107 pM106 hM106 eM106 ua105 la105 ea105 pM104 hM104 eM104 ua103 la103 ea103 pM102 hM102 eM102 cwA0 cwE0 zwS0 cw0 hret C hp3 hp2 hp1 hp0 ha4 ha3 ha2 hcw hpr hM0; omega)), ⟨u182, ⟨u182w, ⟨(by (clear hM181 eM181 ub180 lb180 ua179 la179 h168 ua166 la166 ua165 la165 ea165 ua163 la163 fM161 hM161 ih157 u121s u121 pM120 hM120 eM120 ub119 lb119 ub118 lb118 pM117 hM117 eM117 h115 pM111 hM111 eM111 ua110 la110 ea110 pM109 hM109 eM109 ua108 la108 ea108 pM107 hM107 eM107 pM106 hM106 eM106 ua105 la105 ea105 pM104 hM104 eM104 ua103 la103 ea103 pM102 hM102 eM102 cwA0 cwE0 zwS0 cw0 hret C hp3 hp2 hp1 hp0 ha4 ha3 ha2 hcw hpr hM0; omega)), ⟨(by (clear hM181 eM181 ub180 lb180 ua179 la179 h168 ua166 la166 ua165 la165 ea165 ua163 la163 fM161 hM161 ih157 u121s u121 pM120 hM120 eM120 ub119 lb119 ub118 lb118 pM117 hM117 eM117 h115 pM111 hM111 eM111 ua110 la110 ea110 pM109 hM109 eM109 ua108 la108 ea108 pM107 hM107 eM107 pM106 hM106 eM106 ua105 la105 ea105 pM104 hM104 eM104 ua103 la103 ea103 pM102 hM102 eM102 cwA0 cwE0 zwS0 cw0 hret C hp3 hp2 hp1 hp0 ha4 ha3 ha2 hcw hpr hM0; omega)), ⟨pM181, (by (clear hM181 eM181 ub180 lb180 ua179 la179 h168 ua166 la166 ua165 la165 ea165 ua163 la163 fM161 hM161 ih157 u121s u121 pM120 hM120 eM120 ub119 lb119 ub118 lb118 pM117 hM117 eM117 h115 pM111 hM111 eM111 ua110 la110 ea110 pM109 hM109 eM109 ua108 la108 ea108 pM107 hM107 eM107 pM106 hM106 eM106 ua105 la105 ea105 pM104 hM104 eM104 ua103 la103 ea103 pM102 hM102 eM102 cwA0 cwE0 zwS0 cw0 hret C hp3 hp2 hp1 hp0 ha4 ha3 ha2 hcw hpr hM0; omega))⟩⟩⟩⟩⟩⟩⟩⟩⟩⟩) hM181 ((FR.rf.tr fM161 (by decide)).wI eM181 (by decide))
        · refine j_aload_n C 1 0 dX12_reckons_149 rfl rfl ?_
          refine y_getC C 11 103 fX12_reckons_30 rfl rfl ft_11_15 sm_11_15 rfl hM161 dX12_reckons_150 ?_
          refine j_iload C 3 dX12_reckons_153 rfl ?_
          refine j_iload C 0 dX12_reckons_155 rfl ?_
          refine y_sipush C dX12_reckons_157 rfl ?_
          refine y_icmp_ge C 168 dX12_reckons_160 (by decide) (by exact ⟨⟨la166, ua166⟩, ⟨(by decide), (by decide)⟩⟩) (fun h184 => ?_) (fun h184 => ?_)
          · refine j_aload_n C 1 0 dX12_reckons_168 rfl rfl ?_
            refine y_getC C 11 104 fX12_reckons_33 rfl rfl ft_11_16 sm_11_16 rfl hM161 dX12_reckons_169 ?_
            refine j_iload C 0 dX12_reckons_172 rfl ?_
            refine y_sipush C dX12_reckons_174 rfl ?_
            refine y_isub C dX12_reckons_177 ?_
            refine y_iald C 50 8 _ _ rfl rfl rfl ak_50 an_50 rfl (sb_50 _) hM161 dX12_reckons_178 (by (clear ua165 la165 ea165 h164 ua163 la163 ea163 fM161 hM161 h162 ih157 u121s u121 pM120 hM120 eM120 ub119 lb119 ub118 lb118 pM117 hM117 eM117 h115 pM111 hM111 eM111 ua110 la110 ea110 pM109 hM109 eM109 ua108 la108 ea108 pM107 hM107 eM107 pM106 hM106 eM106 ua105 la105 ea105 pM104 hM104 eM104 ua103 la103 ea103 pM102 hM102 eM102 cwB0 cwA0 cwE0 zwS0 cw0 hret C hp3 hp2 hp1 hp0 ha4 ha3 ha2 hcw hpr hM0; omega)) (fun a185 ea185 la185 ua185 => ?_)
            obtain rfl : a185 = (M161.1 104 (((M0.1 99 (((281 + (M0.1 99 5).toInt) + a160)).toNat).toInt - 1000)).toNat).toInt := ea185
            have u186a := pvF_s (wdF (M0.1 99) a2 a3 a4) (M0.1 99 (((281 + (M0.1 99 5).toInt) + a160)).toNat).toInt
            have u186b := fun q1 q2 => wd_get (M := M161) (W := (wdF (M0.1 99) a2 a3 a4)) (by exact h162.2.2.2.2.2.2.1) ((M0.1 99 (((281 + (M0.1 99 5).toInt) + a160)).toNat).toInt - 1000) q1 q2
            refine y_iastF C 49 900 rfl rfl rfl ak_49 an_49 rfl (sb_49 _) hM161 (PM.w hpr rfl rfl) dX12_reckons_179 (by exact ⟨h162.1, (by (clear u186b u186a ua185 la185 h184 h168 rka160 ua166 la166 ea166 ua165 la165 ea165 ua163 la163 fM161 hM161 ih157 u121s u121 pM120 hM120 eM120 ub119 lb119 ub118 lb118 pM117 hM117 eM117 h115 pM111 hM111 eM111 ua110 la110 ea110 pM109 hM109 eM109 ua108 la108 ea108 pM107 hM107 eM107 pM106 hM106 eM106 ua105 la105 ea105 pM104 hM104 eM104 ua103 la103 ea103 pM102 hM102 eM102 cwA0 cwE0 zwS0 cw0 hret C hp3 hp2 hp1 hp0 ha4 ha3 ha2 hcw hpr hM0; omega))⟩) (fun M187 eM187 hM187 => ?_)
            have pM187 := pi_o eM187 (by decide) (by decide) (by exact h162.2.2.2.2.2.2.2.2.2.1)
            have u188 := st_push (W := (wdF (M0.1 99) a2 a3 a4)) (f := (M0.1 99)) (o := (281 + (M0.1 99 5).toInt)) (i := a160) eM187 (by exact h162.2.2.2.2.2.1) (by exact ⟨⟨la185, ua185⟩, ⟨h162.2.2.1, ⟨h162.1, ⟨h162.2.2.2.2.1, ⟨(by (clear pM187 hM187 eM187 ua165 la165 ea165 h164 ua163 la163 ea163 fM161 hM161 ih157 u121s u121 pM120 hM120 eM120 ub119 lb119 ub118 lb118 pM117 hM117 eM117 h115 pM111 hM111 eM111 ua110 la110 ea110 pM109 hM109 eM109 ua108 la108 ea108 pM107 hM107 eM107 pM106 hM106 eM106 ua105 la105 ea105 pM104 hM104 eM104 ua103 la103 ea103 pM102 hM102 eM102 cwB0 cwA0 cwE0 zwS0 cw0 hret C hp3 hp2 hp1 hp0 ha4 ha3 ha2 hcw hpr hM0; omega)), (by (clear pM187 hM187 eM187 ua165 la165 ea165 h164 ua163 la163 ea163 fM161 hM161 ih157 u121s u121 pM120 hM120 eM120 ub119 lb119 ub118 lb118 pM117 hM117 eM117 h115 pM111 hM111 eM111 ua110 la110 ea110 pM109 hM109 eM109 ua108 la108 ea108 pM107 hM107 eM107 pM106 hM106 eM106 ua105 la105 ea105 pM104 hM104 eM104 ua103 la103 ea103 pM102 hM102 eM102 cwB0 cwA0 cwE0 zwS0 cw0 hret C hp3 hp2 hp1 hp0 ha4 ha3 ha2 hcw hpr hM0; omega))⟩⟩⟩⟩⟩)
            have u188w := wd_keep (W := (wdF (M0.1 99) a2 a3 a4)) eM187 (by exact h162.2.2.2.2.2.2.1)
            refine y_iinc C 3 [(5, .int (sI (a159 + 1))), (7, .int (sI (M0.1 99 (((281 + (M0.1 99 5).toInt) + a160)).toNat).toInt)), (0, .ref (ad 98)), (1, .int (sI 1)), (6, .int (sI a160))] dX12_reckons_180 rfl (by decide) rfl ?_
            refine j_goto C 250 dX12_reckons_183 (by decide) ?_
            refine y_iinc C 4 [(6, .int (sI (a160 + 1))), (5, .int (sI (a159 + 1))), (7, .int (sI (M0.1 99 (((281 + (M0.1 99 5).toInt) + a160)).toNat).toInt)), (0, .ref (ad 98)), (1, .int (sI 1))] dX12_reckons_250 rfl (by decide) rfl ?_
            refine j_goto C 105 dX12_reckons_253 (by decide) ?_
            refine j_lv [3, 4, 1, 0] rfl ?_; exact ih157 (a159 + 1) (a160 + 1) M187 (by (clear hM187 eM187 ua185 la185 ua165 la165 ea165 ua163 la163 fM161 hM161 ih157 u121s u121 pM120 hM120 eM120 ub119 lb119 ub118 lb118 pM117 hM117 eM117 h115 pM111 hM111 eM111 ua110 la110 ea110 pM109 hM109 eM109 ua108 la108 ea108 pM107 hM107 eM107 pM106 hM106 eM106 ua105 la105 ea105 pM104 hM104 eM104 ua103 la103 ea103 pM102 hM102 eM102 cwA0 cwE0 zwS0 cw0 hret C hp3 hp2 hp1 hp0 ha4 ha3 ha2 hcw hpr hM0; omega)) hM187 ((FR.rf.tr fM161 (by decide)).wI eM187 (by decide))
          · refine j_iload C 0 dX12_reckons_163 rfl ?_
            refine j_goto C 179 dX12_reckons_165 (by decide) ?_
            have u190a := pvF_s (wdF (M0.1 99) a2 a3 a4) (M0.1 99 (((281 + (M0.1 99 5).toInt) + a160)).toNat).toInt
            have u190b := fun q1 q2 => wd_get (M := M161) (W := (wdF (M0.1 99) a2 a3 a4)) (by exact h162.2.2.2.2.2.2.1) ((M0.1 99 (((281 + (M0.1 99 5).toInt) + a160)).toNat).toInt - 1000) q1 q2
            refine y_iastF C 49 900 rfl rfl rfl ak_49 an_49 rfl (sb_49 _) hM161 (PM.w hpr rfl rfl) dX12_reckons_179 (by exact ⟨h162.1, (by omega)⟩) (fun M191 eM191 hM191 => ?_)
            have pM191 := pi_o eM191 (by decide) (by decide) (by exact h162.2.2.2.2.2.2.2.2.2.1)
            have u192 := st_push (W := (wdF (M0.1 99) a2 a3 a4)) (f := (M0.1 99)) (o := (281 + (M0.1 99 5).toInt)) (i := a160) eM191 (by exact h162.2.2.2.2.2.1) (by exact ⟨⟨la166, ua166⟩, ⟨h162.2.2.1, ⟨h162.1, ⟨h162.2.2.2.2.1, ⟨(by (clear pM191 hM191 eM191 rka160 ua165 la165 ea165 h164 ua163 la163 ea163 fM161 hM161 ih157 u121s u121 pM120 hM120 eM120 ub119 lb119 ub118 lb118 pM117 hM117 eM117 h115 pM111 hM111 eM111 ua110 la110 ea110 pM109 hM109 eM109 ua108 la108 ea108 pM107 hM107 eM107 pM106 hM106 eM106 ua105 la105 ea105 pM104 hM104 eM104 ua103 la103 ea103 pM102 hM102 eM102 cwB0 cwA0 cwE0 zwS0 cw0 hret C hp3 hp2 hp1 hp0 ha4 ha3 ha2 hcw hpr hM0; omega)), (by (clear pM191 hM191 eM191 rka160 ua165 la165 ea165 h164 ua163 la163 ea163 fM161 hM161 ih157 u121s u121 pM120 hM120 eM120 ub119 lb119 ub118 lb118 pM117 hM117 eM117 h115 pM111 hM111 eM111 ua110 la110 ea110 pM109 hM109 eM109 ua108 la108 ea108 pM107 hM107 eM107 pM106 hM106 eM106 ua105 la105 ea105 pM104 hM104 eM104 ua103 la103 ea103 pM102 hM102 eM102 cwB0 cwA0 cwE0 zwS0 cw0 hret C hp3 hp2 hp1 hp0 ha4 ha3 ha2 hcw hpr hM0; omega))⟩⟩⟩⟩⟩)
            have u192w := wd_keep (W := (wdF (M0.1 99) a2 a3 a4)) eM191 (by exact h162.2.2.2.2.2.2.1)
            refine y_iinc C 3 [(5, .int (sI (a159 + 1))), (7, .int (sI (M0.1 99 (((281 + (M0.1 99 5).toInt) + a160)).toNat).toInt)), (0, .ref (ad 98)), (1, .int (sI 1)), (6, .int (sI a160))] dX12_reckons_180 rfl (by decide) rfl ?_
            refine j_goto C 250 dX12_reckons_183 (by decide) ?_
            refine y_iinc C 4 [(6, .int (sI (a160 + 1))), (5, .int (sI (a159 + 1))), (7, .int (sI (M0.1 99 (((281 + (M0.1 99 5).toInt) + a160)).toNat).toInt)), (0, .ref (ad 98)), (1, .int (sI 1))] dX12_reckons_250 rfl (by decide) rfl ?_
            refine j_goto C 105 dX12_reckons_253 (by decide) ?_
            refine j_lv [3, 4, 1, 0] rfl ?_; exact ih157 (a159 + 1) (a160 + 1) M191 (by (clear hM191 eM191 ua165 la165 ea165 ua163 la163 fM161 hM161 ih157 u121s u121 pM120 hM120 eM120 ub119 lb119 ub118 lb118 pM117 hM117 eM117 h115 pM111 hM111 eM111 ua110 la110 ea110 pM109 hM109 eM109 ua108 la108 ea108 pM107 hM107 eM107 pM106 hM106 eM106 ua105 la105 ea105 pM104 hM104 eM104 ua103 la103 ea103 pM102 hM102 eM102 cwA0 cwE0 zwS0 cw0 hret C hp3 hp2 hp1 hp0 ha4 ha3 ha2 hcw hpr hM0; omega)) hM191 ((FR.rf.tr fM161 (by decide)).wI eM191 (by decide))
  refine j_lv [2, 3, 1, 0] rfl ?_; exact L158 2010 0 0 M120 (by exact ⟨(by decide), ⟨(by decide), ⟨(by decide), ⟨(by decide), ⟨u121s.2.symm, ⟨u121s.1, ⟨u121, ⟨(by decide), ⟨cwB0.1, ⟨pM120, (by decide)⟩⟩⟩⟩⟩⟩⟩⟩⟩⟩) hM120 ((((((((FR.rf.wI eM102 (by decide)).wI eM104 (by decide)).wI eM106 (by decide)).wI eM107 (by decide)).wI eM109 (by decide)).wI eM111 (by decide)).wI eM117 (by decide)).wI eM120 (by decide))
set_option maxHeartbeats 4000000 in
theorem s1_X12_mayBuy {l : Launch} {dC : Nat → ClassId} {dI : Nat → Nat → Nat} {ad : Nat → Nat} {cA : Nat → ClassId} {pr : Nat → Nat → Bool} {Kz : mm_M} {M0 : mm_M} (hM0 : INV pr Kz M0) (hpr : PM pr) (hcw : CWK pr Kz) (a1 : Int) (ha1 : -2147483648 ≤ a1 ∧ a1 ≤ 2147483647) (a2 : Int) (ha2 : -2147483648 ≤ a2 ∧ a2 ≤ 2147483647) (a3 : Int) (ha3 : -2147483648 ≤ a3 ∧ a3 ≤ 2147483647) (hp0 : 0 ≤ a1 ∧ a1 ≤ 5) (hp1 : 0 ≤ a2 ∧ a2 ≤ 7) (hp2 : b01 (PI M0) = 1) : Ci l 2 yX12_mayBuy wsX12_mayBuy dC dI ad cA [.ref (ad 98), .int (sI a1), .int (sI a2), .int (sI a3)] M0 (fun r M' => ∃ a : Int, r = sI a ∧ INV pr Kz M' ∧ FR [103, 104] M0 M' ∧ 0 ≤ a ∧ a ≤ 1 ∧ (a = (mbF (M0.1 99) a1 a2 a3)) ∧ (b01 (PI M') = 1)) := by
  refine ci_of (cc := cX12_mayBuy) (maxL := 4) (ty := .boolean) (lv := [(0, .ref (ad 98)), (1, .int (sI a1)), (2, .int (sI a2)), (3, .int (sI a3))]) (by decide) rfl (fun r M' hp => by obtain ⟨a, rfl, -, h⟩ := hp; rcases (show a = 0 ∨ a = 1 by (clear hp2 hp1 hp0 ha3 ha2 ha1 hcw hpr hM0; omega)) with rfl | rfl <;> rfl) (Nat.le_of_ble_eq_true rfl) rfl ?_
  intro p e s m args below meth c A Q C hret
  refine j_aload_n C 0 0 dX12_mayBuy_0 rfl rfl ?_
  refine y_getC C 11 99 fX12_mayBuy_13 rfl rfl ft_11_1 sm_11_1 rfl hM0 dX12_mayBuy_1 ?_
  refine y_bipush C dX12_mayBuy_4 rfl ?_
  refine y_ialdH C 45 3543 rfl rfl rfl ak_45 an_45 rfl _ _ hM0 (hr_45_28_28 _ (by exact (by decide)) (by exact (by decide))) dX12_mayBuy_6 (by exact ⟨(by decide), (by decide)⟩) (fun a101 ea101 la101 ua101 => ?_)
  obtain rfl : a101 = (M0.1 99 28).toInt := ea101
  refine y_i2l C dX12_mayBuy_7 (by omega) ?_
  refine j_iload_n C 2 2 dX12_mayBuy_8 rfl rfl ?_
  refine j_callSi C (d := 0) (As := [.long (sJ (M0.1 99 28).toInt), .int (sI a2)]) (st := []) (s1_X12_isIn hM0 (M0.1 99 28).toInt (by omega) a2 (by exact ⟨ha2.1, ha2.2⟩)) gX12_mayBuy_X12_isIn rfl hdX12_isIns (by decide) (Nat.le_of_ble_eq_true rfl) dX12_mayBuy_9 rfl (fun r102 M103 h104 => ?_)
  obtain ⟨a106, rfl, rfl, h105⟩ := h104
  obtain rfl : a106 = (iiF (M0.1 99 28).toInt a2) := by exact h105.2.2
  refine y_if_ne C 36 dX12_mayBuy_12 (by decide) (by omega) (fun h107 => ?_) (fun h107 => ?_)
  · refine y_iconst C dX12_mayBuy_36 ?_
    have u108 := mbF_s (M0.1 99) a1 a2 a3
    exact hret _ _ _ _ dX12_mayBuy_37 ⟨0, rfl, hM0, FR.rf, by exact ⟨(by decide), ⟨(by decide), ⟨(by (clear h105 ua101 la101 hret C hp1 hp0 ha3 ha2 ha1 hcw hpr hM0; omega)), hp2⟩⟩⟩⟩
  · refine j_aload_n C 0 0 dX12_mayBuy_15 rfl rfl ?_
    refine y_getC C 11 99 fX12_mayBuy_13 rfl rfl ft_11_1 sm_11_1 rfl hM0 dX12_mayBuy_16 ?_
    refine y_bipush C dX12_mayBuy_19 rfl ?_
    refine j_iload_n C 2 2 dX12_mayBuy_21 rfl rfl ?_
    refine y_iadd C dX12_mayBuy_22 ?_
    refine y_ialdF C 45 3543 rfl rfl rfl ak_45 an_45 rfl dX12_mayBuy_23 (by (clear h107 h105 ua101 la101 hret C hp2 hp0 ha3 ha1 hcw hpr hM0; omega)) (fun a109 ea109 la109 ua109 => ?_)
    obtain rfl : a109 = (M0.1 99 ((33 + a2)).toNat).toInt := ea109
    refine j_aload_n C 0 0 dX12_mayBuy_24 rfl rfl ?_
    refine y_getC C 11 99 fX12_mayBuy_13 rfl rfl ft_11_1 sm_11_1 rfl hM0 dX12_mayBuy_25 ?_
    refine y_bipush C dX12_mayBuy_28 rfl ?_
    refine j_iload_n C 1 1 dX12_mayBuy_30 rfl rfl ?_
    refine y_iadd C dX12_mayBuy_31 ?_
    refine y_ialdF C 45 3543 rfl rfl rfl ak_45 an_45 rfl dX12_mayBuy_32 (by (clear ua109 la109 h107 h105 ua101 la101 hret C hp2 hp1 ha3 ha2 hcw hpr hM0; omega)) (fun a110 ea110 la110 ua110 => ?_)
    obtain rfl : a110 = (M0.1 99 ((8 + a1)).toNat).toInt := ea110
    refine y_icmp_le C 38 dX12_mayBuy_33 (by decide) (by exact ⟨⟨la109, ua109⟩, ⟨la110, ua110⟩⟩) (fun h111 => ?_) (fun h111 => ?_)
    · refine j_aload_n C 0 0 dX12_mayBuy_38 rfl rfl ?_
      refine y_getC C 11 99 fX12_mayBuy_13 rfl rfl ft_11_1 sm_11_1 rfl hM0 dX12_mayBuy_39 ?_
      refine y_iconst C dX12_mayBuy_42 ?_
      refine y_ialdF C 45 3543 rfl rfl rfl ak_45 an_45 rfl dX12_mayBuy_43 (by exact ⟨(by decide), (by decide)⟩) (fun a112 ea112 la112 ua112 => ?_)
      obtain rfl : a112 = (M0.1 99 3).toInt := ea112
      refine y_if_eq C 59 dX12_mayBuy_44 (by decide) (by exact ⟨la112, ua112⟩) (fun h113 => ?_) (fun h113 => ?_)
      · refine y_iconst C dX12_mayBuy_59 ?_
        refine j_goto C 64 dX12_mayBuy_60 (by decide) ?_
        have u114 := mbF_s (M0.1 99) a1 a2 a3
        exact hret _ _ _ _ dX12_mayBuy_64 ⟨1, rfl, hM0, FR.rf, by exact ⟨(by decide), ⟨(by decide), ⟨(by (clear ua112 la112 ua110 la110 ua109 la109 h105 ua101 la101 hret C hp1 hp0 ha3 ha2 ha1 hcw hpr hM0; omega)), hp2⟩⟩⟩⟩
      · refine j_aload_n C 0 0 dX12_mayBuy_47 rfl rfl ?_
        refine y_iconst C dX12_mayBuy_48 ?_
        refine j_iload_n C 1 1 dX12_mayBuy_49 rfl rfl ?_
        refine j_iload_n C 2 2 dX12_mayBuy_50 rfl rfl ?_
        refine j_iload_n C 3 3 dX12_mayBuy_51 rfl rfl ?_
        refine j_callVi C (d := 1) (As := [.int (sI 1), .int (sI a1), .int (sI a2), .int (sI a3)]) (st := []) 98 (s_lt rfl rfl) (s_kc (c := 11) rfl rfl) (by decide) rfl (s1_X12_reckons hM0 hpr hcw a1 (by exact ⟨ha1.1, ha1.2⟩) a2 (by exact ⟨ha2.1, ha2.2⟩) a3 (by exact ⟨ha3.1, ha3.2⟩) (by exact h113) (by exact ⟨hp0.1, hp0.2⟩) (by exact ⟨hp1.1, hp1.2⟩) (by exact hp2)) gX12_mayBuy_X12_reckons rfl hdX12_reckons (by decide) (Nat.le_of_ble_eq_true rfl) dX12_mayBuy_52 rfl (fun r115 M116 h117 => ?_)
        obtain ⟨a119, rfl, hM116, fM116, h118⟩ := h117
        obtain rfl : a119 = (rkF (M0.1 99) 1 a1 a2 a3) := by exact h118.2.2.1
        refine y_iconst C dX12_mayBuy_55 ?_
        refine y_icmp_ne C 63 dX12_mayBuy_56 (by decide) (by exact ⟨⟨h118.1, h118.2.1⟩, ⟨(by decide), (by decide)⟩⟩) (fun h120 => ?_) (fun h120 => ?_)
        · refine y_iconst C dX12_mayBuy_63 ?_
          have u121 := mbF_s (M0.1 99) a1 a2 a3
          exact hret _ _ _ _ dX12_mayBuy_64 ⟨0, rfl, hM116, (FR.rf.tr fM116 (by decide)), by exact ⟨(by decide), ⟨(by decide), ⟨(by (clear fM116 hM116 ua112 la112 h111 ua110 la110 ua109 la109 h107 h105 ua101 la101 hret C hp2 hp1 hp0 ha3 ha2 ha1 hcw hpr hM0; omega)), h118.2.2.2⟩⟩⟩⟩
        · refine y_iconst C dX12_mayBuy_59 ?_
          refine j_goto C 64 dX12_mayBuy_60 (by decide) ?_
          have u122 := mbF_s (M0.1 99) a1 a2 a3
          exact hret _ _ _ _ dX12_mayBuy_64 ⟨1, rfl, hM116, (FR.rf.tr fM116 (by decide)), by exact ⟨(by decide), ⟨(by decide), ⟨(by (clear fM116 hM116 h113 ua112 la112 ua110 la110 ua109 la109 h105 ua101 la101 hret C hp2 hp1 hp0 ha3 ha2 ha1 hcw hpr hM0; omega)), h118.2.2.2⟩⟩⟩⟩
    · refine y_iconst C dX12_mayBuy_36 ?_
      have u123 := mbF_s (M0.1 99) a1 a2 a3
      exact hret _ _ _ _ dX12_mayBuy_37 ⟨0, rfl, hM0, FR.rf, by exact ⟨(by decide), ⟨(by decide), ⟨(by (clear ua110 la110 ua109 la109 h107 h105 ua101 la101 hret C hp1 hp0 ha3 ha2 ha1 hcw hpr hM0; omega)), hp2⟩⟩⟩⟩
set_option maxHeartbeats 4000000 in
theorem s2_X12_reckons {l : Launch} {dC : Nat → ClassId} {dI : Nat → Nat → Nat} {ad : Nat → Nat} {cA : Nat → ClassId} {pr : Nat → Nat → Bool} {Kz : mm_M} {M0 : mm_M} (hM0 : INV pr Kz M0) (hpr : PM pr) (hcw : CWK pr Kz) (a2 : Int) (ha2 : -2147483648 ≤ a2 ∧ a2 ≤ 2147483647) (a3 : Int) (ha3 : -2147483648 ≤ a3 ∧ a3 ≤ 2147483647) (a4 : Int) (ha4 : -2147483648 ≤ a4 ∧ a4 ≤ 2147483647) (hp0 : ¬ (M0.1 99 2).toInt = 0) (hp1 : 0 ≤ a2 ∧ a2 ≤ 5) (hp2 : 0 ≤ a3 ∧ a3 ≤ 7) (hp3 : b01 (PI M0) = 1) : Ci l 1 yX12_reckons wsX12_reckons dC dI ad cA [.ref (ad 98), .int (sI 0), .int (sI a2), .int (sI a3), .int (sI a4)] M0 (fun r M' => ∃ a : Int, r = sI a ∧ INV pr Kz M' ∧ FR [103, 104] M0 M' ∧ (-2147483648) ≤ a ∧ a ≤ 2147483647 ∧ (a = (rkF (M0.1 99) 0 a2 a3 a4)) ∧ (b01 (PI M') = 1)) := by
  refine ci_of (cc := cX12_reckons) (maxL := 8) (ty := .int) (lv := [(0, .ref (ad 98)), (1, .int (sI 0)), (2, .int (sI a2)), (3, .int (sI a3)), (4, .int (sI a4))]) (by decide) rfl (fun r M' hp => rfl) (Nat.le_of_ble_eq_true rfl) rfl ?_
  intro p e s m args below meth c A Q C hret
  have cw0 : zwL (M0.1 99) 0 := (hcw M0 hM0).1
  have zwS0 : zwS (M0.1 99) (281 + (M0.1 99 4).toInt) (M0.1 99 6).toInt := cw0.2.1
  have cwE0 : (M0.1 99 2).toInt = 0 ∨ 1 ≤ dqF (M0.1 99) (281 + (M0.1 99 4).toInt) (M0.1 99 6).toInt.toNat := cw0.2.2
  have cwA0 := INV.rd hM0 (i := 99) (c := 45) (k := 4) rfl rfl
  have cwB0 := INV.rd hM0 (i := 99) (c := 45) (k := 6) rfl rfl
  refine j_aload_n C 0 0 dX12_reckons_0 rfl rfl ?_
  refine y_getC C 11 104 fX12_reckons_33 rfl rfl ft_11_16 sm_11_16 rfl hM0 dX12_reckons_1 ?_
  refine y_iconst C dX12_reckons_4 ?_
  refine j_iload_n C 2 2 dX12_reckons_5 rfl rfl ?_
  refine y_iastF C 50 8 rfl rfl rfl ak_50 an_50 rfl (sb_50 _) hM0 (PM.w hpr rfl rfl) dX12_reckons_6 (by exact ⟨(by decide), (by decide)⟩) (fun M102 eM102 hM102 => ?_)
  have pM102 := pi_o eM102 (by decide) (by decide) (by exact hp3)
  refine j_aload_n C 0 0 dX12_reckons_7 rfl rfl ?_
  refine y_getC C 11 104 fX12_reckons_33 rfl rfl ft_11_16 sm_11_16 rfl hM102 dX12_reckons_8 ?_
  refine y_iconst C dX12_reckons_11 ?_
  refine j_aload_n C 0 0 dX12_reckons_12 rfl rfl ?_
  refine y_getC C 11 99 fX12_reckons_13 rfl rfl ft_11_1 sm_11_1 rfl hM102 dX12_reckons_13 ?_
  refine y_bipush C dX12_reckons_16 rfl ?_
  refine j_iload_n C 2 2 dX12_reckons_18 rfl rfl ?_
  refine y_iadd C dX12_reckons_19 ?_
  refine y_ialdF C 45 3543 rfl rfl rfl ak_45 an_45 rfl dX12_reckons_20 (by omega) (fun a103 ea103 la103 ua103 => ?_)
  obtain rfl : a103 = (M0.1 99 ((8 + a2)).toNat).toInt := s_fa eM102 (by decide) (ea103)
  refine y_iastF C 50 8 rfl rfl rfl ak_50 an_50 rfl (sb_50 _) hM102 (PM.w hpr rfl rfl) dX12_reckons_21 (by exact ⟨(by decide), (by decide)⟩) (fun M104 eM104 hM104 => ?_)
  have pM104 := pi_o eM104 (by decide) (by decide) (by exact pM102)
  refine j_aload_n C 0 0 dX12_reckons_22 rfl rfl ?_
  refine y_getC C 11 104 fX12_reckons_33 rfl rfl ft_11_16 sm_11_16 rfl hM104 dX12_reckons_23 ?_
  refine y_iconst C dX12_reckons_26 ?_
  refine j_aload_n C 0 0 dX12_reckons_27 rfl rfl ?_
  refine y_getC C 11 99 fX12_reckons_13 rfl rfl ft_11_1 sm_11_1 rfl hM104 dX12_reckons_28 ?_
  refine y_bipush C dX12_reckons_31 rfl ?_
  refine j_iload_n C 2 2 dX12_reckons_33 rfl rfl ?_
  refine y_iadd C dX12_reckons_34 ?_
  refine y_ialdF C 45 3543 rfl rfl rfl ak_45 an_45 rfl dX12_reckons_35 (by omega) (fun a105 ea105 la105 ua105 => ?_)
  obtain rfl : a105 = (M0.1 99 ((14 + a2)).toNat).toInt := s_fa eM102 (by decide) (s_fa eM104 (by decide) (ea105))
  refine y_iastF C 50 8 rfl rfl rfl ak_50 an_50 rfl (sb_50 _) hM104 (PM.w hpr rfl rfl) dX12_reckons_36 (by exact ⟨(by decide), (by decide)⟩) (fun M106 eM106 hM106 => ?_)
  have pM106 := pi_o eM106 (by decide) (by decide) (by exact pM104)
  refine j_aload_n C 0 0 dX12_reckons_37 rfl rfl ?_
  refine y_getC C 11 104 fX12_reckons_33 rfl rfl ft_11_16 sm_11_16 rfl hM106 dX12_reckons_38 ?_
  refine y_iconst C dX12_reckons_41 ?_
  refine j_iload_n C 3 3 dX12_reckons_42 rfl rfl ?_
  refine y_iastF C 50 8 rfl rfl rfl ak_50 an_50 rfl (sb_50 _) hM106 (PM.w hpr rfl rfl) dX12_reckons_43 (by exact ⟨(by decide), (by decide)⟩) (fun M107 eM107 hM107 => ?_)
  have pM107 := pi_o eM107 (by decide) (by decide) (by exact pM106)
  refine j_aload_n C 0 0 dX12_reckons_44 rfl rfl ?_
  refine y_getC C 11 104 fX12_reckons_33 rfl rfl ft_11_16 sm_11_16 rfl hM107 dX12_reckons_45 ?_
  refine y_iconst C dX12_reckons_48 ?_
  refine j_aload_n C 0 0 dX12_reckons_49 rfl rfl ?_
  refine y_getC C 11 99 fX12_reckons_13 rfl rfl ft_11_1 sm_11_1 rfl hM107 dX12_reckons_50 ?_
  refine y_bipush C dX12_reckons_53 rfl ?_
  refine j_iload_n C 3 3 dX12_reckons_55 rfl rfl ?_
  refine y_iadd C dX12_reckons_56 ?_
  refine y_ialdF C 45 3543 rfl rfl rfl ak_45 an_45 rfl dX12_reckons_57 (by omega) (fun a108 ea108 la108 ua108 => ?_)
  obtain rfl : a108 = (M0.1 99 ((33 + a3)).toNat).toInt := s_fa eM102 (by decide) (s_fa eM104 (by decide) (s_fa eM106 (by decide) (s_fa eM107 (by decide) (ea108))))
  refine y_iastF C 50 8 rfl rfl rfl ak_50 an_50 rfl (sb_50 _) hM107 (PM.w hpr rfl rfl) dX12_reckons_58 (by exact ⟨(by decide), (by decide)⟩) (fun M109 eM109 hM109 => ?_)
  have pM109 := pi_o eM109 (by decide) (by decide) (by exact pM107)
  refine j_aload_n C 0 0 dX12_reckons_59 rfl rfl ?_
  refine y_getC C 11 104 fX12_reckons_33 rfl rfl ft_11_16 sm_11_16 rfl hM109 dX12_reckons_60 ?_
  refine y_iconst C dX12_reckons_63 ?_
  refine j_aload_n C 0 0 dX12_reckons_64 rfl rfl ?_
  refine y_getC C 11 99 fX12_reckons_13 rfl rfl ft_11_1 sm_11_1 rfl hM109 dX12_reckons_65 ?_
  refine y_bipush C dX12_reckons_68 rfl ?_
  refine j_iload_n C 3 3 dX12_reckons_70 rfl rfl ?_
  refine y_iadd C dX12_reckons_71 ?_
  refine y_ialdF C 45 3543 rfl rfl rfl ak_45 an_45 rfl dX12_reckons_72 (by omega) (fun a110 ea110 la110 ua110 => ?_)
  obtain rfl : a110 = (M0.1 99 ((41 + a3)).toNat).toInt := s_fa eM102 (by decide) (s_fa eM104 (by decide) (s_fa eM106 (by decide) (s_fa eM107 (by decide) (s_fa eM109 (by decide) (ea110)))))
  refine y_iastF C 50 8 rfl rfl rfl ak_50 an_50 rfl (sb_50 _) hM109 (PM.w hpr rfl rfl) dX12_reckons_73 (by exact ⟨(by decide), (by decide)⟩) (fun M111 eM111 hM111 => ?_)
  have pM111 := pi_o eM111 (by decide) (by decide) (by exact pM109)
  refine j_aload_n C 0 0 dX12_reckons_74 rfl rfl ?_
  refine y_getC C 11 104 fX12_reckons_33 rfl rfl ft_11_16 sm_11_16 rfl hM111 dX12_reckons_75 ?_
  refine y_bipush C dX12_reckons_78 rfl ?_
  refine j_iload C 4 dX12_reckons_80 rfl ?_
  refine j_callSi C (d := 0) (As := [.int (sI a4)]) (st := [.int (sI 6), .ref (ad 104)]) (s1_X12_bitsOf hM111 a4 (by exact ⟨ha4.1, ha4.2⟩)) gX12_reckons_X12_bitsOf rfl hdX12_bitsOfs (by decide) (Nat.le_of_ble_eq_true rfl) dX12_reckons_82 rfl (fun r112 M113 h114 => ?_)
  obtain ⟨a116, rfl, rfl, h115⟩ := h114
  obtain rfl : a116 = (bsF a4 (8 : Int).toNat) := by exact h115.2.2
  refine y_iastF C 50 8 rfl rfl rfl ak_50 an_50 rfl (sb_50 _) hM111 (PM.w hpr rfl rfl) dX12_reckons_85 (by exact ⟨(by decide), (by decide)⟩) (fun M117 eM117 hM117 => ?_)
  have pM117 := pi_o eM117 (by decide) (by decide) (by exact pM111)
  refine j_aload_n C 0 0 dX12_reckons_86 rfl rfl ?_
  refine y_getC C 11 104 fX12_reckons_33 rfl rfl ft_11_16 sm_11_16 rfl hM117 dX12_reckons_87 ?_
  refine y_bipush C dX12_reckons_90 rfl ?_
  refine j_iload C 4 dX12_reckons_92 rfl ?_
  refine j_iload_n C 3 3 dX12_reckons_94 rfl rfl ?_
  refine e_ishr C dX12_reckons_95 (fun lb118 ub118 => ?_)
  refine y_iconst C dX12_reckons_96 ?_
  refine e_iandR C dX12_reckons_97 (by exact ⟨(by decide), (by decide)⟩) (fun lb119 ub119 => ?_)
  refine y_iastF C 50 8 rfl rfl rfl ak_50 an_50 rfl (sb_50 _) hM117 (PM.w hpr rfl rfl) dX12_reckons_98 (by exact ⟨(by decide), (by decide)⟩) (fun M120 eM120 hM120 => ?_)
  have pM120 := pi_o eM120 (by decide) (by decide) (by exact pM117)
  have u121 := wd_of (W := (wdF (M0.1 99) a2 a3 a4)) eM102 eM104 eM106 eM107 eM109 eM111 eM117 eM120 rfl rfl rfl rfl rfl rfl rfl rfl (by exact ⟨⟨ha2.1, ha2.2⟩, ⟨⟨la103, ua103⟩, ⟨⟨la105, ua105⟩, ⟨⟨ha3.1, ha3.2⟩, ⟨⟨la108, ua108⟩, ⟨⟨la110, ua110⟩, ⟨⟨(by (clear pM120 hM120 eM120 ub118 lb118 pM117 hM117 eM117 pM111 hM111 eM111 pM109 hM109 eM109 pM107 hM107 eM107 pM106 hM106 eM106 pM104 hM104 eM104 pM102 hM102 eM102 cwB0 cwA0 cwE0 zwS0 cw0 hret C hp3 hp0 ha4 hcw hpr hM0; omega)), (by (clear pM120 hM120 eM120 ub118 lb118 pM117 hM117 eM117 pM111 hM111 eM111 pM109 hM109 eM109 pM107 hM107 eM107 pM106 hM106 eM106 pM104 hM104 eM104 pM102 hM102 eM102 cwB0 cwA0 cwE0 zwS0 cw0 hret C hp3 hp0 ha4 hcw hpr hM0; omega))⟩, ⟨(by (clear pM120 hM120 eM120 ub118 lb118 pM117 hM117 eM117 pM111 hM111 eM111 pM109 hM109 eM109 pM107 hM107 eM107 pM106 hM106 eM106 pM104 hM104 eM104 pM102 hM102 eM102 cwB0 cwA0 cwE0 zwS0 cw0 hret C hp3 hp0 ha4 hcw hpr hM0; omega)), (by (clear pM120 hM120 eM120 ub118 lb118 pM117 hM117 eM117 pM111 hM111 eM111 pM109 hM109 eM109 pM107 hM107 eM107 pM106 hM106 eM106 pM104 hM104 eM104 pM102 hM102 eM102 cwB0 cwA0 cwE0 zwS0 cw0 hret C hp3 hp0 ha4 hcw hpr hM0; omega))⟩⟩⟩⟩⟩⟩⟩⟩)
  have u121s := st_0 M120 (M0.1 99) (wdF (M0.1 99) a2 a3 a4) (281 + (M0.1 99 4).toInt)
  refine y_iconst C dX12_reckons_99 ?_
  refine j_istore C 5 [(5, .int (sI 0)), (0, .ref (ad 98)), (1, .int (sI 0)), (2, .int (sI a2)), (3, .int (sI a3)), (4, .int (sI a4))] dX12_reckons_100 (by decide) rfl ?_
  refine y_iconst C dX12_reckons_102 ?_
  refine j_istore C 6 [(6, .int (sI 0)), (5, .int (sI 0)), (0, .ref (ad 98)), (1, .int (sI 0)), (2, .int (sI a2)), (3, .int (sI a3)), (4, .int (sI a4))] dX12_reckons_103 (by decide) rfl ?_
  have L158 : ∀ (n156 : Nat), ∀ (a159 : Int) (a160 : Int) (M161 : mm_M), (0 ≤ a159 ∧ a159 ≤ 900 ∧ 0 ≤ a160 ∧ a160 ≤ 900 ∧ (a159 = (rkS (M0.1 99) (wdF (M0.1 99) a2 a3 a4) (281 + (M0.1 99 4).toInt) (a160).toNat).1) ∧ (b01 (stOK M161 (rkS (M0.1 99) (wdF (M0.1 99) a2 a3 a4) (281 + (M0.1 99 4).toInt) (a160).toNat)) = 1) ∧ (b01 (wdOK M161 (wdF (M0.1 99) a2 a3 a4)) = 1) ∧ (a159 ≤ a160) ∧ (a160 ≤ (M0.1 99 6).toInt) ∧ (b01 (PI M161) = 1) ∧ (900 - a160) < (n156 : Int)) → INV pr Kz M161 → FR [103, 104] M0 M161 → jj p l e (cn_R 1) s m args below meth c 0 0 Q 8 dC dI ad cA A M161 105 [(0, .ref (ad 98)), (1, .int (sI 0)), (5, .int (sI a159)), (6, .int (sI a160))] [] := by
    intro n156
    induction n156 with
    | zero =>
      intro a159 a160 M161 h162 hM161 fM161
      exfalso; (clear fM161 hM161 u121s u121 pM120 hM120 eM120 ub119 lb119 ub118 lb118 pM117 hM117 eM117 h115 pM111 hM111 eM111 ua110 la110 ea110 pM109 hM109 eM109 ua108 la108 ea108 pM107 hM107 eM107 pM106 hM106 eM106 ua105 la105 ea105 pM104 hM104 eM104 ua103 la103 ea103 pM102 hM102 eM102 cwB0 cwA0 cwE0 zwS0 cw0 hret C hp3 hp2 hp1 hp0 ha4 ha3 ha2 hcw hpr hM0; omega)
    | succ n156 ih157 =>
      intro a159 a160 M161 h162 hM161 fM161
      refine j_iload C 3 dX12_reckons_105 rfl ?_
      refine j_aload_n C 0 0 dX12_reckons_107 rfl rfl ?_
      refine y_getC C 11 99 fX12_reckons_13 rfl rfl ft_11_1 sm_11_1 rfl hM161 dX12_reckons_108 ?_
      refine y_bipush C dX12_reckons_111 rfl ?_
      refine j_iload_n C 1 1 dX12_reckons_113 rfl rfl ?_
      refine y_iadd C dX12_reckons_114 ?_
      refine y_ialdH C 45 3543 rfl rfl rfl ak_45 an_45 rfl _ _ hM161 (hr_45_6_6 _ (by exact (by decide)) (by exact (by decide))) dX12_reckons_115 (by exact ⟨(by decide), (by decide)⟩) (fun a163 ea163 la163 ua163 => ?_)
      obtain rfl : a163 = (M0.1 99 6).toInt := s_fF fM161 (by decide) (ea163)
      refine y_icmp_ge C 256 dX12_reckons_116 (by decide) (by (clear ua163 la163 fM161 hM161 ih157 u121s u121 pM120 hM120 eM120 ub119 lb119 ub118 lb118 pM117 hM117 eM117 h115 pM111 hM111 eM111 ua110 la110 ea110 pM109 hM109 eM109 ua108 la108 ea108 pM107 hM107 eM107 pM106 hM106 eM106 ua105 la105 ea105 pM104 hM104 eM104 ua103 la103 ea103 pM102 hM102 eM102 cwA0 cwE0 zwS0 cw0 hret C hp3 hp2 hp1 hp0 ha4 ha3 ha2 hcw hpr hM0; omega)) (fun h164 => ?_) (fun h164 => ?_)
      · obtain rfl : a160 = (M0.1 99 6).toInt := by (clear ua163 la163 fM161 hM161 ih157 u121s u121 pM120 hM120 eM120 ub119 lb119 ub118 lb118 pM117 hM117 eM117 h115 pM111 hM111 eM111 ua110 la110 ea110 pM109 hM109 eM109 ua108 la108 ea108 pM107 hM107 eM107 pM106 hM106 eM106 ua105 la105 ea105 pM104 hM104 eM104 ua103 la103 ea103 pM102 hM102 eM102 cwB0 cwA0 cwE0 zwS0 cw0 hret C hp3 hp2 hp1 hp0 ha4 ha3 ha2 hcw hpr hM0; omega)
        refine j_aload_n C 0 0 dX12_reckons_256 rfl rfl ?_
        refine y_getC C 11 103 fX12_reckons_30 rfl rfl ft_11_15 sm_11_15 rfl hM161 dX12_reckons_257 ?_
        refine y_iconst C dX12_reckons_260 ?_
        refine y_iald C 49 900 _ _ rfl rfl rfl ak_49 an_49 rfl (sb_49 _) hM161 dX12_reckons_261 (by exact ⟨(by decide), (by decide)⟩) (fun a195 ea195 la195 ua195 => ?_)
        obtain rfl : a195 = (M161.1 103 0).toInt := ea195
        have u196z := rkS_1 (M0.1 99) (wdF (M0.1 99) a2 a3 a4) (281 + (M0.1 99 4).toInt) (M0.1 99 6).toInt.toNat
        have u196 := st_get (M := M161) (p := rkS (M0.1 99) (wdF (M0.1 99) a2 a3 a4) (281 + (M0.1 99 4).toInt) (M0.1 99 6).toInt.toNat) (by exact h162.2.2.2.2.2.1) (by (clear ua195 la195 h164 ua163 la163 ea163 fM161 hM161 ih157 u121s u121 pM120 hM120 eM120 ub119 lb119 ub118 lb118 pM117 hM117 eM117 h115 pM111 hM111 eM111 ua110 la110 ea110 pM109 hM109 eM109 ua108 la108 ea108 pM107 hM107 eM107 pM106 hM106 eM106 ua105 la105 ea105 pM104 hM104 eM104 ua103 la103 ea103 pM102 hM102 eM102 cwB0 cwA0 zwS0 cw0 hret C hp3 hp2 hp1 ha4 ha3 ha2 hcw hpr hM0; omega))
        have u196y : rkF (M0.1 99) 0 a2 a3 a4 = (rkS (M0.1 99) (wdF (M0.1 99) a2 a3 a4) (281 + (M0.1 99 4).toInt) (M0.1 99 6).toInt.toNat).2 0 := rfl
        exact hret _ _ _ _ dX12_reckons_262 ⟨(M161.1 103 0).toInt, rfl, hM161, (FR.rf.tr fM161 (by decide)), by exact ⟨la195, ⟨ua195, ⟨(by (clear u196z h164 ua163 la163 ea163 fM161 hM161 ih157 u121s u121 pM120 hM120 eM120 ub119 lb119 ub118 lb118 pM117 hM117 eM117 h115 pM111 hM111 eM111 ua110 la110 ea110 pM109 hM109 eM109 ua108 la108 ea108 pM107 hM107 eM107 pM106 hM106 eM106 ua105 la105 ea105 pM104 hM104 eM104 ua103 la103 ea103 pM102 hM102 eM102 cwB0 cwA0 cwE0 zwS0 cw0 hret C hp3 hp2 hp1 hp0 ha4 ha3 ha2 hcw hpr hM0; omega)), h162.2.2.2.2.2.2.2.2.2.1⟩⟩⟩⟩
      · refine j_aload_n C 0 0 dX12_reckons_119 rfl rfl ?_
        refine y_getC C 11 99 fX12_reckons_13 rfl rfl ft_11_1 sm_11_1 rfl hM161 dX12_reckons_120 ?_
        refine y_sipush C dX12_reckons_123 rfl ?_
        refine j_aload_n C 0 0 dX12_reckons_126 rfl rfl ?_
        refine y_getC C 11 99 fX12_reckons_13 rfl rfl ft_11_1 sm_11_1 rfl hM161 dX12_reckons_127 ?_
        refine y_iconst C dX12_reckons_130 ?_
        refine j_iload_n C 1 1 dX12_reckons_131 rfl rfl ?_
        refine y_iadd C dX12_reckons_132 ?_
        refine y_ialdH C 45 3543 rfl rfl rfl ak_45 an_45 rfl _ _ hM161 (hr_45_4_4 _ (by exact (by decide)) (by exact (by decide))) dX12_reckons_133 (by exact ⟨(by decide), (by decide)⟩) (fun a165 ea165 la165 ua165 => ?_)
        obtain rfl : a165 = (M0.1 99 4).toInt := s_fF fM161 (by decide) (ea165)
        refine y_iadd C dX12_reckons_134 ?_
        refine j_iload C 3 dX12_reckons_135 rfl ?_
        refine y_iadd C dX12_reckons_137 ?_
        refine y_ialdF C 45 3543 rfl rfl rfl ak_45 an_45 rfl dX12_reckons_138 (by (clear ua165 la165 h164 ua163 la163 ea163 fM161 hM161 ih157 u121s u121 pM120 hM120 eM120 ub119 lb119 ub118 lb118 pM117 hM117 eM117 h115 pM111 hM111 eM111 ua110 la110 ea110 pM109 hM109 eM109 ua108 la108 ea108 pM107 hM107 eM107 pM106 hM106 eM106 ua105 la105 ea105 pM104 hM104 eM104 ua103 la103 ea103 pM102 hM102 eM102 cwB0 cwE0 zwS0 cw0 hret C hp3 hp2 hp1 hp0 ha4 ha3 ha2 hcw hpr hM0; omega)) (fun a166 ea166 la166 ua166 => ?_)
        obtain rfl : a166 = (M0.1 99 (((281 + (M0.1 99 4).toInt) + a160)).toNat).toInt := s_fF fM161 (by decide) (ea166)
        refine j_istore C 7 [(7, .int (sI (M0.1 99 (((281 + (M0.1 99 4).toInt) + a160)).toNat).toInt)), (0, .ref (ad 98)), (1, .int (sI 0)), (5, .int (sI a159)), (6, .int (sI a160))] dX12_reckons_139 (by decide) rfl ?_
        have rka160 := rk_at (wdF (M0.1 99) a2 a3 a4) zwS0 a160 (by exact h162.2.2.1) (by (clear ua166 la166 ea166 ua165 la165 ea165 ua163 la163 fM161 hM161 h162 ih157 u121s u121 pM120 hM120 eM120 ub119 lb119 ub118 lb118 pM117 hM117 eM117 h115 pM111 hM111 eM111 ua110 la110 ea110 pM109 hM109 eM109 ua108 la108 ea108 pM107 hM107 eM107 pM106 hM106 eM106 ua105 la105 ea105 pM104 hM104 eM104 ua103 la103 ea103 pM102 hM102 eM102 cwB0 cwA0 cwE0 zwS0 cw0 hret C hp3 hp2 hp1 hp0 ha4 ha3 ha2 hcw hpr hM0; omega))
        simp only [] at rka160
        refine j_iload C 0 dX12_reckons_141 rfl ?_
        refine y_sipush C dX12_reckons_143 rfl ?_
        refine y_icmp_ge C 186 dX12_reckons_146 (by decide) (by exact ⟨⟨la166, ua166⟩, ⟨(by decide), (by decide)⟩⟩) (fun h168 => ?_) (fun h168 => ?_)
        · refine j_iload C 0 dX12_reckons_186 rfl ?_
          refine y_sipush C dX12_reckons_188 rfl ?_
          refine y_icmp_ne C 217 dX12_reckons_191 (by decide) (by exact ⟨⟨la166, ua166⟩, ⟨(by decide), (by decide)⟩⟩) (fun h169 => ?_) (fun h169 => ?_)
          · refine y_iinc C 3 [(5, .int (sI (a159 + (-1)))), (7, .int (sI (M0.1 99 (((281 + (M0.1 99 4).toInt) + a160)).toNat).toInt)), (0, .ref (ad 98)), (1, .int (sI 0)), (6, .int (sI a160))] dX12_reckons_217 rfl (by decide) rfl ?_
            refine j_aload_n C 2 0 dX12_reckons_220 rfl rfl ?_
            refine y_getC C 11 103 fX12_reckons_30 rfl rfl ft_11_15 sm_11_15 rfl hM161 dX12_reckons_221 ?_
            refine j_iload C 0 dX12_reckons_224 rfl ?_
            refine y_iconst C dX12_reckons_226 ?_
            refine y_isub C dX12_reckons_227 ?_
            refine j_iload C 1 dX12_reckons_228 rfl ?_
            refine j_aload_n C 2 0 dX12_reckons_230 rfl rfl ?_
            refine y_getC C 11 103 fX12_reckons_30 rfl rfl ft_11_15 sm_11_15 rfl hM161 dX12_reckons_231 ?_
            refine j_iload C 0 dX12_reckons_234 rfl ?_
            refine y_iconst C dX12_reckons_236 ?_
            refine y_isub C dX12_reckons_237 ?_
            refine y_iald C 49 900 _ _ rfl rfl rfl ak_49 an_49 rfl (sb_49 _) hM161 dX12_reckons_238 (by (clear ua165 la165 ea165 h164 ua163 la163 ea163 fM161 hM161 ih157 u121s u121 pM120 hM120 eM120 ub119 lb119 ub118 lb118 pM117 hM117 eM117 h115 pM111 hM111 eM111 ua110 la110 ea110 pM109 hM109 eM109 ua108 la108 ea108 pM107 hM107 eM107 pM106 hM106 eM106 ua105 la105 ea105 pM104 hM104 eM104 ua103 la103 ea103 pM102 hM102 eM102 cwB0 cwA0 cwE0 zwS0 cw0 hret C hp3 hp2 hp1 hp0 ha4 ha3 ha2 hcw hpr hM0; omega)) (fun a170 ea170 la170 ua170 => ?_)
            obtain rfl : a170 = (M161.1 103 (((a159 + (-1)) - 1)).toNat).toInt := ea170
            refine j_aload_n C 2 0 dX12_reckons_239 rfl rfl ?_
            refine y_getC C 11 103 fX12_reckons_30 rfl rfl ft_11_15 sm_11_15 rfl hM161 dX12_reckons_240 ?_
            refine j_iload C 0 dX12_reckons_243 rfl ?_
            refine y_iald C 49 900 _ _ rfl rfl rfl ak_49 an_49 rfl (sb_49 _) hM161 dX12_reckons_245 (by (clear ua170 la170 ua165 la165 ea165 h164 ua163 la163 ea163 fM161 hM161 ih157 u121s u121 pM120 hM120 eM120 ub119 lb119 ub118 lb118 pM117 hM117 eM117 h115 pM111 hM111 eM111 ua110 la110 ea110 pM109 hM109 eM109 ua108 la108 ea108 pM107 hM107 eM107 pM106 hM106 eM106 ua105 la105 ea105 pM104 hM104 eM104 ua103 la103 ea103 pM102 hM102 eM102 cwB0 cwA0 cwE0 zwS0 cw0 hret C hp3 hp2 hp1 hp0 ha4 ha3 ha2 hcw hpr hM0; omega)) (fun a171 ea171 la171 ua171 => ?_)
            obtain rfl : a171 = (M161.1 103 ((a159 + (-1))).toNat).toInt := ea171
            refine j_callSi C (d := 0) (As := [.int (sI (M0.1 99 (((281 + (M0.1 99 4).toInt) + a160)).toNat).toInt), .int (sI (M161.1 103 (((a159 + (-1)) - 1)).toNat).toInt), .int (sI (M161.1 103 ((a159 + (-1))).toNat).toInt)]) (st := [.int (sI ((a159 + (-1)) - 1)), .ref (ad 103)]) (s1_X12_between hM161 (M0.1 99 (((281 + (M0.1 99 4).toInt) + a160)).toNat).toInt (by exact ⟨la166, ua166⟩) (M161.1 103 (((a159 + (-1)) - 1)).toNat).toInt (by exact ⟨la170, ua170⟩) (M161.1 103 ((a159 + (-1))).toNat).toInt (by exact ⟨la171, ua171⟩)) gX12_reckons_X12_between rfl hdX12_betweens (by decide) (Nat.le_of_ble_eq_true rfl) dX12_reckons_246 rfl (fun r172 M173 h174 => ?_)
            obtain ⟨a176, rfl, rfl, h175⟩ := h174
            obtain rfl : a176 = (btF (M0.1 99 (((281 + (M0.1 99 4).toInt) + a160)).toNat).toInt (M161.1 103 (((a159 + (-1)) - 1)).toNat).toInt (M161.1 103 ((a159 + (-1))).toNat).toInt) := by exact h175.2.2
            refine y_iastF C 49 900 rfl rfl rfl ak_49 an_49 rfl (sb_49 _) hM161 (PM.w hpr rfl rfl) dX12_reckons_249 (by (clear h175 ua171 la171 ua170 la170 ua165 la165 ea165 h164 ua163 la163 ea163 fM161 hM161 ih157 u121s u121 pM120 hM120 eM120 ub119 lb119 ub118 lb118 pM117 hM117 eM117 h115 pM111 hM111 eM111 ua110 la110 ea110 pM109 hM109 eM109 ua108 la108 ea108 pM107 hM107 eM107 pM106 hM106 eM106 ua105 la105 ea105 pM104 hM104 eM104 ua103 la103 ea103 pM102 hM102 eM102 cwB0 cwA0 cwE0 zwS0 cw0 hret C hp3 hp2 hp1 hp0 ha4 ha3 ha2 hcw hpr hM0; omega)) (fun M177 eM177 hM177 => ?_)
            have pM177 := pi_o eM177 (by decide) (by decide) (by exact h162.2.2.2.2.2.2.2.2.2.1)
            have u178 := st_bin (W := (wdF (M0.1 99) a2 a3 a4)) (f := (M0.1 99)) (o := (281 + (M0.1 99 4).toInt)) (i := a160) eM177 (by exact h162.2.2.2.2.2.1) (by exact ⟨⟨h175.1, h175.2.1⟩, ⟨h162.2.2.1, ⟨(by (clear pM177 hM177 eM177 ua171 la171 ua170 la170 ua165 la165 ea165 h164 ua163 la163 ea163 fM161 hM161 ih157 u121s u121 pM120 hM120 eM120 ub119 lb119 ub118 lb118 pM117 hM117 eM117 h115 pM111 hM111 eM111 ua110 la110 ea110 pM109 hM109 eM109 ua108 la108 ea108 pM107 hM107 eM107 pM106 hM106 eM106 ua105 la105 ea105 pM104 hM104 eM104 ua103 la103 ea103 pM102 hM102 eM102 cwB0 cwA0 cwE0 zwS0 cw0 hret C hp3 hp2 hp1 hp0 ha4 ha3 ha2 hcw hpr hM0; omega)), ⟨(by (clear pM177 hM177 eM177 ua171 la171 ua170 la170 ua165 la165 ea165 h164 ua163 la163 ea163 fM161 hM161 ih157 u121s u121 pM120 hM120 eM120 ub119 lb119 ub118 lb118 pM117 hM117 eM117 h115 pM111 hM111 eM111 ua110 la110 ea110 pM109 hM109 eM109 ua108 la108 ea108 pM107 hM107 eM107 pM106 hM106 eM106 ua105 la105 ea105 pM104 hM104 eM104 ua103 la103 ea103 pM102 hM102 eM102 cwB0 cwA0 cwE0 zwS0 cw0 hret C hp3 hp2 hp1 hp0 ha4 ha3 ha2 hcw hpr hM0; omega)), ⟨h168, h169⟩⟩⟩⟩⟩) rfl
            have u178w := wd_keep (W := (wdF (M0.1 99) a2 a3 a4)) eM177 (by exact h162.2.2.2.2.2.2.1)
            refine y_iinc C 4 [(6, .int (sI (a160 + 1))), (5, .int (sI (a159 + (-1)))), (7, .int (sI (M0.1 99 (((281 + (M0.1 99 4).toInt) + a160)).toNat).toInt)), (0, .ref (ad 98)), (1, .int (sI 0))] dX12_reckons_250 rfl (by decide) rfl ?_
            refine j_goto C 105 dX12_reckons_253 (by decide) ?_
            refine j_lv [3, 4, 1, 0] rfl ?_; exact ih157 (a159 + (-1)) (a160 + 1) M177 (by (clear hM177 eM177 h175 ua171 la171 ua170 la170 ua165 la165 ea165 ua163 la163 fM161 hM161 ih157 u121s u121 pM120 hM120 eM120 ub119 lb119 ub118 lb118 pM117 hM117 eM117 h115 pM111 hM111 eM111 ua110 la110 ea110 pM109 hM109 eM109 ua108 la108 ea108 pM107 hM107 eM107 pM106 hM106 eM106 ua105 la105 ea105 pM104 hM104 eM104 ua103 la103 ea103 pM102 hM102 eM102 cwA0 cwE0 zwS0 cw0 hret C hp3 hp2 hp1 hp0 ha4 ha3 ha2 hcw hpr hM0; omega)) hM177 ((FR.rf.tr fM161 (by decide)).wI eM177 (by decide))
          · refine j_aload_n C 1 0 dX12_reckons_194 rfl rfl ?_
            refine y_getC C 11 103 fX12_reckons_30 rfl rfl ft_11_15 sm_11_15 rfl hM161 dX12_reckons_195 ?_
            refine j_iload C 3 dX12_reckons_198 rfl ?_
            refine y_iconst C dX12_reckons_200 ?_
            refine y_isub C dX12_reckons_201 ?_
            refine y_iconst C dX12_reckons_202 ?_
            refine j_aload_n C 1 0 dX12_reckons_203 rfl rfl ?_
            refine y_getC C 11 103 fX12_reckons_30 rfl rfl ft_11_15 sm_11_15 rfl hM161 dX12_reckons_204 ?_
            refine j_iload C 3 dX12_reckons_207 rfl ?_
            refine y_iconst C dX12_reckons_209 ?_
            refine y_isub C dX12_reckons_210 ?_
            refine y_iald C 49 900 _ _ rfl rfl rfl ak_49 an_49 rfl (sb_49 _) hM161 dX12_reckons_211 (by (clear h168 ua166 la166 ua165 la165 ea165 h164 ua163 la163 ea163 fM161 hM161 ih157 u121s u121 pM120 hM120 eM120 ub119 lb119 ub118 lb118 pM117 hM117 eM117 h115 pM111 hM111 eM111 ua110 la110 ea110 pM109 hM109 eM109 ua108 la108 ea108 pM107 hM107 eM107 pM106 hM106 eM106 ua105 la105 ea105 pM104 hM104 eM104 ua103 la103 ea103 pM102 hM102 eM102 cwB0 cwA0 cwE0 zwS0 cw0 hret C hp3 hp2 hp1 hp0 ha4 ha3 ha2 hcw hpr hM0; omega)) (fun a179 ea179 la179 ua179 => ?_)
            obtain rfl : a179 = (M161.1 103 ((a159 - 1)).toNat).toInt := ea179
            refine e_isub C dX12_reckons_212 (fun lb180 ub180 => ?_)
            refine y_iastF C 49 900 rfl rfl rfl ak_49 an_49 rfl (sb_49 _) hM161 (PM.w hpr rfl rfl) dX12_reckons_213 (by (clear ub180 lb180 ua179 la179 h168 ua166 la166 ua165 la165 ea165 h164 ua163 la163 ea163 fM161 hM161 ih157 u121s u121 pM120 hM120 eM120 ub119 lb119 ub118 lb118 pM117 hM117 eM117 h115 pM111 hM111 eM111 ua110 la110 ea110 pM109 hM109 eM109 ua108 la108 ea108 pM107 hM107 eM107 pM106 hM106 eM106 ua105 la105 ea105 pM104 hM104 eM104 ua103 la103 ea103 pM102 hM102 eM102 cwB0 cwA0 cwE0 zwS0 cw0 hret C hp3 hp2 hp1 hp0 ha4 ha3 ha2 hcw hpr hM0; omega)) (fun M181 eM181 hM181 => ?_)
            have pM181 := pi_o eM181 (by decide) (by decide) (by exact h162.2.2.2.2.2.2.2.2.2.1)
            have u182 := st_not (W := (wdF (M0.1 99) a2 a3 a4)) (f := (M0.1 99)) (o := (281 + (M0.1 99 4).toInt)) (i := a160) eM181 (by exact h162.2.2.2.2.2.1) (by exact ⟨h162.2.2.1, ⟨(by (clear pM181 hM181 eM181 ub180 lb180 ua179 la179 h168 ua166 la166 ua165 la165 ea165 h164 ua163 la163 ea163 fM161 hM161 ih157 u121s u121 pM120 hM120 eM120 ub119 lb119 ub118 lb118 pM117 hM117 eM117 h115 pM111 hM111 eM111 ua110 la110 ea110 pM109 hM109 eM109 ua108 la108 ea108 pM107 hM107 eM107 pM106 hM106 eM106 ua105 la105 ea105 pM104 hM104 eM104 ua103 la103 ea103 pM102 hM102 eM102 cwB0 cwA0 cwE0 zwS0 cw0 hret C hp3 hp2 hp1 hp0 ha4 ha3 ha2 hcw hpr hM0; omega)), ⟨h162.2.2.2.2.1, h169⟩⟩⟩)
            have u182w := wd_keep (W := (wdF (M0.1 99) a2 a3 a4)) eM181 (by exact h162.2.2.2.2.2.2.1)
            refine j_goto C 250 dX12_reckons_214 (by decide) ?_
            refine y_iinc C 4 [(6, .int (sI (a160 + 1))), (7, .int (sI (M0.1 99 (((281 + (M0.1 99 4).toInt) + a160)).toNat).toInt)), (0, .ref (ad 98)), (1, .int (sI 0)), (5, .int (sI a159))] dX12_reckons_250 rfl (by decide) rfl ?_
            refine j_goto C 105 dX12_reckons_253 (by decide) ?_
            refine j_lv [2, 3, 4, 0] rfl ?_; exact ih157 a159 (a160 + 1) M181 (by exact ⟨h162.1, ⟨h162.2.1, ⟨(by (clear hM181 eM181 ub180 lb180 ua179 la179 h168 ua166 la166 ua165 la165 ea165 ua163 la163 fM161 hM161 ih157 u121s u121 pM120 hM120 eM120 ub119 lb119 ub118 lb118 pM117 hM117 eM117 h115 pM111 hM111 eM111 ua110 la110 ea110 pM109 hM109 eM109 ua108 la108 ea108 pM107 hM107 eM107 pM106 hM106 eM106 ua105 la105 ea105 pM104 hM104 eM104 ua103 la103 ea103 pM102 hM102 eM102 cwA0 cwE0 zwS0 cw0 hret C hp3 hp2 hp1 hp0 ha4 ha3 ha2 hcw hpr hM0; omega)), ⟨(by (clear hM181 eM181 ub180 lb180 ua179 la179 h168 ua166 la166 ua165 la165 ea165 ua163 la163 fM161 hM161 ih157 u121s u121 pM120 hM120 eM120 ub119 lb119 ub118 lb118 pM117 hM117 eM117 h115 pM111 hM111 eM111 ua110 la110 ea110 pM109 hM109 eM109 ua108 la108 ea108 pM107 hM107 eM107 pM106 hM106 eM106 ua105 la105 ea105 pM104 hM104 eM104 ua103 la103 ea103 pM102 hM102 eM102 cwA0 cwE0 zwS0 cw0 hret C hp3 hp2 hp1 hp0 ha4 ha3 ha2 hcw hpr hM0; omega)), ⟨(by (clear hM181 eM181 ub180 lb180 ua179 la179 h168 ua166 la166 ua165 la165 ea165 ua163 la163 fM161 hM161 ih157 u121s u121 pM120 hM120 eM120 ub119 lb119 ub118 lb118 pM117 hM117 eM117 h115 pM111 hM111 eM111 ua110 la110 ea110 pM109 hM109 eM109 ua108 la108 ea108 pM107 hM107 eM107 pM106 hM106 eM106 ua105 la105 ea105 pM104 hM104 eM104 ua103 la103 ea103 pM102 hM102 eM102 cwA0 cwE0 zwS0 cw0 hret C hp3 hp2 hp1 hp0 ha4 ha3 ha2 hcw hpr hM0; omega)), ⟨u182, ⟨u182w, ⟨(by (clear hM181 eM181 ub180 lb180 ua179 la179 h168 ua166 la166 ua165 la165 ea165 ua163 la163 fM161 hM161 ih157 u121s u121 pM120 hM120 eM120 ub119 lb119 ub118 lb118 pM117 hM117 eM117 h115 pM111 hM111 eM111 ua110 la110 ea110 pM109 hM109 eM109 ua108 la108 ea108 pM107 hM107 eM107 pM106 hM106 eM106 ua105 la105 ea105 pM104 hM104 eM104 ua103 la103 ea103 pM102 hM102 eM102 cwA0 cwE0 zwS0 cw0 hret C hp3 hp2 hp1 hp0 ha4 ha3 ha2 hcw hpr hM0; omega)), ⟨(by (clear hM181 eM181 ub180 lb180 ua179 la179 h168 ua166 la166 ua165 la165 ea165 ua163 la163 fM161 hM161 ih157 u121s u121 pM120 hM120 eM120 ub119 lb119 ub118 lb118 pM117 hM117 eM117 h115 pM111 hM111 eM111 ua110 la110 ea110 pM109 hM109 eM109 ua108 la108 ea108 pM107 hM107 eM107 pM106 hM106 eM106 ua105 la105 ea105 pM104 hM104 eM104 ua103 la103 ea103 pM102 hM102 eM102 cwA0 cwE0 zwS0 cw0 hret C hp3 hp2 hp1 hp0 ha4 ha3 ha2 hcw hpr hM0; omega)), ⟨pM181, (by (clear hM181 eM181 ub180 lb180 ua179 la179 h168 ua166 la166 ua165 la165 ea165 ua163 la163 fM161 hM161 ih157 u121s u121 pM120 hM120 eM120 ub119 lb119 ub118 lb118 pM117 hM117 eM117 h115 pM111 hM111 eM111 ua110 la110 ea110 pM109 hM109 eM109 ua108 la108 ea108 pM107 hM107 eM107 pM106 hM106 eM106 ua105 la105 ea105 pM104 hM104 eM104 ua103 la103 ea103 pM102 hM102 eM102 cwA0 cwE0 zwS0 cw0 hret C hp3 hp2 hp1 hp0 ha4 ha3 ha2 hcw hpr hM0; omega))⟩⟩⟩⟩⟩⟩⟩⟩⟩⟩) hM181 ((FR.rf.tr fM161 (by decide)).wI eM181 (by decide))
        · refine j_aload_n C 1 0 dX12_reckons_149 rfl rfl ?_
          refine y_getC C 11 103 fX12_reckons_30 rfl rfl ft_11_15 sm_11_15 rfl hM161 dX12_reckons_150 ?_
          refine j_iload C 3 dX12_reckons_153 rfl ?_
          refine j_iload C 0 dX12_reckons_155 rfl ?_
          refine y_sipush C dX12_reckons_157 rfl ?_
          refine y_icmp_ge C 168 dX12_reckons_160 (by decide) (by exact ⟨⟨la166, ua166⟩, ⟨(by decide), (by decide)⟩⟩) (fun h184 => ?_) (fun h184 => ?_)
          · refine j_aload_n C 1 0 dX12_reckons_168 rfl rfl ?_
            refine y_getC C 11 104 fX12_reckons_33 rfl rfl ft_11_16 sm_11_16 rfl hM161 dX12_reckons_169 ?_
            refine j_iload C 0 dX12_reckons_172 rfl ?_
            refine y_sipush C dX12_reckons_174 rfl ?_
            refine y_isub C dX12_reckons_177 ?_
            refine y_iald C 50 8 _ _ rfl rfl rfl ak_50 an_50 rfl (sb_50 _) hM161 dX12_reckons_178 (by (clear ua165 la165 ea165 h164 ua163 la163 ea163 fM161 hM161 h162 ih157 u121s u121 pM120 hM120 eM120 ub119 lb119 ub118 lb118 pM117 hM117 eM117 h115 pM111 hM111 eM111 ua110 la110 ea110 pM109 hM109 eM109 ua108 la108 ea108 pM107 hM107 eM107 pM106 hM106 eM106 ua105 la105 ea105 pM104 hM104 eM104 ua103 la103 ea103 pM102 hM102 eM102 cwB0 cwA0 cwE0 zwS0 cw0 hret C hp3 hp2 hp1 hp0 ha4 ha3 ha2 hcw hpr hM0; omega)) (fun a185 ea185 la185 ua185 => ?_)
            obtain rfl : a185 = (M161.1 104 (((M0.1 99 (((281 + (M0.1 99 4).toInt) + a160)).toNat).toInt - 1000)).toNat).toInt := ea185
            have u186a := pvF_s (wdF (M0.1 99) a2 a3 a4) (M0.1 99 (((281 + (M0.1 99 4).toInt) + a160)).toNat).toInt
            have u186b := fun q1 q2 => wd_get (M := M161) (W := (wdF (M0.1 99) a2 a3 a4)) (by exact h162.2.2.2.2.2.2.1) ((M0.1 99 (((281 + (M0.1 99 4).toInt) + a160)).toNat).toInt - 1000) q1 q2
            refine y_iastF C 49 900 rfl rfl rfl ak_49 an_49 rfl (sb_49 _) hM161 (PM.w hpr rfl rfl) dX12_reckons_179 (by exact ⟨h162.1, (by (clear u186b u186a ua185 la185 h184 h168 rka160 ua166 la166 ea166 ua165 la165 ea165 ua163 la163 fM161 hM161 ih157 u121s u121 pM120 hM120 eM120 ub119 lb119 ub118 lb118 pM117 hM117 eM117 h115 pM111 hM111 eM111 ua110 la110 ea110 pM109 hM109 eM109 ua108 la108 ea108 pM107 hM107 eM107 pM106 hM106 eM106 ua105 la105 ea105 pM104 hM104 eM104 ua103 la103 ea103 pM102 hM102 eM102 cwA0 cwE0 zwS0 cw0 hret C hp3 hp2 hp1 hp0 ha4 ha3 ha2 hcw hpr hM0; omega))⟩) (fun M187 eM187 hM187 => ?_)
            have pM187 := pi_o eM187 (by decide) (by decide) (by exact h162.2.2.2.2.2.2.2.2.2.1)
            have u188 := st_push (W := (wdF (M0.1 99) a2 a3 a4)) (f := (M0.1 99)) (o := (281 + (M0.1 99 4).toInt)) (i := a160) eM187 (by exact h162.2.2.2.2.2.1) (by exact ⟨⟨la185, ua185⟩, ⟨h162.2.2.1, ⟨h162.1, ⟨h162.2.2.2.2.1, ⟨(by (clear pM187 hM187 eM187 ua165 la165 ea165 h164 ua163 la163 ea163 fM161 hM161 ih157 u121s u121 pM120 hM120 eM120 ub119 lb119 ub118 lb118 pM117 hM117 eM117 h115 pM111 hM111 eM111 ua110 la110 ea110 pM109 hM109 eM109 ua108 la108 ea108 pM107 hM107 eM107 pM106 hM106 eM106 ua105 la105 ea105 pM104 hM104 eM104 ua103 la103 ea103 pM102 hM102 eM102 cwB0 cwA0 cwE0 zwS0 cw0 hret C hp3 hp2 hp1 hp0 ha4 ha3 ha2 hcw hpr hM0; omega)), (by (clear pM187 hM187 eM187 ua165 la165 ea165 h164 ua163 la163 ea163 fM161 hM161 ih157 u121s u121 pM120 hM120 eM120 ub119 lb119 ub118 lb118 pM117 hM117 eM117 h115 pM111 hM111 eM111 ua110 la110 ea110 pM109 hM109 eM109 ua108 la108 ea108 pM107 hM107 eM107 pM106 hM106 eM106 ua105 la105 ea105 pM104 hM104 eM104 ua103 la103 ea103 pM102 hM102 eM102 cwB0 cwA0 cwE0 zwS0 cw0 hret C hp3 hp2 hp1 hp0 ha4 ha3 ha2 hcw hpr hM0; omega))⟩⟩⟩⟩⟩)
            have u188w := wd_keep (W := (wdF (M0.1 99) a2 a3 a4)) eM187 (by exact h162.2.2.2.2.2.2.1)
            refine y_iinc C 3 [(5, .int (sI (a159 + 1))), (7, .int (sI (M0.1 99 (((281 + (M0.1 99 4).toInt) + a160)).toNat).toInt)), (0, .ref (ad 98)), (1, .int (sI 0)), (6, .int (sI a160))] dX12_reckons_180 rfl (by decide) rfl ?_
            refine j_goto C 250 dX12_reckons_183 (by decide) ?_
            refine y_iinc C 4 [(6, .int (sI (a160 + 1))), (5, .int (sI (a159 + 1))), (7, .int (sI (M0.1 99 (((281 + (M0.1 99 4).toInt) + a160)).toNat).toInt)), (0, .ref (ad 98)), (1, .int (sI 0))] dX12_reckons_250 rfl (by decide) rfl ?_
            refine j_goto C 105 dX12_reckons_253 (by decide) ?_
            refine j_lv [3, 4, 1, 0] rfl ?_; exact ih157 (a159 + 1) (a160 + 1) M187 (by (clear hM187 eM187 ua185 la185 ua165 la165 ea165 ua163 la163 fM161 hM161 ih157 u121s u121 pM120 hM120 eM120 ub119 lb119 ub118 lb118 pM117 hM117 eM117 h115 pM111 hM111 eM111 ua110 la110 ea110 pM109 hM109 eM109 ua108 la108 ea108 pM107 hM107 eM107 pM106 hM106 eM106 ua105 la105 ea105 pM104 hM104 eM104 ua103 la103 ea103 pM102 hM102 eM102 cwA0 cwE0 zwS0 cw0 hret C hp3 hp2 hp1 hp0 ha4 ha3 ha2 hcw hpr hM0; omega)) hM187 ((FR.rf.tr fM161 (by decide)).wI eM187 (by decide))
          · refine j_iload C 0 dX12_reckons_163 rfl ?_
            refine j_goto C 179 dX12_reckons_165 (by decide) ?_
            have u190a := pvF_s (wdF (M0.1 99) a2 a3 a4) (M0.1 99 (((281 + (M0.1 99 4).toInt) + a160)).toNat).toInt
            have u190b := fun q1 q2 => wd_get (M := M161) (W := (wdF (M0.1 99) a2 a3 a4)) (by exact h162.2.2.2.2.2.2.1) ((M0.1 99 (((281 + (M0.1 99 4).toInt) + a160)).toNat).toInt - 1000) q1 q2
            refine y_iastF C 49 900 rfl rfl rfl ak_49 an_49 rfl (sb_49 _) hM161 (PM.w hpr rfl rfl) dX12_reckons_179 (by exact ⟨h162.1, (by omega)⟩) (fun M191 eM191 hM191 => ?_)
            have pM191 := pi_o eM191 (by decide) (by decide) (by exact h162.2.2.2.2.2.2.2.2.2.1)
            have u192 := st_push (W := (wdF (M0.1 99) a2 a3 a4)) (f := (M0.1 99)) (o := (281 + (M0.1 99 4).toInt)) (i := a160) eM191 (by exact h162.2.2.2.2.2.1) (by exact ⟨⟨la166, ua166⟩, ⟨h162.2.2.1, ⟨h162.1, ⟨h162.2.2.2.2.1, ⟨(by (clear pM191 hM191 eM191 rka160 ua165 la165 ea165 h164 ua163 la163 ea163 fM161 hM161 ih157 u121s u121 pM120 hM120 eM120 ub119 lb119 ub118 lb118 pM117 hM117 eM117 h115 pM111 hM111 eM111 ua110 la110 ea110 pM109 hM109 eM109 ua108 la108 ea108 pM107 hM107 eM107 pM106 hM106 eM106 ua105 la105 ea105 pM104 hM104 eM104 ua103 la103 ea103 pM102 hM102 eM102 cwB0 cwA0 cwE0 zwS0 cw0 hret C hp3 hp2 hp1 hp0 ha4 ha3 ha2 hcw hpr hM0; omega)), (by (clear pM191 hM191 eM191 rka160 ua165 la165 ea165 h164 ua163 la163 ea163 fM161 hM161 ih157 u121s u121 pM120 hM120 eM120 ub119 lb119 ub118 lb118 pM117 hM117 eM117 h115 pM111 hM111 eM111 ua110 la110 ea110 pM109 hM109 eM109 ua108 la108 ea108 pM107 hM107 eM107 pM106 hM106 eM106 ua105 la105 ea105 pM104 hM104 eM104 ua103 la103 ea103 pM102 hM102 eM102 cwB0 cwA0 cwE0 zwS0 cw0 hret C hp3 hp2 hp1 hp0 ha4 ha3 ha2 hcw hpr hM0; omega))⟩⟩⟩⟩⟩)
            have u192w := wd_keep (W := (wdF (M0.1 99) a2 a3 a4)) eM191 (by exact h162.2.2.2.2.2.2.1)
            refine y_iinc C 3 [(5, .int (sI (a159 + 1))), (7, .int (sI (M0.1 99 (((281 + (M0.1 99 4).toInt) + a160)).toNat).toInt)), (0, .ref (ad 98)), (1, .int (sI 0)), (6, .int (sI a160))] dX12_reckons_180 rfl (by decide) rfl ?_
            refine j_goto C 250 dX12_reckons_183 (by decide) ?_
            refine y_iinc C 4 [(6, .int (sI (a160 + 1))), (5, .int (sI (a159 + 1))), (7, .int (sI (M0.1 99 (((281 + (M0.1 99 4).toInt) + a160)).toNat).toInt)), (0, .ref (ad 98)), (1, .int (sI 0))] dX12_reckons_250 rfl (by decide) rfl ?_
            refine j_goto C 105 dX12_reckons_253 (by decide) ?_
            refine j_lv [3, 4, 1, 0] rfl ?_; exact ih157 (a159 + 1) (a160 + 1) M191 (by (clear hM191 eM191 ua165 la165 ea165 ua163 la163 fM161 hM161 ih157 u121s u121 pM120 hM120 eM120 ub119 lb119 ub118 lb118 pM117 hM117 eM117 h115 pM111 hM111 eM111 ua110 la110 ea110 pM109 hM109 eM109 ua108 la108 ea108 pM107 hM107 eM107 pM106 hM106 eM106 ua105 la105 ea105 pM104 hM104 eM104 ua103 la103 ea103 pM102 hM102 eM102 cwA0 cwE0 zwS0 cw0 hret C hp3 hp2 hp1 hp0 ha4 ha3 ha2 hcw hpr hM0; omega)) hM191 ((FR.rf.tr fM161 (by decide)).wI eM191 (by decide))
  refine j_lv [2, 3, 1, 0] rfl ?_; exact L158 2010 0 0 M120 (by exact ⟨(by decide), ⟨(by decide), ⟨(by decide), ⟨(by decide), ⟨u121s.2.symm, ⟨u121s.1, ⟨u121, ⟨(by decide), ⟨cwB0.1, ⟨pM120, (by decide)⟩⟩⟩⟩⟩⟩⟩⟩⟩⟩) hM120 ((((((((FR.rf.wI eM102 (by decide)).wI eM104 (by decide)).wI eM106 (by decide)).wI eM107 (by decide)).wI eM109 (by decide)).wI eM111 (by decide)).wI eM117 (by decide)).wI eM120 (by decide))
set_option maxHeartbeats 4000000 in
theorem s1_X12_wantsOf {l : Launch} {dC : Nat → ClassId} {dI : Nat → Nat → Nat} {ad : Nat → Nat} {cA : Nat → ClassId} {pr : Nat → Nat → Bool} {Kz : mm_M} {M0 : mm_M} (hM0 : INV pr Kz M0) (hpr : PM pr) (hcw : CWK pr Kz) (a1 : Int) (ha1 : -2147483648 ≤ a1 ∧ a1 ≤ 2147483647) (a2 : Int) (ha2 : -2147483648 ≤ a2 ∧ a2 ≤ 2147483647) (a3 : Int) (ha3 : -2147483648 ≤ a3 ∧ a3 ≤ 2147483647) (hp0 : 0 ≤ a1 ∧ a1 ≤ 5) (hp1 : 0 ≤ a2 ∧ a2 ≤ 7) (hp2 : b01 (PI M0) = 1) : Ci l 2 yX12_wantsOf wsX12_wantsOf dC dI ad cA [.ref (ad 98), .int (sI a1), .int (sI a2), .int (sI a3)] M0 (fun r M' => ∃ a : Int, r = sI a ∧ INV pr Kz M' ∧ FR [103, 104] M0 M' ∧ (-2147483648) ≤ a ∧ a ≤ 2147483647 ∧ (a = (wtF (M0.1 99) a1 a2 a3)) ∧ (b01 (PI M') = 1)) := by
  refine ci_of (cc := cX12_wantsOf) (maxL := 4) (ty := .int) (lv := [(0, .ref (ad 98)), (1, .int (sI a1)), (2, .int (sI a2)), (3, .int (sI a3))]) (by decide) rfl (fun r M' hp => rfl) (Nat.le_of_ble_eq_true rfl) rfl ?_
  intro p e s m args below meth c A Q C hret
  refine j_aload_n C 0 0 dX12_wantsOf_0 rfl rfl ?_
  refine y_getC C 11 99 fX12_wantsOf_13 rfl rfl ft_11_1 sm_11_1 rfl hM0 dX12_wantsOf_1 ?_
  refine y_iconst C dX12_wantsOf_4 ?_
  refine y_ialdF C 45 3543 rfl rfl rfl ak_45 an_45 rfl dX12_wantsOf_5 (by exact ⟨(by decide), (by decide)⟩) (fun a101 ea101 la101 ua101 => ?_)
  obtain rfl : a101 = (M0.1 99 2).toInt := ea101
  refine y_if_ne C 31 dX12_wantsOf_6 (by decide) (by exact ⟨la101, ua101⟩) (fun h102 => ?_) (fun h102 => ?_)
  · refine j_aload_n C 0 0 dX12_wantsOf_31 rfl rfl ?_
    refine y_iconst C dX12_wantsOf_32 ?_
    refine j_iload_n C 1 1 dX12_wantsOf_33 rfl rfl ?_
    refine j_iload_n C 2 2 dX12_wantsOf_34 rfl rfl ?_
    refine j_iload_n C 3 3 dX12_wantsOf_35 rfl rfl ?_
    refine j_callVi C (d := 1) (As := [.int (sI 0), .int (sI a1), .int (sI a2), .int (sI a3)]) (st := []) 98 (s_lt rfl rfl) (s_kc (c := 11) rfl rfl) (by decide) rfl (s2_X12_reckons hM0 hpr hcw a1 (by exact ⟨ha1.1, ha1.2⟩) a2 (by exact ⟨ha2.1, ha2.2⟩) a3 (by exact ⟨ha3.1, ha3.2⟩) (by exact h102) (by exact ⟨hp0.1, hp0.2⟩) (by exact ⟨hp1.1, hp1.2⟩) (by exact hp2)) gX12_wantsOf_X12_reckons rfl hdX12_reckons (by decide) (Nat.le_of_ble_eq_true rfl) dX12_wantsOf_36 rfl (fun r103 M104 h105 => ?_)
    obtain ⟨a107, rfl, hM104, fM104, h106⟩ := h105
    obtain rfl : a107 = (rkF (M0.1 99) 0 a1 a2 a3) := by exact h106.2.2.1
    have u108 := wtF_s (M0.1 99) a1 a2 a3
    exact hret _ _ _ _ dX12_wantsOf_39 ⟨(rkF (M0.1 99) 0 a1 a2 a3), rfl, hM104, (FR.rf.tr fM104 (by decide)), by exact ⟨h106.1, ⟨h106.2.1, ⟨(by (clear fM104 hM104 ua101 la101 hret C hp2 hp1 hp0 ha3 ha2 ha1 hcw hpr hM0; omega)), h106.2.2.2⟩⟩⟩⟩
  · refine j_aload_n C 0 0 dX12_wantsOf_9 rfl rfl ?_
    refine y_getC C 11 99 fX12_wantsOf_13 rfl rfl ft_11_1 sm_11_1 rfl hM0 dX12_wantsOf_10 ?_
    refine y_bipush C dX12_wantsOf_13 rfl ?_
    refine j_iload_n C 1 1 dX12_wantsOf_15 rfl rfl ?_
    refine y_iadd C dX12_wantsOf_16 ?_
    refine y_ialdF C 45 3543 rfl rfl rfl ak_45 an_45 rfl dX12_wantsOf_17 (by omega) (fun a109 ea109 la109 ua109 => ?_)
    obtain rfl : a109 = (M0.1 99 ((8 + a1)).toNat).toInt := ea109
    refine j_aload_n C 0 0 dX12_wantsOf_18 rfl rfl ?_
    refine y_getC C 11 99 fX12_wantsOf_13 rfl rfl ft_11_1 sm_11_1 rfl hM0 dX12_wantsOf_19 ?_
    refine y_bipush C dX12_wantsOf_22 rfl ?_
    refine j_iload_n C 2 2 dX12_wantsOf_24 rfl rfl ?_
    refine y_iadd C dX12_wantsOf_25 ?_
    refine y_ialdF C 45 3543 rfl rfl rfl ak_45 an_45 rfl dX12_wantsOf_26 (by omega) (fun a110 ea110 la110 ua110 => ?_)
    obtain rfl : a110 = (M0.1 99 ((33 + a2)).toNat).toInt := ea110
    refine e_isub C dX12_wantsOf_27 (fun lb111 ub111 => ?_)
    refine j_goto C 39 dX12_wantsOf_28 (by decide) ?_
    have u112 := wtF_s (M0.1 99) a1 a2 a3
    exact hret _ _ _ _ dX12_wantsOf_39 ⟨(subI (M0.1 99 ((8 + a1)).toNat).toInt (M0.1 99 ((33 + a2)).toNat).toInt), rfl, hM0, FR.rf, by exact ⟨lb111, ⟨ub111, ⟨(by (clear ua110 la110 ua109 la109 ua101 la101 hret C hp1 hp0 ha3 ha2 ha1 hcw hpr hM0; omega)), hp2⟩⟩⟩⟩
set_option maxHeartbeats 4000000 in
theorem s1_X12_buysOf {l : Launch} {dC : Nat → ClassId} {dI : Nat → Nat → Nat} {ad : Nat → Nat} {cA : Nat → ClassId} {pr : Nat → Nat → Bool} {Kz : mm_M} {M0 : mm_M} (hM0 : INV pr Kz M0) (hpr : PM pr) (hcw : CWK pr Kz) (a1 : Int) (ha1 : -2147483648 ≤ a1 ∧ a1 ≤ 2147483647) (a2 : Int) (ha2 : -2147483648 ≤ a2 ∧ a2 ≤ 2147483647) (hp0 : 0 ≤ a1 ∧ a1 ≤ 5) (hp1 : b01 (PI M0) = 1) : Ci l 3 yX12_buysOf wsX12_buysOf dC dI ad cA [.ref (ad 98), .int (sI a1), .int (sI a2)] M0 (fun r M' => ∃ a : Int, r = sI a ∧ INV pr Kz M' ∧ FR [103, 104] M0 M' ∧ (-1) ≤ a ∧ a ≤ 7 ∧ (a = (boF (M0.1 99) a1 a2)) ∧ (b01 (PI M') = 1)) := by
  refine ci_of (cc := cX12_buysOf) (maxL := 7) (ty := .int) (lv := [(0, .ref (ad 98)), (1, .int (sI a1)), (2, .int (sI a2))]) (by decide) rfl (fun r M' hp => rfl) (Nat.le_of_ble_eq_true rfl) rfl ?_
  intro p e s m args below meth c A Q C hret
  have u101 := bo_0 (M0.1 99) a1 a2
  have u101k := INV.rd hM0 (i := 99) (c := 45) (k := 26) rfl rfl
  refine y_iconst C dX12_buysOf_0 ?_
  refine j_istore_n C 3 [(3, .int (sI (-1))), (0, .ref (ad 98)), (1, .int (sI a1)), (2, .int (sI a2))] dX12_buysOf_1 rfl (by decide) rfl ?_
  refine y_iconst C dX12_buysOf_2 ?_
  refine j_istore C 4 [(4, .int (sI 0)), (3, .int (sI (-1))), (0, .ref (ad 98)), (1, .int (sI a1)), (2, .int (sI a2))] dX12_buysOf_3 (by decide) rfl ?_
  refine y_iconst C dX12_buysOf_5 ?_
  refine j_istore C 5 [(5, .int (sI 0)), (4, .int (sI 0)), (3, .int (sI (-1))), (0, .ref (ad 98)), (1, .int (sI a1)), (2, .int (sI a2))] dX12_buysOf_6 (by decide) rfl ?_
  have L132 : ∀ (n130 : Nat), ∀ (a133 : Int) (a134 : Int) (a135 : Int) (M136 : mm_M), ((-1) ≤ a133 ∧ a133 ≤ 7 ∧ 0 ≤ a134 ∧ a134 ≤ 2147483647 ∧ 0 ≤ a135 ∧ a135 ≤ 8 ∧ (a133 = (boS (M0.1 99) a1 a2 (a135).toNat).1) ∧ (a134 = (boS (M0.1 99) a1 a2 (a135).toNat).2) ∧ (a135 ≤ (M0.1 99 26).toInt) ∧ (b01 (PI M136) = 1) ∧ (8 - a135) < (n130 : Int)) → INV pr Kz M136 → FR [103, 104] M0 M136 → jj p l e (cn_R 3) s m args below meth c 0 0 Q 7 dC dI ad cA A M136 8 [(0, .ref (ad 98)), (1, .int (sI a1)), (2, .int (sI a2)), (3, .int (sI a133)), (4, .int (sI a134)), (5, .int (sI a135))] [] := by
    intro n130
    induction n130 with
    | zero =>
      intro a133 a134 a135 M136 h137 hM136 fM136
      exfalso; omega
    | succ n130 ih131 =>
      intro a133 a134 a135 M136 h137 hM136 fM136
      refine j_iload C 5 dX12_buysOf_8 rfl ?_
      refine j_aload_n C 0 0 dX12_buysOf_10 rfl rfl ?_
      refine y_getC C 11 99 fX12_buysOf_13 rfl rfl ft_11_1 sm_11_1 rfl hM136 dX12_buysOf_11 ?_
      refine y_bipush C dX12_buysOf_14 rfl ?_
      refine y_ialdH C 45 3543 rfl rfl rfl ak_45 an_45 rfl _ _ hM136 (hr_45_26_26 _ (by exact (by decide)) (by exact (by decide))) dX12_buysOf_16 (by exact ⟨(by decide), (by decide)⟩) (fun a138 ea138 la138 ua138 => ?_)
      obtain rfl : a138 = (M0.1 99 26).toInt := s_fF fM136 (by decide) (ea138)
      refine y_icmp_ge C 76 dX12_buysOf_17 (by decide) (by (clear ua138 la138 fM136 hM136 ih131 u101 hret C hp1 hp0 ha2 ha1 hcw hpr hM0; omega)) (fun h139 => ?_) (fun h139 => ?_)
      · have u162 := bo_end (M0.1 99) a1 a2 a135 (by exact ⟨h137.2.2.2.2.1, (by (clear ua138 la138 fM136 hM136 ih131 u101 hret C hp1 hp0 ha2 ha1 hcw hpr hM0; omega))⟩)
        refine j_iload_n C 3 3 dX12_buysOf_76 rfl rfl ?_
        exact hret _ _ _ _ dX12_buysOf_77 ⟨a133, rfl, hM136, (FR.rf.tr fM136 (by decide)), by exact ⟨h137.1, ⟨h137.2.1, ⟨(by (clear h139 ua138 la138 ea138 fM136 hM136 ih131 u101k u101 hret C hp1 hp0 ha2 ha1 hcw hpr hM0; omega)), h137.2.2.2.2.2.2.2.2.2.1⟩⟩⟩⟩
      · refine j_aload_n C 0 0 dX12_buysOf_20 rfl rfl ?_
        refine j_iload_n C 2 2 dX12_buysOf_21 rfl rfl ?_
        refine j_callVi C (d := 2) (As := [.int (sI a2)]) (st := []) 98 (s_lt rfl rfl) (s_kc (c := 11) rfl rfl) (by decide) rfl (s1_X12_isShutBy hM136 a2 (by exact ⟨ha2.1, ha2.2⟩)) gX12_buysOf_X12_isShutBy rfl hdX12_isShutBy (by decide) (Nat.le_of_ble_eq_true rfl) dX12_buysOf_22 rfl (fun r140 M141 h142 => ?_)
        obtain ⟨a144, rfl, rfl, h143⟩ := h142
        rw [show M136.1 99 = M0.1 99 from (FR.cell fM136 (by decide))] at h143
        obtain rfl : a144 = (shF (M0.1 99) a2) := by exact h143.2.2
        refine y_if_ne C 76 dX12_buysOf_25 (by decide) (by (clear h139 ua138 la138 ea138 fM136 hM136 h137 ih131 u101k u101 hret C hp1 hp0 ha2 ha1 hcw hpr hM0; omega)) (fun h145 => ?_) (fun h145 => ?_)
        · have u163 := bo_end (M0.1 99) a1 a2 a135 (by exact ⟨h137.2.2.2.2.1, (by (clear ua138 la138 fM136 hM136 ih131 u101k u101 hret C hp1 hp0 ha2 ha1 hcw hpr hM0; omega))⟩)
          refine j_iload_n C 3 3 dX12_buysOf_76 rfl rfl ?_
          exact hret _ _ _ _ dX12_buysOf_77 ⟨a133, rfl, hM136, (FR.rf.tr fM136 (by decide)), by exact ⟨h137.1, ⟨h137.2.1, ⟨(by omega), h137.2.2.2.2.2.2.2.2.2.1⟩⟩⟩⟩
        · refine j_aload_n C 0 0 dX12_buysOf_28 rfl rfl ?_
          refine j_iload_n C 1 1 dX12_buysOf_29 rfl rfl ?_
          refine j_iload C 5 dX12_buysOf_30 rfl ?_
          refine j_iload_n C 2 2 dX12_buysOf_32 rfl rfl ?_
          refine j_callVi C (d := 2) (As := [.int (sI a1), .int (sI a135), .int (sI a2)]) (st := []) 98 (s_lt rfl rfl) (s_kc (c := 11) rfl rfl) (by decide) rfl (s1_X12_mayBuy hM136 hpr hcw a1 (by exact ⟨ha1.1, ha1.2⟩) a135 (by omega) a2 (by exact ⟨ha2.1, ha2.2⟩) (by exact ⟨hp0.1, hp0.2⟩) (by exact ⟨h137.2.2.2.2.1, (by (clear h145 h143 ua138 la138 fM136 hM136 ih131 u101 hret C hp1 hp0 ha2 ha1 hcw hpr hM0; omega))⟩) (by exact h137.2.2.2.2.2.2.2.2.2.1)) gX12_buysOf_X12_mayBuy rfl hdX12_mayBuy (by decide) (Nat.le_of_ble_eq_true rfl) dX12_buysOf_33 rfl (fun r146 M147 h148 => ?_)
          obtain ⟨a150, rfl, hM147, fM147, h149⟩ := h148
          rw [show M136.1 99 = M0.1 99 from (FR.cell fM136 (by decide))] at h149
          obtain rfl : a150 = (mbF (M0.1 99) a1 a135 a2) := by exact h149.2.2.1
          refine y_if_eq C 50 dX12_buysOf_36 (by decide) (by (clear fM147 hM147 h145 h143 h139 ua138 la138 ea138 fM136 hM136 h137 ih131 u101k u101 hret C hp1 hp0 ha2 ha1 hcw hpr hM0; omega)) (fun h151 => ?_) (fun h151 => ?_)
          · refine y_iconst C dX12_buysOf_50 ?_
            refine j_istore C 6 [(6, .int (sI 0)), (0, .ref (ad 98)), (1, .int (sI a1)), (2, .int (sI a2)), (3, .int (sI a133)), (4, .int (sI a134)), (5, .int (sI a135))] dX12_buysOf_51 (by decide) rfl ?_
            refine j_iload C 0 dX12_buysOf_53 rfl ?_
            refine j_iload C 5 dX12_buysOf_55 rfl ?_
            refine y_icmp_gt C 63 dX12_buysOf_57 (by decide) (by exact ⟨⟨(by decide), (by decide)⟩, ⟨(by (clear h151 h149 fM147 hM147 h145 h143 h139 ua138 la138 ea138 fM136 hM136 ih131 u101k u101 hret C hp1 hp0 ha2 ha1 hcw hpr hM0; omega)), h137.2.2.2.1⟩⟩) (fun h152 => ?_) (fun h152 => ?_)
            · exfalso; (clear h151 h149 fM147 hM147 h145 h143 h139 ua138 la138 ea138 fM136 hM136 ih131 u101k u101 hret C hp1 hp0 ha2 ha1 hcw hpr hM0; omega)
            · refine j_goto C 70 dX12_buysOf_60 (by decide) ?_
              have u153 := bo_step (M0.1 99) a1 a2 a135 (by exact h137.2.2.2.2.1)
              simp only [] at u153
              refine y_iinc C 6 [(5, .int (sI (a135 + 1))), (6, .int (sI 0)), (0, .ref (ad 98)), (1, .int (sI a1)), (2, .int (sI a2)), (3, .int (sI a133)), (4, .int (sI a134))] dX12_buysOf_70 rfl (by decide) rfl ?_
              refine j_goto C 8 dX12_buysOf_73 (by decide) ?_
              refine j_lv [2, 3, 4, 5, 6, 0] rfl ?_; exact ih131 a133 a134 (a135 + 1) M147 (by exact ⟨h137.1, ⟨h137.2.1, ⟨h137.2.2.1, ⟨h137.2.2.2.1, ⟨(by (clear h152 fM147 hM147 h143 ua138 la138 fM136 hM136 ih131 u101 hret C hp1 hp0 ha2 ha1 hcw hpr hM0; omega)), ⟨(by (clear h152 fM147 hM147 h143 ua138 la138 fM136 hM136 ih131 u101 hret C hp1 hp0 ha2 ha1 hcw hpr hM0; omega)), ⟨(by (clear h152 fM147 hM147 h143 ua138 la138 fM136 hM136 ih131 u101 hret C hp1 hp0 ha2 ha1 hcw hpr hM0; omega)), ⟨(by (clear h152 fM147 hM147 h143 ua138 la138 fM136 hM136 ih131 u101 hret C hp1 hp0 ha2 ha1 hcw hpr hM0; omega)), ⟨(by (clear h152 fM147 hM147 h143 ua138 la138 fM136 hM136 ih131 u101 hret C hp1 hp0 ha2 ha1 hcw hpr hM0; omega)), ⟨h149.2.2.2, (by (clear h152 fM147 hM147 h143 ua138 la138 fM136 hM136 ih131 u101 hret C hp1 hp0 ha2 ha1 hcw hpr hM0; omega))⟩⟩⟩⟩⟩⟩⟩⟩⟩⟩) hM147 ((FR.rf.tr fM136 (by decide)).tr fM147 (by decide))
          · refine j_aload_n C 0 0 dX12_buysOf_39 rfl rfl ?_
            refine j_iload_n C 1 1 dX12_buysOf_40 rfl rfl ?_
            refine j_iload C 5 dX12_buysOf_41 rfl ?_
            refine j_iload_n C 2 2 dX12_buysOf_43 rfl rfl ?_
            refine j_callVi C (d := 2) (As := [.int (sI a1), .int (sI a135), .int (sI a2)]) (st := []) 98 (s_lt rfl rfl) (s_kc (c := 11) rfl rfl) (by decide) rfl (s1_X12_wantsOf hM147 hpr hcw a1 (by exact ⟨ha1.1, ha1.2⟩) a135 (by omega) a2 (by exact ⟨ha2.1, ha2.2⟩) (by exact ⟨hp0.1, hp0.2⟩) (by exact ⟨h137.2.2.2.2.1, (by (clear h151 h149 fM147 hM147 h145 h143 ua138 la138 fM136 hM136 ih131 u101 hret C hp1 hp0 ha2 ha1 hcw hpr hM0; omega))⟩) (by exact h149.2.2.2)) gX12_buysOf_X12_wantsOf rfl hdX12_wantsOf (by decide) (Nat.le_of_ble_eq_true rfl) dX12_buysOf_44 rfl (fun r154 M155 h156 => ?_)
            obtain ⟨a158, rfl, hM155, fM155, h157⟩ := h156
            rw [show M147.1 99 = M0.1 99 from ((FR.cell fM147 (by decide)).trans (FR.cell fM136 (by decide)))] at h157
            obtain rfl : a158 = (wtF (M0.1 99) a1 a135 a2) := by exact h157.2.2.1
            refine j_goto C 51 dX12_buysOf_47 (by decide) ?_
            refine j_istore C 6 [(6, .int (sI (wtF (M0.1 99) a1 a135 a2))), (0, .ref (ad 98)), (1, .int (sI a1)), (2, .int (sI a2)), (3, .int (sI a133)), (4, .int (sI a134)), (5, .int (sI a135))] dX12_buysOf_51 (by decide) rfl ?_
            refine j_iload C 0 dX12_buysOf_53 rfl ?_
            refine j_iload C 5 dX12_buysOf_55 rfl ?_
            refine y_icmp_gt C 63 dX12_buysOf_57 (by decide) (by exact ⟨⟨h157.1, h157.2.1⟩, ⟨(by (clear fM155 hM155 h151 h149 fM147 hM147 h145 h143 h139 ua138 la138 ea138 fM136 hM136 ih131 u101k u101 hret C hp1 hp0 ha2 ha1 hcw hpr hM0; omega)), h137.2.2.2.1⟩⟩) (fun h159 => ?_) (fun h159 => ?_)
            · refine j_iload C 6 dX12_buysOf_63 rfl ?_
              refine j_istore_n C 3 [(3, .int (sI a135)), (6, .int (sI (wtF (M0.1 99) a1 a135 a2))), (0, .ref (ad 98)), (1, .int (sI a1)), (2, .int (sI a2)), (4, .int (sI a134)), (5, .int (sI a135))] dX12_buysOf_65 rfl (by decide) rfl ?_
              refine j_iload C 1 dX12_buysOf_66 rfl ?_
              refine j_istore C 4 [(4, .int (sI (wtF (M0.1 99) a1 a135 a2))), (3, .int (sI a135)), (6, .int (sI (wtF (M0.1 99) a1 a135 a2))), (0, .ref (ad 98)), (1, .int (sI a1)), (2, .int (sI a2)), (5, .int (sI a135))] dX12_buysOf_68 (by decide) rfl ?_
              have u160 := bo_step (M0.1 99) a1 a2 a135 (by exact h137.2.2.2.2.1)
              simp only [] at u160
              refine y_iinc C 6 [(5, .int (sI (a135 + 1))), (4, .int (sI (wtF (M0.1 99) a1 a135 a2))), (3, .int (sI a135)), (6, .int (sI (wtF (M0.1 99) a1 a135 a2))), (0, .ref (ad 98)), (1, .int (sI a1)), (2, .int (sI a2))] dX12_buysOf_70 rfl (by decide) rfl ?_
              refine j_goto C 8 dX12_buysOf_73 (by decide) ?_
              refine j_lv [4, 5, 6, 2, 1, 0] rfl ?_; exact ih131 a135 (wtF (M0.1 99) a1 a135 a2) (a135 + 1) M155 (by (clear fM155 hM155 h149 fM147 hM147 h143 ua138 la138 fM136 hM136 ih131 u101 hret C hp1 hp0 ha2 ha1 hcw hpr hM0; omega)) hM155 (((FR.rf.tr fM136 (by decide)).tr fM147 (by decide)).tr fM155 (by decide))
            · refine j_goto C 70 dX12_buysOf_60 (by decide) ?_
              have u161 := bo_step (M0.1 99) a1 a2 a135 (by exact h137.2.2.2.2.1)
              simp only [] at u161
              refine y_iinc C 6 [(5, .int (sI (a135 + 1))), (6, .int (sI (wtF (M0.1 99) a1 a135 a2))), (0, .ref (ad 98)), (1, .int (sI a1)), (2, .int (sI a2)), (3, .int (sI a133)), (4, .int (sI a134))] dX12_buysOf_70 rfl (by decide) rfl ?_
              refine j_goto C 8 dX12_buysOf_73 (by decide) ?_
              refine j_lv [2, 3, 4, 5, 6, 0] rfl ?_; exact ih131 a133 a134 (a135 + 1) M155 (by exact ⟨h137.1, ⟨h137.2.1, ⟨h137.2.2.1, ⟨h137.2.2.2.1, ⟨(by (clear fM155 hM155 h151 h149 fM147 hM147 h143 ua138 la138 fM136 hM136 ih131 u101 hret C hp1 hp0 ha2 ha1 hcw hpr hM0; omega)), ⟨(by (clear fM155 hM155 h151 h149 fM147 hM147 h143 ua138 la138 fM136 hM136 ih131 u101 hret C hp1 hp0 ha2 ha1 hcw hpr hM0; omega)), ⟨(by (clear fM155 hM155 h151 h149 fM147 hM147 h143 ua138 la138 fM136 hM136 ih131 u101 hret C hp1 hp0 ha2 ha1 hcw hpr hM0; omega)), ⟨(by (clear fM155 hM155 h151 h149 fM147 hM147 h143 ua138 la138 fM136 hM136 ih131 u101 hret C hp1 hp0 ha2 ha1 hcw hpr hM0; omega)), ⟨(by (clear fM155 hM155 h151 h149 fM147 hM147 h143 ua138 la138 fM136 hM136 ih131 u101 hret C hp1 hp0 ha2 ha1 hcw hpr hM0; omega)), ⟨h157.2.2.2, (by (clear fM155 hM155 h151 h149 fM147 hM147 h143 ua138 la138 fM136 hM136 ih131 u101 hret C hp1 hp0 ha2 ha1 hcw hpr hM0; omega))⟩⟩⟩⟩⟩⟩⟩⟩⟩⟩) hM155 (((FR.rf.tr fM136 (by decide)).tr fM147 (by decide)).tr fM155 (by decide))
  refine j_lv [3, 4, 5, 2, 1, 0] rfl ?_; exact L132 4294967304 (-1) 0 0 M0 (by exact ⟨(by decide), ⟨(by decide), ⟨(by decide), ⟨(by decide), ⟨(by decide), ⟨(by decide), ⟨u101.1.symm, ⟨u101.2.symm, ⟨u101k.1, ⟨hp1, (by decide)⟩⟩⟩⟩⟩⟩⟩⟩⟩⟩) hM0 FR.rf
set_option maxHeartbeats 4000000 in
theorem s1_X12_buysNow {l : Launch} {dC : Nat → ClassId} {dI : Nat → Nat → Nat} {ad : Nat → Nat} {cA : Nat → ClassId} {pr : Nat → Nat → Bool} {Kz : mm_M} {M0 : mm_M} (hM0 : INV pr Kz M0) (hpr : PM pr) (hcw : CWK pr Kz) (a1 : Int) (ha1 : -2147483648 ≤ a1 ∧ a1 ≤ 2147483647) (hp0 : 0 ≤ a1 ∧ a1 ≤ 5) (hp1 : b01 (PI M0) = 1) : Ci l 4 yX12_buysNow wsX12_buysNow dC dI ad cA [.ref (ad 98), .int (sI a1)] M0 (fun r M' => ∃ a : Int, r = sI a ∧ INV pr Kz M' ∧ FR [103, 104] M0 M' ∧ (-1) ≤ a ∧ a ≤ 7 ∧ (a = (bnF (M0.1 99) a1)) ∧ (b01 (PI M') = 1)) := by
  refine ci_of (cc := cX12_buysNow) (maxL := 2) (ty := .int) (lv := [(0, .ref (ad 98)), (1, .int (sI a1))]) (by decide) rfl (fun r M' hp => rfl) (Nat.le_of_ble_eq_true rfl) rfl ?_
  intro p e s m args below meth c A Q C hret
  refine j_aload_n C 0 0 dX12_buysNow_0 rfl rfl ?_
  refine j_iload_n C 1 1 dX12_buysNow_1 rfl rfl ?_
  refine j_aload_n C 0 0 dX12_buysNow_2 rfl rfl ?_
  refine y_getC C 11 99 fX12_buysNow_13 rfl rfl ft_11_1 sm_11_1 rfl hM0 dX12_buysNow_3 ?_
  refine y_bipush C dX12_buysNow_6 rfl ?_
  refine y_ialdH C 45 3543 rfl rfl rfl ak_45 an_45 rfl _ _ hM0 (hr_45_27_27 _ (by exact (by decide)) (by exact (by decide))) dX12_buysNow_8 (by exact ⟨(by decide), (by decide)⟩) (fun a101 ea101 la101 ua101 => ?_)
  obtain rfl : a101 = (M0.1 99 27).toInt := ea101
  refine j_callVi C (d := 3) (As := [.int (sI a1), .int (sI (M0.1 99 27).toInt)]) (st := []) 98 (s_lt rfl rfl) (s_kc (c := 11) rfl rfl) (by decide) rfl (s1_X12_buysOf hM0 hpr hcw a1 (by exact ⟨ha1.1, ha1.2⟩) (M0.1 99 27).toInt (by omega) (by exact ⟨hp0.1, hp0.2⟩) (by exact hp1)) gX12_buysNow_X12_buysOf rfl hdX12_buysOf (by decide) (Nat.le_of_ble_eq_true rfl) dX12_buysNow_9 rfl (fun r102 M103 h104 => ?_)
  obtain ⟨a106, rfl, hM103, fM103, h105⟩ := h104
  obtain rfl : a106 = (boF (M0.1 99) a1 (M0.1 99 27).toInt) := by exact h105.2.2.1
  have u107 : bnF (M0.1 99) a1 = boF (M0.1 99) a1 (M0.1 99 27).toInt := rfl
  exact hret _ _ _ _ dX12_buysNow_12 ⟨(boF (M0.1 99) a1 (M0.1 99 27).toInt), rfl, hM103, (FR.rf.tr fM103 (by decide)), by exact ⟨h105.1, ⟨h105.2.1, ⟨u107.symm, h105.2.2.2⟩⟩⟩⟩
set_option maxHeartbeats 4000000 in
theorem s1_X12_whoBuys {l : Launch} {dC : Nat → ClassId} {dI : Nat → Nat → Nat} {ad : Nat → Nat} {cA : Nat → ClassId} {pr : Nat → Nat → Bool} {Kz : mm_M} {M0 : mm_M} (hM0 : INV pr Kz M0) (hpr : PM pr) (hcw : CWK pr Kz) (a1 : Int) (ha1 : -2147483648 ≤ a1 ∧ a1 ≤ 2147483647) (hp0 : b01 (PI M0) = 1) : Ci l 5 yX12_whoBuys wsX12_whoBuys dC dI ad cA [.ref (ad 98), .int (sI a1)] M0 (fun r M' => ∃ a : Int, r = sI a ∧ INV pr Kz M' ∧ FR [103, 104] M0 M' ∧ 0 ≤ a ∧ a ≤ 63 ∧ (a = (wbF (M0.1 99) a1 (M0.1 99 1).toInt.toNat)) ∧ (b01 (PI M') = 1)) := by
  refine ci_of (cc := cX12_whoBuys) (maxL := 4) (ty := .int) (lv := [(0, .ref (ad 98)), (1, .int (sI a1))]) (by decide) rfl (fun r M' hp => rfl) (Nat.le_of_ble_eq_true rfl) rfl ?_
  intro p e s m args below meth c A Q C hret
  have u101k := INV.rd hM0 (i := 99) (c := 45) (k := 1) rfl rfl
  refine y_iconst C dX12_whoBuys_0 ?_
  refine j_istore_n C 2 [(2, .int (sI 0)), (0, .ref (ad 98)), (1, .int (sI a1))] dX12_whoBuys_1 rfl (by decide) rfl ?_
  refine y_iconst C dX12_whoBuys_2 ?_
  refine j_istore_n C 3 [(3, .int (sI 0)), (2, .int (sI 0)), (0, .ref (ad 98)), (1, .int (sI a1))] dX12_whoBuys_3 rfl (by decide) rfl ?_
  have u102z : wbF (M0.1 99) a1 (0 : Int).toNat = 0 := rfl
  have L123 : ∀ (n121 : Nat), ∀ (a124 : Int) (a125 : Int) (M126 : mm_M), (0 ≤ a124 ∧ a124 ≤ 63 ∧ 0 ≤ a125 ∧ a125 ≤ 6 ∧ (a124 = (wbF (M0.1 99) a1 (a125).toNat)) ∧ (a125 ≤ (M0.1 99 1).toInt) ∧ (b01 (PI M126) = 1) ∧ (6 - a125) < (n121 : Int)) → INV pr Kz M126 → FR [103, 104] M0 M126 → jj p l e (cn_R 5) s m args below meth c 0 0 Q 4 dC dI ad cA A M126 4 [(0, .ref (ad 98)), (1, .int (sI a1)), (2, .int (sI a124)), (3, .int (sI a125))] [] := by
    intro n121
    induction n121 with
    | zero =>
      intro a124 a125 M126 h127 hM126 fM126
      exfalso; omega
    | succ n121 ih122 =>
      intro a124 a125 M126 h127 hM126 fM126
      have u128k := INV.rd hM0 (i := 99) (c := 45) (k := 1) rfl rfl
      refine j_iload_n C 3 3 dX12_whoBuys_4 rfl rfl ?_
      refine j_aload_n C 0 0 dX12_whoBuys_5 rfl rfl ?_
      refine y_getC C 11 99 fX12_whoBuys_13 rfl rfl ft_11_1 sm_11_1 rfl hM126 dX12_whoBuys_6 ?_
      refine y_iconst C dX12_whoBuys_9 ?_
      refine y_ialdH C 45 3543 rfl rfl rfl ak_45 an_45 rfl _ _ hM126 (hr_45_1_1 _ (by exact (by decide)) (by exact (by decide))) dX12_whoBuys_10 (by exact ⟨(by decide), (by decide)⟩) (fun a129 ea129 la129 ua129 => ?_)
      obtain rfl : a129 = (M0.1 99 1).toInt := s_fF fM126 (by decide) (ea129)
      refine y_icmp_ge C 39 dX12_whoBuys_11 (by decide) (by (clear ua129 la129 u128k fM126 hM126 ih122 u102z hret C hp0 ha1 hcw hpr hM0; omega)) (fun h130 => ?_) (fun h130 => ?_)
      · have u143x : a125 = (M0.1 99 1).toInt := by (clear ua129 la129 u128k fM126 hM126 ih122 u102z u101k hret C hp0 ha1 hcw hpr hM0; omega)
        have u143y : wbF (M0.1 99) a1 (a125).toNat = wbF (M0.1 99) a1 (M0.1 99 1).toInt.toNat := by rw [u143x]
        refine j_iload_n C 2 2 dX12_whoBuys_39 rfl rfl ?_
        exact hret _ _ _ _ dX12_whoBuys_40 ⟨a124, rfl, hM126, (FR.rf.tr fM126 (by decide)), by exact ⟨h127.1, ⟨h127.2.1, ⟨(by (clear u143x h130 ua129 la129 ea129 u128k fM126 hM126 ih122 u102z u101k hret C hp0 ha1 hcw hpr hM0; omega)), h127.2.2.2.2.2.2.1⟩⟩⟩⟩
      · refine j_iload_n C 2 2 dX12_whoBuys_14 rfl rfl ?_
        refine j_aload_n C 0 0 dX12_whoBuys_15 rfl rfl ?_
        refine j_iload_n C 3 3 dX12_whoBuys_16 rfl rfl ?_
        refine j_callVi C (d := 4) (As := [.int (sI a125)]) (st := [.int (sI a124)]) 98 (s_lt rfl rfl) (s_kc (c := 11) rfl rfl) (by decide) rfl (s1_X12_buysNow hM126 hpr hcw a125 (by omega) (by exact ⟨h127.2.2.1, (by (clear ua129 la129 u128k fM126 hM126 ih122 u102z hret C hp0 ha1 hcw hpr hM0; omega))⟩) (by exact h127.2.2.2.2.2.2.1)) gX12_whoBuys_X12_buysNow rfl hdX12_buysNow (by decide) (Nat.le_of_ble_eq_true rfl) dX12_whoBuys_17 rfl (fun r131 M132 h133 => ?_)
        obtain ⟨a135, rfl, hM132, fM132, h134⟩ := h133
        rw [show M126.1 99 = M0.1 99 from (FR.cell fM126 (by decide))] at h134
        obtain rfl : a135 = (bnF (M0.1 99) a125) := by exact h134.2.2.1
        have u136w := wb_s (M0.1 99) a1 (x := a125) (x' := a125 + 1) (a := a124) (by exact h127.2.2.1) rfl (by exact h127.2.2.2.2.1)
        refine j_iload_n C 1 1 dX12_whoBuys_20 rfl rfl ?_
        refine y_icmp_ne C 30 dX12_whoBuys_21 (by decide) (by exact ⟨⟨(by (clear u136w fM132 hM132 h130 ua129 la129 ea129 u128k fM126 hM126 h127 ih122 u102z u101k hret C hp0 hcw hpr hM0; omega)), (by (clear u136w fM132 hM132 h130 ua129 la129 ea129 u128k fM126 hM126 h127 ih122 u102z u101k hret C hp0 hcw hpr hM0; omega))⟩, ⟨ha1.1, ha1.2⟩⟩) (fun h137 => ?_) (fun h137 => ?_)
        · refine y_iconst C dX12_whoBuys_30 ?_
          refine e_iorN C 6 63 dX12_whoBuys_31 rfl (by decide) (by exact ⟨h127.1, ⟨h127.2.1, ⟨(by decide), (by decide)⟩⟩⟩) (fun lb138 ub138 ob138 => ?_)
          refine j_istore_n C 2 [(2, .int (sI (orI a124 0))), (0, .ref (ad 98)), (1, .int (sI a1)), (3, .int (sI a125))] dX12_whoBuys_32 rfl (by decide) rfl ?_
          refine y_iinc C 3 [(3, .int (sI (a125 + 1))), (2, .int (sI (orI a124 0))), (0, .ref (ad 98)), (1, .int (sI a1))] dX12_whoBuys_33 rfl (by decide) rfl ?_
          refine j_goto C 4 dX12_whoBuys_36 (by decide) ?_
          refine j_lv [2, 3, 1, 0] rfl ?_; exact ih122 (orI a124 0) (a125 + 1) M132 (by exact ⟨lb138, ⟨ub138, ⟨(by (clear ob138 fM132 hM132 ua129 la129 u128k fM126 hM126 ih122 u102z hret C hp0 ha1 hcw hpr hM0; omega)), ⟨(by (clear ob138 fM132 hM132 ua129 la129 u128k fM126 hM126 ih122 u102z hret C hp0 ha1 hcw hpr hM0; omega)), ⟨(by (clear ob138 fM132 hM132 ua129 la129 u128k fM126 hM126 ih122 u102z hret C hp0 ha1 hcw hpr hM0; omega)), ⟨(by (clear ob138 fM132 hM132 ua129 la129 u128k fM126 hM126 ih122 u102z hret C hp0 ha1 hcw hpr hM0; omega)), ⟨h134.2.2.2, (by (clear ob138 fM132 hM132 ua129 la129 u128k fM126 hM126 ih122 u102z hret C hp0 ha1 hcw hpr hM0; omega))⟩⟩⟩⟩⟩⟩⟩) hM132 ((FR.rf.tr fM126 (by decide)).tr fM132 (by decide))
        · refine y_iconst C dX12_whoBuys_24 ?_
          refine j_iload_n C 3 3 dX12_whoBuys_25 rfl rfl ?_
          refine e_shl1 C 5 32 dX12_whoBuys_26 rfl (by decide) (by exact ⟨h127.2.2.1, (by (clear h137 u136w h134 fM132 hM132 ua129 la129 u128k fM126 hM126 ih122 u102z hret C hp0 ha1 hcw hpr hM0; omega))⟩) (fun lb140 ub140 => ?_)
          refine j_goto C 31 dX12_whoBuys_27 (by decide) ?_
          refine e_iorN C 6 63 dX12_whoBuys_31 rfl (by decide) (by exact ⟨h127.1, ⟨h127.2.1, ⟨(by (clear h137 u136w h134 fM132 hM132 h130 ua129 la129 ea129 u128k fM126 hM126 ih122 u102z u101k hret C hp0 ha1 hcw hpr hM0; omega)), (by (clear h137 u136w h134 fM132 hM132 h130 ua129 la129 ea129 u128k fM126 hM126 ih122 u102z u101k hret C hp0 ha1 hcw hpr hM0; omega))⟩⟩⟩) (fun lb141 ub141 ob141 => ?_)
          refine j_istore_n C 2 [(2, .int (sI (orI a124 (pw2 a125)))), (0, .ref (ad 98)), (1, .int (sI a1)), (3, .int (sI a125))] dX12_whoBuys_32 rfl (by decide) rfl ?_
          refine y_iinc C 3 [(3, .int (sI (a125 + 1))), (2, .int (sI (orI a124 (pw2 a125)))), (0, .ref (ad 98)), (1, .int (sI a1))] dX12_whoBuys_33 rfl (by decide) rfl ?_
          refine j_goto C 4 dX12_whoBuys_36 (by decide) ?_
          refine j_lv [2, 3, 1, 0] rfl ?_; exact ih122 (orI a124 (pw2 a125)) (a125 + 1) M132 (by exact ⟨lb141, ⟨ub141, ⟨(by (clear ob141 ub140 lb140 fM132 hM132 ua129 la129 u128k fM126 hM126 ih122 u102z hret C hp0 ha1 hcw hpr hM0; omega)), ⟨(by (clear ob141 ub140 lb140 fM132 hM132 ua129 la129 u128k fM126 hM126 ih122 u102z hret C hp0 ha1 hcw hpr hM0; omega)), ⟨(by (clear ob141 ub140 lb140 fM132 hM132 ua129 la129 u128k fM126 hM126 ih122 u102z hret C hp0 ha1 hcw hpr hM0; omega)), ⟨(by (clear ob141 ub140 lb140 fM132 hM132 ua129 la129 u128k fM126 hM126 ih122 u102z hret C hp0 ha1 hcw hpr hM0; omega)), ⟨h134.2.2.2, (by (clear ob141 ub140 lb140 fM132 hM132 ua129 la129 u128k fM126 hM126 ih122 u102z hret C hp0 ha1 hcw hpr hM0; omega))⟩⟩⟩⟩⟩⟩⟩) hM132 ((FR.rf.tr fM126 (by decide)).tr fM132 (by decide))
  refine j_lv [2, 3, 1, 0] rfl ?_; exact L123 2010 0 0 M0 (by exact ⟨(by decide), ⟨(by decide), ⟨(by decide), ⟨(by decide), ⟨u102z.symm, ⟨u101k.1, ⟨hp0, (by decide)⟩⟩⟩⟩⟩⟩⟩) hM0 FR.rf
set_option maxHeartbeats 4000000 in
theorem s1_X12_kind {l : Launch} {dC : Nat → ClassId} {dI : Nat → Nat → Nat} {ad : Nat → Nat} {cA : Nat → ClassId} {pr : Nat → Nat → Bool} {Kz : mm_M} {M0 : mm_M} (hM0 : INV pr Kz M0) (hpr : PM pr) (hcw : CWK pr Kz) (a1 : Int) (ha1 : -2147483648 ≤ a1 ∧ a1 ≤ 2147483647) (a2 : Int) (ha2 : -2147483648 ≤ a2 ∧ a2 ≤ 2147483647) (hp0 : b01 (PI M0) = 1) : Ci l 6 yX12_kind wsX12_kind dC dI ad cA [.ref (ad 98), .int (sI a1), .int (sI a2)] M0 (fun r M' => ∃ a : Int, r = sI a ∧ INV pr Kz M' ∧ FR [98, 103, 104] M0 M' ∧ (-2147483648) ≤ a ∧ a ≤ 2147483647 ∧ (a = (knF (M0.1 99) a1 a2)) ∧ (b01 (PI M') = 1)) := by
  refine ci_of (cc := cX12_kind) (maxL := 3) (ty := .int) (lv := [(0, .ref (ad 98)), (1, .int (sI a1)), (2, .int (sI a2))]) (by decide) rfl (fun r M' hp => rfl) (Nat.le_of_ble_eq_true rfl) rfl ?_
  intro p e s m args below meth c A Q C hret
  refine j_aload_n C 0 0 dX12_kind_0 rfl rfl ?_
  refine y_iconst C dX12_kind_1 ?_
  refine y_putIF C 11 qX12_kind_1 rfl rfl ft_11_0 sb_11_0 hM0 (PM.w hpr rfl rfl) dX12_kind_2 (fun M101 eM101 hM101 => ?_)
  have pM101 := pi_o eM101 (by decide) (by decide) (by exact hp0)
  have u102k1 : (M101.1 99 1).toInt = (M0.1 99 1).toInt := s_fa eM101 (by decide) rfl
  have u102k26 : (M101.1 99 26).toInt = (M0.1 99 26).toInt := s_fa eM101 (by decide) rfl
  have u102k27 : (M101.1 99 27).toInt = (M0.1 99 27).toInt := s_fa eM101 (by decide) rfl
  refine j_aload_n C 0 0 dX12_kind_5 rfl rfl ?_
  refine j_iload_n C 1 1 dX12_kind_6 rfl rfl ?_
  refine y_i2l C dX12_kind_7 (by exact ⟨ha1.1, ha1.2⟩) ?_
  refine j_callVi C (d := 1) (As := [.long (sJ a1)]) (st := []) 98 (s_lt rfl rfl) (s_kc (c := 11) rfl rfl) (by decide) rfl (s1_X12_isKind hM101 a1 (by omega)) gX12_kind_X12_isKind rfl hdX12_isKind (by decide) (Nat.le_of_ble_eq_true rfl) dX12_kind_8 rfl (fun r103 M104 h105 => ?_)
  obtain ⟨a107, rfl, rfl, h106⟩ := h105
  refine y_if_ne C 17 dX12_kind_11 (by decide) (by (clear u102k27 u102k26 u102k1 pM101 hM101 eM101 hret C hp0 ha2 ha1 hcw hpr hM0; omega)) (fun h108 => ?_) (fun h108 => ?_)
  · refine j_iload_n C 2 2 dX12_kind_17 rfl rfl ?_
    rcases (show (a2 < 0 ∨ 4 < a2) ∨ a2 = 0 ∨ a2 = 1 ∨ a2 = 2 ∨ a2 = 3 ∨ a2 = 4 by (clear h108 h106 u102k27 u102k26 u102k1 pM101 hM101 eM101 hret C hp0 ha1 hcw hpr hM0; omega)) with h109 | h109 | h109 | h109 | h109 | h109
    · refine y_tabO C 102 dX12_kind_18 (by decide) (by exact ⟨⟨ha2.1, ha2.2⟩, h109⟩) ?_
      refine y_bipush C dX12_kind_102 rfl ?_
      have u110s := knF_s (M0.1 99) a1 a2
      exact hret _ _ _ _ dX12_kind_104 ⟨(-2), rfl, hM101, (FR.rf.wI eM101 (by decide)), by exact ⟨(by decide), ⟨(by decide), ⟨(by (clear h108 h106 u102k27 u102k26 u102k1 hM101 eM101 hret C hp0 ha2 ha1 hcw hpr hM0; omega)), pM101⟩⟩⟩⟩
    · refine y_tabI C (off := 34) 52 0 dX12_kind_18 (by decide) rfl (by decide) h109 ?_
      refine j_aload_n C 0 0 dX12_kind_52 rfl rfl ?_
      refine y_getC C 11 99 fX12_kind_13 rfl rfl ft_11_1 sm_11_1 rfl hM101 dX12_kind_53 ?_
      refine y_bipush C dX12_kind_56 rfl ?_
      refine j_iload_n C 1 1 dX12_kind_58 rfl rfl ?_
      refine y_iadd C dX12_kind_59 ?_
      refine y_ialdF C 45 3543 rfl rfl rfl ak_45 an_45 rfl dX12_kind_60 (by (clear h109 u102k27 u102k1 pM101 hM101 eM101 hret C hp0 ha2 hcw hpr hM0; omega)) (fun a111 ea111 la111 ua111 => ?_)
      obtain rfl : a111 = (M0.1 99 ((33 + a1)).toNat).toInt := s_fa eM101 (by decide) (ea111)
      have u112s := knF_s (M0.1 99) a1 a2
      exact hret _ _ _ _ dX12_kind_61 ⟨(M0.1 99 ((33 + a1)).toNat).toInt, rfl, hM101, (FR.rf.wI eM101 (by decide)), by exact ⟨la111, ⟨ua111, ⟨(by (clear u102k27 u102k1 hM101 eM101 hret C hp0 ha2 hcw hpr hM0; omega)), pM101⟩⟩⟩⟩
    · refine y_tabI C (off := 44) 62 1 dX12_kind_18 (by decide) rfl (by decide) h109 ?_
      refine j_aload_n C 0 0 dX12_kind_62 rfl rfl ?_
      refine y_getC C 11 99 fX12_kind_13 rfl rfl ft_11_1 sm_11_1 rfl hM101 dX12_kind_63 ?_
      refine y_bipush C dX12_kind_66 rfl ?_
      refine j_iload_n C 1 1 dX12_kind_68 rfl rfl ?_
      refine y_iadd C dX12_kind_69 ?_
      refine y_ialdF C 45 3543 rfl rfl rfl ak_45 an_45 rfl dX12_kind_70 (by (clear h109 u102k27 u102k1 pM101 hM101 eM101 hret C hp0 ha2 hcw hpr hM0; omega)) (fun a113 ea113 la113 ua113 => ?_)
      obtain rfl : a113 = (M0.1 99 ((41 + a1)).toNat).toInt := s_fa eM101 (by decide) (ea113)
      have u114s := knF_s (M0.1 99) a1 a2
      exact hret _ _ _ _ dX12_kind_71 ⟨(M0.1 99 ((41 + a1)).toNat).toInt, rfl, hM101, (FR.rf.wI eM101 (by decide)), by exact ⟨la113, ⟨ua113, ⟨(by (clear u102k27 u102k1 hM101 eM101 hret C hp0 ha2 hcw hpr hM0; omega)), pM101⟩⟩⟩⟩
    · refine y_tabI C (off := 54) 72 2 dX12_kind_18 (by decide) rfl (by decide) h109 ?_
      refine j_aload_n C 0 0 dX12_kind_72 rfl rfl ?_
      refine y_getC C 11 99 fX12_kind_13 rfl rfl ft_11_1 sm_11_1 rfl hM101 dX12_kind_73 ?_
      refine y_bipush C dX12_kind_76 rfl ?_
      refine y_ialdH C 45 3543 rfl rfl rfl ak_45 an_45 rfl _ _ hM101 (hr_45_27_27 _ (by exact (by decide)) (by exact (by decide))) dX12_kind_78 (by exact ⟨(by decide), (by decide)⟩) (fun a115 ea115 la115 ua115 => ?_)
      obtain rfl : a115 = (M0.1 99 27).toInt := s_fa eM101 (by decide) (ea115)
      refine j_iload_n C 1 1 dX12_kind_79 rfl rfl ?_
      refine e_ishrP C dX12_kind_80 (by exact ⟨la115, (by (clear h109 h108 h106 u102k27 u102k26 u102k1 pM101 hM101 eM101 hret C hp0 ha2 ha1 hcw hpr hM0; omega))⟩) (fun lb116 ub116 => ?_)
      refine y_iconst C dX12_kind_81 ?_
      refine e_iandR C dX12_kind_82 (by exact ⟨(by decide), (by decide)⟩) (fun lb117 ub117 => ?_)
      have u118s := knF_s (M0.1 99) a1 a2
      exact hret _ _ _ _ dX12_kind_83 ⟨(andI (shrI (M0.1 99 27).toInt a1) 1), rfl, hM101, (FR.rf.wI eM101 (by decide)), by exact ⟨(by (clear ub116 lb116 ua115 la115 ea115 u102k27 u102k1 hM101 eM101 hret C hp0 ha2 hcw hpr hM0; omega)), ⟨(by (clear ub116 lb116 ua115 la115 ea115 u102k27 u102k1 hM101 eM101 hret C hp0 ha2 hcw hpr hM0; omega)), ⟨(by (clear ub116 lb116 ua115 la115 ea115 u102k27 u102k1 hM101 eM101 hret C hp0 ha2 hcw hpr hM0; omega)), pM101⟩⟩⟩⟩
    · refine y_tabI C (off := 66) 84 3 dX12_kind_18 (by decide) rfl (by decide) h109 ?_
      refine j_aload_n C 0 0 dX12_kind_84 rfl rfl ?_
      refine y_getC C 11 99 fX12_kind_13 rfl rfl ft_11_1 sm_11_1 rfl hM101 dX12_kind_85 ?_
      refine y_bipush C dX12_kind_88 rfl ?_
      refine y_ialdH C 45 3543 rfl rfl rfl ak_45 an_45 rfl _ _ hM101 (hr_45_28_28 _ (by exact (by decide)) (by exact (by decide))) dX12_kind_90 (by exact ⟨(by decide), (by decide)⟩) (fun a119 ea119 la119 ua119 => ?_)
      obtain rfl : a119 = (M0.1 99 28).toInt := s_fa eM101 (by decide) (ea119)
      refine j_iload_n C 1 1 dX12_kind_91 rfl rfl ?_
      refine e_ishrP C dX12_kind_92 (by exact ⟨la119, (by (clear h109 h108 h106 u102k27 u102k26 u102k1 pM101 hM101 eM101 hret C hp0 ha2 ha1 hcw hpr hM0; omega))⟩) (fun lb120 ub120 => ?_)
      refine y_iconst C dX12_kind_93 ?_
      refine e_iandR C dX12_kind_94 (by exact ⟨(by decide), (by decide)⟩) (fun lb121 ub121 => ?_)
      have u122s := knF_s (M0.1 99) a1 a2
      exact hret _ _ _ _ dX12_kind_95 ⟨(andI (shrI (M0.1 99 28).toInt a1) 1), rfl, hM101, (FR.rf.wI eM101 (by decide)), by exact ⟨(by (clear ub120 lb120 ua119 la119 ea119 u102k27 u102k1 hM101 eM101 hret C hp0 ha2 hcw hpr hM0; omega)), ⟨(by (clear ub120 lb120 ua119 la119 ea119 u102k27 u102k1 hM101 eM101 hret C hp0 ha2 hcw hpr hM0; omega)), ⟨(by (clear ub120 lb120 ua119 la119 ea119 u102k27 u102k1 hM101 eM101 hret C hp0 ha2 hcw hpr hM0; omega)), pM101⟩⟩⟩⟩
    · refine y_tabI C (off := 78) 96 4 dX12_kind_18 (by decide) rfl (by decide) h109 ?_
      refine j_aload_n C 0 0 dX12_kind_96 rfl rfl ?_
      refine j_iload_n C 1 1 dX12_kind_97 rfl rfl ?_
      refine j_callVi C (d := 5) (As := [.int (sI a1)]) (st := []) 98 (s_lt rfl rfl) (s_kc (c := 11) rfl rfl) (by decide) rfl (s1_X12_whoBuys hM101 hpr hcw a1 (by exact ⟨ha1.1, ha1.2⟩) (by exact pM101)) gX12_kind_X12_whoBuys rfl hdX12_whoBuys (by decide) (Nat.le_of_ble_eq_true rfl) dX12_kind_98 rfl (fun r123 M124 h125 => ?_)
      obtain ⟨a127, rfl, hM124, fM124, h126⟩ := h125
      rw [show M101.1 99 = M0.1 99 from (wI_cell eM101 (by decide))] at h126
      obtain rfl : a127 = (wbF (M0.1 99) a1 (M0.1 99 1).toInt.toNat) := by exact h126.2.2.1
      have u128s := knF_s (M0.1 99) a1 a2
      exact hret _ _ _ _ dX12_kind_101 ⟨(wbF (M0.1 99) a1 (M0.1 99 1).toInt.toNat), rfl, hM124, ((FR.rf.wI eM101 (by decide)).tr fM124 (by decide)), by exact ⟨(by (clear fM124 hM124 u102k27 u102k1 pM101 hM101 eM101 hret C hp0 ha2 hcw hpr hM0; omega)), ⟨(by (clear fM124 hM124 u102k27 u102k1 pM101 hM101 eM101 hret C hp0 ha2 hcw hpr hM0; omega)), ⟨(by (clear fM124 hM124 u102k27 u102k1 pM101 hM101 eM101 hret C hp0 ha2 hcw hpr hM0; omega)), h126.2.2.2⟩⟩⟩⟩
  · refine y_bipush C dX12_kind_14 rfl ?_
    have u129s := knF_s (M0.1 99) a1 a2
    exact hret _ _ _ _ dX12_kind_16 ⟨(-2), rfl, hM101, (FR.rf.wI eM101 (by decide)), by exact ⟨(by decide), ⟨(by decide), ⟨(by (clear u102k27 u102k1 hM101 eM101 hret C hp0 ha2 hcw hpr hM0; omega)), pM101⟩⟩⟩⟩
set_option maxHeartbeats 4000000 in
theorem s1_X12_isBuyer {l : Launch} {dC : Nat → ClassId} {dI : Nat → Nat → Nat} {ad : Nat → Nat} {cA : Nat → ClassId} {pr : Nat → Nat → Bool} {Kz : mm_M} {M0 : mm_M} (hM0 : INV pr Kz M0) (a1 : Int) (ha1 : -9223372036854775808 ≤ a1 ∧ a1 ≤ 9223372036854775807) : Ci l 1 yX12_isBuyer wsX12_isBuyer dC dI ad cA [.ref (ad 98), .long (sJ a1)] M0 (fun r M' => ∃ a : Int, r = sI a ∧ M0 = M' ∧ 0 ≤ a ∧ a ≤ 1 ∧ ((a1 < 0 ∧ 0 ≤ a ∧ a ≤ 0) ∨ (0 ≤ (M0.1 99 1).toInt ∧ (M0.1 99 1).toInt ≤ 6 ∧ 0 ≤ a1 ∧ ((M0.1 99 1).toInt - 1) < a1 ∧ 0 ≤ a ∧ a ≤ 0) ∨ (0 ≤ (M0.1 99 1).toInt ∧ (M0.1 99 1).toInt ≤ 6 ∧ 0 ≤ a1 ∧ a1 ≤ ((M0.1 99 1).toInt - 1) ∧ 1 ≤ a ∧ a ≤ 1))) := by
  refine ci_of (cc := cX12_isBuyer) (maxL := 3) (ty := .boolean) (lv := [(0, .ref (ad 98)), (1, .long (sJ a1))]) (by decide) rfl (fun r M' hp => by obtain ⟨a, rfl, -, h⟩ := hp; rcases (show a = 0 ∨ a = 1 by omega) with rfl | rfl <;> rfl) (Nat.le_of_ble_eq_true rfl) rfl ?_
  intro p e s m args below meth c A Q C hret
  refine j_lload_n C 1 1 dX12_isBuyer_0 rfl rfl ?_
  refine y_lconst C 0 dX12_isBuyer_1 rfl ?_
  refine j_aload_n C 0 0 dX12_isBuyer_2 rfl rfl ?_
  refine y_getC C 11 99 fX12_isBuyer_13 rfl rfl ft_11_1 sm_11_1 rfl hM0 dX12_isBuyer_3 ?_
  refine y_iconst C dX12_isBuyer_6 ?_
  refine y_ialdH C 45 3543 rfl rfl rfl ak_45 an_45 rfl _ _ hM0 (hr_45_1_1 _ (by exact (by decide)) (by exact (by decide))) dX12_isBuyer_7 (by exact ⟨(by decide), (by decide)⟩) (fun a101 ea101 la101 ua101 => ?_)
  obtain rfl : a101 = (M0.1 99 1).toInt := ea101
  refine y_iconst C dX12_isBuyer_8 ?_
  refine y_isub C dX12_isBuyer_9 ?_
  refine y_i2l C dX12_isBuyer_10 (by omega) ?_
  refine j_callSi C (d := 0) (As := [.long (sJ a1), .long (sJ 0), .long (sJ ((M0.1 99 1).toInt - 1))]) (st := []) (s1_X12_within hM0 a1 (by exact ⟨ha1.1, ha1.2⟩) 0 (by exact ⟨(by decide), (by decide)⟩) ((M0.1 99 1).toInt - 1) (by omega)) gX12_isBuyer_X12_within rfl hdX12_withins (by decide) (Nat.le_of_ble_eq_true rfl) dX12_isBuyer_11 rfl (fun r102 M103 h104 => ?_)
  obtain ⟨a106, rfl, rfl, h105⟩ := h104
  exact hret _ _ _ _ dX12_isBuyer_14 ⟨a106, rfl, rfl, by exact ⟨h105.1, ⟨h105.2.1, (by omega)⟩⟩⟩
set_option maxHeartbeats 4000000 in
theorem s1_X12_mayNow {l : Launch} {dC : Nat → ClassId} {dI : Nat → Nat → Nat} {ad : Nat → Nat} {cA : Nat → ClassId} {pr : Nat → Nat → Bool} {Kz : mm_M} {M0 : mm_M} (hM0 : INV pr Kz M0) (hpr : PM pr) (hcw : CWK pr Kz) (a1 : Int) (ha1 : -2147483648 ≤ a1 ∧ a1 ≤ 2147483647) (hp0 : 0 ≤ a1 ∧ a1 ≤ 5) (hp1 : b01 (PI M0) = 1) : Ci l 3 yX12_mayNow wsX12_mayNow dC dI ad cA [.ref (ad 98), .int (sI a1)] M0 (fun r M' => ∃ a : Int, r = sI a ∧ INV pr Kz M' ∧ FR [103, 104] M0 M' ∧ 0 ≤ a ∧ a ≤ 255 ∧ (a = (mwF (M0.1 99) a1 (M0.1 99 26).toInt.toNat)) ∧ (b01 (PI M') = 1)) := by
  refine ci_of (cc := cX12_mayNow) (maxL := 4) (ty := .int) (lv := [(0, .ref (ad 98)), (1, .int (sI a1))]) (by decide) rfl (fun r M' hp => rfl) (Nat.le_of_ble_eq_true rfl) rfl ?_
  intro p e s m args below meth c A Q C hret
  have u101k := INV.rd hM0 (i := 99) (c := 45) (k := 26) rfl rfl
  refine y_iconst C dX12_mayNow_0 ?_
  refine j_istore_n C 2 [(2, .int (sI 0)), (0, .ref (ad 98)), (1, .int (sI a1))] dX12_mayNow_1 rfl (by decide) rfl ?_
  refine y_iconst C dX12_mayNow_2 ?_
  refine j_istore_n C 3 [(3, .int (sI 0)), (2, .int (sI 0)), (0, .ref (ad 98)), (1, .int (sI a1))] dX12_mayNow_3 rfl (by decide) rfl ?_
  have u102z : mwF (M0.1 99) a1 (0 : Int).toNat = 0 := rfl
  have L124 : ∀ (n122 : Nat), ∀ (a125 : Int) (a126 : Int) (M127 : mm_M), (0 ≤ a125 ∧ a125 ≤ 255 ∧ 0 ≤ a126 ∧ a126 ≤ 8 ∧ (a125 = mwF (M0.1 99) a1 (a126).toNat) ∧ (a126 ≤ (M0.1 99 26).toInt) ∧ (b01 (PI M127) = 1) ∧ (8 - a126) < (n122 : Int)) → INV pr Kz M127 → FR [103, 104] M0 M127 → jj p l e (cn_R 3) s m args below meth c 0 0 Q 4 dC dI ad cA A M127 4 [(0, .ref (ad 98)), (1, .int (sI a1)), (2, .int (sI a125)), (3, .int (sI a126))] [] := by
    intro n122
    induction n122 with
    | zero =>
      intro a125 a126 M127 h128 hM127 fM127
      exfalso; omega
    | succ n122 ih123 =>
      intro a125 a126 M127 h128 hM127 fM127
      have u129k := INV.rd hM0 (i := 99) (c := 45) (k := 26) rfl rfl
      refine j_iload_n C 3 3 dX12_mayNow_4 rfl rfl ?_
      refine j_aload_n C 0 0 dX12_mayNow_5 rfl rfl ?_
      refine y_getC C 11 99 fX12_mayNow_13 rfl rfl ft_11_1 sm_11_1 rfl hM127 dX12_mayNow_6 ?_
      refine y_bipush C dX12_mayNow_9 rfl ?_
      refine y_ialdH C 45 3543 rfl rfl rfl ak_45 an_45 rfl _ _ hM127 (hr_45_26_26 _ (by exact (by decide)) (by exact (by decide))) dX12_mayNow_11 (by exact ⟨(by decide), (by decide)⟩) (fun a130 ea130 la130 ua130 => ?_)
      obtain rfl : a130 = (M0.1 99 26).toInt := s_fF fM127 (by decide) (ea130)
      refine y_icmp_ge C 47 dX12_mayNow_12 (by decide) (by (clear ua130 la130 u129k fM127 hM127 ih123 u102z hret C hp1 hp0 ha1 hcw hpr hM0; omega)) (fun h131 => ?_) (fun h131 => ?_)
      · have u145x : a126 = (M0.1 99 26).toInt := by (clear ua130 la130 u129k fM127 hM127 ih123 u102z u101k hret C hp1 hp0 ha1 hcw hpr hM0; omega)
        have u145y : mwF (M0.1 99) a1 (a126).toNat = mwF (M0.1 99) a1 (M0.1 99 26).toInt.toNat := by rw [u145x]
        refine j_iload_n C 2 2 dX12_mayNow_47 rfl rfl ?_
        exact hret _ _ _ _ dX12_mayNow_48 ⟨a125, rfl, hM127, (FR.rf.tr fM127 (by decide)), by exact ⟨h128.1, ⟨h128.2.1, ⟨(by (clear u145x h131 ua130 la130 ea130 u129k fM127 hM127 ih123 u102z u101k hret C hp1 hp0 ha1 hcw hpr hM0; omega)), h128.2.2.2.2.2.2.1⟩⟩⟩⟩
      · refine j_iload_n C 2 2 dX12_mayNow_15 rfl rfl ?_
        refine j_aload_n C 0 0 dX12_mayNow_16 rfl rfl ?_
        refine j_iload_n C 1 1 dX12_mayNow_17 rfl rfl ?_
        refine j_iload_n C 3 3 dX12_mayNow_18 rfl rfl ?_
        refine j_aload_n C 0 0 dX12_mayNow_19 rfl rfl ?_
        refine y_getC C 11 99 fX12_mayNow_13 rfl rfl ft_11_1 sm_11_1 rfl hM127 dX12_mayNow_20 ?_
        refine y_bipush C dX12_mayNow_23 rfl ?_
        refine y_ialdH C 45 3543 rfl rfl rfl ak_45 an_45 rfl _ _ hM127 (hr_45_27_27 _ (by exact (by decide)) (by exact (by decide))) dX12_mayNow_25 (by exact ⟨(by decide), (by decide)⟩) (fun a132 ea132 la132 ua132 => ?_)
        obtain rfl : a132 = (M0.1 99 27).toInt := s_fF fM127 (by decide) (ea132)
        refine j_callVi C (d := 2) (As := [.int (sI a1), .int (sI a126), .int (sI (M0.1 99 27).toInt)]) (st := [.int (sI a125)]) 98 (s_lt rfl rfl) (s_kc (c := 11) rfl rfl) (by decide) rfl (s1_X12_mayBuy hM127 hpr hcw a1 (by exact ⟨ha1.1, ha1.2⟩) a126 (by omega) (M0.1 99 27).toInt (by (clear h131 ua130 la130 ea130 u129k fM127 hM127 h128 ih123 u102z u101k hret C hp1 hp0 ha1 hcw hpr hM0; omega)) (by exact ⟨hp0.1, hp0.2⟩) (by exact ⟨h128.2.2.1, (by (clear ua132 la132 ea132 ua130 la130 u129k fM127 hM127 ih123 u102z hret C hp1 hp0 ha1 hcw hpr hM0; omega))⟩) (by exact h128.2.2.2.2.2.2.1)) gX12_mayNow_X12_mayBuy rfl hdX12_mayBuy (by decide) (Nat.le_of_ble_eq_true rfl) dX12_mayNow_26 rfl (fun r133 M134 h135 => ?_)
        obtain ⟨a137, rfl, hM134, fM134, h136⟩ := h135
        rw [show M127.1 99 = M0.1 99 from (FR.cell fM127 (by decide))] at h136
        obtain rfl : a137 = (mbF (M0.1 99) a1 a126 (M0.1 99 27).toInt) := by exact h136.2.2.1
        have u138w := mw_s (M0.1 99) a1 (x := a126) (x' := a126 + 1) (a := a125) (by exact h128.2.2.1) rfl (by exact h128.2.2.2.2.1)
        refine y_if_eq C 38 dX12_mayNow_29 (by decide) (by omega) (fun h139 => ?_) (fun h139 => ?_)
        · refine y_iconst C dX12_mayNow_38 ?_
          refine e_iorN C 8 255 dX12_mayNow_39 rfl (by decide) (by exact ⟨h128.1, ⟨h128.2.1, ⟨(by decide), (by decide)⟩⟩⟩) (fun lb140 ub140 ob140 => ?_)
          refine j_istore_n C 2 [(2, .int (sI (orI a125 0))), (0, .ref (ad 98)), (1, .int (sI a1)), (3, .int (sI a126))] dX12_mayNow_40 rfl (by decide) rfl ?_
          refine y_iinc C 3 [(3, .int (sI (a126 + 1))), (2, .int (sI (orI a125 0))), (0, .ref (ad 98)), (1, .int (sI a1))] dX12_mayNow_41 rfl (by decide) rfl ?_
          refine j_goto C 4 dX12_mayNow_44 (by decide) ?_
          refine j_lv [2, 3, 1, 0] rfl ?_; exact ih123 (orI a125 0) (a126 + 1) M134 (by exact ⟨lb140, ⟨ub140, ⟨(by (clear ob140 fM134 hM134 ua132 la132 ea132 ua130 la130 u129k fM127 hM127 ih123 u102z hret C hp1 hp0 ha1 hcw hpr hM0; omega)), ⟨(by (clear ob140 fM134 hM134 ua132 la132 ea132 ua130 la130 u129k fM127 hM127 ih123 u102z hret C hp1 hp0 ha1 hcw hpr hM0; omega)), ⟨(by (clear ob140 fM134 hM134 ua132 la132 ea132 ua130 la130 u129k fM127 hM127 ih123 u102z hret C hp1 hp0 ha1 hcw hpr hM0; omega)), ⟨(by (clear ob140 fM134 hM134 ua132 la132 ea132 ua130 la130 u129k fM127 hM127 ih123 u102z hret C hp1 hp0 ha1 hcw hpr hM0; omega)), ⟨h136.2.2.2, (by (clear ob140 fM134 hM134 ua132 la132 ea132 ua130 la130 u129k fM127 hM127 ih123 u102z hret C hp1 hp0 ha1 hcw hpr hM0; omega))⟩⟩⟩⟩⟩⟩⟩) hM134 ((FR.rf.tr fM127 (by decide)).tr fM134 (by decide))
        · refine y_iconst C dX12_mayNow_32 ?_
          refine j_iload_n C 3 3 dX12_mayNow_33 rfl rfl ?_
          refine e_shl1 C 7 128 dX12_mayNow_34 rfl (by decide) (by exact ⟨h128.2.2.1, (by (clear h139 u138w h136 fM134 hM134 ua132 la132 ea132 ua130 la130 u129k fM127 hM127 ih123 u102z hret C hp1 hp0 ha1 hcw hpr hM0; omega))⟩) (fun lb142 ub142 => ?_)
          refine j_goto C 39 dX12_mayNow_35 (by decide) ?_
          refine e_iorN C 8 255 dX12_mayNow_39 rfl (by decide) (by exact ⟨h128.1, ⟨h128.2.1, ⟨(by (clear h139 u138w h136 fM134 hM134 ua132 la132 ea132 h131 ua130 la130 ea130 u129k fM127 hM127 ih123 u102z u101k hret C hp1 hp0 ha1 hcw hpr hM0; omega)), (by (clear h139 u138w h136 fM134 hM134 ua132 la132 ea132 h131 ua130 la130 ea130 u129k fM127 hM127 ih123 u102z u101k hret C hp1 hp0 ha1 hcw hpr hM0; omega))⟩⟩⟩) (fun lb143 ub143 ob143 => ?_)
          refine j_istore_n C 2 [(2, .int (sI (orI a125 (pw2 a126)))), (0, .ref (ad 98)), (1, .int (sI a1)), (3, .int (sI a126))] dX12_mayNow_40 rfl (by decide) rfl ?_
          refine y_iinc C 3 [(3, .int (sI (a126 + 1))), (2, .int (sI (orI a125 (pw2 a126)))), (0, .ref (ad 98)), (1, .int (sI a1))] dX12_mayNow_41 rfl (by decide) rfl ?_
          refine j_goto C 4 dX12_mayNow_44 (by decide) ?_
          refine j_lv [2, 3, 1, 0] rfl ?_; exact ih123 (orI a125 (pw2 a126)) (a126 + 1) M134 (by exact ⟨lb143, ⟨ub143, ⟨(by (clear ob143 ub142 lb142 fM134 hM134 ua132 la132 ea132 ua130 la130 u129k fM127 hM127 ih123 u102z hret C hp1 hp0 ha1 hcw hpr hM0; omega)), ⟨(by (clear ob143 ub142 lb142 fM134 hM134 ua132 la132 ea132 ua130 la130 u129k fM127 hM127 ih123 u102z hret C hp1 hp0 ha1 hcw hpr hM0; omega)), ⟨(by (clear ob143 ub142 lb142 fM134 hM134 ua132 la132 ea132 ua130 la130 u129k fM127 hM127 ih123 u102z hret C hp1 hp0 ha1 hcw hpr hM0; omega)), ⟨(by (clear ob143 ub142 lb142 fM134 hM134 ua132 la132 ea132 ua130 la130 u129k fM127 hM127 ih123 u102z hret C hp1 hp0 ha1 hcw hpr hM0; omega)), ⟨h136.2.2.2, (by (clear ob143 ub142 lb142 fM134 hM134 ua132 la132 ea132 ua130 la130 u129k fM127 hM127 ih123 u102z hret C hp1 hp0 ha1 hcw hpr hM0; omega))⟩⟩⟩⟩⟩⟩⟩) hM134 ((FR.rf.tr fM127 (by decide)).tr fM134 (by decide))
  refine j_lv [2, 3, 1, 0] rfl ?_; exact L124 2010 0 0 M0 (by exact ⟨(by decide), ⟨(by decide), ⟨(by decide), ⟨(by decide), ⟨u102z.symm, ⟨u101k.1, ⟨hp1, (by decide)⟩⟩⟩⟩⟩⟩⟩) hM0 FR.rf
set_option maxHeartbeats 4000000 in
theorem s1_X12_buyer {l : Launch} {dC : Nat → ClassId} {dI : Nat → Nat → Nat} {ad : Nat → Nat} {cA : Nat → ClassId} {pr : Nat → Nat → Bool} {Kz : mm_M} {M0 : mm_M} (hM0 : INV pr Kz M0) (hpr : PM pr) (hcw : CWK pr Kz) (a1 : Int) (ha1 : -2147483648 ≤ a1 ∧ a1 ≤ 2147483647) (a2 : Int) (ha2 : -2147483648 ≤ a2 ∧ a2 ≤ 2147483647) (hp0 : b01 (PI M0) = 1) : Ci l 5 yX12_buyer wsX12_buyer dC dI ad cA [.ref (ad 98), .int (sI a1), .int (sI a2)] M0 (fun r M' => ∃ a : Int, r = sI a ∧ INV pr Kz M' ∧ FR [98, 103, 104] M0 M' ∧ (-2147483648) ≤ a ∧ a ≤ 2147483647 ∧ (a = (byF (M0.1 99) a1 a2)) ∧ (b01 (PI M') = 1)) := by
  refine ci_of (cc := cX12_buyer) (maxL := 3) (ty := .int) (lv := [(0, .ref (ad 98)), (1, .int (sI a1)), (2, .int (sI a2))]) (by decide) rfl (fun r M' hp => rfl) (Nat.le_of_ble_eq_true rfl) rfl ?_
  intro p e s m args below meth c A Q C hret
  refine j_aload_n C 0 0 dX12_buyer_0 rfl rfl ?_
  refine y_iconst C dX12_buyer_1 ?_
  refine y_putIF C 11 qX12_buyer_1 rfl rfl ft_11_0 sb_11_0 hM0 (PM.w hpr rfl rfl) dX12_buyer_2 (fun M101 eM101 hM101 => ?_)
  have pM101 := pi_o eM101 (by decide) (by decide) (by exact hp0)
  have u102k1 : (M101.1 99 1).toInt = (M0.1 99 1).toInt := s_fa eM101 (by decide) rfl
  have u102k26 : (M101.1 99 26).toInt = (M0.1 99 26).toInt := s_fa eM101 (by decide) rfl
  have u102k27 : (M101.1 99 27).toInt = (M0.1 99 27).toInt := s_fa eM101 (by decide) rfl
  refine j_aload_n C 0 0 dX12_buyer_5 rfl rfl ?_
  refine j_iload_n C 1 1 dX12_buyer_6 rfl rfl ?_
  refine y_i2l C dX12_buyer_7 (by exact ⟨ha1.1, ha1.2⟩) ?_
  refine j_callVi C (d := 1) (As := [.long (sJ a1)]) (st := []) 98 (s_lt rfl rfl) (s_kc (c := 11) rfl rfl) (by decide) rfl (s1_X12_isBuyer hM101 a1 (by omega)) gX12_buyer_X12_isBuyer rfl hdX12_isBuyer (by decide) (Nat.le_of_ble_eq_true rfl) dX12_buyer_8 rfl (fun r103 M104 h105 => ?_)
  obtain ⟨a107, rfl, rfl, h106⟩ := h105
  refine y_if_ne C 17 dX12_buyer_11 (by decide) (by omega) (fun h108 => ?_) (fun h108 => ?_)
  · refine j_iload_n C 2 2 dX12_buyer_17 rfl rfl ?_
    rcases (show (a2 < 0 ∨ 4 < a2) ∨ a2 = 0 ∨ a2 = 1 ∨ a2 = 2 ∨ a2 = 3 ∨ a2 = 4 by (clear h108 h106 u102k27 u102k26 u102k1 pM101 hM101 eM101 hret C hp0 ha1 hcw hpr hM0; omega)) with h109 | h109 | h109 | h109 | h109 | h109
    · refine y_tabO C 94 dX12_buyer_18 (by decide) (by exact ⟨⟨ha2.1, ha2.2⟩, h109⟩) ?_
      refine y_bipush C dX12_buyer_94 rfl ?_
      have u110s := byF_s (M0.1 99) a1 a2
      exact hret _ _ _ _ dX12_buyer_96 ⟨(-2), rfl, hM101, (FR.rf.wI eM101 (by decide)), by exact ⟨(by decide), ⟨(by decide), ⟨(by (clear h108 h106 u102k27 u102k26 u102k1 hM101 eM101 hret C hp0 ha2 ha1 hcw hpr hM0; omega)), pM101⟩⟩⟩⟩
    · refine y_tabI C (off := 34) 52 0 dX12_buyer_18 (by decide) rfl (by decide) h109 ?_
      refine j_aload_n C 0 0 dX12_buyer_52 rfl rfl ?_
      refine y_getC C 11 99 fX12_buyer_13 rfl rfl ft_11_1 sm_11_1 rfl hM101 dX12_buyer_53 ?_
      refine y_bipush C dX12_buyer_56 rfl ?_
      refine j_iload_n C 1 1 dX12_buyer_58 rfl rfl ?_
      refine y_iadd C dX12_buyer_59 ?_
      refine y_ialdF C 45 3543 rfl rfl rfl ak_45 an_45 rfl dX12_buyer_60 (by (clear h109 u102k27 u102k26 pM101 hM101 eM101 hret C hp0 ha2 hcw hpr hM0; omega)) (fun a111 ea111 la111 ua111 => ?_)
      obtain rfl : a111 = (M0.1 99 ((8 + a1)).toNat).toInt := s_fa eM101 (by decide) (ea111)
      have u112s := byF_s (M0.1 99) a1 a2
      exact hret _ _ _ _ dX12_buyer_61 ⟨(M0.1 99 ((8 + a1)).toNat).toInt, rfl, hM101, (FR.rf.wI eM101 (by decide)), by exact ⟨la111, ⟨ua111, ⟨(by (clear u102k27 u102k26 hM101 eM101 hret C hp0 ha2 hcw hpr hM0; omega)), pM101⟩⟩⟩⟩
    · refine y_tabI C (off := 44) 62 1 dX12_buyer_18 (by decide) rfl (by decide) h109 ?_
      refine j_aload_n C 0 0 dX12_buyer_62 rfl rfl ?_
      refine y_getC C 11 99 fX12_buyer_13 rfl rfl ft_11_1 sm_11_1 rfl hM101 dX12_buyer_63 ?_
      refine y_bipush C dX12_buyer_66 rfl ?_
      refine j_iload_n C 1 1 dX12_buyer_68 rfl rfl ?_
      refine y_iadd C dX12_buyer_69 ?_
      refine y_ialdF C 45 3543 rfl rfl rfl ak_45 an_45 rfl dX12_buyer_70 (by (clear h109 u102k27 u102k26 pM101 hM101 eM101 hret C hp0 ha2 hcw hpr hM0; omega)) (fun a113 ea113 la113 ua113 => ?_)
      obtain rfl : a113 = (M0.1 99 ((14 + a1)).toNat).toInt := s_fa eM101 (by decide) (ea113)
      have u114s := byF_s (M0.1 99) a1 a2
      exact hret _ _ _ _ dX12_buyer_71 ⟨(M0.1 99 ((14 + a1)).toNat).toInt, rfl, hM101, (FR.rf.wI eM101 (by decide)), by exact ⟨la113, ⟨ua113, ⟨(by (clear u102k27 u102k26 hM101 eM101 hret C hp0 ha2 hcw hpr hM0; omega)), pM101⟩⟩⟩⟩
    · refine y_tabI C (off := 54) 72 2 dX12_buyer_18 (by decide) rfl (by decide) h109 ?_
      refine j_aload_n C 0 0 dX12_buyer_72 rfl rfl ?_
      refine y_getC C 11 99 fX12_buyer_13 rfl rfl ft_11_1 sm_11_1 rfl hM101 dX12_buyer_73 ?_
      refine y_bipush C dX12_buyer_76 rfl ?_
      refine j_iload_n C 1 1 dX12_buyer_78 rfl rfl ?_
      refine y_iadd C dX12_buyer_79 ?_
      refine y_ialdH C 45 3543 rfl rfl rfl ak_45 an_45 rfl _ _ hM101 (hr_45_20_25 _ (by (clear h109 u102k27 u102k26 pM101 hM101 eM101 hret C hp0 ha2 hcw hpr hM0; omega)) (by (clear h109 u102k27 u102k26 u102k1 pM101 hM101 eM101 hret C hp0 ha2 hcw hpr hM0; omega))) dX12_buyer_80 (by (clear h109 u102k27 u102k26 pM101 hM101 eM101 hret C hp0 ha2 hcw hpr hM0; omega)) (fun a115 ea115 la115 ua115 => ?_)
      obtain rfl : a115 = (M0.1 99 ((20 + a1)).toNat).toInt := s_fa eM101 (by decide) (ea115)
      have u116s := byF_s (M0.1 99) a1 a2
      exact hret _ _ _ _ dX12_buyer_81 ⟨(M0.1 99 ((20 + a1)).toNat).toInt, rfl, hM101, (FR.rf.wI eM101 (by decide)), by exact ⟨(by (clear u102k27 u102k26 hM101 eM101 hret C hp0 ha2 hcw hpr hM0; omega)), ⟨(by (clear u102k27 u102k26 hM101 eM101 hret C hp0 ha2 hcw hpr hM0; omega)), ⟨(by (clear u102k27 u102k26 hM101 eM101 hret C hp0 ha2 hcw hpr hM0; omega)), pM101⟩⟩⟩⟩
    · refine y_tabI C (off := 64) 82 3 dX12_buyer_18 (by decide) rfl (by decide) h109 ?_
      refine j_aload_n C 0 0 dX12_buyer_82 rfl rfl ?_
      refine j_iload_n C 1 1 dX12_buyer_83 rfl rfl ?_
      refine j_callVi C (d := 3) (As := [.int (sI a1)]) (st := []) 98 (s_lt rfl rfl) (s_kc (c := 11) rfl rfl) (by decide) rfl (s1_X12_mayNow hM101 hpr hcw a1 (by exact ⟨ha1.1, ha1.2⟩) (by (clear h109 u102k27 u102k26 pM101 hM101 eM101 hret C hp0 ha2 hcw hpr hM0; omega)) (by exact pM101)) gX12_buyer_X12_mayNow rfl hdX12_mayNow (by decide) (Nat.le_of_ble_eq_true rfl) dX12_buyer_84 rfl (fun r117 M118 h119 => ?_)
      obtain ⟨a121, rfl, hM118, fM118, h120⟩ := h119
      rw [show M101.1 99 = M0.1 99 from (wI_cell eM101 (by decide))] at h120
      obtain rfl : a121 = (mwF (M0.1 99) a1 (M0.1 99 26).toInt.toNat) := by exact h120.2.2.1
      have u122s := byF_s (M0.1 99) a1 a2
      exact hret _ _ _ _ dX12_buyer_87 ⟨(mwF (M0.1 99) a1 (M0.1 99 26).toInt.toNat), rfl, hM118, ((FR.rf.wI eM101 (by decide)).tr fM118 (by decide)), by exact ⟨(by (clear fM118 hM118 u102k27 u102k26 pM101 hM101 eM101 hret C hp0 ha2 hcw hpr hM0; omega)), ⟨(by (clear fM118 hM118 u102k27 u102k26 pM101 hM101 eM101 hret C hp0 ha2 hcw hpr hM0; omega)), ⟨(by (clear fM118 hM118 u102k27 u102k26 pM101 hM101 eM101 hret C hp0 ha2 hcw hpr hM0; omega)), h120.2.2.2⟩⟩⟩⟩
    · refine y_tabI C (off := 70) 88 4 dX12_buyer_18 (by decide) rfl (by decide) h109 ?_
      refine j_aload_n C 0 0 dX12_buyer_88 rfl rfl ?_
      refine j_iload_n C 1 1 dX12_buyer_89 rfl rfl ?_
      refine j_callVi C (d := 4) (As := [.int (sI a1)]) (st := []) 98 (s_lt rfl rfl) (s_kc (c := 11) rfl rfl) (by decide) rfl (s1_X12_buysNow hM101 hpr hcw a1 (by exact ⟨ha1.1, ha1.2⟩) (by omega) (by exact pM101)) gX12_buyer_X12_buysNow rfl hdX12_buysNow (by decide) (Nat.le_of_ble_eq_true rfl) dX12_buyer_90 rfl (fun r123 M124 h125 => ?_)
      obtain ⟨a127, rfl, hM124, fM124, h126⟩ := h125
      rw [show M101.1 99 = M0.1 99 from (wI_cell eM101 (by decide))] at h126
      obtain rfl : a127 = (bnF (M0.1 99) a1) := by exact h126.2.2.1
      have u128s := byF_s (M0.1 99) a1 a2
      exact hret _ _ _ _ dX12_buyer_93 ⟨(bnF (M0.1 99) a1), rfl, hM124, ((FR.rf.wI eM101 (by decide)).tr fM124 (by decide)), by exact ⟨(by (clear fM124 hM124 u102k27 u102k26 pM101 hM101 eM101 hret C hp0 ha2 hcw hpr hM0; omega)), ⟨(by (clear fM124 hM124 u102k27 u102k26 pM101 hM101 eM101 hret C hp0 ha2 hcw hpr hM0; omega)), ⟨(by (clear fM124 hM124 u102k27 u102k26 pM101 hM101 eM101 hret C hp0 ha2 hcw hpr hM0; omega)), h126.2.2.2⟩⟩⟩⟩
  · refine y_bipush C dX12_buyer_14 rfl ?_
    have u129s := byF_s (M0.1 99) a1 a2
    exact hret _ _ _ _ dX12_buyer_16 ⟨(-2), rfl, hM101, (FR.rf.wI eM101 (by decide)), by exact ⟨(by decide), ⟨(by decide), ⟨(by (clear u102k27 u102k26 hM101 eM101 hret C hp0 ha2 hcw hpr hM0; omega)), pM101⟩⟩⟩⟩
set_option maxHeartbeats 4000000 in
theorem s1_X12_wants {l : Launch} {dC : Nat → ClassId} {dI : Nat → Nat → Nat} {ad : Nat → Nat} {cA : Nat → ClassId} {pr : Nat → Nat → Bool} {Kz : mm_M} {M0 : mm_M} (hM0 : INV pr Kz M0) (hpr : PM pr) (hcw : CWK pr Kz) (a1 : Int) (ha1 : -2147483648 ≤ a1 ∧ a1 ≤ 2147483647) (a2 : Int) (ha2 : -2147483648 ≤ a2 ∧ a2 ≤ 2147483647) (hp0 : b01 (PI M0) = 1) : Ci l 3 yX12_wants wsX12_wants dC dI ad cA [.ref (ad 98), .int (sI a1), .int (sI a2)] M0 (fun r M' => ∃ a : Int, r = sI a ∧ INV pr Kz M' ∧ FR [98, 103, 104] M0 M' ∧ (-2147483648) ≤ a ∧ a ≤ 2147483647 ∧ (a = (wsF (M0.1 99) a1 a2)) ∧ (b01 (PI M') = 1)) := by
  refine ci_of (cc := cX12_wants) (maxL := 3) (ty := .int) (lv := [(0, .ref (ad 98)), (1, .int (sI a1)), (2, .int (sI a2))]) (by decide) rfl (fun r M' hp => rfl) (Nat.le_of_ble_eq_true rfl) rfl ?_
  intro p e s m args below meth c A Q C hret
  refine j_aload_n C 0 0 dX12_wants_0 rfl rfl ?_
  refine y_iconst C dX12_wants_1 ?_
  refine y_putIF C 11 qX12_wants_1 rfl rfl ft_11_0 sb_11_0 hM0 (PM.w hpr rfl rfl) dX12_wants_2 (fun M101 eM101 hM101 => ?_)
  have pM101 := pi_o eM101 (by decide) (by decide) (by exact hp0)
  have u102k1 : (M101.1 99 1).toInt = (M0.1 99 1).toInt := s_fa eM101 (by decide) rfl
  have u102k26 : (M101.1 99 26).toInt = (M0.1 99 26).toInt := s_fa eM101 (by decide) rfl
  have u102k27 : (M101.1 99 27).toInt = (M0.1 99 27).toInt := s_fa eM101 (by decide) rfl
  refine j_aload_n C 0 0 dX12_wants_5 rfl rfl ?_
  refine j_iload_n C 1 1 dX12_wants_6 rfl rfl ?_
  refine y_i2l C dX12_wants_7 (by exact ⟨ha1.1, ha1.2⟩) ?_
  refine j_callVi C (d := 1) (As := [.long (sJ a1)]) (st := []) 98 (s_lt rfl rfl) (s_kc (c := 11) rfl rfl) (by decide) rfl (s1_X12_isBuyer hM101 a1 (by omega)) gX12_wants_X12_isBuyer rfl hdX12_isBuyer (by decide) (Nat.le_of_ble_eq_true rfl) dX12_wants_8 rfl (fun r103 M104 h105 => ?_)
  obtain ⟨a107, rfl, rfl, h106⟩ := h105
  refine y_if_eq C 39 dX12_wants_11 (by decide) (by omega) (fun h108 => ?_) (fun h108 => ?_)
  · refine y_ldcw C (-99000002) dX12_wants_39 kX12_wants_258 rfl ?_
    have u109s := wsF_s (M0.1 99) a1 a2
    exact hret _ _ _ _ dX12_wants_42 ⟨(-99000002), rfl, hM101, (FR.rf.wI eM101 (by decide)), by exact ⟨(by decide), ⟨(by decide), ⟨(by (clear u102k27 u102k26 hM101 eM101 hret C hp0 ha2 hcw hpr hM0; omega)), pM101⟩⟩⟩⟩
  · refine j_aload_n C 0 0 dX12_wants_14 rfl rfl ?_
    refine j_iload_n C 2 2 dX12_wants_15 rfl rfl ?_
    refine y_i2l C dX12_wants_16 (by exact ⟨ha2.1, ha2.2⟩) ?_
    refine j_callVi C (d := 1) (As := [.long (sJ a2)]) (st := []) 98 (s_lt rfl rfl) (s_kc (c := 11) rfl rfl) (by decide) rfl (s1_X12_isKind hM101 a2 (by omega)) gX12_wants_X12_isKind rfl hdX12_isKind (by decide) (Nat.le_of_ble_eq_true rfl) dX12_wants_17 rfl (fun r110 M111 h112 => ?_)
    obtain ⟨a114, rfl, rfl, h113⟩ := h112
    refine y_if_eq C 39 dX12_wants_20 (by decide) (by (clear h108 h106 u102k27 u102k26 u102k1 pM101 hM101 eM101 hret C hp0 ha2 ha1 hcw hpr hM0; omega)) (fun h115 => ?_) (fun h115 => ?_)
    · refine y_ldcw C (-99000002) dX12_wants_39 kX12_wants_258 rfl ?_
      have u116s := wsF_s (M0.1 99) a1 a2
      exact hret _ _ _ _ dX12_wants_42 ⟨(-99000002), rfl, hM101, (FR.rf.wI eM101 (by decide)), by exact ⟨(by decide), ⟨(by decide), ⟨(by (clear h108 h106 u102k27 u102k1 hM101 eM101 hret C hp0 ha1 hcw hpr hM0; omega)), pM101⟩⟩⟩⟩
    · refine j_aload_n C 0 0 dX12_wants_23 rfl rfl ?_
      refine j_iload_n C 1 1 dX12_wants_24 rfl rfl ?_
      refine j_iload_n C 2 2 dX12_wants_25 rfl rfl ?_
      refine j_aload_n C 0 0 dX12_wants_26 rfl rfl ?_
      refine y_getC C 11 99 fX12_wants_13 rfl rfl ft_11_1 sm_11_1 rfl hM101 dX12_wants_27 ?_
      refine y_bipush C dX12_wants_30 rfl ?_
      refine y_ialdH C 45 3543 rfl rfl rfl ak_45 an_45 rfl _ _ hM101 (hr_45_27_27 _ (by exact (by decide)) (by exact (by decide))) dX12_wants_32 (by exact ⟨(by decide), (by decide)⟩) (fun a117 ea117 la117 ua117 => ?_)
      obtain rfl : a117 = (M0.1 99 27).toInt := s_fa eM101 (by decide) (ea117)
      refine j_callVi C (d := 2) (As := [.int (sI a1), .int (sI a2), .int (sI (M0.1 99 27).toInt)]) (st := []) 98 (s_lt rfl rfl) (s_kc (c := 11) rfl rfl) (by decide) rfl (s1_X12_wantsOf hM101 hpr hcw a1 (by exact ⟨ha1.1, ha1.2⟩) a2 (by exact ⟨ha2.1, ha2.2⟩) (M0.1 99 27).toInt (by (clear h115 h113 h108 h106 u102k27 u102k26 u102k1 pM101 hM101 eM101 hret C hp0 ha2 ha1 hcw hpr hM0; omega)) (by (clear ua117 la117 ea117 u102k27 u102k26 pM101 hM101 eM101 hret C hp0 ha2 hcw hpr hM0; omega)) (by (clear ua117 la117 ea117 h108 h106 u102k27 u102k1 pM101 hM101 eM101 hret C hp0 ha1 hcw hpr hM0; omega)) (by exact pM101)) gX12_wants_X12_wantsOf rfl hdX12_wantsOf (by decide) (Nat.le_of_ble_eq_true rfl) dX12_wants_33 rfl (fun r118 M119 h120 => ?_)
      obtain ⟨a122, rfl, hM119, fM119, h121⟩ := h120
      rw [show M101.1 99 = M0.1 99 from (wI_cell eM101 (by decide))] at h121
      obtain rfl : a122 = (wtF (M0.1 99) a1 a2 (M0.1 99 27).toInt) := by exact h121.2.2.1
      refine j_goto C 42 dX12_wants_36 (by decide) ?_
      have u123s := wsF_s (M0.1 99) a1 a2
      exact hret _ _ _ _ dX12_wants_42 ⟨(wtF (M0.1 99) a1 a2 (M0.1 99 27).toInt), rfl, hM119, ((FR.rf.wI eM101 (by decide)).tr fM119 (by decide)), by exact ⟨h121.1, ⟨h121.2.1, ⟨(by (clear fM119 hM119 ua117 la117 ea117 u102k27 pM101 hM101 eM101 hret C hp0 hcw hpr hM0; omega)), h121.2.2.2⟩⟩⟩⟩
set_option maxHeartbeats 4000000 in
theorem s1_X12_keeps {l : Launch} {dC : Nat → ClassId} {dI : Nat → Nat → Nat} {ad : Nat → Nat} {cA : Nat → ClassId} {pr : Nat → Nat → Bool} {Kz : mm_M} {M0 : mm_M} (hM0 : INV pr Kz M0) (hpr : PM pr)  (hp0 : b01 (PI M0) = 1) : Cv l 0 yX12_keeps wsX12_keeps dC dI ad cA [.ref (ad 98)] M0 (fun M' => INV pr Kz M' ∧ FR [105] M0 M' ∧ (b01 (KPN M' (M0.1 99) 23) = 1) ∧ (b01 (PI M') = 1)) := by
  refine cv_of (cc := cX12_keeps) (maxL := 2) (lv := [(0, .ref (ad 98))]) (by decide) rfl (Nat.le_of_ble_eq_true rfl) rfl ?_
  intro p e s m args below meth c A Q C hret
  refine y_iconst C dX12_keeps_0 ?_
  refine j_istore_n C 1 [(1, .int (sI 0)), (0, .ref (ad 98))] dX12_keeps_1 rfl (by decide) rfl ?_
  have u101 := cp_0 (M := M0) (c := 105) (pd := ((0) : Int).toNat) (c2 := 99) (ps := ((26 + 0) : Int).toNat) (by exact hp0) (by decide)
  have u101k := kn_0 M0 (M0.1 99)
  have L111 : ∀ (n109 : Nat), ∀ (a112 : Int) (M113 : mm_M), (0 ≤ a112 ∧ a112 ≤ 23 ∧ (b01 (Cp M113 105 ((a112) : Int).toNat 99 ((26 + a112) : Int).toNat) = 1) ∧ (b01 (KPN M113 (M0.1 99) a112) = 1) ∧ (23 - a112) < (n109 : Int)) → INV pr Kz M113 → FR [105] M0 M113 → jj p l e (cn_R 0) s m args below meth c 0 0 Q 2 dC dI ad cA A M113 2 [(0, .ref (ad 98)), (1, .int (sI a112))] [] := by
    intro n109
    induction n109 with
    | zero =>
      intro a112 M113 h114 hM113 fM113
      exfalso; omega
    | succ n109 ih110 =>
      intro a112 M113 h114 hM113 fM113
      refine j_iload_n C 1 1 dX12_keeps_2 rfl rfl ?_
      refine y_bipush C dX12_keeps_3 rfl ?_
      refine y_icmp_ge C 29 dX12_keeps_5 (by decide) (by exact ⟨⟨(by omega), (by omega)⟩, ⟨(by decide), (by decide)⟩⟩) (fun h115 => ?_) (fun h115 => ?_)
      · obtain rfl : a112 = 23 := by omega
        have p121 : b01 (PI M113) = 1 := cp_e (c := 105) (pd := ((23) : Int).toNat) (c2 := 99) (ps := ((26 + 23) : Int).toNat) (by exact h114.2.2.1) (by decide)
        exact hret _ _ _ dX12_keeps_29 ⟨hM113, (FR.rf.tr fM113 (by decide)), by exact ⟨h114.2.2.2.1, p121⟩⟩
      · refine j_aload_n C 0 0 dX12_keeps_8 rfl rfl ?_
        refine y_getC C 11 105 fX12_keeps_36 rfl rfl ft_11_17 sm_11_17 rfl hM113 dX12_keeps_9 ?_
        refine j_iload_n C 1 1 dX12_keeps_12 rfl rfl ?_
        refine j_aload_n C 0 0 dX12_keeps_13 rfl rfl ?_
        refine y_getC C 11 99 fX12_keeps_13 rfl rfl ft_11_1 sm_11_1 rfl hM113 dX12_keeps_14 ?_
        refine y_bipush C dX12_keeps_17 rfl ?_
        refine j_iload_n C 1 1 dX12_keeps_19 rfl rfl ?_
        refine y_iadd C dX12_keeps_20 ?_
        refine y_ialdR C 45 3543 rfl rfl rfl ak_45 an_45 rfl hM113 dX12_keeps_21 (by omega) (fun a116 ea116 la116 ua116 ba116 => ?_)
        obtain rfl : a116 = (M0.1 99 ((26 + a112)).toNat).toInt := s_fF fM113 (by decide) (ea116)
        refine y_iastR C 51 23 rfl rfl rfl ak_51 an_51 rfl hM113 (PM.w hpr rfl rfl) dX12_keeps_22 (by exact ⟨h114.1, (by omega)⟩) (by exact ⟨la116, ua116⟩) (by rw [← q_k a112 (by exact ⟨h114.1, (by omega)⟩)]; assumption) (fun M117 eM117 hM117 => ?_)
        have u118 := cp_step (c := 105) (c2 := 99) (pd := ((a112) : Int).toNat) (ps := ((26 + a112) : Int).toNat) (pd' := (((a112 + 1)) : Int).toNat) (ps' := ((26 + (a112 + 1)) : Int).toNat) eM117 (by rw [sI_o]; exact (congrFun (FR.cell fM113 (by decide)) _).symm) (by rw [show (26 + a112 : Int).toNat = 26 + (a112 : Int).toNat by (clear hM117 eM117 ba116 ua116 la116 ea116 fM113 hM113 ih110 u101k u101 hret C hp0 hpr hM0; omega)]; exact al_k _ (by (clear hM117 eM117 ba116 ua116 la116 ea116 fM113 hM113 ih110 u101k u101 hret C hp0 hpr hM0; omega))) (by (clear hM117 eM117 ba116 ua116 la116 ea116 fM113 hM113 ih110 u101k u101 hret C hp0 hpr hM0; omega)) (by (clear hM117 eM117 ba116 ua116 la116 ea116 fM113 hM113 ih110 u101k u101 hret C hp0 hpr hM0; omega)) (by exact h114.2.2.1)
        have u118k := kn_s (M := M113) (N := M117) (f := M0.1 99) (x := a112) (x' := a112 + 1) (by exact h114.2.2.2.1) eM117 (by omega)
        refine y_iinc C 1 [(1, .int (sI (a112 + 1))), (0, .ref (ad 98))] dX12_keeps_23 rfl (by decide) rfl ?_
        refine j_goto C 2 dX12_keeps_26 (by decide) ?_
        refine j_lv [1, 0] rfl ?_; exact ih110 (a112 + 1) M117 (by exact ⟨(by (clear hM117 eM117 ba116 ua116 la116 ea116 fM113 hM113 ih110 u101k u101 hret C hp0 hpr hM0; omega)), ⟨(by (clear hM117 eM117 ba116 ua116 la116 ea116 fM113 hM113 ih110 u101k u101 hret C hp0 hpr hM0; omega)), ⟨u118, ⟨u118k, (by (clear hM117 eM117 ba116 ua116 la116 ea116 fM113 hM113 ih110 u101k u101 hret C hp0 hpr hM0; omega))⟩⟩⟩⟩) hM117 ((FR.rf.tr fM113 (by decide)).wI eM117 (by decide))
  refine j_lv [1, 0] rfl ?_; exact L111 2010 0 M0 (by exact ⟨(by decide), ⟨(by decide), ⟨u101, ⟨u101k, (by decide)⟩⟩⟩⟩) hM0 FR.rf
set_option maxHeartbeats 4000000 in
theorem s1_X12_notes {l : Launch} {dC : Nat → ClassId} {dI : Nat → Nat → Nat} {ad : Nat → Nat} {cA : Nat → ClassId} {pr : Nat → Nat → Bool} {Kz : mm_M} {M0 : mm_M} (hM0 : INV pr Kz M0) (hpr : PM pr)  (hp0 : b01 (PI M0) = 1) : Cv l 0 yX12_notes wsX12_notes dC dI ad cA [.ref (ad 98)] M0 (fun M' => INV pr Kz M' ∧ FR [99] M0 M' ∧ (b01 (M'.1 99 = ntF (M0.1 99) (M0.1 105)) = 1) ∧ (b01 (PI M') = 1)) := by
  refine cv_of (cc := cX12_notes) (maxL := 2) (lv := [(0, .ref (ad 98))]) (by decide) rfl (Nat.le_of_ble_eq_true rfl) rfl ?_
  intro p e s m args below meth c A Q C hret
  refine j_aload_n C 0 0 dX12_notes_0 rfl rfl ?_
  refine y_getC C 11 99 fX12_notes_13 rfl rfl ft_11_1 sm_11_1 rfl hM0 dX12_notes_1 ?_
  refine y_bipush C dX12_notes_4 rfl ?_
  refine y_ialdH C 45 3543 rfl rfl rfl ak_45 an_45 rfl _ _ hM0 (hr_45_49_49 _ (by exact (by decide)) (by exact (by decide))) dX12_notes_6 (by exact ⟨(by decide), (by decide)⟩) (fun a101 ea101 la101 ua101 => ?_)
  obtain rfl : a101 = (M0.1 99 49).toInt := ea101
  refine y_bipush C dX12_notes_7 rfl ?_
  have J129 : ∀ (M128 : mm_M), ((b01 (M128.1 99 = n1F (M0.1 99)) = 1) ∧ (0 ≤ (M128.1 99 49).toInt ∧ (M128.1 99 49).toInt ≤ 9) ∧ (b01 (PI M128) = 1)) → INV pr Kz M128 → FR [99] M0 M128 → jj p l e (cn_R 0) s m args below meth c 0 0 Q 2 dC dI ad cA A M128 56 [(0, .ref (ad 98))] [] := by
    intro M128 h130 hM128 fM128
    refine y_iconst C dX12_notes_56 ?_
    refine j_istore_n C 1 [(1, .int (sI 0)), (0, .ref (ad 98))] dX12_notes_57 rfl (by decide) rfl ?_
    have u133 := cp_0 (M := M128) (c := 99) (pd := ((50 + 23 * (M128.1 99 49).toInt + 0) : Int).toNat) (c2 := 105) (ps := ((0) : Int).toNat) (by exact h130.2.2) (by rw [show (50 + 23 * (M128.1 99 49).toInt + 0 : Int).toNat = 50 + 23 * ((M128.1 99 49).toInt).toNat by (clear fM128 hM128 ua101 la101 hret C hp0 hpr hM0; omega)]; exact (se_n _ (by omega)).1)
    have u133k := wr_0 (f := M128.1 99) (g := n1F (M0.1 99)) (M0.1 105) (n1F (M0.1 99) 49).toInt.toNat (by exact h130.1)
    have u133l : (M128.1 99 49).toInt = (n1F (M0.1 99) 49).toInt := by rw [b01_e (P := M128.1 99 = n1F (M0.1 99)) (by exact h130.1)]
    have L144 : ∀ (n142 : Nat), ∀ (a145 : Int) (M146 : mm_M), (0 ≤ a145 ∧ a145 ≤ 23 ∧ (b01 (Cp M146 99 ((50 + 23 * (M146.1 99 49).toInt + a145) : Int).toNat 105 ((a145) : Int).toNat) = 1) ∧ (b01 (M146.1 99 = wrS (n1F (M0.1 99)) (M0.1 105) (n1F (M0.1 99) 49).toInt.toNat (a145).toNat) = 1) ∧ ((M146.1 99 49).toInt = (n1F (M0.1 99) 49).toInt) ∧ (0 ≤ (M146.1 99 49).toInt ∧ (M146.1 99 49).toInt ≤ 9) ∧ (23 - a145) < (n142 : Int)) → INV pr Kz M146 → FR [99] M0 M146 → jj p l e (cn_R 0) s m args below meth c 0 0 Q 2 dC dI ad cA A M146 58 [(0, .ref (ad 98)), (1, .int (sI a145))] [] := by
      intro n142
      induction n142 with
      | zero =>
        intro a145 M146 h147 hM146 fM146
        exfalso; omega
      | succ n142 ih143 =>
        intro a145 M146 h147 hM146 fM146
        refine j_iload_n C 1 1 dX12_notes_58 rfl rfl ?_
        refine y_bipush C dX12_notes_59 rfl ?_
        refine y_icmp_ge C 96 dX12_notes_61 (by decide) (by exact ⟨⟨(by (clear fM146 hM146 ih143 u133l u133k u133 fM128 hM128 h130 ua101 la101 hret C hp0 hpr hM0; omega)), (by (clear fM146 hM146 ih143 u133l u133k u133 fM128 hM128 h130 ua101 la101 hret C hp0 hpr hM0; omega))⟩, ⟨(by decide), (by decide)⟩⟩) (fun h148 => ?_) (fun h148 => ?_)
        · obtain rfl : a145 = 23 := by (clear fM146 hM146 ih143 u133l u133k u133 fM128 hM128 h130 ua101 la101 hret C hp0 hpr hM0; omega)
          have p155 : b01 (PI M146) = 1 := cp_e (c := 99) (pd := ((50 + 23 * (M146.1 99 49).toInt + 23) : Int).toNat) (c2 := 105) (ps := ((23) : Int).toNat) (by exact h147.2.2.1) (by rw [show (50 + 23 * (M146.1 99 49).toInt + 23 : Int).toNat = 50 + 23 * ((M146.1 99 49).toInt).toNat + 23 by (clear h148 fM146 hM146 ih143 u133k u133 fM128 hM128 ua101 la101 hret C hp0 hpr hM0; omega)]; exact (se_n _ (by (clear h148 fM146 hM146 ih143 u133k u133 fM128 hM128 ua101 la101 hret C hp0 hpr hM0; omega))).2)
          refine j_aload_n C 0 0 dX12_notes_96 rfl rfl ?_
          refine y_getC C 11 99 fX12_notes_13 rfl rfl ft_11_1 sm_11_1 rfl hM146 dX12_notes_97 ?_
          refine y_bipush C dX12_notes_100 rfl ?_
          refine j_dup2 C dX12_notes_102 rfl rfl ?_
          refine y_ialdH C 45 3543 rfl rfl rfl ak_45 an_45 rfl _ _ hM146 (hr_45_49_49 _ (by exact (by decide)) (by exact (by decide))) dX12_notes_103 (by exact ⟨(by decide), (by decide)⟩) (fun a156 ea156 la156 ua156 => ?_)
          obtain rfl : a156 = (M146.1 99 49).toInt := ea156
          refine y_iconst C dX12_notes_104 ?_
          refine y_iadd C dX12_notes_105 ?_
          refine y_iastH C 45 3543 rfl rfl rfl ak_45 an_45 rfl _ _ hM146 (PM.w hpr rfl (hm_49_49 _ (by exact (by decide)) (by exact (by decide)))) (hs_45_49_49 _ (by exact (by decide)) (by exact (by decide))) dX12_notes_106 (by exact ⟨(by decide), (by decide)⟩) (by (clear ua156 la156 p155 h148 fM146 hM146 ih143 u133k u133 fM128 hM128 ua101 la101 hret C hp0 hpr hM0; omega)) (fun M157 eM157 hM157 => ?_)
          have pM157 := pi_n eM157 (hn_49_49 _ (by exact (by decide)) (by exact (by decide))) (by exact p155)
          have u158k := nt_w (M := M146) (N := M157) (f := M0.1 99) (w := M0.1 105) (n := (n1F (M0.1 99) 49).toInt.toNat) (by exact h147.2.2.2.1) eM157 (by (clear pM157 hM157 eM157 ua156 la156 p155 h148 h147 fM146 hM146 ih143 u133l u133k u133 fM128 hM128 h130 ua101 la101 hret C hp0 hpr hM0; omega))
          exact hret _ _ _ dX12_notes_107 ⟨hM157, ((FR.rf.tr fM146 (by decide)).wI eM157 (by decide)), by exact ⟨u158k, pM157⟩⟩
        · refine j_aload_n C 0 0 dX12_notes_64 rfl rfl ?_
          refine y_getC C 11 99 fX12_notes_13 rfl rfl ft_11_1 sm_11_1 rfl hM146 dX12_notes_65 ?_
          refine y_bipush C dX12_notes_68 rfl ?_
          refine y_bipush C dX12_notes_70 rfl ?_
          refine j_aload_n C 0 0 dX12_notes_72 rfl rfl ?_
          refine y_getC C 11 99 fX12_notes_13 rfl rfl ft_11_1 sm_11_1 rfl hM146 dX12_notes_73 ?_
          refine y_bipush C dX12_notes_76 rfl ?_
          refine y_ialdH C 45 3543 rfl rfl rfl ak_45 an_45 rfl _ _ hM146 (hr_45_49_49 _ (by exact (by decide)) (by exact (by decide))) dX12_notes_78 (by exact ⟨(by decide), (by decide)⟩) (fun a149 ea149 la149 ua149 => ?_)
          obtain rfl : a149 = (M146.1 99 49).toInt := ea149
          refine y_imul C dX12_notes_79 ?_
          refine y_iadd C dX12_notes_80 ?_
          refine j_iload_n C 1 1 dX12_notes_81 rfl rfl ?_
          refine y_iadd C dX12_notes_82 ?_
          refine j_aload_n C 0 0 dX12_notes_83 rfl rfl ?_
          refine y_getC C 11 105 fX12_notes_36 rfl rfl ft_11_17 sm_11_17 rfl hM146 dX12_notes_84 ?_
          refine j_iload_n C 1 1 dX12_notes_87 rfl rfl ?_
          refine y_ialdR C 51 23 rfl rfl rfl ak_51 an_51 rfl hM146 dX12_notes_88 (by exact ⟨h147.1, (by (clear ua149 la149 fM146 hM146 ih143 u133l u133k u133 fM128 hM128 h130 ua101 la101 hret C hp0 hpr hM0; omega))⟩) (fun a150 ea150 la150 ua150 ba150 => ?_)
          obtain rfl : a150 = (M0.1 105 (a145).toNat).toInt := s_fF fM146 (by decide) (ea150)
          refine y_iastR C 45 3543 rfl rfl rfl ak_45 an_45 rfl hM146 (PM.w hpr rfl (hm_50_279 _ (by (clear ba150 ua150 la150 ea150 ua149 la149 fM146 hM146 ih143 u133k u133 fM128 hM128 ua101 la101 hret C hp0 hpr hM0; omega)) (by (clear ba150 ua150 la150 ea150 ua149 la149 fM146 hM146 ih143 u133k u133 fM128 hM128 ua101 la101 hret C hp0 hpr hM0; omega)))) dX12_notes_89 (by (clear ba150 ua150 la150 ea150 ua149 la149 fM146 hM146 ih143 u133k u133 fM128 hM128 ua101 la101 hret C hp0 hpr hM0; omega)) (by exact ⟨la150, ua150⟩) (by rw [q_w _ a145 (by exact ⟨h147.1, ⟨(by (clear ba150 ua150 la150 ea150 ua149 la149 fM146 hM146 ih143 u133k u133 fM128 hM128 ua101 la101 hret C hp0 hpr hM0; omega)), ⟨h147.2.2.2.2.2.1.1, (by (clear ba150 ua150 la150 ea150 ua149 la149 fM146 hM146 ih143 u133k u133 fM128 hM128 ua101 la101 hret C hp0 hpr hM0; omega))⟩⟩⟩)]; assumption) (fun M151 eM151 hM151 => ?_)
          have u152n : (M151.1 99 49).toInt = (M146.1 99 49).toInt := s_fb eM151 (by (clear hM151 eM151 ba150 ua150 la150 ea150 ua149 la149 fM146 hM146 ih143 u133k u133 fM128 hM128 ua101 la101 hret C hp0 hpr hM0; omega)) rfl
          have u152 := cp_step (c := 99) (c2 := 105) (pd := ((50 + 23 * (M146.1 99 49).toInt + a145) : Int).toNat) (ps := ((a145) : Int).toNat) (pd' := ((50 + 23 * (M151.1 99 49).toInt + (a145 + 1)) : Int).toNat) (ps' := (((a145 + 1)) : Int).toNat) eM151 (by rw [sI_o]; exact (congrFun (FR.cell fM146 (by decide)) _).symm) (by rw [show (50 + 23 * (M146.1 99 49).toInt + a145 : Int).toNat = 50 + 23 * ((M146.1 99 49).toInt).toNat + (a145 : Int).toNat by (clear hM151 eM151 ba150 ua150 la150 ea150 ua149 la149 fM146 hM146 ih143 u133k u133 fM128 hM128 ua101 la101 hret C hp0 hpr hM0; omega)]; exact al_n _ (by (clear hM151 eM151 ba150 ua150 la150 ea150 ua149 la149 h148 fM146 hM146 ih143 u133k u133 fM128 hM128 ua101 la101 hret C hp0 hpr hM0; omega)) _ (by (clear u152n hM151 eM151 ba150 ua150 la150 ea150 ua149 la149 fM146 hM146 ih143 u133l u133k u133 fM128 hM128 h130 ua101 la101 hret C hp0 hpr hM0; omega))) (by (clear hM151 eM151 ba150 ua150 la150 ea150 ua149 la149 fM146 hM146 ih143 u133k u133 fM128 hM128 ua101 la101 hret C hp0 hpr hM0; omega)) (by (clear u152n hM151 eM151 ba150 ua150 la150 ea150 ua149 la149 fM146 hM146 ih143 u133l u133k u133 fM128 hM128 h130 ua101 la101 hret C hp0 hpr hM0; omega)) (by exact h147.2.2.1)
          have u152k := wr_s (M := M146) (N := M151) (f := n1F (M0.1 99)) (w := M0.1 105) (x := a145) (x' := a145 + 1) (n := (n1F (M0.1 99) 49).toInt.toNat) (by exact h147.2.2.2.1) eM151 (by (clear u152 hM151 eM151 ba150 ua150 la150 ea150 ua149 la149 fM146 hM146 ih143 u133k u133 fM128 hM128 ua101 la101 hret C hp0 hpr hM0; omega))
          refine y_iinc C 1 [(1, .int (sI (a145 + 1))), (0, .ref (ad 98))] dX12_notes_90 rfl (by decide) rfl ?_
          refine j_goto C 58 dX12_notes_93 (by decide) ?_
          have zz99_49 : (M151.1 99 49).toInt = (M146.1 99 49).toInt := s_fb eM151 (by (clear u152k u152 hM151 eM151 ba150 ua150 la150 ea150 ua149 la149 fM146 hM146 ih143 u133k u133 fM128 hM128 ua101 la101 hret C hp0 hpr hM0; omega)) (rfl); refine j_lv [1, 0] rfl ?_; exact ih143 (a145 + 1) M151 (by exact ⟨(by (clear zz99_49 hM151 eM151 ba150 ua150 la150 ea150 ua149 la149 fM146 hM146 ih143 u133k u133 fM128 hM128 ua101 la101 hret C hp0 hpr hM0; omega)), ⟨(by (clear zz99_49 hM151 eM151 ba150 ua150 la150 ea150 ua149 la149 fM146 hM146 ih143 u133k u133 fM128 hM128 ua101 la101 hret C hp0 hpr hM0; omega)), ⟨u152, ⟨u152k, ⟨(by (clear zz99_49 hM151 eM151 ba150 ua150 la150 ea150 ua149 la149 fM146 hM146 ih143 u133k u133 fM128 hM128 ua101 la101 hret C hp0 hpr hM0; omega)), ⟨⟨(by (clear zz99_49 hM151 eM151 ba150 ua150 la150 ea150 ua149 la149 fM146 hM146 ih143 u133k u133 fM128 hM128 ua101 la101 hret C hp0 hpr hM0; omega)), (by (clear zz99_49 hM151 eM151 ba150 ua150 la150 ea150 ua149 la149 fM146 hM146 ih143 u133k u133 fM128 hM128 ua101 la101 hret C hp0 hpr hM0; omega))⟩, (by (clear zz99_49 hM151 eM151 ba150 ua150 la150 ea150 ua149 la149 fM146 hM146 ih143 u133k u133 fM128 hM128 ua101 la101 hret C hp0 hpr hM0; omega))⟩⟩⟩⟩⟩⟩) hM151 ((FR.rf.tr fM146 (by decide)).wI eM151 (by decide))
    refine j_lv [1, 0] rfl ?_; exact L144 2010 0 M128 (by exact ⟨(by decide), ⟨(by decide), ⟨u133, ⟨u133k, ⟨u133l, ⟨⟨h130.2.1.1, h130.2.1.2⟩, (by decide)⟩⟩⟩⟩⟩⟩) hM128 (FR.rf.tr fM128 (by decide))
  refine y_icmp_ne C 56 dX12_notes_9 (by decide) (by exact ⟨⟨(by omega), (by omega)⟩, ⟨(by decide), (by decide)⟩⟩) (fun h102 => ?_) (fun h102 => ?_)
  · have u103k := n1_n (f := M0.1 99) (by exact h102)
    exact J129 M0 (by exact ⟨u103k, ⟨⟨la101, (by (clear J129 hret C hpr hM0; omega))⟩, hp0⟩⟩) hM0 FR.rf
  · refine y_iconst C dX12_notes_12 ?_
    refine j_istore_n C 1 [(1, .int (sI 0)), (0, .ref (ad 98))] dX12_notes_13 rfl (by decide) rfl ?_
    have u104 := cp_0 (M := M0) (c := 99) (pd := ((50 + 0) : Int).toNat) (c2 := 99) (ps := ((73 + 0) : Int).toNat) (by exact hp0) (by decide)
    have u104k := sh_0 (M0.1 99)
    have L114 : ∀ (n112 : Nat), ∀ (a115 : Int) (M116 : mm_M), (0 ≤ a115 ∧ a115 ≤ 207 ∧ (b01 (Cp M116 99 ((50 + a115) : Int).toNat 99 ((73 + a115) : Int).toNat) = 1) ∧ (b01 (M116.1 99 = shS (M0.1 99) (a115).toNat) = 1) ∧ (10 ≤ (M116.1 99 49).toInt ∧ (M116.1 99 49).toInt ≤ 10) ∧ (207 - a115) < (n112 : Int)) → INV pr Kz M116 → FR [99] M0 M116 → jj p l e (cn_R 0) s m args below meth c 0 0 Q 2 dC dI ad cA A M116 14 [(0, .ref (ad 98)), (1, .int (sI a115))] [] := by
      intro n112
      induction n112 with
      | zero =>
        intro a115 M116 h117 hM116 fM116
        exfalso; omega
      | succ n112 ih113 =>
        intro a115 M116 h117 hM116 fM116
        refine j_iload_n C 1 1 dX12_notes_14 rfl rfl ?_
        refine y_sipush C dX12_notes_15 rfl ?_
        refine y_icmp_ge C 45 dX12_notes_18 (by decide) (by exact ⟨⟨(by omega), (by omega)⟩, ⟨(by decide), (by decide)⟩⟩) (fun h118 => ?_) (fun h118 => ?_)
        · obtain rfl : a115 = 207 := by omega
          have p124 : b01 (PI M116) = 1 := cp_e (c := 99) (pd := ((50 + 207) : Int).toNat) (c2 := 99) (ps := ((73 + 207) : Int).toNat) (by exact h117.2.2.1) (by decide)
          refine j_aload_n C 0 0 dX12_notes_45 rfl rfl ?_
          refine y_getC C 11 99 fX12_notes_13 rfl rfl ft_11_1 sm_11_1 rfl hM116 dX12_notes_46 ?_
          refine y_bipush C dX12_notes_49 rfl ?_
          refine j_dup2 C dX12_notes_51 rfl rfl ?_
          refine y_ialdH C 45 3543 rfl rfl rfl ak_45 an_45 rfl _ _ hM116 (hr_45_49_49 _ (by exact (by decide)) (by exact (by decide))) dX12_notes_52 (by exact ⟨(by decide), (by decide)⟩) (fun a125 ea125 la125 ua125 => ?_)
          obtain rfl : a125 = (M116.1 99 49).toInt := ea125
          refine y_iconst C dX12_notes_53 ?_
          refine y_isub C dX12_notes_54 ?_
          refine y_iastH C 45 3543 rfl rfl rfl ak_45 an_45 rfl _ _ hM116 (PM.w hpr rfl (hm_49_49 _ (by exact (by decide)) (by exact (by decide)))) (hs_45_49_49 _ (by exact (by decide)) (by exact (by decide))) dX12_notes_55 (by exact ⟨(by decide), (by decide)⟩) (by (clear ua125 la125 p124 h118 fM116 hM116 ih113 u104k u104 h102 J129 ua101 la101 hret C hp0 hpr hM0; omega)) (fun M126 eM126 hM126 => ?_)
          have pM126 := pi_n eM126 (hn_49_49 _ (by exact (by decide)) (by exact (by decide))) (by exact p124)
          have u127k := n1_y (M := M116) (N := M126) (f := M0.1 99) (by exact h117.2.2.2.1) eM126 (by exact ⟨h102, (by (clear pM126 hM126 eM126 ua125 la125 p124 h118 fM116 hM116 ih113 u104k u104 J129 ua101 la101 hret C hp0 hpr hM0; omega))⟩)
          have zz99_49 : (M126.1 99 49).toInt = ((M116.1 99 49).toInt - 1) := (Eq.trans (rfl : (M126.1 99 49).toInt = (M126.1 99 49).toInt) (s_wr eM126 (by (clear u127k pM126 hM126 eM126 ua125 la125 p124 h118 fM116 hM116 ih113 u104k u104 h102 J129 ua101 la101 hret C hp0 hpr hM0; omega)))); refine j_lv [0] rfl ?_; exact J129 M126 (by exact ⟨u127k, ⟨⟨(by (clear hM126 eM126 ua125 la125 p124 h118 fM116 hM116 ih113 u104k u104 h102 J129 ua101 la101 hret C hp0 hpr hM0; omega)), (by (clear hM126 eM126 ua125 la125 p124 h118 fM116 hM116 ih113 u104k u104 h102 J129 ua101 la101 hret C hp0 hpr hM0; omega))⟩, pM126⟩⟩) hM126 ((FR.rf.tr fM116 (by decide)).wI eM126 (by decide))
        · refine j_aload_n C 0 0 dX12_notes_21 rfl rfl ?_
          refine y_getC C 11 99 fX12_notes_13 rfl rfl ft_11_1 sm_11_1 rfl hM116 dX12_notes_22 ?_
          refine y_bipush C dX12_notes_25 rfl ?_
          refine j_iload_n C 1 1 dX12_notes_27 rfl rfl ?_
          refine y_iadd C dX12_notes_28 ?_
          refine j_aload_n C 0 0 dX12_notes_29 rfl rfl ?_
          refine y_getC C 11 99 fX12_notes_13 rfl rfl ft_11_1 sm_11_1 rfl hM116 dX12_notes_30 ?_
          refine y_bipush C dX12_notes_33 rfl ?_
          refine j_iload_n C 1 1 dX12_notes_35 rfl rfl ?_
          refine y_iadd C dX12_notes_36 ?_
          refine y_ialdR C 45 3543 rfl rfl rfl ak_45 an_45 rfl hM116 dX12_notes_37 (by omega) (fun a119 ea119 la119 ua119 ba119 => ?_)
          obtain rfl : a119 = (M116.1 99 ((73 + a115)).toNat).toInt := ea119
          refine y_iastR C 45 3543 rfl rfl rfl ak_45 an_45 rfl hM116 (PM.w hpr rfl (hm_50_256 _ (by (clear ba119 ua119 la119 fM116 hM116 ih113 u104k u104 h102 J129 ua101 la101 hret C hp0 hpr hM0; omega)) (by (clear ba119 ua119 la119 fM116 hM116 ih113 u104k u104 h102 J129 ua101 la101 hret C hp0 hpr hM0; omega)))) dX12_notes_38 (by omega) (by exact ⟨la119, ua119⟩) (by rw [q_s a115 (by exact ⟨h117.1, (by omega)⟩)]; assumption) (fun M120 eM120 hM120 => ?_)
          have u121 := cp_step (c := 99) (c2 := 99) (pd := ((50 + a115) : Int).toNat) (ps := ((73 + a115) : Int).toNat) (pd' := ((50 + (a115 + 1)) : Int).toNat) (ps' := ((73 + (a115 + 1)) : Int).toNat) eM120 (by rw [sI_o]) (by rw [show (50 + a115 : Int).toNat = 50 + (a115 : Int).toNat by (clear hM120 eM120 ba119 ua119 la119 fM116 hM116 ih113 u104k u104 h102 J129 ua101 la101 hret C hp0 hpr hM0; omega), show (73 + a115 : Int).toNat = 73 + (a115 : Int).toNat by (clear hM120 eM120 ba119 ua119 la119 fM116 hM116 ih113 u104k u104 h102 J129 ua101 la101 hret C hp0 hpr hM0; omega)]; exact al_s _ (by (clear hM120 eM120 ba119 ua119 la119 fM116 hM116 ih113 u104k u104 h102 J129 ua101 la101 hret C hp0 hpr hM0; omega))) (by (clear hM120 eM120 ba119 ua119 la119 fM116 hM116 ih113 u104k u104 h102 J129 ua101 la101 hret C hp0 hpr hM0; omega)) (by (clear hM120 eM120 ba119 ua119 la119 fM116 hM116 ih113 u104k u104 h102 J129 ua101 la101 hret C hp0 hpr hM0; omega)) (by exact h117.2.2.1)
          have u121k := sh_s (M := M116) (N := M120) (f := M0.1 99) (x := a115) (x' := a115 + 1) (by exact h117.2.2.2.1) eM120 (by rw [sI_o]) (by omega)
          refine y_iinc C 1 [(1, .int (sI (a115 + 1))), (0, .ref (ad 98))] dX12_notes_39 rfl (by decide) rfl ?_
          refine j_goto C 14 dX12_notes_42 (by decide) ?_
          have zz99_49 : (M120.1 99 49).toInt = (M116.1 99 49).toInt := s_fb eM120 (by (clear u121k u121 hM120 eM120 ba119 ua119 la119 fM116 hM116 ih113 u104k u104 h102 J129 ua101 la101 hret C hp0 hpr hM0; omega)) (rfl); refine j_lv [1, 0] rfl ?_; exact ih113 (a115 + 1) M120 (by exact ⟨(by (clear hM120 eM120 ba119 ua119 la119 fM116 hM116 ih113 u104k u104 h102 J129 ua101 la101 hret C hp0 hpr hM0; omega)), ⟨(by (clear hM120 eM120 ba119 ua119 la119 fM116 hM116 ih113 u104k u104 h102 J129 ua101 la101 hret C hp0 hpr hM0; omega)), ⟨u121, ⟨u121k, ⟨⟨(by (clear hM120 eM120 ba119 ua119 la119 fM116 hM116 ih113 u104k u104 h102 J129 ua101 la101 hret C hp0 hpr hM0; omega)), (by (clear hM120 eM120 ba119 ua119 la119 fM116 hM116 ih113 u104k u104 h102 J129 ua101 la101 hret C hp0 hpr hM0; omega))⟩, (by (clear hM120 eM120 ba119 ua119 la119 fM116 hM116 ih113 u104k u104 h102 J129 ua101 la101 hret C hp0 hpr hM0; omega))⟩⟩⟩⟩⟩) hM120 ((FR.rf.tr fM116 (by decide)).wI eM120 (by decide))
    refine j_lv [1, 0] rfl ?_; exact L114 2010 0 M0 (by exact ⟨(by decide), ⟨(by decide), ⟨u104, ⟨u104k, ⟨⟨(by (clear L114 J129 ua101 la101 hret C hp0 hpr hM0; omega)), ua101⟩, (by decide)⟩⟩⟩⟩⟩) hM0 FR.rf
set_option maxHeartbeats 4000000 in
theorem s1_X12_seed {l : Launch} {dC : Nat → ClassId} {dI : Nat → Nat → Nat} {ad : Nat → Nat} {cA : Nat → ClassId} {pr : Nat → Nat → Bool} {Kz : mm_M} {M0 : mm_M} (hM0 : INV pr Kz M0) (hpr : PM pr) (a1 : Int) (ha1 : -2147483648 ≤ a1 ∧ a1 ≤ 2147483647) (hp0 : b01 (PI M0) = 1) : Ci l 1 yX12_seed wsX12_seed dC dI ad cA [.ref (ad 98), .int (sI a1)] M0 (fun r M' => ∃ a : Int, r = sI a ∧ INV pr Kz M' ∧ FR [98, 99, 105] M0 M' ∧ (-2147483648) ≤ a ∧ a ≤ 2147483647 ∧ (a = (M0.1 99 32).toInt) ∧ (b01 (M'.1 99 = ntF (uR (M0.1 99) 32 a1) (kpF (M0.1 99))) = 1) ∧ (b01 (PI M') = 1)) := by
  refine ci_of (cc := cX12_seed) (maxL := 2) (ty := .int) (lv := [(0, .ref (ad 98)), (1, .int (sI a1))]) (by decide) rfl (fun r M' hp => rfl) (Nat.le_of_ble_eq_true rfl) rfl ?_
  intro p e s m args below meth c A Q C hret
  refine j_aload_n C 0 0 dX12_seed_0 rfl rfl ?_
  refine y_iconst C dX12_seed_1 ?_
  refine y_putIF C 11 qX12_seed_1 rfl rfl ft_11_0 sb_11_0 hM0 (PM.w hpr rfl rfl) dX12_seed_2 (fun M101 eM101 hM101 => ?_)
  have pM101 := pi_o eM101 (by decide) (by decide) (by exact hp0)
  refine j_aload_n C 0 0 dX12_seed_5 rfl rfl ?_
  refine j_callVv C (d := 0) (As := []) (st := []) 98 (s_lt rfl rfl) (s_kc (c := 11) rfl rfl) (by decide) rfl (s1_X12_keeps hM101 hpr (by exact pM101)) gX12_seed_X12_keeps rfl hdX12_keeps (by decide) (Nat.le_of_ble_eq_true rfl) dX12_seed_6 rfl (fun M103 h104 => ?_)
  obtain ⟨hM103, fM103, h105⟩ := h104
  refine j_aload_n C 0 0 dX12_seed_9 rfl rfl ?_
  refine y_getC C 11 99 fX12_seed_13 rfl rfl ft_11_1 sm_11_1 rfl hM103 dX12_seed_10 ?_
  refine y_bipush C dX12_seed_13 rfl ?_
  refine j_iload_n C 1 1 dX12_seed_15 rfl rfl ?_
  refine y_iastH C 45 3543 rfl rfl rfl ak_45 an_45 rfl _ _ hM103 (PM.w hpr rfl (hm_32_32 _ (by exact (by decide)) (by exact (by decide)))) (hs_45_32_32 _ (by exact (by decide)) (by exact (by decide))) dX12_seed_16 (by exact ⟨(by decide), (by decide)⟩) (by exact ⟨⟨ha1.1, ha1.2⟩, ⟨ha1.1, ha1.2⟩⟩) (fun M106 eM106 hM106 => ?_)
  have pM106 := pi_n eM106 (hn_32_32 _ (by exact (by decide)) (by exact (by decide))) (by exact h105.2)
  refine j_aload_n C 0 0 dX12_seed_17 rfl rfl ?_
  refine j_callVv C (d := 0) (As := []) (st := []) 98 (s_lt rfl rfl) (s_kc (c := 11) rfl rfl) (by decide) rfl (s1_X12_notes hM106 hpr (by exact pM106)) gX12_seed_X12_notes rfl hdX12_notes (by decide) (Nat.le_of_ble_eq_true rfl) dX12_seed_18 rfl (fun M108 h109 => ?_)
  obtain ⟨hM108, fM108, h110⟩ := h109
  refine j_aload_n C 0 0 dX12_seed_21 rfl rfl ?_
  refine y_getC C 11 105 fX12_seed_36 rfl rfl ft_11_17 sm_11_17 rfl hM108 dX12_seed_22 ?_
  refine y_bipush C dX12_seed_25 rfl ?_
  refine y_ialdF C 51 23 rfl rfl rfl ak_51 an_51 rfl dX12_seed_27 (by exact ⟨(by decide), (by decide)⟩) (fun a111 ea111 la111 ua111 => ?_)
  obtain rfl : a111 = (M103.1 105 6).toInt := s_fa eM106 (by decide) (s_fF fM108 (by decide) (ea111))
  have u112q := nt_q (M := M106) (Mk := M103) (N := M108) (f := M0.1 99) (g := uR (M0.1 99) 32 a1) (by exact h110.1) (by rw [show M0.1 99 = M101.1 99 from ((wI_cell eM101 (by decide))).symm]; exact b01_i (b01_e (P := KPN M103 (M101.1 99) 23) (by exact h105.1))) ((wI_cell eM106 (by decide))) ((uR_w eM106).trans (congrArg (fun q => uR q 32 a1) (((FR.cell fM103 (by decide)).trans (wI_cell eM101 (by decide))))))
  have u112w : (M103.1 105 6).toInt = (M0.1 99 32).toInt := by rw [b01_e (P := KPN M103 (M101.1 99) 23) (by exact h105.1) 6 (by decide), show M101.1 99 = M0.1 99 from ((wI_cell eM101 (by decide)))]
  exact hret _ _ _ _ dX12_seed_28 ⟨(M103.1 105 6).toInt, rfl, hM108, ((((FR.rf.wI eM101 (by decide)).tr fM103 (by decide)).wI eM106 (by decide)).tr fM108 (by decide)), by exact ⟨la111, ⟨ua111, ⟨u112w, ⟨u112q, h110.2⟩⟩⟩⟩⟩
set_option maxHeartbeats 4000000 in
theorem s1_X12_isShut {l : Launch} {dC : Nat → ClassId} {dI : Nat → Nat → Nat} {ad : Nat → Nat} {cA : Nat → ClassId} {pr : Nat → Nat → Bool} {Kz : mm_M} {M0 : mm_M} (hM0 : INV pr Kz M0)  : Ci l 3 yX12_isShut wsX12_isShut dC dI ad cA [.ref (ad 98)] M0 (fun r M' => ∃ a : Int, r = sI a ∧ M0 = M' ∧ 0 ≤ a ∧ a ≤ 1 ∧ (a = (shF (M0.1 99) ((M0.1 99 27).toInt)))) := by
  refine ci_of (cc := cX12_isShut) (maxL := 1) (ty := .boolean) (lv := [(0, .ref (ad 98))]) (by decide) rfl (fun r M' hp => by obtain ⟨a, rfl, -, h⟩ := hp; rcases (show a = 0 ∨ a = 1 by omega) with rfl | rfl <;> rfl) (Nat.le_of_ble_eq_true rfl) rfl ?_
  intro p e s m args below meth c A Q C hret
  refine j_aload_n C 0 0 dX12_isShut_0 rfl rfl ?_
  refine j_aload_n C 0 0 dX12_isShut_1 rfl rfl ?_
  refine y_getC C 11 99 fX12_isShut_13 rfl rfl ft_11_1 sm_11_1 rfl hM0 dX12_isShut_2 ?_
  refine y_bipush C dX12_isShut_5 rfl ?_
  refine y_ialdH C 45 3543 rfl rfl rfl ak_45 an_45 rfl _ _ hM0 (hr_45_27_27 _ (by exact (by decide)) (by exact (by decide))) dX12_isShut_7 (by exact ⟨(by decide), (by decide)⟩) (fun a101 ea101 la101 ua101 => ?_)
  obtain rfl : a101 = (M0.1 99 27).toInt := ea101
  refine j_callVi C (d := 2) (As := [.int (sI (M0.1 99 27).toInt)]) (st := []) 98 (s_lt rfl rfl) (s_kc (c := 11) rfl rfl) (by decide) rfl (s1_X12_isShutBy hM0 (M0.1 99 27).toInt (by omega)) gX12_isShut_X12_isShutBy rfl hdX12_isShutBy (by decide) (Nat.le_of_ble_eq_true rfl) dX12_isShut_8 rfl (fun r102 M103 h104 => ?_)
  obtain ⟨a106, rfl, rfl, h105⟩ := h104
  obtain rfl : a106 = (shF (M0.1 99) (M0.1 99 27).toInt) := by exact h105.2.2
  exact hret _ _ _ _ dX12_isShut_11 ⟨(shF (M0.1 99) (M0.1 99 27).toInt), rfl, rfl, by exact ⟨h105.1, ⟨h105.2.1, h105.2.2⟩⟩⟩
set_option maxHeartbeats 4000000 in
theorem s1_X12_whyVisit {l : Launch} {dC : Nat → ClassId} {dI : Nat → Nat → Nat} {ad : Nat → Nat} {cA : Nat → ClassId} {pr : Nat → Nat → Bool} {Kz : mm_M} {M0 : mm_M} (hM0 : INV pr Kz M0) (hpr : PM pr) (hcw : CWK pr Kz) (a1 : Int) (ha1 : -9223372036854775808 ≤ a1 ∧ a1 ≤ 9223372036854775807) (hp0 : b01 (PI M0) = 1) : Ci l 5 yX12_whyVisit wsX12_whyVisit dC dI ad cA [.ref (ad 98), .long (sJ a1)] M0 (fun r M' => ∃ a : Int, r = sI a ∧ INV pr Kz M' ∧ FR [103, 104] M0 M' ∧ 0 ≤ a ∧ a ≤ 3 ∧ (a = (wvF (M0.1 99) a1)) ∧ (a = 0 ∧ 0 ≤ a1 ∧ a1 < (M0.1 99 1).toInt ∧ (M0.1 99 1).toInt ≤ 6 ∧ 0 ≤ bnF (M0.1 99) a1 ∨ 1 ≤ a ∧ a ≤ 3) ∧ (b01 (PI M') = 1)) := by
  refine ci_of (cc := cX12_whyVisit) (maxL := 3) (ty := .int) (lv := [(0, .ref (ad 98)), (1, .long (sJ a1))]) (by decide) rfl (fun r M' hp => rfl) (Nat.le_of_ble_eq_true rfl) rfl ?_
  intro p e s m args below meth c A Q C hret
  refine j_aload_n C 0 0 dX12_whyVisit_0 rfl rfl ?_
  refine j_lload_n C 1 1 dX12_whyVisit_1 rfl rfl ?_
  refine j_callVi C (d := 1) (As := [.long (sJ a1)]) (st := []) 98 (s_lt rfl rfl) (s_kc (c := 11) rfl rfl) (by decide) rfl (s1_X12_isBuyer hM0 a1 (by exact ⟨ha1.1, ha1.2⟩)) gX12_whyVisit_X12_isBuyer rfl hdX12_isBuyer (by decide) (Nat.le_of_ble_eq_true rfl) dX12_whyVisit_2 rfl (fun r101 M102 h103 => ?_)
  obtain ⟨a105, rfl, rfl, h104⟩ := h103
  refine y_if_ne C 12 dX12_whyVisit_5 (by decide) (by omega) (fun h106 => ?_) (fun h106 => ?_)
  · refine j_aload_n C 0 0 dX12_whyVisit_12 rfl rfl ?_
    refine j_callVi C (d := 3) (As := []) (st := []) 98 (s_lt rfl rfl) (s_kc (c := 11) rfl rfl) (by decide) rfl (s1_X12_isShut hM0) gX12_whyVisit_X12_isShut rfl hdX12_isShut (by decide) (Nat.le_of_ble_eq_true rfl) dX12_whyVisit_13 rfl (fun r107 M108 h109 => ?_)
    obtain ⟨a111, rfl, rfl, h110⟩ := h109
    obtain rfl : a111 = (shF (M0.1 99) ((M0.1 99 27).toInt)) := by exact h110.2.2
    refine y_if_eq C 23 dX12_whyVisit_16 (by decide) (by omega) (fun h112 => ?_) (fun h112 => ?_)
    · refine j_aload_n C 0 0 dX12_whyVisit_23 rfl rfl ?_
      refine j_lload_n C 1 1 dX12_whyVisit_24 rfl rfl ?_
      refine y_l2i C dX12_whyVisit_25 ?_
      refine j_callVi C (d := 4) (As := [.int (sI a1)]) (st := []) 98 (s_lt rfl rfl) (s_kc (c := 11) rfl rfl) (by decide) rfl (s1_X12_buysNow hM0 hpr hcw a1 (by (clear h112 h110 hret C hp0 hcw hpr hM0; omega)) (by (clear h112 h110 hret C hp0 hcw hpr hM0; omega)) (by exact hp0)) gX12_whyVisit_X12_buysNow rfl hdX12_buysNow (by decide) (Nat.le_of_ble_eq_true rfl) dX12_whyVisit_26 rfl (fun r113 M114 h115 => ?_)
      obtain ⟨a117, rfl, hM114, fM114, h116⟩ := h115
      obtain rfl : a117 = (bnF (M0.1 99) a1) := by exact h116.2.2.1
      refine y_iconst C dX12_whyVisit_29 ?_
      refine y_icmp_ne C 37 dX12_whyVisit_30 (by decide) (by exact ⟨⟨(by omega), (by omega)⟩, ⟨(by decide), (by decide)⟩⟩) (fun h118 => ?_) (fun h118 => ?_)
      · refine y_iconst C dX12_whyVisit_37 ?_
        have u119 := wvF_s (M0.1 99) a1
        exact hret _ _ _ _ dX12_whyVisit_38 ⟨0, rfl, hM114, (FR.rf.tr fM114 (by decide)), by exact ⟨(by decide), ⟨(by decide), ⟨(by (clear fM114 hM114 h110 hret C hp0 hcw hpr hM0; omega)), ⟨(by (clear fM114 hM114 h110 hret C hp0 hcw hpr hM0; omega)), h116.2.2.2⟩⟩⟩⟩⟩
      · refine y_iconst C dX12_whyVisit_33 ?_
        refine j_goto C 38 dX12_whyVisit_34 (by decide) ?_
        have u120 := wvF_s (M0.1 99) a1
        exact hret _ _ _ _ dX12_whyVisit_38 ⟨3, rfl, hM114, (FR.rf.tr fM114 (by decide)), by exact ⟨(by decide), ⟨(by decide), ⟨(by (clear fM114 hM114 h110 hret C hp0 hcw hpr hM0; omega)), ⟨(by (clear fM114 hM114 h110 hret C hp0 hcw hpr hM0; omega)), h116.2.2.2⟩⟩⟩⟩⟩
    · refine y_iconst C dX12_whyVisit_19 ?_
      refine j_goto C 38 dX12_whyVisit_20 (by decide) ?_
      have u121 := wvF_s (M0.1 99) a1
      exact hret _ _ _ _ dX12_whyVisit_38 ⟨2, rfl, hM0, FR.rf, by exact ⟨(by decide), ⟨(by decide), ⟨(by (clear hret C hcw hpr hM0; omega)), ⟨(by (clear hret C hcw hpr hM0; omega)), hp0⟩⟩⟩⟩⟩
  · refine y_iconst C dX12_whyVisit_8 ?_
    refine j_goto C 38 dX12_whyVisit_9 (by decide) ?_
    have u122 := wvF_s (M0.1 99) a1
    exact hret _ _ _ _ dX12_whyVisit_38 ⟨1, rfl, hM0, FR.rf, by exact ⟨(by decide), ⟨(by decide), ⟨(by (clear hret C hcw hpr hM0; omega)), ⟨(by (clear hret C hcw hpr hM0; omega)), hp0⟩⟩⟩⟩⟩
set_option maxHeartbeats 4000000 in
theorem s1_X12_visits {l : Launch} {dC : Nat → ClassId} {dI : Nat → Nat → Nat} {ad : Nat → Nat} {cA : Nat → ClassId} {pr : Nat → Nat → Bool} {Kz : mm_M} {M0 : mm_M} (hM0 : INV pr Kz M0) (hpr : PM pr) (hcw : CWK pr Kz) (a1 : Int) (ha1 : -2147483648 ≤ a1 ∧ a1 ≤ 2147483647) (hp0 : 0 ≤ bnF (M0.1 99) a1) (hp1 : 0 ≤ a1 ∧ a1 ≤ 5) (hp2 : b01 (PI M0) = 1) : Ci l 5 yX12_visits wsX12_visits dC dI ad cA [.ref (ad 98), .int (sI a1)] M0 (fun r M' => ∃ a : Int, r = sI a ∧ INV pr Kz M' ∧ FR [99, 103, 104] M0 M' ∧ 0 ≤ a ∧ a ≤ 7 ∧ (a = bnF (M0.1 99) a1) ∧ (b01 (M'.1 99 = vsS (M0.1 99) a1) = 1) ∧ (b01 (PI M') = 1)) := by
  refine ci_of (cc := cX12_visits) (maxL := 3) (ty := .int) (lv := [(0, .ref (ad 98)), (1, .int (sI a1))]) (by decide) rfl (fun r M' hp => rfl) (Nat.le_of_ble_eq_true rfl) rfl ?_
  intro p e s m args below meth c A Q C hret
  refine j_aload_n C 0 0 dX12_visits_0 rfl rfl ?_
  refine j_iload_n C 1 1 dX12_visits_1 rfl rfl ?_
  refine j_callVi C (d := 4) (As := [.int (sI a1)]) (st := []) 98 (s_lt rfl rfl) (s_kc (c := 11) rfl rfl) (by decide) rfl (s1_X12_buysNow hM0 hpr hcw a1 (by exact ⟨ha1.1, ha1.2⟩) (by exact ⟨hp1.1, hp1.2⟩) (by exact hp2)) gX12_visits_X12_buysNow rfl hdX12_buysNow (by decide) (Nat.le_of_ble_eq_true rfl) dX12_visits_2 rfl (fun r101 M102 h103 => ?_)
  obtain ⟨a105, rfl, hM102, fM102, h104⟩ := h103
  obtain rfl : a105 = (bnF (M0.1 99) a1) := by exact h104.2.2.1
  have u106 : 0 ≤ (bnF (M0.1 99) a1) ∧ (bnF (M0.1 99) a1) ≤ 7 := by exact ⟨hp0, h104.2.1⟩
  refine j_istore_n C 2 [(2, .int (sI (bnF (M0.1 99) a1))), (0, .ref (ad 98)), (1, .int (sI a1))] dX12_visits_5 rfl (by decide) rfl ?_
  refine j_aload_n C 1 0 dX12_visits_6 rfl rfl ?_
  refine y_getC C 11 99 fX12_visits_13 rfl rfl ft_11_1 sm_11_1 rfl hM102 dX12_visits_7 ?_
  refine y_bipush C dX12_visits_10 rfl ?_
  refine j_dup2 C dX12_visits_12 rfl rfl ?_
  refine y_ialdH C 45 3543 rfl rfl rfl ak_45 an_45 rfl _ _ hM102 (hr_45_27_27 _ (by exact (by decide)) (by exact (by decide))) dX12_visits_13 (by exact ⟨(by decide), (by decide)⟩) (fun a107 ea107 la107 ua107 => ?_)
  obtain rfl : a107 = (M0.1 99 27).toInt := s_fF fM102 (by decide) (ea107)
  refine y_iconst C dX12_visits_14 ?_
  refine j_iload_n C 0 2 dX12_visits_15 rfl rfl ?_
  refine e_shl1 C 7 128 dX12_visits_16 rfl (by decide) (by exact ⟨u106.1, (by omega)⟩) (fun lb108 ub108 => ?_)
  refine e_iorN C 8 255 dX12_visits_17 rfl (by decide) (by exact ⟨la107, ⟨ua107, ⟨(by (clear u106 h104 fM102 hM102 hret C hp2 hp1 hp0 ha1 hcw hpr hM0; omega)), (by (clear u106 h104 fM102 hM102 hret C hp2 hp1 hp0 ha1 hcw hpr hM0; omega))⟩⟩⟩) (fun lb109 ub109 ob109 => ?_)
  have u110r26 := INV.rd hM0 (i := 99) (c := 45) (k := 26) rfl rfl
  have u110r27 := INV.rd hM0 (i := 99) (c := 45) (k := 27) rfl rfl
  have u110b : bnF (M0.1 99) a1 < (M0.1 99 26).toInt := boF_lt (M0.1 99) a1 (M0.1 99 27).toInt u110r26.1
  have u110e : evF (M0.1 99) = pw2 (M0.1 99 26).toInt - 1 := rfl
  have u110p := pi_27 (M := M0) (by exact hp2)
  have u110o := or_lt (s := (M0.1 99 27).toInt) (k := bnF (M0.1 99) a1) (K := (M0.1 99 26).toInt) (by exact ⟨la107, ⟨(by (clear u110r27 ob109 ub109 lb109 ub108 lb108 u106 fM102 hM102 hret C hp2 hp1 ha1 hcw hpr hM0; omega)), ⟨hp0, ⟨u110b, u110r26.2⟩⟩⟩⟩)
  have u110D : pw2 (M102.1 99 26).toInt = pw2 (M0.1 99 26).toInt := by rw [(show M102.1 99 = M0.1 99 from (FR.cell fM102 (by decide)))]
  refine y_iastH C 45 3543 rfl rfl rfl ak_45 an_45 rfl _ _ hM102 (PM.w hpr rfl (hm_27_27 _ (by exact (by decide)) (by exact (by decide)))) (hs_45_27_27 _ (by exact (by decide)) (by exact (by decide))) dX12_visits_18 (by exact ⟨(by decide), (by decide)⟩) (by exact ⟨⟨(by (clear u110D u110o u110p u110e u110b u110r27 u110r26 ob109 ub108 lb108 ua107 la107 ea107 u106 h104 fM102 hM102 hret C hp2 hp1 hp0 ha1 hcw hpr hM0; omega)), (by (clear u110D u110o u110p u110e u110b u110r27 u110r26 ob109 ub108 lb108 ua107 la107 ea107 u106 h104 fM102 hM102 hret C hp2 hp1 hp0 ha1 hcw hpr hM0; omega))⟩, ⟨lb109, ub109⟩⟩) (fun M111 eM111 hM111 => ?_)
  have pM111 : b01 (PI M111) = 1 := pi_s eM111 (by exact h104.2.2.2) (by (clear hM111 eM111 u110p u110e u110b u110r27 u110r26 ob109 ub108 lb108 ua107 la107 ea107 u106 h104 fM102 hM102 hret C hp2 hp1 hp0 ha1 hcw hpr hM0; omega))
  refine j_aload_n C 1 0 dX12_visits_19 rfl rfl ?_
  refine y_getC C 11 99 fX12_visits_13 rfl rfl ft_11_1 sm_11_1 rfl hM111 dX12_visits_20 ?_
  refine y_bipush C dX12_visits_23 rfl ?_
  refine j_dup2 C dX12_visits_25 rfl rfl ?_
  refine y_ialdF C 45 3543 rfl rfl rfl ak_45 an_45 rfl dX12_visits_26 (by exact ⟨(by decide), (by decide)⟩) (fun a112 ea112 la112 ua112 => ?_)
  obtain rfl : a112 = (M0.1 99 29).toInt := s_fF fM102 (by decide) (s_fb eM111 (by decide) (ea112))
  refine j_aload_n C 1 0 dX12_visits_27 rfl rfl ?_
  refine y_getC C 11 99 fX12_visits_13 rfl rfl ft_11_1 sm_11_1 rfl hM111 dX12_visits_28 ?_
  refine y_bipush C dX12_visits_31 rfl ?_
  refine j_iload_n C 0 2 dX12_visits_33 rfl rfl ?_
  refine y_iadd C dX12_visits_34 ?_
  refine y_ialdF C 45 3543 rfl rfl rfl ak_45 an_45 rfl dX12_visits_35 (by omega) (fun a113 ea113 la113 ua113 => ?_)
  obtain rfl : a113 = (M111.1 99 ((33 + (bnF (M0.1 99) a1))).toNat).toInt := ea113
  refine e_iadd C dX12_visits_36 (fun lb114 ub114 => ?_)
  refine y_iastH C 45 3543 rfl rfl rfl ak_45 an_45 rfl _ _ hM111 (PM.w hpr rfl (hm_29_29 _ (by exact (by decide)) (by exact (by decide)))) (hs_45_29_29 _ (by exact (by decide)) (by exact (by decide))) dX12_visits_37 (by exact ⟨(by decide), (by decide)⟩) (by exact ⟨⟨lb114, ub114⟩, ⟨lb114, ub114⟩⟩) (fun M115 eM115 hM115 => ?_)
  have pM115 := pi_n eM115 (hn_29_29 _ (by exact (by decide)) (by exact (by decide))) (by exact pM111)
  refine j_iload_n C 0 2 dX12_visits_38 rfl rfl ?_
  have u116r := vs_w (M := M102) (f := M0.1 99) (b := a1) ((FR.cell fM102 (by decide))) eM111 eM115 (by (clear pM115 hM115 eM115 ub114 lb114 ua113 la113 ua112 la112 ea112 pM111 hM111 eM111 u110D u110o u110p u110e u110b u110r27 u110r26 ob109 ub109 lb109 ub108 lb108 ua107 la107 ea107 u106 fM102 hM102 hret C hp2 hp1 ha1 hcw hpr hM0; omega))
  exact hret _ _ _ _ dX12_visits_39 ⟨(bnF (M0.1 99) a1), rfl, hM115, (((FR.rf.tr fM102 (by decide)).wI eM111 (by decide)).wI eM115 (by decide)), by exact ⟨hp0, ⟨h104.2.1, ⟨h104.2.2.1, ⟨u116r, pM115⟩⟩⟩⟩⟩
set_option maxHeartbeats 4000000 in
theorem s1_X12_visit {l : Launch} {dC : Nat → ClassId} {dI : Nat → Nat → Nat} {ad : Nat → Nat} {cA : Nat → ClassId} {pr : Nat → Nat → Bool} {Kz : mm_M} {M0 : mm_M} (hM0 : INV pr Kz M0) (hpr : PM pr) (hcw : CWK pr Kz) (a1 : Int) (ha1 : -2147483648 ≤ a1 ∧ a1 ≤ 2147483647) (hp0 : b01 (PI M0) = 1) : Ci l 6 yX12_visit wsX12_visit dC dI ad cA [.ref (ad 98), .int (sI a1)] M0 (fun r M' => ∃ a : Int, r = sI a ∧ INV pr Kz M' ∧ FR [98, 99, 103, 104, 105] M0 M' ∧ (-13) ≤ a ∧ a ≤ 7 ∧ (a = aI (wvF (M0.1 99) a1) (bnF (M0.1 99) a1)) ∧ (b01 (M'.1 99 = puI (wvF (M0.1 99) a1) (M0.1 99) (vsS (M0.1 99) a1)) = 1) ∧ (b01 (PI M') = 1)) := by
  refine ci_of (cc := cX12_visit) (maxL := 4) (ty := .int) (lv := [(0, .ref (ad 98)), (1, .int (sI a1))]) (by decide) rfl (fun r M' hp => rfl) (Nat.le_of_ble_eq_true rfl) rfl ?_
  intro p e s m args below meth c A Q C hret
  refine j_aload_n C 0 0 dX12_visit_0 rfl rfl ?_
  refine y_iconst C dX12_visit_1 ?_
  refine y_putIF C 11 qX12_visit_1 rfl rfl ft_11_0 sb_11_0 hM0 (PM.w hpr rfl rfl) dX12_visit_2 (fun M101 eM101 hM101 => ?_)
  have pM101 := pi_o eM101 (by decide) (by decide) (by exact hp0)
  refine j_aload_n C 0 0 dX12_visit_5 rfl rfl ?_
  refine j_iload_n C 1 1 dX12_visit_6 rfl rfl ?_
  refine y_i2l C dX12_visit_7 (by exact ⟨ha1.1, ha1.2⟩) ?_
  refine j_callVi C (d := 5) (As := [.long (sJ a1)]) (st := []) 98 (s_lt rfl rfl) (s_kc (c := 11) rfl rfl) (by decide) rfl (s1_X12_whyVisit hM101 hpr hcw a1 (by omega) (by exact pM101)) gX12_visit_X12_whyVisit rfl hdX12_whyVisit (by decide) (Nat.le_of_ble_eq_true rfl) dX12_visit_8 rfl (fun r102 M103 h104 => ?_)
  obtain ⟨a106, rfl, hM103, fM103, h105⟩ := h104
  rw [show M101.1 99 = M0.1 99 from (wI_cell eM101 (by decide))] at h105
  obtain rfl : a106 = (wvF (M0.1 99) a1) := by exact h105.2.2.1
  refine j_istore_n C 2 [(2, .int (sI (wvF (M0.1 99) a1))), (0, .ref (ad 98)), (1, .int (sI a1))] dX12_visit_11 rfl (by decide) rfl ?_
  refine j_iload_n C 0 2 dX12_visit_12 rfl rfl ?_
  refine y_if_eq C 21 dX12_visit_13 (by decide) (by omega) (fun h107 => ?_) (fun h107 => ?_)
  · refine j_aload_n C 1 0 dX12_visit_21 rfl rfl ?_
    refine j_callVv C (d := 0) (As := []) (st := []) 98 (s_lt rfl rfl) (s_kc (c := 11) rfl rfl) (by decide) rfl (s1_X12_keeps hM103 hpr (by exact h105.2.2.2.2)) gX12_visit_X12_keeps rfl hdX12_keeps (by decide) (Nat.le_of_ble_eq_true rfl) dX12_visit_22 rfl (fun M109 h110 => ?_)
    obtain ⟨hM109, fM109, h111⟩ := h110
    have u112 : bnF (M109.1 99) a1 = bnF (M0.1 99) a1 := by rw [((((FR.cell fM109 (by decide)).trans (FR.cell fM103 (by decide))).trans (wI_cell eM101 (by decide))))]
    refine j_aload_n C 1 0 dX12_visit_25 rfl rfl ?_
    refine j_iload_n C 2 1 dX12_visit_26 rfl rfl ?_
    have u113 : bnF (M109.1 99) a1 = bnF (M103.1 99) a1 := by rw [(FR.cell fM109 (by decide))]
    have u114 : bnF (M109.1 99) a1 = bnF (M101.1 99) a1 := by rw [((FR.cell fM109 (by decide)).trans (FR.cell fM103 (by decide)))]
    have u115 : bnF (M109.1 99) a1 = bnF (M0.1 99) a1 := by rw [(((FR.cell fM109 (by decide)).trans (FR.cell fM103 (by decide))).trans (wI_cell eM101 (by decide)))]
    refine j_callVi C (d := 5) (As := [.int (sI a1)]) (st := []) 98 (s_lt rfl rfl) (s_kc (c := 11) rfl rfl) (by decide) rfl (s1_X12_visits hM109 hpr hcw a1 (by exact ⟨ha1.1, ha1.2⟩) (by (clear u115 h111 fM109 hM109 fM103 hM103 pM101 hM101 eM101 hret C hp0 ha1 hcw hpr hM0; omega)) (by (clear u115 u114 u113 u112 h111 fM109 hM109 fM103 hM103 pM101 hM101 eM101 hret C hp0 hcw hpr hM0; omega)) (by exact h111.2)) gX12_visit_X12_visits rfl hdX12_visits (by decide) (Nat.le_of_ble_eq_true rfl) dX12_visit_27 rfl (fun r116 M117 h118 => ?_)
    obtain ⟨a120, rfl, hM117, fM117, h119⟩ := h118
    refine j_istore_n C 3 [(3, .int (sI a120)), (2, .int (sI (wvF (M0.1 99) a1))), (0, .ref (ad 98)), (1, .int (sI a1))] dX12_visit_30 rfl (by decide) rfl ?_
    refine j_aload_n C 2 0 dX12_visit_31 rfl rfl ?_
    refine j_callVv C (d := 0) (As := []) (st := []) 98 (s_lt rfl rfl) (s_kc (c := 11) rfl rfl) (by decide) rfl (s1_X12_notes hM117 hpr (by exact h119.2.2.2.2)) gX12_visit_X12_notes rfl hdX12_notes (by decide) (Nat.le_of_ble_eq_true rfl) dX12_visit_32 rfl (fun M122 h123 => ?_)
    obtain ⟨hM122, fM122, h124⟩ := h123
    refine j_iload_n C 0 3 dX12_visit_35 rfl rfl ?_
    have u125q := nt_q (M := M117) (Mk := M109) (N := M122) (f := M0.1 99) (g := vsS (M0.1 99) a1) (by exact h124.1) (by rw [show M0.1 99 = M103.1 99 from (((FR.cell fM103 (by decide)).trans (wI_cell eM101 (by decide)))).symm]; exact b01_i (b01_e (P := KPN M109 (M103.1 99) 23) (by exact h111.1))) ((FR.cell fM117 (by decide))) ((b01_e (P := M117.1 99 = vsS (M109.1 99) a1) (by exact h119.2.2.2.1)).trans (congrArg (fun q => vsS q a1) ((((FR.cell fM109 (by decide)).trans (FR.cell fM103 (by decide))).trans (wI_cell eM101 (by decide))))))
    have u125k := pu_y (w := wvF (M0.1 99) a1) (a := bnF (M0.1 99) a1) (f := M0.1 99) (g := vsS (M0.1 99) a1) (N := M122.1 99) (by exact h107) u125q
    exact hret _ _ _ _ dX12_visit_36 ⟨a120, rfl, hM122, (((((FR.rf.wI eM101 (by decide)).tr fM103 (by decide)).tr fM109 (by decide)).tr fM117 (by decide)).tr fM122 (by decide)), by exact ⟨(by (clear u125q fM122 hM122 fM117 hM117 u115 h111 fM109 hM109 h107 h105 fM103 hM103 pM101 hM101 eM101 hret C hp0 ha1 hcw hpr hM0; omega)), ⟨h119.2.1, ⟨(by (clear u125q fM122 hM122 fM117 hM117 u115 h111 fM109 hM109 h107 h105 fM103 hM103 pM101 hM101 eM101 hret C hp0 ha1 hcw hpr hM0; omega)), ⟨u125k.1, h124.2⟩⟩⟩⟩⟩
  · refine y_bipush C dX12_visit_16 rfl ?_
    refine j_iload_n C 0 2 dX12_visit_18 rfl rfl ?_
    refine y_isub C dX12_visit_19 ?_
    have u126k := pu_n (w := wvF (M0.1 99) a1) (f := M0.1 99) (N := M103.1 99) (by exact h107) (((FR.cell fM103 (by decide)).trans (wI_cell eM101 (by decide)))) (vsS (M0.1 99) a1) (bnF (M0.1 99) a1)
    exact hret _ _ _ _ dX12_visit_20 ⟨((-10) - (wvF (M0.1 99) a1)), rfl, hM103, ((FR.rf.wI eM101 (by decide)).tr fM103 (by decide)), by exact ⟨(by (clear h107 fM103 hM103 pM101 hM101 eM101 hret C hp0 ha1 hcw hpr hM0; omega)), ⟨(by (clear h107 fM103 hM103 pM101 hM101 eM101 hret C hp0 ha1 hcw hpr hM0; omega)), ⟨u126k.2.symm, ⟨u126k.1, h105.2.2.2.2⟩⟩⟩⟩⟩
set_option maxHeartbeats 4000000 in
theorem s1_X12_whyKind {l : Launch} {dC : Nat → ClassId} {dI : Nat → Nat → Nat} {ad : Nat → Nat} {cA : Nat → ClassId} {pr : Nat → Nat → Bool} {Kz : mm_M} {M0 : mm_M} (hM0 : INV pr Kz M0) (a1 : Int) (ha1 : -9223372036854775808 ≤ a1 ∧ a1 ≤ 9223372036854775807) : Ci l 4 yX12_whyKind wsX12_whyKind dC dI ad cA [.ref (ad 98), .long (sJ a1)] M0 (fun r M' => ∃ a : Int, r = sI a ∧ M0 = M' ∧ 0 ≤ a ∧ a ≤ 2 ∧ (a = (wkF (M0.1 99) a1)) ∧ (a = 0 ∧ 0 ≤ a1 ∧ a1 < (M0.1 99 26).toInt ∧ (M0.1 99 26).toInt ≤ 8 ∨ 1 ≤ a ∧ a ≤ 2)) := by
  refine ci_of (cc := cX12_whyKind) (maxL := 3) (ty := .int) (lv := [(0, .ref (ad 98)), (1, .long (sJ a1))]) (by decide) rfl (fun r M' hp => rfl) (Nat.le_of_ble_eq_true rfl) rfl ?_
  intro p e s m args below meth c A Q C hret
  refine j_aload_n C 0 0 dX12_whyKind_0 rfl rfl ?_
  refine j_lload_n C 1 1 dX12_whyKind_1 rfl rfl ?_
  refine j_callVi C (d := 1) (As := [.long (sJ a1)]) (st := []) 98 (s_lt rfl rfl) (s_kc (c := 11) rfl rfl) (by decide) rfl (s1_X12_isKind hM0 a1 (by exact ⟨ha1.1, ha1.2⟩)) gX12_whyKind_X12_isKind rfl hdX12_isKind (by decide) (Nat.le_of_ble_eq_true rfl) dX12_whyKind_2 rfl (fun r101 M102 h103 => ?_)
  obtain ⟨a105, rfl, rfl, h104⟩ := h103
  refine y_if_ne C 12 dX12_whyKind_5 (by decide) (by omega) (fun h106 => ?_) (fun h106 => ?_)
  · refine j_aload_n C 0 0 dX12_whyKind_12 rfl rfl ?_
    refine j_callVi C (d := 3) (As := []) (st := []) 98 (s_lt rfl rfl) (s_kc (c := 11) rfl rfl) (by decide) rfl (s1_X12_isShut hM0) gX12_whyKind_X12_isShut rfl hdX12_isShut (by decide) (Nat.le_of_ble_eq_true rfl) dX12_whyKind_13 rfl (fun r107 M108 h109 => ?_)
    obtain ⟨a111, rfl, rfl, h110⟩ := h109
    obtain rfl : a111 = (shF (M0.1 99) ((M0.1 99 27).toInt)) := by exact h110.2.2
    refine y_if_eq C 23 dX12_whyKind_16 (by decide) (by omega) (fun h112 => ?_) (fun h112 => ?_)
    · refine y_iconst C dX12_whyKind_23 ?_
      have u113 := wkF_s (M0.1 99) a1
      exact hret _ _ _ _ dX12_whyKind_24 ⟨0, rfl, rfl, by exact ⟨(by decide), ⟨(by decide), ⟨(by (clear h110 hret C hM0; omega)), (by (clear h110 hret C hM0; omega))⟩⟩⟩⟩
    · refine y_iconst C dX12_whyKind_19 ?_
      refine j_goto C 24 dX12_whyKind_20 (by decide) ?_
      have u114 := wkF_s (M0.1 99) a1
      exact hret _ _ _ _ dX12_whyKind_24 ⟨2, rfl, rfl, by exact ⟨(by decide), ⟨(by decide), ⟨(by omega), (by omega)⟩⟩⟩⟩
  · refine y_iconst C dX12_whyKind_8 ?_
    refine j_goto C 24 dX12_whyKind_9 (by decide) ?_
    have u115 := wkF_s (M0.1 99) a1
    exact hret _ _ _ _ dX12_whyKind_24 ⟨1, rfl, rfl, by exact ⟨(by decide), ⟨(by decide), ⟨(by omega), (by omega)⟩⟩⟩⟩
set_option maxHeartbeats 4000000 in
theorem s1_X12_gift {l : Launch} {dC : Nat → ClassId} {dI : Nat → Nat → Nat} {ad : Nat → Nat} {cA : Nat → ClassId} {pr : Nat → Nat → Bool} {Kz : mm_M} {M0 : mm_M} (hM0 : INV pr Kz M0) (hpr : PM pr) (a1 : Int) (ha1 : -2147483648 ≤ a1 ∧ a1 ≤ 2147483647) (hp0 : b01 (PI M0) = 1) : Ci l 5 yX12_gift wsX12_gift dC dI ad cA [.ref (ad 98), .int (sI a1)] M0 (fun r M' => ∃ a : Int, r = sI a ∧ INV pr Kz M' ∧ FR [98, 99, 105] M0 M' ∧ (-2147483648) ≤ a ∧ a ≤ 2147483647 ∧ (a = aI (wkF (M0.1 99) a1) (addI (M0.1 99 30).toInt 1)) ∧ (b01 (M'.1 99 = puI (wkF (M0.1 99) a1) (M0.1 99) (gsS (M0.1 99))) = 1) ∧ (b01 (PI M') = 1)) := by
  refine ci_of (cc := cX12_gift) (maxL := 3) (ty := .int) (lv := [(0, .ref (ad 98)), (1, .int (sI a1))]) (by decide) rfl (fun r M' hp => rfl) (Nat.le_of_ble_eq_true rfl) rfl ?_
  intro p e s m args below meth c A Q C hret
  refine j_aload_n C 0 0 dX12_gift_0 rfl rfl ?_
  refine y_iconst C dX12_gift_1 ?_
  refine y_putIF C 11 qX12_gift_1 rfl rfl ft_11_0 sb_11_0 hM0 (PM.w hpr rfl rfl) dX12_gift_2 (fun M101 eM101 hM101 => ?_)
  have pM101 := pi_o eM101 (by decide) (by decide) (by exact hp0)
  refine j_aload_n C 0 0 dX12_gift_5 rfl rfl ?_
  refine j_iload_n C 1 1 dX12_gift_6 rfl rfl ?_
  refine y_i2l C dX12_gift_7 (by exact ⟨ha1.1, ha1.2⟩) ?_
  refine j_callVi C (d := 4) (As := [.long (sJ a1)]) (st := []) 98 (s_lt rfl rfl) (s_kc (c := 11) rfl rfl) (by decide) rfl (s1_X12_whyKind hM101 a1 (by omega)) gX12_gift_X12_whyKind rfl hdX12_whyKind (by decide) (Nat.le_of_ble_eq_true rfl) dX12_gift_8 rfl (fun r102 M103 h104 => ?_)
  obtain ⟨a106, rfl, rfl, h105⟩ := h104
  rw [show M101.1 99 = M0.1 99 from (wI_cell eM101 (by decide))] at h105
  obtain rfl : a106 = (wkF (M0.1 99) a1) := by exact h105.2.2.1
  refine j_istore_n C 2 [(2, .int (sI (wkF (M0.1 99) a1))), (0, .ref (ad 98)), (1, .int (sI a1))] dX12_gift_11 rfl (by decide) rfl ?_
  refine j_iload_n C 0 2 dX12_gift_12 rfl rfl ?_
  refine y_if_eq C 21 dX12_gift_13 (by decide) (by omega) (fun h107 => ?_) (fun h107 => ?_)
  · refine j_aload_n C 1 0 dX12_gift_21 rfl rfl ?_
    refine j_callVv C (d := 0) (As := []) (st := []) 98 (s_lt rfl rfl) (s_kc (c := 11) rfl rfl) (by decide) rfl (s1_X12_keeps hM101 hpr (by exact pM101)) gX12_gift_X12_keeps rfl hdX12_keeps (by decide) (Nat.le_of_ble_eq_true rfl) dX12_gift_22 rfl (fun M109 h110 => ?_)
    obtain ⟨hM109, fM109, h111⟩ := h110
    refine j_aload_n C 1 0 dX12_gift_25 rfl rfl ?_
    refine y_getC C 11 99 fX12_gift_13 rfl rfl ft_11_1 sm_11_1 rfl hM109 dX12_gift_26 ?_
    refine y_bipush C dX12_gift_29 rfl ?_
    refine j_dup2 C dX12_gift_31 rfl rfl ?_
    refine y_ialdF C 45 3543 rfl rfl rfl ak_45 an_45 rfl dX12_gift_32 (by exact ⟨(by decide), (by decide)⟩) (fun a112 ea112 la112 ua112 => ?_)
    obtain rfl : a112 = (M0.1 99 30).toInt := s_fa eM101 (by decide) (s_fF fM109 (by decide) (ea112))
    refine y_iconst C dX12_gift_33 ?_
    refine e_iadd C dX12_gift_34 (fun lb113 ub113 => ?_)
    refine y_iastH C 45 3543 rfl rfl rfl ak_45 an_45 rfl _ _ hM109 (PM.w hpr rfl (hm_30_30 _ (by exact (by decide)) (by exact (by decide)))) (hs_45_30_30 _ (by exact (by decide)) (by exact (by decide))) dX12_gift_35 (by exact ⟨(by decide), (by decide)⟩) (by exact ⟨⟨lb113, ub113⟩, ⟨lb113, ub113⟩⟩) (fun M114 eM114 hM114 => ?_)
    have pM114 := pi_n eM114 (hn_30_30 _ (by exact (by decide)) (by exact (by decide))) (by exact h111.2)
    refine j_aload_n C 1 0 dX12_gift_36 rfl rfl ?_
    refine j_callVv C (d := 0) (As := []) (st := []) 98 (s_lt rfl rfl) (s_kc (c := 11) rfl rfl) (by decide) rfl (s1_X12_notes hM114 hpr (by exact pM114)) gX12_gift_X12_notes rfl hdX12_notes (by decide) (Nat.le_of_ble_eq_true rfl) dX12_gift_37 rfl (fun M116 h117 => ?_)
    obtain ⟨hM116, fM116, h118⟩ := h117
    refine j_aload_n C 1 0 dX12_gift_40 rfl rfl ?_
    refine y_getC C 11 99 fX12_gift_13 rfl rfl ft_11_1 sm_11_1 rfl hM116 dX12_gift_41 ?_
    refine y_bipush C dX12_gift_44 rfl ?_
    refine y_ialdF C 45 3543 rfl rfl rfl ak_45 an_45 rfl dX12_gift_46 (by exact ⟨(by decide), (by decide)⟩) (fun a119 ea119 la119 ua119 => ?_)
    obtain rfl : a119 = (M116.1 99 30).toInt := ea119
    have u120v : (M116.1 99 30).toInt = addI (M0.1 99 30).toInt 1 := by rw [b01_e (P := M116.1 99 = ntF (M114.1 99) (M114.1 105)) (by exact h118.1), nt_lo (by decide), show M114.1 99 30 = sI (addI (M0.1 99 30).toInt 1) from wI_at eM114]; exact sI_t (sI_r _)
    have u121q := nt_q (M := M114) (Mk := M109) (N := M116) (f := M0.1 99) (g := gsS (M0.1 99)) (by exact h118.1) (by rw [show M0.1 99 = M101.1 99 from ((wI_cell eM101 (by decide))).symm]; exact b01_i (b01_e (P := KPN M109 (M101.1 99) 23) (by exact h111.1))) ((wI_cell eM114 (by decide))) ((uR_w eM114).trans (by rw [(((FR.cell fM109 (by decide)).trans (wI_cell eM101 (by decide))))]; rfl))
    have u121k := pu_y (w := wkF (M0.1 99) a1) (a := addI (M0.1 99 30).toInt 1) (f := M0.1 99) (g := gsS (M0.1 99)) (N := M116.1 99) (by exact h107) u121q
    exact hret _ _ _ _ dX12_gift_47 ⟨(M116.1 99 30).toInt, rfl, hM116, ((((FR.rf.wI eM101 (by decide)).tr fM109 (by decide)).wI eM114 (by decide)).tr fM116 (by decide)), by exact ⟨la119, ⟨ua119, ⟨(by (clear u121q fM116 hM116 pM114 hM114 eM114 ub113 lb113 ua112 la112 ea112 h111 fM109 hM109 h107 h105 pM101 hM101 eM101 hret C hp0 ha1 hpr hM0; omega)), ⟨u121k.1, h118.2⟩⟩⟩⟩⟩
  · refine y_bipush C dX12_gift_16 rfl ?_
    refine j_iload_n C 0 2 dX12_gift_18 rfl rfl ?_
    refine y_isub C dX12_gift_19 ?_
    have u122k := pu_n (w := wkF (M0.1 99) a1) (f := M0.1 99) (N := M101.1 99) (by exact h107) ((wI_cell eM101 (by decide))) (gsS (M0.1 99)) (addI (M0.1 99 30).toInt 1)
    exact hret _ _ _ _ dX12_gift_20 ⟨((-10) - (wkF (M0.1 99) a1)), rfl, hM101, (FR.rf.wI eM101 (by decide)), by exact ⟨(by (clear h107 hM101 eM101 hret C hp0 ha1 hpr hM0; omega)), ⟨(by (clear h107 hM101 eM101 hret C hp0 ha1 hpr hM0; omega)), ⟨u122k.2.symm, ⟨u122k.1, pM101⟩⟩⟩⟩⟩
set_option maxHeartbeats 4000000 in
theorem s1_X12_hide {l : Launch} {dC : Nat → ClassId} {dI : Nat → Nat → Nat} {ad : Nat → Nat} {cA : Nat → ClassId} {pr : Nat → Nat → Bool} {Kz : mm_M} {M0 : mm_M} (hM0 : INV pr Kz M0) (hpr : PM pr) (a1 : Int) (ha1 : -2147483648 ≤ a1 ∧ a1 ≤ 2147483647) (hp0 : b01 (PI M0) = 1) : Ci l 5 yX12_hide wsX12_hide dC dI ad cA [.ref (ad 98), .int (sI a1)] M0 (fun r M' => ∃ a : Int, r = sI a ∧ INV pr Kz M' ∧ FR [98, 99, 105] M0 M' ∧ (-12) ≤ a ∧ a ≤ 1 ∧ (a = aI (wkF (M0.1 99) a1) (andI (shrI (xorI (M0.1 99 28).toInt (pw2 a1)) a1) 1)) ∧ (b01 (M'.1 99 = puI (wkF (M0.1 99) a1) (M0.1 99) (hsS (M0.1 99) a1)) = 1) ∧ (b01 (PI M') = 1)) := by
  refine ci_of (cc := cX12_hide) (maxL := 3) (ty := .int) (lv := [(0, .ref (ad 98)), (1, .int (sI a1))]) (by decide) rfl (fun r M' hp => rfl) (Nat.le_of_ble_eq_true rfl) rfl ?_
  intro p e s m args below meth c A Q C hret
  refine j_aload_n C 0 0 dX12_hide_0 rfl rfl ?_
  refine y_iconst C dX12_hide_1 ?_
  refine y_putIF C 11 qX12_hide_1 rfl rfl ft_11_0 sb_11_0 hM0 (PM.w hpr rfl rfl) dX12_hide_2 (fun M101 eM101 hM101 => ?_)
  have pM101 := pi_o eM101 (by decide) (by decide) (by exact hp0)
  refine j_aload_n C 0 0 dX12_hide_5 rfl rfl ?_
  refine j_iload_n C 1 1 dX12_hide_6 rfl rfl ?_
  refine y_i2l C dX12_hide_7 (by exact ⟨ha1.1, ha1.2⟩) ?_
  refine j_callVi C (d := 4) (As := [.long (sJ a1)]) (st := []) 98 (s_lt rfl rfl) (s_kc (c := 11) rfl rfl) (by decide) rfl (s1_X12_whyKind hM101 a1 (by omega)) gX12_hide_X12_whyKind rfl hdX12_whyKind (by decide) (Nat.le_of_ble_eq_true rfl) dX12_hide_8 rfl (fun r102 M103 h104 => ?_)
  obtain ⟨a106, rfl, rfl, h105⟩ := h104
  rw [show M101.1 99 = M0.1 99 from (wI_cell eM101 (by decide))] at h105
  obtain rfl : a106 = (wkF (M0.1 99) a1) := by exact h105.2.2.1
  refine j_istore_n C 2 [(2, .int (sI (wkF (M0.1 99) a1))), (0, .ref (ad 98)), (1, .int (sI a1))] dX12_hide_11 rfl (by decide) rfl ?_
  refine j_iload_n C 0 2 dX12_hide_12 rfl rfl ?_
  refine y_if_eq C 21 dX12_hide_13 (by decide) (by omega) (fun h107 => ?_) (fun h107 => ?_)
  · refine j_aload_n C 1 0 dX12_hide_21 rfl rfl ?_
    refine j_callVv C (d := 0) (As := []) (st := []) 98 (s_lt rfl rfl) (s_kc (c := 11) rfl rfl) (by decide) rfl (s1_X12_keeps hM101 hpr (by exact pM101)) gX12_hide_X12_keeps rfl hdX12_keeps (by decide) (Nat.le_of_ble_eq_true rfl) dX12_hide_22 rfl (fun M109 h110 => ?_)
    obtain ⟨hM109, fM109, h111⟩ := h110
    refine j_aload_n C 1 0 dX12_hide_25 rfl rfl ?_
    refine y_getC C 11 99 fX12_hide_13 rfl rfl ft_11_1 sm_11_1 rfl hM109 dX12_hide_26 ?_
    refine y_bipush C dX12_hide_29 rfl ?_
    refine j_dup2 C dX12_hide_31 rfl rfl ?_
    refine y_ialdH C 45 3543 rfl rfl rfl ak_45 an_45 rfl _ _ hM109 (hr_45_28_28 _ (by exact (by decide)) (by exact (by decide))) dX12_hide_32 (by exact ⟨(by decide), (by decide)⟩) (fun a112 ea112 la112 ua112 => ?_)
    obtain rfl : a112 = (M0.1 99 28).toInt := s_fa eM101 (by decide) (s_fF fM109 (by decide) (ea112))
    refine y_iconst C dX12_hide_33 ?_
    refine j_iload_n C 2 1 dX12_hide_34 rfl rfl ?_
    refine e_shl1 C 7 128 dX12_hide_35 rfl (by decide) (by (clear ua112 la112 ea112 h111 fM109 hM109 pM101 hM101 eM101 hret C hp0 hpr hM0; omega)) (fun lb113 ub113 => ?_)
    refine e_ixorN C 8 255 dX12_hide_36 rfl (by decide) (by exact ⟨la112, ⟨ua112, ⟨(by (clear h111 fM109 hM109 h107 h105 pM101 hM101 eM101 hret C hp0 ha1 hpr hM0; omega)), (by (clear h111 fM109 hM109 h107 h105 pM101 hM101 eM101 hret C hp0 ha1 hpr hM0; omega))⟩⟩⟩) (fun lb114 ub114 => ?_)
    refine y_iastH C 45 3543 rfl rfl rfl ak_45 an_45 rfl _ _ hM109 (PM.w hpr rfl (hm_28_28 _ (by exact (by decide)) (by exact (by decide)))) (hs_45_28_28 _ (by exact (by decide)) (by exact (by decide))) dX12_hide_37 (by exact ⟨(by decide), (by decide)⟩) (by exact ⟨⟨(by (clear ub113 lb113 ua112 la112 ea112 h111 fM109 hM109 h107 h105 pM101 hM101 eM101 hret C hp0 ha1 hpr hM0; omega)), (by (clear ub113 lb113 ua112 la112 ea112 h111 fM109 hM109 h107 h105 pM101 hM101 eM101 hret C hp0 ha1 hpr hM0; omega))⟩, ⟨lb114, ub114⟩⟩) (fun M115 eM115 hM115 => ?_)
    have pM115 := pi_n eM115 (hn_28_28 _ (by exact (by decide)) (by exact (by decide))) (by exact h111.2)
    refine j_aload_n C 1 0 dX12_hide_38 rfl rfl ?_
    refine j_callVv C (d := 0) (As := []) (st := []) 98 (s_lt rfl rfl) (s_kc (c := 11) rfl rfl) (by decide) rfl (s1_X12_notes hM115 hpr (by exact pM115)) gX12_hide_X12_notes rfl hdX12_notes (by decide) (Nat.le_of_ble_eq_true rfl) dX12_hide_39 rfl (fun M117 h118 => ?_)
    obtain ⟨hM117, fM117, h119⟩ := h118
    refine j_aload_n C 1 0 dX12_hide_42 rfl rfl ?_
    refine y_getC C 11 99 fX12_hide_13 rfl rfl ft_11_1 sm_11_1 rfl hM117 dX12_hide_43 ?_
    refine y_bipush C dX12_hide_46 rfl ?_
    refine y_ialdH C 45 3543 rfl rfl rfl ak_45 an_45 rfl _ _ hM117 (hr_45_28_28 _ (by exact (by decide)) (by exact (by decide))) dX12_hide_48 (by exact ⟨(by decide), (by decide)⟩) (fun a120 ea120 la120 ua120 => ?_)
    obtain rfl : a120 = (M117.1 99 28).toInt := ea120
    have u121v : (M117.1 99 28).toInt = xorI (M0.1 99 28).toInt (pw2 a1) := by rw [b01_e (P := M117.1 99 = ntF (M115.1 99) (M115.1 105)) (by exact h119.1), nt_lo (by decide), show M115.1 99 28 = sI (xorI (M0.1 99 28).toInt (pw2 a1)) from wI_at eM115]; exact sI_t (sI_r _)
    have u121w : andI (shrI (M117.1 99 28).toInt a1) 1 = andI (shrI (xorI (M0.1 99 28).toInt (pw2 a1)) a1) 1 := by rw [u121v]
    refine j_iload_n C 2 1 dX12_hide_49 rfl rfl ?_
    refine e_ishrP C dX12_hide_50 (by exact ⟨la120, (by (clear u121w ua120 la120 h119 fM117 hM117 pM115 hM115 eM115 ub113 lb113 ua112 la112 ea112 h111 fM109 hM109 h107 h105 pM101 hM101 eM101 hret C hp0 ha1 hpr hM0; omega))⟩) (fun lb122 ub122 => ?_)
    refine y_iconst C dX12_hide_51 ?_
    refine e_iandR C dX12_hide_52 (by exact ⟨(by decide), (by decide)⟩) (fun lb123 ub123 => ?_)
    have u124q := nt_q (M := M115) (Mk := M109) (N := M117) (f := M0.1 99) (g := hsS (M0.1 99) a1) (by exact h119.1) (by rw [show M0.1 99 = M101.1 99 from ((wI_cell eM101 (by decide))).symm]; exact b01_i (b01_e (P := KPN M109 (M101.1 99) 23) (by exact h111.1))) ((wI_cell eM115 (by decide))) ((uR_w eM115).trans (by rw [(((FR.cell fM109 (by decide)).trans (wI_cell eM101 (by decide))))]; rfl))
    have u124k := pu_y (w := wkF (M0.1 99) a1) (a := andI (shrI (xorI (M0.1 99 28).toInt (pw2 a1)) a1) 1) (f := M0.1 99) (g := hsS (M0.1 99) a1) (N := M117.1 99) (by exact h107) u124q
    exact hret _ _ _ _ dX12_hide_53 ⟨(andI (shrI (M117.1 99 28).toInt a1) 1), rfl, hM117, ((((FR.rf.wI eM101 (by decide)).tr fM109 (by decide)).wI eM115 (by decide)).tr fM117 (by decide)), by exact ⟨(by (clear u124q ub122 lb122 u121v ua120 la120 fM117 hM117 pM115 hM115 eM115 ub114 lb114 ub113 lb113 ua112 la112 ea112 h111 fM109 hM109 h107 h105 pM101 hM101 eM101 hret C hp0 ha1 hpr hM0; omega)), ⟨ub123, ⟨(by (clear u124q ub122 lb122 u121v ua120 la120 fM117 hM117 pM115 hM115 eM115 ub114 lb114 ub113 lb113 ua112 la112 ea112 h111 fM109 hM109 h107 h105 pM101 hM101 eM101 hret C hp0 ha1 hpr hM0; omega)), ⟨u124k.1, h119.2⟩⟩⟩⟩⟩
  · refine y_bipush C dX12_hide_16 rfl ?_
    refine j_iload_n C 0 2 dX12_hide_18 rfl rfl ?_
    refine y_isub C dX12_hide_19 ?_
    have u125k := pu_n (w := wkF (M0.1 99) a1) (f := M0.1 99) (N := M101.1 99) (by exact h107) ((wI_cell eM101 (by decide))) (hsS (M0.1 99) a1) (andI (shrI (xorI (M0.1 99 28).toInt (pw2 a1)) a1) 1)
    exact hret _ _ _ _ dX12_hide_20 ⟨((-10) - (wkF (M0.1 99) a1)), rfl, hM101, (FR.rf.wI eM101 (by decide)), by exact ⟨(by (clear h107 hM101 eM101 hret C hp0 ha1 hpr hM0; omega)), ⟨(by (clear h107 hM101 eM101 hret C hp0 ha1 hpr hM0; omega)), ⟨u125k.2.symm, ⟨u125k.1, pM101⟩⟩⟩⟩⟩
set_option maxHeartbeats 4000000 in
theorem s1_X12_isPrice {l : Launch} {dC : Nat → ClassId} {dI : Nat → Nat → Nat} {ad : Nat → Nat} {cA : Nat → ClassId} {pr : Nat → Nat → Bool} {Kz : mm_M} {M0 : mm_M} (hM0 : INV pr Kz M0) (a0 : Int) (ha0 : -9223372036854775808 ≤ a0 ∧ a0 ≤ 9223372036854775807) : Ci l 1 yX12_isPrice wsX12_isPrice dC dI ad cA [.long (sJ a0)] M0 (fun r M' => ∃ a : Int, r = sI a ∧ M0 = M' ∧ 0 ≤ a ∧ a ≤ 1 ∧ ((a0 < 1 ∧ 0 ≤ a ∧ a ≤ 0) ∨ (1 ≤ a0 ∧ 99 < a0 ∧ 0 ≤ a ∧ a ≤ 0) ∨ (1 ≤ a0 ∧ a0 ≤ 99 ∧ 1 ≤ a ∧ a ≤ 1))) := by
  refine ci_of (cc := cX12_isPrice) (maxL := 2) (ty := .boolean) (lv := [(0, .long (sJ a0))]) (by decide) rfl (fun r M' hp => by obtain ⟨a, rfl, -, h⟩ := hp; rcases (show a = 0 ∨ a = 1 by omega) with rfl | rfl <;> rfl) (Nat.le_of_ble_eq_true rfl) rfl ?_
  intro p e s m args below meth c A Q C hret
  refine j_lload_n C 0 0 dX12_isPrice_0 rfl rfl ?_
  refine y_lconst C 1 dX12_isPrice_1 rfl ?_
  refine y_ldc2 C 99 dX12_isPrice_2 kX12_isPrice_263 rfl ?_
  refine j_callSi C (d := 0) (As := [.long (sJ a0), .long (sJ 1), .long (sJ 99)]) (st := []) (s1_X12_within hM0 a0 (by exact ⟨ha0.1, ha0.2⟩) 1 (by exact ⟨(by decide), (by decide)⟩) 99 (by exact ⟨(by decide), (by decide)⟩)) gX12_isPrice_X12_within rfl hdX12_withins (by decide) (Nat.le_of_ble_eq_true rfl) dX12_isPrice_5 rfl (fun r101 M102 h103 => ?_)
  obtain ⟨a105, rfl, rfl, h104⟩ := h103
  exact hret _ _ _ _ dX12_isPrice_8 ⟨a105, rfl, rfl, by exact ⟨h104.1, ⟨h104.2.1, (by omega)⟩⟩⟩
set_option maxHeartbeats 4000000 in
theorem s1_X12_add {l : Launch} {dC : Nat → ClassId} {dI : Nat → Nat → Nat} {ad : Nat → Nat} {cA : Nat → ClassId} {pr : Nat → Nat → Bool} {Kz : mm_M} {M0 : mm_M} (hM0 : INV pr Kz M0) (hpr : PM pr) (a1 : Int) (ha1 : -2147483648 ≤ a1 ∧ a1 ≤ 2147483647) (a2 : Int) (ha2 : -2147483648 ≤ a2 ∧ a2 ≤ 2147483647) (hp0 : b01 (PI M0) = 1) : Ci l 4 yX12_add wsX12_add dC dI ad cA [.ref (ad 98), .int (sI a1), .int (sI a2)] M0 (fun r M' => ∃ a : Int, r = sI a ∧ INV pr Kz M' ∧ FR [98, 99, 105] M0 M' ∧ (-13) ≤ a ∧ a ≤ 7 ∧ (a = aI (waF (M0.1 99) a1 a2) ((M0.1 99 26).toInt)) ∧ (b01 (M'.1 99 = puI (waF (M0.1 99) a1 a2) (M0.1 99) (asS (M0.1 99) a1 a2)) = 1) ∧ (b01 (PI M') = 1)) := by
  refine ci_of (cc := cX12_add) (maxL := 4) (ty := .int) (lv := [(0, .ref (ad 98)), (1, .int (sI a1)), (2, .int (sI a2))]) (by decide) rfl (fun r M' hp => rfl) (Nat.le_of_ble_eq_true rfl) rfl ?_
  intro p e s m args below meth c A Q C hret
  refine j_aload_n C 0 0 dX12_add_0 rfl rfl ?_
  refine y_iconst C dX12_add_1 ?_
  refine y_putIF C 11 qX12_add_1 rfl rfl ft_11_0 sb_11_0 hM0 (PM.w hpr rfl rfl) dX12_add_2 (fun M101 eM101 hM101 => ?_)
  have pM101 := pi_o eM101 (by decide) (by decide) (by exact hp0)
  refine j_iload_n C 1 1 dX12_add_5 rfl rfl ?_
  refine y_i2l C dX12_add_6 (by exact ⟨ha1.1, ha1.2⟩) ?_
  refine j_callSi C (d := 1) (As := [.long (sJ a1)]) (st := []) (s1_X12_isPrice hM101 a1 (by omega)) gX12_add_X12_isPrice rfl hdX12_isPrices (by decide) (Nat.le_of_ble_eq_true rfl) dX12_add_7 rfl (fun r102 M103 h104 => ?_)
  obtain ⟨a106, rfl, rfl, h105⟩ := h104
  refine y_if_eq C 25 dX12_add_10 (by decide) (by omega) (fun h107 => ?_) (fun h107 => ?_)
  · refine y_bipush C dX12_add_25 rfl ?_
    have u108wa := waF_s (M0.1 99) a1 a2
    have u108k := pu_n (w := waF (M0.1 99) a1 a2) (f := M0.1 99) (N := M101.1 99) (by (clear pM101 hM101 eM101 hret C hp0 ha2 hpr hM0; omega)) ((wI_cell eM101 (by decide))) (asS (M0.1 99) a1 a2) ((M0.1 99 26).toInt)
    exact hret _ _ _ _ dX12_add_27 ⟨(-11), rfl, hM101, (FR.rf.wI eM101 (by decide)), by exact ⟨(by decide), ⟨(by decide), ⟨(by (clear hM101 eM101 hret C hp0 ha2 hpr hM0; omega)), ⟨u108k.1, pM101⟩⟩⟩⟩⟩
  · refine j_iload_n C 2 2 dX12_add_13 rfl rfl ?_
    refine y_i2l C dX12_add_14 (by exact ⟨ha2.1, ha2.2⟩) ?_
    refine y_lconst C 0 dX12_add_15 rfl ?_
    refine y_ldc2 C 9 dX12_add_16 kX12_add_291 rfl ?_
    refine j_callSi C (d := 0) (As := [.long (sJ a2), .long (sJ 0), .long (sJ 9)]) (st := []) (s1_X12_within hM101 a2 (by omega) 0 (by exact ⟨(by decide), (by decide)⟩) 9 (by exact ⟨(by decide), (by decide)⟩)) gX12_add_X12_within rfl hdX12_withins (by decide) (Nat.le_of_ble_eq_true rfl) dX12_add_19 rfl (fun r109 M110 h111 => ?_)
    obtain ⟨a113, rfl, rfl, h112⟩ := h111
    refine y_if_ne C 28 dX12_add_22 (by decide) (by omega) (fun h114 => ?_) (fun h114 => ?_)
    · refine j_aload_n C 0 0 dX12_add_28 rfl rfl ?_
      refine j_callVi C (d := 3) (As := []) (st := []) 98 (s_lt rfl rfl) (s_kc (c := 11) rfl rfl) (by decide) rfl (s1_X12_isShut hM101) gX12_add_X12_isShut rfl hdX12_isShut (by decide) (Nat.le_of_ble_eq_true rfl) dX12_add_29 rfl (fun r115 M116 h117 => ?_)
      obtain ⟨a119, rfl, rfl, h118⟩ := h117
      rw [show M101.1 99 = M0.1 99 from (wI_cell eM101 (by decide))] at h118
      obtain rfl : a119 = (shF (M0.1 99) ((M0.1 99 27).toInt)) := by exact h118.2.2
      refine y_if_eq C 38 dX12_add_32 (by decide) (by omega) (fun h120 => ?_) (fun h120 => ?_)
      · refine j_aload_n C 0 0 dX12_add_38 rfl rfl ?_
        refine y_getC C 11 99 fX12_add_13 rfl rfl ft_11_1 sm_11_1 rfl hM101 dX12_add_39 ?_
        refine y_bipush C dX12_add_42 rfl ?_
        refine y_ialdH C 45 3543 rfl rfl rfl ak_45 an_45 rfl _ _ hM101 (hr_45_26_26 _ (by exact (by decide)) (by exact (by decide))) dX12_add_44 (by exact ⟨(by decide), (by decide)⟩) (fun a121 ea121 la121 ua121 => ?_)
        obtain rfl : a121 = (M0.1 99 26).toInt := s_fa eM101 (by decide) (ea121)
        refine y_bipush C dX12_add_45 rfl ?_
        refine y_icmp_ne C 53 dX12_add_47 (by decide) (by exact ⟨⟨(by (clear h120 h118 h114 h112 h107 h105 pM101 hM101 eM101 hret C hp0 ha2 ha1 hpr hM0; omega)), (by (clear h120 h118 h114 h112 h107 h105 pM101 hM101 eM101 hret C hp0 ha2 ha1 hpr hM0; omega))⟩, ⟨(by decide), (by decide)⟩⟩) (fun h122 => ?_) (fun h122 => ?_)
        · refine j_aload_n C 0 0 dX12_add_53 rfl rfl ?_
          refine j_callVv C (d := 0) (As := []) (st := []) 98 (s_lt rfl rfl) (s_kc (c := 11) rfl rfl) (by decide) rfl (s1_X12_keeps hM101 hpr (by exact pM101)) gX12_add_X12_keeps rfl hdX12_keeps (by decide) (Nat.le_of_ble_eq_true rfl) dX12_add_54 rfl (fun M124 h125 => ?_)
          obtain ⟨hM124, fM124, h126⟩ := h125
          refine j_aload_n C 0 0 dX12_add_57 rfl rfl ?_
          refine y_getC C 11 99 fX12_add_13 rfl rfl ft_11_1 sm_11_1 rfl hM124 dX12_add_58 ?_
          refine y_bipush C dX12_add_61 rfl ?_
          refine y_ialdH C 45 3543 rfl rfl rfl ak_45 an_45 rfl _ _ hM124 (hr_45_26_26 _ (by exact (by decide)) (by exact (by decide))) dX12_add_63 (by exact ⟨(by decide), (by decide)⟩) (fun a127 ea127 la127 ua127 => ?_)
          obtain rfl : a127 = (M0.1 99 26).toInt := s_fa eM101 (by decide) (s_fF fM124 (by decide) (ea127))
          refine j_istore_n C 3 [(3, .int (sI (M0.1 99 26).toInt)), (0, .ref (ad 98)), (1, .int (sI a1)), (2, .int (sI a2))] dX12_add_64 rfl (by decide) rfl ?_
          refine j_aload_n C 1 0 dX12_add_65 rfl rfl ?_
          refine y_getC C 11 99 fX12_add_13 rfl rfl ft_11_1 sm_11_1 rfl hM124 dX12_add_66 ?_
          refine y_bipush C dX12_add_69 rfl ?_
          refine j_dup2 C dX12_add_71 rfl rfl ?_
          refine y_ialdH C 45 3543 rfl rfl rfl ak_45 an_45 rfl _ _ hM124 (hr_45_26_26 _ (by exact (by decide)) (by exact (by decide))) dX12_add_72 (by exact ⟨(by decide), (by decide)⟩) (fun a128 ea128 la128 ua128 => ?_)
          obtain rfl : a128 = (M0.1 99 26).toInt := s_fa eM101 (by decide) (s_fF fM124 (by decide) (ea128))
          refine y_iconst C dX12_add_73 ?_
          refine y_iadd C dX12_add_74 ?_
          have u129 : (M124.1 99 26).toInt = (M0.1 99 26).toInt := by rw [(show M124.1 99 = M0.1 99 from ((FR.cell fM124 (by decide)).trans (wI_cell eM101 (by decide))))]
          refine y_iastH C 45 3543 rfl rfl rfl ak_45 an_45 rfl _ _ hM124 (PM.w hpr rfl (hm_26_26 _ (by exact (by decide)) (by exact (by decide)))) (hs_45_26_26 _ (by exact (by decide)) (by exact (by decide))) dX12_add_75 (by exact ⟨(by decide), (by decide)⟩) (by (clear ua128 la128 ea128 ua127 la127 h126 fM124 hM124 h120 h118 h114 h112 h107 h105 pM101 hM101 eM101 hret C hp0 ha2 ha1 hpr hM0; omega)) (fun M130 eM130 hM130 => ?_)
          have pM130 : b01 (PI M130) = 1 := pi_k eM130 (by exact h126.2) (by (clear hM130 eM130 ua128 la128 ea128 ua127 la127 h126 fM124 hM124 h122 h120 h118 h114 h112 h107 h105 pM101 hM101 eM101 hret C hp0 ha2 ha1 hpr hM0; omega))
          refine j_aload_n C 1 0 dX12_add_76 rfl rfl ?_
          refine y_getC C 11 99 fX12_add_13 rfl rfl ft_11_1 sm_11_1 rfl hM130 dX12_add_77 ?_
          refine y_bipush C dX12_add_80 rfl ?_
          refine j_iload_n C 0 3 dX12_add_82 rfl rfl ?_
          refine y_iadd C dX12_add_83 ?_
          refine j_iload_n C 2 1 dX12_add_84 rfl rfl ?_
          refine y_iastH C 45 3543 rfl rfl rfl ak_45 an_45 rfl _ _ hM130 (PM.w hpr rfl (hm_33_40 _ (by (clear pM130 hM130 eM130 ua128 la128 ea128 ua127 la127 h126 fM124 hM124 h120 h118 h114 h112 h107 h105 pM101 hM101 eM101 hret C hp0 ha2 ha1 hpr hM0; omega)) (by (clear pM130 hM130 eM130 ua128 la128 ea128 ua127 la127 h126 fM124 hM124 h122 h120 h118 h114 h112 h107 h105 pM101 hM101 eM101 hret C hp0 ha2 ha1 hpr hM0; omega)))) (hs_45_33_40 _ (by (clear pM130 hM130 eM130 ua128 la128 ea128 ua127 la127 h126 fM124 hM124 h120 h118 h114 h112 h107 h105 pM101 hM101 eM101 hret C hp0 ha2 ha1 hpr hM0; omega)) (by omega)) dX12_add_85 (by (clear pM130 hM130 eM130 ua128 la128 ea128 ua127 la127 h126 fM124 hM124 h122 h120 h118 h114 h112 h107 h105 pM101 hM101 eM101 hret C hp0 ha2 ha1 hpr hM0; omega)) (by exact ⟨⟨ha1.1, ha1.2⟩, ⟨ha1.1, ha1.2⟩⟩) (fun M131 eM131 hM131 => ?_)
          have pM131 := pi_n eM131 (hn_33_40 _ (by (clear hM131 eM131 pM130 hM130 eM130 ua128 la128 ea128 ua127 la127 h126 fM124 hM124 h120 h118 h114 h112 h107 h105 pM101 hM101 eM101 hret C hp0 ha2 ha1 hpr hM0; omega)) (by omega)) (by exact pM130)
          refine j_aload_n C 1 0 dX12_add_86 rfl rfl ?_
          refine y_getC C 11 99 fX12_add_13 rfl rfl ft_11_1 sm_11_1 rfl hM131 dX12_add_87 ?_
          refine y_bipush C dX12_add_90 rfl ?_
          refine j_iload_n C 0 3 dX12_add_92 rfl rfl ?_
          refine y_iadd C dX12_add_93 ?_
          refine j_iload_n C 3 2 dX12_add_94 rfl rfl ?_
          refine y_iastH C 45 3543 rfl rfl rfl ak_45 an_45 rfl _ _ hM131 (PM.w hpr rfl (hm_41_48 _ (by (clear pM131 hM131 eM131 pM130 hM130 eM130 ua128 la128 ea128 ua127 la127 h126 fM124 hM124 h120 h118 h114 h112 h107 h105 pM101 hM101 eM101 hret C hp0 ha2 ha1 hpr hM0; omega)) (by (clear pM131 hM131 eM131 pM130 hM130 eM130 ua128 la128 ea128 ua127 la127 h126 fM124 hM124 h122 h120 h118 h114 h112 h107 h105 pM101 hM101 eM101 hret C hp0 ha2 ha1 hpr hM0; omega)))) (hs_45_41_48 _ (by (clear pM131 hM131 eM131 pM130 hM130 eM130 ua128 la128 ea128 ua127 la127 h126 fM124 hM124 h120 h118 h114 h112 h107 h105 pM101 hM101 eM101 hret C hp0 ha2 ha1 hpr hM0; omega)) (by omega)) dX12_add_95 (by (clear pM131 hM131 eM131 pM130 hM130 eM130 ua128 la128 ea128 ua127 la127 h126 fM124 hM124 h122 h120 h118 h114 h112 h107 h105 pM101 hM101 eM101 hret C hp0 ha2 ha1 hpr hM0; omega)) (by exact ⟨⟨ha2.1, ha2.2⟩, ⟨ha2.1, ha2.2⟩⟩) (fun M132 eM132 hM132 => ?_)
          have pM132 := pi_n eM132 (hn_41_48 _ (by (clear hM132 eM132 pM131 hM131 eM131 pM130 hM130 eM130 ua128 la128 ea128 ua127 la127 h126 fM124 hM124 h120 h118 h114 h112 h107 h105 pM101 hM101 eM101 hret C hp0 ha2 ha1 hpr hM0; omega)) (by omega)) (by exact pM131)
          refine j_aload_n C 1 0 dX12_add_96 rfl rfl ?_
          refine j_callVv C (d := 0) (As := []) (st := []) 98 (s_lt rfl rfl) (s_kc (c := 11) rfl rfl) (by decide) rfl (s1_X12_notes hM132 hpr (by exact pM132)) gX12_add_X12_notes rfl hdX12_notes (by decide) (Nat.le_of_ble_eq_true rfl) dX12_add_97 rfl (fun M134 h135 => ?_)
          obtain ⟨hM134, fM134, h136⟩ := h135
          refine j_iload_n C 0 3 dX12_add_100 rfl rfl ?_
          have u137wa := waF_s (M0.1 99) a1 a2
          have u137q := nt_q (M := M132) (Mk := M124) (N := M134) (f := M0.1 99) (g := asS (M0.1 99) a1 a2) (by exact h136.1) (by rw [show M0.1 99 = M101.1 99 from ((wI_cell eM101 (by decide))).symm]; exact b01_i (b01_e (P := KPN M124 (M101.1 99) 23) (by exact h126.1))) ((((wI_cell eM132 (by decide)).trans (wI_cell eM131 (by decide))).trans (wI_cell eM130 (by decide)))) (as_w (M := M124) (((FR.cell fM124 (by decide)).trans (wI_cell eM101 (by decide)))) eM130 eM131 eM132)
          have u137k := pu_y (w := waF (M0.1 99) a1 a2) (a := (M0.1 99 26).toInt) (f := M0.1 99) (g := asS (M0.1 99) a1 a2) (N := M134.1 99) (by (clear u137q h136 fM134 hM134 pM132 hM132 eM132 pM131 hM131 eM131 pM130 hM130 eM130 ua128 la128 ea128 ua127 la127 h126 fM124 hM124 h118 pM101 hM101 eM101 hret C hp0 hpr hM0; omega)) u137q
          exact hret _ _ _ _ dX12_add_101 ⟨(M0.1 99 26).toInt, rfl, hM134, ((((((FR.rf.wI eM101 (by decide)).tr fM124 (by decide)).wI eM130 (by decide)).wI eM131 (by decide)).wI eM132 (by decide)).tr fM134 (by decide)), by exact ⟨(by (clear u137q fM134 hM134 pM132 hM132 eM132 pM131 hM131 eM131 pM130 hM130 eM130 ua128 la128 ea128 ua127 la127 h126 fM124 hM124 h118 h114 h112 h107 h105 pM101 hM101 eM101 hret C hp0 ha2 ha1 hpr hM0; omega)), ⟨(by (clear u137q fM134 hM134 pM132 hM132 eM132 pM131 hM131 eM131 pM130 hM130 eM130 ua128 la128 ea128 ua127 la127 h126 fM124 hM124 h118 h114 h112 h107 h105 pM101 hM101 eM101 hret C hp0 ha2 ha1 hpr hM0; omega)), ⟨u137k.2.symm, ⟨u137k.1, h136.2⟩⟩⟩⟩⟩
        · refine y_bipush C dX12_add_50 rfl ?_
          have u138wa := waF_s (M0.1 99) a1 a2
          have u138k := pu_n (w := waF (M0.1 99) a1 a2) (f := M0.1 99) (N := M101.1 99) (by (clear ua121 la121 h118 h114 h112 h107 h105 pM101 hM101 eM101 hret C hp0 ha2 ha1 hpr hM0; omega)) ((wI_cell eM101 (by decide))) (asS (M0.1 99) a1 a2) ((M0.1 99 26).toInt)
          exact hret _ _ _ _ dX12_add_52 ⟨(-13), rfl, hM101, (FR.rf.wI eM101 (by decide)), by exact ⟨(by decide), ⟨(by decide), ⟨(by (clear ua121 la121 h118 hM101 eM101 hret C hp0 hpr hM0; omega)), ⟨u138k.1, pM101⟩⟩⟩⟩⟩
      · refine y_bipush C dX12_add_35 rfl ?_
        have u139wa := waF_s (M0.1 99) a1 a2
        have u139k := pu_n (w := waF (M0.1 99) a1 a2) (f := M0.1 99) (N := M101.1 99) (by (clear h114 h112 h107 h105 pM101 hM101 eM101 hret C hp0 ha2 ha1 hpr hM0; omega)) ((wI_cell eM101 (by decide))) (asS (M0.1 99) a1 a2) ((M0.1 99 26).toInt)
        exact hret _ _ _ _ dX12_add_37 ⟨(-12), rfl, hM101, (FR.rf.wI eM101 (by decide)), by exact ⟨(by decide), ⟨(by decide), ⟨(by (clear hM101 eM101 hret C hp0 hpr hM0; omega)), ⟨u139k.1, pM101⟩⟩⟩⟩⟩
    · refine y_bipush C dX12_add_25 rfl ?_
      have u140wa := waF_s (M0.1 99) a1 a2
      have u140k := pu_n (w := waF (M0.1 99) a1 a2) (f := M0.1 99) (N := M101.1 99) (by (clear h107 h105 pM101 hM101 eM101 hret C hp0 ha1 hpr hM0; omega)) ((wI_cell eM101 (by decide))) (asS (M0.1 99) a1 a2) ((M0.1 99 26).toInt)
      exact hret _ _ _ _ dX12_add_27 ⟨(-11), rfl, hM101, (FR.rf.wI eM101 (by decide)), by exact ⟨(by decide), ⟨(by decide), ⟨(by (clear h107 h105 hM101 eM101 hret C hp0 ha1 hpr hM0; omega)), ⟨u140k.1, pM101⟩⟩⟩⟩⟩
set_option maxHeartbeats 4000000 in
theorem s1_X12_whyPrice {l : Launch} {dC : Nat → ClassId} {dI : Nat → Nat → Nat} {ad : Nat → Nat} {cA : Nat → ClassId} {pr : Nat → Nat → Bool} {Kz : mm_M} {M0 : mm_M} (hM0 : INV pr Kz M0) (a1 : Int) (ha1 : -9223372036854775808 ≤ a1 ∧ a1 ≤ 9223372036854775807) (a3 : Int) (ha3 : -9223372036854775808 ≤ a3 ∧ a3 ≤ 9223372036854775807) : Ci l 4 yX12_whyPrice wsX12_whyPrice dC dI ad cA [.ref (ad 98), .long (sJ a1), .long (sJ a3)] M0 (fun r M' => ∃ a : Int, r = sI a ∧ M0 = M' ∧ 0 ≤ a ∧ a ≤ 2 ∧ (a = (wpF (M0.1 99) a1 a3)) ∧ (a = 0 ∧ 0 ≤ a1 ∧ a1 < (M0.1 99 26).toInt ∧ (M0.1 99 26).toInt ≤ 8 ∧ 1 ≤ a3 ∧ a3 ≤ 99 ∨ 1 ≤ a ∧ a ≤ 2)) := by
  refine ci_of (cc := cX12_whyPrice) (maxL := 5) (ty := .int) (lv := [(0, .ref (ad 98)), (1, .long (sJ a1)), (3, .long (sJ a3))]) (by decide) rfl (fun r M' hp => rfl) (Nat.le_of_ble_eq_true rfl) rfl ?_
  intro p e s m args below meth c A Q C hret
  refine j_aload_n C 0 0 dX12_whyPrice_0 rfl rfl ?_
  refine j_lload_n C 1 1 dX12_whyPrice_1 rfl rfl ?_
  refine j_callVi C (d := 1) (As := [.long (sJ a1)]) (st := []) 98 (s_lt rfl rfl) (s_kc (c := 11) rfl rfl) (by decide) rfl (s1_X12_isKind hM0 a1 (by exact ⟨ha1.1, ha1.2⟩)) gX12_whyPrice_X12_isKind rfl hdX12_isKind (by decide) (Nat.le_of_ble_eq_true rfl) dX12_whyPrice_2 rfl (fun r101 M102 h103 => ?_)
  obtain ⟨a105, rfl, rfl, h104⟩ := h103
  refine y_if_eq C 15 dX12_whyPrice_5 (by decide) (by omega) (fun h106 => ?_) (fun h106 => ?_)
  · refine y_iconst C dX12_whyPrice_15 ?_
    refine j_goto C 31 dX12_whyPrice_16 (by decide) ?_
    have u107 := wpF_s (M0.1 99) a1 a3
    exact hret _ _ _ _ dX12_whyPrice_31 ⟨1, rfl, rfl, by exact ⟨(by decide), ⟨(by decide), ⟨(by (clear hret C ha3 hM0; omega)), (by (clear hret C ha3 hM0; omega))⟩⟩⟩⟩
  · refine j_lload_n C 2 3 dX12_whyPrice_8 rfl rfl ?_
    refine j_callSi C (d := 1) (As := [.long (sJ a3)]) (st := []) (s1_X12_isPrice hM0 a3 (by exact ⟨ha3.1, ha3.2⟩)) gX12_whyPrice_X12_isPrice rfl hdX12_isPrices (by decide) (Nat.le_of_ble_eq_true rfl) dX12_whyPrice_9 rfl (fun r108 M109 h110 => ?_)
    obtain ⟨a112, rfl, rfl, h111⟩ := h110
    refine y_if_ne C 19 dX12_whyPrice_12 (by decide) (by omega) (fun h113 => ?_) (fun h113 => ?_)
    · refine j_aload_n C 0 0 dX12_whyPrice_19 rfl rfl ?_
      refine j_callVi C (d := 3) (As := []) (st := []) 98 (s_lt rfl rfl) (s_kc (c := 11) rfl rfl) (by decide) rfl (s1_X12_isShut hM0) gX12_whyPrice_X12_isShut rfl hdX12_isShut (by decide) (Nat.le_of_ble_eq_true rfl) dX12_whyPrice_20 rfl (fun r114 M115 h116 => ?_)
      obtain ⟨a118, rfl, rfl, h117⟩ := h116
      obtain rfl : a118 = (shF (M0.1 99) ((M0.1 99 27).toInt)) := by exact h117.2.2
      refine y_if_eq C 30 dX12_whyPrice_23 (by decide) (by omega) (fun h119 => ?_) (fun h119 => ?_)
      · refine y_iconst C dX12_whyPrice_30 ?_
        have u120 := wpF_s (M0.1 99) a1 a3
        exact hret _ _ _ _ dX12_whyPrice_31 ⟨0, rfl, rfl, by exact ⟨(by decide), ⟨(by decide), ⟨(by (clear h117 hret C hM0; omega)), (by (clear h117 hret C hM0; omega))⟩⟩⟩⟩
      · refine y_iconst C dX12_whyPrice_26 ?_
        refine j_goto C 31 dX12_whyPrice_27 (by decide) ?_
        have u121 := wpF_s (M0.1 99) a1 a3
        exact hret _ _ _ _ dX12_whyPrice_31 ⟨2, rfl, rfl, by exact ⟨(by decide), ⟨(by decide), ⟨(by omega), (by omega)⟩⟩⟩⟩
    · refine y_iconst C dX12_whyPrice_15 ?_
      refine j_goto C 31 dX12_whyPrice_16 (by decide) ?_
      have u122 := wpF_s (M0.1 99) a1 a3
      exact hret _ _ _ _ dX12_whyPrice_31 ⟨1, rfl, rfl, by exact ⟨(by decide), ⟨(by decide), ⟨(by (clear h106 h104 hret C ha1 hM0; omega)), (by (clear h106 h104 hret C ha1 hM0; omega))⟩⟩⟩⟩
set_option maxHeartbeats 4000000 in
theorem s1_X12_price {l : Launch} {dC : Nat → ClassId} {dI : Nat → Nat → Nat} {ad : Nat → Nat} {cA : Nat → ClassId} {pr : Nat → Nat → Bool} {Kz : mm_M} {M0 : mm_M} (hM0 : INV pr Kz M0) (hpr : PM pr) (a1 : Int) (ha1 : -2147483648 ≤ a1 ∧ a1 ≤ 2147483647) (a2 : Int) (ha2 : -2147483648 ≤ a2 ∧ a2 ≤ 2147483647) (hp0 : b01 (PI M0) = 1) : Ci l 5 yX12_price wsX12_price dC dI ad cA [.ref (ad 98), .int (sI a1), .int (sI a2)] M0 (fun r M' => ∃ a : Int, r = sI a ∧ INV pr Kz M' ∧ FR [98, 99, 105] M0 M' ∧ (-2147483648) ≤ a ∧ a ≤ 2147483647 ∧ (a = aI (wpF (M0.1 99) a1 a2) ((M0.1 99 (33 + a1).toNat).toInt)) ∧ (b01 (M'.1 99 = puI (wpF (M0.1 99) a1 a2) (M0.1 99) (psS (M0.1 99) a1 a2)) = 1) ∧ (b01 (PI M') = 1)) := by
  refine ci_of (cc := cX12_price) (maxL := 4) (ty := .int) (lv := [(0, .ref (ad 98)), (1, .int (sI a1)), (2, .int (sI a2))]) (by decide) rfl (fun r M' hp => rfl) (Nat.le_of_ble_eq_true rfl) rfl ?_
  intro p e s m args below meth c A Q C hret
  refine j_aload_n C 0 0 dX12_price_0 rfl rfl ?_
  refine y_iconst C dX12_price_1 ?_
  refine y_putIF C 11 qX12_price_1 rfl rfl ft_11_0 sb_11_0 hM0 (PM.w hpr rfl rfl) dX12_price_2 (fun M101 eM101 hM101 => ?_)
  have pM101 := pi_o eM101 (by decide) (by decide) (by exact hp0)
  refine j_aload_n C 0 0 dX12_price_5 rfl rfl ?_
  refine j_iload_n C 1 1 dX12_price_6 rfl rfl ?_
  refine y_i2l C dX12_price_7 (by exact ⟨ha1.1, ha1.2⟩) ?_
  refine j_iload_n C 2 2 dX12_price_8 rfl rfl ?_
  refine y_i2l C dX12_price_9 (by exact ⟨ha2.1, ha2.2⟩) ?_
  refine j_callVi C (d := 4) (As := [.long (sJ a1), .long (sJ a2)]) (st := []) 98 (s_lt rfl rfl) (s_kc (c := 11) rfl rfl) (by decide) rfl (s1_X12_whyPrice hM101 a1 (by omega) a2 (by omega)) gX12_price_X12_whyPrice rfl hdX12_whyPrice (by decide) (Nat.le_of_ble_eq_true rfl) dX12_price_10 rfl (fun r102 M103 h104 => ?_)
  obtain ⟨a106, rfl, rfl, h105⟩ := h104
  rw [show M101.1 99 = M0.1 99 from (wI_cell eM101 (by decide))] at h105
  obtain rfl : a106 = (wpF (M0.1 99) a1 a2) := by exact h105.2.2.1
  refine j_istore_n C 3 [(3, .int (sI (wpF (M0.1 99) a1 a2))), (0, .ref (ad 98)), (1, .int (sI a1)), (2, .int (sI a2))] dX12_price_13 rfl (by decide) rfl ?_
  refine j_iload_n C 0 3 dX12_price_14 rfl rfl ?_
  refine y_if_eq C 23 dX12_price_15 (by decide) (by omega) (fun h107 => ?_) (fun h107 => ?_)
  · refine j_aload_n C 1 0 dX12_price_23 rfl rfl ?_
    refine j_callVv C (d := 0) (As := []) (st := []) 98 (s_lt rfl rfl) (s_kc (c := 11) rfl rfl) (by decide) rfl (s1_X12_keeps hM101 hpr (by exact pM101)) gX12_price_X12_keeps rfl hdX12_keeps (by decide) (Nat.le_of_ble_eq_true rfl) dX12_price_24 rfl (fun M109 h110 => ?_)
    obtain ⟨hM109, fM109, h111⟩ := h110
    refine j_aload_n C 1 0 dX12_price_27 rfl rfl ?_
    refine y_getC C 11 99 fX12_price_13 rfl rfl ft_11_1 sm_11_1 rfl hM109 dX12_price_28 ?_
    refine y_bipush C dX12_price_31 rfl ?_
    refine j_iload_n C 2 1 dX12_price_33 rfl rfl ?_
    refine y_iadd C dX12_price_34 ?_
    refine j_iload_n C 3 2 dX12_price_35 rfl rfl ?_
    refine y_iastH C 45 3543 rfl rfl rfl ak_45 an_45 rfl _ _ hM109 (PM.w hpr rfl (hm_33_40 _ (by (clear h111 fM109 hM109 pM101 hM101 eM101 hret C hp0 ha2 hpr hM0; omega)) (by (clear h111 fM109 hM109 pM101 hM101 eM101 hret C hp0 ha2 hpr hM0; omega)))) (hs_45_33_40 _ (by omega) (by omega)) dX12_price_36 (by (clear h111 fM109 hM109 pM101 hM101 eM101 hret C hp0 ha2 hpr hM0; omega)) (by exact ⟨⟨ha2.1, ha2.2⟩, ⟨ha2.1, ha2.2⟩⟩) (fun M112 eM112 hM112 => ?_)
    have pM112 := pi_n eM112 (hn_33_40 _ (by omega) (by omega)) (by exact h111.2)
    refine j_aload_n C 1 0 dX12_price_37 rfl rfl ?_
    refine j_callVv C (d := 0) (As := []) (st := []) 98 (s_lt rfl rfl) (s_kc (c := 11) rfl rfl) (by decide) rfl (s1_X12_notes hM112 hpr (by exact pM112)) gX12_price_X12_notes rfl hdX12_notes (by decide) (Nat.le_of_ble_eq_true rfl) dX12_price_38 rfl (fun M114 h115 => ?_)
    obtain ⟨hM114, fM114, h116⟩ := h115
    have u117w : (M114.1 105 (7 + a1).toNat).toInt = (M0.1 99 (33 + a1).toNat).toInt := by rw [show M114.1 105 = M109.1 105 from (((FR.cell fM114 (by decide)).trans (wI_cell eM112 (by decide)))), b01_e (P := KPN M109 (M101.1 99) 23) (by exact h111.1) (7 + a1).toNat (by (clear h116 fM114 hM114 pM112 hM112 eM112 h111 fM109 hM109 pM101 hM101 eM101 hret C hp0 ha2 hpr hM0; omega)), show M101.1 99 = M0.1 99 from ((wI_cell eM101 (by decide))), show 26 + (7 + a1).toNat = (33 + a1).toNat by (clear h116 fM114 hM114 pM112 hM112 eM112 h111 fM109 hM109 pM101 hM101 eM101 hret C hp0 ha2 hpr hM0; omega)]
    refine j_aload_n C 1 0 dX12_price_41 rfl rfl ?_
    refine y_getC C 11 105 fX12_price_36 rfl rfl ft_11_17 sm_11_17 rfl hM114 dX12_price_42 ?_
    refine y_bipush C dX12_price_45 rfl ?_
    refine j_iload_n C 2 1 dX12_price_47 rfl rfl ?_
    refine y_iadd C dX12_price_48 ?_
    refine y_ialdF C 51 23 rfl rfl rfl ak_51 an_51 rfl dX12_price_49 (by (clear u117w h116 fM114 hM114 pM112 hM112 eM112 h111 fM109 hM109 pM101 hM101 eM101 hret C hp0 ha2 hpr hM0; omega)) (fun a118 ea118 la118 ua118 => ?_)
    obtain rfl : a118 = (M109.1 105 ((7 + a1)).toNat).toInt := s_fa eM112 (by decide) (s_fF fM114 (by decide) (ea118))
    have u119q := nt_q (M := M112) (Mk := M109) (N := M114) (f := M0.1 99) (g := psS (M0.1 99) a1 a2) (by exact h116.1) (by rw [show M0.1 99 = M101.1 99 from ((wI_cell eM101 (by decide))).symm]; exact b01_i (b01_e (P := KPN M109 (M101.1 99) 23) (by exact h111.1))) ((wI_cell eM112 (by decide))) ((uR_w eM112).trans (by rw [(((FR.cell fM109 (by decide)).trans (wI_cell eM101 (by decide))))]; rfl))
    have u119k := pu_y (w := wpF (M0.1 99) a1 a2) (a := (M0.1 99 (33 + a1).toNat).toInt) (f := M0.1 99) (g := psS (M0.1 99) a1 a2) (N := M114.1 99) (by exact h107) u119q
    exact hret _ _ _ _ dX12_price_50 ⟨(M109.1 105 ((7 + a1)).toNat).toInt, rfl, hM114, ((((FR.rf.wI eM101 (by decide)).tr fM109 (by decide)).wI eM112 (by decide)).tr fM114 (by decide)), by exact ⟨la118, ⟨ua118, ⟨(by (clear u119q fM114 hM114 pM112 hM112 eM112 h111 fM109 hM109 h107 h105 pM101 hM101 eM101 hret C hp0 ha2 ha1 hpr hM0; omega)), ⟨u119k.1, h116.2⟩⟩⟩⟩⟩
  · refine y_bipush C dX12_price_18 rfl ?_
    refine j_iload_n C 0 3 dX12_price_20 rfl rfl ?_
    refine y_isub C dX12_price_21 ?_
    have u120k := pu_n (w := wpF (M0.1 99) a1 a2) (f := M0.1 99) (N := M101.1 99) (by exact h107) ((wI_cell eM101 (by decide))) (psS (M0.1 99) a1 a2) ((M0.1 99 (33 + a1).toNat).toInt)
    exact hret _ _ _ _ dX12_price_22 ⟨((-10) - (wpF (M0.1 99) a1 a2)), rfl, hM101, (FR.rf.wI eM101 (by decide)), by exact ⟨(by (clear h107 hM101 eM101 hret C hp0 ha2 ha1 hpr hM0; omega)), ⟨(by (clear h107 hM101 eM101 hret C hp0 ha2 ha1 hpr hM0; omega)), ⟨u120k.2.symm, ⟨u120k.1, pM101⟩⟩⟩⟩⟩
set_option maxHeartbeats 4000000 in
theorem s1_X12_oddsAll {l : Launch} {dC : Nat → ClassId} {dI : Nat → Nat → Nat} {ad : Nat → Nat} {cA : Nat → ClassId} {pr : Nat → Nat → Bool} {Kz : mm_M} {M0 : mm_M} (hM0 : INV pr Kz M0)  : Ci l 0 yX12_oddsAll wsX12_oddsAll dC dI ad cA [.ref (ad 98)] M0 (fun r M' => ∃ a : Int, r = sI a ∧ M0 = M' ∧ 0 ≤ a ∧ a ≤ 54 ∧ (a = (psF (M0.1 99) (M0.1 99 1).toInt.toNat))) := by
  refine ci_of (cc := cX12_oddsAll) (maxL := 3) (ty := .int) (lv := [(0, .ref (ad 98))]) (by decide) rfl (fun r M' hp => rfl) (Nat.le_of_ble_eq_true rfl) rfl ?_
  intro p e s m args below meth c A Q C hret
  refine y_iconst C dX12_oddsAll_0 ?_
  refine j_istore_n C 1 [(1, .int (sI 0)), (0, .ref (ad 98))] dX12_oddsAll_1 rfl (by decide) rfl ?_
  have u101 : psF (M0.1 99) (0 : Int).toNat = 0 := rfl
  have u101k := INV.rd hM0 (i := 99) (c := 45) (k := 1) rfl rfl
  refine y_iconst C dX12_oddsAll_2 ?_
  refine j_istore_n C 2 [(2, .int (sI 0)), (1, .int (sI 0)), (0, .ref (ad 98))] dX12_oddsAll_3 rfl (by decide) rfl ?_
  have L110 : ∀ (n108 : Nat), ∀ (a111 : Int) (a112 : Int), (0 ≤ a111 ∧ a111 ≤ 54 ∧ 0 ≤ a112 ∧ a112 ≤ 6 ∧ (a111 = psF (M0.1 99) (a112).toNat) ∧ (a111 ≤ 9 * a112) ∧ (a112 ≤ (M0.1 99 1).toInt) ∧ (6 - a112) < (n108 : Int)) → jj p l e (cn_R 0) s m args below meth c 0 0 Q 3 dC dI ad cA A M0 4 [(0, .ref (ad 98)), (1, .int (sI a111)), (2, .int (sI a112))] [] := by
    intro n108
    induction n108 with
    | zero =>
      intro a111 a112 h113
      exfalso; omega
    | succ n108 ih109 =>
      intro a111 a112 h113
      refine j_iload_n C 2 2 dX12_oddsAll_4 rfl rfl ?_
      refine j_aload_n C 0 0 dX12_oddsAll_5 rfl rfl ?_
      refine y_getC C 11 99 fX12_oddsAll_13 rfl rfl ft_11_1 sm_11_1 rfl hM0 dX12_oddsAll_6 ?_
      refine y_iconst C dX12_oddsAll_9 ?_
      refine y_ialdH C 45 3543 rfl rfl rfl ak_45 an_45 rfl _ _ hM0 (hr_45_1_1 _ (by exact (by decide)) (by exact (by decide))) dX12_oddsAll_10 (by exact ⟨(by decide), (by decide)⟩) (fun a114 ea114 la114 ua114 => ?_)
      obtain rfl : a114 = (M0.1 99 1).toInt := ea114
      refine y_icmp_ge C 32 dX12_oddsAll_11 (by decide) (by omega) (fun h115 => ?_) (fun h115 => ?_)
      · obtain rfl : a112 = (M0.1 99 1).toInt := by omega
        refine j_iload_n C 1 1 dX12_oddsAll_32 rfl rfl ?_
        exact hret _ _ _ _ dX12_oddsAll_33 ⟨a111, rfl, rfl, by exact ⟨h113.1, ⟨h113.2.1, h113.2.2.2.2.1⟩⟩⟩
      · refine j_iload_n C 1 1 dX12_oddsAll_14 rfl rfl ?_
        refine j_aload_n C 0 0 dX12_oddsAll_15 rfl rfl ?_
        refine y_getC C 11 99 fX12_oddsAll_13 rfl rfl ft_11_1 sm_11_1 rfl hM0 dX12_oddsAll_16 ?_
        refine y_bipush C dX12_oddsAll_19 rfl ?_
        refine j_iload_n C 2 2 dX12_oddsAll_21 rfl rfl ?_
        refine y_iadd C dX12_oddsAll_22 ?_
        refine y_ialdH C 45 3543 rfl rfl rfl ak_45 an_45 rfl _ _ hM0 (hr_45_20_25 _ (by (clear ua114 la114 ih109 u101 hret C hM0; omega)) (by (clear h115 ua114 la114 ih109 u101k u101 hret C hM0; omega))) dX12_oddsAll_23 (by omega) (fun a116 ea116 la116 ua116 => ?_)
        obtain rfl : a116 = (M0.1 99 ((20 + a112)).toNat).toInt := ea116
        refine y_iadd C dX12_oddsAll_24 ?_
        refine j_istore_n C 1 [(1, .int (sI (a111 + (M0.1 99 ((20 + a112)).toNat).toInt))), (0, .ref (ad 98)), (2, .int (sI a112))] dX12_oddsAll_25 rfl (by decide) rfl ?_
        have u117 := psF_s (M0.1 99) a112 (by exact h113.2.2.1)
        refine y_iinc C 2 [(2, .int (sI (a112 + 1))), (1, .int (sI (a111 + (M0.1 99 ((20 + a112)).toNat).toInt))), (0, .ref (ad 98))] dX12_oddsAll_26 rfl (by decide) rfl ?_
        refine j_goto C 4 dX12_oddsAll_29 (by decide) ?_
        refine j_lv [2, 1, 0] rfl ?_; exact ih109 (a111 + (M0.1 99 ((20 + a112)).toNat).toInt) (a112 + 1) (by (clear ua114 la114 ih109 u101 hret C hM0; omega))
  refine j_lv [2, 1, 0] rfl ?_; exact L110 2010 0 0 (by exact ⟨(by decide), ⟨(by decide), ⟨(by decide), ⟨(by decide), ⟨u101.symm, ⟨(by decide), ⟨u101k.1, (by decide)⟩⟩⟩⟩⟩⟩⟩)
set_option maxHeartbeats 4000000 in
theorem s1_X12_draw {l : Launch} {dC : Nat → ClassId} {dI : Nat → Nat → Nat} {ad : Nat → Nat} {cA : Nat → ClassId} {pr : Nat → Nat → Bool} {Kz : mm_M} {M0 : mm_M} (hM0 : INV pr Kz M0) (hpr : PM pr) (a1 : Int) (ha1 : -2147483648 ≤ a1 ∧ a1 ≤ 2147483647) (hp0 : 1 ≤ a1 ∧ a1 ≤ 2147483647) (hp1 : b01 (PI M0) = 1) : Ci l 0 yX12_draw wsX12_draw dC dI ad cA [.ref (ad 98), .int (sI a1)] M0 (fun r M' => ∃ a : Int, r = sI a ∧ INV pr Kz M' ∧ FR [99] M0 M' ∧ 0 ≤ a ∧ a ≤ 2147483646 ∧ (0 ≤ a ∧ a < a1) ∧ (b01 (AE 32 M0 M') = 1) ∧ (a = drF (M0.1 99) a1) ∧ (b01 (M'.1 99 = drS (M0.1 99)) = 1) ∧ (b01 (PI M') = 1)) := by
  refine ci_of (cc := cX12_draw) (maxL := 2) (ty := .int) (lv := [(0, .ref (ad 98)), (1, .int (sI a1))]) (by decide) rfl (fun r M' hp => rfl) (Nat.le_of_ble_eq_true rfl) rfl ?_
  intro p e s m args below meth c A Q C hret
  refine j_aload_n C 0 0 dX12_draw_0 rfl rfl ?_
  refine y_getC C 11 99 fX12_draw_13 rfl rfl ft_11_1 sm_11_1 rfl hM0 dX12_draw_1 ?_
  refine y_bipush C dX12_draw_4 rfl ?_
  refine y_ldcw C 1103515245 dX12_draw_6 kX12_draw_268 rfl ?_
  refine j_aload_n C 0 0 dX12_draw_9 rfl rfl ?_
  refine y_getC C 11 99 fX12_draw_13 rfl rfl ft_11_1 sm_11_1 rfl hM0 dX12_draw_10 ?_
  refine y_bipush C dX12_draw_13 rfl ?_
  refine y_ialdF C 45 3543 rfl rfl rfl ak_45 an_45 rfl dX12_draw_15 (by exact ⟨(by decide), (by decide)⟩) (fun a101 ea101 la101 ua101 => ?_)
  obtain rfl : a101 = (M0.1 99 32).toInt := ea101
  refine y_imulN C dX12_draw_16 (fun a102 la102 ua102 ha102 => ?_)
  refine y_sipush C dX12_draw_17 rfl ?_
  refine e_iadd C dX12_draw_20 (fun lb103 ub103 => ?_)
  refine y_iastH C 45 3543 rfl rfl rfl ak_45 an_45 rfl _ _ hM0 (PM.w hpr rfl (hm_32_32 _ (by exact (by decide)) (by exact (by decide)))) (hs_45_32_32 _ (by exact (by decide)) (by exact (by decide))) dX12_draw_21 (by exact ⟨(by decide), (by decide)⟩) (by exact ⟨⟨lb103, ub103⟩, ⟨lb103, ub103⟩⟩) (fun M104 eM104 hM104 => ?_)
  have pM104 := pi_n eM104 (hn_32_32 _ (by exact (by decide)) (by exact (by decide))) (by exact hp1)
  refine j_aload_n C 0 0 dX12_draw_22 rfl rfl ?_
  refine y_getC C 11 99 fX12_draw_13 rfl rfl ft_11_1 sm_11_1 rfl hM104 dX12_draw_23 ?_
  refine y_bipush C dX12_draw_26 rfl ?_
  refine y_ialdF C 45 3543 rfl rfl rfl ak_45 an_45 rfl dX12_draw_28 (by exact ⟨(by decide), (by decide)⟩) (fun a105 ea105 la105 ua105 => ?_)
  obtain rfl : a105 = (M104.1 99 32).toInt := ea105
  refine y_bipush C dX12_draw_29 rfl ?_
  refine e_iushr16 C dX12_draw_31 (fun lb106 ub106 => ?_)
  refine j_iload_n C 1 1 dX12_draw_32 rfl rfl ?_
  refine e_irem C dX12_draw_33 (by exact ⟨lb106, ⟨(by (clear ua105 la105 pM104 hM104 eM104 ub103 lb103 ha102 ua102 la102 ua101 la101 hret C hp1 hpr hM0; omega)), ⟨(by (clear ua105 la105 pM104 hM104 eM104 ub103 lb103 ha102 ua102 la102 ua101 la101 hret C hp1 hpr hM0; omega)), ha1.2⟩⟩⟩) (fun lb107 ub107 => ?_)
  have u108 : b01 (AE 32 M0 M104) = 1 := AE_w eM104
  have u108r := dr_w (M := M0) (f := M0.1 99) rfl eM104 ha102
  have u108a := dr_a (f := M0.1 99) eM104 ha102 a1
  exact hret _ _ _ _ dX12_draw_34 ⟨(rmI (ushrI (M104.1 99 32).toInt 16) a1), rfl, hM104, (FR.rf.wI eM104 (by decide)), by exact ⟨lb107, ⟨(by (clear ub106 lb106 ua105 la105 hM104 eM104 ub103 lb103 ha102 ua102 la102 ua101 la101 hret C hp1 hpr hM0; omega)), ⟨⟨lb107, ub107⟩, ⟨u108, ⟨u108a, ⟨u108r, pM104⟩⟩⟩⟩⟩⟩⟩
set_option maxHeartbeats 4000000 in
theorem s1_X12_goesDay {l : Launch} {dC : Nat → ClassId} {dI : Nat → Nat → Nat} {ad : Nat → Nat} {cA : Nat → ClassId} {pr : Nat → Nat → Bool} {Kz : mm_M} {M0 : mm_M} (hM0 : INV pr Kz M0) (hpr : PM pr) (hcw : CWK pr Kz)  (hp0 : b01 (PI M0) = 1) : Ci l 6 yX12_goesDay wsX12_goesDay dC dI ad cA [.ref (ad 98)] M0 (fun r M' => ∃ a : Int, r = sI a ∧ INV pr Kz M' ∧ FR [99, 103, 104] M0 M' ∧ 0 ≤ a ∧ a ≤ 1 ∧ (a = dyA (M0.1 99)) ∧ (b01 (M'.1 99 = dyS (M0.1 99)) = 1) ∧ (b01 (PI M') = 1)) := by
  refine ci_of (cc := cX12_goesDay) (maxL := 4) (ty := .int) (lv := [(0, .ref (ad 98))]) (by decide) rfl (fun r M' hp => rfl) (Nat.le_of_ble_eq_true rfl) rfl ?_
  intro p e s m args below meth c A Q C hret
  refine j_aload_n C 0 0 dX12_goesDay_0 rfl rfl ?_
  refine y_getC C 11 99 fX12_goesDay_13 rfl rfl ft_11_1 sm_11_1 rfl hM0 dX12_goesDay_1 ?_
  refine y_bipush C dX12_goesDay_4 rfl ?_
  refine j_dup2 C dX12_goesDay_6 rfl rfl ?_
  refine y_ialdF C 45 3543 rfl rfl rfl ak_45 an_45 rfl dX12_goesDay_7 (by exact ⟨(by decide), (by decide)⟩) (fun a101 ea101 la101 ua101 => ?_)
  obtain rfl : a101 = (M0.1 99 31).toInt := ea101
  refine y_iconst C dX12_goesDay_8 ?_
  refine e_iadd C dX12_goesDay_9 (fun lb102 ub102 => ?_)
  refine y_iastH C 45 3543 rfl rfl rfl ak_45 an_45 rfl _ _ hM0 (PM.w hpr rfl (hm_31_31 _ (by exact (by decide)) (by exact (by decide)))) (hs_45_31_31 _ (by exact (by decide)) (by exact (by decide))) dX12_goesDay_10 (by exact ⟨(by decide), (by decide)⟩) (by exact ⟨⟨lb102, ub102⟩, ⟨lb102, ub102⟩⟩) (fun M103 eM103 hM103 => ?_)
  have pM103 := pi_n eM103 (hn_31_31 _ (by exact (by decide)) (by exact (by decide))) (by exact hp0)
  have u104k := INV.rd hM103 (i := 99) (c := 45) (k := 1) rfl rfl
  have u104g := dg_w (M := M0) (f := M0.1 99) rfl eM103
  refine j_aload_n C 0 0 dX12_goesDay_11 rfl rfl ?_
  refine j_callVi C (d := 0) (As := []) (st := []) 98 (s_lt rfl rfl) (s_kc (c := 11) rfl rfl) (by decide) rfl (s1_X12_oddsAll hM103) gX12_goesDay_X12_oddsAll rfl hdX12_oddsAll (by decide) (Nat.le_of_ble_eq_true rfl) dX12_goesDay_12 rfl (fun r105 M106 h107 => ?_)
  obtain ⟨a109, rfl, rfl, h108⟩ := h107
  obtain rfl : a109 = (psF (M103.1 99) (M103.1 99 1).toInt.toNat) := by exact h108.2.2
  refine j_istore_n C 1 [(1, .int (sI (psF (M103.1 99) (M103.1 99 1).toInt.toNat))), (0, .ref (ad 98))] dX12_goesDay_15 rfl (by decide) rfl ?_
  refine j_iload_n C 0 1 dX12_goesDay_16 rfl rfl ?_
  refine y_if_ne C 22 dX12_goesDay_17 (by decide) (by omega) (fun h110 => ?_) (fun h110 => ?_)
  · refine j_aload_n C 1 0 dX12_goesDay_22 rfl rfl ?_
    refine j_iload_n C 0 1 dX12_goesDay_23 rfl rfl ?_
    refine j_callVi C (d := 0) (As := [.int (sI (psF (M103.1 99) (M103.1 99 1).toInt.toNat))]) (st := []) 98 (s_lt rfl rfl) (s_kc (c := 11) rfl rfl) (by decide) rfl (s1_X12_draw hM103 hpr (psF (M103.1 99) (M103.1 99 1).toInt.toNat) (by omega) (by (clear u104g u104k pM103 hM103 eM103 ub102 lb102 ua101 la101 hret C hp0 hcw hpr hM0; omega)) (by exact pM103)) gX12_goesDay_X12_draw rfl hdX12_draw (by decide) (Nat.le_of_ble_eq_true rfl) dX12_goesDay_24 rfl (fun r111 M112 h113 => ?_)
    obtain ⟨a115, rfl, hM112, fM112, h114⟩ := h113
    have u116 := AE_ps (M := M103) (N := M112) (by exact h114.2.2.2.1) (by exact ⟨u104k.1, u104k.2⟩)
    have u116z : psF (M112.1 99) (0 : Int).toNat = 0 := rfl
    have u116i := dy_i (f := M0.1 99) (g := M103.1 99) (h := M112.1 99) (a := a115) u104g (by exact h114.2.2.2.2.2.1) (by exact h114.2.2.2.2.1)
    have u116c := u116i.1
    have u116h := u116i.2
    refine j_istore_n C 2 [(2, .int (sI a115)), (1, .int (sI (psF (M103.1 99) (M103.1 99 1).toInt.toNat))), (0, .ref (ad 98))] dX12_goesDay_27 rfl (by decide) rfl ?_
    refine y_iconst C dX12_goesDay_28 ?_
    refine j_istore_n C 3 [(3, .int (sI 0)), (2, .int (sI a115)), (1, .int (sI (psF (M103.1 99) (M103.1 99 1).toInt.toNat))), (0, .ref (ad 98))] dX12_goesDay_29 rfl (by decide) rfl ?_
    have L128 : ∀ (n126 : Nat), ∀ (a129 : Int) (a130 : Int), (0 ≤ a129 ∧ a129 ≤ 53 ∧ 0 ≤ a130 ∧ a130 ≤ 6 ∧ (a129 + psF (M112.1 99) (a130).toNat < psF (M112.1 99) (M112.1 99 1).toInt.toNat) ∧ (a130 ≤ (M112.1 99 1).toInt) ∧ (coR (M112.1 99) (6 - a130).toNat a130 a129 = dcF (M0.1 99)) ∧ (6 - a130) < (n126 : Int)) → jj p l e (cn_R 6) s m args below meth c 0 0 Q 4 dC dI ad cA A M112 30 [(0, .ref (ad 98)), (2, .int (sI a129)), (3, .int (sI a130))] [] := by
      intro n126
      induction n126 with
      | zero =>
        intro a129 a130 h131
        exfalso; omega
      | succ n126 ih127 =>
        intro a129 a130 h131
        have u132k := INV.rd hM112 (i := 99) (c := 45) (k := 1) rfl rfl
        have u132 := psF_lt (f := (M112.1 99)) (l := a129) (b := a130) (n := (M112.1 99 1).toInt) (by exact h131.2.2.2.2.1) (by exact h131.1) (by exact h131.2.2.2.2.2.1)
        refine j_iload_n C 1 2 dX12_goesDay_30 rfl rfl ?_
        have u133co := coR_s (M112.1 99) (b := a130) (l := a129) (by (clear u132k ih127 u116h u116c u116i u116z h114 fM112 hM112 h110 h108 u104g pM103 hM103 eM103 ub102 lb102 ua101 la101 hret C hp0 hcw hpr hM0; omega))
        have u134 : 0 ≤ a130 ∧ a130 ≤ 5 := by exact ⟨h131.2.2.1, (by (clear u133co u132k ih127 u116h u116c u116i u116z h114 fM112 hM112 h110 h108 u104g pM103 hM103 eM103 ub102 lb102 ua101 la101 hret C hp0 hcw hpr hM0; omega))⟩
        refine j_aload_n C 0 0 dX12_goesDay_31 rfl rfl ?_
        refine y_getC C 11 99 fX12_goesDay_13 rfl rfl ft_11_1 sm_11_1 rfl hM112 dX12_goesDay_32 ?_
        refine y_bipush C dX12_goesDay_35 rfl ?_
        refine j_iload_n C 2 3 dX12_goesDay_37 rfl rfl ?_
        refine y_iadd C dX12_goesDay_38 ?_
        refine y_ialdH C 45 3543 rfl rfl rfl ak_45 an_45 rfl _ _ hM112 (hr_45_20_25 _ (by (clear u133co u132 u132k ih127 u116h u116c u116i u116z u116 h114 fM112 hM112 h110 h108 u104g u104k pM103 hM103 eM103 ub102 lb102 ua101 la101 hret C hp0 hcw hpr hM0; omega)) (by (clear u133co u132 u132k ih127 u116h u116c u116i u116z u116 h114 fM112 hM112 h110 h108 u104g u104k pM103 hM103 eM103 ub102 lb102 ua101 la101 hret C hp0 hcw hpr hM0; omega))) dX12_goesDay_39 (by (clear u133co u132 u132k ih127 u116h u116c u116i u116z u116 h114 fM112 hM112 h110 h108 u104g u104k pM103 hM103 eM103 ub102 lb102 ua101 la101 hret C hp0 hcw hpr hM0; omega)) (fun a135 ea135 la135 ua135 => ?_)
        obtain rfl : a135 = (M112.1 99 ((20 + a130)).toNat).toInt := ea135
        refine y_icmp_lt C 61 dX12_goesDay_40 (by decide) (by (clear u134 u133co u132 u132k ih127 u116h u116c u116i u116z u116 h114 fM112 hM112 h110 h108 u104g u104k pM103 hM103 eM103 ub102 lb102 ua101 la101 hret C hp0 hcw hpr hM0; omega)) (fun h136 => ?_) (fun h136 => ?_)
        · refine j_aload_n C 0 0 dX12_goesDay_61 rfl rfl ?_
          refine j_iload_n C 2 3 dX12_goesDay_62 rfl rfl ?_
          refine y_i2l C dX12_goesDay_63 (by (clear h136 ua135 la135 u133co u132 u132k ih127 u116h u116c u116i u116z u116 h114 fM112 hM112 h110 h108 u104g u104k pM103 hM103 eM103 ub102 lb102 ua101 la101 hret C hp0 hcw hpr hM0; omega)) ?_
          refine j_callVi C (d := 5) (As := [.long (sJ a130)]) (st := []) 98 (s_lt rfl rfl) (s_kc (c := 11) rfl rfl) (by decide) rfl (s1_X12_whyVisit hM112 hpr hcw a130 (by (clear h136 ua135 la135 u133co u132 u132k ih127 u116h u116c u116i u116z u116 h114 fM112 hM112 h110 h108 u104g u104k pM103 hM103 eM103 ub102 lb102 ua101 la101 hret C hp0 hcw hpr hM0; omega)) (by exact h114.2.2.2.2.2.2)) gX12_goesDay_X12_whyVisit rfl hdX12_whyVisit (by decide) (Nat.le_of_ble_eq_true rfl) dX12_goesDay_64 rfl (fun r140 M141 h142 => ?_)
          obtain ⟨a144, rfl, hM141, fM141, h143⟩ := h142
          obtain rfl : a144 = (wvF (M112.1 99) a130) := by exact h143.2.2.1
          refine y_if_eq C 72 dX12_goesDay_67 (by decide) (by (clear fM141 hM141 h136 ua135 la135 u134 u133co u132 u132k h131 ih127 u116h u116c u116i u116z u116 h114 fM112 hM112 h110 h108 u104g u104k pM103 hM103 eM103 ub102 lb102 ua101 la101 hret C hp0 hcw hpr hM0; omega)) (fun h145 => ?_) (fun h145 => ?_)
          · refine j_aload_n C 0 0 dX12_goesDay_72 rfl rfl ?_
            refine j_iload_n C 2 3 dX12_goesDay_73 rfl rfl ?_
            have u146 : bnF (M141.1 99) a130 = bnF (M112.1 99) a130 := by rw [(FR.cell fM141 (by decide))]
            refine j_callVi C (d := 5) (As := [.int (sI a130)]) (st := []) 98 (s_lt rfl rfl) (s_kc (c := 11) rfl rfl) (by decide) rfl (s1_X12_visits hM141 hpr hcw a130 (by (clear u146 h145 h143 fM141 hM141 h136 ua135 la135 u133co u132 u132k ih127 u116h u116c u116i u116z u116 h114 fM112 hM112 h110 h108 u104g u104k pM103 hM103 eM103 ub102 lb102 ua101 la101 hret C hp0 hcw hpr hM0; omega)) (by (clear fM141 hM141 h136 ua135 la135 u134 u133co u132 u132k h131 ih127 u116h u116c u116i u116z u116 h114 fM112 hM112 h110 h108 u104g u104k pM103 hM103 eM103 ub102 lb102 ua101 la101 hret C hp0 hcw hpr hM0; omega)) (by exact ⟨u134.1, u134.2⟩) (by exact h143.2.2.2.2)) gX12_goesDay_X12_visits rfl hdX12_visits (by decide) (Nat.le_of_ble_eq_true rfl) dX12_goesDay_74 rfl (fun r147 M148 h149 => ?_)
            obtain ⟨a151, rfl, hM148, fM148, h150⟩ := h149
            refine j_pop C dX12_goesDay_77 rfl ?_
            refine y_iconst C dX12_goesDay_78 ?_
            have u152r := dy_r1 (f := M0.1 99) (g := M103.1 99) (h := M112.1 99) (h' := M141.1 99) (N := M148.1 99) (c := a130) u104g u116h ((FR.cell fM141 (by decide))) (by exact h150.2.2.2.1) (by exact h110) (by (clear h150 fM148 hM148 u146 fM141 hM141 ua135 la135 u134 u132 u132k ih127 u116h u116c u116i u116z u116 h114 fM112 hM112 h110 h108 u104g u104k pM103 hM103 eM103 ub102 lb102 ua101 la101 hret C hp0 hcw hpr hM0; omega)) (by exact h145)
            exact hret _ _ _ _ dX12_goesDay_79 ⟨1, rfl, hM148, ((((FR.rf.wI eM103 (by decide)).tr fM112 (by decide)).tr fM141 (by decide)).tr fM148 (by decide)), by exact ⟨(by decide), ⟨(by decide), ⟨u152r.1.symm, ⟨u152r.2, h150.2.2.2.2⟩⟩⟩⟩⟩
          · refine y_iconst C dX12_goesDay_70 ?_
            have u153r := dy_r2 (f := M0.1 99) (g := M103.1 99) (h := M112.1 99) (h' := M141.1 99) (c := a130) u104g u116h ((FR.cell fM141 (by decide))) (by exact h110) (by (clear fM141 hM141 ua135 la135 u134 u132 u132k ih127 u116h u116c u116i u116z u116 h114 fM112 hM112 h110 h108 u104g u104k pM103 hM103 eM103 ub102 lb102 ua101 la101 hret C hp0 hcw hpr hM0; omega)) (by exact h145)
            exact hret _ _ _ _ dX12_goesDay_71 ⟨0, rfl, hM141, (((FR.rf.wI eM103 (by decide)).tr fM112 (by decide)).tr fM141 (by decide)), by exact ⟨(by decide), ⟨(by decide), ⟨u153r.1.symm, ⟨u153r.2, h143.2.2.2.2⟩⟩⟩⟩⟩
        · refine j_iload_n C 1 2 dX12_goesDay_43 rfl rfl ?_
          refine j_aload_n C 0 0 dX12_goesDay_44 rfl rfl ?_
          refine y_getC C 11 99 fX12_goesDay_13 rfl rfl ft_11_1 sm_11_1 rfl hM112 dX12_goesDay_45 ?_
          refine y_bipush C dX12_goesDay_48 rfl ?_
          refine j_iload_n C 2 3 dX12_goesDay_50 rfl rfl ?_
          refine y_iadd C dX12_goesDay_51 ?_
          refine y_ialdH C 45 3543 rfl rfl rfl ak_45 an_45 rfl _ _ hM112 (hr_45_20_25 _ (by omega) (by omega)) dX12_goesDay_52 (by omega) (fun a137 ea137 la137 ua137 => ?_)
          obtain rfl : a137 = (M112.1 99 ((20 + a130)).toNat).toInt := ea137
          refine y_isub C dX12_goesDay_53 ?_
          refine j_istore_n C 2 [(2, .int (sI (a129 - (M112.1 99 ((20 + a130)).toNat).toInt))), (0, .ref (ad 98)), (3, .int (sI a130))] dX12_goesDay_54 rfl (by decide) rfl ?_
          have u138 := psF_s (M112.1 99) a130 (by exact h131.2.2.1)
          refine y_iinc C 2 [(3, .int (sI (a130 + 1))), (2, .int (sI (a129 - (M112.1 99 ((20 + a130)).toNat).toInt))), (0, .ref (ad 98))] dX12_goesDay_55 rfl (by decide) rfl ?_
          refine j_goto C 30 dX12_goesDay_58 (by decide) ?_
          refine j_lv [2, 1, 0] rfl ?_; exact ih127 (a129 - (M112.1 99 ((20 + a130)).toNat).toInt) (a130 + 1) (by (clear ua137 la137 u132k ih127 u116h u116c u116i u116z u116 h114 fM112 hM112 h110 h108 u104g u104k pM103 hM103 eM103 ub102 lb102 ua101 la101 hret C hp0 hcw hpr hM0; omega))
    refine j_lv [3, 1, 0] rfl ?_; exact L128 2010 a115 0 (by exact ⟨h114.1, ⟨(by (clear L128 u116h u116c fM112 hM112 h110 u104g pM103 hM103 eM103 ub102 lb102 ua101 la101 hret C hp0 hcw hpr hM0; omega)), ⟨(by decide), ⟨(by decide), ⟨(by (clear L128 u116h u116c fM112 hM112 h110 u104g pM103 hM103 eM103 ub102 lb102 ua101 la101 hret C hp0 hcw hpr hM0; omega)), ⟨(by (clear L128 u116h u116c fM112 hM112 h110 u104g pM103 hM103 eM103 ub102 lb102 ua101 la101 hret C hp0 hcw hpr hM0; omega)), ⟨u116i.1, (by decide)⟩⟩⟩⟩⟩⟩⟩)
  · refine y_iconst C dX12_goesDay_20 ?_
    have u154r := dy_r0 (f := M0.1 99) (g := M103.1 99) u104g (by exact h110)
    exact hret _ _ _ _ dX12_goesDay_21 ⟨0, rfl, hM103, (FR.rf.wI eM103 (by decide)), by exact ⟨(by decide), ⟨(by decide), ⟨u154r.1.symm, ⟨u154r.2, pM103⟩⟩⟩⟩⟩
set_option maxHeartbeats 4000000 in
theorem s1_X12_days {l : Launch} {dC : Nat → ClassId} {dI : Nat → Nat → Nat} {ad : Nat → Nat} {cA : Nat → ClassId} {pr : Nat → Nat → Bool} {Kz : mm_M} {M0 : mm_M} (hM0 : INV pr Kz M0) (hpr : PM pr) (hcw : CWK pr Kz) (a1 : Int) (ha1 : -2147483648 ≤ a1 ∧ a1 ≤ 2147483647) (hp0 : b01 (PI M0) = 1) : Ci l 7 yX12_days wsX12_days dC dI ad cA [.ref (ad 98), .int (sI a1)] M0 (fun r M' => ∃ a : Int, r = sI a ∧ INV pr Kz M' ∧ FR [98, 99, 103, 104, 105] M0 M' ∧ (-3) ≤ a ∧ a ≤ 99 ∧ (a = daA (M0.1 99) a1) ∧ (b01 (M'.1 99 = daS (M0.1 99) a1) = 1) ∧ (b01 (PI M') = 1)) := by
  refine ci_of (cc := cX12_days) (maxL := 4) (ty := .int) (lv := [(0, .ref (ad 98)), (1, .int (sI a1))]) (by decide) rfl (fun r M' hp => rfl) (Nat.le_of_ble_eq_true rfl) rfl ?_
  intro p e s m args below meth c A Q C hret
  refine j_aload_n C 0 0 dX12_days_0 rfl rfl ?_
  refine y_iconst C dX12_days_1 ?_
  refine y_putIF C 11 qX12_days_1 rfl rfl ft_11_0 sb_11_0 hM0 (PM.w hpr rfl rfl) dX12_days_2 (fun M101 eM101 hM101 => ?_)
  have pM101 := pi_o eM101 (by decide) (by decide) (by exact hp0)
  refine j_iload_n C 1 1 dX12_days_5 rfl rfl ?_
  refine y_i2l C dX12_days_6 (by exact ⟨ha1.1, ha1.2⟩) ?_
  refine y_lconst C 1 dX12_days_7 rfl ?_
  refine y_ldc2 C 99 dX12_days_8 kX12_days_263 rfl ?_
  refine j_callSi C (d := 0) (As := [.long (sJ a1), .long (sJ 1), .long (sJ 99)]) (st := []) (s1_X12_within hM101 a1 (by omega) 1 (by exact ⟨(by decide), (by decide)⟩) 99 (by exact ⟨(by decide), (by decide)⟩)) gX12_days_X12_within rfl hdX12_withins (by decide) (Nat.le_of_ble_eq_true rfl) dX12_days_11 rfl (fun r102 M103 h104 => ?_)
  obtain ⟨a106, rfl, rfl, h105⟩ := h104
  refine y_if_ne C 20 dX12_days_14 (by decide) (by omega) (fun h107 => ?_) (fun h107 => ?_)
  · refine j_aload_n C 0 0 dX12_days_20 rfl rfl ?_
    refine j_callVv C (d := 0) (As := []) (st := []) 98 (s_lt rfl rfl) (s_kc (c := 11) rfl rfl) (by decide) rfl (s1_X12_keeps hM101 hpr (by exact pM101)) gX12_days_X12_keeps rfl hdX12_keeps (by decide) (Nat.le_of_ble_eq_true rfl) dX12_days_21 rfl (fun M109 h110 => ?_)
    obtain ⟨hM109, fM109, h111⟩ := h110
    refine y_iconst C dX12_days_24 ?_
    refine j_istore_n C 2 [(2, .int (sI 0)), (0, .ref (ad 98)), (1, .int (sI a1))] dX12_days_25 rfl (by decide) rfl ?_
    refine y_iconst C dX12_days_26 ?_
    refine j_istore_n C 3 [(3, .int (sI 0)), (2, .int (sI 0)), (0, .ref (ad 98)), (1, .int (sI a1))] dX12_days_27 rfl (by decide) rfl ?_
    have u112z := ds_0 (M0.1 99)
    have u112e : b01 (M109.1 99 = (dsS (M0.1 99) (0 : Int).toNat).1) = 1 := b01_i (((((FR.cell fM109 (by decide)).trans (wI_cell eM101 (by decide))))).trans (b01_e u112z.1))
    have u112k : b01 (KPN M109 (M0.1 99) 23) = 1 := by rw [show M0.1 99 = M101.1 99 from ((wI_cell eM101 (by decide))).symm]; exact h111.1
    have L127 : ∀ (n125 : Nat), ∀ (a128 : Int) (a129 : Int) (M130 : mm_M), (0 ≤ a128 ∧ a128 ≤ 99 ∧ 0 ≤ a129 ∧ a129 ≤ 99 ∧ (b01 (M130.1 99 = (dsS (M0.1 99) (a129).toNat).1) = 1) ∧ (a128 = (dsS (M0.1 99) (a129).toNat).2) ∧ (b01 (KPN M130 (M0.1 99) 23) = 1) ∧ (a129 ≤ a1) ∧ (a128 ≤ a129) ∧ (0 ≤ a128) ∧ (b01 (PI M130) = 1) ∧ (99 - a129) < (n125 : Int)) → INV pr Kz M130 → FR [98, 99, 103, 104, 105] M0 M130 → jj p l e (cn_R 7) s m args below meth c 0 0 Q 4 dC dI ad cA A M130 28 [(0, .ref (ad 98)), (1, .int (sI a1)), (2, .int (sI a128)), (3, .int (sI a129))] [] := by
      intro n125
      induction n125 with
      | zero =>
        intro a128 a129 M130 h131 hM130 fM130
        exfalso; omega
      | succ n125 ih126 =>
        intro a128 a129 M130 h131 hM130 fM130
        refine j_iload_n C 3 3 dX12_days_28 rfl rfl ?_
        refine j_iload_n C 1 1 dX12_days_29 rfl rfl ?_
        refine y_icmp_ge C 46 dX12_days_30 (by decide) (by exact ⟨⟨(by (clear fM130 hM130 ih126 u112k u112e u112z h111 fM109 hM109 h107 h105 pM101 hM101 eM101 hret C hp0 hcw hpr hM0; omega)), (by (clear fM130 hM130 ih126 u112k u112e u112z h111 fM109 hM109 h107 h105 pM101 hM101 eM101 hret C hp0 hcw hpr hM0; omega))⟩, ⟨ha1.1, ha1.2⟩⟩) (fun h133 => ?_) (fun h133 => ?_)
        · have u141x : a129 = a1 := by (clear fM130 hM130 ih126 u112k u112e u112z h111 fM109 hM109 h107 h105 pM101 hM101 eM101 hret C hp0 ha1 hcw hpr hM0; omega)
          have u141y : (dsS (M0.1 99) (a129).toNat).2 = (dsS (M0.1 99) (a1).toNat).2 := by rw [u141x]
          have u141z : b01 (M130.1 99 = (dsS (M0.1 99) (a1).toNat).1) = 1 := by rw [← u141x]; exact h131.2.2.2.2.1
          refine j_aload_n C 0 0 dX12_days_46 rfl rfl ?_
          refine j_callVv C (d := 0) (As := []) (st := []) 98 (s_lt rfl rfl) (s_kc (c := 11) rfl rfl) (by decide) rfl (s1_X12_notes hM130 hpr (by exact h131.2.2.2.2.2.2.2.2.2.2.1)) gX12_days_X12_notes rfl hdX12_notes (by decide) (Nat.le_of_ble_eq_true rfl) dX12_days_47 rfl (fun M143 h144 => ?_)
          obtain ⟨hM143, fM143, h145⟩ := h144
          refine j_iload_n C 2 2 dX12_days_50 rfl rfl ?_
          have u146q := nt_q (M := M130) (Mk := M130) (N := M143) (f := M0.1 99) (g := (dsS (M0.1 99) (a1).toNat).1) (by exact h145.1) (by exact h131.2.2.2.2.2.2.1) rfl (b01_e (by exact u141z))
          have u146k := da_y (f := M0.1 99) (N := M143.1 99) (n := a1) (a := a128) (by (clear u146q h145 fM143 hM143 u141z u141y u141x fM130 hM130 ih126 u112k u112e u112z h111 fM109 hM109 pM101 hM101 eM101 hret C hp0 ha1 hcw hpr hM0; omega)) (by (clear u146q h145 fM143 hM143 u141z u141x h133 fM130 hM130 ih126 u112k u112e u112z h111 fM109 hM109 h107 h105 pM101 hM101 eM101 hret C hp0 ha1 hcw hpr hM0; omega)) u146q
          exact hret _ _ _ _ dX12_days_51 ⟨a128, rfl, hM143, ((FR.rf.tr fM130 (by decide)).tr fM143 (by decide)), by exact ⟨(by (clear u146q fM143 hM143 u141z u141x h133 fM130 hM130 ih126 u112k u112e u112z h111 fM109 hM109 h107 h105 pM101 hM101 eM101 hret C hp0 ha1 hcw hpr hM0; omega)), ⟨h131.2.1, ⟨u146k.1, ⟨u146k.2, h145.2⟩⟩⟩⟩⟩
        · refine j_iload_n C 2 2 dX12_days_33 rfl rfl ?_
          refine j_aload_n C 0 0 dX12_days_34 rfl rfl ?_
          refine j_callVi C (d := 6) (As := []) (st := [.int (sI a128)]) 98 (s_lt rfl rfl) (s_kc (c := 11) rfl rfl) (by decide) rfl (s1_X12_goesDay hM130 hpr hcw (by exact h131.2.2.2.2.2.2.2.2.2.2.1)) gX12_days_X12_goesDay rfl hdX12_goesDay (by decide) (Nat.le_of_ble_eq_true rfl) dX12_days_35 rfl (fun r134 M135 h136 => ?_)
          obtain ⟨a138, rfl, hM135, fM135, h137⟩ := h136
          refine y_iadd C dX12_days_38 ?_
          refine j_istore_n C 2 [(2, .int (sI (a128 + a138))), (0, .ref (ad 98)), (1, .int (sI a1)), (3, .int (sI a129))] dX12_days_39 rfl (by decide) rfl ?_
          refine y_iinc C 3 [(3, .int (sI (a129 + 1))), (2, .int (sI (a128 + a138))), (0, .ref (ad 98)), (1, .int (sI a1))] dX12_days_40 rfl (by decide) rfl ?_
          refine j_goto C 28 dX12_days_43 (by decide) ?_
          have u140w := ds_w (f := M0.1 99) (g := M130.1 99) (N := M135.1 99) (x := a129) (x' := (a129 + 1)) (a := a128) (b := a138) (by exact h131.2.2.2.2.1) (by exact h137.2.2.2.1) (by exact h131.2.2.2.2.2.1) (by exact h137.2.2.1) (by (clear h137 fM135 hM135 h133 fM130 hM130 ih126 u112k u112e u112z h111 fM109 hM109 h107 h105 pM101 hM101 eM101 hret C hp0 ha1 hcw hpr hM0; omega))
          have u140k := kn_f (M := M130) (N := M135) (f := M0.1 99) (x := 23) (by exact h131.2.2.2.2.2.2.1) ((FR.cell fM135 (by decide)))
          refine j_lv [2, 3, 1, 0] rfl ?_; exact ih126 (a128 + a138) (a129 + 1) M135 (by (clear fM135 hM135 fM130 hM130 ih126 u112k u112e u112z h111 fM109 hM109 pM101 hM101 eM101 hret C hp0 hcw hpr hM0; omega)) hM135 ((FR.rf.tr fM130 (by decide)).tr fM135 (by decide))
    refine j_lv [2, 3, 1, 0] rfl ?_; exact L127 2010 0 0 M109 (by exact ⟨(by decide), ⟨(by decide), ⟨(by decide), ⟨(by decide), ⟨u112e, ⟨u112z.2.symm, ⟨u112k, ⟨(by (clear L127 fM109 hM109 pM101 hM101 eM101 hret C hp0 hcw hpr hM0; omega)), ⟨(by decide), ⟨(by decide), ⟨h111.2, (by decide)⟩⟩⟩⟩⟩⟩⟩⟩⟩⟩⟩) hM109 ((FR.rf.wI eM101 (by decide)).tr fM109 (by decide))
  · refine y_bipush C dX12_days_17 rfl ?_
    have u147k := da_n (f := M0.1 99) (N := M101.1 99) (n := a1) (by (clear pM101 hM101 eM101 hret C hp0 hcw hpr hM0; omega)) ((wI_cell eM101 (by decide)))
    exact hret _ _ _ _ dX12_days_19 ⟨(-3), rfl, hM101, (FR.rf.wI eM101 (by decide)), by exact ⟨(by decide), ⟨(by decide), ⟨u147k.1.symm, ⟨u147k.2, pM101⟩⟩⟩⟩⟩
set_option maxHeartbeats 4000000 in
theorem s1_X12_undo {l : Launch} {dC : Nat → ClassId} {dI : Nat → Nat → Nat} {ad : Nat → Nat} {cA : Nat → ClassId} {pr : Nat → Nat → Bool} {Kz : mm_M} {M0 : mm_M} (hM0 : INV pr Kz M0) (hpr : PM pr) (a1 : Int) (ha1 : -2147483648 ≤ a1 ∧ a1 ≤ 2147483647) (hp0 : b01 (PI M0) = 1) : Ci l 1 yX12_undo wsX12_undo dC dI ad cA [.ref (ad 98), .int (sI a1)] M0 (fun r M' => ∃ a : Int, r = sI a ∧ INV pr Kz M' ∧ FR [98, 99] M0 M' ∧ (-3) ≤ a ∧ a ≤ 9 ∧ (a = uoA (M0.1 99) a1) ∧ (b01 (M'.1 99 = uoS (M0.1 99) a1) = 1) ∧ (b01 (PI M') = 1)) := by
  refine ci_of (cc := cX12_undo) (maxL := 3) (ty := .int) (lv := [(0, .ref (ad 98)), (1, .int (sI a1))]) (by decide) rfl (fun r M' hp => rfl) (Nat.le_of_ble_eq_true rfl) rfl ?_
  intro p e s m args below meth c A Q C hret
  refine j_aload_n C 0 0 dX12_undo_0 rfl rfl ?_
  refine y_iconst C dX12_undo_1 ?_
  refine y_putIF C 11 qX12_undo_1 rfl rfl ft_11_0 sb_11_0 hM0 (PM.w hpr rfl rfl) dX12_undo_2 (fun M101 eM101 hM101 => ?_)
  have pM101 := pi_o eM101 (by decide) (by decide) (by exact hp0)
  refine j_iload_n C 1 1 dX12_undo_5 rfl rfl ?_
  refine y_i2l C dX12_undo_6 (by exact ⟨ha1.1, ha1.2⟩) ?_
  refine y_lconst C 1 dX12_undo_7 rfl ?_
  refine y_ldc2 C 10 dX12_undo_8 kX12_undo_300 rfl ?_
  refine j_callSi C (d := 0) (As := [.long (sJ a1), .long (sJ 1), .long (sJ 10)]) (st := []) (s1_X12_within hM101 a1 (by omega) 1 (by exact ⟨(by decide), (by decide)⟩) 10 (by exact ⟨(by decide), (by decide)⟩)) gX12_undo_X12_within rfl hdX12_withins (by decide) (Nat.le_of_ble_eq_true rfl) dX12_undo_11 rfl (fun r102 M103 h104 => ?_)
  obtain ⟨a106, rfl, rfl, h105⟩ := h104
  refine y_if_eq C 28 dX12_undo_14 (by decide) (by omega) (fun h107 => ?_) (fun h107 => ?_)
  · refine y_bipush C dX12_undo_28 rfl ?_
    have u108k := uo_n (f := M0.1 99) (N := M101.1 99) (n := a1) (by (clear pM101 hM101 eM101 hret C hp0 hpr hM0; omega)) ((wI_cell eM101 (by decide)))
    exact hret _ _ _ _ dX12_undo_30 ⟨(-3), rfl, hM101, (FR.rf.wI eM101 (by decide)), by exact ⟨(by decide), ⟨(by decide), ⟨u108k.1.symm, ⟨u108k.2, pM101⟩⟩⟩⟩⟩
  · refine j_iload_n C 1 1 dX12_undo_17 rfl rfl ?_
    refine j_aload_n C 0 0 dX12_undo_18 rfl rfl ?_
    refine y_getC C 11 99 fX12_undo_13 rfl rfl ft_11_1 sm_11_1 rfl hM101 dX12_undo_19 ?_
    refine y_bipush C dX12_undo_22 rfl ?_
    refine y_ialdH C 45 3543 rfl rfl rfl ak_45 an_45 rfl _ _ hM101 (hr_45_49_49 _ (by exact (by decide)) (by exact (by decide))) dX12_undo_24 (by exact ⟨(by decide), (by decide)⟩) (fun a109 ea109 la109 ua109 => ?_)
    obtain rfl : a109 = (M0.1 99 49).toInt := s_fa eM101 (by decide) (ea109)
    refine y_icmp_le C 31 dX12_undo_25 (by decide) (by exact ⟨⟨ha1.1, ha1.2⟩, ⟨(by (clear h107 h105 pM101 hM101 eM101 hret C hp0 hpr hM0; omega)), (by (clear h107 h105 pM101 hM101 eM101 hret C hp0 hpr hM0; omega))⟩⟩) (fun h110 => ?_) (fun h110 => ?_)
    · refine j_aload_n C 0 0 dX12_undo_31 rfl rfl ?_
      refine y_getC C 11 99 fX12_undo_13 rfl rfl ft_11_1 sm_11_1 rfl hM101 dX12_undo_32 ?_
      refine y_bipush C dX12_undo_35 rfl ?_
      refine j_dup2 C dX12_undo_37 rfl rfl ?_
      refine y_ialdH C 45 3543 rfl rfl rfl ak_45 an_45 rfl _ _ hM101 (hr_45_49_49 _ (by exact (by decide)) (by exact (by decide))) dX12_undo_38 (by exact ⟨(by decide), (by decide)⟩) (fun a111 ea111 la111 ua111 => ?_)
      obtain rfl : a111 = (M0.1 99 49).toInt := s_fa eM101 (by decide) (ea111)
      refine j_iload_n C 1 1 dX12_undo_39 rfl rfl ?_
      refine y_isub C dX12_undo_40 ?_
      refine y_iastH C 45 3543 rfl rfl rfl ak_45 an_45 rfl _ _ hM101 (PM.w hpr rfl (hm_49_49 _ (by exact (by decide)) (by exact (by decide)))) (hs_45_49_49 _ (by exact (by decide)) (by exact (by decide))) dX12_undo_41 (by exact ⟨(by decide), (by decide)⟩) (by (clear ua111 la111 ea111 pM101 hM101 eM101 hret C hp0 hpr hM0; omega)) (fun M112 eM112 hM112 => ?_)
      have pM112 := pi_n eM112 (hn_49_49 _ (by exact (by decide)) (by exact (by decide))) (by exact pM101)
      refine y_iconst C dX12_undo_42 ?_
      refine j_istore_n C 2 [(2, .int (sI 0)), (0, .ref (ad 98)), (1, .int (sI a1))] dX12_undo_43 rfl (by decide) rfl ?_
      have u113 := cp_0 (M := M112) (c := 99) (pd := ((26 + 0) : Int).toNat) (c2 := 99) (ps := ((50 + 23 * (M112.1 99 49).toInt + 0) : Int).toNat) (by exact pM112) (by decide)
      have u113k := un_0 (f := M112.1 99) (g := uR (M0.1 99) 49 ((M0.1 99 49).toInt - a1)) ((M0.1 99 49).toInt - a1).toNat ((uR_w eM112).trans (congrArg (fun q => uR q 49 ((M0.1 99 49).toInt - a1)) ((wI_cell eM101 (by decide)))))
      have L125 : ∀ (n123 : Nat), ∀ (a126 : Int) (M127 : mm_M), (0 ≤ a126 ∧ a126 ≤ 23 ∧ (b01 (Cp M127 99 ((26 + a126) : Int).toNat 99 ((50 + 23 * (M127.1 99 49).toInt + a126) : Int).toNat) = 1) ∧ (b01 (M127.1 99 = unF (uR (M0.1 99) 49 ((M0.1 99 49).toInt - a1)) ((M0.1 99 49).toInt - a1).toNat (a126).toNat) = 1) ∧ (0 ≤ (M127.1 99 49).toInt ∧ (M127.1 99 49).toInt ≤ 9) ∧ (23 - a126) < (n123 : Int)) → INV pr Kz M127 → FR [98, 99] M0 M127 → jj p l e (cn_R 1) s m args below meth c 0 0 Q 3 dC dI ad cA A M127 44 [(0, .ref (ad 98)), (2, .int (sI a126))] [] := by
        intro n123
        induction n123 with
        | zero =>
          intro a126 M127 h128 hM127 fM127
          exfalso; omega
        | succ n123 ih124 =>
          intro a126 M127 h128 hM127 fM127
          have u129w := un_49 (g := M127.1 99) (f := M0.1 99) (n := ((M0.1 99 49).toInt - a1).toNat) (k := (a126).toNat) (v := ((M0.1 99 49).toInt - a1)) (by exact h128.2.2.2.1) (by (clear fM127 hM127 ih124 u113k u113 pM112 hM112 eM112 ua111 la111 ea111 h110 ua109 la109 ea109 h107 h105 pM101 hM101 eM101 hret C hp0 ha1 hpr hM0; omega)) (by (clear fM127 hM127 h128 ih124 u113k u113 pM112 hM112 eM112 ua111 la111 ea111 pM101 hM101 eM101 hret C hp0 hpr hM0; omega))
          refine j_iload_n C 1 2 dX12_undo_44 rfl rfl ?_
          refine y_bipush C dX12_undo_45 rfl ?_
          refine y_icmp_ge C 85 dX12_undo_47 (by decide) (by exact ⟨⟨(by (clear u129w fM127 hM127 ih124 u113k u113 pM112 hM112 eM112 ua111 la111 ea111 h110 ua109 la109 ea109 h107 h105 pM101 hM101 eM101 hret C hp0 ha1 hpr hM0; omega)), (by (clear u129w fM127 hM127 ih124 u113k u113 pM112 hM112 eM112 ua111 la111 ea111 h110 ua109 la109 ea109 h107 h105 pM101 hM101 eM101 hret C hp0 ha1 hpr hM0; omega))⟩, ⟨(by decide), (by decide)⟩⟩) (fun h130 => ?_) (fun h130 => ?_)
          · obtain rfl : a126 = 23 := by (clear u129w fM127 hM127 ih124 u113k u113 pM112 hM112 eM112 ua111 la111 ea111 h110 ua109 la109 ea109 h107 h105 pM101 hM101 eM101 hret C hp0 ha1 hpr hM0; omega)
            have p137 : b01 (PI M127) = 1 := cp_e (c := 99) (pd := ((26 + 23) : Int).toNat) (c2 := 99) (ps := ((50 + 23 * (M127.1 99 49).toInt + 23) : Int).toNat) (by exact h128.2.2.1) (by decide)
            refine j_aload_n C 0 0 dX12_undo_85 rfl rfl ?_
            refine y_getC C 11 99 fX12_undo_13 rfl rfl ft_11_1 sm_11_1 rfl hM127 dX12_undo_86 ?_
            refine y_bipush C dX12_undo_89 rfl ?_
            refine y_ialdH C 45 3543 rfl rfl rfl ak_45 an_45 rfl _ _ hM127 (hr_45_49_49 _ (by exact (by decide)) (by exact (by decide))) dX12_undo_91 (by exact ⟨(by decide), (by decide)⟩) (fun a138 ea138 la138 ua138 => ?_)
            obtain rfl : a138 = (M127.1 99 49).toInt := ea138
            have u139w := un_49 (g := M127.1 99) (f := M0.1 99) (n := ((M0.1 99 49).toInt - a1).toNat) (k := (23 : Int).toNat) (v := ((M0.1 99 49).toInt - a1)) (by exact h128.2.2.2.1) (by decide) (by (clear ua138 la138 p137 h130 fM127 hM127 ih124 u113k u113 pM112 hM112 eM112 ua111 la111 ea111 ua109 la109 h107 h105 pM101 hM101 eM101 hret C hp0 ha1 hpr hM0; omega))
            have u139k := uo_y (f := M0.1 99) (N := M127.1 99) (n := a1) (a := (M127.1 99 49).toInt) (by exact ⟨(by (clear u139w ua138 la138 p137 h130 fM127 hM127 ih124 u113k u113 pM112 hM112 eM112 ua111 la111 ea111 pM101 hM101 eM101 hret C hp0 hpr hM0; omega)), ⟨(by (clear u139w ua138 la138 p137 h130 fM127 hM127 ih124 u113k u113 pM112 hM112 eM112 ua111 la111 ea111 pM101 hM101 eM101 hret C hp0 hpr hM0; omega)), h110⟩⟩) (by exact u139w) (by exact h128.2.2.2.1)
            exact hret _ _ _ _ dX12_undo_92 ⟨(M127.1 99 49).toInt, rfl, hM127, (FR.rf.tr fM127 (by decide)), by exact ⟨(by (clear u139w ua138 la138 h130 fM127 hM127 ih124 u113k u113 pM112 hM112 eM112 ua111 la111 ea111 ua109 la109 h107 h105 pM101 hM101 eM101 hret C hp0 ha1 hpr hM0; omega)), ⟨h128.2.2.2.2.1.2, ⟨u139k.1, ⟨u139k.2, p137⟩⟩⟩⟩⟩
          · refine j_aload_n C 0 0 dX12_undo_50 rfl rfl ?_
            refine y_getC C 11 99 fX12_undo_13 rfl rfl ft_11_1 sm_11_1 rfl hM127 dX12_undo_51 ?_
            refine y_bipush C dX12_undo_54 rfl ?_
            refine j_iload_n C 1 2 dX12_undo_56 rfl rfl ?_
            refine y_iadd C dX12_undo_57 ?_
            refine j_aload_n C 0 0 dX12_undo_58 rfl rfl ?_
            refine y_getC C 11 99 fX12_undo_13 rfl rfl ft_11_1 sm_11_1 rfl hM127 dX12_undo_59 ?_
            refine y_bipush C dX12_undo_62 rfl ?_
            refine y_bipush C dX12_undo_64 rfl ?_
            refine j_aload_n C 0 0 dX12_undo_66 rfl rfl ?_
            refine y_getC C 11 99 fX12_undo_13 rfl rfl ft_11_1 sm_11_1 rfl hM127 dX12_undo_67 ?_
            refine y_bipush C dX12_undo_70 rfl ?_
            refine y_ialdH C 45 3543 rfl rfl rfl ak_45 an_45 rfl _ _ hM127 (hr_45_49_49 _ (by exact (by decide)) (by exact (by decide))) dX12_undo_72 (by exact ⟨(by decide), (by decide)⟩) (fun a131 ea131 la131 ua131 => ?_)
            obtain rfl : a131 = (M127.1 99 49).toInt := ea131
            refine y_imul C dX12_undo_73 ?_
            refine y_iadd C dX12_undo_74 ?_
            refine j_iload_n C 1 2 dX12_undo_75 rfl rfl ?_
            refine y_iadd C dX12_undo_76 ?_
            refine y_ialdR C 45 3543 rfl rfl rfl ak_45 an_45 rfl hM127 dX12_undo_77 (by (clear ua131 la131 u129w fM127 hM127 ih124 u113k u113 pM112 hM112 eM112 ua111 la111 ea111 h110 ua109 la109 ea109 h107 h105 pM101 hM101 eM101 hret C hp0 ha1 hpr hM0; omega)) (fun a132 ea132 la132 ua132 ba132 => ?_)
            obtain rfl : a132 = (M127.1 99 (((50 + (23 * (M127.1 99 49).toInt)) + a126)).toNat).toInt := ea132
            refine y_iastR C 45 3543 rfl rfl rfl ak_45 an_45 rfl hM127 (PM.w hpr rfl (hm_26_48 _ (by (clear ba132 ua132 la132 ua131 la131 u129w fM127 hM127 ih124 u113k u113 pM112 hM112 eM112 ua111 la111 ea111 h110 ua109 la109 ea109 h107 h105 pM101 hM101 eM101 hret C hp0 ha1 hpr hM0; omega)) (by (clear ba132 ua132 la132 ua131 la131 u129w fM127 hM127 ih124 u113k u113 pM112 hM112 eM112 ua111 la111 ea111 h110 ua109 la109 ea109 h107 h105 pM101 hM101 eM101 hret C hp0 ha1 hpr hM0; omega)))) dX12_undo_78 (by (clear ba132 ua132 la132 ua131 la131 u129w fM127 hM127 ih124 u113k u113 pM112 hM112 eM112 ua111 la111 ea111 h110 ua109 la109 ea109 h107 h105 pM101 hM101 eM101 hret C hp0 ha1 hpr hM0; omega)) (by exact ⟨la132, ua132⟩) (by rw [q_k a126 (by exact ⟨h128.1, (by (clear ba132 ua132 la132 ua131 la131 u129w fM127 hM127 ih124 u113k u113 pM112 hM112 eM112 ua111 la111 ea111 h110 ua109 la109 ea109 h107 h105 pM101 hM101 eM101 hret C hp0 ha1 hpr hM0; omega))⟩), ← q_w (M127.1 99 49).toInt a126 (by exact ⟨h128.1, ⟨(by (clear ba132 ua132 la132 ua131 la131 u129w fM127 hM127 ih124 u113k u113 pM112 hM112 eM112 ua111 la111 ea111 h110 ua109 la109 ea109 h107 h105 pM101 hM101 eM101 hret C hp0 ha1 hpr hM0; omega)), ⟨h128.2.2.2.2.1.1, (by (clear ba132 ua132 la132 ua131 la131 u129w fM127 hM127 ih124 u113k u113 pM112 hM112 eM112 ua111 la111 ea111 h110 ua109 la109 ea109 h107 h105 pM101 hM101 eM101 hret C hp0 ha1 hpr hM0; omega))⟩⟩⟩)]; assumption) (fun M133 eM133 hM133 => ?_)
            have u134n : (M133.1 99 49).toInt = (M127.1 99 49).toInt := s_fb eM133 (by (clear hM133 eM133 ba132 ua132 la132 ua131 la131 u129w fM127 hM127 ih124 u113k u113 pM112 hM112 eM112 ua111 la111 ea111 h110 ua109 la109 ea109 h107 h105 pM101 hM101 eM101 hret C hp0 ha1 hpr hM0; omega)) rfl
            have u134 := cp_step (c := 99) (c2 := 99) (pd := ((26 + a126) : Int).toNat) (ps := ((50 + 23 * (M127.1 99 49).toInt + a126) : Int).toNat) (pd' := ((26 + (a126 + 1)) : Int).toNat) (ps' := ((50 + 23 * (M133.1 99 49).toInt + (a126 + 1)) : Int).toNat) eM133 (by rw [sI_o]) (by rw [show (26 + a126 : Int).toNat = 26 + (a126 : Int).toNat by (clear u134n hM133 eM133 ba132 ua132 la132 ua131 la131 u129w fM127 hM127 ih124 u113k u113 pM112 hM112 eM112 ua111 la111 ea111 h110 ua109 la109 ea109 h107 h105 pM101 hM101 eM101 hret C hp0 ha1 hpr hM0; omega), show (50 + 23 * (M127.1 99 49).toInt + a126 : Int).toNat = 50 + 23 * ((M127.1 99 49).toInt).toNat + (a126 : Int).toNat by (clear hM133 eM133 ba132 ua132 la132 ua131 la131 u129w fM127 hM127 ih124 u113k u113 pM112 hM112 eM112 ua111 la111 ea111 h110 ua109 la109 ea109 h107 h105 pM101 hM101 eM101 hret C hp0 ha1 hpr hM0; omega)]; exact al_u _ (by (clear hM133 eM133 ba132 ua132 la132 ua131 la131 h130 u129w fM127 hM127 ih124 u113k u113 pM112 hM112 eM112 ua111 la111 ea111 h110 ua109 la109 ea109 h107 h105 pM101 hM101 eM101 hret C hp0 ha1 hpr hM0; omega)) _ (by (clear u134n hM133 eM133 ba132 ua132 la132 ua131 la131 u129w fM127 hM127 ih124 u113k u113 pM112 hM112 eM112 ua111 la111 ea111 h110 ua109 la109 ea109 h107 h105 pM101 hM101 eM101 hret C hp0 ha1 hpr hM0; omega))) (by (clear u134n hM133 eM133 ba132 ua132 la132 ua131 la131 u129w fM127 hM127 ih124 u113k u113 pM112 hM112 eM112 ua111 la111 ea111 h110 ua109 la109 ea109 h107 h105 pM101 hM101 eM101 hret C hp0 ha1 hpr hM0; omega)) (by (clear hM133 eM133 ba132 ua132 la132 ua131 la131 u129w fM127 hM127 ih124 u113k u113 pM112 hM112 eM112 ua111 la111 ea111 h110 ua109 la109 ea109 h107 h105 pM101 hM101 eM101 hret C hp0 ha1 hpr hM0; omega)) (by exact h128.2.2.1)
            have u134k := un_s (M := M127) (N := M133) (f := uR (M0.1 99) 49 ((M0.1 99 49).toInt - a1)) (x := a126) (x' := a126 + 1) (n := ((M0.1 99 49).toInt - a1).toNat) (by exact h128.2.2.2.1) eM133 (by rw [sI_o]) (by (clear u134 hM133 eM133 ba132 ua132 la132 ua131 la131 fM127 hM127 ih124 u113k u113 pM112 hM112 eM112 ua111 la111 ea111 h110 ua109 la109 h107 h105 pM101 hM101 eM101 hret C hp0 ha1 hpr hM0; omega))
            refine y_iinc C 1 [(2, .int (sI (a126 + 1))), (0, .ref (ad 98))] dX12_undo_79 rfl (by decide) rfl ?_
            refine j_goto C 44 dX12_undo_82 (by decide) ?_
            have zz99_49 : (M133.1 99 49).toInt = (M127.1 99 49).toInt := s_fb eM133 (by (clear u134k u134 u134n hM133 eM133 ba132 ua132 la132 ua131 la131 u129w fM127 hM127 ih124 u113k u113 pM112 hM112 eM112 ua111 la111 ea111 h110 ua109 la109 ea109 h107 h105 pM101 hM101 eM101 hret C hp0 ha1 hpr hM0; omega)) (rfl); refine j_lv [1, 0] rfl ?_; exact ih124 (a126 + 1) M133 (by exact ⟨(by (clear zz99_49 hM133 eM133 ba132 ua132 la132 ua131 la131 u129w fM127 hM127 ih124 u113k u113 pM112 hM112 eM112 ua111 la111 ea111 h110 ua109 la109 ea109 h107 h105 pM101 hM101 eM101 hret C hp0 ha1 hpr hM0; omega)), ⟨(by (clear zz99_49 hM133 eM133 ba132 ua132 la132 ua131 la131 u129w fM127 hM127 ih124 u113k u113 pM112 hM112 eM112 ua111 la111 ea111 h110 ua109 la109 ea109 h107 h105 pM101 hM101 eM101 hret C hp0 ha1 hpr hM0; omega)), ⟨u134, ⟨u134k, ⟨⟨(by (clear zz99_49 hM133 eM133 ba132 ua132 la132 ua131 la131 u129w fM127 hM127 ih124 u113k u113 pM112 hM112 eM112 ua111 la111 ea111 h110 ua109 la109 ea109 h107 h105 pM101 hM101 eM101 hret C hp0 ha1 hpr hM0; omega)), (by (clear zz99_49 hM133 eM133 ba132 ua132 la132 ua131 la131 u129w fM127 hM127 ih124 u113k u113 pM112 hM112 eM112 ua111 la111 ea111 h110 ua109 la109 ea109 h107 h105 pM101 hM101 eM101 hret C hp0 ha1 hpr hM0; omega))⟩, (by (clear zz99_49 hM133 eM133 ba132 ua132 la132 ua131 la131 u129w fM127 hM127 ih124 u113k u113 pM112 hM112 eM112 ua111 la111 ea111 h110 ua109 la109 ea109 h107 h105 pM101 hM101 eM101 hret C hp0 ha1 hpr hM0; omega))⟩⟩⟩⟩⟩) hM133 ((FR.rf.tr fM127 (by decide)).wI eM133 (by decide))
      have zz99_49 : (M112.1 99 49).toInt = ((M0.1 99 49).toInt - a1) := (Eq.trans (rfl : (M112.1 99 49).toInt = (M112.1 99 49).toInt) (s_wr eM112 (by (clear L125 u113k u113 pM112 hM112 eM112 ua111 la111 ea111 pM101 hM101 eM101 hret C hp0 hpr hM0; omega)))); refine j_lv [1, 0] rfl ?_; exact L125 2010 0 M112 (by exact ⟨(by decide), ⟨(by decide), ⟨u113, ⟨u113k, ⟨⟨(by (clear L125 pM112 hM112 eM112 ua111 la111 ea111 pM101 hM101 eM101 hret C hp0 hpr hM0; omega)), (by (clear L125 pM112 hM112 eM112 ua111 la111 ea111 pM101 hM101 eM101 hret C hp0 hpr hM0; omega))⟩, (by decide)⟩⟩⟩⟩⟩) hM112 ((FR.rf.wI eM101 (by decide)).wI eM112 (by decide))
    · refine y_bipush C dX12_undo_28 rfl ?_
      have u140k := uo_n (f := M0.1 99) (N := M101.1 99) (n := a1) (by omega) ((wI_cell eM101 (by decide)))
      exact hret _ _ _ _ dX12_undo_30 ⟨(-3), rfl, hM101, (FR.rf.wI eM101 (by decide)), by exact ⟨(by decide), ⟨(by decide), ⟨u140k.1.symm, ⟨u140k.2, pM101⟩⟩⟩⟩⟩
set_option maxHeartbeats 4000000 in
theorem s1_X12_noTray {l : Launch} {dC : Nat → ClassId} {dI : Nat → Nat → Nat} {ad : Nat → Nat} {cA : Nat → ClassId} {pr : Nat → Nat → Bool} {Kz : mm_M} {M0 : mm_M} (hM0 : INV pr Kz M0) (a1 : Int) (ha1 : -2147483648 ≤ a1 ∧ a1 ≤ 2147483647) : Ci l 1 yX12_noTray wsX12_noTray dC dI ad cA [.ref (ad 98), .int (sI a1)] M0 (fun r M' => ∃ a : Int, r = sI a ∧ M0 = M' ∧ (-6) ≤ a ∧ a ≤ 0 ∧ (0 ≤ (M0.1 115 (a1).toNat).toInt ∧ (M0.1 115 (a1).toNat).toInt ≤ 3 ∧ 0 ≤ a1 ∧ a1 ≤ 3 ∧ a = 0 ∨ (M0.1 115 (a1).toNat).toInt = -1 ∧ 0 ≤ a1 ∧ a1 ≤ 3 ∧ a = -6 ∨ (a1 < 0 ∨ 3 < a1) ∧ a = -2) ∧ (a = ntA M0 a1)) := by
  refine ci_of (cc := cX12_noTray) (maxL := 2) (ty := .int) (lv := [(0, .ref (ad 98)), (1, .int (sI a1))]) (by decide) rfl (fun r M' hp => rfl) (Nat.le_of_ble_eq_true rfl) rfl ?_
  intro p e s m args below meth c A Q C hret
  refine j_iload_n C 1 1 dX12_noTray_0 rfl rfl ?_
  refine y_i2l C dX12_noTray_1 (by exact ⟨ha1.1, ha1.2⟩) ?_
  refine y_lconst C 0 dX12_noTray_2 rfl ?_
  refine y_ldc2 C 3 dX12_noTray_3 kX12_noTray_325 rfl ?_
  refine j_callSi C (d := 0) (As := [.long (sJ a1), .long (sJ 0), .long (sJ 3)]) (st := []) (s1_X12_within hM0 a1 (by omega) 0 (by exact ⟨(by decide), (by decide)⟩) 3 (by exact ⟨(by decide), (by decide)⟩)) gX12_noTray_X12_within rfl hdX12_withins (by decide) (Nat.le_of_ble_eq_true rfl) dX12_noTray_6 rfl (fun r101 M102 h103 => ?_)
  obtain ⟨a105, rfl, rfl, h104⟩ := h103
  refine y_if_ne C 17 dX12_noTray_9 (by decide) (by omega) (fun h106 => ?_) (fun h106 => ?_)
  · refine j_aload_n C 0 0 dX12_noTray_17 rfl rfl ?_
    refine y_getC C 11 115 fX12_noTray_67 rfl rfl ft_11_29 sm_11_29 rfl hM0 dX12_noTray_18 ?_
    refine j_iload_n C 1 1 dX12_noTray_21 rfl rfl ?_
    refine y_iald C 61 4 _ _ rfl rfl rfl ak_61 an_61 rfl (sb_61 _) hM0 dX12_noTray_22 (by omega) (fun a107 ea107 la107 ua107 => ?_)
    obtain rfl : a107 = (M0.1 115 (a1).toNat).toInt := ea107
    refine y_iconst C dX12_noTray_23 ?_
    refine y_icmp_ne C 32 dX12_noTray_24 (by decide) (by exact ⟨⟨(by omega), (by omega)⟩, ⟨(by decide), (by decide)⟩⟩) (fun h108 => ?_) (fun h108 => ?_)
    · refine y_iconst C dX12_noTray_32 ?_
      have u109 := ntA_s M0 a1
      exact hret _ _ _ _ dX12_noTray_33 ⟨0, rfl, rfl, by exact ⟨(by decide), ⟨(by decide), ⟨(by omega), (by omega)⟩⟩⟩⟩
    · refine y_bipush C dX12_noTray_27 rfl ?_
      refine j_goto C 33 dX12_noTray_29 (by decide) ?_
      have u110 := ntA_s M0 a1
      exact hret _ _ _ _ dX12_noTray_33 ⟨(-6), rfl, rfl, by exact ⟨(by decide), ⟨(by decide), ⟨(by (clear ua107 la107 hret C hM0; omega)), (by (clear ua107 la107 hret C hM0; omega))⟩⟩⟩⟩
  · refine y_bipush C dX12_noTray_12 rfl ?_
    refine j_goto C 33 dX12_noTray_14 (by decide) ?_
    have u111 := ntA_s M0 a1
    exact hret _ _ _ _ dX12_noTray_33 ⟨(-2), rfl, rfl, by exact ⟨(by decide), ⟨(by decide), ⟨(by omega), (by omega)⟩⟩⟩⟩
set_option maxHeartbeats 4000000 in
theorem s1_X12_whyNot {l : Launch} {dC : Nat → ClassId} {dI : Nat → Nat → Nat} {ad : Nat → Nat} {cA : Nat → ClassId} {pr : Nat → Nat → Bool} {Kz : mm_M} {M0 : mm_M} (hM0 : INV pr Kz M0) (hpr : PM pr) (hcw : CWK pr Kz) (a1 : Int) (ha1 : -9223372036854775808 ≤ a1 ∧ a1 ≤ 9223372036854775807) (hp0 : b01 (PI M0) = 1) : Ci l 6 yX12_whyNot wsX12_whyNot dC dI ad cA [.ref (ad 98), .long (sJ a1)] M0 (fun r M' => ∃ a : Int, r = sI a ∧ INV pr Kz M' ∧ FR [103, 104] M0 M' ∧ 0 ≤ a ∧ a ≤ 3 ∧ (a = (wnF (M0.1 99) a1)) ∧ (a = 0 ∧ (a1 = -1 ∨ 0 ≤ a1 ∧ a1 ≤ 5 ∧ 0 ≤ bnF (M0.1 99) a1 ∨ 100 ≤ a1 ∧ a1 ≤ 107 ∨ 200 ≤ a1 ∧ a1 ≤ 207 ∨ 1000 ≤ a1 ∧ a1 ≤ 1799) ∨ 1 ≤ a ∧ a ≤ 3) ∧ (b01 (PI M') = 1)) := by
  refine ci_of (cc := cX12_whyNot) (maxL := 3) (ty := .int) (lv := [(0, .ref (ad 98)), (1, .long (sJ a1))]) (by decide) rfl (fun r M' hp => rfl) (Nat.le_of_ble_eq_true rfl) rfl ?_
  intro p e s m args below meth c A Q C hret
  refine j_lload_n C 1 1 dX12_whyNot_0 rfl rfl ?_
  refine y_ldc2 C (-1) dX12_whyNot_1 kX12_whyNot_302 rfl ?_
  refine y_lcmp_ne C 10 dX12_whyNot_4 dX12_whyNot_5 (by decide) (by exact ⟨⟨ha1.1, ha1.2⟩, ⟨(by decide), (by decide)⟩⟩) (fun h101 => ?_) (fun h101 => ?_)
  · refine j_lload_n C 1 1 dX12_whyNot_10 rfl rfl ?_
    refine y_lconst C 0 dX12_whyNot_11 rfl ?_
    refine y_ldc2 C 9 dX12_whyNot_12 kX12_whyNot_291 rfl ?_
    refine j_callSi C (d := 0) (As := [.long (sJ a1), .long (sJ 0), .long (sJ 9)]) (st := []) (s1_X12_within hM0 a1 (by exact ⟨ha1.1, ha1.2⟩) 0 (by exact ⟨(by decide), (by decide)⟩) 9 (by exact ⟨(by decide), (by decide)⟩)) gX12_whyNot_X12_within rfl hdX12_withins (by decide) (Nat.le_of_ble_eq_true rfl) dX12_whyNot_15 rfl (fun r102 M103 h104 => ?_)
    obtain ⟨a106, rfl, rfl, h105⟩ := h104
    refine y_if_eq C 27 dX12_whyNot_18 (by decide) (by omega) (fun h107 => ?_) (fun h107 => ?_)
    · refine j_lload_n C 1 1 dX12_whyNot_27 rfl rfl ?_
      refine y_ldc2 C 100 dX12_whyNot_28 kX12_whyNot_304 rfl ?_
      refine y_ldc2 C 109 dX12_whyNot_31 kX12_whyNot_306 rfl ?_
      refine j_callSi C (d := 0) (As := [.long (sJ a1), .long (sJ 100), .long (sJ 109)]) (st := []) (s1_X12_within hM0 a1 (by exact ⟨ha1.1, ha1.2⟩) 100 (by exact ⟨(by decide), (by decide)⟩) 109 (by exact ⟨(by decide), (by decide)⟩)) gX12_whyNot_X12_within rfl hdX12_withins (by decide) (Nat.le_of_ble_eq_true rfl) dX12_whyNot_34 rfl (fun r108 M109 h110 => ?_)
      obtain ⟨a112, rfl, rfl, h111⟩ := h110
      refine y_if_eq C 50 dX12_whyNot_37 (by decide) (by omega) (fun h113 => ?_) (fun h113 => ?_)
      · refine j_lload_n C 1 1 dX12_whyNot_50 rfl rfl ?_
        refine y_ldc2 C 200 dX12_whyNot_51 kX12_whyNot_308 rfl ?_
        refine y_ldc2 C 209 dX12_whyNot_54 kX12_whyNot_310 rfl ?_
        refine j_callSi C (d := 0) (As := [.long (sJ a1), .long (sJ 200), .long (sJ 209)]) (st := []) (s1_X12_within hM0 a1 (by exact ⟨ha1.1, ha1.2⟩) 200 (by exact ⟨(by decide), (by decide)⟩) 209 (by exact ⟨(by decide), (by decide)⟩)) gX12_whyNot_X12_within rfl hdX12_withins (by decide) (Nat.le_of_ble_eq_true rfl) dX12_whyNot_57 rfl (fun r114 M115 h116 => ?_)
        obtain ⟨a118, rfl, rfl, h117⟩ := h116
        refine y_if_eq C 73 dX12_whyNot_60 (by decide) (by omega) (fun h119 => ?_) (fun h119 => ?_)
        · refine j_lload_n C 1 1 dX12_whyNot_73 rfl rfl ?_
          refine y_ldc2 C 1000 dX12_whyNot_74 kX12_whyNot_312 rfl ?_
          refine y_ldc2 C 1999 dX12_whyNot_77 kX12_whyNot_314 rfl ?_
          refine j_callSi C (d := 0) (As := [.long (sJ a1), .long (sJ 1000), .long (sJ 1999)]) (st := []) (s1_X12_within hM0 a1 (by exact ⟨ha1.1, ha1.2⟩) 1000 (by exact ⟨(by decide), (by decide)⟩) 1999 (by exact ⟨(by decide), (by decide)⟩)) gX12_whyNot_X12_within rfl hdX12_withins (by decide) (Nat.le_of_ble_eq_true rfl) dX12_whyNot_80 rfl (fun r120 M121 h122 => ?_)
          obtain ⟨a124, rfl, rfl, h123⟩ := h122
          refine y_if_eq C 107 dX12_whyNot_83 (by decide) (by omega) (fun h125 => ?_) (fun h125 => ?_)
          · refine y_iconst C dX12_whyNot_107 ?_
            have u126 := wnF_s (M0.1 99) a1
            exact hret _ _ _ _ dX12_whyNot_108 ⟨1, rfl, hM0, FR.rf, by exact ⟨(by decide), ⟨(by decide), ⟨(by (clear hret C hcw hpr hM0; omega)), ⟨(by (clear hret C hcw hpr hM0; omega)), hp0⟩⟩⟩⟩⟩
          · refine j_aload_n C 0 0 dX12_whyNot_86 rfl rfl ?_
            refine j_lload_n C 1 1 dX12_whyNot_87 rfl rfl ?_
            refine y_ldc2 C 1000 dX12_whyNot_88 kX12_whyNot_312 rfl ?_
            refine y_lsub C dX12_whyNot_91 ?_
            refine y_ldc2 C 100 dX12_whyNot_92 kX12_whyNot_304 rfl ?_
            refine y_ldiv C dX12_whyNot_95 (by exact ⟨(by (clear h119 h117 h113 h111 h107 h105 h101 hret C hp0 hcw hpr hM0; omega)), ⟨(by (clear h119 h117 h113 h111 h107 h105 h101 hret C hp0 hcw hpr hM0; omega)), ⟨(by decide), (by decide)⟩⟩⟩) ?_
            refine j_lload_n C 1 1 dX12_whyNot_96 rfl rfl ?_
            refine y_ldc2 C 100 dX12_whyNot_97 kX12_whyNot_304 rfl ?_
            refine y_lrem C dX12_whyNot_100 (by exact ⟨(by (clear h119 h117 h113 h111 h107 h105 h101 hret C hp0 hcw hpr hM0; omega)), ⟨ha1.2, ⟨(by decide), (by decide)⟩⟩⟩) ?_
            refine j_callVi C (d := 4) (As := [.long (sJ ((a1 - 1000) / 100)), .long (sJ (a1 % 100))]) (st := []) 98 (s_lt rfl rfl) (s_kc (c := 11) rfl rfl) (by decide) rfl (s1_X12_whyPrice hM0 ((a1 - 1000) / 100) (by (clear h125 h123 h119 h117 h113 h111 h107 h105 h101 hret C hp0 hcw hpr hM0; omega)) (a1 % 100) (by (clear h125 h123 h119 h117 h113 h111 h107 h105 h101 hret C hp0 ha1 hcw hpr hM0; omega))) gX12_whyNot_X12_whyPrice rfl hdX12_whyPrice (by decide) (Nat.le_of_ble_eq_true rfl) dX12_whyNot_101 rfl (fun r127 M128 h129 => ?_)
            obtain ⟨a131, rfl, rfl, h130⟩ := h129
            obtain rfl : a131 = (wpF (M0.1 99) ((a1 - 1000) / 100) (a1 % 100)) := by exact h130.2.2.1
            refine j_goto C 108 dX12_whyNot_104 (by decide) ?_
            have u132 := wnF_s (M0.1 99) a1
            exact hret _ _ _ _ dX12_whyNot_108 ⟨(wpF (M0.1 99) ((a1 - 1000) / 100) (a1 % 100)), rfl, hM0, FR.rf, by exact ⟨h130.1, ⟨(by (clear h119 h117 h113 h111 h107 h105 h101 hret C hcw hpr hM0; omega)), ⟨(by (clear h119 h117 h113 h111 h107 h105 h101 hret C hcw hpr hM0; omega)), ⟨(by (clear h119 h117 h113 h111 h107 h105 h101 hret C hcw hpr hM0; omega)), hp0⟩⟩⟩⟩⟩
        · refine j_aload_n C 0 0 dX12_whyNot_63 rfl rfl ?_
          refine j_lload_n C 1 1 dX12_whyNot_64 rfl rfl ?_
          refine y_ldc2 C 200 dX12_whyNot_65 kX12_whyNot_308 rfl ?_
          refine y_lsub C dX12_whyNot_68 ?_
          refine j_callVi C (d := 4) (As := [.long (sJ (a1 - 200))]) (st := []) 98 (s_lt rfl rfl) (s_kc (c := 11) rfl rfl) (by decide) rfl (s1_X12_whyKind hM0 (a1 - 200) (by (clear h113 h111 h107 h105 h101 hret C hp0 hcw hpr hM0; omega))) gX12_whyNot_X12_whyKind rfl hdX12_whyKind (by decide) (Nat.le_of_ble_eq_true rfl) dX12_whyNot_69 rfl (fun r133 M134 h135 => ?_)
          obtain ⟨a137, rfl, rfl, h136⟩ := h135
          obtain rfl : a137 = (wkF (M0.1 99) (a1 - 200)) := by exact h136.2.2.1
          have u138 := wnF_s (M0.1 99) a1
          exact hret _ _ _ _ dX12_whyNot_72 ⟨(wkF (M0.1 99) (a1 - 200)), rfl, hM0, FR.rf, by exact ⟨h136.1, ⟨(by (clear h113 h111 h107 h105 h101 hret C hcw hpr hM0; omega)), ⟨(by (clear h113 h111 h107 h105 h101 hret C hcw hpr hM0; omega)), ⟨(by (clear h113 h111 h107 h105 h101 hret C hcw hpr hM0; omega)), hp0⟩⟩⟩⟩⟩
      · refine j_aload_n C 0 0 dX12_whyNot_40 rfl rfl ?_
        refine j_lload_n C 1 1 dX12_whyNot_41 rfl rfl ?_
        refine y_ldc2 C 100 dX12_whyNot_42 kX12_whyNot_304 rfl ?_
        refine y_lsub C dX12_whyNot_45 ?_
        refine j_callVi C (d := 4) (As := [.long (sJ (a1 - 100))]) (st := []) 98 (s_lt rfl rfl) (s_kc (c := 11) rfl rfl) (by decide) rfl (s1_X12_whyKind hM0 (a1 - 100) (by (clear h107 h105 h101 hret C hp0 hcw hpr hM0; omega))) gX12_whyNot_X12_whyKind rfl hdX12_whyKind (by decide) (Nat.le_of_ble_eq_true rfl) dX12_whyNot_46 rfl (fun r139 M140 h141 => ?_)
        obtain ⟨a143, rfl, rfl, h142⟩ := h141
        obtain rfl : a143 = (wkF (M0.1 99) (a1 - 100)) := by exact h142.2.2.1
        have u144 := wnF_s (M0.1 99) a1
        exact hret _ _ _ _ dX12_whyNot_49 ⟨(wkF (M0.1 99) (a1 - 100)), rfl, hM0, FR.rf, by exact ⟨h142.1, ⟨(by (clear h107 h105 h101 hret C hcw hpr hM0; omega)), ⟨(by (clear h107 h105 h101 hret C hcw hpr hM0; omega)), ⟨(by (clear h107 h105 h101 hret C hcw hpr hM0; omega)), hp0⟩⟩⟩⟩⟩
    · refine j_aload_n C 0 0 dX12_whyNot_21 rfl rfl ?_
      refine j_lload_n C 1 1 dX12_whyNot_22 rfl rfl ?_
      refine j_callVi C (d := 5) (As := [.long (sJ a1)]) (st := []) 98 (s_lt rfl rfl) (s_kc (c := 11) rfl rfl) (by decide) rfl (s1_X12_whyVisit hM0 hpr hcw a1 (by exact ⟨ha1.1, ha1.2⟩) (by exact hp0)) gX12_whyNot_X12_whyVisit rfl hdX12_whyVisit (by decide) (Nat.le_of_ble_eq_true rfl) dX12_whyNot_23 rfl (fun r145 M146 h147 => ?_)
      obtain ⟨a149, rfl, hM146, fM146, h148⟩ := h147
      obtain rfl : a149 = (wvF (M0.1 99) a1) := by exact h148.2.2.1
      have u150 := wnF_s (M0.1 99) a1
      exact hret _ _ _ _ dX12_whyNot_26 ⟨(wvF (M0.1 99) a1), rfl, hM146, (FR.rf.tr fM146 (by decide)), by exact ⟨h148.1, ⟨h148.2.1, ⟨(by (clear fM146 hM146 h101 hret C hp0 hcw hpr hM0; omega)), ⟨(by (clear fM146 hM146 h101 hret C hp0 hcw hpr hM0; omega)), h148.2.2.2.2⟩⟩⟩⟩⟩
  · refine y_iconst C dX12_whyNot_8 ?_
    have u151 := wnF_s (M0.1 99) a1
    exact hret _ _ _ _ dX12_whyNot_9 ⟨0, rfl, hM0, FR.rf, by exact ⟨(by decide), ⟨(by decide), ⟨(by (clear hret C ha1 hcw hpr hM0; omega)), ⟨(by (clear hret C ha1 hcw hpr hM0; omega)), hp0⟩⟩⟩⟩⟩
set_option maxHeartbeats 4000000 in
theorem s1_X12_does {l : Launch} {dC : Nat → ClassId} {dI : Nat → Nat → Nat} {ad : Nat → Nat} {cA : Nat → ClassId} {pr : Nat → Nat → Bool} {Kz : mm_M} {M0 : mm_M} (hM0 : INV pr Kz M0) (hpr : PM pr) (hcw : CWK pr Kz) (a1 : Int) (ha1 : -2147483648 ≤ a1 ∧ a1 ≤ 2147483647) (hp0 : (a1 = -1 ∨ 0 ≤ a1 ∧ a1 ≤ 5 ∧ 0 ≤ bnF (M0.1 99) a1 ∨ 100 ≤ a1 ∧ a1 ≤ 107 ∨ 200 ≤ a1 ∧ a1 ≤ 207 ∨ 1000 ≤ a1 ∧ a1 ≤ 1799)) (hp1 : (-1) ≤ a1 ∧ a1 ≤ 1799) (hp2 : b01 (PI M0) = 1) : Cv l 7 yX12_does wsX12_does dC dI ad cA [.ref (ad 98), .int (sI a1)] M0 (fun M' => INV pr Kz M' ∧ FR [99, 103, 104] M0 M' ∧ (b01 (M'.1 99 = doS (M0.1 99) a1) = 1) ∧ (b01 (PI M') = 1)) := by
  refine cv_of (cc := cX12_does) (maxL := 2) (lv := [(0, .ref (ad 98)), (1, .int (sI a1))]) (by decide) rfl (Nat.le_of_ble_eq_true rfl) rfl ?_
  intro p e s m args below meth c A Q C hret
  refine j_iload_n C 1 1 dX12_does_0 rfl rfl ?_
  refine y_iconst C dX12_does_1 ?_
  have J132 : ∀ (M131 : mm_M), ((b01 (M131.1 99 = doS (M0.1 99) a1) = 1) ∧ (b01 (PI M131) = 1)) → INV pr Kz M131 → FR [99, 103, 104] M0 M131 → jj p l e (cn_R 7) s m args below meth c 0 0 Q 2 dC dI ad cA A M131 96 [] [] := by
    intro M131 h133 hM131 fM131
    exact hret _ _ _ dX12_does_96 ⟨hM131, (FR.rf.tr fM131 (by decide)), by exact ⟨h133.1, h133.2⟩⟩
  refine y_icmp_ne C 13 dX12_does_2 (by decide) (by exact ⟨⟨ha1.1, ha1.2⟩, ⟨(by decide), (by decide)⟩⟩) (fun h101 => ?_) (fun h101 => ?_)
  · refine j_iload_n C 1 1 dX12_does_13 rfl rfl ?_
    refine y_bipush C dX12_does_14 rfl ?_
    refine y_icmp_ge C 28 dX12_does_16 (by decide) (by exact ⟨⟨ha1.1, ha1.2⟩, ⟨(by decide), (by decide)⟩⟩) (fun h102 => ?_) (fun h102 => ?_)
    · refine j_iload_n C 1 1 dX12_does_28 rfl rfl ?_
      refine y_sipush C dX12_does_29 rfl ?_
      refine y_icmp_ge C 49 dX12_does_32 (by decide) (by exact ⟨⟨ha1.1, ha1.2⟩, ⟨(by decide), (by decide)⟩⟩) (fun h103 => ?_) (fun h103 => ?_)
      · refine j_iload_n C 1 1 dX12_does_49 rfl rfl ?_
        refine y_sipush C dX12_does_50 rfl ?_
        refine y_icmp_ge C 76 dX12_does_53 (by decide) (by exact ⟨⟨ha1.1, ha1.2⟩, ⟨(by decide), (by decide)⟩⟩) (fun h104 => ?_) (fun h104 => ?_)
        · have u105 : 1000 ≤ a1 ∧ a1 ≤ 1799 := by exact ⟨h104, hp1.2⟩
          refine j_aload_n C 0 0 dX12_does_76 rfl rfl ?_
          refine y_getC C 11 99 fX12_does_13 rfl rfl ft_11_1 sm_11_1 rfl hM0 dX12_does_77 ?_
          refine y_bipush C dX12_does_80 rfl ?_
          refine j_iload_n C 1 1 dX12_does_82 rfl rfl ?_
          refine y_sipush C dX12_does_83 rfl ?_
          refine y_isub C dX12_does_86 ?_
          refine y_bipush C dX12_does_87 rfl ?_
          refine y_idiv C dX12_does_89 (by exact ⟨(by (clear u105 h101 J132 hret C hp2 hp0 hcw hpr hM0; omega)), ⟨(by (clear u105 h101 J132 hret C hp2 hp0 hcw hpr hM0; omega)), ⟨(by decide), (by decide)⟩⟩⟩) ?_
          refine y_iadd C dX12_does_90 ?_
          refine j_iload_n C 1 1 dX12_does_91 rfl rfl ?_
          refine y_bipush C dX12_does_92 rfl ?_
          refine y_irem C dX12_does_94 (by exact ⟨(by (clear u105 h101 J132 hret C hp2 hp0 hcw hpr hM0; omega)), ⟨ha1.2, ⟨(by decide), (by decide)⟩⟩⟩) ?_
          refine y_iastH C 45 3543 rfl rfl rfl ak_45 an_45 rfl _ _ hM0 (PM.w hpr rfl (hm_33_40 _ (by (clear u105 h101 J132 hret C hp2 hp0 hcw hpr hM0; omega)) (by (clear u105 h101 J132 hret C hp2 hp0 hcw hpr hM0; omega)))) (hs_45_33_40 _ (by omega) (by omega)) dX12_does_95 (by (clear u105 h101 J132 hret C hp2 hp0 hcw hpr hM0; omega)) (by (clear u105 h104 h103 h102 h101 J132 hret C hp2 hp1 hp0 ha1 hcw hpr hM0; omega)) (fun M106 eM106 hM106 => ?_)
          have pM106 := pi_n eM106 (hn_33_40 _ (by omega) (by omega)) (by exact hp2)
          have u107k : b01 (M106.1 99 = doS (M0.1 99) a1) = 1 := b01_i ((uR_w eM106).trans (do_p (f := M0.1 99)  (v := a1) (by exact h104)).symm)
          refine j_lv [] rfl ?_; exact J132 M106 (by exact ⟨u107k, pM106⟩) hM106 (FR.rf.wI eM106 (by decide))
        · have u108 : 200 ≤ a1 ∧ a1 ≤ 207 := by exact ⟨h103, (by (clear J132 hret C hp2 hcw hpr hM0; omega))⟩
          refine j_aload_n C 0 0 dX12_does_56 rfl rfl ?_
          refine y_getC C 11 99 fX12_does_13 rfl rfl ft_11_1 sm_11_1 rfl hM0 dX12_does_57 ?_
          refine y_bipush C dX12_does_60 rfl ?_
          refine j_dup2 C dX12_does_62 rfl rfl ?_
          refine y_ialdH C 45 3543 rfl rfl rfl ak_45 an_45 rfl _ _ hM0 (hr_45_28_28 _ (by exact (by decide)) (by exact (by decide))) dX12_does_63 (by exact ⟨(by decide), (by decide)⟩) (fun a109 ea109 la109 ua109 => ?_)
          obtain rfl : a109 = (M0.1 99 28).toInt := ea109
          refine y_iconst C dX12_does_64 ?_
          refine j_iload_n C 1 1 dX12_does_65 rfl rfl ?_
          refine y_sipush C dX12_does_66 rfl ?_
          refine y_isub C dX12_does_69 ?_
          refine e_shl1 C 7 128 dX12_does_70 rfl (by decide) (by (clear ua109 la109 h101 J132 hret C hp2 hp0 hcw hpr hM0; omega)) (fun lb110 ub110 => ?_)
          refine e_ixorN C 8 255 dX12_does_71 rfl (by decide) (by exact ⟨la109, ⟨ua109, ⟨(by (clear u108 h104 h103 h102 h101 J132 hret C hp2 hp1 hp0 ha1 hcw hpr hM0; omega)), (by (clear u108 h104 h103 h102 h101 J132 hret C hp2 hp1 hp0 ha1 hcw hpr hM0; omega))⟩⟩⟩) (fun lb111 ub111 => ?_)
          refine y_iastH C 45 3543 rfl rfl rfl ak_45 an_45 rfl _ _ hM0 (PM.w hpr rfl (hm_28_28 _ (by exact (by decide)) (by exact (by decide)))) (hs_45_28_28 _ (by exact (by decide)) (by exact (by decide))) dX12_does_72 (by exact ⟨(by decide), (by decide)⟩) (by exact ⟨⟨(by (clear ub110 lb110 ua109 la109 u108 h104 h103 h102 h101 J132 hret C hp2 hp1 hp0 ha1 hcw hpr hM0; omega)), (by (clear ub110 lb110 ua109 la109 u108 h104 h103 h102 h101 J132 hret C hp2 hp1 hp0 ha1 hcw hpr hM0; omega))⟩, ⟨lb111, ub111⟩⟩) (fun M112 eM112 hM112 => ?_)
          have pM112 := pi_n eM112 (hn_28_28 _ (by exact (by decide)) (by exact (by decide))) (by exact hp2)
          refine j_goto C 96 dX12_does_73 (by decide) ?_
          have u113k : b01 (M112.1 99 = doS (M0.1 99) a1) = 1 := b01_i ((uR_w eM112).trans (do_h (f := M0.1 99)  (v := a1) (by exact ⟨h103, (by (clear pM112 hM112 eM112 ub111 lb111 ub110 lb110 ua109 la109 h101 J132 hret C hp2 hp0 hcw hpr hM0; omega))⟩)).symm)
          refine j_lv [] rfl ?_; exact J132 M112 (by exact ⟨u113k, pM112⟩) hM112 (FR.rf.wI eM112 (by decide))
      · refine j_aload_n C 0 0 dX12_does_35 rfl rfl ?_
        refine y_getC C 11 99 fX12_does_13 rfl rfl ft_11_1 sm_11_1 rfl hM0 dX12_does_36 ?_
        refine y_bipush C dX12_does_39 rfl ?_
        refine j_dup2 C dX12_does_41 rfl rfl ?_
        refine y_ialdF C 45 3543 rfl rfl rfl ak_45 an_45 rfl dX12_does_42 (by exact ⟨(by decide), (by decide)⟩) (fun a114 ea114 la114 ua114 => ?_)
        obtain rfl : a114 = (M0.1 99 30).toInt := ea114
        refine y_iconst C dX12_does_43 ?_
        refine e_iadd C dX12_does_44 (fun lb115 ub115 => ?_)
        refine y_iastH C 45 3543 rfl rfl rfl ak_45 an_45 rfl _ _ hM0 (PM.w hpr rfl (hm_30_30 _ (by exact (by decide)) (by exact (by decide)))) (hs_45_30_30 _ (by exact (by decide)) (by exact (by decide))) dX12_does_45 (by exact ⟨(by decide), (by decide)⟩) (by exact ⟨⟨lb115, ub115⟩, ⟨lb115, ub115⟩⟩) (fun M116 eM116 hM116 => ?_)
        have pM116 := pi_n eM116 (hn_30_30 _ (by exact (by decide)) (by exact (by decide))) (by exact hp2)
        refine j_goto C 96 dX12_does_46 (by decide) ?_
        have u117k : b01 (M116.1 99 = doS (M0.1 99) a1) = 1 := b01_i ((uR_w eM116).trans (do_g (f := M0.1 99)  (v := a1) (by exact ⟨h102, (by omega)⟩)).symm)
        refine j_lv [] rfl ?_; exact J132 M116 (by exact ⟨u117k, pM116⟩) hM116 (FR.rf.wI eM116 (by decide))
    · have u118 : 0 ≤ a1 ∧ a1 ≤ 5 := by (clear J132 hret C hp2 hcw hpr hM0; omega)
      refine j_aload_n C 0 0 dX12_does_19 rfl rfl ?_
      refine j_iload_n C 1 1 dX12_does_20 rfl rfl ?_
      refine j_callVi C (d := 5) (As := [.int (sI a1)]) (st := []) 98 (s_lt rfl rfl) (s_kc (c := 11) rfl rfl) (by decide) rfl (s1_X12_visits hM0 hpr hcw a1 (by exact ⟨ha1.1, ha1.2⟩) (by (clear J132 hret C hp2 hcw hpr hM0; omega)) (by exact ⟨u118.1, u118.2⟩) (by exact hp2)) gX12_does_X12_visits rfl hdX12_visits (by decide) (Nat.le_of_ble_eq_true rfl) dX12_does_21 rfl (fun r119 M120 h121 => ?_)
      obtain ⟨a123, rfl, hM120, fM120, h122⟩ := h121
      refine j_pop C dX12_does_24 rfl ?_
      refine j_goto C 96 dX12_does_25 (by decide) ?_
      have u124k : b01 (M120.1 99 = doS (M0.1 99) a1) = 1 := b01_i ((b01_e (P := M120.1 99 = vsS (M0.1 99) a1) (by exact h122.2.2.2.1)).trans (do_v (f := M0.1 99)  (by exact ⟨u118.1, (by (clear h122 fM120 hM120 h101 J132 hret C hp2 hp0 hcw hpr hM0; omega))⟩)).symm)
      refine j_lv [] rfl ?_; exact J132 M120 (by exact ⟨u124k, h122.2.2.2.2⟩) hM120 (FR.rf.tr fM120 (by decide))
  · refine j_aload_n C 0 0 dX12_does_5 rfl rfl ?_
    refine j_callVi C (d := 6) (As := []) (st := []) 98 (s_lt rfl rfl) (s_kc (c := 11) rfl rfl) (by decide) rfl (s1_X12_goesDay hM0 hpr hcw (by exact hp2)) gX12_does_X12_goesDay rfl hdX12_goesDay (by decide) (Nat.le_of_ble_eq_true rfl) dX12_does_6 rfl (fun r125 M126 h127 => ?_)
    obtain ⟨a129, rfl, hM126, fM126, h128⟩ := h127
    refine j_pop C dX12_does_9 rfl ?_
    refine j_goto C 96 dX12_does_10 (by decide) ?_
    have u130k : b01 (M126.1 99 = doS (M0.1 99) a1) = 1 := b01_i ((b01_e (P := M126.1 99 = dyS (M0.1 99)) (by exact h128.2.2.2.1)).trans (do_m (f := M0.1 99)  (by exact h101)).symm)
    refine j_lv [] rfl ?_; exact J132 M126 (by exact ⟨u130k, h128.2.2.2.2⟩) hM126 (FR.rf.tr fM126 (by decide))
set_option maxHeartbeats 4000000 in
theorem s1_X12_tells {l : Launch} {dC : Nat → ClassId} {dI : Nat → Nat → Nat} {ad : Nat → Nat} {cA : Nat → ClassId} {pr : Nat → Nat → Bool} {Kz : mm_M} {M0 : mm_M} (hM0 : INV pr Kz M0) (hpr : PM pr) (hcw : CWK pr Kz) (a1 : Int) (ha1 : -2147483648 ≤ a1 ∧ a1 ≤ 2147483647) (hp0 : 0 ≤ a1 ∧ a1 ≤ 3) (hp1 : b01 (PI M0) = 1) : Ci l 8 yX12_tells wsX12_tells dC dI ad cA [.ref (ad 98), .int (sI a1)] M0 (fun r M' => ∃ a : Int, r = sI a ∧ INV pr Kz M' ∧ FR [98, 99, 103, 104] M0 M' ∧ 0 ≤ a ∧ a ≤ 40 ∧ (b01 (TLM M0 M' a1 a) = 1) ∧ (b01 (PI M') = 1)) := by
  refine ci_of (cc := cX12_tells) (maxL := 3) (ty := .int) (lv := [(0, .ref (ad 98)), (1, .int (sI a1))]) (by decide) rfl (fun r M' hp => rfl) (Nat.le_of_ble_eq_true rfl) rfl ?_
  intro p e s m args below meth c A Q C hret
  have u101k := INV.rd hM0 (i := 116) (c := 62) (k := (a1).toNat) rfl (show s_b 62 _ = (0, 40) from rfl)
  refine j_aload_n C 0 0 dX12_tells_0 rfl rfl ?_
  refine y_iconst C dX12_tells_1 ?_
  refine y_putIF C 11 qX12_tells_316 rfl rfl ft_11_18 sb_11_18 hM0 (PM.w hpr rfl rfl) dX12_tells_2 (fun M102 eM102 hM102 => ?_)
  have pM102 := pi_o eM102 (by decide) (by decide) (by exact hp1)
  refine y_iconst C dX12_tells_5 ?_
  refine j_istore_n C 2 [(2, .int (sI 0)), (0, .ref (ad 98)), (1, .int (sI a1))] dX12_tells_6 rfl (by decide) rfl ?_
  have u103z := tl_0 (M0.1 99) (tyM M0 a1)
  have u103e : b01 (M102.1 99 = (tlF (M0.1 99) (tyM M0 a1) (0 : Int).toNat).1) = 1 := b01_i ((((wI_cell eM102 (by decide)))).trans (b01_e u103z.1))
  have u103w : (M102.1 98 18).toInt = 0 := s_wr eM102 (by exact ⟨(by decide), (by decide)⟩)
  have L136 : ∀ (n134 : Nat), ∀ (a137 : Int) (M138 : mm_M), (0 ≤ a137 ∧ a137 ≤ 40 ∧ (b01 (M138.1 99 = (tlF (M0.1 99) (tyM M0 a1) (a137).toNat).1) = 1) ∧ ((tlF (M0.1 99) (tyM M0 a1) (a137).toNat).2.1 = 0) ∧ ((tlF (M0.1 99) (tyM M0 a1) (a137).toNat).2.2 = a137) ∧ ((M138.1 98 18).toInt = 0) ∧ (a137 ≤ (M0.1 116 (a1).toNat).toInt) ∧ (b01 (PI M138) = 1) ∧ (40 - a137) < (n134 : Int)) → INV pr Kz M138 → FR [98, 99, 103, 104] M0 M138 → jj p l e (cn_R 8) s m args below meth c 0 0 Q 3 dC dI ad cA A M138 7 [(0, .ref (ad 98)), (1, .int (sI a1)), (2, .int (sI a137))] [] := by
    intro n134
    induction n134 with
    | zero =>
      intro a137 M138 h139 hM138 fM138
      exfalso; (clear fM138 hM138 u103w u103e u103z pM102 hM102 eM102 u101k hret C hp1 hp0 ha1 hcw hpr hM0; omega)
    | succ n134 ih135 =>
      intro a137 M138 h139 hM138 fM138
      refine j_iload_n C 2 2 dX12_tells_7 rfl rfl ?_
      refine j_aload_n C 0 0 dX12_tells_8 rfl rfl ?_
      refine y_getC C 11 116 fX12_tells_70 rfl rfl ft_11_30 sm_11_30 rfl hM138 dX12_tells_9 ?_
      refine j_iload_n C 1 1 dX12_tells_12 rfl rfl ?_
      refine y_iald C 62 4 _ _ rfl rfl rfl ak_62 an_62 rfl (sb_62 _) hM138 dX12_tells_13 (by exact ⟨hp0.1, (by omega)⟩) (fun a140 ea140 la140 ua140 => ?_)
      obtain rfl : a140 = (M0.1 116 (a1).toNat).toInt := s_fF fM138 (by decide) (ea140)
      refine y_icmp_ge C 67 dX12_tells_14 (by decide) (by (clear ua140 la140 fM138 hM138 ih135 u103w u103e u103z pM102 hM102 eM102 hret C hp1 hp0 ha1 hcw hpr hM0; omega)) (fun h141 => ?_) (fun h141 => ?_)
      · refine j_aload_n C 0 0 dX12_tells_67 rfl rfl ?_
        refine y_getC C 11 116 fX12_tells_70 rfl rfl ft_11_30 sm_11_30 rfl hM138 dX12_tells_68 ?_
        refine j_iload_n C 1 1 dX12_tells_71 rfl rfl ?_
        refine y_iald C 62 4 _ _ rfl rfl rfl ak_62 an_62 rfl (sb_62 _) hM138 dX12_tells_72 (by exact ⟨hp0.1, (by omega)⟩) (fun a143 ea143 la143 ua143 => ?_)
        obtain rfl : a143 = (M0.1 116 (a1).toNat).toInt := s_fF fM138 (by decide) (ea143)
        have u144x : a137 = (M0.1 116 (a1).toNat).toInt := by (clear ua143 la143 ea143 ua140 la140 fM138 hM138 ih135 u103w u103e u103z pM102 hM102 eM102 u101k hret C hp1 hp0 ha1 hcw hpr hM0; omega)
        have u144r : b01 (TLM M0 M138 a1 (M0.1 116 (a1).toNat).toInt) = 1 := b01_i (by unfold TLM tqF; rw [← u144x]; exact ⟨b01_e (by exact h139.2.2.1), by (clear u144x ua143 la143 ea143 h141 ua140 la140 ea140 fM138 hM138 ih135 u103w u103e u103z pM102 hM102 eM102 u101k hret C hp1 hp0 ha1 hcw hpr hM0; omega), by exact h139.2.2.2.2.1.symm⟩)
        exact hret _ _ _ _ dX12_tells_73 ⟨(M0.1 116 (a1).toNat).toInt, rfl, hM138, (FR.rf.tr fM138 (by decide)), by exact ⟨u101k.1, ⟨u101k.2, ⟨u144r, h139.2.2.2.2.2.2.2.1⟩⟩⟩⟩
      · refine j_aload_n C 0 0 dX12_tells_17 rfl rfl ?_
        refine j_aload_n C 0 0 dX12_tells_18 rfl rfl ?_
        refine j_aload_n C 0 0 dX12_tells_19 rfl rfl ?_
        refine y_getC C 11 117 fX12_tells_73 rfl rfl ft_11_31 sm_11_31 rfl hM138 dX12_tells_20 ?_
        refine y_bipush C dX12_tells_23 rfl ?_
        refine j_iload_n C 1 1 dX12_tells_25 rfl rfl ?_
        refine y_imul C dX12_tells_26 ?_
        refine j_iload_n C 2 2 dX12_tells_27 rfl rfl ?_
        refine y_iadd C dX12_tells_28 ?_
        refine y_lald C 63 160 rfl rfl rfl ak_63 an_63 rfl dX12_tells_29 (by (clear ua140 la140 fM138 hM138 ih135 u103w u103e u103z pM102 hM102 eM102 hret C hp1 hcw hpr hM0; omega)) (fun a146 ea146 la146 ua146 => ?_)
        obtain rfl : a146 = (M0.2.1 117 (((40 * a1) + a137)).toNat).toInt := s_gF fM138 (by decide) (ea146)
        refine j_callVi C (d := 6) (As := [.long (sJ (M0.2.1 117 (((40 * a1) + a137)).toNat).toInt)]) (st := [.ref (ad 98)]) 98 (s_lt rfl rfl) (s_kc (c := 11) rfl rfl) (by decide) rfl (s1_X12_whyNot hM138 hpr hcw (M0.2.1 117 (((40 * a1) + a137)).toNat).toInt (by exact ⟨la146, ua146⟩) (by exact h139.2.2.2.2.2.2.2.1)) gX12_tells_X12_whyNot rfl hdX12_whyNot (by decide) (Nat.le_of_ble_eq_true rfl) dX12_tells_30 rfl (fun r148 M149 h150 => ?_)
        obtain ⟨a152, rfl, hM149, fM149, h151⟩ := h150
        obtain rfl : a152 = (wnF (M138.1 99) (M0.2.1 117 (((40 * a1) + a137)).toNat).toInt) := by exact h151.2.2.1
        refine y_putIF C 11 qX12_tells_316 rfl rfl ft_11_18 sb_11_18 hM149 (PM.w hpr rfl rfl) dX12_tells_33 (fun M154 eM154 hM154 => ?_)
        have pM154 := pi_o eM154 (by decide) (by decide) (by exact h151.2.2.2.2)
        refine j_aload_n C 0 0 dX12_tells_36 rfl rfl ?_
        refine y_getI C 11 _ _ fX12_tells_316 rfl rfl ft_11_18 sb_11_18 hM154 dX12_tells_37 (fun a155 ea155 la155 ua155 => ?_)
        obtain rfl : a155 = (wnF (M138.1 99) (M0.2.1 117 (((40 * a1) + a137)).toNat).toInt) := (ea155).trans (s_wr eM154 (by (clear ua155 la155 ea155 pM154 hM154 eM154 fM149 hM149 ua146 la146 ea146 h141 ua140 la140 ea140 fM138 hM138 h139 ih135 u103w u103e u103z pM102 hM102 eM102 u101k hret C hp1 hp0 ha1 hcw hpr hM0; omega)))
        refine y_if_eq C 45 dX12_tells_40 (by decide) (by exact ⟨la155, ua155⟩) (fun h157 => ?_) (fun h157 => ?_)
        · refine j_aload_n C 0 0 dX12_tells_45 rfl rfl ?_
          refine j_aload_n C 0 0 dX12_tells_46 rfl rfl ?_
          refine y_getC C 11 117 fX12_tells_73 rfl rfl ft_11_31 sm_11_31 rfl hM154 dX12_tells_47 ?_
          refine y_bipush C dX12_tells_50 rfl ?_
          refine j_iload_n C 1 1 dX12_tells_52 rfl rfl ?_
          refine y_imul C dX12_tells_53 ?_
          refine j_iload_n C 2 2 dX12_tells_54 rfl rfl ?_
          refine y_iadd C dX12_tells_55 ?_
          refine y_lald C 63 160 rfl rfl rfl ak_63 an_63 rfl dX12_tells_56 (by (clear h157 ua155 la155 ea155 pM154 hM154 eM154 h151 fM149 hM149 ua146 la146 ea146 ua140 la140 fM138 hM138 ih135 u103w u103e u103z pM102 hM102 eM102 hret C hp1 hcw hpr hM0; omega)) (fun a158 ea158 la158 ua158 => ?_)
          obtain rfl : a158 = (M0.2.1 117 (((40 * a1) + a137)).toNat).toInt := s_gF fM138 (by decide) (s_gF fM149 (by decide) (s_gI eM154 (ea158)))
          have u159 : (-1) ≤ (M0.2.1 117 (((40 * a1) + a137)).toNat).toInt ∧ (M0.2.1 117 (((40 * a1) + a137)).toNat).toInt ≤ 1799 := by (clear ua158 la158 ua155 la155 pM154 hM154 eM154 fM149 hM149 h141 ua140 la140 ea140 fM138 hM138 h139 ih135 u103w u103e u103z pM102 hM102 eM102 u101k hret C hp1 hp0 ha1 hcw hpr hM0; omega)
          refine y_l2i C dX12_tells_57 ?_
          have u160 : bnF (M154.1 99) (M0.2.1 117 (((40 * a1) + a137)).toNat).toInt = bnF (M149.1 99) (M0.2.1 117 (((40 * a1) + a137)).toNat).toInt := by rw [(wI_cell eM154 (by decide))]
          have u161 : bnF (M154.1 99) (M0.2.1 117 (((40 * a1) + a137)).toNat).toInt = bnF (M138.1 99) (M0.2.1 117 (((40 * a1) + a137)).toNat).toInt := by rw [((wI_cell eM154 (by decide)).trans (FR.cell fM149 (by decide)))]
          refine j_callVv C (d := 7) (As := [.int (sI (M0.2.1 117 (((40 * a1) + a137)).toNat).toInt)]) (st := []) 98 (s_lt rfl rfl) (s_kc (c := 11) rfl rfl) (by decide) rfl (s1_X12_does hM154 hpr hcw (M0.2.1 117 (((40 * a1) + a137)).toNat).toInt (by (clear u161 u160 ua158 la158 h157 ua155 la155 ea155 pM154 hM154 eM154 h151 fM149 hM149 h141 ua140 la140 ea140 fM138 hM138 h139 ih135 u103w u103e u103z pM102 hM102 eM102 u101k hret C hp1 hp0 ha1 hcw hpr hM0; omega)) (by (clear u160 u159 ua158 la158 ea158 ua155 la155 ea155 pM154 hM154 eM154 fM149 hM149 ua146 la146 ea146 h141 ua140 la140 ea140 fM138 hM138 h139 ih135 u103w u103e u103z pM102 hM102 eM102 u101k hret C hp1 hp0 ha1 hcw hpr hM0; omega)) (by exact ⟨u159.1, u159.2⟩) (by exact pM154)) gX12_tells_X12_does rfl hdX12_does (by decide) (Nat.le_of_ble_eq_true rfl) dX12_tells_58 rfl (fun M163 h164 => ?_)
          obtain ⟨hM163, fM163, h165⟩ := h164
          refine y_iinc C 2 [(2, .int (sI (a137 + 1))), (0, .ref (ad 98)), (1, .int (sI a1))] dX12_tells_61 rfl (by decide) rfl ?_
          refine j_goto C 7 dX12_tells_64 (by decide) ?_
          have u166g := tl_go (f := M0.1 99) (g := M138.1 99) (h' := M154.1 99) (N := M163.1 99) (T := (tyM M0 a1)) (x := a137) (x' := (a137 + 1)) (v := (M0.2.1 117 (((40 * a1) + a137)).toNat).toInt) (w := (wnF (M138.1 99) (M0.2.1 117 (((40 * a1) + a137)).toNat).toInt)) (by exact h139.2.2.1) (by exact h139.2.2.2.1) (ty_e M0 a1 (k := a137) (by exact h139.1)).symm (by exact h151.2.2.1) (by exact h157) (((wI_cell eM154 (by decide)).trans (FR.cell fM149 (by decide)))) (by exact h165.1) (by (clear h165 fM163 hM163 u161 u160 u159 ua158 la158 ea158 h157 ua155 la155 ea155 pM154 hM154 eM154 h151 fM149 hM149 ua146 la146 ea146 h141 ua140 la140 ea140 fM138 hM138 ih135 u103w u103e u103z pM102 hM102 eM102 u101k hret C hp1 hp0 ha1 hcw hpr hM0; omega))
          have u166w : (M163.1 98 18).toInt = 0 := by rw [show M163.1 98 = M154.1 98 from ((FR.cell fM163 (by decide)))]; exact (s_wr eM154 (by exact ⟨la155, ua155⟩)).trans (by exact h157)
          have zz98_18 := (Eq.trans (s_fF fM163 (by decide) (rfl) : (M163.1 98 18).toInt = (M154.1 98 18).toInt) (s_wr eM154 (by exact ⟨la155, ua155⟩))); refine j_lv [1, 2, 0] rfl ?_; exact ih135 (a137 + 1) M163 (by exact ⟨(by (clear zz98_18 fM163 hM163 u161 u160 u159 ua158 la158 ea158 h157 ua155 la155 ea155 pM154 hM154 eM154 h151 fM149 hM149 ua146 la146 ea146 ua140 la140 fM138 hM138 ih135 u103w u103e u103z pM102 hM102 eM102 hret C hp1 hp0 ha1 hcw hpr hM0; omega)), ⟨(by (clear zz98_18 fM163 hM163 u161 u160 u159 ua158 la158 ea158 h157 ua155 la155 ea155 pM154 hM154 eM154 h151 fM149 hM149 ua146 la146 ea146 ua140 la140 fM138 hM138 ih135 u103w u103e u103z pM102 hM102 eM102 hret C hp1 hp0 ha1 hcw hpr hM0; omega)), ⟨u166g.1, ⟨u166g.2.1, ⟨u166g.2.2, ⟨u166w, ⟨(by (clear zz98_18 fM163 hM163 u161 u160 u159 ua158 la158 ea158 h157 ua155 la155 ea155 pM154 hM154 eM154 h151 fM149 hM149 ua146 la146 ea146 ua140 la140 fM138 hM138 ih135 u103w u103e u103z pM102 hM102 eM102 hret C hp1 hp0 ha1 hcw hpr hM0; omega)), ⟨h165.2, (by (clear zz98_18 fM163 hM163 u161 u160 u159 ua158 la158 ea158 h157 ua155 la155 ea155 pM154 hM154 eM154 h151 fM149 hM149 ua146 la146 ea146 ua140 la140 fM138 hM138 ih135 u103w u103e u103z pM102 hM102 eM102 hret C hp1 hp0 ha1 hcw hpr hM0; omega))⟩⟩⟩⟩⟩⟩⟩⟩) hM163 ((((FR.rf.tr fM138 (by decide)).tr fM149 (by decide)).wI eM154 (by decide)).tr fM163 (by decide))
        · refine j_iload_n C 2 2 dX12_tells_43 rfl rfl ?_
          have u167g := tl_st (f := M0.1 99) (g := M138.1 99) (N := M154.1 99) (T := (tyM M0 a1)) (x := a137) (n := (M0.1 116 (a1).toNat).toInt) (v := (M0.2.1 117 (((40 * a1) + a137)).toNat).toInt) (w := (wnF (M138.1 99) (M0.2.1 117 (((40 * a1) + a137)).toNat).toInt)) (by exact h139.2.2.1) (by exact h139.2.2.2.1) (ty_e M0 a1 (k := a137) (by exact h139.1)).symm (by exact h151.2.2.1) (by exact h157) (((wI_cell eM154 (by decide)).trans (FR.cell fM149 (by decide)))) (by exact ⟨h139.1, (by (clear h157 ua155 la155 ea155 pM154 hM154 eM154 h151 fM149 hM149 ua146 la146 ea146 ua140 la140 fM138 hM138 ih135 u103w u103e u103z pM102 hM102 eM102 u101k hret C hp1 hp0 ha1 hcw hpr hM0; omega))⟩)
          have u167w : (M154.1 98 18).toInt = (wnF (M138.1 99) (M0.2.1 117 (((40 * a1) + a137)).toNat).toInt) := s_wr eM154 (by exact ⟨la155, ua155⟩)
          have u167r : b01 (TLM M0 M154 a1 a137) = 1 := b01_i ⟨b01_e u167g.1, by rw [u167w]; exact u167g.2.1.symm, u167g.2.2.symm⟩
          exact hret _ _ _ _ dX12_tells_44 ⟨a137, rfl, hM154, (((FR.rf.tr fM138 (by decide)).tr fM149 (by decide)).wI eM154 (by decide)), by exact ⟨h139.1, ⟨h139.2.1, ⟨u167r, pM154⟩⟩⟩⟩
  have zz98_18 := (Eq.trans (rfl : (M102.1 98 18).toInt = (M102.1 98 18).toInt) (s_wr eM102 (by exact ⟨(by decide), (by decide)⟩))); refine j_lv [1, 2, 0] rfl ?_; exact L136 2010 0 M102 (by exact ⟨(by decide), ⟨(by decide), ⟨u103e, ⟨u103z.2.1, ⟨u103z.2.2, ⟨u103w, ⟨u101k.1, ⟨pM102, (by decide)⟩⟩⟩⟩⟩⟩⟩⟩) hM102 (FR.rf.wI eM102 (by decide))
set_option maxHeartbeats 4000000 in
theorem s1_X12_isAgain {l : Launch} {dC : Nat → ClassId} {dI : Nat → Nat → Nat} {ad : Nat → Nat} {cA : Nat → ClassId} {pr : Nat → Nat → Bool} {Kz : mm_M} {M0 : mm_M} (hM0 : INV pr Kz M0) (hpr : PM pr)  (hp0 : b01 (PI M0) = 1) : Cv l 0 yX12_isAgain wsX12_isAgain dC dI ad cA [.ref (ad 98)] M0 (fun M' => INV pr Kz M' ∧ FR [99] M0 M' ∧ (b01 (M'.1 99 = iaF (M0.1 99) (M0.1 105) (23 : Int).toNat) = 1) ∧ (b01 (PI M') = 1)) := by
  refine cv_of (cc := cX12_isAgain) (maxL := 2) (lv := [(0, .ref (ad 98))]) (by decide) rfl (Nat.le_of_ble_eq_true rfl) rfl ?_
  intro p e s m args below meth c A Q C hret
  refine y_iconst C dX12_isAgain_0 ?_
  refine j_istore_n C 1 [(1, .int (sI 0)), (0, .ref (ad 98))] dX12_isAgain_1 rfl (by decide) rfl ?_
  have u101 := cp_0 (M := M0) (c := 99) (pd := ((26 + 0) : Int).toNat) (c2 := 105) (ps := ((0) : Int).toNat) (by exact hp0) (by decide)
  have u101k := ia_0 (M0.1 99) (M0.1 105)
  have L111 : ∀ (n109 : Nat), ∀ (a112 : Int) (M113 : mm_M), (0 ≤ a112 ∧ a112 ≤ 23 ∧ (b01 (Cp M113 99 ((26 + a112) : Int).toNat 105 ((a112) : Int).toNat) = 1) ∧ (b01 (M113.1 99 = iaF (M0.1 99) (M0.1 105) (a112).toNat) = 1) ∧ (23 - a112) < (n109 : Int)) → INV pr Kz M113 → FR [99] M0 M113 → jj p l e (cn_R 0) s m args below meth c 0 0 Q 2 dC dI ad cA A M113 2 [(0, .ref (ad 98)), (1, .int (sI a112))] [] := by
    intro n109
    induction n109 with
    | zero =>
      intro a112 M113 h114 hM113 fM113
      exfalso; omega
    | succ n109 ih110 =>
      intro a112 M113 h114 hM113 fM113
      refine j_iload_n C 1 1 dX12_isAgain_2 rfl rfl ?_
      refine y_bipush C dX12_isAgain_3 rfl ?_
      refine y_icmp_ge C 29 dX12_isAgain_5 (by decide) (by exact ⟨⟨(by omega), (by omega)⟩, ⟨(by decide), (by decide)⟩⟩) (fun h115 => ?_) (fun h115 => ?_)
      · obtain rfl : a112 = 23 := by omega
        have p121 : b01 (PI M113) = 1 := cp_e (c := 99) (pd := ((26 + 23) : Int).toNat) (c2 := 105) (ps := ((23) : Int).toNat) (by exact h114.2.2.1) (by decide)
        exact hret _ _ _ dX12_isAgain_29 ⟨hM113, (FR.rf.tr fM113 (by decide)), by exact ⟨h114.2.2.2.1, p121⟩⟩
      · refine j_aload_n C 0 0 dX12_isAgain_8 rfl rfl ?_
        refine y_getC C 11 99 fX12_isAgain_13 rfl rfl ft_11_1 sm_11_1 rfl hM113 dX12_isAgain_9 ?_
        refine y_bipush C dX12_isAgain_12 rfl ?_
        refine j_iload_n C 1 1 dX12_isAgain_14 rfl rfl ?_
        refine y_iadd C dX12_isAgain_15 ?_
        refine j_aload_n C 0 0 dX12_isAgain_16 rfl rfl ?_
        refine y_getC C 11 105 fX12_isAgain_36 rfl rfl ft_11_17 sm_11_17 rfl hM113 dX12_isAgain_17 ?_
        refine j_iload_n C 1 1 dX12_isAgain_20 rfl rfl ?_
        refine y_ialdR C 51 23 rfl rfl rfl ak_51 an_51 rfl hM113 dX12_isAgain_21 (by exact ⟨h114.1, (by omega)⟩) (fun a116 ea116 la116 ua116 ba116 => ?_)
        obtain rfl : a116 = (M0.1 105 (a112).toNat).toInt := s_fF fM113 (by decide) (ea116)
        refine y_iastR C 45 3543 rfl rfl rfl ak_45 an_45 rfl hM113 (PM.w hpr rfl (hm_26_48 _ (by (clear ba116 ua116 la116 ea116 fM113 hM113 ih110 u101k u101 hret C hp0 hpr hM0; omega)) (by (clear ba116 ua116 la116 ea116 fM113 hM113 ih110 u101k u101 hret C hp0 hpr hM0; omega)))) dX12_isAgain_22 (by omega) (by exact ⟨la116, ua116⟩) (by rw [q_k a112 (by exact ⟨h114.1, (by omega)⟩)]; assumption) (fun M117 eM117 hM117 => ?_)
        have u118 := cp_step (c := 99) (c2 := 105) (pd := ((26 + a112) : Int).toNat) (ps := ((a112) : Int).toNat) (pd' := ((26 + (a112 + 1)) : Int).toNat) (ps' := (((a112 + 1)) : Int).toNat) eM117 (by rw [sI_o]; exact (congrFun (FR.cell fM113 (by decide)) _).symm) (by rw [show (26 + a112 : Int).toNat = 26 + (a112 : Int).toNat by (clear hM117 eM117 ba116 ua116 la116 ea116 fM113 hM113 ih110 u101k u101 hret C hp0 hpr hM0; omega)]; exact al_a _ (by (clear hM117 eM117 ba116 ua116 la116 ea116 fM113 hM113 ih110 u101k u101 hret C hp0 hpr hM0; omega))) (by (clear hM117 eM117 ba116 ua116 la116 ea116 fM113 hM113 ih110 u101k u101 hret C hp0 hpr hM0; omega)) (by (clear hM117 eM117 ba116 ua116 la116 ea116 fM113 hM113 ih110 u101k u101 hret C hp0 hpr hM0; omega)) (by exact h114.2.2.1)
        have u118k := ia_s (M := M113) (N := M117) (f := M0.1 99) (w := M0.1 105) (x := a112) (x' := a112 + 1) (by exact h114.2.2.2.1) eM117 (by omega)
        refine y_iinc C 1 [(1, .int (sI (a112 + 1))), (0, .ref (ad 98))] dX12_isAgain_23 rfl (by decide) rfl ?_
        refine j_goto C 2 dX12_isAgain_26 (by decide) ?_
        refine j_lv [1, 0] rfl ?_; exact ih110 (a112 + 1) M117 (by exact ⟨(by (clear hM117 eM117 ba116 ua116 la116 ea116 fM113 hM113 ih110 u101k u101 hret C hp0 hpr hM0; omega)), ⟨(by (clear hM117 eM117 ba116 ua116 la116 ea116 fM113 hM113 ih110 u101k u101 hret C hp0 hpr hM0; omega)), ⟨u118, ⟨u118k, (by (clear hM117 eM117 ba116 ua116 la116 ea116 fM113 hM113 ih110 u101k u101 hret C hp0 hpr hM0; omega))⟩⟩⟩⟩) hM117 ((FR.rf.tr fM113 (by decide)).wI eM117 (by decide))
  refine j_lv [1, 0] rfl ?_; exact L111 2010 0 M0 (by exact ⟨(by decide), ⟨(by decide), ⟨u101, ⟨u101k, (by decide)⟩⟩⟩⟩) hM0 FR.rf
set_option maxHeartbeats 4000000 in
theorem s1_X12_judge {l : Launch} {dC : Nat → ClassId} {dI : Nat → Nat → Nat} {ad : Nat → Nat} {cA : Nat → ClassId} {pr : Nat → Nat → Bool} {Kz : mm_M} {M0 : mm_M} (hM0 : INV pr Kz M0) (hpr : PM pr) (hcw : CWK pr Kz) (a1 : Int) (ha1 : -2147483648 ≤ a1 ∧ a1 ≤ 2147483647) (a2 : Int) (ha2 : -2147483648 ≤ a2 ∧ a2 ≤ 2147483647) (hp0 : b01 (PI M0) = 1) : Ci l 9 yX12_judge wsX12_judge dC dI ad cA [.ref (ad 98), .int (sI a1), .int (sI a2)] M0 (fun r M' => ∃ a : Int, r = sI a ∧ INV pr Kz M' ∧ FR [98, 99, 103, 104, 105] M0 M' ∧ (-2147483648) ≤ a ∧ a ≤ 2147483647 ∧ (a = jgA M0 a1 a2) ∧ (b01 (M'.1 99 = M0.1 99) = 1) ∧ (b01 (PI M') = 1)) := by
  refine ci_of (cc := cX12_judge) (maxL := 7) (ty := .int) (lv := [(0, .ref (ad 98)), (1, .int (sI a1)), (2, .int (sI a2))]) (by decide) rfl (fun r M' hp => rfl) (Nat.le_of_ble_eq_true rfl) rfl ?_
  intro p e s m args below meth c A Q C hret
  refine j_aload_n C 0 0 dX12_judge_0 rfl rfl ?_
  refine y_iconst C dX12_judge_1 ?_
  refine y_putIF C 11 qX12_judge_1 rfl rfl ft_11_0 sb_11_0 hM0 (PM.w hpr rfl rfl) dX12_judge_2 (fun M101 eM101 hM101 => ?_)
  have pM101 := pi_o eM101 (by decide) (by decide) (by exact hp0)
  refine j_iload_n C 2 2 dX12_judge_5 rfl rfl ?_
  refine y_i2l C dX12_judge_6 (by exact ⟨ha2.1, ha2.2⟩) ?_
  refine y_lconst C 0 dX12_judge_7 rfl ?_
  refine y_ldc2 C 3 dX12_judge_8 kX12_judge_325 rfl ?_
  refine j_callSi C (d := 0) (As := [.long (sJ a2), .long (sJ 0), .long (sJ 3)]) (st := []) (s1_X12_within hM101 a2 (by omega) 0 (by exact ⟨(by decide), (by decide)⟩) 3 (by exact ⟨(by decide), (by decide)⟩)) gX12_judge_X12_within rfl hdX12_withins (by decide) (Nat.le_of_ble_eq_true rfl) dX12_judge_11 rfl (fun r102 M103 h104 => ?_)
  obtain ⟨a106, rfl, rfl, h105⟩ := h104
  refine y_if_ne C 20 dX12_judge_14 (by decide) (by omega) (fun h107 => ?_) (fun h107 => ?_)
  · refine j_aload_n C 0 0 dX12_judge_20 rfl rfl ?_
    refine j_iload_n C 1 1 dX12_judge_21 rfl rfl ?_
    refine j_callVi C (d := 1) (As := [.int (sI a1)]) (st := []) 98 (s_lt rfl rfl) (s_kc (c := 11) rfl rfl) (by decide) rfl (s1_X12_noTray hM101 a1 (by exact ⟨ha1.1, ha1.2⟩)) gX12_judge_X12_noTray rfl hdX12_noTray (by decide) (Nat.le_of_ble_eq_true rfl) dX12_judge_22 rfl (fun r108 M109 h110 => ?_)
    obtain ⟨a112, rfl, rfl, h111⟩ := h110
    refine j_istore_n C 3 [(3, .int (sI a112)), (0, .ref (ad 98)), (1, .int (sI a1)), (2, .int (sI a2))] dX12_judge_25 rfl (by decide) rfl ?_
    refine j_iload_n C 0 3 dX12_judge_26 rfl rfl ?_
    refine y_if_eq C 32 dX12_judge_27 (by decide) (by (clear h107 h105 pM101 hM101 eM101 hret C hp0 ha2 ha1 hcw hpr hM0; omega)) (fun h114 => ?_) (fun h114 => ?_)
    · refine j_aload_n C 1 0 dX12_judge_32 rfl rfl ?_
      refine j_callVv C (d := 0) (As := []) (st := []) 98 (s_lt rfl rfl) (s_kc (c := 11) rfl rfl) (by decide) rfl (s1_X12_keeps hM101 hpr (by exact pM101)) gX12_judge_X12_keeps rfl hdX12_keeps (by decide) (Nat.le_of_ble_eq_true rfl) dX12_judge_33 rfl (fun M116 h117 => ?_)
      obtain ⟨hM116, fM116, h118⟩ := h117
      refine j_aload_n C 1 0 dX12_judge_36 rfl rfl ?_
      refine j_iload_n C 2 1 dX12_judge_37 rfl rfl ?_
      refine j_callVi C (d := 8) (As := [.int (sI a1)]) (st := []) 98 (s_lt rfl rfl) (s_kc (c := 11) rfl rfl) (by decide) rfl (s1_X12_tells hM116 hpr hcw a1 (by exact ⟨ha1.1, ha1.2⟩) (by (clear h118 fM116 hM116 h107 h105 pM101 hM101 eM101 hret C hp0 ha2 hcw hpr hM0; omega)) (by exact h118.2)) gX12_judge_X12_tells rfl hdX12_tells (by decide) (Nat.le_of_ble_eq_true rfl) dX12_judge_38 rfl (fun r119 M120 h121 => ?_)
      obtain ⟨a123, rfl, hM120, fM120, h122⟩ := h121
      refine j_istore C 4 [(4, .int (sI a123)), (3, .int (sI a112)), (0, .ref (ad 98)), (1, .int (sI a1)), (2, .int (sI a2))] dX12_judge_41 (by decide) rfl ?_
      refine j_aload_n C 2 0 dX12_judge_43 rfl rfl ?_
      refine y_getC C 11 99 fX12_judge_13 rfl rfl ft_11_1 sm_11_1 rfl hM120 dX12_judge_44 ?_
      refine y_bipush C dX12_judge_47 rfl ?_
      refine y_ialdH C 45 3543 rfl rfl rfl ak_45 an_45 rfl _ _ hM120 (hr_45_27_27 _ (by exact (by decide)) (by exact (by decide))) dX12_judge_49 (by exact ⟨(by decide), (by decide)⟩) (fun a125 ea125 la125 ua125 => ?_)
      obtain rfl : a125 = (M120.1 99 27).toInt := ea125
      refine j_istore C 5 [(5, .int (sI (M120.1 99 27).toInt)), (4, .int (sI a123)), (3, .int (sI a112)), (0, .ref (ad 98)), (1, .int (sI a1)), (2, .int (sI a2))] dX12_judge_50 (by decide) rfl ?_
      refine j_aload_n C 3 0 dX12_judge_52 rfl rfl ?_
      refine y_getC C 11 99 fX12_judge_13 rfl rfl ft_11_1 sm_11_1 rfl hM120 dX12_judge_53 ?_
      refine y_bipush C dX12_judge_56 rfl ?_
      refine y_ialdF C 45 3543 rfl rfl rfl ak_45 an_45 rfl dX12_judge_58 (by exact ⟨(by decide), (by decide)⟩) (fun a126 ea126 la126 ua126 => ?_)
      obtain rfl : a126 = (M120.1 99 29).toInt := ea126
      refine j_istore C 6 [(6, .int (sI (M120.1 99 29).toInt)), (5, .int (sI (M120.1 99 27).toInt)), (4, .int (sI a123)), (3, .int (sI a112)), (0, .ref (ad 98)), (1, .int (sI a1)), (2, .int (sI a2))] dX12_judge_59 (by decide) rfl ?_
      refine j_aload_n C 4 0 dX12_judge_61 rfl rfl ?_
      refine j_callVv C (d := 0) (As := []) (st := []) 98 (s_lt rfl rfl) (s_kc (c := 11) rfl rfl) (by decide) rfl (s1_X12_isAgain hM120 hpr (by exact h122.2.2.2)) gX12_judge_X12_isAgain rfl hdX12_isAgain (by decide) (Nat.le_of_ble_eq_true rfl) dX12_judge_62 rfl (fun M128 h129 => ?_)
      obtain ⟨hM128, fM128, h130⟩ := h129
      refine j_iload_n C 6 2 dX12_judge_65 rfl rfl ?_
      refine y_if_ne C 85 dX12_judge_66 (by decide) (by exact ⟨ha2.1, ha2.2⟩) (fun h131 => ?_) (fun h131 => ?_)
      · refine j_iload_n C 6 2 dX12_judge_85 rfl rfl ?_
        refine y_iconst C dX12_judge_86 ?_
        refine y_icmp_ne C 97 dX12_judge_87 (by decide) (by exact ⟨⟨ha2.1, ha2.2⟩, ⟨(by decide), (by decide)⟩⟩) (fun h132 => ?_) (fun h132 => ?_)
        · refine j_iload_n C 6 2 dX12_judge_97 rfl rfl ?_
          refine y_iconst C dX12_judge_98 ?_
          refine y_icmp_ne C 107 dX12_judge_99 (by decide) (by exact ⟨⟨ha2.1, ha2.2⟩, ⟨(by decide), (by decide)⟩⟩) (fun h133 => ?_) (fun h133 => ?_)
          · refine j_iload C 0 dX12_judge_107 rfl ?_
            have u134n : ntA M101 a1 = ntA M0 a1 := by unfold ntA; rw [((wI_cell eM101 (by decide)))]
            have u134s := jgA_s M0 a1 a2
            have u134t := tlm_c (M := M0) (B := M116) (N := M120) (t := a1) (r := a123) (by exact h122.2.2.1) (((FR.cell fM116 (by decide)).trans (wI_cell eM101 (by decide)))) ((FR.cellJ fM116 (by decide)).trans (wI_J eM101 117)) (((FR.cell fM116 (by decide)).trans (wI_cell eM101 (by decide))))
            have u134t1 := u134t.2.1
            have u134t2 := u134t.2.2
            have u134j := juA_s (tqF M0 a1) a2
            have u134v : (M120.1 99 27).toInt = ((tqF M0 a1).1 27).toInt ∧ (M120.1 99 29).toInt = ((tqF M0 a1).1 29).toInt := by rw [u134t.1]; exact ⟨rfl, rfl⟩
            have u134h := INV.rd hM0 (i := 99) (c := 45) (k := 26) rfl rfl
            have u134r := ju_r (M := M0) (M1 := M116) (M2 := M120) (N := M128) (f := M0.1 99) (t := a1) (by exact h130.1) (by rw [show M0.1 99 = M101.1 99 from ((wI_cell eM101 (by decide))).symm]; exact b01_i (b01_e (P := KPN M116 (M101.1 99) 23) (by exact h118.1))) ((FR.cell fM120 (by decide))) (by rw [u134t.1]; rfl) u134h.2
            exact hret _ _ _ _ dX12_judge_109 ⟨(M120.1 99 29).toInt, rfl, hM128, ((((FR.rf.wI eM101 (by decide)).tr fM116 (by decide)).tr fM120 (by decide)).tr fM128 (by decide)), by exact ⟨la126, ⟨ua126, ⟨(by (clear u134h u134t2 u134t1 u134t fM128 hM128 ua125 la125 h122 fM120 hM120 h118 fM116 hM116 pM101 hM101 eM101 hret C hp0 ha1 hcw hpr hM0; omega)), ⟨u134r, h130.2⟩⟩⟩⟩⟩
          · refine j_iload C 1 dX12_judge_102 rfl ?_
            refine j_goto C 109 dX12_judge_104 (by decide) ?_
            have u135n : ntA M101 a1 = ntA M0 a1 := by unfold ntA; rw [((wI_cell eM101 (by decide)))]
            have u135s := jgA_s M0 a1 a2
            have u135t := tlm_c (M := M0) (B := M116) (N := M120) (t := a1) (r := a123) (by exact h122.2.2.1) (((FR.cell fM116 (by decide)).trans (wI_cell eM101 (by decide)))) ((FR.cellJ fM116 (by decide)).trans (wI_J eM101 117)) (((FR.cell fM116 (by decide)).trans (wI_cell eM101 (by decide))))
            have u135t1 := u135t.2.1
            have u135t2 := u135t.2.2
            have u135j := juA_s (tqF M0 a1) a2
            have u135v : (M120.1 99 27).toInt = ((tqF M0 a1).1 27).toInt ∧ (M120.1 99 29).toInt = ((tqF M0 a1).1 29).toInt := by rw [u135t.1]; exact ⟨rfl, rfl⟩
            have u135h := INV.rd hM0 (i := 99) (c := 45) (k := 26) rfl rfl
            have u135r := ju_r (M := M0) (M1 := M116) (M2 := M120) (N := M128) (f := M0.1 99) (t := a1) (by exact h130.1) (by rw [show M0.1 99 = M101.1 99 from ((wI_cell eM101 (by decide))).symm]; exact b01_i (b01_e (P := KPN M116 (M101.1 99) 23) (by exact h118.1))) ((FR.cell fM120 (by decide))) (by rw [u135t.1]; rfl) u135h.2
            exact hret _ _ _ _ dX12_judge_109 ⟨(M120.1 99 27).toInt, rfl, hM128, ((((FR.rf.wI eM101 (by decide)).tr fM116 (by decide)).tr fM120 (by decide)).tr fM128 (by decide)), by exact ⟨(by (clear u135h u135t2 u135t1 u135t h132 h131 fM128 hM128 ua126 la126 h122 fM120 hM120 h118 fM116 hM116 h107 h105 pM101 hM101 eM101 hret C hp0 ha2 ha1 hcw hpr hM0; omega)), ⟨(by (clear u135h u135t2 u135t1 u135t h132 h131 fM128 hM128 ua126 la126 h122 fM120 hM120 h118 fM116 hM116 h107 h105 pM101 hM101 eM101 hret C hp0 ha2 ha1 hcw hpr hM0; omega)), ⟨(by (clear u135h u135t2 u135t1 u135t h132 h131 fM128 hM128 ua126 la126 h122 fM120 hM120 h118 fM116 hM116 h107 h105 pM101 hM101 eM101 hret C hp0 ha2 ha1 hcw hpr hM0; omega)), ⟨u135r, h130.2⟩⟩⟩⟩⟩
        · refine j_aload_n C 4 0 dX12_judge_90 rfl rfl ?_
          refine y_getI C 11 _ _ fX12_judge_316 rfl rfl ft_11_18 sb_11_18 hM128 dX12_judge_91 (fun a136 ea136 la136 ua136 => ?_)
          obtain rfl : a136 = (M120.1 98 18).toInt := s_fF fM128 (by decide) (ea136)
          refine j_goto C 109 dX12_judge_94 (by decide) ?_
          have u138n : ntA M101 a1 = ntA M0 a1 := by unfold ntA; rw [((wI_cell eM101 (by decide)))]
          have u138s := jgA_s M0 a1 a2
          have u138t := tlm_c (M := M0) (B := M116) (N := M120) (t := a1) (r := a123) (by exact h122.2.2.1) (((FR.cell fM116 (by decide)).trans (wI_cell eM101 (by decide)))) ((FR.cellJ fM116 (by decide)).trans (wI_J eM101 117)) (((FR.cell fM116 (by decide)).trans (wI_cell eM101 (by decide))))
          have u138t1 := u138t.2.1
          have u138t2 := u138t.2.2
          have u138j := juA_s (tqF M0 a1) a2
          have u138v : (M120.1 99 27).toInt = ((tqF M0 a1).1 27).toInt ∧ (M120.1 99 29).toInt = ((tqF M0 a1).1 29).toInt := by rw [u138t.1]; exact ⟨rfl, rfl⟩
          have u138h := INV.rd hM0 (i := 99) (c := 45) (k := 26) rfl rfl
          have u138r := ju_r (M := M0) (M1 := M116) (M2 := M120) (N := M128) (f := M0.1 99) (t := a1) (by exact h130.1) (by rw [show M0.1 99 = M101.1 99 from ((wI_cell eM101 (by decide))).symm]; exact b01_i (b01_e (P := KPN M116 (M101.1 99) 23) (by exact h118.1))) ((FR.cell fM120 (by decide))) (by rw [u138t.1]; rfl) u138h.2
          exact hret _ _ _ _ dX12_judge_109 ⟨(M120.1 98 18).toInt, rfl, hM128, ((((FR.rf.wI eM101 (by decide)).tr fM116 (by decide)).tr fM120 (by decide)).tr fM128 (by decide)), by exact ⟨la136, ⟨ua136, ⟨(by (clear u138h u138v u138t2 u138t1 h131 fM128 hM128 ua126 la126 ua125 la125 h122 fM120 hM120 h118 fM116 hM116 h107 h105 pM101 hM101 eM101 hret C hp0 ha2 ha1 hcw hpr hM0; omega)), ⟨u138r, h130.2⟩⟩⟩⟩⟩
      · refine j_aload_n C 4 0 dX12_judge_69 rfl rfl ?_
        refine y_getI C 11 _ _ fX12_judge_316 rfl rfl ft_11_18 sb_11_18 hM128 dX12_judge_70 (fun a139 ea139 la139 ua139 => ?_)
        obtain rfl : a139 = (M120.1 98 18).toInt := s_fF fM128 (by decide) (ea139)
        refine y_if_ne C 80 dX12_judge_73 (by decide) (by exact ⟨la139, ua139⟩) (fun h141 => ?_) (fun h141 => ?_)
        · refine j_iload C 2 dX12_judge_80 rfl ?_
          refine j_goto C 109 dX12_judge_82 (by decide) ?_
          have u142n : ntA M101 a1 = ntA M0 a1 := by unfold ntA; rw [((wI_cell eM101 (by decide)))]
          have u142s := jgA_s M0 a1 a2
          have u142t := tlm_c (M := M0) (B := M116) (N := M120) (t := a1) (r := a123) (by exact h122.2.2.1) (((FR.cell fM116 (by decide)).trans (wI_cell eM101 (by decide)))) ((FR.cellJ fM116 (by decide)).trans (wI_J eM101 117)) (((FR.cell fM116 (by decide)).trans (wI_cell eM101 (by decide))))
          have u142t1 := u142t.2.1
          have u142t2 := u142t.2.2
          have u142j := juA_s (tqF M0 a1) a2
          have u142v : (M120.1 99 27).toInt = ((tqF M0 a1).1 27).toInt ∧ (M120.1 99 29).toInt = ((tqF M0 a1).1 29).toInt := by rw [u142t.1]; exact ⟨rfl, rfl⟩
          have u142h := INV.rd hM0 (i := 99) (c := 45) (k := 26) rfl rfl
          have u142r := ju_r (M := M0) (M1 := M116) (M2 := M120) (N := M128) (f := M0.1 99) (t := a1) (by exact h130.1) (by rw [show M0.1 99 = M101.1 99 from ((wI_cell eM101 (by decide))).symm]; exact b01_i (b01_e (P := KPN M116 (M101.1 99) 23) (by exact h118.1))) ((FR.cell fM120 (by decide))) (by rw [u142t.1]; rfl) u142h.2
          exact hret _ _ _ _ dX12_judge_109 ⟨a123, rfl, hM128, ((((FR.rf.wI eM101 (by decide)).tr fM116 (by decide)).tr fM120 (by decide)).tr fM128 (by decide)), by exact ⟨(by (clear u142h u142v u142t2 u142t1 ua139 la139 fM128 hM128 ua126 la126 ua125 la125 fM120 hM120 h118 fM116 hM116 h107 h105 pM101 hM101 eM101 hret C hp0 ha2 ha1 hcw hpr hM0; omega)), ⟨(by (clear u142h u142v u142t2 u142t1 ua139 la139 fM128 hM128 ua126 la126 ua125 la125 fM120 hM120 h118 fM116 hM116 h107 h105 pM101 hM101 eM101 hret C hp0 ha2 ha1 hcw hpr hM0; omega)), ⟨(by (clear u142h u142v u142t2 u142t1 ua139 la139 fM128 hM128 ua126 la126 ua125 la125 fM120 hM120 h118 fM116 hM116 h107 h105 pM101 hM101 eM101 hret C hp0 ha2 ha1 hcw hpr hM0; omega)), ⟨u142r, h130.2⟩⟩⟩⟩⟩
        · refine y_iconst C dX12_judge_76 ?_
          refine j_goto C 109 dX12_judge_77 (by decide) ?_
          have u143n : ntA M101 a1 = ntA M0 a1 := by unfold ntA; rw [((wI_cell eM101 (by decide)))]
          have u143s := jgA_s M0 a1 a2
          have u143t := tlm_c (M := M0) (B := M116) (N := M120) (t := a1) (r := a123) (by exact h122.2.2.1) (((FR.cell fM116 (by decide)).trans (wI_cell eM101 (by decide)))) ((FR.cellJ fM116 (by decide)).trans (wI_J eM101 117)) (((FR.cell fM116 (by decide)).trans (wI_cell eM101 (by decide))))
          have u143t1 := u143t.2.1
          have u143t2 := u143t.2.2
          have u143j := juA_s (tqF M0 a1) a2
          have u143v : (M120.1 99 27).toInt = ((tqF M0 a1).1 27).toInt ∧ (M120.1 99 29).toInt = ((tqF M0 a1).1 29).toInt := by rw [u143t.1]; exact ⟨rfl, rfl⟩
          have u143h := INV.rd hM0 (i := 99) (c := 45) (k := 26) rfl rfl
          have u143r := ju_r (M := M0) (M1 := M116) (M2 := M120) (N := M128) (f := M0.1 99) (t := a1) (by exact h130.1) (by rw [show M0.1 99 = M101.1 99 from ((wI_cell eM101 (by decide))).symm]; exact b01_i (b01_e (P := KPN M116 (M101.1 99) 23) (by exact h118.1))) ((FR.cell fM120 (by decide))) (by rw [u143t.1]; rfl) u143h.2
          exact hret _ _ _ _ dX12_judge_109 ⟨(-1), rfl, hM128, ((((FR.rf.wI eM101 (by decide)).tr fM116 (by decide)).tr fM120 (by decide)).tr fM128 (by decide)), by exact ⟨(by decide), ⟨(by decide), ⟨(by (clear u143h u143v u143t2 u143t1 ua139 la139 fM128 hM128 ua126 la126 ua125 la125 h122 fM120 hM120 h118 fM116 hM116 h107 h105 pM101 hM101 eM101 hret C hp0 ha2 ha1 hcw hpr hM0; omega)), ⟨u143r, h130.2⟩⟩⟩⟩⟩
    · refine j_iload_n C 0 3 dX12_judge_30 rfl rfl ?_
      have u144n : ntA M101 a1 = ntA M0 a1 := by unfold ntA; rw [((wI_cell eM101 (by decide)))]
      have u144s := jgA_s M0 a1 a2
      have u144k : b01 (M101.1 99 = M0.1 99) = 1 := b01_i ((wI_cell eM101 (by decide)))
      exact hret _ _ _ _ dX12_judge_31 ⟨a112, rfl, hM101, (FR.rf.wI eM101 (by decide)), by exact ⟨(by (clear hM101 eM101 hret C hp0 ha1 hcw hpr hM0; omega)), ⟨(by (clear hM101 eM101 hret C hp0 ha1 hcw hpr hM0; omega)), ⟨(by (clear hM101 eM101 hret C hp0 ha1 hcw hpr hM0; omega)), ⟨u144k, pM101⟩⟩⟩⟩⟩
  · refine y_bipush C dX12_judge_17 rfl ?_
    have u145s := jgA_s M0 a1 a2
    have u145k : b01 (M101.1 99 = M0.1 99) = 1 := b01_i ((wI_cell eM101 (by decide)))
    exact hret _ _ _ _ dX12_judge_19 ⟨(-2), rfl, hM101, (FR.rf.wI eM101 (by decide)), by exact ⟨(by decide), ⟨(by decide), ⟨(by (clear hM101 eM101 hret C hp0 ha1 hcw hpr hM0; omega)), ⟨u145k, pM101⟩⟩⟩⟩⟩
set_option maxHeartbeats 4000000 in
theorem s1_X12_perform {l : Launch} {dC : Nat → ClassId} {dI : Nat → Nat → Nat} {ad : Nat → Nat} {cA : Nat → ClassId} {pr : Nat → Nat → Bool} {Kz : mm_M} {M0 : mm_M} (hM0 : INV pr Kz M0) (hpr : PM pr) (hcw : CWK pr Kz) (a1 : Int) (ha1 : -2147483648 ≤ a1 ∧ a1 ≤ 2147483647) (hp0 : b01 (PI M0) = 1) : Ci l 9 yX12_perform wsX12_perform dC dI ad cA [.ref (ad 98), .int (sI a1)] M0 (fun r M' => ∃ a : Int, r = sI a ∧ INV pr Kz M' ∧ FR [98, 99, 103, 104, 105] M0 M' ∧ (-6) ≤ a ∧ a ≤ 40 ∧ (a = peA M0 a1) ∧ (b01 (M'.1 99 = peS M0 a1) = 1) ∧ (b01 (PI M') = 1)) := by
  refine ci_of (cc := cX12_perform) (maxL := 4) (ty := .int) (lv := [(0, .ref (ad 98)), (1, .int (sI a1))]) (by decide) rfl (fun r M' hp => rfl) (Nat.le_of_ble_eq_true rfl) rfl ?_
  intro p e s m args below meth c A Q C hret
  refine j_aload_n C 0 0 dX12_perform_0 rfl rfl ?_
  refine y_iconst C dX12_perform_1 ?_
  refine y_putIF C 11 qX12_perform_1 rfl rfl ft_11_0 sb_11_0 hM0 (PM.w hpr rfl rfl) dX12_perform_2 (fun M101 eM101 hM101 => ?_)
  have pM101 := pi_o eM101 (by decide) (by decide) (by exact hp0)
  refine j_aload_n C 0 0 dX12_perform_5 rfl rfl ?_
  refine j_iload_n C 1 1 dX12_perform_6 rfl rfl ?_
  refine j_callVi C (d := 1) (As := [.int (sI a1)]) (st := []) 98 (s_lt rfl rfl) (s_kc (c := 11) rfl rfl) (by decide) rfl (s1_X12_noTray hM101 a1 (by exact ⟨ha1.1, ha1.2⟩)) gX12_perform_X12_noTray rfl hdX12_noTray (by decide) (Nat.le_of_ble_eq_true rfl) dX12_perform_7 rfl (fun r102 M103 h104 => ?_)
  obtain ⟨a106, rfl, rfl, h105⟩ := h104
  refine j_istore_n C 2 [(2, .int (sI a106)), (0, .ref (ad 98)), (1, .int (sI a1))] dX12_perform_10 rfl (by decide) rfl ?_
  refine j_iload_n C 0 2 dX12_perform_11 rfl rfl ?_
  refine y_if_eq C 17 dX12_perform_12 (by decide) (by omega) (fun h108 => ?_) (fun h108 => ?_)
  · refine j_aload_n C 1 0 dX12_perform_17 rfl rfl ?_
    refine j_callVv C (d := 0) (As := []) (st := []) 98 (s_lt rfl rfl) (s_kc (c := 11) rfl rfl) (by decide) rfl (s1_X12_keeps hM101 hpr (by exact pM101)) gX12_perform_X12_keeps rfl hdX12_keeps (by decide) (Nat.le_of_ble_eq_true rfl) dX12_perform_18 rfl (fun M110 h111 => ?_)
    obtain ⟨hM110, fM110, h112⟩ := h111
    refine j_aload_n C 1 0 dX12_perform_21 rfl rfl ?_
    refine j_iload_n C 2 1 dX12_perform_22 rfl rfl ?_
    refine j_callVi C (d := 8) (As := [.int (sI a1)]) (st := []) 98 (s_lt rfl rfl) (s_kc (c := 11) rfl rfl) (by decide) rfl (s1_X12_tells hM110 hpr hcw a1 (by exact ⟨ha1.1, ha1.2⟩) (by (clear h112 fM110 hM110 pM101 hM101 eM101 hret C hp0 hcw hpr hM0; omega)) (by exact h112.2)) gX12_perform_X12_tells rfl hdX12_tells (by decide) (Nat.le_of_ble_eq_true rfl) dX12_perform_23 rfl (fun r113 M114 h115 => ?_)
    obtain ⟨a117, rfl, hM114, fM114, h116⟩ := h115
    refine j_istore_n C 3 [(3, .int (sI a117)), (2, .int (sI a106)), (0, .ref (ad 98)), (1, .int (sI a1))] dX12_perform_26 rfl (by decide) rfl ?_
    refine j_iload_n C 0 3 dX12_perform_27 rfl rfl ?_
    refine y_if_le C 35 dX12_perform_28 (by decide) (by omega) (fun h119 => ?_) (fun h119 => ?_)
    · refine j_iload_n C 0 3 dX12_perform_35 rfl rfl ?_
      have u120n : ntA M101 a1 = ntA M0 a1 := by unfold ntA; rw [((wI_cell eM101 (by decide)))]
      have u120t := tlm_c (M := M0) (B := M110) (N := M114) (t := a1) (r := a117) (by exact h116.2.2.1) (((FR.cell fM110 (by decide)).trans (wI_cell eM101 (by decide)))) ((FR.cellJ fM110 (by decide)).trans (wI_J eM101 117)) (((FR.cell fM110 (by decide)).trans (wI_cell eM101 (by decide))))
      have u120t1 := u120t.2.1
      have u120t2 := u120t.2.2
      have u120k := pe_2 (M := M0) (N := M114.1 99) (t := a1) (r := a117) (by (clear u120t2 u120t1 u120t h119 h116 fM114 hM114 h112 fM110 hM110 pM101 hM101 eM101 hret C hp0 ha1 hcw hpr hM0; omega)) u120t2 (by omega) u120t.1
      exact hret _ _ _ _ dX12_perform_36 ⟨a117, rfl, hM114, (((FR.rf.wI eM101 (by decide)).tr fM110 (by decide)).tr fM114 (by decide)), by exact ⟨(by (clear u120t2 u120t1 u120t u120n fM114 hM114 h112 fM110 hM110 h108 h105 pM101 hM101 eM101 hret C hp0 ha1 hcw hpr hM0; omega)), ⟨h116.2.1, ⟨u120k.1, ⟨u120k.2, h116.2.2.2⟩⟩⟩⟩⟩
    · refine j_aload_n C 2 0 dX12_perform_31 rfl rfl ?_
      refine j_callVv C (d := 0) (As := []) (st := []) 98 (s_lt rfl rfl) (s_kc (c := 11) rfl rfl) (by decide) rfl (s1_X12_notes hM114 hpr (by exact h116.2.2.2)) gX12_perform_X12_notes rfl hdX12_notes (by decide) (Nat.le_of_ble_eq_true rfl) dX12_perform_32 rfl (fun M122 h123 => ?_)
      obtain ⟨hM122, fM122, h124⟩ := h123
      refine j_iload_n C 0 3 dX12_perform_35 rfl rfl ?_
      have u125n : ntA M101 a1 = ntA M0 a1 := by unfold ntA; rw [((wI_cell eM101 (by decide)))]
      have u125t := tlm_c (M := M0) (B := M110) (N := M114) (t := a1) (r := a117) (by exact h116.2.2.1) (((FR.cell fM110 (by decide)).trans (wI_cell eM101 (by decide)))) ((FR.cellJ fM110 (by decide)).trans (wI_J eM101 117)) (((FR.cell fM110 (by decide)).trans (wI_cell eM101 (by decide))))
      have u125t1 := u125t.2.1
      have u125t2 := u125t.2.2
      have u125q := nt_q (M := M114) (Mk := M110) (N := M122) (f := M0.1 99) (by exact h124.1) (by rw [show M0.1 99 = M101.1 99 from ((wI_cell eM101 (by decide))).symm]; exact b01_i (b01_e (P := KPN M110 (M101.1 99) 23) (by exact h112.1))) ((FR.cell fM114 (by decide))) u125t.1
      have u125k := pe_1 (M := M0) (N := M122.1 99) (t := a1) (r := a117) (by (clear u125q u125t2 u125t1 u125t h124 fM122 hM122 h119 h116 fM114 hM114 h112 fM110 hM110 pM101 hM101 eM101 hret C hp0 ha1 hcw hpr hM0; omega)) u125t2 (by (clear u125q u125t2 u125t1 u125n h124 fM122 hM122 fM114 hM114 h112 fM110 hM110 h108 h105 pM101 hM101 eM101 hret C hp0 ha1 hcw hpr hM0; omega)) u125q
      exact hret _ _ _ _ dX12_perform_36 ⟨a117, rfl, hM122, ((((FR.rf.wI eM101 (by decide)).tr fM110 (by decide)).tr fM114 (by decide)).tr fM122 (by decide)), by exact ⟨(by (clear u125q u125t2 u125t1 u125n fM122 hM122 fM114 hM114 h112 fM110 hM110 h108 h105 pM101 hM101 eM101 hret C hp0 ha1 hcw hpr hM0; omega)), ⟨h116.2.1, ⟨u125k.1, ⟨u125k.2, h124.2⟩⟩⟩⟩⟩
  · refine j_iload_n C 0 2 dX12_perform_15 rfl rfl ?_
    have u126n : ntA M101 a1 = ntA M0 a1 := by unfold ntA; rw [((wI_cell eM101 (by decide)))]
    have u126k := pe_3 (M := M0) (N := M101.1 99) (t := a1) (r := a106) (by omega) (by omega) ((wI_cell eM101 (by decide)))
    exact hret _ _ _ _ dX12_perform_16 ⟨a106, rfl, hM101, (FR.rf.wI eM101 (by decide)), by exact ⟨h105.1, ⟨(by (clear h108 hM101 eM101 hret C hp0 ha1 hcw hpr hM0; omega)), ⟨u126k.1, ⟨u126k.2, pM101⟩⟩⟩⟩⟩
set_option maxHeartbeats 4000000 in
theorem s1_X12_drawn {l : Launch} {dC : Nat → ClassId} {dI : Nat → Nat → Nat} {ad : Nat → Nat} {cA : Nat → ClassId} {pr : Nat → Nat → Bool} {Kz : mm_M} {M0 : mm_M} (hM0 : INV pr Kz M0) (hpr : PM pr)  (hp0 : b01 (PI M0) = 1) : Ci l 1 yX12_drawn wsX12_drawn dC dI ad cA [.ref (ad 98)] M0 (fun r M' => ∃ a : Int, r = sI a ∧ INV pr Kz M' ∧ FR [99] M0 M' ∧ (-1) ≤ a ∧ a ≤ 207 ∧ (a = dnV (M0.1 99)) ∧ (b01 (M'.1 99 = dnS (M0.1 99)) = 1) ∧ (b01 (PI M') = 1)) := by
  refine ci_of (cc := cX12_drawn) (maxL := 2) (ty := .int) (lv := [(0, .ref (ad 98))]) (by decide) rfl (fun r M' hp => rfl) (Nat.le_of_ble_eq_true rfl) rfl ?_
  intro p e s m args below meth c A Q C hret
  refine j_aload_n C 0 0 dX12_drawn_0 rfl rfl ?_
  refine y_iconst C dX12_drawn_1 ?_
  refine j_callVi C (d := 0) (As := [.int (sI 5)]) (st := []) 98 (s_lt rfl rfl) (s_kc (c := 11) rfl rfl) (by decide) rfl (s1_X12_draw hM0 hpr 5 (by exact ⟨(by decide), (by decide)⟩) (by exact ⟨(by decide), (by decide)⟩) (by exact hp0)) gX12_drawn_X12_draw rfl hdX12_draw (by decide) (Nat.le_of_ble_eq_true rfl) dX12_drawn_2 rfl (fun r101 M102 h103 => ?_)
  obtain ⟨a105, rfl, hM102, fM102, h104⟩ := h103
  have u106 : 0 ≤ a105 ∧ a105 ≤ 4 := by exact ⟨h104.1, (by (clear fM102 hM102 hret C hp0 hpr hM0; omega))⟩
  refine j_istore_n C 1 [(1, .int (sI a105)), (0, .ref (ad 98))] dX12_drawn_5 rfl (by decide) rfl ?_
  refine j_iload_n C 0 1 dX12_drawn_6 rfl rfl ?_
  refine y_iconst C dX12_drawn_7 ?_
  refine y_icmp_ge C 15 dX12_drawn_8 (by decide) (by exact ⟨⟨(by (clear u106 fM102 hM102 hret C hp0 hpr hM0; omega)), (by (clear u106 fM102 hM102 hret C hp0 hpr hM0; omega))⟩, ⟨(by decide), (by decide)⟩⟩) (fun h108 => ?_) (fun h108 => ?_)
  · refine j_iload_n C 0 1 dX12_drawn_15 rfl rfl ?_
    refine y_iconst C dX12_drawn_16 ?_
    refine y_icmp_ne C 29 dX12_drawn_17 (by decide) (by exact ⟨⟨(by (clear u106 fM102 hM102 hret C hp0 hpr hM0; omega)), (by (clear u106 fM102 hM102 hret C hp0 hpr hM0; omega))⟩, ⟨(by decide), (by decide)⟩⟩) (fun h109 => ?_) (fun h109 => ?_)
    · refine y_bipush C dX12_drawn_29 rfl ?_
      refine j_iload_n C 0 1 dX12_drawn_31 rfl rfl ?_
      refine y_iconst C dX12_drawn_32 ?_
      refine y_isub C dX12_drawn_33 ?_
      refine y_imul C dX12_drawn_34 ?_
      refine j_aload_n C 1 0 dX12_drawn_35 rfl rfl ?_
      refine y_bipush C dX12_drawn_36 rfl ?_
      refine j_callVi C (d := 0) (As := [.int (sI 8)]) (st := [.int (sI (100 * (a105 - 2)))]) 98 (s_lt rfl rfl) (s_kc (c := 11) rfl rfl) (by decide) rfl (s1_X12_draw hM102 hpr 8 (by exact ⟨(by decide), (by decide)⟩) (by exact ⟨(by decide), (by decide)⟩) (by exact h104.2.2.2.2.2.2)) gX12_drawn_X12_draw rfl hdX12_draw (by decide) (Nat.le_of_ble_eq_true rfl) dX12_drawn_38 rfl (fun r110 M111 h112 => ?_)
      obtain ⟨a114, rfl, hM111, fM111, h113⟩ := h112
      have u115 : 0 ≤ a114 ∧ a114 ≤ 7 := by exact ⟨h113.1, (by (clear fM111 hM111 h109 h108 u106 h104 fM102 hM102 hret C hp0 hpr hM0; omega))⟩
      refine y_iadd C dX12_drawn_41 ?_
      have u116d := dn_3 (f := M0.1 99) (g := M102.1 99) (h := M111.1 99) (a := a105) (b := a114) (by exact h104.2.2.2.2.2.1) (by exact h113.2.2.2.2.2.1) (by exact h104.2.2.2.2.1) (by exact h113.2.2.2.2.1) (by (clear u115 h113 fM111 hM111 u106 fM102 hM102 hret C hp0 hpr hM0; omega))
      exact hret _ _ _ _ dX12_drawn_42 ⟨((100 * (a105 - 2)) + a114), rfl, hM111, ((FR.rf.tr fM102 (by decide)).tr fM111 (by decide)), by exact ⟨(by (clear u115 fM111 hM111 h109 u106 fM102 hM102 hret C hp0 hpr hM0; omega)), ⟨(by (clear u115 fM111 hM111 h109 u106 fM102 hM102 hret C hp0 hpr hM0; omega)), ⟨u116d.1, ⟨u116d.2, h113.2.2.2.2.2.2⟩⟩⟩⟩⟩
    · refine j_aload_n C 1 0 dX12_drawn_20 rfl rfl ?_
      refine y_bipush C dX12_drawn_21 rfl ?_
      refine j_callVi C (d := 0) (As := [.int (sI 6)]) (st := []) 98 (s_lt rfl rfl) (s_kc (c := 11) rfl rfl) (by decide) rfl (s1_X12_draw hM102 hpr 6 (by exact ⟨(by decide), (by decide)⟩) (by exact ⟨(by decide), (by decide)⟩) (by exact h104.2.2.2.2.2.2)) gX12_drawn_X12_draw rfl hdX12_draw (by decide) (Nat.le_of_ble_eq_true rfl) dX12_drawn_23 rfl (fun r117 M118 h119 => ?_)
      obtain ⟨a121, rfl, hM118, fM118, h120⟩ := h119
      have u122 : 0 ≤ a121 ∧ a121 ≤ 5 := by exact ⟨h120.1, (by (clear fM118 hM118 h109 h108 u106 h104 fM102 hM102 hret C hp0 hpr hM0; omega))⟩
      refine j_goto C 42 dX12_drawn_26 (by decide) ?_
      have u123d := dn_2 (f := M0.1 99) (g := M102.1 99) (h := M118.1 99) (a := a105) (b := a121) (by exact h104.2.2.2.2.2.1) (by exact h120.2.2.2.2.2.1) (by exact h104.2.2.2.2.1) (by exact h120.2.2.2.2.1) (by exact h109)
      exact hret _ _ _ _ dX12_drawn_42 ⟨a121, rfl, hM118, ((FR.rf.tr fM102 (by decide)).tr fM118 (by decide)), by exact ⟨(by (clear u122 fM118 hM118 h109 h108 u106 h104 fM102 hM102 hret C hp0 hpr hM0; omega)), ⟨(by (clear u122 fM118 hM118 h109 h108 u106 h104 fM102 hM102 hret C hp0 hpr hM0; omega)), ⟨u123d.1, ⟨u123d.2, h120.2.2.2.2.2.2⟩⟩⟩⟩⟩
  · refine y_iconst C dX12_drawn_11 ?_
    refine j_goto C 42 dX12_drawn_12 (by decide) ?_
    have u124d := dn_1 (f := M0.1 99) (g := M102.1 99) (a := a105) (by exact h104.2.2.2.2.2.1) (by exact h104.2.2.2.2.1) (by omega)
    exact hret _ _ _ _ dX12_drawn_42 ⟨(-1), rfl, hM102, (FR.rf.tr fM102 (by decide)), by exact ⟨(by decide), ⟨(by decide), ⟨u124d.1.symm, ⟨u124d.2, h104.2.2.2.2.2.2⟩⟩⟩⟩⟩
set_option maxHeartbeats 4000000 in
theorem s1_X12_season {l : Launch} {dC : Nat → ClassId} {dI : Nat → Nat → Nat} {ad : Nat → Nat} {cA : Nat → ClassId} {pr : Nat → Nat → Bool} {Kz : mm_M} {M0 : mm_M} (hM0 : INV pr Kz M0) (hpr : PM pr) (hcw : CWK pr Kz) (a1 : Int) (ha1 : -2147483648 ≤ a1 ∧ a1 ≤ 2147483647) (a2 : Int) (ha2 : -2147483648 ≤ a2 ∧ a2 ≤ 2147483647) (hp0 : b01 (PI M0) = 1) : Ci l 8 yX12_season wsX12_season dC dI ad cA [.ref (ad 98), .int (sI a1), .int (sI a2)] M0 (fun r M' => ∃ a : Int, r = sI a ∧ INV pr Kz M' ∧ FR [98, 99, 103, 104, 105] M0 M' ∧ (-3) ≤ a ∧ a ≤ 40 ∧ (a = sqA (M0.1 99) a1 a2) ∧ (b01 (M'.1 99 = sqS (M0.1 99) a1 a2) = 1) ∧ (b01 (PI M') = 1)) := by
  refine ci_of (cc := cX12_season) (maxL := 6) (ty := .int) (lv := [(0, .ref (ad 98)), (1, .int (sI a1)), (2, .int (sI a2))]) (by decide) rfl (fun r M' hp => rfl) (Nat.le_of_ble_eq_true rfl) rfl ?_
  intro p e s m args below meth c A Q C hret
  refine j_aload_n C 0 0 dX12_season_0 rfl rfl ?_
  refine y_iconst C dX12_season_1 ?_
  refine y_putIF C 11 qX12_season_1 rfl rfl ft_11_0 sb_11_0 hM0 (PM.w hpr rfl rfl) dX12_season_2 (fun M101 eM101 hM101 => ?_)
  have pM101 := pi_o eM101 (by decide) (by decide) (by exact hp0)
  refine j_iload_n C 2 2 dX12_season_5 rfl rfl ?_
  refine y_i2l C dX12_season_6 (by exact ⟨ha2.1, ha2.2⟩) ?_
  refine y_lconst C 1 dX12_season_7 rfl ?_
  refine y_ldc2 C 40 dX12_season_8 kX12_season_336 rfl ?_
  refine j_callSi C (d := 0) (As := [.long (sJ a2), .long (sJ 1), .long (sJ 40)]) (st := []) (s1_X12_within hM101 a2 (by omega) 1 (by exact ⟨(by decide), (by decide)⟩) 40 (by exact ⟨(by decide), (by decide)⟩)) gX12_season_X12_within rfl hdX12_withins (by decide) (Nat.le_of_ble_eq_true rfl) dX12_season_11 rfl (fun r102 M103 h104 => ?_)
  obtain ⟨a106, rfl, rfl, h105⟩ := h104
  refine y_if_ne C 20 dX12_season_14 (by decide) (by omega) (fun h107 => ?_) (fun h107 => ?_)
  · refine j_aload_n C 0 0 dX12_season_20 rfl rfl ?_
    refine j_callVv C (d := 0) (As := []) (st := []) 98 (s_lt rfl rfl) (s_kc (c := 11) rfl rfl) (by decide) rfl (s1_X12_keeps hM101 hpr (by exact pM101)) gX12_season_X12_keeps rfl hdX12_keeps (by decide) (Nat.le_of_ble_eq_true rfl) dX12_season_21 rfl (fun M109 h110 => ?_)
    obtain ⟨hM109, fM109, h111⟩ := h110
    refine j_aload_n C 0 0 dX12_season_24 rfl rfl ?_
    refine y_getC C 11 99 fX12_season_13 rfl rfl ft_11_1 sm_11_1 rfl hM109 dX12_season_25 ?_
    refine y_bipush C dX12_season_28 rfl ?_
    refine j_iload_n C 1 1 dX12_season_30 rfl rfl ?_
    refine y_iastH C 45 3543 rfl rfl rfl ak_45 an_45 rfl _ _ hM109 (PM.w hpr rfl (hm_32_32 _ (by exact (by decide)) (by exact (by decide)))) (hs_45_32_32 _ (by exact (by decide)) (by exact (by decide))) dX12_season_31 (by exact ⟨(by decide), (by decide)⟩) (by exact ⟨⟨ha1.1, ha1.2⟩, ⟨ha1.1, ha1.2⟩⟩) (fun M112 eM112 hM112 => ?_)
    have pM112 := pi_n eM112 (hn_32_32 _ (by exact (by decide)) (by exact (by decide))) (by exact h111.2)
    refine y_iconst C dX12_season_32 ?_
    refine j_istore_n C 3 [(3, .int (sI 0)), (0, .ref (ad 98)), (1, .int (sI a1)), (2, .int (sI a2))] dX12_season_33 rfl (by decide) rfl ?_
    refine y_iconst C dX12_season_34 ?_
    refine j_istore C 4 [(4, .int (sI 0)), (3, .int (sI 0)), (0, .ref (ad 98)), (1, .int (sI a1)), (2, .int (sI a2))] dX12_season_35 (by decide) rfl ?_
    have u113z := se_0 (uR (M0.1 99) 32 a1)
    have u113e : b01 (M112.1 99 = (seF (uR (M0.1 99) 32 a1) (0 : Int).toNat).1) = 1 := b01_i ((uR_w eM112).trans (by rw [(((FR.cell fM109 (by decide)).trans (wI_cell eM101 (by decide))))]; rfl))
    have u113k := kn_f (M := M109) (N := M112) (f := M0.1 99) (x := 23) (by rw [show M0.1 99 = M101.1 99 from ((wI_cell eM101 (by decide))).symm]; exact b01_i (b01_e (P := KPN M109 (M101.1 99) 23) (by exact h111.1))) ((wI_cell eM112 (by decide)))
    have L141 : ∀ (n139 : Nat), ∀ (a142 : Int) (a143 : Int) (M144 : mm_M), (0 ≤ a142 ∧ a142 ≤ 40 ∧ 0 ≤ a143 ∧ a143 ≤ 40 ∧ (a142 ≤ a143) ∧ (b01 (M144.1 99 = (seF (uR (M0.1 99) 32 a1) (a143).toNat).1) = 1) ∧ (a142 = (seF (uR (M0.1 99) 32 a1) (a143).toNat).2) ∧ (b01 (KPN M144 (M0.1 99) 23) = 1) ∧ (a143 ≤ a2) ∧ (b01 (PI M144) = 1) ∧ (40 - a143) < (n139 : Int)) → INV pr Kz M144 → FR [98, 99, 103, 104, 105] M0 M144 → jj p l e (cn_R 8) s m args below meth c 0 0 Q 6 dC dI ad cA A M144 37 [(0, .ref (ad 98)), (2, .int (sI a2)), (3, .int (sI a142)), (4, .int (sI a143))] [] := by
      intro n139
      induction n139 with
      | zero =>
        intro a142 a143 M144 h145 hM144 fM144
        exfalso; omega
      | succ n139 ih140 =>
        intro a142 a143 M144 h145 hM144 fM144
        refine j_iload C 3 dX12_season_37 rfl ?_
        refine j_iload_n C 1 2 dX12_season_39 rfl rfl ?_
        refine y_icmp_ge C 77 dX12_season_40 (by decide) (by exact ⟨⟨(by (clear fM144 hM144 ih140 u113k u113e u113z pM112 hM112 eM112 h111 fM109 hM109 h107 h105 pM101 hM101 eM101 hret C hp0 ha1 hcw hpr hM0; omega)), (by (clear fM144 hM144 ih140 u113k u113e u113z pM112 hM112 eM112 h111 fM109 hM109 h107 h105 pM101 hM101 eM101 hret C hp0 ha1 hcw hpr hM0; omega))⟩, ⟨ha2.1, ha2.2⟩⟩) (fun h147 => ?_) (fun h147 => ?_)
        · have u168x : a143 = a2 := by (clear fM144 hM144 ih140 u113k u113e u113z pM112 hM112 eM112 h111 fM109 hM109 h107 h105 pM101 hM101 eM101 hret C hp0 ha2 ha1 hcw hpr hM0; omega)
          have u168y : (seF (uR (M0.1 99) 32 a1) (a143).toNat).2 = (seF (uR (M0.1 99) 32 a1) (a2).toNat).2 := by rw [u168x]
          have u168z : b01 (M144.1 99 = (seF (uR (M0.1 99) 32 a1) (a2).toNat).1) = 1 := by rw [← u168x]; exact h145.2.2.2.2.2.1
          refine j_iload_n C 2 3 dX12_season_77 rfl rfl ?_
          refine y_if_le C 88 dX12_season_78 (by decide) (by (clear u168z u168x h147 fM144 hM144 ih140 u113k u113e u113z pM112 hM112 eM112 h111 fM109 hM109 h107 h105 pM101 hM101 eM101 hret C hp0 ha2 ha1 hcw hpr hM0; omega)) (fun h169 => ?_) (fun h169 => ?_)
          · refine j_aload_n C 0 0 dX12_season_88 rfl rfl ?_
            refine j_callVv C (d := 0) (As := []) (st := []) 98 (s_lt rfl rfl) (s_kc (c := 11) rfl rfl) (by decide) rfl (s1_X12_isAgain hM144 hpr (by exact h145.2.2.2.2.2.2.2.2.2.1)) gX12_season_X12_isAgain rfl hdX12_isAgain (by decide) (Nat.le_of_ble_eq_true rfl) dX12_season_89 rfl (fun M171 h172 => ?_)
            obtain ⟨hM171, fM171, h173⟩ := h172
            refine j_iload_n C 2 3 dX12_season_92 rfl rfl ?_
            have u174k := sq_z (M := M144) (M1 := M144) (N := M171) (f := M0.1 99) (s := a1) (n := a2) (c := a142) (by (clear h173 fM171 hM171 h169 u168z u168y u168x fM144 hM144 ih140 u113k u113e u113z pM112 hM112 eM112 h111 fM109 hM109 pM101 hM101 eM101 hret C hp0 ha2 ha1 hcw hpr hM0; omega)) (by (clear h173 fM171 hM171 h169 u168z u168x h147 fM144 hM144 ih140 u113k u113e u113z pM112 hM112 eM112 h111 fM109 hM109 h107 h105 pM101 hM101 eM101 hret C hp0 ha2 ha1 hcw hpr hM0; omega)) (by (clear h173 fM171 hM171 u168z u168x h147 fM144 hM144 ih140 u113k u113e u113z pM112 hM112 eM112 h111 fM109 hM109 h107 h105 pM101 hM101 eM101 hret C hp0 ha2 ha1 hcw hpr hM0; omega)) (by exact h173.1) (by exact h145.2.2.2.2.2.2.2.1) rfl (by exact u168z)
            exact hret _ _ _ _ dX12_season_93 ⟨a142, rfl, hM171, ((FR.rf.tr fM144 (by decide)).tr fM171 (by decide)), by exact ⟨(by (clear fM171 hM171 u168z u168x h147 fM144 hM144 ih140 u113k u113e u113z pM112 hM112 eM112 h111 fM109 hM109 h107 h105 pM101 hM101 eM101 hret C hp0 ha2 ha1 hcw hpr hM0; omega)), ⟨h145.2.1, ⟨u174k.1, ⟨u174k.2, h173.2⟩⟩⟩⟩⟩
          · refine j_aload_n C 0 0 dX12_season_81 rfl rfl ?_
            refine j_callVv C (d := 0) (As := []) (st := []) 98 (s_lt rfl rfl) (s_kc (c := 11) rfl rfl) (by decide) rfl (s1_X12_notes hM144 hpr (by exact h145.2.2.2.2.2.2.2.2.2.1)) gX12_season_X12_notes rfl hdX12_notes (by decide) (Nat.le_of_ble_eq_true rfl) dX12_season_82 rfl (fun M176 h177 => ?_)
            obtain ⟨hM176, fM176, h178⟩ := h177
            refine j_goto C 92 dX12_season_85 (by decide) ?_
            refine j_iload_n C 2 3 dX12_season_92 rfl rfl ?_
            have u179q := nt_q (M := M144) (Mk := M144) (N := M176) (f := M0.1 99) (g := (seF (uR (M0.1 99) 32 a1) (a2).toNat).1) (by exact h178.1) (by exact h145.2.2.2.2.2.2.2.1) rfl (b01_e (by exact u168z))
            have u179k := sq_y (f := M0.1 99) (N := M176.1 99) (s := a1) (n := a2) (c := a142) (by (clear u179q h178 fM176 hM176 u168z u168x fM144 hM144 ih140 u113k u113e u113z pM112 hM112 eM112 h111 fM109 hM109 h107 h105 pM101 hM101 eM101 hret C hp0 ha2 ha1 hcw hpr hM0; omega)) (by omega) (by (clear u179q h178 fM176 hM176 u168z u168x h147 fM144 hM144 ih140 u113k u113e u113z pM112 hM112 eM112 h111 fM109 hM109 h107 h105 pM101 hM101 eM101 hret C hp0 ha2 ha1 hcw hpr hM0; omega)) u179q
            exact hret _ _ _ _ dX12_season_93 ⟨a142, rfl, hM176, ((FR.rf.tr fM144 (by decide)).tr fM176 (by decide)), by exact ⟨(by (clear u179q fM176 hM176 u168z u168x h147 fM144 hM144 ih140 u113k u113e u113z pM112 hM112 eM112 h111 fM109 hM109 h107 h105 pM101 hM101 eM101 hret C hp0 ha2 ha1 hcw hpr hM0; omega)), ⟨h145.2.1, ⟨u179k.1, ⟨u179k.2, h178.2⟩⟩⟩⟩⟩
        · refine j_aload_n C 0 0 dX12_season_43 rfl rfl ?_
          refine j_callVi C (d := 1) (As := []) (st := []) 98 (s_lt rfl rfl) (s_kc (c := 11) rfl rfl) (by decide) rfl (s1_X12_drawn hM144 hpr (by exact h145.2.2.2.2.2.2.2.2.2.1)) gX12_season_X12_drawn rfl hdX12_drawn (by decide) (Nat.le_of_ble_eq_true rfl) dX12_season_44 rfl (fun r148 M149 h150 => ?_)
          obtain ⟨a152, rfl, hM149, fM149, h151⟩ := h150
          refine j_istore C 5 [(5, .int (sI a152)), (0, .ref (ad 98)), (2, .int (sI a2)), (3, .int (sI a142)), (4, .int (sI a143))] dX12_season_47 (by decide) rfl ?_
          refine j_aload_n C 1 0 dX12_season_49 rfl rfl ?_
          refine j_iload C 0 dX12_season_50 rfl ?_
          refine y_i2l C dX12_season_52 (by (clear fM149 hM149 h147 fM144 hM144 h145 ih140 u113k u113e u113z pM112 hM112 eM112 h111 fM109 hM109 h107 h105 pM101 hM101 eM101 hret C hp0 ha2 ha1 hcw hpr hM0; omega)) ?_
          refine j_callVi C (d := 6) (As := [.long (sJ a152)]) (st := []) 98 (s_lt rfl rfl) (s_kc (c := 11) rfl rfl) (by decide) rfl (s1_X12_whyNot hM149 hpr hcw a152 (by (clear fM149 hM149 h147 fM144 hM144 h145 ih140 u113k u113e u113z pM112 hM112 eM112 h111 fM109 hM109 h107 h105 pM101 hM101 eM101 hret C hp0 ha2 ha1 hcw hpr hM0; omega)) (by exact h151.2.2.2.2)) gX12_season_X12_whyNot rfl hdX12_whyNot (by decide) (Nat.le_of_ble_eq_true rfl) dX12_season_53 rfl (fun r154 M155 h156 => ?_)
          obtain ⟨a158, rfl, hM155, fM155, h157⟩ := h156
          obtain rfl : a158 = (wnF (M149.1 99) a152) := by exact h157.2.2.1
          refine y_if_eq C 62 dX12_season_56 (by decide) (by (clear fM155 hM155 h151 fM149 hM149 h147 fM144 hM144 h145 ih140 u113k u113e u113z pM112 hM112 eM112 h111 fM109 hM109 h107 h105 pM101 hM101 eM101 hret C hp0 ha2 ha1 hcw hpr hM0; omega)) (fun h160 => ?_) (fun h160 => ?_)
          · refine j_aload_n C 1 0 dX12_season_62 rfl rfl ?_
            refine j_iload C 0 dX12_season_63 rfl ?_
            have u161 : bnF (M155.1 99) a152 = bnF (M149.1 99) a152 := by rw [(FR.cell fM155 (by decide))]
            refine j_callVv C (d := 7) (As := [.int (sI a152)]) (st := []) 98 (s_lt rfl rfl) (s_kc (c := 11) rfl rfl) (by decide) rfl (s1_X12_does hM155 hpr hcw a152 (by (clear u161 h160 h157 fM155 hM155 fM149 hM149 h147 fM144 hM144 h145 ih140 u113k u113e u113z pM112 hM112 eM112 h111 fM109 hM109 h107 h105 pM101 hM101 eM101 hret C hp0 ha2 ha1 hcw hpr hM0; omega)) (by (clear fM155 hM155 fM149 hM149 h147 fM144 hM144 h145 ih140 u113k u113e u113z pM112 hM112 eM112 h111 fM109 hM109 h107 h105 pM101 hM101 eM101 hret C hp0 ha2 ha1 hcw hpr hM0; omega)) (by exact ⟨h151.1, (by (clear u161 h160 h157 fM155 hM155 fM149 hM149 h147 fM144 hM144 h145 ih140 u113k u113e u113z pM112 hM112 eM112 h111 fM109 hM109 h107 h105 pM101 hM101 eM101 hret C hp0 ha2 ha1 hcw hpr hM0; omega))⟩) (by exact h157.2.2.2.2)) gX12_season_X12_does rfl hdX12_does (by decide) (Nat.le_of_ble_eq_true rfl) dX12_season_65 rfl (fun M163 h164 => ?_)
            obtain ⟨hM163, fM163, h165⟩ := h164
            refine y_iinc C 3 [(3, .int (sI (a142 + 1))), (5, .int (sI a152)), (0, .ref (ad 98)), (2, .int (sI a2)), (4, .int (sI a143))] dX12_season_68 rfl (by decide) rfl ?_
            refine y_iinc C 4 [(4, .int (sI (a143 + 1))), (3, .int (sI (a142 + 1))), (5, .int (sI a152)), (0, .ref (ad 98)), (2, .int (sI a2))] dX12_season_71 rfl (by decide) rfl ?_
            refine j_goto C 37 dX12_season_74 (by decide) ?_
            have u166w := seq_y (f := uR (M0.1 99) 32 a1) (g := M144.1 99) (h := M149.1 99) (N := M163.1 99) (x := a143) (x' := (a143 + 1)) (v := a152) (w := (wnF (M149.1 99) a152)) (c := a142) (h' := M155.1 99) (by exact h145.2.2.2.2.2.1) (by exact h151.2.2.2.1) (by exact h151.2.2.1) (by exact h157.2.2.1) (by exact h160) ((FR.cell fM155 (by decide))) (by exact h165.1) (by exact h145.2.2.2.2.2.2.1) (by (clear h165 fM163 hM163 u161 h160 h157 fM155 hM155 h151 fM149 hM149 h147 fM144 hM144 ih140 u113k u113e u113z pM112 hM112 eM112 h111 fM109 hM109 h107 h105 pM101 hM101 eM101 hret C hp0 ha2 ha1 hcw hpr hM0; omega))
            have u166k := kn_f (M := M144) (N := M163) (f := M0.1 99) (x := 23) (by exact h145.2.2.2.2.2.2.2.1) ((((FR.cell fM163 (by decide)).trans (FR.cell fM155 (by decide))).trans (FR.cell fM149 (by decide))))
            refine j_lv [3, 4, 1, 0] rfl ?_; exact ih140 (a142 + 1) (a143 + 1) M163 (by (clear fM163 hM163 u161 fM155 hM155 fM149 hM149 fM144 hM144 ih140 u113k u113e u113z pM112 hM112 eM112 h111 fM109 hM109 pM101 hM101 eM101 hret C hp0 ha1 hcw hpr hM0; omega)) hM163 ((((FR.rf.tr fM144 (by decide)).tr fM149 (by decide)).tr fM155 (by decide)).tr fM163 (by decide))
          · refine j_goto C 71 dX12_season_59 (by decide) ?_
            refine y_iinc C 4 [(4, .int (sI (a143 + 1))), (5, .int (sI a152)), (0, .ref (ad 98)), (2, .int (sI a2)), (3, .int (sI a142))] dX12_season_71 rfl (by decide) rfl ?_
            refine j_goto C 37 dX12_season_74 (by decide) ?_
            have u167w := seq_n (f := uR (M0.1 99) 32 a1) (g := M144.1 99) (h := M149.1 99) (N := M155.1 99) (x := a143) (x' := (a143 + 1)) (v := a152) (w := (wnF (M149.1 99) a152)) (c := a142) (by exact h145.2.2.2.2.2.1) (by exact h151.2.2.2.1) (by exact h151.2.2.1) (by exact h157.2.2.1) (by exact h160) ((FR.cell fM155 (by decide))) (by exact h145.2.2.2.2.2.2.1) (by (clear h160 h157 fM155 hM155 h151 fM149 hM149 h147 fM144 hM144 ih140 u113k u113e u113z pM112 hM112 eM112 h111 fM109 hM109 h107 h105 pM101 hM101 eM101 hret C hp0 ha2 ha1 hcw hpr hM0; omega))
            have u167k := kn_f (M := M144) (N := M155) (f := M0.1 99) (x := 23) (by exact h145.2.2.2.2.2.2.2.1) (((FR.cell fM155 (by decide)).trans (FR.cell fM149 (by decide))))
            refine j_lv [2, 3, 4, 0] rfl ?_; exact ih140 a142 (a143 + 1) M155 (by exact ⟨h145.1, ⟨h145.2.1, ⟨(by (clear fM155 hM155 h151 fM149 hM149 fM144 hM144 ih140 u113k u113e u113z pM112 hM112 eM112 h111 fM109 hM109 pM101 hM101 eM101 hret C hp0 ha1 hcw hpr hM0; omega)), ⟨(by (clear fM155 hM155 h151 fM149 hM149 fM144 hM144 ih140 u113k u113e u113z pM112 hM112 eM112 h111 fM109 hM109 pM101 hM101 eM101 hret C hp0 ha1 hcw hpr hM0; omega)), ⟨(by (clear fM155 hM155 h151 fM149 hM149 fM144 hM144 ih140 u113k u113e u113z pM112 hM112 eM112 h111 fM109 hM109 pM101 hM101 eM101 hret C hp0 ha1 hcw hpr hM0; omega)), ⟨u167w.1, ⟨u167w.2, ⟨u167k, ⟨(by (clear fM155 hM155 h151 fM149 hM149 fM144 hM144 ih140 u113k u113e u113z pM112 hM112 eM112 h111 fM109 hM109 pM101 hM101 eM101 hret C hp0 ha1 hcw hpr hM0; omega)), ⟨h157.2.2.2.2, (by (clear fM155 hM155 h151 fM149 hM149 fM144 hM144 ih140 u113k u113e u113z pM112 hM112 eM112 h111 fM109 hM109 pM101 hM101 eM101 hret C hp0 ha1 hcw hpr hM0; omega))⟩⟩⟩⟩⟩⟩⟩⟩⟩⟩) hM155 (((FR.rf.tr fM144 (by decide)).tr fM149 (by decide)).tr fM155 (by decide))
    refine j_lv [2, 4, 1, 0] rfl ?_; exact L141 2010 0 0 M112 (by exact ⟨(by decide), ⟨(by decide), ⟨(by decide), ⟨(by decide), ⟨(by decide), ⟨u113e, ⟨u113z.2.symm, ⟨u113k, ⟨(by (clear L141 hM112 eM112 h111 fM109 hM109 pM101 hM101 eM101 hret C hp0 ha1 hcw hpr hM0; omega)), ⟨pM112, (by decide)⟩⟩⟩⟩⟩⟩⟩⟩⟩⟩) hM112 (((FR.rf.wI eM101 (by decide)).tr fM109 (by decide)).wI eM112 (by decide))
  · refine y_bipush C dX12_season_17 rfl ?_
    have u180k := sq_n (f := M0.1 99) (N := M101.1 99) (s := a1) (n := a2) (by (clear pM101 hM101 eM101 hret C hp0 ha1 hcw hpr hM0; omega)) ((wI_cell eM101 (by decide)))
    exact hret _ _ _ _ dX12_season_19 ⟨(-3), rfl, hM101, (FR.rf.wI eM101 (by decide)), by exact ⟨(by decide), ⟨(by decide), ⟨u180k.1.symm, ⟨u180k.2, pM101⟩⟩⟩⟩⟩
set_option maxHeartbeats 4000000 in
theorem s1_X12_laysBuys {l : Launch} {dC : Nat → ClassId} {dI : Nat → Nat → Nat} {ad : Nat → Nat} {cA : Nat → ClassId} {pr : Nat → Nat → Bool} {Kz : mm_M} {M0 : mm_M} (hM0 : INV pr Kz M0) (hpr : PM pr) (hcw : CWK pr Kz)  (hp0 : b01 (PI M0) = 1) : Cv l 4 yX12_laysBuys wsX12_laysBuys dC dI ad cA [.ref (ad 98)] M0 (fun M' => INV pr Kz M' ∧ FR [103, 104, 106] M0 M' ∧ (b01 (lbP M') = 1) ∧ (b01 (LBF M' (M0.1 99)) = 1) ∧ (b01 (PI M') = 1)) := by
  refine cv_of (cc := cX12_laysBuys) (maxL := 3) (lv := [(0, .ref (ad 98))]) (by decide) rfl (Nat.le_of_ble_eq_true rfl) rfl ?_
  intro p e s m args below meth c A Q C hret
  have u101r26 := INV.rd hM0 (i := 99) (c := 45) (k := 26) rfl rfl
  have u101r1 := INV.rd hM0 (i := 99) (c := 45) (k := 1) rfl rfl
  refine y_iconst C dX12_laysBuys_0 ?_
  refine j_istore_n C 1 [(1, .int (sI 0)), (0, .ref (ad 98))] dX12_laysBuys_1 rfl (by decide) rfl ?_
  have u102 := lb_0 M0 (M0.1 99)
  have u102x := lx_0 M0 (M0.1 99)
  have L143 : ∀ (n141 : Nat), ∀ (a144 : Int) (M145 : mm_M), (0 ≤ a144 ∧ a144 ≤ 256 ∧ (b01 (lbQ M145 (M0.1 99) a144 0) = 1) ∧ (b01 (LBX M145 (M0.1 99) a144 0) = 1) ∧ (b01 (PI M145) = 1) ∧ (256 - a144) < (n141 : Int)) → INV pr Kz M145 → FR [103, 104, 106] M0 M145 → jj p l e (cn_R 4) s m args below meth c 0 0 Q 3 dC dI ad cA A M145 2 [(0, .ref (ad 98)), (1, .int (sI a144))] [] := by
    intro n141
    induction n141 with
    | zero =>
      intro a144 M145 h146 hM145 fM145
      exfalso; omega
    | succ n141 ih142 =>
      intro a144 M145 h146 hM145 fM145
      refine j_iload_n C 1 1 dX12_laysBuys_2 rfl rfl ?_
      refine j_aload_n C 0 0 dX12_laysBuys_3 rfl rfl ?_
      refine j_callVi C (d := 0) (As := []) (st := [.int (sI a144)]) 98 (s_lt rfl rfl) (s_kc (c := 11) rfl rfl) (by decide) rfl (s1_X12_everyKind hM145) gX12_laysBuys_X12_everyKind rfl hdX12_everyKind (by decide) (Nat.le_of_ble_eq_true rfl) dX12_laysBuys_4 rfl (fun r147 M148 h149 => ?_)
      obtain ⟨a151, rfl, rfl, h150⟩ := h149
      rw [show M145.1 99 = M0.1 99 from (FR.cell fM145 (by decide))] at h150
      obtain rfl : a151 = (evF (M0.1 99)) := by exact h150.2.2
      refine y_icmp_gt C 51 dX12_laysBuys_7 (by decide) (by (clear fM145 hM145 ih142 u102x u102 u101r1 u101r26 hret C hp0 hcw hpr hM0; omega)) (fun h152 => ?_) (fun h152 => ?_)
      · have u183 := lb_e (M := M145) (f := (M0.1 99)) (s := a144) (show M145.1 99 = M0.1 99 from (FR.cell fM145 (by decide))) (by exact h146.2.2.1) (by exact h152)
        have u183x := lx_e (M := M145) (f := (M0.1 99)) (s := a144) (by exact h146.2.2.2.1) (by exact h152)
        exact hret _ _ _ dX12_laysBuys_51 ⟨hM145, (FR.rf.tr fM145 (by decide)), by exact ⟨u183, ⟨u183x, h146.2.2.2.2.1⟩⟩⟩
      · refine y_iconst C dX12_laysBuys_10 ?_
        refine j_istore_n C 2 [(2, .int (sI 0)), (0, .ref (ad 98)), (1, .int (sI a144))] dX12_laysBuys_11 rfl (by decide) rfl ?_
        have L167 : ∀ (n165 : Nat), ∀ (a168 : Int) (M169 : mm_M), (0 ≤ a168 ∧ a168 ≤ 6 ∧ (b01 (lbQ M169 (M0.1 99) a144 a168) = 1) ∧ (b01 (LBX M169 (M0.1 99) a144 a168) = 1) ∧ (b01 (PI M169) = 1) ∧ (6 - a168) < (n165 : Int)) → INV pr Kz M169 → FR [103, 104, 106] M0 M169 → jj p l e (cn_R 4) s m args below meth c 0 0 Q 3 dC dI ad cA A M169 12 [(0, .ref (ad 98)), (1, .int (sI a144)), (2, .int (sI a168))] [] := by
          intro n165
          induction n165 with
          | zero =>
            intro a168 M169 h170 hM169 fM169
            exfalso; omega
          | succ n165 ih166 =>
            intro a168 M169 h170 hM169 fM169
            refine j_iload_n C 2 2 dX12_laysBuys_12 rfl rfl ?_
            refine j_aload_n C 0 0 dX12_laysBuys_13 rfl rfl ?_
            refine y_getC C 11 99 fX12_laysBuys_13 rfl rfl ft_11_1 sm_11_1 rfl hM169 dX12_laysBuys_14 ?_
            refine y_iconst C dX12_laysBuys_17 ?_
            refine y_ialdH C 45 3543 rfl rfl rfl ak_45 an_45 rfl _ _ hM169 (hr_45_1_1 _ (by exact (by decide)) (by exact (by decide))) dX12_laysBuys_18 (by exact ⟨(by decide), (by decide)⟩) (fun a171 ea171 la171 ua171 => ?_)
            obtain rfl : a171 = (M0.1 99 1).toInt := s_fF fM169 (by decide) (ea171)
            refine y_icmp_ge C 45 dX12_laysBuys_19 (by decide) (by (clear ua171 la171 fM169 hM169 ih166 h152 h150 fM145 hM145 h146 ih142 u102x u102 u101r26 hret C hp0 hcw hpr hM0; omega)) (fun h172 => ?_) (fun h172 => ?_)
            · have u181 := lb_n (f := (M0.1 99)) (M := M169) (s := a144) (b := a168) (by exact h170.2.2.1) (by exact h172)
              have u181x := lx_n (M := M169) (f := (M0.1 99)) (s := a144) (b := a168) (by exact h170.2.2.2.1) (by exact h172)
              refine y_iinc C 1 [(1, .int (sI (a144 + 1))), (0, .ref (ad 98)), (2, .int (sI a168))] dX12_laysBuys_45 rfl (by decide) rfl ?_
              refine j_goto C 2 dX12_laysBuys_48 (by decide) ?_
              refine j_lv [1, 0] rfl ?_; exact ih142 (a144 + 1) M169 (by exact ⟨(by (clear h172 ua171 la171 ea171 fM169 hM169 ih166 fM145 hM145 ih142 u102x u102 u101r1 u101r26 hret C hp0 hcw hpr hM0; omega)), ⟨(by (clear h172 ua171 la171 ea171 fM169 hM169 ih166 fM145 hM145 ih142 u102x u102 u101r1 u101r26 hret C hp0 hcw hpr hM0; omega)), ⟨u181, ⟨u181x, ⟨h170.2.2.2.2.1, (by (clear h172 ua171 la171 ea171 fM169 hM169 ih166 fM145 hM145 ih142 u102x u102 u101r1 u101r26 hret C hp0 hcw hpr hM0; omega))⟩⟩⟩⟩⟩) hM169 (FR.rf.tr fM169 (by decide))
            · refine j_aload_n C 0 0 dX12_laysBuys_22 rfl rfl ?_
              refine y_getC C 11 106 fX12_laysBuys_39 rfl rfl ft_11_19 sm_11_19 rfl hM169 dX12_laysBuys_23 ?_
              refine y_bipush C dX12_laysBuys_26 rfl ?_
              refine j_iload_n C 1 1 dX12_laysBuys_28 rfl rfl ?_
              refine y_imul C dX12_laysBuys_29 ?_
              refine j_iload_n C 2 2 dX12_laysBuys_30 rfl rfl ?_
              refine y_iadd C dX12_laysBuys_31 ?_
              refine j_aload_n C 0 0 dX12_laysBuys_32 rfl rfl ?_
              refine j_iload_n C 2 2 dX12_laysBuys_33 rfl rfl ?_
              refine j_iload_n C 1 1 dX12_laysBuys_34 rfl rfl ?_
              refine j_callVi C (d := 3) (As := [.int (sI a168), .int (sI a144)]) (st := [.int (sI ((6 * a144) + a168)), .ref (ad 106)]) 98 (s_lt rfl rfl) (s_kc (c := 11) rfl rfl) (by decide) rfl (s1_X12_buysOf hM169 hpr hcw a168 (by omega) a144 (by omega) (by exact ⟨h170.1, (by (clear ua171 la171 fM169 hM169 ih166 h152 h150 fM145 hM145 h146 ih142 u102x u102 u101r26 hret C hp0 hcw hpr hM0; omega))⟩) (by exact h170.2.2.2.2.1)) gX12_laysBuys_X12_buysOf rfl hdX12_buysOf (by decide) (Nat.le_of_ble_eq_true rfl) dX12_laysBuys_35 rfl (fun r173 M174 h175 => ?_)
              obtain ⟨a177, rfl, hM174, fM174, h176⟩ := h175
              rw [show M169.1 99 = M0.1 99 from (FR.cell fM169 (by decide))] at h176
              obtain rfl : a177 = (boF (M0.1 99) a168 a144) := by exact h176.2.2.1
              have u178 : b01 (lbQ M174 (M0.1 99) a144 a168) = 1 := b01_i (by intro s b; rw [FR.cell fM174 (by decide)]; exact b01_e (P := lbQ M169 (M0.1 99) a144 a168) (by exact h170.2.2.1) s b)
              have u178x := lx_c (M := M169) (N := M174) (f := (M0.1 99)) (s := a144) (b := a168) (FR.cell fM174 (by decide)) (by exact h170.2.2.2.1)
              refine y_iast C 52 1536 _ _ rfl rfl rfl ak_52 an_52 rfl (sb_52 _) hM174 (PM.w hpr rfl rfl) dX12_laysBuys_38 (by (clear u178x u178 h176 fM174 hM174 ua171 la171 fM169 hM169 ih166 fM145 hM145 ih142 u102x u102 u101r26 hret C hp0 hcw hpr hM0; omega)) (by exact ⟨⟨(by (clear u178x u178 fM174 hM174 h172 ua171 la171 ea171 fM169 hM169 h170 ih166 h152 h150 fM145 hM145 h146 ih142 u102x u102 u101r1 u101r26 hret C hp0 hcw hpr hM0; omega)), (by (clear u178x u178 fM174 hM174 h172 ua171 la171 ea171 fM169 hM169 h170 ih166 h152 h150 fM145 hM145 h146 ih142 u102x u102 u101r1 u101r26 hret C hp0 hcw hpr hM0; omega))⟩, ⟨h176.1, h176.2.1⟩⟩) (fun M179 eM179 hM179 => ?_)
              have pM179 := pi_o eM179 (by decide) (by decide) (by exact h176.2.2.2)
              have u180z := boF_lt (M0.1 99) a168 a144 (by exact u101r26.1)
              have u180 := lb_s (f := (M0.1 99)) (s := a144) (b := a168) eM179 (by exact u178) (by exact ⟨⟨(by (clear pM179 hM179 eM179 u178x u178 fM174 hM174 ua171 la171 fM169 hM169 ih166 h152 h150 fM145 hM145 ih142 u102x u102 u101r26 hret C hp0 hcw hpr hM0; omega)), (by (clear pM179 hM179 eM179 u178x u178 fM174 hM174 ua171 la171 fM169 hM169 ih166 h152 h150 fM145 hM145 ih142 u102x u102 u101r26 hret C hp0 hcw hpr hM0; omega))⟩, ⟨u180z, ⟨h146.1, ⟨h170.1, ⟨(by (clear pM179 hM179 eM179 u178x u178 fM174 hM174 ua171 la171 fM169 hM169 ih166 h152 h150 fM145 hM145 ih142 u102x u102 u101r26 hret C hp0 hcw hpr hM0; omega)), u101r1.2⟩⟩⟩⟩⟩)
              have u180x := lx_s (f := (M0.1 99)) (s := a144) (b := a168) eM179 (by exact u178x) (by exact ⟨⟨(by (clear u180 u180z pM179 hM179 eM179 u178x u178 fM174 hM174 ua171 la171 fM169 hM169 ih166 h152 h150 fM145 hM145 ih142 u102x u102 u101r26 hret C hp0 hcw hpr hM0; omega)), (by (clear u180 u180z pM179 hM179 eM179 u178x u178 fM174 hM174 ua171 la171 fM169 hM169 ih166 h152 h150 fM145 hM145 ih142 u102x u102 u101r26 hret C hp0 hcw hpr hM0; omega))⟩, ⟨h176.2.2.1, ⟨h146.1, ⟨h170.1, ⟨(by (clear u180 u180z pM179 hM179 eM179 u178x u178 fM174 hM174 ua171 la171 fM169 hM169 ih166 h152 h150 fM145 hM145 ih142 u102x u102 u101r26 hret C hp0 hcw hpr hM0; omega)), u101r1.2⟩⟩⟩⟩⟩)
              refine y_iinc C 2 [(2, .int (sI (a168 + 1))), (0, .ref (ad 98)), (1, .int (sI a144))] dX12_laysBuys_39 rfl (by decide) rfl ?_
              refine j_goto C 12 dX12_laysBuys_42 (by decide) ?_
              refine j_lv [1, 2, 0] rfl ?_; exact ih166 (a168 + 1) M179 (by exact ⟨(by (clear u180z hM179 eM179 u178x u178 h176 fM174 hM174 ua171 la171 fM169 hM169 ih166 h152 h150 fM145 hM145 h146 ih142 u102x u102 u101r26 hret C hp0 hcw hpr hM0; omega)), ⟨(by (clear u180z hM179 eM179 u178x u178 h176 fM174 hM174 ua171 la171 fM169 hM169 ih166 h152 h150 fM145 hM145 h146 ih142 u102x u102 u101r26 hret C hp0 hcw hpr hM0; omega)), ⟨u180, ⟨u180x, ⟨pM179, (by (clear u180z hM179 eM179 u178x u178 h176 fM174 hM174 ua171 la171 fM169 hM169 ih166 h152 h150 fM145 hM145 h146 ih142 u102x u102 u101r26 hret C hp0 hcw hpr hM0; omega))⟩⟩⟩⟩⟩) hM179 (((FR.rf.tr fM169 (by decide)).tr fM174 (by decide)).wI eM179 (by decide))
        refine j_lv [1, 2, 0] rfl ?_; exact L167 2010 0 M145 (by exact ⟨(by decide), ⟨(by decide), ⟨h146.2.2.1, ⟨h146.2.2.2.1, ⟨h146.2.2.2.2.1, (by decide)⟩⟩⟩⟩⟩) hM145 (FR.rf.tr fM145 (by decide))
  refine j_lv [1, 0] rfl ?_; exact L143 2010 0 M0 (by exact ⟨(by decide), ⟨(by decide), ⟨u102, ⟨u102x, ⟨hp0, (by decide)⟩⟩⟩⟩⟩) hM0 FR.rf
