set_option maxHeartbeats 4000000 in
theorem s1_X11_hundredths {l : Launch} {dC : Nat → ClassId} {dI : Nat → Nat → Nat} {ad : Nat → Nat} {cA : Nat → ClassId} {pr : Nat → Nat → Bool} {Kz : mm_M} {M0 : mm_M} (hM0 : INV pr Kz M0) (a0 : Int) (ha0 : -9223372036854775808 ≤ a0 ∧ a0 ≤ 9223372036854775807) (a2 : Int) (ha2 : -9223372036854775808 ≤ a2 ∧ a2 ≤ 9223372036854775807) : Cj l 0 yX11_hundredths wsX11_hundredths dC dI ad cA [.long (sJ a0), .long (sJ a2)] M0 (fun r M' => ∃ a : Int, r = sJ a ∧ M0 = M' ∧ (-9223372036854775808) ≤ a ∧ a ≤ 9223372036854775807) := by
  refine cj_of (cc := cX11_hundredths) (maxL := 8) (lv := [(0, .long (sJ a0)), (2, .long (sJ a2))]) (by decide) rfl (Nat.le_of_ble_eq_true rfl) rfl ?_
  intro p e s m args below meth c A Q C hret
  refine j_lload_n C 1 2 dX11_hundredths_0 rfl rfl ?_
  refine y_lconst C 0 dX11_hundredths_1 rfl ?_
  refine y_lcmp_gt C 8 dX11_hundredths_2 dX11_hundredths_3 (by decide) (by omega) (fun h101 => ?_) (fun h101 => ?_)
  · refine j_lload_n C 0 0 dX11_hundredths_8 rfl rfl ?_
    refine y_ldc2 C 10 dX11_hundredths_9 kX11_hundredths_318 rfl ?_
    refine y_lmul0 C dX11_hundredths_12 (fun a102 la102 ua102 => ?_)
    refine j_lload_n C 1 2 dX11_hundredths_13 rfl rfl ?_
    refine y_ldiv0 C dX11_hundredths_14 (by omega) (fun a103 la103 ua103 => ?_)
    refine j_lstore C 4 [(4, .long (sJ a103)), (0, .long (sJ a0)), (2, .long (sJ a2))] dX11_hundredths_15 (by decide) rfl ?_
    refine j_lload_n C 1 0 dX11_hundredths_17 rfl rfl ?_
    refine y_ldc2 C 10 dX11_hundredths_18 kX11_hundredths_318 rfl ?_
    refine y_lmul0 C dX11_hundredths_21 (fun a104 la104 ua104 => ?_)
    refine j_lload_n C 2 2 dX11_hundredths_22 rfl rfl ?_
    refine y_lrem0 C dX11_hundredths_23 (by omega) (fun a105 la105 ua105 => ?_)
    refine j_lstore C 6 [(6, .long (sJ a105)), (4, .long (sJ a103)), (0, .long (sJ a0)), (2, .long (sJ a2))] dX11_hundredths_24 (by decide) rfl ?_
    refine j_lload C 1 dX11_hundredths_26 rfl ?_
    refine y_ldc2 C 10 dX11_hundredths_28 kX11_hundredths_318 rfl ?_
    refine y_lmul0 C dX11_hundredths_31 (fun a106 la106 ua106 => ?_)
    refine j_lload C 0 dX11_hundredths_32 rfl ?_
    refine y_ldc2 C 10 dX11_hundredths_34 kX11_hundredths_318 rfl ?_
    refine y_lmul0 C dX11_hundredths_37 (fun a107 la107 ua107 => ?_)
    refine j_lload_n C 3 2 dX11_hundredths_38 rfl rfl ?_
    refine y_ldiv0 C dX11_hundredths_39 (by omega) (fun a108 la108 ua108 => ?_)
    refine y_ladd0 C dX11_hundredths_40 (fun a109 la109 ua109 => ?_)
    exact hret _ _ _ _ dX11_hundredths_41 ⟨a109, rfl, rfl, by omega⟩
  · refine y_lconst C 0 dX11_hundredths_6 rfl ?_
    exact hret _ _ _ _ dX11_hundredths_7 ⟨0, rfl, rfl, by omega⟩
set_option maxHeartbeats 4000000 in
theorem s1_X11_likely {l : Launch} {dC : Nat → ClassId} {dI : Nat → Nat → Nat} {ad : Nat → Nat} {cA : Nat → ClassId} {pr : Nat → Nat → Bool} {Kz : mm_M} {M0 : mm_M} (hM0 : INV pr Kz M0) (hpr : PX pr) (a1 : Int) (ha1 : -2147483648 ≤ a1 ∧ a1 ≤ 2147483647) : Ci l 6 yX11_likely wsX11_likely dC dI ad cA [.ref (ad 0), .int (sI a1)] M0 (fun r M' => ∃ a : Int, r = sI a ∧ INV pr Kz M' ∧ (-3) ≤ a ∧ a ≤ 10) := by
  refine ci_of (cc := cX11_likely) (maxL := 3) (ty := .int) (lv := [(0, .ref (ad 0)), (1, .int (sI a1))]) (by decide) rfl (fun r M' hp => rfl) (Nat.le_of_ble_eq_true rfl) rfl ?_
  intro p e s m args below meth c A Q C hret
  refine j_iload_n C 1 1 dX11_likely_0 rfl rfl ?_
  refine y_if_lt C 10 dX11_likely_1 (by decide) (by omega) (fun h101 => ?_) (fun h101 => ?_)
  · refine y_bipush C dX11_likely_10 rfl ?_
    exact hret _ _ _ _ dX11_likely_12 ⟨(-3), rfl, hM0, by omega⟩
  · refine j_iload_n C 1 1 dX11_likely_4 rfl rfl ?_
    refine y_bipush C dX11_likely_5 rfl ?_
    refine y_icmp_le C 13 dX11_likely_7 (by decide) (by omega) (fun h102 => ?_) (fun h102 => ?_)
    · refine j_aload_n C 0 0 dX11_likely_13 rfl rfl ?_
      refine y_getC C 10 88 fX11_likely_94 rfl rfl ft_10_14 sm_10_14 rfl hM0 dX11_likely_14 ?_
      refine j_aload_n C 0 0 dX11_likely_17 rfl rfl ?_
      refine y_getM C 10 6 fX11_likely_26 rfl rfl ft_10_4 sm_10_4 (by decide) hM0 dX11_likely_18 (fun v103 ev103 cv103 => ?_)
      refine j_aload_n C 0 0 dX11_likely_21 rfl rfl ?_
      refine y_getC C 10 12 fX11_likely_36 rfl rfl ft_10_6 sm_10_6 rfl hM0 dX11_likely_22 ?_
      refine j_aload_n C 0 0 dX11_likely_25 rfl rfl ?_
      refine y_getC C 10 12 fX11_likely_36 rfl rfl ft_10_6 sm_10_6 rfl hM0 dX11_likely_26 ?_
      refine y_getI C 8 _ _ fX11_likely_153 rfl rfl ft_8_4 sb_8_4 hM0 dX11_likely_29 (fun a104 ea104 la104 ua104 => ?_)
      refine j_callVv C (d := 5) (As := [.ref (ad v103), .ref (ad 12), .int (sI a104)]) (st := []) 88 (s_lt rfl rfl) (s_kc (c := 4) rfl rfl) (by decide) rfl (s1_X5_look hM0 hpr cv103 rfl a104 (by omega)) gX11_likely_X5_look rfl hdX5_look (by decide) (Nat.le_of_ble_eq_true rfl) dX11_likely_32 rfl (fun M107 h108 => ?_)
      have hM107 := h108
      refine y_iconst C dX11_likely_35 ?_
      refine j_istore_n C 2 [(2, .int (sI 0)), (0, .ref (ad 0)), (1, .int (sI a1))] dX11_likely_36 rfl (by decide) rfl ?_
      have L364 : ∀ (n362 : Nat), ∀ (a365 : Int) (M366 : mm_M), (0 ≤ a365 ∧ a365 ≤ 11 ∧ (11 - a365) < (n362 : Int)) → INV pr Kz M366 → jj p l e (cn_R 6) s m args below meth c 0 0 Q 3 dC dI ad cA A M366 37 [(0, .ref (ad 0)), (1, .int (sI a1)), (2, .int (sI a365))] [] := by
        intro n362
        induction n362 with
        | zero =>
          intro a365 M366 h367 hM366
          exfalso; omega
        | succ n362 ih363 =>
          intro a365 M366 h367 hM366
          refine j_iload_n C 2 2 dX11_likely_37 rfl rfl ?_
          refine y_bipush C dX11_likely_38 rfl ?_
          refine y_icmp_gt C 90 dX11_likely_40 (by decide) (by omega) (fun h368 => ?_) (fun h368 => ?_)
          · refine y_iconst C dX11_likely_90 ?_
            exact hret _ _ _ _ dX11_likely_91 ⟨(-1), rfl, hM366, by omega⟩
          · refine j_aload_n C 0 0 dX11_likely_43 rfl rfl ?_
            refine y_getC C 10 88 fX11_likely_94 rfl rfl ft_10_14 sm_10_14 rfl hM366 dX11_likely_44 ?_
            refine j_iload_n C 2 2 dX11_likely_47 rfl rfl ?_
            refine j_callVv C (d := 3) (As := [.int (sI a365)]) (st := []) 88 (s_lt rfl rfl) (s_kc (c := 4) rfl rfl) (by decide) rfl (s1_X5_passDays hM366 hpr a365 (by omega)) gX11_likely_X5_passDays rfl hdX5_passDays (by decide) (Nat.le_of_ble_eq_true rfl) dX11_likely_48 rfl (fun M370 h371 => ?_)
            have hM370 := h371
            refine j_aload_n C 0 0 dX11_likely_51 rfl rfl ?_
            refine y_getC C 10 88 fX11_likely_94 rfl rfl ft_10_14 sm_10_14 rfl hM370 dX11_likely_52 ?_
            refine y_getJ C 4 fX11_likely_296 rfl rfl ft_4_7 dX11_likely_55 (fun a373 ea373 la373 ua373 => ?_)
            refine j_aload_n C 0 0 dX11_likely_58 rfl rfl ?_
            refine y_getC C 10 88 fX11_likely_94 rfl rfl ft_10_14 sm_10_14 rfl hM370 dX11_likely_59 ?_
            refine j_callVj C (d := 1) (As := []) (st := [.long (sJ a373)]) 88 (s_lt rfl rfl) (s_kc (c := 4) rfl rfl) (by decide) rfl (s1_X5_openWays hM370) gX11_likely_X5_openWays rfl hdX5_openWays (by decide) (Nat.le_of_ble_eq_true rfl) dX11_likely_62 rfl (fun r374 M375 h376 => ?_)
            obtain ⟨a378, rfl, rfl, h377⟩ := h376
            refine y_lsub0 C dX11_likely_65 (fun a379 la379 ua379 => ?_)
            refine j_aload_n C 0 0 dX11_likely_66 rfl rfl ?_
            refine y_getC C 10 88 fX11_likely_94 rfl rfl ft_10_14 sm_10_14 rfl hM370 dX11_likely_67 ?_
            refine y_getJ C 4 fX11_likely_296 rfl rfl ft_4_7 dX11_likely_70 (fun a380 ea380 la380 ua380 => ?_)
            refine j_callSj C (d := 0) (As := [.long (sJ a379), .long (sJ a380)]) (st := []) (s1_X11_hundredths hM370 a379 (by omega) a380 (by omega)) gX11_likely_X11_hundredths rfl hdX11_hundredthss (by decide) (Nat.le_of_ble_eq_true rfl) dX11_likely_73 rfl (fun r381 M382 h383 => ?_)
            obtain ⟨a385, rfl, rfl, h384⟩ := h383
            refine j_iload_n C 1 1 dX11_likely_76 rfl rfl ?_
            refine y_i2l C dX11_likely_77 (by omega) ?_
            refine y_lcmp_lt C 84 dX11_likely_78 dX11_likely_79 (by decide) (by omega) (fun h386 => ?_) (fun h386 => ?_)
            · refine y_iinc C 2 [(2, .int (sI (a365 + 1))), (0, .ref (ad 0)), (1, .int (sI a1))] dX11_likely_84 rfl (by decide) rfl ?_
              refine j_goto C 37 dX11_likely_87 (by decide) ?_
              refine j_lv [1, 2, 0] rfl ?_; exact ih363 (a365 + 1) M370 (by omega) hM370
            · refine j_iload_n C 2 2 dX11_likely_82 rfl rfl ?_
              exact hret _ _ _ _ dX11_likely_83 ⟨a365, rfl, hM370, by omega⟩
      refine j_lv [1, 2, 0] rfl ?_; exact L364 2010 0 M107 (by omega) hM107
    · refine y_bipush C dX11_likely_10 rfl ?_
      exact hret _ _ _ _ dX11_likely_12 ⟨(-3), rfl, hM0, by omega⟩
set_option maxHeartbeats 4000000 in
theorem s1_X11_shutsBy {l : Launch} {dC : Nat → ClassId} {dI : Nat → Nat → Nat} {ad : Nat → Nat} {cA : Nat → ClassId} {pr : Nat → Nat → Bool} {Kz : mm_M} {M0 : mm_M} (hM0 : INV pr Kz M0) (hpr : PX pr) (a1 : Int) (ha1 : -2147483648 ≤ a1 ∧ a1 ≤ 2147483647) (a2 : Int) (ha2 : -2147483648 ≤ a2 ∧ a2 ≤ 2147483647) (a3 : Int) (ha3 : -2147483648 ≤ a3 ∧ a3 ≤ 2147483647) : Cj l 6 yX11_shutsBy wsX11_shutsBy dC dI ad cA [.ref (ad 0), .int (sI a1), .int (sI a2), .int (sI a3)] M0 (fun r M' => ∃ a : Int, r = sJ a ∧ INV pr Kz M' ∧ (-9223372036854775808) ≤ a ∧ a ≤ 9223372036854775807) := by
  refine cj_of (cc := cX11_shutsBy) (maxL := 5) (lv := [(0, .ref (ad 0)), (1, .int (sI a1)), (2, .int (sI a2)), (3, .int (sI a3))]) (by decide) rfl (Nat.le_of_ble_eq_true rfl) rfl ?_
  intro p e s m args below meth c A Q C hret
  refine j_aload_n C 0 0 dX11_shutsBy_0 rfl rfl ?_
  refine j_iload_n C 1 1 dX11_shutsBy_1 rfl rfl ?_
  refine j_callVi C (d := 0) (As := [.int (sI a1)]) (st := []) 0 (s_lt rfl rfl) (s_kc (c := 10) rfl rfl) (by decide) rfl (s1_X11_isBuyer hM0 a1 (by omega)) gX11_shutsBy_X11_isBuyer rfl hdX11_isBuyer (by decide) (Nat.le_of_ble_eq_true rfl) dX11_shutsBy_2 rfl (fun r101 M102 h103 => ?_)
  obtain ⟨a105, rfl, rfl, h104⟩ := h103
  have J113 : ∀ (a112 : Int), ((-3) ≤ a112 ∧ a112 ≤ 0 ∧ (¬ a112 = 0 ∨ (0 ≤ a1 ∧ a1 < 6))) → jj p l e (cn_R 6) s m args below meth c 0 0 Q 5 dC dI ad cA A M0 20 [(0, .ref (ad 0)), (1, .int (sI a1)), (2, .int (sI a2)), (3, .int (sI a3))] [.int (sI a112)] := by
    intro a112 h114
    refine j_istore C 4 [(4, .int (sI a112)), (0, .ref (ad 0)), (1, .int (sI a1)), (2, .int (sI a2)), (3, .int (sI a3))] dX11_shutsBy_20 (by decide) rfl ?_
    refine j_iload C 0 dX11_shutsBy_22 rfl ?_
    refine y_if_eq C 31 dX11_shutsBy_24 (by decide) (by omega) (fun h115 => ?_) (fun h115 => ?_)
    · refine j_aload_n C 1 0 dX11_shutsBy_31 rfl rfl ?_
      refine y_getC C 10 88 fX11_shutsBy_94 rfl rfl ft_10_14 sm_10_14 rfl hM0 dX11_shutsBy_32 ?_
      refine j_aload_n C 1 0 dX11_shutsBy_35 rfl rfl ?_
      refine y_getM C 10 6 fX11_shutsBy_26 rfl rfl ft_10_4 sm_10_4 (by decide) hM0 dX11_shutsBy_36 (fun v116 ev116 cv116 => ?_)
      refine j_aload_n C 1 0 dX11_shutsBy_39 rfl rfl ?_
      refine y_getC C 10 12 fX11_shutsBy_36 rfl rfl ft_10_6 sm_10_6 rfl hM0 dX11_shutsBy_40 ?_
      refine j_aload_n C 1 0 dX11_shutsBy_43 rfl rfl ?_
      refine y_getC C 10 12 fX11_shutsBy_36 rfl rfl ft_10_6 sm_10_6 rfl hM0 dX11_shutsBy_44 ?_
      refine y_getI C 8 _ _ fX11_shutsBy_153 rfl rfl ft_8_4 sb_8_4 hM0 dX11_shutsBy_47 (fun a117 ea117 la117 ua117 => ?_)
      refine j_callVv C (d := 5) (As := [.ref (ad v116), .ref (ad 12), .int (sI a117)]) (st := []) 88 (s_lt rfl rfl) (s_kc (c := 4) rfl rfl) (by decide) rfl (s1_X5_look hM0 hpr cv116 rfl a117 (by omega)) gX11_shutsBy_X5_look rfl hdX5_look (by decide) (Nat.le_of_ble_eq_true rfl) dX11_shutsBy_50 rfl (fun M120 h121 => ?_)
      have hM120 := h121
      refine j_aload_n C 1 0 dX11_shutsBy_53 rfl rfl ?_
      refine y_getC C 10 88 fX11_shutsBy_94 rfl rfl ft_10_14 sm_10_14 rfl hM120 dX11_shutsBy_54 ?_
      refine j_iload_n C 3 2 dX11_shutsBy_57 rfl rfl ?_
      refine j_callVv C (d := 3) (As := [.int (sI a2)]) (st := []) 88 (s_lt rfl rfl) (s_kc (c := 4) rfl rfl) (by decide) rfl (s1_X5_passDays hM120 hpr a2 (by omega)) gX11_shutsBy_X5_passDays rfl hdX5_passDays (by decide) (Nat.le_of_ble_eq_true rfl) dX11_shutsBy_58 rfl (fun M124 h125 => ?_)
      have hM124 := h125
      refine j_aload_n C 1 0 dX11_shutsBy_61 rfl rfl ?_
      refine y_getC C 10 88 fX11_shutsBy_94 rfl rfl ft_10_14 sm_10_14 rfl hM124 dX11_shutsBy_62 ?_
      refine y_getC C 4 94 fX11_shutsBy_308 rfl rfl ft_4_6 sm_4_6 rfl hM124 dX11_shutsBy_65 ?_
      refine j_iload_n C 2 1 dX11_shutsBy_68 rfl rfl ?_
      refine y_lald C 42 6 rfl rfl rfl ak_42 an_42 rfl dX11_shutsBy_69 (by omega) (fun a127 ea127 la127 ua127 => ?_)
      refine j_aload_n C 1 0 dX11_shutsBy_70 rfl rfl ?_
      refine y_getC C 10 88 fX11_shutsBy_94 rfl rfl ft_10_14 sm_10_14 rfl hM124 dX11_shutsBy_71 ?_
      refine y_getJ C 4 fX11_shutsBy_296 rfl rfl ft_4_7 dX11_shutsBy_74 (fun a128 ea128 la128 ua128 => ?_)
      refine j_iload_n C 4 3 dX11_shutsBy_77 rfl rfl ?_
      refine j_callSj C (d := 1) (As := [.long (sJ a127), .long (sJ a128), .int (sI a3)]) (st := []) (s1_X11_inLowestTerms hM124 a127 (by omega) a128 (by omega) a3 (by omega)) gX11_shutsBy_X11_inLowestTerms rfl hdX11_inLowestTermss (by decide) (Nat.le_of_ble_eq_true rfl) dX11_shutsBy_78 rfl (fun r129 M130 h131 => ?_)
      obtain ⟨a133, rfl, rfl, h132⟩ := h131
      exact hret _ _ _ _ dX11_shutsBy_81 ⟨a133, rfl, hM124, by omega⟩
    · refine j_iload C 0 dX11_shutsBy_27 rfl ?_
      refine y_i2l C dX11_shutsBy_29 (by omega) ?_
      exact hret _ _ _ _ dX11_shutsBy_30 ⟨a112, rfl, hM0, by omega⟩
  refine y_if_eq C 18 dX11_shutsBy_5 (by decide) (by omega) (fun h106 => ?_) (fun h106 => ?_)
  · refine y_bipush C dX11_shutsBy_18 rfl ?_
    exact J113 (-2) (by omega)
  · refine j_iload_n C 3 3 dX11_shutsBy_8 rfl rfl ?_
    refine j_iload_n C 2 2 dX11_shutsBy_9 rfl rfl ?_
    refine y_bipush C dX11_shutsBy_10 rfl ?_
    refine j_callSi C (d := 0) (As := [.int (sI a3), .int (sI a2), .int (sI 10)]) (st := []) (s1_X11_chanceRefusal hM0 a3 (by omega) a2 (by omega) 10 (by omega)) gX11_shutsBy_X11_chanceRefusal rfl hdX11_chanceRefusals (by decide) (Nat.le_of_ble_eq_true rfl) dX11_shutsBy_12 rfl (fun r107 M108 h109 => ?_)
    obtain ⟨a111, rfl, rfl, h110⟩ := h109
    refine j_goto C 20 dX11_shutsBy_15 (by decide) ?_
    exact J113 a111 (by omega)
set_option maxHeartbeats 4000000 in
theorem s1_X11_closer {l : Launch} {dC : Nat → ClassId} {dI : Nat → Nat → Nat} {ad : Nat → Nat} {cA : Nat → ClassId} {pr : Nat → Nat → Bool} {Kz : mm_M} {M0 : mm_M} (hM0 : INV pr Kz M0) (hpr : PX pr) (a1 : Int) (ha1 : -2147483648 ≤ a1 ∧ a1 ≤ 2147483647) : Ci l 6 yX11_closer wsX11_closer dC dI ad cA [.ref (ad 0), .int (sI a1)] M0 (fun r M' => ∃ a : Int, r = sI a ∧ INV pr Kz M' ∧ (-3) ≤ a ∧ a ≤ 5) := by
  refine ci_of (cc := cX11_closer) (maxL := 6) (ty := .int) (lv := [(0, .ref (ad 0)), (1, .int (sI a1))]) (by decide) rfl (fun r M' hp => rfl) (Nat.le_of_ble_eq_true rfl) rfl ?_
  intro p e s m args below meth c A Q C hret
  refine j_iload_n C 1 1 dX11_closer_0 rfl rfl ?_
  refine y_if_lt C 10 dX11_closer_1 (by decide) (by omega) (fun h101 => ?_) (fun h101 => ?_)
  · refine y_bipush C dX11_closer_10 rfl ?_
    exact hret _ _ _ _ dX11_closer_12 ⟨(-3), rfl, hM0, by omega⟩
  · refine j_iload_n C 1 1 dX11_closer_4 rfl rfl ?_
    refine y_bipush C dX11_closer_5 rfl ?_
    refine y_icmp_le C 13 dX11_closer_7 (by decide) (by omega) (fun h102 => ?_) (fun h102 => ?_)
    · refine j_aload_n C 0 0 dX11_closer_13 rfl rfl ?_
      refine y_getC C 10 88 fX11_closer_94 rfl rfl ft_10_14 sm_10_14 rfl hM0 dX11_closer_14 ?_
      refine j_aload_n C 0 0 dX11_closer_17 rfl rfl ?_
      refine y_getM C 10 6 fX11_closer_26 rfl rfl ft_10_4 sm_10_4 (by decide) hM0 dX11_closer_18 (fun v103 ev103 cv103 => ?_)
      refine j_aload_n C 0 0 dX11_closer_21 rfl rfl ?_
      refine y_getC C 10 12 fX11_closer_36 rfl rfl ft_10_6 sm_10_6 rfl hM0 dX11_closer_22 ?_
      refine j_aload_n C 0 0 dX11_closer_25 rfl rfl ?_
      refine y_getC C 10 12 fX11_closer_36 rfl rfl ft_10_6 sm_10_6 rfl hM0 dX11_closer_26 ?_
      refine y_getI C 8 _ _ fX11_closer_153 rfl rfl ft_8_4 sb_8_4 hM0 dX11_closer_29 (fun a104 ea104 la104 ua104 => ?_)
      refine j_callVv C (d := 5) (As := [.ref (ad v103), .ref (ad 12), .int (sI a104)]) (st := []) 88 (s_lt rfl rfl) (s_kc (c := 4) rfl rfl) (by decide) rfl (s1_X5_look hM0 hpr cv103 rfl a104 (by omega)) gX11_closer_X5_look rfl hdX5_look (by decide) (Nat.le_of_ble_eq_true rfl) dX11_closer_32 rfl (fun M107 h108 => ?_)
      have hM107 := h108
      refine j_aload_n C 0 0 dX11_closer_35 rfl rfl ?_
      refine y_getC C 10 88 fX11_closer_94 rfl rfl ft_10_14 sm_10_14 rfl hM107 dX11_closer_36 ?_
      refine j_iload_n C 1 1 dX11_closer_39 rfl rfl ?_
      refine j_callVv C (d := 3) (As := [.int (sI a1)]) (st := []) 88 (s_lt rfl rfl) (s_kc (c := 4) rfl rfl) (by decide) rfl (s1_X5_passDays hM107 hpr a1 (by omega)) gX11_closer_X5_passDays rfl hdX5_passDays (by decide) (Nat.le_of_ble_eq_true rfl) dX11_closer_40 rfl (fun M111 h112 => ?_)
      have hM111 := h112
      refine y_iconst C dX11_closer_43 ?_
      refine j_istore_n C 2 [(2, .int (sI (-1))), (0, .ref (ad 0)), (1, .int (sI a1))] dX11_closer_44 rfl (by decide) rfl ?_
      refine y_lconst C 0 dX11_closer_45 rfl ?_
      refine j_lstore_n C 3 [(3, .long (sJ 0)), (2, .int (sI (-1))), (0, .ref (ad 0)), (1, .int (sI a1))] dX11_closer_46 rfl (by decide) rfl ?_
      refine y_iconst C dX11_closer_47 ?_
      refine j_istore C 5 [(5, .int (sI 0)), (3, .long (sJ 0)), (2, .int (sI (-1))), (0, .ref (ad 0)), (1, .int (sI a1))] dX11_closer_48 (by decide) rfl ?_
      have L186 : ∀ (n184 : Nat), ∀ (a187 : Int) (a188 : Int) (a189 : Int), ((-1) ≤ a187 ∧ a187 ≤ 5 ∧ (-9223372036854775808) ≤ a188 ∧ a188 ≤ 9223372036854775807 ∧ 0 ≤ a189 ∧ a189 ≤ 6 ∧ (6 - a189) < (n184 : Int)) → jj p l e (cn_R 6) s m args below meth c 0 0 Q 6 dC dI ad cA A M111 50 [(0, .ref (ad 0)), (2, .int (sI a187)), (3, .long (sJ a188)), (5, .int (sI a189))] [] := by
        intro n184
        induction n184 with
        | zero =>
          intro a187 a188 a189 h190
          exfalso; omega
        | succ n184 ih185 =>
          intro a187 a188 a189 h190
          refine j_iload C 3 dX11_closer_50 rfl ?_
          refine j_aload_n C 0 0 dX11_closer_52 rfl rfl ?_
          refine y_getM C 10 6 fX11_closer_26 rfl rfl ft_10_4 sm_10_4 (by decide) hM111 dX11_closer_53 (fun v191 ev191 cv191 => ?_)
          refine y_getI C 6 _ _ fX11_closer_163 cv191 rfl ft_6_0 sb_6_0 hM111 dX11_closer_56 (fun a192 ea192 la192 ua192 => ?_)
          refine y_icmp_ge C 97 dX11_closer_59 (by decide) (by omega) (fun h194 => ?_) (fun h194 => ?_)
          · refine j_iload_n C 1 2 dX11_closer_97 rfl rfl ?_
            exact hret _ _ _ _ dX11_closer_98 ⟨a187, rfl, hM111, by omega⟩
          · refine j_aload_n C 0 0 dX11_closer_62 rfl rfl ?_
            refine y_getC C 10 88 fX11_closer_94 rfl rfl ft_10_14 sm_10_14 rfl hM111 dX11_closer_63 ?_
            refine y_getC C 4 94 fX11_closer_308 rfl rfl ft_4_6 sm_4_6 rfl hM111 dX11_closer_66 ?_
            refine j_iload C 3 dX11_closer_69 rfl ?_
            refine y_lald C 42 6 rfl rfl rfl ak_42 an_42 rfl dX11_closer_71 (by omega) (fun a195 ea195 la195 ua195 => ?_)
            refine j_lload_n C 2 3 dX11_closer_72 rfl rfl ?_
            refine y_lcmp_le C 91 dX11_closer_73 dX11_closer_74 (by decide) (by omega) (fun h196 => ?_) (fun h196 => ?_)
            · refine y_iinc C 3 [(5, .int (sI (a189 + 1))), (0, .ref (ad 0)), (2, .int (sI a187)), (3, .long (sJ a188))] dX11_closer_91 rfl (by decide) rfl ?_
              refine j_goto C 50 dX11_closer_94 (by decide) ?_
              refine j_lv [1, 2, 3, 0] rfl ?_; exact ih185 a187 a188 (a189 + 1) (by omega)
            · refine j_aload_n C 0 0 dX11_closer_77 rfl rfl ?_
              refine y_getC C 10 88 fX11_closer_94 rfl rfl ft_10_14 sm_10_14 rfl hM111 dX11_closer_78 ?_
              refine y_getC C 4 94 fX11_closer_308 rfl rfl ft_4_6 sm_4_6 rfl hM111 dX11_closer_81 ?_
              refine j_iload C 3 dX11_closer_84 rfl ?_
              refine y_lald C 42 6 rfl rfl rfl ak_42 an_42 rfl dX11_closer_86 (by omega) (fun a197 ea197 la197 ua197 => ?_)
              refine j_lstore_n C 3 [(3, .long (sJ a197)), (0, .ref (ad 0)), (2, .int (sI a187)), (5, .int (sI a189))] dX11_closer_87 rfl (by decide) rfl ?_
              refine j_iload C 3 dX11_closer_88 rfl ?_
              refine j_istore_n C 2 [(2, .int (sI a189)), (3, .long (sJ a197)), (0, .ref (ad 0)), (5, .int (sI a189))] dX11_closer_90 rfl (by decide) rfl ?_
              refine y_iinc C 3 [(5, .int (sI (a189 + 1))), (2, .int (sI a189)), (3, .long (sJ a197)), (0, .ref (ad 0))] dX11_closer_91 rfl (by decide) rfl ?_
              refine j_goto C 50 dX11_closer_94 (by decide) ?_
              refine j_lv [3, 1, 2, 0] rfl ?_; exact ih185 a189 a197 (a189 + 1) (by omega)
      refine j_lv [3, 2, 1, 0] rfl ?_; exact L186 2010 (-1) 0 0 (by omega)
    · refine y_bipush C dX11_closer_10 rfl ?_
      exact hret _ _ _ _ dX11_closer_12 ⟨(-3), rfl, hM0, by omega⟩
set_option maxHeartbeats 4000000 in
theorem s1_X5_soldWays {l : Launch} {dC : Nat → ClassId} {dI : Nat → Nat → Nat} {ad : Nat → Nat} {cA : Nat → ClassId} {pr : Nat → Nat → Bool} {Kz : mm_M} {M0 : mm_M} (hM0 : INV pr Kz M0) (a1 : Int) (ha1 : -2147483648 ≤ a1 ∧ a1 ≤ 2147483647) : Cj l 0 yX5_soldWays wsX5_soldWays dC dI ad cA [.ref (ad 88), .int (sI a1)] M0 (fun r M' => ∃ a : Int, r = sJ a ∧ M0 = M' ∧ (-9223372036854775808) ≤ a ∧ a ≤ 9223372036854775807) := by
  refine cj_of (cc := cX5_soldWays) (maxL := 5) (lv := [(0, .ref (ad 88)), (1, .int (sI a1))]) (by decide) rfl (Nat.le_of_ble_eq_true rfl) rfl ?_
  intro p e s m args below meth c A Q C hret
  refine y_lconst C 0 dX5_soldWays_0 rfl ?_
  refine j_lstore_n C 2 [(2, .long (sJ 0)), (0, .ref (ad 88)), (1, .int (sI a1))] dX5_soldWays_1 rfl (by decide) rfl ?_
  refine j_aload_n C 1 0 dX5_soldWays_2 rfl rfl ?_
  refine y_getI C 4 _ _ fX5_soldWays_45 rfl rfl ft_4_13 sb_4_13 hM0 dX5_soldWays_3 (fun a101 ea101 la101 ua101 => ?_)
  refine j_istore C 4 [(4, .int (sI a101)), (2, .long (sJ 0)), (0, .ref (ad 88)), (1, .int (sI a1))] dX5_soldWays_6 (by decide) rfl ?_
  have L126 : ∀ (n124 : Nat), ∀ (a127 : Int) (a128 : Int), ((-9223372036854775808) ≤ a127 ∧ a127 ≤ 9223372036854775807 ∧ 0 ≤ a128 ∧ a128 ≤ 256 ∧ (256 - a128) < (n124 : Int)) → jj p l e (cn_R 0) s m args below meth c 0 0 Q 5 dC dI ad cA A M0 8 [(0, .ref (ad 88)), (1, .int (sI a1)), (2, .long (sJ a127)), (4, .int (sI a128))] [] := by
    intro n124
    induction n124 with
    | zero =>
      intro a127 a128 h129
      exfalso; omega
    | succ n124 ih125 =>
      intro a127 a128 h129
      refine j_iload C 3 dX5_soldWays_8 rfl ?_
      refine j_aload_n C 0 0 dX5_soldWays_10 rfl rfl ?_
      refine y_getI C 4 _ _ fX5_soldWays_38 rfl rfl ft_4_11 sb_4_11 hM0 dX5_soldWays_11 (fun a130 ea130 la130 ua130 => ?_)
      refine y_icmp_gt C 47 dX5_soldWays_14 (by decide) (by omega) (fun h132 => ?_) (fun h132 => ?_)
      · refine j_lload_n C 2 2 dX5_soldWays_47 rfl rfl ?_
        exact hret _ _ _ _ dX5_soldWays_48 ⟨a127, rfl, rfl, by omega⟩
      · refine j_lload_n C 2 2 dX5_soldWays_17 rfl rfl ?_
        refine j_iload C 3 dX5_soldWays_18 rfl ?_
        refine j_iload_n C 1 1 dX5_soldWays_20 rfl rfl ?_
        refine y_ishrP C dX5_soldWays_21 (by omega) (fun a133 la133 ua133 => ?_)
        refine y_iconst C dX5_soldWays_22 ?_
        refine y_iandR C dX5_soldWays_23 (by omega) (fun a134 la134 ua134 => ?_)
        refine y_iconst C dX5_soldWays_24 ?_
        refine y_icmp_ne C 38 dX5_soldWays_25 (by decide) (by omega) (fun h135 => ?_) (fun h135 => ?_)
        · refine y_lconst C 0 dX5_soldWays_38 rfl ?_
          refine y_ladd C dX5_soldWays_39 ?_
          refine j_lstore_n C 2 [(2, .long (sJ (a127 + 0))), (0, .ref (ad 88)), (1, .int (sI a1)), (4, .int (sI a128))] dX5_soldWays_40 rfl (by decide) rfl ?_
          refine y_iinc C 3 [(4, .int (sI (a128 + 1))), (2, .long (sJ (a127 + 0))), (0, .ref (ad 88)), (1, .int (sI a1))] dX5_soldWays_41 rfl (by decide) rfl ?_
          refine j_goto C 8 dX5_soldWays_44 (by decide) ?_
          refine j_lv [2, 3, 1, 0] rfl ?_; exact ih125 (a127 + 0) (a128 + 1) (by omega)
        · refine j_aload_n C 0 0 dX5_soldWays_28 rfl rfl ?_
          refine y_getM C 4 41 fX5_soldWays_21 rfl rfl ft_4_4 sm_4_4 (by decide) hM0 dX5_soldWays_29 (fun v136 ev136 cv136 => ?_)
          refine j_iload C 3 dX5_soldWays_32 rfl ?_
          refine y_lald C 41 256 cv136 rfl rfl ak_41 an_41 rfl dX5_soldWays_34 (by omega) (fun a137 ea137 la137 ua137 => ?_)
          refine j_goto C 39 dX5_soldWays_35 (by decide) ?_
          refine y_ladd0 C dX5_soldWays_39 (fun a138 la138 ua138 => ?_)
          refine j_lstore_n C 2 [(2, .long (sJ a138)), (0, .ref (ad 88)), (1, .int (sI a1)), (4, .int (sI a128))] dX5_soldWays_40 rfl (by decide) rfl ?_
          refine y_iinc C 3 [(4, .int (sI (a128 + 1))), (2, .long (sJ a138)), (0, .ref (ad 88)), (1, .int (sI a1))] dX5_soldWays_41 rfl (by decide) rfl ?_
          refine j_goto C 8 dX5_soldWays_44 (by decide) ?_
          refine j_lv [2, 3, 1, 0] rfl ?_; exact ih125 a138 (a128 + 1) (by omega)
  refine j_lv [2, 3, 1, 0] rfl ?_; exact L126 2010 0 a101 (by omega)
set_option maxHeartbeats 4000000 in
theorem s1_X11_soldIn {l : Launch} {dC : Nat → ClassId} {dI : Nat → Nat → Nat} {ad : Nat → Nat} {cA : Nat → ClassId} {pr : Nat → Nat → Bool} {Kz : mm_M} {M0 : mm_M} (hM0 : INV pr Kz M0) (hpr : PX pr) (a1 : Int) (ha1 : -2147483648 ≤ a1 ∧ a1 ≤ 2147483647) (a2 : Int) (ha2 : -2147483648 ≤ a2 ∧ a2 ≤ 2147483647) (a3 : Int) (ha3 : -2147483648 ≤ a3 ∧ a3 ≤ 2147483647) : Cj l 6 yX11_soldIn wsX11_soldIn dC dI ad cA [.ref (ad 0), .int (sI a1), .int (sI a2), .int (sI a3)] M0 (fun r M' => ∃ a : Int, r = sJ a ∧ INV pr Kz M' ∧ (-9223372036854775808) ≤ a ∧ a ≤ 9223372036854775807) := by
  refine cj_of (cc := cX11_soldIn) (maxL := 5) (lv := [(0, .ref (ad 0)), (1, .int (sI a1)), (2, .int (sI a2)), (3, .int (sI a3))]) (by decide) rfl (Nat.le_of_ble_eq_true rfl) rfl ?_
  intro p e s m args below meth c A Q C hret
  refine j_aload_n C 0 0 dX11_soldIn_0 rfl rfl ?_
  refine j_iload_n C 1 1 dX11_soldIn_1 rfl rfl ?_
  refine j_callVi C (d := 0) (As := [.int (sI a1)]) (st := []) 0 (s_lt rfl rfl) (s_kc (c := 10) rfl rfl) (by decide) rfl (s1_X11_isKind hM0 a1 (by omega)) gX11_soldIn_X11_isKind rfl hdX11_isKind (by decide) (Nat.le_of_ble_eq_true rfl) dX11_soldIn_2 rfl (fun r101 M102 h103 => ?_)
  obtain ⟨a105, rfl, rfl, h104⟩ := h103
  have J113 : ∀ (a112 : Int), ((-3) ≤ a112 ∧ a112 ≤ 0) → jj p l e (cn_R 6) s m args below meth c 0 0 Q 5 dC dI ad cA A M0 20 [(0, .ref (ad 0)), (1, .int (sI a1)), (2, .int (sI a2)), (3, .int (sI a3))] [.int (sI a112)] := by
    intro a112 h114
    refine j_istore C 4 [(4, .int (sI a112)), (0, .ref (ad 0)), (1, .int (sI a1)), (2, .int (sI a2)), (3, .int (sI a3))] dX11_soldIn_20 (by decide) rfl ?_
    refine j_iload C 0 dX11_soldIn_22 rfl ?_
    refine y_if_eq C 31 dX11_soldIn_24 (by decide) (by omega) (fun h115 => ?_) (fun h115 => ?_)
    · refine j_aload_n C 1 0 dX11_soldIn_31 rfl rfl ?_
      refine y_getC C 10 88 fX11_soldIn_94 rfl rfl ft_10_14 sm_10_14 rfl hM0 dX11_soldIn_32 ?_
      refine j_aload_n C 1 0 dX11_soldIn_35 rfl rfl ?_
      refine y_getM C 10 6 fX11_soldIn_26 rfl rfl ft_10_4 sm_10_4 (by decide) hM0 dX11_soldIn_36 (fun v116 ev116 cv116 => ?_)
      refine j_aload_n C 1 0 dX11_soldIn_39 rfl rfl ?_
      refine y_getC C 10 12 fX11_soldIn_36 rfl rfl ft_10_6 sm_10_6 rfl hM0 dX11_soldIn_40 ?_
      refine j_aload_n C 1 0 dX11_soldIn_43 rfl rfl ?_
      refine y_getC C 10 12 fX11_soldIn_36 rfl rfl ft_10_6 sm_10_6 rfl hM0 dX11_soldIn_44 ?_
      refine y_getI C 8 _ _ fX11_soldIn_153 rfl rfl ft_8_4 sb_8_4 hM0 dX11_soldIn_47 (fun a117 ea117 la117 ua117 => ?_)
      refine j_callVv C (d := 5) (As := [.ref (ad v116), .ref (ad 12), .int (sI a117)]) (st := []) 88 (s_lt rfl rfl) (s_kc (c := 4) rfl rfl) (by decide) rfl (s1_X5_look hM0 hpr cv116 rfl a117 (by omega)) gX11_soldIn_X5_look rfl hdX5_look (by decide) (Nat.le_of_ble_eq_true rfl) dX11_soldIn_50 rfl (fun M120 h121 => ?_)
      have hM120 := h121
      refine j_aload_n C 1 0 dX11_soldIn_53 rfl rfl ?_
      refine y_getC C 10 88 fX11_soldIn_94 rfl rfl ft_10_14 sm_10_14 rfl hM120 dX11_soldIn_54 ?_
      refine j_iload_n C 3 2 dX11_soldIn_57 rfl rfl ?_
      refine j_callVv C (d := 3) (As := [.int (sI a2)]) (st := []) 88 (s_lt rfl rfl) (s_kc (c := 4) rfl rfl) (by decide) rfl (s1_X5_passDays hM120 hpr a2 (by omega)) gX11_soldIn_X5_passDays rfl hdX5_passDays (by decide) (Nat.le_of_ble_eq_true rfl) dX11_soldIn_58 rfl (fun M124 h125 => ?_)
      have hM124 := h125
      refine j_aload_n C 1 0 dX11_soldIn_61 rfl rfl ?_
      refine y_getC C 10 88 fX11_soldIn_94 rfl rfl ft_10_14 sm_10_14 rfl hM124 dX11_soldIn_62 ?_
      refine j_iload_n C 2 1 dX11_soldIn_65 rfl rfl ?_
      refine j_callVj C (d := 0) (As := [.int (sI a1)]) (st := []) 88 (s_lt rfl rfl) (s_kc (c := 4) rfl rfl) (by decide) rfl (s1_X5_soldWays hM124 a1 (by omega)) gX11_soldIn_X5_soldWays rfl hdX5_soldWays (by decide) (Nat.le_of_ble_eq_true rfl) dX11_soldIn_66 rfl (fun r127 M128 h129 => ?_)
      obtain ⟨a131, rfl, rfl, h130⟩ := h129
      refine j_aload_n C 1 0 dX11_soldIn_69 rfl rfl ?_
      refine y_getC C 10 88 fX11_soldIn_94 rfl rfl ft_10_14 sm_10_14 rfl hM124 dX11_soldIn_70 ?_
      refine y_getJ C 4 fX11_soldIn_296 rfl rfl ft_4_7 dX11_soldIn_73 (fun a132 ea132 la132 ua132 => ?_)
      refine j_iload_n C 4 3 dX11_soldIn_76 rfl rfl ?_
      refine j_callSj C (d := 1) (As := [.long (sJ a131), .long (sJ a132), .int (sI a3)]) (st := []) (s1_X11_inLowestTerms hM124 a131 (by omega) a132 (by omega) a3 (by omega)) gX11_soldIn_X11_inLowestTerms rfl hdX11_inLowestTermss (by decide) (Nat.le_of_ble_eq_true rfl) dX11_soldIn_77 rfl (fun r133 M134 h135 => ?_)
      obtain ⟨a137, rfl, rfl, h136⟩ := h135
      exact hret _ _ _ _ dX11_soldIn_80 ⟨a137, rfl, hM124, by omega⟩
    · refine j_iload C 0 dX11_soldIn_27 rfl ?_
      refine y_i2l C dX11_soldIn_29 (by omega) ?_
      exact hret _ _ _ _ dX11_soldIn_30 ⟨a112, rfl, hM0, by omega⟩
  refine y_if_eq C 18 dX11_soldIn_5 (by decide) (by omega) (fun h106 => ?_) (fun h106 => ?_)
  · refine y_bipush C dX11_soldIn_18 rfl ?_
    exact J113 (-2) (by omega)
  · refine j_iload_n C 3 3 dX11_soldIn_8 rfl rfl ?_
    refine j_iload_n C 2 2 dX11_soldIn_9 rfl rfl ?_
    refine y_bipush C dX11_soldIn_10 rfl ?_
    refine j_callSi C (d := 0) (As := [.int (sI a3), .int (sI a2), .int (sI 10)]) (st := []) (s1_X11_chanceRefusal hM0 a3 (by omega) a2 (by omega) 10 (by omega)) gX11_soldIn_X11_chanceRefusal rfl hdX11_chanceRefusals (by decide) (Nat.le_of_ble_eq_true rfl) dX11_soldIn_12 rfl (fun r107 M108 h109 => ?_)
    obtain ⟨a111, rfl, rfl, h110⟩ := h109
    refine j_goto C 20 dX11_soldIn_15 (by decide) ?_
    exact J113 a111 (by omega)
set_option maxHeartbeats 4000000 in
theorem s1_X11_isHideable {l : Launch} {dC : Nat → ClassId} {dI : Nat → Nat → Nat} {ad : Nat → Nat} {cA : Nat → ClassId} {pr : Nat → Nat → Bool} {Kz : mm_M} {M0 : mm_M} (hM0 : INV pr Kz M0) (a1 : Int) (ha1 : -2147483648 ≤ a1 ∧ a1 ≤ 2147483647) (a2 : Int) (ha2 : -2147483648 ≤ a2 ∧ a2 ≤ 2147483647) : Ci l 1 yX11_isHideable wsX11_isHideable dC dI ad cA [.ref (ad 0), .int (sI a1), .int (sI a2)] M0 (fun r M' => ∃ a : Int, r = sI a ∧ M0 = M' ∧ 0 ≤ a ∧ a ≤ 1 ∧ ((a = 0) ∨ (a = 1))) := by
  refine ci_of (cc := cX11_isHideable) (maxL := 3) (ty := .boolean) (lv := [(0, .ref (ad 0)), (1, .int (sI a1)), (2, .int (sI a2))]) (by decide) rfl (fun r M' hp => by obtain ⟨a, rfl, -, h⟩ := hp; rcases (show a = 0 ∨ a = 1 by omega) with rfl | rfl <;> rfl) (Nat.le_of_ble_eq_true rfl) rfl ?_
  intro p e s m args below meth c A Q C hret
  refine j_iload_n C 1 1 dX11_isHideable_0 rfl rfl ?_
  refine j_callSi C (d := 0) (As := [.int (sI a1)]) (st := []) (s1_J6_bitCount_0f7a4 hM0 a1 (by omega)) gX11_isHideable_J6_bitCount_0f7a4 rfl hdJ6_bitCount_0f7a4s (by decide) (Nat.le_of_ble_eq_true rfl) dX11_isHideable_1 rfl (fun r101 M102 h103 => ?_)
  obtain ⟨a105, rfl, rfl, h104⟩ := h103
  refine j_iload_n C 2 2 dX11_isHideable_4 rfl rfl ?_
  refine y_icmp_ne C 24 dX11_isHideable_5 (by decide) (by omega) (fun h106 => ?_) (fun h106 => ?_)
  · refine y_iconst C dX11_isHideable_24 ?_
    exact hret _ _ _ _ dX11_isHideable_25 ⟨0, rfl, rfl, by omega⟩
  · refine j_iload_n C 1 1 dX11_isHideable_8 rfl rfl ?_
    refine j_aload_n C 0 0 dX11_isHideable_9 rfl rfl ?_
    refine y_getC C 10 12 fX11_isHideable_36 rfl rfl ft_10_6 sm_10_6 rfl hM0 dX11_isHideable_10 ?_
    refine y_getI C 8 _ _ fX11_isHideable_153 rfl rfl ft_8_4 sb_8_4 hM0 dX11_isHideable_13 (fun a107 ea107 la107 ua107 => ?_)
    refine y_iandR C dX11_isHideable_16 (by omega) (fun a109 la109 ua109 => ?_)
    refine y_if_ne C 24 dX11_isHideable_17 (by decide) (by omega) (fun h110 => ?_) (fun h110 => ?_)
    · refine y_iconst C dX11_isHideable_24 ?_
      exact hret _ _ _ _ dX11_isHideable_25 ⟨0, rfl, rfl, by omega⟩
    · refine y_iconst C dX11_isHideable_20 ?_
      refine j_goto C 25 dX11_isHideable_21 (by decide) ?_
      exact hret _ _ _ _ dX11_isHideable_25 ⟨1, rfl, rfl, by omega⟩
set_option maxHeartbeats 4000000 in
theorem s1_X11_hides {l : Launch} {dC : Nat → ClassId} {dI : Nat → Nat → Nat} {ad : Nat → Nat} {cA : Nat → ClassId} {pr : Nat → Nat → Bool} {Kz : mm_M} {M0 : mm_M} (hM0 : INV pr Kz M0) (hpr : PX pr) (a1 : Int) (ha1 : -2147483648 ≤ a1 ∧ a1 ≤ 2147483647) (a2 : Int) (ha2 : -2147483648 ≤ a2 ∧ a2 ≤ 2147483647) (a3 : Int) (ha3 : -2147483648 ≤ a3 ∧ a3 ≤ 2147483647) : Ci l 6 yX11_hides wsX11_hides dC dI ad cA [.ref (ad 0), .int (sI a1), .int (sI a2), .int (sI a3)] M0 (fun r M' => ∃ a : Int, r = sI a ∧ INV pr Kz M' ∧ (-5) ≤ a ∧ a ≤ 255) := by
  refine ci_of (cc := cX11_hides) (maxL := 11) (ty := .int) (lv := [(0, .ref (ad 0)), (1, .int (sI a1)), (2, .int (sI a2)), (3, .int (sI a3))]) (by decide) rfl (fun r M' hp => rfl) (Nat.le_of_ble_eq_true rfl) rfl ?_
  intro p e s m args below meth c A Q C hret
  refine j_iload_n C 3 3 dX11_hides_0 rfl rfl ?_
  refine y_if_lt C 9 dX11_hides_1 (by decide) (by omega) (fun h101 => ?_) (fun h101 => ?_)
  · refine y_bipush C dX11_hides_9 rfl ?_
    exact hret _ _ _ _ dX11_hides_11 ⟨(-2), rfl, hM0, by omega⟩
  · refine j_iload_n C 3 3 dX11_hides_4 rfl rfl ?_
    refine y_iconst C dX11_hides_5 ?_
    refine y_icmp_le C 12 dX11_hides_6 (by decide) (by omega) (fun h102 => ?_) (fun h102 => ?_)
    · refine j_iload_n C 1 1 dX11_hides_12 rfl rfl ?_
      refine y_if_lt C 32 dX11_hides_13 (by decide) (by omega) (fun h103 => ?_) (fun h103 => ?_)
      · refine y_bipush C dX11_hides_32 rfl ?_
        exact hret _ _ _ _ dX11_hides_34 ⟨(-3), rfl, hM0, by omega⟩
      · refine j_iload_n C 1 1 dX11_hides_16 rfl rfl ?_
        refine y_iconst C dX11_hides_17 ?_
        refine y_icmp_gt C 32 dX11_hides_18 (by decide) (by omega) (fun h104 => ?_) (fun h104 => ?_)
        · refine y_bipush C dX11_hides_32 rfl ?_
          exact hret _ _ _ _ dX11_hides_34 ⟨(-3), rfl, hM0, by omega⟩
        · refine j_iload_n C 2 2 dX11_hides_21 rfl rfl ?_
          refine y_iconst C dX11_hides_22 ?_
          refine y_icmp_lt C 32 dX11_hides_23 (by decide) (by omega) (fun h105 => ?_) (fun h105 => ?_)
          · refine y_bipush C dX11_hides_32 rfl ?_
            exact hret _ _ _ _ dX11_hides_34 ⟨(-3), rfl, hM0, by omega⟩
          · refine j_iload_n C 2 2 dX11_hides_26 rfl rfl ?_
            refine y_bipush C dX11_hides_27 rfl ?_
            refine y_icmp_le C 35 dX11_hides_29 (by decide) (by omega) (fun h106 => ?_) (fun h106 => ?_)
            · refine j_aload_n C 0 0 dX11_hides_35 rfl rfl ?_
              refine y_getC C 10 12 fX11_hides_36 rfl rfl ft_10_6 sm_10_6 rfl hM0 dX11_hides_36 ?_
              refine j_callVi C (d := 1) (As := []) (st := []) 12 (s_lt rfl rfl) (s_kc (c := 8) rfl rfl) (by decide) rfl (s1_X9_isShut hM0 rfl) gX11_hides_X9_isShut rfl hdX9_isShut (by decide) (Nat.le_of_ble_eq_true rfl) dX11_hides_39 rfl (fun r107 M108 h109 => ?_)
              obtain ⟨a111, rfl, rfl, h110⟩ := h109
              refine y_if_eq C 48 dX11_hides_42 (by decide) (by omega) (fun h112 => ?_) (fun h112 => ?_)
              · refine y_iconst C dX11_hides_48 ?_
                refine j_istore C 4 [(4, .int (sI 0)), (0, .ref (ad 0)), (1, .int (sI a1)), (2, .int (sI a2)), (3, .int (sI a3))] dX11_hides_49 (by decide) rfl ?_
                refine y_ldc2 C (-1) dX11_hides_51 kX11_hides_219 rfl ?_
                refine j_lstore C 5 [(5, .long (sJ (-1))), (4, .int (sI 0)), (0, .ref (ad 0)), (1, .int (sI a1)), (2, .int (sI a2)), (3, .int (sI a3))] dX11_hides_54 (by decide) rfl ?_
                refine y_iconst C dX11_hides_56 ?_
                refine j_istore C 7 [(7, .int (sI 0)), (5, .long (sJ (-1))), (4, .int (sI 0)), (0, .ref (ad 0)), (1, .int (sI a1)), (2, .int (sI a2)), (3, .int (sI a3))] dX11_hides_57 (by decide) rfl ?_
                have L5480 : ∀ (n5478 : Nat), ∀ (a5481 : Int) (a5482 : Int) (a5483 : Int) (M5484 : mm_M), (0 ≤ a5481 ∧ a5481 ≤ 255 ∧ (-9223372036854775808) ≤ a5482 ∧ a5482 ≤ 9223372036854775807 ∧ 0 ≤ a5483 ∧ a5483 ≤ 4 ∧ (4 - a5483) < (n5478 : Int)) → INV pr Kz M5484 → jj p l e (cn_R 6) s m args below meth c 0 0 Q 11 dC dI ad cA A M5484 59 [(0, .ref (ad 0)), (1, .int (sI a1)), (2, .int (sI a2)), (3, .int (sI a3)), (4, .int (sI a5481)), (5, .long (sJ a5482)), (7, .int (sI a5483))] [] := by
                  intro n5478
                  induction n5478 with
                  | zero =>
                    intro a5481 a5482 a5483 M5484 h5485 hM5484
                    exfalso; omega
                  | succ n5478 ih5479 =>
                    intro a5481 a5482 a5483 M5484 h5485 hM5484
                    refine j_iload C 6 dX11_hides_59 rfl ?_
                    refine j_iload_n C 1 1 dX11_hides_61 rfl rfl ?_
                    refine y_icmp_gt C 171 dX11_hides_62 (by decide) (by omega) (fun h5486 => ?_) (fun h5486 => ?_)
                    · refine j_iload_n C 3 3 dX11_hides_171 rfl rfl ?_
                      refine y_if_ne C 183 dX11_hides_172 (by decide) (by omega) (fun h6555 => ?_) (fun h6555 => ?_)
                      · refine j_iload C 4 dX11_hides_183 rfl ?_
                        exact hret _ _ _ _ dX11_hides_185 ⟨a5481, rfl, hM5484, by omega⟩
                      · refine j_iload C 4 dX11_hides_175 rfl ?_
                        refine j_callSi C (d := 0) (As := [.int (sI a5481)]) (st := []) (s1_J6_bitCount_0f7a4 hM5484 a5481 (by omega)) gX11_hides_J6_bitCount_0f7a4 rfl hdJ6_bitCount_0f7a4s (by decide) (Nat.le_of_ble_eq_true rfl) dX11_hides_177 rfl (fun r6556 M6557 h6558 => ?_)
                        obtain ⟨a6560, rfl, rfl, h6559⟩ := h6558
                        refine j_goto C 185 dX11_hides_180 (by decide) ?_
                        exact hret _ _ _ _ dX11_hides_185 ⟨a6560, rfl, hM5484, by omega⟩
                    · refine y_iconst C dX11_hides_65 ?_
                      refine j_istore C 8 [(8, .int (sI 0)), (0, .ref (ad 0)), (1, .int (sI a1)), (2, .int (sI a2)), (3, .int (sI a3)), (4, .int (sI a5481)), (5, .long (sJ a5482)), (7, .int (sI a5483))] dX11_hides_66 (by decide) rfl ?_
                      have L6515 : ∀ (n6513 : Nat), ∀ (a6516 : Int) (a6517 : Int) (a6518 : Int) (M6519 : mm_M), (0 ≤ a6516 ∧ a6516 ≤ 255 ∧ (-9223372036854775808) ≤ a6517 ∧ a6517 ≤ 9223372036854775807 ∧ 0 ≤ a6518 ∧ a6518 ≤ 256 ∧ (256 - a6518) < (n6513 : Int)) → INV pr Kz M6519 → jj p l e (cn_R 6) s m args below meth c 0 0 Q 11 dC dI ad cA A M6519 68 [(0, .ref (ad 0)), (1, .int (sI a1)), (2, .int (sI a2)), (3, .int (sI a3)), (4, .int (sI a6516)), (5, .long (sJ a6517)), (7, .int (sI a5483)), (8, .int (sI a6518))] [] := by
                        intro n6513
                        induction n6513 with
                        | zero =>
                          intro a6516 a6517 a6518 M6519 h6520 hM6519
                          exfalso; omega
                        | succ n6513 ih6514 =>
                          intro a6516 a6517 a6518 M6519 h6520 hM6519
                          refine j_iload C 7 dX11_hides_68 rfl ?_
                          refine j_aload_n C 0 0 dX11_hides_70 rfl rfl ?_
                          refine y_getC C 10 12 fX11_hides_36 rfl rfl ft_10_6 sm_10_6 rfl hM6519 dX11_hides_71 ?_
                          refine j_callVi C (d := 0) (As := []) (st := [.int (sI a6518)]) 12 (s_lt rfl rfl) (s_kc (c := 8) rfl rfl) (by decide) rfl (s1_X9_everyKind hM6519 rfl) gX11_hides_X9_everyKind rfl hdX9_everyKind (by decide) (Nat.le_of_ble_eq_true rfl) dX11_hides_74 rfl (fun r6521 M6522 h6523 => ?_)
                          obtain ⟨a6525, rfl, rfl, h6524⟩ := h6523
                          refine y_icmp_gt C 165 dX11_hides_77 (by decide) (by omega) (fun h6526 => ?_) (fun h6526 => ?_)
                          · refine y_iinc C 6 [(7, .int (sI (a5483 + 1))), (0, .ref (ad 0)), (1, .int (sI a1)), (2, .int (sI a2)), (3, .int (sI a3)), (4, .int (sI a6516)), (5, .long (sJ a6517)), (8, .int (sI a6518))] dX11_hides_165 rfl (by decide) rfl ?_
                            refine j_goto C 59 dX11_hides_168 (by decide) ?_
                            refine j_lv [1, 2, 3, 4, 5, 6, 0] rfl ?_; exact ih5479 a6516 a6517 (a5483 + 1) M6519 (by omega) hM6519
                          · refine j_aload_n C 0 0 dX11_hides_80 rfl rfl ?_
                            refine j_iload C 7 dX11_hides_81 rfl ?_
                            refine j_iload C 6 dX11_hides_83 rfl ?_
                            refine j_callVi C (d := 1) (As := [.int (sI a6518), .int (sI a5483)]) (st := []) 0 (s_lt rfl rfl) (s_kc (c := 10) rfl rfl) (by decide) rfl (s1_X11_isHideable hM6519 a6518 (by omega) a5483 (by omega)) gX11_hides_X11_isHideable rfl hdX11_isHideable (by decide) (Nat.le_of_ble_eq_true rfl) dX11_hides_85 rfl (fun r6527 M6528 h6529 => ?_)
                            obtain ⟨a6531, rfl, rfl, h6530⟩ := h6529
                            refine y_if_eq C 159 dX11_hides_88 (by decide) (by omega) (fun h6532 => ?_) (fun h6532 => ?_)
                            · refine y_iinc C 7 [(8, .int (sI (a6518 + 1))), (0, .ref (ad 0)), (1, .int (sI a1)), (2, .int (sI a2)), (3, .int (sI a3)), (4, .int (sI a6516)), (5, .long (sJ a6517)), (7, .int (sI a5483))] dX11_hides_159 rfl (by decide) rfl ?_
                              refine j_goto C 68 dX11_hides_162 (by decide) ?_
                              refine j_lv [1, 2, 3, 4, 5, 6, 7, 0] rfl ?_; exact ih6514 a6516 a6517 (a6518 + 1) M6519 (by omega) hM6519
                            · refine j_aload_n C 0 0 dX11_hides_91 rfl rfl ?_
                              refine y_getC C 10 88 fX11_hides_94 rfl rfl ft_10_14 sm_10_14 rfl hM6519 dX11_hides_92 ?_
                              refine j_aload_n C 0 0 dX11_hides_95 rfl rfl ?_
                              refine y_getM C 10 6 fX11_hides_26 rfl rfl ft_10_4 sm_10_4 (by decide) hM6519 dX11_hides_96 (fun v6533 ev6533 cv6533 => ?_)
                              refine j_aload_n C 0 0 dX11_hides_99 rfl rfl ?_
                              refine y_getC C 10 12 fX11_hides_36 rfl rfl ft_10_6 sm_10_6 rfl hM6519 dX11_hides_100 ?_
                              refine j_aload_n C 0 0 dX11_hides_103 rfl rfl ?_
                              refine y_getC C 10 12 fX11_hides_36 rfl rfl ft_10_6 sm_10_6 rfl hM6519 dX11_hides_104 ?_
                              refine y_getI C 8 _ _ fX11_hides_153 rfl rfl ft_8_4 sb_8_4 hM6519 dX11_hides_107 (fun a6534 ea6534 la6534 ua6534 => ?_)
                              refine j_iload C 7 dX11_hides_110 rfl ?_
                              refine y_iorN C 8 255 dX11_hides_112 rfl (by decide) (by omega) (fun a6536 la6536 ua6536 => ?_)
                              refine j_callVv C (d := 5) (As := [.ref (ad v6533), .ref (ad 12), .int (sI a6536)]) (st := []) 88 (s_lt rfl rfl) (s_kc (c := 4) rfl rfl) (by decide) rfl (s1_X5_look hM6519 hpr cv6533 rfl a6536 (by omega)) gX11_hides_X5_look rfl hdX5_look (by decide) (Nat.le_of_ble_eq_true rfl) dX11_hides_113 rfl (fun M6538 h6539 => ?_)
                              have hM6538 := h6539
                              refine j_aload_n C 0 0 dX11_hides_116 rfl rfl ?_
                              refine y_getC C 10 88 fX11_hides_94 rfl rfl ft_10_14 sm_10_14 rfl hM6538 dX11_hides_117 ?_
                              refine j_iload_n C 2 2 dX11_hides_120 rfl rfl ?_
                              refine j_callVv C (d := 3) (As := [.int (sI a2)]) (st := []) 88 (s_lt rfl rfl) (s_kc (c := 4) rfl rfl) (by decide) rfl (s1_X5_passDays hM6538 hpr a2 (by omega)) gX11_hides_X5_passDays rfl hdX5_passDays (by decide) (Nat.le_of_ble_eq_true rfl) dX11_hides_121 rfl (fun M6542 h6543 => ?_)
                              have hM6542 := h6543
                              refine j_aload_n C 0 0 dX11_hides_124 rfl rfl ?_
                              refine y_getC C 10 88 fX11_hides_94 rfl rfl ft_10_14 sm_10_14 rfl hM6542 dX11_hides_125 ?_
                              refine j_callVj C (d := 1) (As := []) (st := []) 88 (s_lt rfl rfl) (s_kc (c := 4) rfl rfl) (by decide) rfl (s1_X5_openWays hM6542) gX11_hides_X5_openWays rfl hdX5_openWays (by decide) (Nat.le_of_ble_eq_true rfl) dX11_hides_128 rfl (fun r6545 M6546 h6547 => ?_)
                              obtain ⟨a6549, rfl, rfl, h6548⟩ := h6547
                              refine j_lstore C 9 [(9, .long (sJ a6549)), (0, .ref (ad 0)), (1, .int (sI a1)), (2, .int (sI a2)), (3, .int (sI a3)), (4, .int (sI a6516)), (5, .long (sJ a6517)), (7, .int (sI a5483)), (8, .int (sI a6518))] dX11_hides_131 (by decide) rfl ?_
                              refine j_lload C 0 dX11_hides_133 rfl ?_
                              refine j_lload C 6 dX11_hides_135 rfl ?_
                              have J6552 : ∀ (a6551 : Int), (0 ≤ a6551 ∧ a6551 ≤ 255) → jj p l e (cn_R 6) s m args below meth c 0 0 Q 11 dC dI ad cA A M6542 148 [(0, .ref (ad 0)), (1, .int (sI a1)), (2, .int (sI a2)), (3, .int (sI a3)), (5, .long (sJ a6517)), (7, .int (sI a5483)), (8, .int (sI a6518)), (9, .long (sJ a6549))] [.int (sI a6551)] := by
                                intro a6551 h6553
                                refine j_istore C 4 [(4, .int (sI a6551)), (0, .ref (ad 0)), (1, .int (sI a1)), (2, .int (sI a2)), (3, .int (sI a3)), (5, .long (sJ a6517)), (7, .int (sI a5483)), (8, .int (sI a6518)), (9, .long (sJ a6549))] dX11_hides_148 (by decide) rfl ?_
                                refine j_lload C 5 dX11_hides_150 rfl ?_
                                refine j_lload C 8 dX11_hides_152 rfl ?_
                                refine y_mmaxl C wX11_hides_330_0 wX11_hides_330_1 wX11_hides_330_2 wX11_hides_330_3 (by decide) (Nat.le_of_ble_eq_true rfl) dX11_hides_154 (fun a6554 la6554 ua6554 => ?_)
                                refine j_lstore C 5 [(5, .long (sJ a6554)), (4, .int (sI a6551)), (0, .ref (ad 0)), (1, .int (sI a1)), (2, .int (sI a2)), (3, .int (sI a3)), (7, .int (sI a5483)), (8, .int (sI a6518)), (9, .long (sJ a6549))] dX11_hides_157 (by decide) rfl ?_
                                refine y_iinc C 7 [(8, .int (sI (a6518 + 1))), (5, .long (sJ a6554)), (4, .int (sI a6551)), (0, .ref (ad 0)), (1, .int (sI a1)), (2, .int (sI a2)), (3, .int (sI a3)), (7, .int (sI a5483)), (9, .long (sJ a6549))] dX11_hides_159 rfl (by decide) rfl ?_
                                refine j_goto C 68 dX11_hides_162 (by decide) ?_
                                refine j_lv [3, 4, 5, 6, 2, 1, 7, 0] rfl ?_; exact ih6514 a6551 a6554 (a6518 + 1) M6542 (by omega) hM6542
                              refine y_lcmp_le C 146 dX11_hides_137 dX11_hides_138 (by decide) (by omega) (fun h6550 => ?_) (fun h6550 => ?_)
                              · refine j_iload C 5 dX11_hides_146 rfl ?_
                                refine j_lv [1, 2, 3, 4, 6, 7, 8, 0] rfl ?_; exact J6552 a6516 (by omega)
                              · refine j_iload C 8 dX11_hides_141 rfl ?_
                                refine j_goto C 148 dX11_hides_143 (by decide) ?_
                                refine j_lv [1, 2, 3, 4, 6, 7, 8, 0] rfl ?_; exact J6552 a6518 (by omega)
                      refine j_lv [1, 2, 3, 4, 5, 6, 7, 0] rfl ?_; exact L6515 2010 a5481 a5482 0 M5484 (by omega) hM5484
                refine j_lv [3, 4, 5, 6, 2, 1, 0] rfl ?_; exact L5480 2010 0 (-1) 0 M0 (by omega) hM0
              · refine y_bipush C dX11_hides_45 rfl ?_
                exact hret _ _ _ _ dX11_hides_47 ⟨(-5), rfl, hM0, by omega⟩
            · refine y_bipush C dX11_hides_32 rfl ?_
              exact hret _ _ _ _ dX11_hides_34 ⟨(-3), rfl, hM0, by omega⟩
    · refine y_bipush C dX11_hides_9 rfl ?_
      exact hret _ _ _ _ dX11_hides_11 ⟨(-2), rfl, hM0, by omega⟩
set_option maxHeartbeats 4000000 in
theorem s1_X5_takersNow {l : Launch} {dC : Nat → ClassId} {dI : Nat → Nat → Nat} {ad : Nat → Nat} {cA : Nat → ClassId} {pr : Nat → Nat → Bool} {Kz : mm_M} {M0 : mm_M} (hM0 : INV pr Kz M0)  : Ci l 1 yX5_takersNow wsX5_takersNow dC dI ad cA [.ref (ad 88)] M0 (fun r M' => ∃ a : Int, r = sI a ∧ M0 = M' ∧ 0 ≤ a ∧ a ≤ 63) := by
  refine ci_of (cc := cX5_takersNow) (maxL := 3) (ty := .int) (lv := [(0, .ref (ad 88))]) (by decide) rfl (fun r M' hp => rfl) (Nat.le_of_ble_eq_true rfl) rfl ?_
  intro p e s m args below meth c A Q C hret
  refine y_iconst C dX5_takersNow_0 ?_
  refine j_istore_n C 1 [(1, .int (sI 0)), (0, .ref (ad 88))] dX5_takersNow_1 rfl (by decide) rfl ?_
  refine y_iconst C dX5_takersNow_2 ?_
  refine j_istore_n C 2 [(2, .int (sI 0)), (1, .int (sI 0)), (0, .ref (ad 88))] dX5_takersNow_3 rfl (by decide) rfl ?_
  have L215 : ∀ (n213 : Nat), ∀ (a216 : Int) (a217 : Int), (0 ≤ a216 ∧ a216 ≤ 63 ∧ 0 ≤ a217 ∧ a217 ≤ 6 ∧ (6 - a217) < (n213 : Int)) → jj p l e (cn_R 1) s m args below meth c 0 0 Q 3 dC dI ad cA A M0 4 [(0, .ref (ad 88)), (1, .int (sI a216)), (2, .int (sI a217))] [] := by
    intro n213
    induction n213 with
    | zero =>
      intro a216 a217 h218
      exfalso; omega
    | succ n213 ih214 =>
      intro a216 a217 h218
      refine j_iload_n C 2 2 dX5_takersNow_4 rfl rfl ?_
      refine j_aload_n C 0 0 dX5_takersNow_5 rfl rfl ?_
      refine y_getM C 4 6 fX5_takersNow_52 rfl rfl ft_4_9 sm_4_9 (by decide) hM0 dX5_takersNow_6 (fun v219 ev219 cv219 => ?_)
      refine y_getI C 6 _ _ fX5_takersNow_92 cv219 rfl ft_6_0 sb_6_0 hM0 dX5_takersNow_9 (fun a220 ea220 la220 ua220 => ?_)
      refine y_icmp_ge C 39 dX5_takersNow_12 (by decide) (by omega) (fun h222 => ?_) (fun h222 => ?_)
      · refine j_iload_n C 1 1 dX5_takersNow_39 rfl rfl ?_
        exact hret _ _ _ _ dX5_takersNow_40 ⟨a216, rfl, rfl, by omega⟩
      · refine j_aload_n C 0 0 dX5_takersNow_15 rfl rfl ?_
        refine j_aload_n C 0 0 dX5_takersNow_16 rfl rfl ?_
        refine y_getI C 4 _ _ fX5_takersNow_45 rfl rfl ft_4_13 sb_4_13 hM0 dX5_takersNow_17 (fun a223 ea223 la223 ua223 => ?_)
        refine j_iload_n C 2 2 dX5_takersNow_20 rfl rfl ?_
        refine j_callVi C (d := 0) (As := [.int (sI a223), .int (sI a217)]) (st := []) 88 (s_lt rfl rfl) (s_kc (c := 4) rfl rfl) (by decide) rfl (s1_X5_pick hM0 a223 (by omega) a217 (by omega)) gX5_takersNow_X5_pick rfl hdX5_pick (by decide) (Nat.le_of_ble_eq_true rfl) dX5_takersNow_21 rfl (fun r225 M226 h227 => ?_)
        obtain ⟨a229, rfl, rfl, h228⟩ := h227
        refine y_if_lt C 33 dX5_takersNow_24 (by decide) (by omega) (fun h230 => ?_) (fun h230 => ?_)
        · refine y_iinc C 2 [(2, .int (sI (a217 + 1))), (0, .ref (ad 88)), (1, .int (sI a216))] dX5_takersNow_33 rfl (by decide) rfl ?_
          refine j_goto C 4 dX5_takersNow_36 (by decide) ?_
          refine j_lv [1, 2, 0] rfl ?_; exact ih214 a216 (a217 + 1) (by omega)
        · refine j_iload_n C 1 1 dX5_takersNow_27 rfl rfl ?_
          refine y_iconst C dX5_takersNow_28 ?_
          refine j_iload_n C 2 2 dX5_takersNow_29 rfl rfl ?_
          refine y_shl1 C 5 32 dX5_takersNow_30 rfl (by decide) (by omega) (fun a231 la231 ua231 => ?_)
          refine y_iorN C 6 63 dX5_takersNow_31 rfl (by decide) (by omega) (fun a232 la232 ua232 => ?_)
          refine j_istore_n C 1 [(1, .int (sI a232)), (0, .ref (ad 88)), (2, .int (sI a217))] dX5_takersNow_32 rfl (by decide) rfl ?_
          refine y_iinc C 2 [(2, .int (sI (a217 + 1))), (1, .int (sI a232)), (0, .ref (ad 88))] dX5_takersNow_33 rfl (by decide) rfl ?_
          refine j_goto C 4 dX5_takersNow_36 (by decide) ?_
          refine j_lv [2, 1, 0] rfl ?_; exact ih214 a232 (a217 + 1) (by omega)
  refine j_lv [2, 1, 0] rfl ?_; exact L215 2010 0 0 (by omega)
set_option maxHeartbeats 4000000 in
theorem s1_X11_rota {l : Launch} {dC : Nat → ClassId} {dI : Nat → Nat → Nat} {ad : Nat → Nat} {cA : Nat → ClassId} {pr : Nat → Nat → Bool} {Kz : mm_M} {M0 : mm_M} (hM0 : INV pr Kz M0) (hpr : PX pr) (a1 : Int) (ha1 : -2147483648 ≤ a1 ∧ a1 ≤ 2147483647) : Ci l 6 yX11_rota wsX11_rota dC dI ad cA [.ref (ad 0), .int (sI a1)] M0 (fun r M' => ∃ a : Int, r = sI a ∧ INV pr Kz M' ∧ (-5) ≤ a ∧ a ≤ 255) := by
  refine ci_of (cc := cX11_rota) (maxL := 5) (ty := .int) (lv := [(0, .ref (ad 0)), (1, .int (sI a1))]) (by decide) rfl (fun r M' hp => rfl) (Nat.le_of_ble_eq_true rfl) rfl ?_
  intro p e s m args below meth c A Q C hret
  refine j_iload_n C 1 1 dX11_rota_0 rfl rfl ?_
  refine y_if_lt C 9 dX11_rota_1 (by decide) (by omega) (fun h101 => ?_) (fun h101 => ?_)
  · refine y_bipush C dX11_rota_9 rfl ?_
    exact hret _ _ _ _ dX11_rota_11 ⟨(-2), rfl, hM0, by omega⟩
  · refine j_iload_n C 1 1 dX11_rota_4 rfl rfl ?_
    refine y_iconst C dX11_rota_5 ?_
    refine y_icmp_le C 12 dX11_rota_6 (by decide) (by omega) (fun h102 => ?_) (fun h102 => ?_)
    · refine j_aload_n C 0 0 dX11_rota_12 rfl rfl ?_
      refine y_getC C 10 12 fX11_rota_36 rfl rfl ft_10_6 sm_10_6 rfl hM0 dX11_rota_13 ?_
      refine j_callVi C (d := 1) (As := []) (st := []) 12 (s_lt rfl rfl) (s_kc (c := 8) rfl rfl) (by decide) rfl (s1_X9_isShut hM0 rfl) gX11_rota_X9_isShut rfl hdX9_isShut (by decide) (Nat.le_of_ble_eq_true rfl) dX11_rota_16 rfl (fun r103 M104 h105 => ?_)
      obtain ⟨a107, rfl, rfl, h106⟩ := h105
      refine y_if_eq C 25 dX11_rota_19 (by decide) (by omega) (fun h108 => ?_) (fun h108 => ?_)
      · refine j_aload_n C 0 0 dX11_rota_25 rfl rfl ?_
        refine y_getC C 10 88 fX11_rota_94 rfl rfl ft_10_14 sm_10_14 rfl hM0 dX11_rota_26 ?_
        refine j_aload_n C 0 0 dX11_rota_29 rfl rfl ?_
        refine y_getM C 10 6 fX11_rota_26 rfl rfl ft_10_4 sm_10_4 (by decide) hM0 dX11_rota_30 (fun v109 ev109 cv109 => ?_)
        refine j_aload_n C 0 0 dX11_rota_33 rfl rfl ?_
        refine y_getC C 10 12 fX11_rota_36 rfl rfl ft_10_6 sm_10_6 rfl hM0 dX11_rota_34 ?_
        refine j_aload_n C 0 0 dX11_rota_37 rfl rfl ?_
        refine y_getC C 10 12 fX11_rota_36 rfl rfl ft_10_6 sm_10_6 rfl hM0 dX11_rota_38 ?_
        refine y_getI C 8 _ _ fX11_rota_153 rfl rfl ft_8_4 sb_8_4 hM0 dX11_rota_41 (fun a110 ea110 la110 ua110 => ?_)
        refine j_callVv C (d := 5) (As := [.ref (ad v109), .ref (ad 12), .int (sI a110)]) (st := []) 88 (s_lt rfl rfl) (s_kc (c := 4) rfl rfl) (by decide) rfl (s1_X5_look hM0 hpr cv109 rfl a110 (by omega)) gX11_rota_X5_look rfl hdX5_look (by decide) (Nat.le_of_ble_eq_true rfl) dX11_rota_44 rfl (fun M113 h114 => ?_)
        have hM113 := h114
        refine j_aload_n C 0 0 dX11_rota_47 rfl rfl ?_
        refine y_getC C 10 88 fX11_rota_94 rfl rfl ft_10_14 sm_10_14 rfl hM113 dX11_rota_48 ?_
        refine j_callVi C (d := 1) (As := []) (st := []) 88 (s_lt rfl rfl) (s_kc (c := 4) rfl rfl) (by decide) rfl (s1_X5_takersNow hM113) gX11_rota_X5_takersNow rfl hdX5_takersNow (by decide) (Nat.le_of_ble_eq_true rfl) dX11_rota_51 rfl (fun r116 M117 h118 => ?_)
        obtain ⟨a120, rfl, rfl, h119⟩ := h118
        refine j_istore_n C 2 [(2, .int (sI a120)), (0, .ref (ad 0)), (1, .int (sI a1))] dX11_rota_54 rfl (by decide) rfl ?_
        refine y_iconst C dX11_rota_55 ?_
        refine j_istore_n C 3 [(3, .int (sI 0)), (2, .int (sI a120)), (0, .ref (ad 0)), (1, .int (sI a1))] dX11_rota_56 rfl (by decide) rfl ?_
        have L10293 : ∀ (n10291 : Nat), ∀ (a10294 : Int) (M10295 : mm_M), (0 ≤ a10294 ∧ a10294 ≤ 9 ∧ (9 - a10294) < (n10291 : Int)) → INV pr Kz M10295 → jj p l e (cn_R 6) s m args below meth c 0 0 Q 5 dC dI ad cA A M10295 57 [(0, .ref (ad 0)), (1, .int (sI a1)), (2, .int (sI a120)), (3, .int (sI a10294))] [] := by
          intro n10291
          induction n10291 with
          | zero =>
            intro a10294 M10295 h10296 hM10295
            exfalso; omega
          | succ n10291 ih10292 =>
            intro a10294 M10295 h10296 hM10295
            refine j_iload_n C 3 3 dX11_rota_57 rfl rfl ?_
            refine j_aload_n C 0 0 dX11_rota_58 rfl rfl ?_
            refine y_getC C 10 12 fX11_rota_36 rfl rfl ft_10_6 sm_10_6 rfl hM10295 dX11_rota_59 ?_
            refine y_getI C 8 _ _ fX11_rota_160 rfl rfl ft_8_0 sb_8_0 hM10295 dX11_rota_62 (fun a10297 ea10297 la10297 ua10297 => ?_)
            refine y_icmp_gt C 166 dX11_rota_65 (by decide) (by omega) (fun h10299 => ?_) (fun h10299 => ?_)
            · refine y_iconst C dX11_rota_166 ?_
              exact hret _ _ _ _ dX11_rota_167 ⟨(-1), rfl, hM10295, by omega⟩
            · refine y_iconst C dX11_rota_68 ?_
              refine j_istore C 4 [(4, .int (sI 0)), (0, .ref (ad 0)), (1, .int (sI a1)), (2, .int (sI a120)), (3, .int (sI a10294))] dX11_rota_69 (by decide) rfl ?_
              have L11274 : ∀ (n11272 : Nat), ∀ (a11275 : Int) (M11276 : mm_M), (0 ≤ a11275 ∧ a11275 ≤ 256 ∧ (256 - a11275) < (n11272 : Int)) → INV pr Kz M11276 → jj p l e (cn_R 6) s m args below meth c 0 0 Q 5 dC dI ad cA A M11276 71 [(0, .ref (ad 0)), (1, .int (sI a1)), (2, .int (sI a120)), (3, .int (sI a10294)), (4, .int (sI a11275))] [] := by
                intro n11272
                induction n11272 with
                | zero =>
                  intro a11275 M11276 h11277 hM11276
                  exfalso; omega
                | succ n11272 ih11273 =>
                  intro a11275 M11276 h11277 hM11276
                  refine j_iload C 4 dX11_rota_71 rfl ?_
                  refine j_aload_n C 0 0 dX11_rota_73 rfl rfl ?_
                  refine y_getC C 10 12 fX11_rota_36 rfl rfl ft_10_6 sm_10_6 rfl hM11276 dX11_rota_74 ?_
                  refine j_callVi C (d := 0) (As := []) (st := [.int (sI a11275)]) 12 (s_lt rfl rfl) (s_kc (c := 8) rfl rfl) (by decide) rfl (s1_X9_everyKind hM11276 rfl) gX11_rota_X9_everyKind rfl hdX9_everyKind (by decide) (Nat.le_of_ble_eq_true rfl) dX11_rota_77 rfl (fun r11278 M11279 h11280 => ?_)
                  obtain ⟨a11282, rfl, rfl, h11281⟩ := h11280
                  refine y_icmp_gt C 160 dX11_rota_80 (by decide) (by omega) (fun h11283 => ?_) (fun h11283 => ?_)
                  · refine y_iinc C 3 [(3, .int (sI (a10294 + 1))), (0, .ref (ad 0)), (1, .int (sI a1)), (2, .int (sI a120)), (4, .int (sI a11275))] dX11_rota_160 rfl (by decide) rfl ?_
                    refine j_goto C 57 dX11_rota_163 (by decide) ?_
                    refine j_lv [1, 2, 3, 0] rfl ?_; exact ih10292 (a10294 + 1) M11276 (by omega) hM11276
                  · refine j_aload_n C 0 0 dX11_rota_83 rfl rfl ?_
                    refine j_iload C 4 dX11_rota_84 rfl ?_
                    refine j_iload_n C 3 3 dX11_rota_86 rfl rfl ?_
                    refine j_callVi C (d := 1) (As := [.int (sI a11275), .int (sI a10294)]) (st := []) 0 (s_lt rfl rfl) (s_kc (c := 10) rfl rfl) (by decide) rfl (s1_X11_isHideable hM11276 a11275 (by omega) a10294 (by omega)) gX11_rota_X11_isHideable rfl hdX11_isHideable (by decide) (Nat.le_of_ble_eq_true rfl) dX11_rota_87 rfl (fun r11284 M11285 h11286 => ?_)
                    obtain ⟨a11288, rfl, rfl, h11287⟩ := h11286
                    refine y_if_eq C 154 dX11_rota_90 (by decide) (by omega) (fun h11289 => ?_) (fun h11289 => ?_)
                    · refine y_iinc C 4 [(4, .int (sI (a11275 + 1))), (0, .ref (ad 0)), (1, .int (sI a1)), (2, .int (sI a120)), (3, .int (sI a10294))] dX11_rota_154 rfl (by decide) rfl ?_
                      refine j_goto C 71 dX11_rota_157 (by decide) ?_
                      refine j_lv [1, 2, 3, 4, 0] rfl ?_; exact ih11273 (a11275 + 1) M11276 (by omega) hM11276
                    · refine j_aload_n C 0 0 dX11_rota_93 rfl rfl ?_
                      refine y_getC C 10 88 fX11_rota_94 rfl rfl ft_10_14 sm_10_14 rfl hM11276 dX11_rota_94 ?_
                      refine j_aload_n C 0 0 dX11_rota_97 rfl rfl ?_
                      refine y_getM C 10 6 fX11_rota_26 rfl rfl ft_10_4 sm_10_4 (by decide) hM11276 dX11_rota_98 (fun v11290 ev11290 cv11290 => ?_)
                      refine j_aload_n C 0 0 dX11_rota_101 rfl rfl ?_
                      refine y_getC C 10 12 fX11_rota_36 rfl rfl ft_10_6 sm_10_6 rfl hM11276 dX11_rota_102 ?_
                      refine j_aload_n C 0 0 dX11_rota_105 rfl rfl ?_
                      refine y_getC C 10 12 fX11_rota_36 rfl rfl ft_10_6 sm_10_6 rfl hM11276 dX11_rota_106 ?_
                      refine y_getI C 8 _ _ fX11_rota_153 rfl rfl ft_8_4 sb_8_4 hM11276 dX11_rota_109 (fun a11291 ea11291 la11291 ua11291 => ?_)
                      refine j_iload C 4 dX11_rota_112 rfl ?_
                      refine y_iorN C 8 255 dX11_rota_114 rfl (by decide) (by omega) (fun a11293 la11293 ua11293 => ?_)
                      refine j_callVv C (d := 5) (As := [.ref (ad v11290), .ref (ad 12), .int (sI a11293)]) (st := []) 88 (s_lt rfl rfl) (s_kc (c := 4) rfl rfl) (by decide) rfl (s1_X5_look hM11276 hpr cv11290 rfl a11293 (by omega)) gX11_rota_X5_look rfl hdX5_look (by decide) (Nat.le_of_ble_eq_true rfl) dX11_rota_115 rfl (fun M11295 h11296 => ?_)
                      have hM11295 := h11296
                      refine j_iload_n C 2 2 dX11_rota_118 rfl rfl ?_
                      refine j_aload_n C 0 0 dX11_rota_119 rfl rfl ?_
                      refine y_getC C 10 88 fX11_rota_94 rfl rfl ft_10_14 sm_10_14 rfl hM11295 dX11_rota_120 ?_
                      refine j_callVi C (d := 1) (As := []) (st := [.int (sI a120)]) 88 (s_lt rfl rfl) (s_kc (c := 4) rfl rfl) (by decide) rfl (s1_X5_takersNow hM11295) gX11_rota_X5_takersNow rfl hdX5_takersNow (by decide) (Nat.le_of_ble_eq_true rfl) dX11_rota_123 rfl (fun r11298 M11299 h11300 => ?_)
                      obtain ⟨a11302, rfl, rfl, h11301⟩ := h11300
                      refine y_iconst C dX11_rota_126 ?_
                      refine y_not C dX11_rota_127 ?_
                      refine y_iandL C dX11_rota_128 (by omega) (fun a11303 la11303 ua11303 => ?_)
                      refine y_if_ne C 154 dX11_rota_129 (by decide) (by omega) (fun h11304 => ?_) (fun h11304 => ?_)
                      · refine y_iinc C 4 [(4, .int (sI (a11275 + 1))), (0, .ref (ad 0)), (1, .int (sI a1)), (2, .int (sI a120)), (3, .int (sI a10294))] dX11_rota_154 rfl (by decide) rfl ?_
                        refine j_goto C 71 dX11_rota_157 (by decide) ?_
                        refine j_lv [1, 2, 3, 4, 0] rfl ?_; exact ih11273 (a11275 + 1) M11295 (by omega) hM11295
                      · refine j_aload_n C 0 0 dX11_rota_132 rfl rfl ?_
                        refine y_getC C 10 88 fX11_rota_94 rfl rfl ft_10_14 sm_10_14 rfl hM11295 dX11_rota_133 ?_
                        refine j_callVi C (d := 3) (As := []) (st := []) 88 (s_lt rfl rfl) (s_kc (c := 4) rfl rfl) (by decide) rfl (s1_X5_shortest hM11295 hpr) gX11_rota_X5_shortest rfl hdX5_shortest (by decide) (Nat.le_of_ble_eq_true rfl) dX11_rota_136 rfl (fun r11305 M11306 h11307 => ?_)
                        obtain ⟨a11309, rfl, hM11306, h11308⟩ := h11307
                        refine y_iconst C dX11_rota_139 ?_
                        refine y_icmp_ne C 154 dX11_rota_140 (by decide) (by omega) (fun h11310 => ?_) (fun h11310 => ?_)
                        · refine y_iinc C 4 [(4, .int (sI (a11275 + 1))), (0, .ref (ad 0)), (1, .int (sI a1)), (2, .int (sI a120)), (3, .int (sI a10294))] dX11_rota_154 rfl (by decide) rfl ?_
                          refine j_goto C 71 dX11_rota_157 (by decide) ?_
                          refine j_lv [1, 2, 3, 4, 0] rfl ?_; exact ih11273 (a11275 + 1) M11306 (by omega) hM11306
                        · refine j_iload_n C 1 1 dX11_rota_143 rfl rfl ?_
                          refine y_if_ne C 151 dX11_rota_144 (by decide) (by omega) (fun h11311 => ?_) (fun h11311 => ?_)
                          · refine j_iload C 4 dX11_rota_151 rfl ?_
                            exact hret _ _ _ _ dX11_rota_153 ⟨a11275, rfl, hM11306, by omega⟩
                          · refine j_iload_n C 3 3 dX11_rota_147 rfl rfl ?_
                            refine j_goto C 153 dX11_rota_148 (by decide) ?_
                            exact hret _ _ _ _ dX11_rota_153 ⟨a10294, rfl, hM11306, by omega⟩
              refine j_lv [1, 2, 3, 4, 0] rfl ?_; exact L11274 2010 0 M10295 (by omega) hM10295
        refine j_lv [2, 3, 1, 0] rfl ?_; exact L10293 2010 0 M113 (by omega) hM113
      · refine y_bipush C dX11_rota_22 rfl ?_
        exact hret _ _ _ _ dX11_rota_24 ⟨(-5), rfl, hM0, by omega⟩
    · refine y_bipush C dX11_rota_9 rfl ?_
      exact hret _ _ _ _ dX11_rota_11 ⟨(-2), rfl, hM0, by omega⟩
set_option maxHeartbeats 4000000 in
theorem s1_X11_earns {l : Launch} {dC : Nat → ClassId} {dI : Nat → Nat → Nat} {ad : Nat → Nat} {cA : Nat → ClassId} {pr : Nat → Nat → Bool} {Kz : mm_M} {M0 : mm_M} (hM0 : INV pr Kz M0) (hpr : PX pr) (a1 : Int) (ha1 : -2147483648 ≤ a1 ∧ a1 ≤ 2147483647) (a2 : Int) (ha2 : -2147483648 ≤ a2 ∧ a2 ≤ 2147483647) : Cj l 6 yX11_earns wsX11_earns dC dI ad cA [.ref (ad 0), .int (sI a1), .int (sI a2)] M0 (fun r M' => ∃ a : Int, r = sJ a ∧ INV pr Kz M' ∧ (-9223372036854775808) ≤ a ∧ a ≤ 9223372036854775807) := by
  refine cj_of (cc := cX11_earns) (maxL := 4) (lv := [(0, .ref (ad 0)), (1, .int (sI a1)), (2, .int (sI a2))]) (by decide) rfl (Nat.le_of_ble_eq_true rfl) rfl ?_
  intro p e s m args below meth c A Q C hret
  refine j_iload_n C 2 2 dX11_earns_0 rfl rfl ?_
  refine j_iload_n C 1 1 dX11_earns_1 rfl rfl ?_
  refine y_bipush C dX11_earns_2 rfl ?_
  refine j_callSi C (d := 0) (As := [.int (sI a2), .int (sI a1), .int (sI 8)]) (st := []) (s1_X11_chanceRefusal hM0 a2 (by omega) a1 (by omega) 8 (by omega)) gX11_earns_X11_chanceRefusal rfl hdX11_chanceRefusals (by decide) (Nat.le_of_ble_eq_true rfl) dX11_earns_4 rfl (fun r101 M102 h103 => ?_)
  obtain ⟨a105, rfl, rfl, h104⟩ := h103
  refine j_istore_n C 3 [(3, .int (sI a105)), (0, .ref (ad 0)), (1, .int (sI a1)), (2, .int (sI a2))] dX11_earns_7 rfl (by decide) rfl ?_
  refine j_iload_n C 0 3 dX11_earns_8 rfl rfl ?_
  refine y_if_eq C 15 dX11_earns_9 (by decide) (by omega) (fun h106 => ?_) (fun h106 => ?_)
  · refine j_aload_n C 1 0 dX11_earns_15 rfl rfl ?_
    refine y_getC C 10 88 fX11_earns_94 rfl rfl ft_10_14 sm_10_14 rfl hM0 dX11_earns_16 ?_
    refine j_aload_n C 1 0 dX11_earns_19 rfl rfl ?_
    refine y_getM C 10 6 fX11_earns_26 rfl rfl ft_10_4 sm_10_4 (by decide) hM0 dX11_earns_20 (fun v107 ev107 cv107 => ?_)
    refine j_aload_n C 1 0 dX11_earns_23 rfl rfl ?_
    refine y_getC C 10 12 fX11_earns_36 rfl rfl ft_10_6 sm_10_6 rfl hM0 dX11_earns_24 ?_
    refine j_aload_n C 1 0 dX11_earns_27 rfl rfl ?_
    refine y_getC C 10 12 fX11_earns_36 rfl rfl ft_10_6 sm_10_6 rfl hM0 dX11_earns_28 ?_
    refine y_getI C 8 _ _ fX11_earns_153 rfl rfl ft_8_4 sb_8_4 hM0 dX11_earns_31 (fun a108 ea108 la108 ua108 => ?_)
    refine j_callVv C (d := 5) (As := [.ref (ad v107), .ref (ad 12), .int (sI a108)]) (st := []) 88 (s_lt rfl rfl) (s_kc (c := 4) rfl rfl) (by decide) rfl (s1_X5_look hM0 hpr cv107 rfl a108 (by omega)) gX11_earns_X5_look rfl hdX5_look (by decide) (Nat.le_of_ble_eq_true rfl) dX11_earns_34 rfl (fun M111 h112 => ?_)
    have hM111 := h112
    refine j_aload_n C 1 0 dX11_earns_37 rfl rfl ?_
    refine y_getC C 10 88 fX11_earns_94 rfl rfl ft_10_14 sm_10_14 rfl hM111 dX11_earns_38 ?_
    refine j_iload_n C 2 1 dX11_earns_41 rfl rfl ?_
    refine j_callVv C (d := 3) (As := [.int (sI a1)]) (st := []) 88 (s_lt rfl rfl) (s_kc (c := 4) rfl rfl) (by decide) rfl (s1_X5_passDays hM111 hpr a1 (by omega)) gX11_earns_X5_passDays rfl hdX5_passDays (by decide) (Nat.le_of_ble_eq_true rfl) dX11_earns_42 rfl (fun M115 h116 => ?_)
    have hM115 := h116
    refine j_aload_n C 1 0 dX11_earns_45 rfl rfl ?_
    refine y_getC C 10 88 fX11_earns_94 rfl rfl ft_10_14 sm_10_14 rfl hM115 dX11_earns_46 ?_
    refine y_getJ C 4 fX11_earns_341 rfl rfl ft_4_8 dX11_earns_49 (fun a118 ea118 la118 ua118 => ?_)
    refine j_aload_n C 1 0 dX11_earns_52 rfl rfl ?_
    refine y_getC C 10 88 fX11_earns_94 rfl rfl ft_10_14 sm_10_14 rfl hM115 dX11_earns_53 ?_
    refine y_getJ C 4 fX11_earns_296 rfl rfl ft_4_7 dX11_earns_56 (fun a119 ea119 la119 ua119 => ?_)
    refine j_iload_n C 3 2 dX11_earns_59 rfl rfl ?_
    refine j_callSj C (d := 1) (As := [.long (sJ a118), .long (sJ a119), .int (sI a2)]) (st := []) (s1_X11_inLowestTerms hM115 a118 (by omega) a119 (by omega) a2 (by omega)) gX11_earns_X11_inLowestTerms rfl hdX11_inLowestTermss (by decide) (Nat.le_of_ble_eq_true rfl) dX11_earns_60 rfl (fun r120 M121 h122 => ?_)
    obtain ⟨a124, rfl, rfl, h123⟩ := h122
    exact hret _ _ _ _ dX11_earns_63 ⟨a124, rfl, hM115, by omega⟩
  · refine j_iload_n C 0 3 dX11_earns_12 rfl rfl ?_
    refine y_i2l C dX11_earns_13 (by omega) ?_
    exact hret _ _ _ _ dX11_earns_14 ⟨a105, rfl, hM0, by omega⟩
set_option maxHeartbeats 4000000 in
theorem s1_X11_bestPrice {l : Launch} {dC : Nat → ClassId} {dI : Nat → Nat → Nat} {ad : Nat → Nat} {cA : Nat → ClassId} {pr : Nat → Nat → Bool} {Kz : mm_M} {M0 : mm_M} (hM0 : INV pr Kz M0) (hpr : PX pr) (hq8_0 : ∀ i, s_c i = 8 → pr i 0 = false) (a1 : Int) (ha1 : -2147483648 ≤ a1 ∧ a1 ≤ 2147483647) (a2 : Int) (ha2 : -2147483648 ≤ a2 ∧ a2 ≤ 2147483647) : Ci l 6 yX11_bestPrice wsX11_bestPrice dC dI ad cA [.ref (ad 0), .int (sI a1), .int (sI a2)] M0 (fun r M' => ∃ a : Int, r = sI a ∧ INV pr Kz M' ∧ (-5) ≤ a ∧ a ≤ 99) := by
  refine ci_of (cc := cX11_bestPrice) (maxL := 7) (ty := .int) (lv := [(0, .ref (ad 0)), (1, .int (sI a1)), (2, .int (sI a2))]) (by decide) rfl (fun r M' hp => rfl) (Nat.le_of_ble_eq_true rfl) rfl ?_
  intro p e s m args below meth c A Q C hret
  refine j_aload_n C 0 0 dX11_bestPrice_0 rfl rfl ?_
  refine j_iload_n C 1 1 dX11_bestPrice_1 rfl rfl ?_
  refine j_callVi C (d := 0) (As := [.int (sI a1)]) (st := []) 0 (s_lt rfl rfl) (s_kc (c := 10) rfl rfl) (by decide) rfl (s1_X11_isKind hM0 a1 (by omega)) gX11_bestPrice_X11_isKind rfl hdX11_isKind (by decide) (Nat.le_of_ble_eq_true rfl) dX11_bestPrice_2 rfl (fun r101 M102 h103 => ?_)
  obtain ⟨a105, rfl, rfl, h104⟩ := h103
  refine y_if_ne C 11 dX11_bestPrice_5 (by decide) (by omega) (fun h106 => ?_) (fun h106 => ?_)
  · refine j_iload_n C 2 2 dX11_bestPrice_11 rfl rfl ?_
    refine y_iconst C dX11_bestPrice_12 ?_
    refine y_icmp_lt C 21 dX11_bestPrice_13 (by decide) (by omega) (fun h107 => ?_) (fun h107 => ?_)
    · refine y_bipush C dX11_bestPrice_21 rfl ?_
      exact hret _ _ _ _ dX11_bestPrice_23 ⟨(-3), rfl, hM0, by omega⟩
    · refine j_iload_n C 2 2 dX11_bestPrice_16 rfl rfl ?_
      refine y_iconst C dX11_bestPrice_17 ?_
      refine y_icmp_le C 24 dX11_bestPrice_18 (by decide) (by omega) (fun h108 => ?_) (fun h108 => ?_)
      · refine j_aload_n C 0 0 dX11_bestPrice_24 rfl rfl ?_
        refine y_getC C 10 12 fX11_bestPrice_36 rfl rfl ft_10_6 sm_10_6 rfl hM0 dX11_bestPrice_25 ?_
        refine j_callVi C (d := 1) (As := []) (st := []) 12 (s_lt rfl rfl) (s_kc (c := 8) rfl rfl) (by decide) rfl (s1_X9_isShut hM0 rfl) gX11_bestPrice_X9_isShut rfl hdX9_isShut (by decide) (Nat.le_of_ble_eq_true rfl) dX11_bestPrice_28 rfl (fun r109 M110 h111 => ?_)
        obtain ⟨a113, rfl, rfl, h112⟩ := h111
        refine y_if_eq C 37 dX11_bestPrice_31 (by decide) (by omega) (fun h114 => ?_) (fun h114 => ?_)
        · refine j_aload_n C 0 0 dX11_bestPrice_37 rfl rfl ?_
          refine y_getC C 10 15 fX11_bestPrice_40 rfl rfl ft_10_7 sm_10_7 rfl hM0 dX11_bestPrice_38 ?_
          refine j_aload_n C 0 0 dX11_bestPrice_41 rfl rfl ?_
          refine y_getC C 10 12 fX11_bestPrice_36 rfl rfl ft_10_6 sm_10_6 rfl hM0 dX11_bestPrice_42 ?_
          refine j_callVv C (d := 0) (As := [.ref (ad 12)]) (st := []) 15 (s_lt rfl rfl) (s_kc (c := 8) rfl rfl) (by decide) rfl (s1_X9_copyFrom hM0 hpr hq8_0 rfl rfl) gX11_bestPrice_X9_copyFrom rfl hdX9_copyFrom (by decide) (Nat.le_of_ble_eq_true rfl) dX11_bestPrice_45 rfl (fun M116 h117 => ?_)
          have hM116 := h117
          refine y_iconst C dX11_bestPrice_48 ?_
          refine j_istore_n C 3 [(3, .int (sI 1)), (0, .ref (ad 0)), (1, .int (sI a1)), (2, .int (sI a2))] dX11_bestPrice_49 rfl (by decide) rfl ?_
          refine y_ldc2 C (-1) dX11_bestPrice_50 kX11_bestPrice_219 rfl ?_
          refine j_lstore C 4 [(4, .long (sJ (-1))), (3, .int (sI 1)), (0, .ref (ad 0)), (1, .int (sI a1)), (2, .int (sI a2))] dX11_bestPrice_53 (by decide) rfl ?_
          refine y_iconst C dX11_bestPrice_55 ?_
          refine j_istore C 6 [(6, .int (sI 1)), (4, .long (sJ (-1))), (3, .int (sI 1)), (0, .ref (ad 0)), (1, .int (sI a1)), (2, .int (sI a2))] dX11_bestPrice_56 (by decide) rfl ?_
          have L649 : ∀ (n647 : Nat), ∀ (a650 : Int) (a651 : Int) (a652 : Int) (M653 : mm_M), (1 ≤ a650 ∧ a650 ≤ 99 ∧ (-9223372036854775808) ≤ a651 ∧ a651 ≤ 9223372036854775807 ∧ 1 ≤ a652 ∧ a652 ≤ 100 ∧ (100 - a652) < (n647 : Int)) → INV pr Kz M653 → jj p l e (cn_R 6) s m args below meth c 0 0 Q 7 dC dI ad cA A M653 58 [(0, .ref (ad 0)), (1, .int (sI a1)), (2, .int (sI a2)), (3, .int (sI a650)), (4, .long (sJ a651)), (6, .int (sI a652))] [] := by
            intro n647
            induction n647 with
            | zero =>
              intro a650 a651 a652 M653 h654 hM653
              exfalso; omega
            | succ n647 ih648 =>
              intro a650 a651 a652 M653 h654 hM653
              refine j_iload C 5 dX11_bestPrice_58 rfl ?_
              refine y_bipush C dX11_bestPrice_60 rfl ?_
              refine y_icmp_gt C 146 dX11_bestPrice_62 (by decide) (by omega) (fun h655 => ?_) (fun h655 => ?_)
              · refine j_iload_n C 3 3 dX11_bestPrice_146 rfl rfl ?_
                exact hret _ _ _ _ dX11_bestPrice_147 ⟨a650, rfl, hM653, by omega⟩
              · refine j_aload_n C 0 0 dX11_bestPrice_65 rfl rfl ?_
                refine y_getC C 10 15 fX11_bestPrice_40 rfl rfl ft_10_7 sm_10_7 rfl hM653 dX11_bestPrice_66 ?_
                refine y_getC C 8 16 fX11_bestPrice_144 rfl rfl ft_8_1 sm_8_1 rfl hM653 dX11_bestPrice_69 ?_
                refine j_iload_n C 1 1 dX11_bestPrice_72 rfl rfl ?_
                refine j_iload C 5 dX11_bestPrice_73 rfl ?_
                refine y_iastF C 25 8 rfl rfl rfl ak_25 an_25 rfl (sb_25 _) hM653 (PX.w hpr rfl rfl) dX11_bestPrice_75 (by omega) (fun M656 eM656 hM656 => ?_)
                refine j_aload_n C 0 0 dX11_bestPrice_76 rfl rfl ?_
                refine y_getC C 10 88 fX11_bestPrice_94 rfl rfl ft_10_14 sm_10_14 rfl hM656 dX11_bestPrice_77 ?_
                refine j_aload_n C 0 0 dX11_bestPrice_80 rfl rfl ?_
                refine y_getM C 10 6 fX11_bestPrice_26 rfl rfl ft_10_4 sm_10_4 (by decide) hM656 dX11_bestPrice_81 (fun v657 ev657 cv657 => ?_)
                refine j_aload_n C 0 0 dX11_bestPrice_84 rfl rfl ?_
                refine y_getC C 10 15 fX11_bestPrice_40 rfl rfl ft_10_7 sm_10_7 rfl hM656 dX11_bestPrice_85 ?_
                refine j_aload_n C 0 0 dX11_bestPrice_88 rfl rfl ?_
                refine y_getC C 10 15 fX11_bestPrice_40 rfl rfl ft_10_7 sm_10_7 rfl hM656 dX11_bestPrice_89 ?_
                refine y_getI C 8 _ _ fX11_bestPrice_153 rfl rfl ft_8_4 sb_8_4 hM656 dX11_bestPrice_92 (fun a658 ea658 la658 ua658 => ?_)
                refine j_callVv C (d := 5) (As := [.ref (ad v657), .ref (ad 15), .int (sI a658)]) (st := []) 88 (s_lt rfl rfl) (s_kc (c := 4) rfl rfl) (by decide) rfl (s1_X5_look hM656 hpr cv657 rfl a658 (by omega)) gX11_bestPrice_X5_look rfl hdX5_look (by decide) (Nat.le_of_ble_eq_true rfl) dX11_bestPrice_95 rfl (fun M661 h662 => ?_)
                have hM661 := h662
                refine j_aload_n C 0 0 dX11_bestPrice_98 rfl rfl ?_
                refine y_getC C 10 88 fX11_bestPrice_94 rfl rfl ft_10_14 sm_10_14 rfl hM661 dX11_bestPrice_99 ?_
                refine j_iload_n C 2 2 dX11_bestPrice_102 rfl rfl ?_
                refine j_callVv C (d := 3) (As := [.int (sI a2)]) (st := []) 88 (s_lt rfl rfl) (s_kc (c := 4) rfl rfl) (by decide) rfl (s1_X5_passDays hM661 hpr a2 (by omega)) gX11_bestPrice_X5_passDays rfl hdX5_passDays (by decide) (Nat.le_of_ble_eq_true rfl) dX11_bestPrice_103 rfl (fun M665 h666 => ?_)
                have hM665 := h666
                refine j_aload_n C 0 0 dX11_bestPrice_106 rfl rfl ?_
                refine y_getC C 10 88 fX11_bestPrice_94 rfl rfl ft_10_14 sm_10_14 rfl hM665 dX11_bestPrice_107 ?_
                refine y_getJ C 4 fX11_bestPrice_341 rfl rfl ft_4_8 dX11_bestPrice_110 (fun a668 ea668 la668 ua668 => ?_)
                refine j_lload C 4 dX11_bestPrice_113 rfl ?_
                have J671 : ∀ (a670 : Int), (1 ≤ a670 ∧ a670 ≤ 99) → jj p l e (cn_R 6) s m args below meth c 0 0 Q 7 dC dI ad cA A M665 125 [(0, .ref (ad 0)), (1, .int (sI a1)), (2, .int (sI a2)), (4, .long (sJ a651)), (6, .int (sI a652))] [.int (sI a670)] := by
                  intro a670 h672
                  refine j_istore_n C 3 [(3, .int (sI a670)), (0, .ref (ad 0)), (1, .int (sI a1)), (2, .int (sI a2)), (4, .long (sJ a651)), (6, .int (sI a652))] dX11_bestPrice_125 rfl (by decide) rfl ?_
                  refine j_lload C 4 dX11_bestPrice_126 rfl ?_
                  refine j_aload_n C 1 0 dX11_bestPrice_128 rfl rfl ?_
                  refine y_getC C 10 88 fX11_bestPrice_94 rfl rfl ft_10_14 sm_10_14 rfl hM665 dX11_bestPrice_129 ?_
                  refine y_getJ C 4 fX11_bestPrice_341 rfl rfl ft_4_8 dX11_bestPrice_132 (fun a673 ea673 la673 ua673 => ?_)
                  refine y_mmaxl C wX11_bestPrice_330_0 wX11_bestPrice_330_1 wX11_bestPrice_330_2 wX11_bestPrice_330_3 (by decide) (Nat.le_of_ble_eq_true rfl) dX11_bestPrice_135 (fun a674 la674 ua674 => ?_)
                  refine j_lstore C 4 [(4, .long (sJ a674)), (3, .int (sI a670)), (0, .ref (ad 0)), (1, .int (sI a1)), (2, .int (sI a2)), (6, .int (sI a652))] dX11_bestPrice_138 (by decide) rfl ?_
                  refine y_iinc C 5 [(6, .int (sI (a652 + 1))), (4, .long (sJ a674)), (3, .int (sI a670)), (0, .ref (ad 0)), (1, .int (sI a1)), (2, .int (sI a2))] dX11_bestPrice_140 rfl (by decide) rfl ?_
                  refine j_goto C 58 dX11_bestPrice_143 (by decide) ?_
                  refine j_lv [3, 4, 5, 2, 1, 0] rfl ?_; exact ih648 a670 a674 (a652 + 1) M665 (by omega) hM665
                refine y_lcmp_le C 124 dX11_bestPrice_115 dX11_bestPrice_116 (by decide) (by omega) (fun h669 => ?_) (fun h669 => ?_)
                · refine j_iload_n C 3 3 dX11_bestPrice_124 rfl rfl ?_
                  refine j_lv [0, 1, 2, 4, 5] rfl ?_; exact J671 a650 (by omega)
                · refine j_iload C 5 dX11_bestPrice_119 rfl ?_
                  refine j_goto C 125 dX11_bestPrice_121 (by decide) ?_
                  refine j_lv [0, 1, 2, 4, 5] rfl ?_; exact J671 a652 (by omega)
          refine j_lv [3, 4, 5, 2, 1, 0] rfl ?_; exact L649 2010 1 (-1) 1 M116 (by omega) hM116
        · refine y_bipush C dX11_bestPrice_34 rfl ?_
          exact hret _ _ _ _ dX11_bestPrice_36 ⟨(-5), rfl, hM0, by omega⟩
      · refine y_bipush C dX11_bestPrice_21 rfl ?_
        exact hret _ _ _ _ dX11_bestPrice_23 ⟨(-3), rfl, hM0, by omega⟩
  · refine y_bipush C dX11_bestPrice_8 rfl ?_
    exact hret _ _ _ _ dX11_bestPrice_10 ⟨(-2), rfl, hM0, by omega⟩
set_option maxHeartbeats 4000000 in
theorem s1_X11_isSight {l : Launch} {dC : Nat → ClassId} {dI : Nat → Nat → Nat} {ad : Nat → Nat} {cA : Nat → ClassId} {pr : Nat → Nat → Bool} {Kz : mm_M} {M0 : mm_M} (hM0 : INV pr Kz M0) (a1 : Int) (ha1 : -9223372036854775808 ≤ a1 ∧ a1 ≤ 9223372036854775807) : Ci l 0 yX11_isSight wsX11_isSight dC dI ad cA [.ref (ad 0), .long (sJ a1)] M0 (fun r M' => ∃ a : Int, r = sI a ∧ M0 = M' ∧ 0 ≤ a ∧ a ≤ 1 ∧ ((a1 < 0 ∧ a = 0) ∨ (0 ≤ a1 ∧ 0 ≤ (a1 / 10) ∧ a = 0) ∨ (0 ≤ a1 ∧ (a1 / 10) < 6 ∧ a = 1) ∨ (0 ≤ (M0.1 12 0).toInt ∧ (M0.1 12 0).toInt ≤ 8 ∧ 0 ≤ a1 ∧ (a1 / 10) < 6 ∧ (M0.1 12 0).toInt ≤ 9223372036854775807 ∧ a = 0) ∨ (0 ≤ (M0.1 12 0).toInt ∧ (M0.1 12 0).toInt ≤ 8 ∧ 0 ≤ a1 ∧ (a1 / 10) < 6 ∧ (-9223372036854775808) < (M0.1 12 0).toInt ∧ a = 1))) := by
  refine ci_of (cc := cX11_isSight) (maxL := 5) (ty := .boolean) (lv := [(0, .ref (ad 0)), (1, .long (sJ a1))]) (by decide) rfl (fun r M' hp => by obtain ⟨a, rfl, -, h⟩ := hp; rcases (show a = 0 ∨ a = 1 by omega) with rfl | rfl <;> rfl) (Nat.le_of_ble_eq_true rfl) rfl ?_
  intro p e s m args below meth c A Q C hret
  refine j_lload_n C 1 1 dX11_isSight_0 rfl rfl ?_
  refine y_ldc2 C 10 dX11_isSight_1 kX11_isSight_318 rfl ?_
  refine y_lrem0 C dX11_isSight_4 (by omega) (fun a101 la101 ua101 => ?_)
  refine j_lstore_n C 3 [(3, .long (sJ a101)), (0, .ref (ad 0)), (1, .long (sJ a1))] dX11_isSight_5 rfl (by decide) rfl ?_
  refine j_lload_n C 2 1 dX11_isSight_6 rfl rfl ?_
  refine y_lconst C 0 dX11_isSight_7 rfl ?_
  refine y_lcmp_lt C 54 dX11_isSight_8 dX11_isSight_9 (by decide) (by omega) (fun h102 => ?_) (fun h102 => ?_)
  · refine y_iconst C dX11_isSight_54 ?_
    exact hret _ _ _ _ dX11_isSight_55 ⟨0, rfl, rfl, by omega⟩
  · refine j_lload_n C 2 1 dX11_isSight_12 rfl rfl ?_
    refine y_ldc2 C 10 dX11_isSight_13 kX11_isSight_318 rfl ?_
    refine y_ldiv C dX11_isSight_16 (by omega) ?_
    refine j_aload_n C 1 0 dX11_isSight_17 rfl rfl ?_
    refine y_getM C 10 6 fX11_isSight_26 rfl rfl ft_10_4 sm_10_4 (by decide) hM0 dX11_isSight_18 (fun v103 ev103 cv103 => ?_)
    refine y_getI C 6 _ _ fX11_isSight_163 cv103 rfl ft_6_0 sb_6_0 hM0 dX11_isSight_21 (fun a104 ea104 la104 ua104 => ?_)
    refine y_i2l C dX11_isSight_24 (by omega) ?_
    refine y_lcmp_ge C 54 dX11_isSight_25 dX11_isSight_26 (by decide) (by omega) (fun h106 => ?_) (fun h106 => ?_)
    · refine y_iconst C dX11_isSight_54 ?_
      exact hret _ _ _ _ dX11_isSight_55 ⟨0, rfl, rfl, by omega⟩
    · refine j_lload_n C 0 3 dX11_isSight_29 rfl rfl ?_
      refine y_ldc2 C 9 dX11_isSight_30 kX11_isSight_367 rfl ?_
      refine y_lcmp_eq C 50 dX11_isSight_33 dX11_isSight_34 (by decide) (by omega) (fun h107 => ?_) (fun h107 => ?_)
      · refine y_iconst C dX11_isSight_50 ?_
        refine j_goto C 55 dX11_isSight_51 (by decide) ?_
        exact hret _ _ _ _ dX11_isSight_55 ⟨1, rfl, rfl, by omega⟩
      · refine j_lload_n C 0 3 dX11_isSight_37 rfl rfl ?_
        refine j_aload_n C 1 0 dX11_isSight_38 rfl rfl ?_
        refine y_getC C 10 12 fX11_isSight_36 rfl rfl ft_10_6 sm_10_6 rfl hM0 dX11_isSight_39 ?_
        refine y_getI C 8 _ _ fX11_isSight_160 rfl rfl ft_8_0 sb_8_0 hM0 dX11_isSight_42 (fun a108 ea108 la108 ua108 => ?_)
        refine y_i2l C dX11_isSight_45 (by omega) ?_
        refine y_lcmp_ge C 54 dX11_isSight_46 dX11_isSight_47 (by decide) (by omega) (fun h110 => ?_) (fun h110 => ?_)
        · refine y_iconst C dX11_isSight_54 ?_
          exact hret _ _ _ _ dX11_isSight_55 ⟨0, rfl, rfl, by omega⟩
        · refine y_iconst C dX11_isSight_50 ?_
          refine j_goto C 55 dX11_isSight_51 (by decide) ?_
          exact hret _ _ _ _ dX11_isSight_55 ⟨1, rfl, rfl, by omega⟩
set_option maxHeartbeats 4000000 in
theorem s1_X11_seenRefusal {l : Launch} {dC : Nat → ClassId} {dI : Nat → Nat → Nat} {ad : Nat → Nat} {cA : Nat → ClassId} {pr : Nat → Nat → Bool} {Kz : mm_M} {M0 : mm_M} (hM0 : INV pr Kz M0) (a1 : Int) (ha1 : -2147483648 ≤ a1 ∧ a1 ≤ 2147483647) : Ci l 2 yX11_seenRefusal wsX11_seenRefusal dC dI ad cA [.ref (ad 0), .int (sI a1)] M0 (fun r M' => ∃ a : Int, r = sI a ∧ M0 = M' ∧ (-6) ≤ a ∧ a ≤ 0 ∧ (¬ a = 0 ∨ (0 ≤ a1 ∧ a1 < 4))) := by
  refine ci_of (cc := cX11_seenRefusal) (maxL := 5) (ty := .int) (lv := [(0, .ref (ad 0)), (1, .int (sI a1))]) (by decide) rfl (fun r M' hp => rfl) (Nat.le_of_ble_eq_true rfl) rfl ?_
  intro p e s m args below meth c A Q C hret
  refine j_aload_n C 0 0 dX11_seenRefusal_0 rfl rfl ?_
  refine j_iload_n C 1 1 dX11_seenRefusal_1 rfl rfl ?_
  refine j_callVi C (d := 1) (As := [.int (sI a1)]) (st := []) 0 (s_lt rfl rfl) (s_kc (c := 10) rfl rfl) (by decide) rfl (s1_X11_trayRefusal hM0 a1 (by omega)) gX11_seenRefusal_X11_trayRefusal rfl hdX11_trayRefusal (by decide) (Nat.le_of_ble_eq_true rfl) dX11_seenRefusal_2 rfl (fun r101 M102 h103 => ?_)
  obtain ⟨a105, rfl, rfl, h104⟩ := h103
  refine j_istore_n C 2 [(2, .int (sI a105)), (0, .ref (ad 0)), (1, .int (sI a1))] dX11_seenRefusal_5 rfl (by decide) rfl ?_
  refine j_iload_n C 0 2 dX11_seenRefusal_6 rfl rfl ?_
  refine y_if_eq C 12 dX11_seenRefusal_7 (by decide) (by omega) (fun h106 => ?_) (fun h106 => ?_)
  · refine j_aload_n C 1 0 dX11_seenRefusal_12 rfl rfl ?_
    refine y_getC C 10 50 fX11_seenRefusal_52 rfl rfl ft_10_9 sm_10_9 rfl hM0 dX11_seenRefusal_13 ?_
    refine j_iload_n C 2 1 dX11_seenRefusal_16 rfl rfl ?_
    refine y_aald C 28 4 9 rfl rfl rfl rfl an_28 rfl sma_28 sta_28 (by decide) hM0 dX11_seenRefusal_17 (by omega) (fun v107 cv107 => ?_)
    refine j_astore_n C 3 [(3, .ref (ad v107)), (2, .int (sI a105)), (0, .ref (ad 0)), (1, .int (sI a1))] dX11_seenRefusal_18 rfl (by decide) rfl ?_
    refine j_aload_n C 0 3 dX11_seenRefusal_19 rfl rfl ?_
    refine j_callVi C (d := 1) (As := []) (st := []) v107 (s_lt cv107 rfl) (s_kc (c := 9) cv107 rfl) (by decide) rfl (s1_X10_size hM0 cv107) gX11_seenRefusal_X10_size rfl hdX10_size (by decide) (Nat.le_of_ble_eq_true rfl) dX11_seenRefusal_20 rfl (fun r108 M109 h110 => ?_)
    obtain ⟨a112, rfl, rfl, h111⟩ := h110
    refine y_iconst C dX11_seenRefusal_23 ?_
    refine y_icmp_lt C 36 dX11_seenRefusal_24 (by decide) (by omega) (fun h113 => ?_) (fun h113 => ?_)
    · refine y_bipush C dX11_seenRefusal_36 rfl ?_
      exact hret _ _ _ _ dX11_seenRefusal_38 ⟨(-4), rfl, rfl, by omega⟩
    · refine j_aload_n C 0 3 dX11_seenRefusal_27 rfl rfl ?_
      refine j_callVi C (d := 1) (As := []) (st := []) v107 (s_lt cv107 rfl) (s_kc (c := 9) cv107 rfl) (by decide) rfl (s1_X10_size hM0 cv107) gX11_seenRefusal_X10_size rfl hdX10_size (by decide) (Nat.le_of_ble_eq_true rfl) dX11_seenRefusal_28 rfl (fun r114 M115 h116 => ?_)
      obtain ⟨a118, rfl, rfl, h117⟩ := h116
      refine y_bipush C dX11_seenRefusal_31 rfl ?_
      refine y_icmp_le C 39 dX11_seenRefusal_33 (by decide) (by omega) (fun h119 => ?_) (fun h119 => ?_)
      · refine y_iconst C dX11_seenRefusal_39 ?_
        refine j_istore C 4 [(4, .int (sI 0)), (3, .ref (ad v107)), (2, .int (sI a105)), (0, .ref (ad 0)), (1, .int (sI a1))] dX11_seenRefusal_40 (by decide) rfl ?_
        have L428 : ∀ (n426 : Nat), ∀ (a429 : Int), (0 ≤ a429 ∧ a429 ≤ 40 ∧ (40 - a429) < (n426 : Int)) → jj p l e (cn_R 2) s m args below meth c 0 0 Q 5 dC dI ad cA A M0 42 [(0, .ref (ad 0)), (3, .ref (ad v107)), (4, .int (sI a429))] [] := by
          intro n426
          induction n426 with
          | zero =>
            intro a429 h430
            exfalso; omega
          | succ n426 ih427 =>
            intro a429 h430
            refine j_iload C 2 dX11_seenRefusal_42 rfl ?_
            refine j_aload_n C 1 3 dX11_seenRefusal_44 rfl rfl ?_
            refine j_callVi C (d := 1) (As := []) (st := [.int (sI a429)]) v107 (s_lt cv107 rfl) (s_kc (c := 9) cv107 rfl) (by decide) rfl (s1_X10_size hM0 cv107) gX11_seenRefusal_X10_size rfl hdX10_size (by decide) (Nat.le_of_ble_eq_true rfl) dX11_seenRefusal_45 rfl (fun r431 M432 h433 => ?_)
            obtain ⟨a435, rfl, rfl, h434⟩ := h433
            refine y_icmp_ge C 73 dX11_seenRefusal_48 (by decide) (by omega) (fun h436 => ?_) (fun h436 => ?_)
            · refine y_iconst C dX11_seenRefusal_73 ?_
              exact hret _ _ _ _ dX11_seenRefusal_74 ⟨0, rfl, rfl, by omega⟩
            · refine j_aload_n C 0 0 dX11_seenRefusal_51 rfl rfl ?_
              refine j_aload_n C 1 3 dX11_seenRefusal_52 rfl rfl ?_
              refine j_iload C 2 dX11_seenRefusal_53 rfl ?_
              refine j_callVj C (d := 1) (As := [.int (sI a429)]) (st := [.ref (ad 0)]) v107 (s_lt cv107 rfl) (s_kc (c := 9) cv107 rfl) (by decide) rfl (s1_X10_numberAt hM0 cv107 a429 (by omega)) gX11_seenRefusal_X10_numberAt rfl hdX10_numberAt (by decide) (Nat.le_of_ble_eq_true rfl) dX11_seenRefusal_55 rfl (fun r437 M438 h439 => ?_)
              obtain ⟨a441, rfl, rfl, h440⟩ := h439
              refine j_callVi C (d := 0) (As := [.long (sJ a441)]) (st := []) 0 (s_lt rfl rfl) (s_kc (c := 10) rfl rfl) (by decide) rfl (s1_X11_isSight hM0 a441 (by omega)) gX11_seenRefusal_X11_isSight rfl hdX11_isSight (by decide) (Nat.le_of_ble_eq_true rfl) dX11_seenRefusal_58 rfl (fun r442 M443 h444 => ?_)
              obtain ⟨a446, rfl, rfl, h445⟩ := h444
              refine y_if_ne C 67 dX11_seenRefusal_61 (by decide) (by omega) (fun h447 => ?_) (fun h447 => ?_)
              · refine y_iinc C 2 [(4, .int (sI (a429 + 1))), (0, .ref (ad 0)), (3, .ref (ad v107))] dX11_seenRefusal_67 rfl (by decide) rfl ?_
                refine j_goto C 42 dX11_seenRefusal_70 (by decide) ?_
                refine j_lv [1, 2, 0] rfl ?_; exact ih427 (a429 + 1) (by omega)
              · refine y_bipush C dX11_seenRefusal_64 rfl ?_
                exact hret _ _ _ _ dX11_seenRefusal_66 ⟨(-3), rfl, rfl, by omega⟩
        refine j_lv [3, 1, 0] rfl ?_; exact L428 2010 0 (by omega)
      · refine y_bipush C dX11_seenRefusal_36 rfl ?_
        exact hret _ _ _ _ dX11_seenRefusal_38 ⟨(-4), rfl, rfl, by omega⟩
  · refine j_iload_n C 0 2 dX11_seenRefusal_10 rfl rfl ?_
    exact hret _ _ _ _ dX11_seenRefusal_11 ⟨a105, rfl, rfl, by omega⟩
set_option maxHeartbeats 4000000 in
theorem s1_X5_lookEverywhere {l : Launch} {dC : Nat → ClassId} {dI : Nat → Nat → Nat} {ad : Nat → Nat} {cA : Nat → ClassId} {pr : Nat → Nat → Bool} {Kz : mm_M} {M0 : mm_M} (hM0 : INV pr Kz M0) (hpr : PX pr) {v1 : Nat} (cv1 : s_c v1 = 6) {v2 : Nat} (cv2 : s_c v2 = 8) : Cv l 5 yX5_lookEverywhere wsX5_lookEverywhere dC dI ad cA [.ref (ad 88), .ref (ad v1), .ref (ad v2)] M0 (fun M' => INV pr Kz M') := by
  refine cv_of (cc := cX5_lookEverywhere) (maxL := 4) (lv := [(0, .ref (ad 88)), (1, .ref (ad v1)), (2, .ref (ad v2))]) (by decide) rfl (Nat.le_of_ble_eq_true rfl) rfl ?_
  intro p e s m args below meth c A Q C hret
  refine j_aload_n C 0 0 dX5_lookEverywhere_0 rfl rfl ?_
  refine j_aload_n C 1 1 dX5_lookEverywhere_1 rfl rfl ?_
  refine j_aload_n C 2 2 dX5_lookEverywhere_2 rfl rfl ?_
  refine j_aload_n C 2 2 dX5_lookEverywhere_3 rfl rfl ?_
  refine y_getI C 8 _ _ fX5_lookEverywhere_89 cv2 rfl ft_8_4 sb_8_4 hM0 dX5_lookEverywhere_4 (fun a101 ea101 la101 ua101 => ?_)
  refine j_callVv C (d := 1) (As := [.ref (ad v1), .ref (ad v2), .int (sI a101)]) (st := []) 88 (s_lt rfl rfl) (s_kc (c := 4) rfl rfl) (by decide) rfl (s1_X5_aim hM0 hpr cv1 cv2 a101 (by omega)) gX5_lookEverywhere_X5_aim rfl hdX5_aim (by decide) (Nat.le_of_ble_eq_true rfl) dX5_lookEverywhere_7 rfl (fun M104 h105 => ?_)
  have hM104 := h105
  refine y_iconst C dX5_lookEverywhere_10 ?_
  refine j_istore_n C 3 [(3, .int (sI 0)), (0, .ref (ad 88)), (1, .ref (ad v1)), (2, .ref (ad v2))] dX5_lookEverywhere_11 rfl (by decide) rfl ?_
  have L406 : ∀ (n404 : Nat), ∀ (a407 : Int) (M408 : mm_M), (0 ≤ a407 ∧ a407 ≤ 256 ∧ (256 - a407) < (n404 : Int)) → INV pr Kz M408 → jj p l e (cn_R 5) s m args below meth c 0 0 Q 4 dC dI ad cA A M408 12 [(0, .ref (ad 88)), (2, .ref (ad v2)), (3, .int (sI a407))] [] := by
    intro n404
    induction n404 with
    | zero =>
      intro a407 M408 h409 hM408
      exfalso; omega
    | succ n404 ih405 =>
      intro a407 M408 h409 hM408
      refine j_iload_n C 2 3 dX5_lookEverywhere_12 rfl rfl ?_
      refine j_aload_n C 0 0 dX5_lookEverywhere_13 rfl rfl ?_
      refine y_getI C 4 _ _ fX5_lookEverywhere_38 rfl rfl ft_4_11 sb_4_11 hM408 dX5_lookEverywhere_14 (fun a410 ea410 la410 ua410 => ?_)
      refine y_icmp_gt C 35 dX5_lookEverywhere_17 (by decide) (by omega) (fun h412 => ?_) (fun h412 => ?_)
      · exact hret _ _ _ dX5_lookEverywhere_35 hM408
      · refine j_aload_n C 0 0 dX5_lookEverywhere_20 rfl rfl ?_
        refine j_iload_n C 2 3 dX5_lookEverywhere_21 rfl rfl ?_
        refine j_aload_n C 1 2 dX5_lookEverywhere_22 rfl rfl ?_
        refine y_getI C 8 _ _ fX5_lookEverywhere_89 cv2 rfl ft_8_4 sb_8_4 hM408 dX5_lookEverywhere_23 (fun a413 ea413 la413 ua413 => ?_)
        refine j_callVv C (d := 4) (As := [.int (sI a407), .int (sI a413)]) (st := []) 88 (s_lt rfl rfl) (s_kc (c := 4) rfl rfl) (by decide) rfl (s1_X5_meet hM408 hpr a407 (by omega) a413 (by omega) (by omega)) gX5_lookEverywhere_X5_meet rfl hdX5_meet (by decide) (Nat.le_of_ble_eq_true rfl) dX5_lookEverywhere_26 rfl (fun M416 h417 => ?_)
        have hM416 := h417
        refine y_iinc C 2 [(3, .int (sI (a407 + 1))), (0, .ref (ad 88)), (2, .ref (ad v2))] dX5_lookEverywhere_29 rfl (by decide) rfl ?_
        refine j_goto C 12 dX5_lookEverywhere_32 (by decide) ?_
        refine j_lv [1, 2, 0] rfl ?_; exact ih405 (a407 + 1) M416 (by omega) hM416
  refine j_lv [1, 3, 0] rfl ?_; exact L406 2010 0 M104 (by omega) hM104
set_option maxHeartbeats 4000000 in
theorem s1_X5_everyKind {l : Launch} {dC : Nat → ClassId} {dI : Nat → Nat → Nat} {ad : Nat → Nat} {cA : Nat → ClassId} {pr : Nat → Nat → Bool} {Kz : mm_M} {M0 : mm_M} (hM0 : INV pr Kz M0)  : Ci l 0 yX5_everyKind wsX5_everyKind dC dI ad cA [.ref (ad 88)] M0 (fun r M' => ∃ a : Int, r = sI a ∧ M0 = M' ∧ 0 ≤ a ∧ a ≤ 255 ∧ ((a = (M0.1 88 11).toInt))) := by
  refine ci_of (cc := cX5_everyKind) (maxL := 1) (ty := .int) (lv := [(0, .ref (ad 88))]) (by decide) rfl (fun r M' hp => rfl) (Nat.le_of_ble_eq_true rfl) rfl ?_
  intro p e s m args below meth c A Q C hret
  refine j_aload_n C 0 0 dX5_everyKind_0 rfl rfl ?_
  refine y_getI C 4 _ _ fX5_everyKind_38 rfl rfl ft_4_11 sb_4_11 hM0 dX5_everyKind_1 (fun a101 ea101 la101 ua101 => ?_)
  exact hret _ _ _ _ dX5_everyKind_4 ⟨a101, rfl, rfl, by omega⟩
set_option maxHeartbeats 4000000 in
theorem s1_X0_behind {l : Launch} {dC : Nat → ClassId} {dI : Nat → Nat → Nat} {ad : Nat → Nat} {cA : Nat → ClassId} {pr : Nat → Nat → Bool} {Kz : mm_M} {M0 : mm_M} (hM0 : INV pr Kz M0) (a1 : Int) (ha1 : -2147483648 ≤ a1 ∧ a1 ≤ 2147483647) {v2 : Nat} (cv2 : s_c v2 = 9) : Ci l 2 yX0_behind wsX0_behind dC dI ad cA [.ref (ad 95), .int (sI a1), .ref (ad v2)] M0 (fun r M' => ∃ a : Int, r = sI a ∧ M0 = M' ∧ (-2147483648) ≤ a ∧ a ≤ 2147483647) := by
  refine ci_of (cc := cX0_behind) (maxL := 7) (ty := .int) (lv := [(0, .ref (ad 95)), (1, .int (sI a1)), (2, .ref (ad v2))]) (by decide) rfl (fun r M' hp => rfl) (Nat.le_of_ble_eq_true rfl) rfl ?_
  intro p e s m args below meth c A Q C hret
  refine j_iload_n C 1 1 dX0_behind_0 rfl rfl ?_
  refine j_istore_n C 3 [(3, .int (sI a1)), (0, .ref (ad 95)), (1, .int (sI a1)), (2, .ref (ad v2))] dX0_behind_1 rfl (by decide) rfl ?_
  refine y_iconst C dX0_behind_2 ?_
  refine j_istore C 4 [(4, .int (sI 0)), (3, .int (sI a1)), (0, .ref (ad 95)), (1, .int (sI a1)), (2, .ref (ad v2))] dX0_behind_3 (by decide) rfl ?_
  have L630 : ∀ (n628 : Nat), ∀ (a631 : Int) (a632 : Int), ((-2147483648) ≤ a631 ∧ a631 ≤ 2147483647 ∧ 0 ≤ a632 ∧ a632 ≤ 40 ∧ (40 - a632) < (n628 : Int)) → jj p l e (cn_R 2) s m args below meth c 0 0 Q 7 dC dI ad cA A M0 5 [(0, .ref (ad 95)), (2, .ref (ad v2)), (3, .int (sI a631)), (4, .int (sI a632))] [] := by
    intro n628
    induction n628 with
    | zero =>
      intro a631 a632 h633
      exfalso; omega
    | succ n628 ih629 =>
      intro a631 a632 h633
      refine j_iload C 3 dX0_behind_5 rfl ?_
      refine j_aload_n C 1 2 dX0_behind_7 rfl rfl ?_
      refine j_callVi C (d := 1) (As := []) (st := [.int (sI a632)]) v2 (s_lt cv2 rfl) (s_kc (c := 9) cv2 rfl) (by decide) rfl (s1_X10_size hM0 cv2) gX0_behind_X10_size rfl hdX10_size (by decide) (Nat.le_of_ble_eq_true rfl) dX0_behind_8 rfl (fun r634 M635 h636 => ?_)
      obtain ⟨a638, rfl, rfl, h637⟩ := h636
      refine y_icmp_ge C 86 dX0_behind_11 (by decide) (by omega) (fun h639 => ?_) (fun h639 => ?_)
      · refine j_iload_n C 2 3 dX0_behind_86 rfl rfl ?_
        exact hret _ _ _ _ dX0_behind_87 ⟨a631, rfl, rfl, by omega⟩
      · refine j_aload_n C 1 2 dX0_behind_14 rfl rfl ?_
        refine j_iload C 3 dX0_behind_15 rfl ?_
        refine j_callVj C (d := 1) (As := [.int (sI a632)]) (st := []) v2 (s_lt cv2 rfl) (s_kc (c := 9) cv2 rfl) (by decide) rfl (s1_X10_numberAt hM0 cv2 a632 (by omega)) gX0_behind_X10_numberAt rfl hdX10_numberAt (by decide) (Nat.le_of_ble_eq_true rfl) dX0_behind_17 rfl (fun r640 M641 h642 => ?_)
        obtain ⟨a644, rfl, rfl, h643⟩ := h642
        refine y_l2i C dX0_behind_20 ?_
        refine y_topI (fun a645 la645 ua645 => ?_)
        refine j_istore C 5 [(5, .int (sI a645)), (0, .ref (ad 95)), (2, .ref (ad v2)), (3, .int (sI a631)), (4, .int (sI a632))] dX0_behind_21 (by decide) rfl ?_
        refine j_aload_n C 1 0 dX0_behind_23 rfl rfl ?_
        refine y_getC C 0 88 fX0_behind_25 rfl rfl ft_0_0 sm_0_0 rfl hM0 dX0_behind_24 ?_
        refine j_iload_n C 3 3 dX0_behind_27 rfl rfl ?_
        refine j_iload C 0 dX0_behind_28 rfl ?_
        refine y_bipush C dX0_behind_30 rfl ?_
        refine y_idiv0 C dX0_behind_32 (by omega) (fun a646 la646 ua646 => ?_)
        refine j_callVi C (d := 0) (As := [.int (sI a631), .int (sI a646)]) (st := []) 88 (s_lt rfl rfl) (s_kc (c := 4) rfl rfl) (by decide) rfl (s1_X5_pick hM0 a631 (by omega) a646 (by omega)) gX0_behind_X5_pick rfl hdX5_pick (by decide) (Nat.le_of_ble_eq_true rfl) dX0_behind_33 rfl (fun r647 M648 h649 => ?_)
        obtain ⟨a651, rfl, rfl, h650⟩ := h649
        refine j_istore C 6 [(6, .int (sI a651)), (5, .int (sI a645)), (0, .ref (ad 95)), (2, .ref (ad v2)), (3, .int (sI a631)), (4, .int (sI a632))] dX0_behind_36 (by decide) rfl ?_
        refine j_iload C 0 dX0_behind_38 rfl ?_
        refine j_iload C 1 dX0_behind_40 rfl ?_
        refine y_bipush C dX0_behind_42 rfl ?_
        refine y_iremS C dX0_behind_44 (by omega) (fun a652 la652 ua652 ha652 => ?_)
        refine y_bipush C dX0_behind_45 rfl ?_
        have J656 : ∀ (a655 : Int), ((-9) ≤ a655 ∧ a655 ≤ 9) → jj p l e (cn_R 2) s m args below meth c 0 0 Q 7 dC dI ad cA A M0 59 [(0, .ref (ad 95)), (2, .ref (ad v2)), (3, .int (sI a631)), (4, .int (sI a632)), (6, .int (sI a651))] [.int (sI a655), .int (sI a651)] := by
          intro a655 h657
          refine y_icmp_eq C 64 dX0_behind_59 (by decide) (by omega) (fun h658 => ?_) (fun h658 => ?_)
          · refine j_iload_n C 2 3 dX0_behind_64 rfl rfl ?_
            refine j_iload C 4 dX0_behind_65 rfl ?_
            refine y_if_lt C 77 dX0_behind_67 (by decide) (by omega) (fun h659 => ?_) (fun h659 => ?_)
            · refine y_iconst C dX0_behind_77 ?_
              refine y_ior0 C dX0_behind_78 (fun a660 la660 ua660 => ?_)
              refine j_istore_n C 3 [(3, .int (sI a660)), (0, .ref (ad 95)), (2, .ref (ad v2)), (4, .int (sI a632)), (6, .int (sI a651))] dX0_behind_79 rfl (by decide) rfl ?_
              refine y_iinc C 3 [(4, .int (sI (a632 + 1))), (3, .int (sI a660)), (0, .ref (ad 95)), (2, .ref (ad v2)), (6, .int (sI a651))] dX0_behind_80 rfl (by decide) rfl ?_
              refine j_goto C 5 dX0_behind_83 (by decide) ?_
              refine j_lv [2, 3, 1, 0] rfl ?_; exact ih629 a660 (a632 + 1) (by omega)
            · refine y_iconst C dX0_behind_70 ?_
              refine j_iload C 4 dX0_behind_71 rfl ?_
              refine y_shl1 C 7 128 dX0_behind_73 rfl (by decide) (by omega) (fun a661 la661 ua661 => ?_)
              refine j_goto C 78 dX0_behind_74 (by decide) ?_
              refine y_ior0 C dX0_behind_78 (fun a662 la662 ua662 => ?_)
              refine j_istore_n C 3 [(3, .int (sI a662)), (0, .ref (ad 95)), (2, .ref (ad v2)), (4, .int (sI a632)), (6, .int (sI a651))] dX0_behind_79 rfl (by decide) rfl ?_
              refine y_iinc C 3 [(4, .int (sI (a632 + 1))), (3, .int (sI a662)), (0, .ref (ad 95)), (2, .ref (ad v2)), (6, .int (sI a651))] dX0_behind_80 rfl (by decide) rfl ?_
              refine j_goto C 5 dX0_behind_83 (by decide) ?_
              refine j_lv [2, 3, 1, 0] rfl ?_; exact ih629 a662 (a632 + 1) (by omega)
          · refine y_iconst C dX0_behind_62 ?_
            exact hret _ _ _ _ dX0_behind_63 ⟨(-1), rfl, rfl, by omega⟩
        refine y_icmp_ne C 54 dX0_behind_47 (by decide) (by omega) (fun h653 => ?_) (fun h653 => ?_)
        · refine j_iload C 1 dX0_behind_54 rfl ?_
          refine y_bipush C dX0_behind_56 rfl ?_
          refine y_iremS C dX0_behind_58 (by omega) (fun a654 la654 ua654 ha654 => ?_)
          refine j_lv [2, 3, 4, 5, 0] rfl ?_; exact J656 a654 (by omega)
        · refine y_iconst C dX0_behind_50 ?_
          refine j_goto C 59 dX0_behind_51 (by decide) ?_
          refine j_lv [2, 3, 4, 5, 0] rfl ?_; exact J656 (-1) (by omega)
  refine j_lv [2, 4, 1, 0] rfl ?_; exact L630 4294967306 a1 0 (by omega)
set_option maxHeartbeats 4000000 in
theorem s1_X0_gather {l : Launch} {dC : Nat → ClassId} {dI : Nat → Nat → Nat} {ad : Nat → Nat} {cA : Nat → ClassId} {pr : Nat → Nat → Bool} {Kz : mm_M} {M0 : mm_M} (hM0 : INV pr Kz M0) (hpr : PX pr) {v1 : Nat} (cv1 : s_c v1 = 9) : Cv l 3 yX0_gather wsX0_gather dC dI ad cA [.ref (ad 95), .ref (ad v1)] M0 (fun M' => INV pr Kz M') := by
  refine cv_of (cc := cX0_gather) (maxL := 3) (lv := [(0, .ref (ad 95)), (1, .ref (ad v1))]) (by decide) rfl (Nat.le_of_ble_eq_true rfl) rfl ?_
  intro p e s m args below meth c A Q C hret
  refine j_aload_n C 0 0 dX0_gather_0 rfl rfl ?_
  refine y_iconst C dX0_gather_1 ?_
  refine y_putIF C 0 qX0_gather_18 rfl rfl ft_0_3 sb_0_3 hM0 (PX.w hpr rfl rfl) dX0_gather_2 (fun M101 eM101 hM101 => ?_)
  refine j_aload_n C 0 0 dX0_gather_5 rfl rfl ?_
  refine j_aload_n C 0 0 dX0_gather_6 rfl rfl ?_
  refine y_getC C 0 88 fX0_gather_25 rfl rfl ft_0_0 sm_0_0 rfl hM101 dX0_gather_7 ?_
  refine j_callVi C (d := 0) (As := []) (st := [.ref (ad 95)]) 88 (s_lt rfl rfl) (s_kc (c := 4) rfl rfl) (by decide) rfl (s1_X5_everyKind hM101) gX0_gather_X5_everyKind rfl hdX5_everyKind (by decide) (Nat.le_of_ble_eq_true rfl) dX0_gather_10 rfl (fun r102 M103 h104 => ?_)
  obtain ⟨a106, rfl, rfl, h105⟩ := h104
  refine y_putIF C 0 qX0_gather_22 rfl rfl ft_0_4 sb_0_4 hM101 (PX.w hpr rfl rfl) dX0_gather_13 (fun M107 eM107 hM107 => ?_)
  refine y_iconst C dX0_gather_16 ?_
  refine j_istore_n C 2 [(2, .int (sI 0)), (0, .ref (ad 95)), (1, .ref (ad v1))] dX0_gather_17 rfl (by decide) rfl ?_
  have L758 : ∀ (n756 : Nat), ∀ (a759 : Int) (M760 : mm_M), (0 ≤ a759 ∧ a759 ≤ 256 ∧ (256 - a759) < (n756 : Int)) → INV pr Kz M760 → jj p l e (cn_R 3) s m args below meth c 0 0 Q 3 dC dI ad cA A M760 18 [(0, .ref (ad 95)), (1, .ref (ad v1)), (2, .int (sI a759))] [] := by
    intro n756
    induction n756 with
    | zero =>
      intro a759 M760 h761 hM760
      exfalso; omega
    | succ n756 ih757 =>
      intro a759 M760 h761 hM760
      refine j_iload_n C 2 2 dX0_gather_18 rfl rfl ?_
      refine j_aload_n C 0 0 dX0_gather_19 rfl rfl ?_
      refine y_getC C 0 88 fX0_gather_25 rfl rfl ft_0_0 sm_0_0 rfl hM760 dX0_gather_20 ?_
      refine j_callVi C (d := 0) (As := []) (st := [.int (sI a759)]) 88 (s_lt rfl rfl) (s_kc (c := 4) rfl rfl) (by decide) rfl (s1_X5_everyKind hM760) gX0_gather_X5_everyKind rfl hdX5_everyKind (by decide) (Nat.le_of_ble_eq_true rfl) dX0_gather_23 rfl (fun r762 M763 h764 => ?_)
      obtain ⟨a766, rfl, rfl, h765⟩ := h764
      refine y_icmp_gt C 77 dX0_gather_26 (by decide) (by omega) (fun h767 => ?_) (fun h767 => ?_)
      · exact hret _ _ _ dX0_gather_77 hM760
      · refine j_aload_n C 0 0 dX0_gather_29 rfl rfl ?_
        refine y_getC C 0 96 fX0_gather_9 rfl rfl ft_0_1 sm_0_1 rfl hM760 dX0_gather_30 ?_
        refine j_iload_n C 2 2 dX0_gather_33 rfl rfl ?_
        refine j_aload_n C 0 0 dX0_gather_34 rfl rfl ?_
        refine j_iload_n C 2 2 dX0_gather_35 rfl rfl ?_
        refine j_aload_n C 1 1 dX0_gather_36 rfl rfl ?_
        refine j_callVi C (d := 2) (As := [.int (sI a759), .ref (ad v1)]) (st := [.int (sI a759), .ref (ad 96)]) 95 (s_lt rfl rfl) (s_kc (c := 0) rfl rfl) (by decide) rfl (s1_X0_behind hM760 a759 (by omega) cv1) gX0_gather_X0_behind rfl hdX0_behind (by decide) (Nat.le_of_ble_eq_true rfl) dX0_gather_37 rfl (fun r768 M769 h770 => ?_)
        obtain ⟨a772, rfl, rfl, h771⟩ := h770
        refine y_iastF C 43 256 rfl rfl rfl ak_43 an_43 rfl (sb_43 _) hM760 (PX.w hpr rfl rfl) dX0_gather_40 (by omega) (fun M773 eM773 hM773 => ?_)
        refine j_aload_n C 0 0 dX0_gather_41 rfl rfl ?_
        refine y_getC C 0 96 fX0_gather_9 rfl rfl ft_0_1 sm_0_1 rfl hM773 dX0_gather_42 ?_
        refine j_iload_n C 2 2 dX0_gather_45 rfl rfl ?_
        refine y_iald C 43 256 _ _ rfl rfl rfl ak_43 an_43 rfl (sb_43 _) hM773 dX0_gather_46 (by omega) (fun a774 ea774 la774 ua774 => ?_)
        refine y_iconst C dX0_gather_47 ?_
        refine y_icmp_eq C 71 dX0_gather_48 (by decide) (by omega) (fun h775 => ?_) (fun h775 => ?_)
        · refine y_iinc C 2 [(2, .int (sI (a759 + 1))), (0, .ref (ad 95)), (1, .ref (ad v1))] dX0_gather_71 rfl (by decide) rfl ?_
          refine j_goto C 18 dX0_gather_74 (by decide) ?_
          refine j_lv [1, 2, 0] rfl ?_; exact ih757 (a759 + 1) M773 (by omega) hM773
        · refine j_aload_n C 0 0 dX0_gather_51 rfl rfl ?_
          refine j_dup C dX0_gather_52 rfl ?_
          refine y_getI C 0 _ _ fX0_gather_18 rfl rfl ft_0_3 sb_0_3 hM773 dX0_gather_53 (fun a776 ea776 la776 ua776 => ?_)
          refine y_iconst C dX0_gather_56 ?_
          refine y_iadd0 C dX0_gather_57 (fun a778 la778 ua778 => ?_)
          refine y_putIF C 0 qX0_gather_18 rfl rfl ft_0_3 sb_0_3 hM773 (PX.w hpr rfl rfl) dX0_gather_58 (fun M779 eM779 hM779 => ?_)
          refine j_aload_n C 0 0 dX0_gather_61 rfl rfl ?_
          refine j_dup C dX0_gather_62 rfl ?_
          refine y_getI C 0 _ _ fX0_gather_22 rfl rfl ft_0_4 sb_0_4 hM779 dX0_gather_63 (fun a780 ea780 la780 ua780 => ?_)
          refine j_iload_n C 2 2 dX0_gather_66 rfl rfl ?_
          refine y_iandR C dX0_gather_67 (by omega) (fun a782 la782 ua782 => ?_)
          refine y_putIF C 0 qX0_gather_22 rfl rfl ft_0_4 sb_0_4 hM779 (PX.w hpr rfl rfl) dX0_gather_68 (fun M783 eM783 hM783 => ?_)
          refine y_iinc C 2 [(2, .int (sI (a759 + 1))), (0, .ref (ad 95)), (1, .ref (ad v1))] dX0_gather_71 rfl (by decide) rfl ?_
          refine j_goto C 18 dX0_gather_74 (by decide) ?_
          refine j_lv [1, 2, 0] rfl ?_; exact ih757 (a759 + 1) M783 (by omega) hM783
  refine j_lv [1, 2, 0] rfl ?_; exact L758 2010 0 M107 (by omega) hM107
set_option maxHeartbeats 4000000 in
theorem s1_X11_seen {l : Launch} {dC : Nat → ClassId} {dI : Nat → Nat → Nat} {ad : Nat → Nat} {cA : Nat → ClassId} {pr : Nat → Nat → Bool} {Kz : mm_M} {M0 : mm_M} (hM0 : INV pr Kz M0) (hpr : PX pr) (a1 : Int) (ha1 : -2147483648 ≤ a1 ∧ a1 ≤ 2147483647) : Ci l 6 yX11_seen wsX11_seen dC dI ad cA [.ref (ad 0), .int (sI a1)] M0 (fun r M' => ∃ a : Int, r = sI a ∧ INV pr Kz M' ∧ (-2147483648) ≤ a ∧ a ≤ 2147483647) := by
  refine ci_of (cc := cX11_seen) (maxL := 3) (ty := .int) (lv := [(0, .ref (ad 0)), (1, .int (sI a1))]) (by decide) rfl (fun r M' hp => rfl) (Nat.le_of_ble_eq_true rfl) rfl ?_
  intro p e s m args below meth c A Q C hret
  refine j_aload_n C 0 0 dX11_seen_0 rfl rfl ?_
  refine j_iload_n C 1 1 dX11_seen_1 rfl rfl ?_
  refine j_callVi C (d := 2) (As := [.int (sI a1)]) (st := []) 0 (s_lt rfl rfl) (s_kc (c := 10) rfl rfl) (by decide) rfl (s1_X11_seenRefusal hM0 a1 (by omega)) gX11_seen_X11_seenRefusal rfl hdX11_seenRefusal (by decide) (Nat.le_of_ble_eq_true rfl) dX11_seen_2 rfl (fun r101 M102 h103 => ?_)
  obtain ⟨a105, rfl, rfl, h104⟩ := h103
  refine j_istore_n C 2 [(2, .int (sI a105)), (0, .ref (ad 0)), (1, .int (sI a1))] dX11_seen_5 rfl (by decide) rfl ?_
  refine j_iload_n C 0 2 dX11_seen_6 rfl rfl ?_
  refine y_if_eq C 12 dX11_seen_7 (by decide) (by omega) (fun h106 => ?_) (fun h106 => ?_)
  · refine j_aload_n C 1 0 dX11_seen_12 rfl rfl ?_
    refine y_getC C 10 88 fX11_seen_94 rfl rfl ft_10_14 sm_10_14 rfl hM0 dX11_seen_13 ?_
    refine j_aload_n C 1 0 dX11_seen_16 rfl rfl ?_
    refine y_getM C 10 6 fX11_seen_26 rfl rfl ft_10_4 sm_10_4 (by decide) hM0 dX11_seen_17 (fun v107 ev107 cv107 => ?_)
    refine j_aload_n C 1 0 dX11_seen_20 rfl rfl ?_
    refine y_getC C 10 12 fX11_seen_36 rfl rfl ft_10_6 sm_10_6 rfl hM0 dX11_seen_21 ?_
    refine j_callVv C (d := 5) (As := [.ref (ad v107), .ref (ad 12)]) (st := []) 88 (s_lt rfl rfl) (s_kc (c := 4) rfl rfl) (by decide) rfl (s1_X5_lookEverywhere hM0 hpr cv107 rfl) gX11_seen_X5_lookEverywhere rfl hdX5_lookEverywhere (by decide) (Nat.le_of_ble_eq_true rfl) dX11_seen_24 rfl (fun M109 h110 => ?_)
    have hM109 := h110
    refine j_aload_n C 1 0 dX11_seen_27 rfl rfl ?_
    refine y_getC C 10 95 fX11_seen_103 rfl rfl ft_10_15 sm_10_15 rfl hM109 dX11_seen_28 ?_
    refine j_aload_n C 1 0 dX11_seen_31 rfl rfl ?_
    refine y_getC C 10 50 fX11_seen_52 rfl rfl ft_10_9 sm_10_9 rfl hM109 dX11_seen_32 ?_
    refine j_iload_n C 2 1 dX11_seen_35 rfl rfl ?_
    refine y_aald C 28 4 9 rfl rfl rfl rfl an_28 rfl sma_28 sta_28 (by decide) hM109 dX11_seen_36 (by omega) (fun v112 cv112 => ?_)
    refine j_callVv C (d := 3) (As := [.ref (ad v112)]) (st := []) 95 (s_lt rfl rfl) (s_kc (c := 0) rfl rfl) (by decide) rfl (s1_X0_gather hM109 hpr cv112) gX11_seen_X0_gather rfl hdX0_gather (by decide) (Nat.le_of_ble_eq_true rfl) dX11_seen_37 rfl (fun M114 h115 => ?_)
    have hM114 := h115
    refine j_aload_n C 1 0 dX11_seen_40 rfl rfl ?_
    refine y_getC C 10 95 fX11_seen_103 rfl rfl ft_10_15 sm_10_15 rfl hM114 dX11_seen_41 ?_
    refine y_getI C 0 _ _ fX11_seen_354 rfl rfl ft_0_3 sb_0_3 hM114 dX11_seen_44 (fun a117 ea117 la117 ua117 => ?_)
    exact hret _ _ _ _ dX11_seen_47 ⟨a117, rfl, hM114, by omega⟩
  · refine j_iload_n C 0 2 dX11_seen_10 rfl rfl ?_
    exact hret _ _ _ _ dX11_seen_11 ⟨a105, rfl, hM0, by omega⟩
set_option maxHeartbeats 4000000 in
theorem s1_X11_sureGone {l : Launch} {dC : Nat → ClassId} {dI : Nat → Nat → Nat} {ad : Nat → Nat} {cA : Nat → ClassId} {pr : Nat → Nat → Bool} {Kz : mm_M} {M0 : mm_M} (hM0 : INV pr Kz M0) (hpr : PX pr) (a1 : Int) (ha1 : -2147483648 ≤ a1 ∧ a1 ≤ 2147483647) : Ci l 6 yX11_sureGone wsX11_sureGone dC dI ad cA [.ref (ad 0), .int (sI a1)] M0 (fun r M' => ∃ a : Int, r = sI a ∧ INV pr Kz M' ∧ (-2147483648) ≤ a ∧ a ≤ 2147483647) := by
  refine ci_of (cc := cX11_sureGone) (maxL := 3) (ty := .int) (lv := [(0, .ref (ad 0)), (1, .int (sI a1))]) (by decide) rfl (fun r M' hp => rfl) (Nat.le_of_ble_eq_true rfl) rfl ?_
  intro p e s m args below meth c A Q C hret
  refine j_aload_n C 0 0 dX11_sureGone_0 rfl rfl ?_
  refine j_iload_n C 1 1 dX11_sureGone_1 rfl rfl ?_
  refine j_callVi C (d := 2) (As := [.int (sI a1)]) (st := []) 0 (s_lt rfl rfl) (s_kc (c := 10) rfl rfl) (by decide) rfl (s1_X11_seenRefusal hM0 a1 (by omega)) gX11_sureGone_X11_seenRefusal rfl hdX11_seenRefusal (by decide) (Nat.le_of_ble_eq_true rfl) dX11_sureGone_2 rfl (fun r101 M102 h103 => ?_)
  obtain ⟨a105, rfl, rfl, h104⟩ := h103
  refine j_istore_n C 2 [(2, .int (sI a105)), (0, .ref (ad 0)), (1, .int (sI a1))] dX11_sureGone_5 rfl (by decide) rfl ?_
  refine j_iload_n C 0 2 dX11_sureGone_6 rfl rfl ?_
  refine y_if_eq C 12 dX11_sureGone_7 (by decide) (by omega) (fun h106 => ?_) (fun h106 => ?_)
  · refine j_aload_n C 1 0 dX11_sureGone_12 rfl rfl ?_
    refine y_getC C 10 88 fX11_sureGone_94 rfl rfl ft_10_14 sm_10_14 rfl hM0 dX11_sureGone_13 ?_
    refine j_aload_n C 1 0 dX11_sureGone_16 rfl rfl ?_
    refine y_getM C 10 6 fX11_sureGone_26 rfl rfl ft_10_4 sm_10_4 (by decide) hM0 dX11_sureGone_17 (fun v107 ev107 cv107 => ?_)
    refine j_aload_n C 1 0 dX11_sureGone_20 rfl rfl ?_
    refine y_getC C 10 12 fX11_sureGone_36 rfl rfl ft_10_6 sm_10_6 rfl hM0 dX11_sureGone_21 ?_
    refine j_callVv C (d := 5) (As := [.ref (ad v107), .ref (ad 12)]) (st := []) 88 (s_lt rfl rfl) (s_kc (c := 4) rfl rfl) (by decide) rfl (s1_X5_lookEverywhere hM0 hpr cv107 rfl) gX11_sureGone_X5_lookEverywhere rfl hdX5_lookEverywhere (by decide) (Nat.le_of_ble_eq_true rfl) dX11_sureGone_24 rfl (fun M109 h110 => ?_)
    have hM109 := h110
    refine j_aload_n C 1 0 dX11_sureGone_27 rfl rfl ?_
    refine y_getC C 10 95 fX11_sureGone_103 rfl rfl ft_10_15 sm_10_15 rfl hM109 dX11_sureGone_28 ?_
    refine j_aload_n C 1 0 dX11_sureGone_31 rfl rfl ?_
    refine y_getC C 10 50 fX11_sureGone_52 rfl rfl ft_10_9 sm_10_9 rfl hM109 dX11_sureGone_32 ?_
    refine j_iload_n C 2 1 dX11_sureGone_35 rfl rfl ?_
    refine y_aald C 28 4 9 rfl rfl rfl rfl an_28 rfl sma_28 sta_28 (by decide) hM109 dX11_sureGone_36 (by omega) (fun v112 cv112 => ?_)
    refine j_callVv C (d := 3) (As := [.ref (ad v112)]) (st := []) 95 (s_lt rfl rfl) (s_kc (c := 0) rfl rfl) (by decide) rfl (s1_X0_gather hM109 hpr cv112) gX11_sureGone_X0_gather rfl hdX0_gather (by decide) (Nat.le_of_ble_eq_true rfl) dX11_sureGone_37 rfl (fun M114 h115 => ?_)
    have hM114 := h115
    refine j_aload_n C 1 0 dX11_sureGone_40 rfl rfl ?_
    refine y_getC C 10 95 fX11_sureGone_103 rfl rfl ft_10_15 sm_10_15 rfl hM114 dX11_sureGone_41 ?_
    refine y_getI C 0 _ _ fX11_sureGone_354 rfl rfl ft_0_3 sb_0_3 hM114 dX11_sureGone_44 (fun a117 ea117 la117 ua117 => ?_)
    refine y_if_ne C 54 dX11_sureGone_47 (by decide) (by omega) (fun h119 => ?_) (fun h119 => ?_)
    · refine j_aload_n C 1 0 dX11_sureGone_54 rfl rfl ?_
      refine y_getC C 10 95 fX11_sureGone_103 rfl rfl ft_10_15 sm_10_15 rfl hM114 dX11_sureGone_55 ?_
      refine y_getI C 0 _ _ fX11_sureGone_357 rfl rfl ft_0_4 sb_0_4 hM114 dX11_sureGone_58 (fun a120 ea120 la120 ua120 => ?_)
      exact hret _ _ _ _ dX11_sureGone_61 ⟨a120, rfl, hM114, by omega⟩
    · refine y_iconst C dX11_sureGone_50 ?_
      refine j_goto C 61 dX11_sureGone_51 (by decide) ?_
      exact hret _ _ _ _ dX11_sureGone_61 ⟨0, rfl, hM114, by omega⟩
  · refine j_iload_n C 0 2 dX11_sureGone_10 rfl rfl ?_
    exact hret _ _ _ _ dX11_sureGone_11 ⟨a105, rfl, hM0, by omega⟩
set_option maxHeartbeats 4000000 in
theorem s1_X5_buyers {l : Launch} {dC : Nat → ClassId} {dI : Nat → Nat → Nat} {ad : Nat → Nat} {cA : Nat → ClassId} {pr : Nat → Nat → Bool} {Kz : mm_M} {M0 : mm_M} (hM0 : INV pr Kz M0)  : Ci l 0 yX5_buyers wsX5_buyers dC dI ad cA [.ref (ad 88)] M0 (fun r M' => ∃ a : Int, r = sI a ∧ M0 = M' ∧ 0 ≤ a ∧ a ≤ 6 ∧ ((0 ≤ a ∧ a ≤ 6))) := by
  refine ci_of (cc := cX5_buyers) (maxL := 1) (ty := .int) (lv := [(0, .ref (ad 88))]) (by decide) rfl (fun r M' hp => rfl) (Nat.le_of_ble_eq_true rfl) rfl ?_
  intro p e s m args below meth c A Q C hret
  refine j_aload_n C 0 0 dX5_buyers_0 rfl rfl ?_
  refine y_getM C 4 6 fX5_buyers_52 rfl rfl ft_4_9 sm_4_9 (by decide) hM0 dX5_buyers_1 (fun v101 ev101 cv101 => ?_)
  refine y_getI C 6 _ _ fX5_buyers_92 cv101 rfl ft_6_0 sb_6_0 hM0 dX5_buyers_4 (fun a102 ea102 la102 ua102 => ?_)
  exact hret _ _ _ _ dX5_buyers_7 ⟨a102, rfl, rfl, by omega⟩
set_option maxHeartbeats 4000000 in
theorem s3_J7_fill_53178 {l : Launch} {dC : Nat → ClassId} {dI : Nat → Nat → Nat} {ad : Nat → Nat} {cA : Nat → ClassId} {pr : Nat → Nat → Bool} {Kz : mm_M} {M0 : mm_M} (hM0 : INV pr Kz M0) (hpr : PX pr) (a1 : Int) (ha1 : -2147483648 ≤ a1 ∧ a1 ≤ 2147483647) : Cv l 0 yJ7_fill_53178 wsJ7_fill_53178 dC dI ad cA [.ref (ad 97), .int (sI a1)] M0 (fun M' => INV pr Kz M') := by
  refine cv_of (cc := cJ7_fill_53178) (maxL := 4) (lv := [(0, .ref (ad 97)), (1, .int (sI a1))]) (by decide) rfl (Nat.le_of_ble_eq_true rfl) rfl ?_
  intro p e s m args below meth c A Q C hret
  refine y_iconst C dJ7_fill_53178_0 ?_
  refine j_istore_n C 2 [(2, .int (sI 0)), (0, .ref (ad 97)), (1, .int (sI a1))] dJ7_fill_53178_1 rfl (by decide) rfl ?_
  refine j_aload_n C 1 0 dJ7_fill_53178_2 rfl rfl ?_
  refine y_alen C 44 10 rfl rfl rfl an_44 rfl rfl dJ7_fill_53178_3 ?_
  refine j_istore_n C 3 [(3, .int (sI 10)), (2, .int (sI 0)), (0, .ref (ad 97)), (1, .int (sI a1))] dJ7_fill_53178_4 rfl (by decide) rfl ?_
  have L147 : ∀ (n145 : Nat), ∀ (a148 : Int) (M149 : mm_M), (0 ≤ a148 ∧ a148 ≤ 10 ∧ (10 - a148) < (n145 : Int)) → INV pr Kz M149 → jj p l e (cn_R 0) s m args below meth c 0 0 Q 4 dC dI ad cA A M149 5 [(0, .ref (ad 97)), (1, .int (sI a1)), (2, .int (sI a148)), (3, .int (sI 10))] [] := by
    intro n145
    induction n145 with
    | zero =>
      intro a148 M149 h150 hM149
      exfalso; omega
    | succ n145 ih146 =>
      intro a148 M149 h150 hM149
      refine j_iload_n C 2 2 dJ7_fill_53178_5 rfl rfl ?_
      refine j_iload_n C 3 3 dJ7_fill_53178_6 rfl rfl ?_
      refine y_icmp_ge C 20 dJ7_fill_53178_7 (by decide) (by omega) (fun h151 => ?_) (fun h151 => ?_)
      · exact hret _ _ _ dJ7_fill_53178_20 hM149
      · refine j_aload_n C 0 0 dJ7_fill_53178_10 rfl rfl ?_
        refine j_iload_n C 2 2 dJ7_fill_53178_11 rfl rfl ?_
        refine j_iload_n C 1 1 dJ7_fill_53178_12 rfl rfl ?_
        refine y_iastF C 44 10 rfl rfl rfl ak_44 an_44 rfl (sb_44 _) hM149 (PX.w hpr rfl rfl) dJ7_fill_53178_13 (by omega) (fun M152 eM152 hM152 => ?_)
        refine y_iinc C 2 [(2, .int (sI (a148 + 1))), (0, .ref (ad 97)), (1, .int (sI a1)), (3, .int (sI 10))] dJ7_fill_53178_14 rfl (by decide) rfl ?_
        refine j_goto C 5 dJ7_fill_53178_17 (by decide) ?_
        refine j_lv [1, 2, 0, 3] rfl ?_; exact ih146 (a148 + 1) M152 (by omega) hM152
  refine j_lv [2, 3, 1, 0] rfl ?_; exact L147 2010 0 M0 (by omega) hM0
set_option maxHeartbeats 4000000 in
theorem s1_X0_mostAlike {l : Launch} {dC : Nat → ClassId} {dI : Nat → Nat → Nat} {ad : Nat → Nat} {cA : Nat → ClassId} {pr : Nat → Nat → Bool} {Kz : mm_M} {M0 : mm_M} (hM0 : INV pr Kz M0) (hpr : PX pr) (a1 : Int) (ha1 : -2147483648 ≤ a1 ∧ a1 ≤ 2147483647) : Ci l 1 yX0_mostAlike wsX0_mostAlike dC dI ad cA [.ref (ad 95), .int (sI a1)] M0 (fun r M' => ∃ a : Int, r = sI a ∧ INV pr Kz M' ∧ 0 ≤ a ∧ a ≤ 2147483647) := by
  refine ci_of (cc := cX0_mostAlike) (maxL := 6) (ty := .int) (lv := [(0, .ref (ad 95)), (1, .int (sI a1))]) (by decide) rfl (fun r M' hp => rfl) (Nat.le_of_ble_eq_true rfl) rfl ?_
  intro p e s m args below meth c A Q C hret
  refine j_aload_n C 0 0 dX0_mostAlike_0 rfl rfl ?_
  refine y_getC C 0 97 fX0_mostAlike_15 rfl rfl ft_0_2 sm_0_2 rfl hM0 dX0_mostAlike_1 ?_
  refine y_iconst C dX0_mostAlike_4 ?_
  refine j_callSv C (d := 0) (As := [.ref (ad 97), .int (sI 0)]) (st := []) (s3_J7_fill_53178 hM0 hpr 0 (by omega)) gX0_mostAlike_J7_fill_53178 rfl hdJ7_fill_53178s (by decide) (Nat.le_of_ble_eq_true rfl) dX0_mostAlike_5 rfl (fun M102 h103 => ?_)
  have hM102 := h103
  refine y_iconst C dX0_mostAlike_8 ?_
  refine j_istore_n C 2 [(2, .int (sI 0)), (0, .ref (ad 95)), (1, .int (sI a1))] dX0_mostAlike_9 rfl (by decide) rfl ?_
  refine y_iconst C dX0_mostAlike_10 ?_
  refine j_istore_n C 3 [(3, .int (sI 0)), (2, .int (sI 0)), (0, .ref (ad 95)), (1, .int (sI a1))] dX0_mostAlike_11 rfl (by decide) rfl ?_
  have L809 : ∀ (n807 : Nat), ∀ (a810 : Int) (a811 : Int) (M812 : mm_M), (0 ≤ a810 ∧ a810 ≤ 2147483647 ∧ 0 ≤ a811 ∧ a811 ≤ 256 ∧ (256 - a811) < (n807 : Int)) → INV pr Kz M812 → jj p l e (cn_R 1) s m args below meth c 0 0 Q 6 dC dI ad cA A M812 12 [(0, .ref (ad 95)), (1, .int (sI a1)), (2, .int (sI a810)), (3, .int (sI a811))] [] := by
    intro n807
    induction n807 with
    | zero =>
      intro a810 a811 M812 h813 hM812
      exfalso; omega
    | succ n807 ih808 =>
      intro a810 a811 M812 h813 hM812
      refine j_iload_n C 3 3 dX0_mostAlike_12 rfl rfl ?_
      refine j_aload_n C 0 0 dX0_mostAlike_13 rfl rfl ?_
      refine y_getC C 0 88 fX0_mostAlike_25 rfl rfl ft_0_0 sm_0_0 rfl hM812 dX0_mostAlike_14 ?_
      refine j_callVi C (d := 0) (As := []) (st := [.int (sI a811)]) 88 (s_lt rfl rfl) (s_kc (c := 4) rfl rfl) (by decide) rfl (s1_X5_everyKind hM812) gX0_mostAlike_X5_everyKind rfl hdX5_everyKind (by decide) (Nat.le_of_ble_eq_true rfl) dX0_mostAlike_17 rfl (fun r814 M815 h816 => ?_)
      obtain ⟨a818, rfl, rfl, h817⟩ := h816
      refine y_icmp_gt C 92 dX0_mostAlike_20 (by decide) (by omega) (fun h819 => ?_) (fun h819 => ?_)
      · refine j_iload_n C 2 2 dX0_mostAlike_92 rfl rfl ?_
        exact hret _ _ _ _ dX0_mostAlike_93 ⟨a810, rfl, hM812, by omega⟩
      · refine j_aload_n C 0 0 dX0_mostAlike_23 rfl rfl ?_
        refine y_getC C 0 96 fX0_mostAlike_9 rfl rfl ft_0_1 sm_0_1 rfl hM812 dX0_mostAlike_24 ?_
        refine j_iload_n C 3 3 dX0_mostAlike_27 rfl rfl ?_
        refine y_iald C 43 256 _ _ rfl rfl rfl ak_43 an_43 rfl (sb_43 _) hM812 dX0_mostAlike_28 (by omega) (fun a820 ea820 la820 ua820 => ?_)
        refine y_iconst C dX0_mostAlike_29 ?_
        refine y_icmp_eq C 86 dX0_mostAlike_30 (by decide) (by omega) (fun h821 => ?_) (fun h821 => ?_)
        · refine y_iinc C 3 [(3, .int (sI (a811 + 1))), (0, .ref (ad 95)), (1, .int (sI a1)), (2, .int (sI a810))] dX0_mostAlike_86 rfl (by decide) rfl ?_
          refine j_goto C 12 dX0_mostAlike_89 (by decide) ?_
          refine j_lv [1, 2, 3, 0] rfl ?_; exact ih808 a810 (a811 + 1) M812 (by omega) hM812
        · refine j_aload_n C 0 0 dX0_mostAlike_33 rfl rfl ?_
          refine y_getC C 0 88 fX0_mostAlike_25 rfl rfl ft_0_0 sm_0_0 rfl hM812 dX0_mostAlike_34 ?_
          refine j_aload_n C 0 0 dX0_mostAlike_37 rfl rfl ?_
          refine y_getC C 0 96 fX0_mostAlike_9 rfl rfl ft_0_1 sm_0_1 rfl hM812 dX0_mostAlike_38 ?_
          refine j_iload_n C 3 3 dX0_mostAlike_41 rfl rfl ?_
          refine y_iald C 43 256 _ _ rfl rfl rfl ak_43 an_43 rfl (sb_43 _) hM812 dX0_mostAlike_42 (by omega) (fun a822 ea822 la822 ua822 => ?_)
          refine j_iload_n C 1 1 dX0_mostAlike_43 rfl rfl ?_
          refine j_callVi C (d := 0) (As := [.int (sI a822), .int (sI a1)]) (st := []) 88 (s_lt rfl rfl) (s_kc (c := 4) rfl rfl) (by decide) rfl (s1_X5_pick hM812 a822 (by omega) a1 (by omega)) gX0_mostAlike_X5_pick rfl hdX5_pick (by decide) (Nat.le_of_ble_eq_true rfl) dX0_mostAlike_44 rfl (fun r823 M824 h825 => ?_)
          obtain ⟨a827, rfl, rfl, h826⟩ := h825
          refine j_istore C 4 [(4, .int (sI a827)), (0, .ref (ad 95)), (1, .int (sI a1)), (2, .int (sI a810)), (3, .int (sI a811))] dX0_mostAlike_47 (by decide) rfl ?_
          refine j_iload C 0 dX0_mostAlike_49 rfl ?_
          have J830 : ∀ (a829 : Int), (0 ≤ a829 ∧ a829 ≤ 9) → jj p l e (cn_R 1) s m args below meth c 0 0 Q 6 dC dI ad cA A M812 61 [(0, .ref (ad 95)), (1, .int (sI a1)), (2, .int (sI a810)), (3, .int (sI a811))] [.int (sI a829)] := by
            intro a829 h831
            refine j_istore C 5 [(5, .int (sI a829)), (0, .ref (ad 95)), (1, .int (sI a1)), (2, .int (sI a810)), (3, .int (sI a811))] dX0_mostAlike_61 (by decide) rfl ?_
            refine j_aload_n C 1 0 dX0_mostAlike_63 rfl rfl ?_
            refine y_getC C 0 97 fX0_mostAlike_15 rfl rfl ft_0_2 sm_0_2 rfl hM812 dX0_mostAlike_64 ?_
            refine j_iload C 0 dX0_mostAlike_67 rfl ?_
            refine j_dup2 C dX0_mostAlike_69 rfl rfl ?_
            refine y_iald C 44 10 _ _ rfl rfl rfl ak_44 an_44 rfl (sb_44 _) hM812 dX0_mostAlike_70 (by omega) (fun a832 ea832 la832 ua832 => ?_)
            refine y_iconst C dX0_mostAlike_71 ?_
            refine y_iadd0 C dX0_mostAlike_72 (fun a833 la833 ua833 => ?_)
            refine y_iastF C 44 10 rfl rfl rfl ak_44 an_44 rfl (sb_44 _) hM812 (PX.w hpr rfl rfl) dX0_mostAlike_73 (by omega) (fun M834 eM834 hM834 => ?_)
            refine j_iload_n C 3 2 dX0_mostAlike_74 rfl rfl ?_
            refine j_aload_n C 1 0 dX0_mostAlike_75 rfl rfl ?_
            refine y_getC C 0 97 fX0_mostAlike_15 rfl rfl ft_0_2 sm_0_2 rfl hM834 dX0_mostAlike_76 ?_
            refine j_iload C 0 dX0_mostAlike_79 rfl ?_
            refine y_iald C 44 10 _ _ rfl rfl rfl ak_44 an_44 rfl (sb_44 _) hM834 dX0_mostAlike_81 (by omega) (fun a835 ea835 la835 ua835 => ?_)
            refine y_mmax C wX0_mostAlike_65_0 wX0_mostAlike_65_1 wX0_mostAlike_65_2 wX0_mostAlike_65_3 (by decide) (Nat.le_of_ble_eq_true rfl) dX0_mostAlike_82 (by omega) (fun a836 ha836 => ?_)
            refine j_istore_n C 2 [(2, .int (sI a836)), (5, .int (sI a829)), (0, .ref (ad 95)), (1, .int (sI a1)), (3, .int (sI a811))] dX0_mostAlike_85 rfl (by decide) rfl ?_
            refine y_iinc C 4 [(3, .int (sI (a811 + 1))), (2, .int (sI a836)), (5, .int (sI a829)), (0, .ref (ad 95)), (1, .int (sI a1))] dX0_mostAlike_86 rfl (by decide) rfl ?_
            refine j_goto C 12 dX0_mostAlike_89 (by decide) ?_
            refine j_lv [3, 4, 1, 0] rfl ?_; exact ih808 a836 (a811 + 1) M834 (by omega) hM834
          refine y_if_lt C 59 dX0_mostAlike_51 (by decide) (by omega) (fun h828 => ?_) (fun h828 => ?_)
          · refine y_bipush C dX0_mostAlike_59 rfl ?_
            refine j_lv [1, 2, 3, 4] rfl ?_; exact J830 9 (by omega)
          · refine j_iload C 0 dX0_mostAlike_54 rfl ?_
            refine j_goto C 61 dX0_mostAlike_56 (by decide) ?_
            refine j_lv [1, 2, 3, 4] rfl ?_; exact J830 a827 (by omega)
  refine j_lv [2, 3, 1, 0] rfl ?_; exact L809 4294967304 0 0 M102 (by omega) hM102
