set_option maxHeartbeats 4000000 in
theorem s1_X11_trayRefusal {l : Launch} {dC : Nat → ClassId} {dI : Nat → Nat → Nat} {ad : Nat → Nat} {cA : Nat → ClassId} {pr : Nat → Nat → Bool} {Kz : mm_M} {M0 : mm_M} (hM0 : INV pr Kz M0) (a1 : Int) (ha1 : -2147483648 ≤ a1 ∧ a1 ≤ 2147483647) : Ci l 1 yX11_trayRefusal wsX11_trayRefusal dC dI ad cA [.ref (ad 0), .int (sI a1)] M0 (fun r M' => ∃ a : Int, r = sI a ∧ M0 = M' ∧ (-6) ≤ a ∧ a ≤ 0 ∧ ((0 ≤ a1 ∧ a1 < 4 ∧ a = 0) ∨ (0 ≤ a1 ∧ a1 < 4 ∧ a = (-6)) ∨ (a = (-2)))) := by
  refine ci_of (cc := cX11_trayRefusal) (maxL := 2) (ty := .int) (lv := [(0, .ref (ad 0)), (1, .int (sI a1))]) (by decide) rfl (fun r M' hp => rfl) (Nat.le_of_ble_eq_true rfl) rfl ?_
  intro p e s m args below meth c A Q C hret
  refine j_iload_n C 1 1 dX11_trayRefusal_0 rfl rfl ?_
  refine j_callSi C (d := 0) (As := [.int (sI a1)]) (st := []) (s1_X11_isTray hM0 a1 (by omega)) gX11_trayRefusal_X11_isTray rfl hdX11_isTrays (by decide) (Nat.le_of_ble_eq_true rfl) dX11_trayRefusal_1 rfl (fun r101 M102 h103 => ?_)
  obtain ⟨a105, rfl, rfl, h104⟩ := h103
  refine y_if_ne C 10 dX11_trayRefusal_4 (by decide) (by omega) (fun h106 => ?_) (fun h106 => ?_)
  · refine j_aload_n C 0 0 dX11_trayRefusal_10 rfl rfl ?_
    refine y_getC C 10 50 fX11_trayRefusal_52 rfl rfl ft_10_9 sm_10_9 rfl hM0 dX11_trayRefusal_11 ?_
    refine j_iload_n C 1 1 dX11_trayRefusal_14 rfl rfl ?_
    refine y_aald C 28 4 9 rfl rfl rfl rfl an_28 rfl sma_28 sta_28 (by decide) hM0 dX11_trayRefusal_15 (by omega) (fun v107 cv107 => ?_)
    refine j_callVi C (d := 0) (As := []) (st := []) v107 (s_lt cv107 rfl) (s_kc (c := 9) cv107 rfl) (by decide) rfl (s1_X10_isMissing hM0 cv107) gX11_trayRefusal_X10_isMissing rfl hdX10_isMissing (by decide) (Nat.le_of_ble_eq_true rfl) dX11_trayRefusal_16 rfl (fun r108 M109 h110 => ?_)
    obtain ⟨a112, rfl, rfl, h111⟩ := h110
    refine y_if_eq C 27 dX11_trayRefusal_19 (by decide) (by omega) (fun h113 => ?_) (fun h113 => ?_)
    · refine y_iconst C dX11_trayRefusal_27 ?_
      exact hret _ _ _ _ dX11_trayRefusal_28 ⟨0, rfl, rfl, by omega⟩
    · refine y_bipush C dX11_trayRefusal_22 rfl ?_
      refine j_goto C 28 dX11_trayRefusal_24 (by decide) ?_
      exact hret _ _ _ _ dX11_trayRefusal_28 ⟨(-6), rfl, rfl, by omega⟩
  · refine y_bipush C dX11_trayRefusal_7 rfl ?_
    exact hret _ _ _ _ dX11_trayRefusal_9 ⟨(-2), rfl, rfl, by omega⟩
set_option maxHeartbeats 4000000 in
theorem s1_X11_perform {l : Launch} {dC : Nat → ClassId} {dI : Nat → Nat → Nat} {ad : Nat → Nat} {cA : Nat → ClassId} {pr : Nat → Nat → Bool} {Kz : mm_M} {M0 : mm_M} (hM0 : INV pr Kz M0) (hpr : PX pr) (hq8_0 : ∀ i, s_c i = 8 → pr i 0 = false) (a1 : Int) (ha1 : -2147483648 ≤ a1 ∧ a1 ≤ 2147483647) : Ci l 6 yX11_perform wsX11_perform dC dI ad cA [.ref (ad 0), .int (sI a1)] M0 (fun r M' => ∃ a : Int, r = sI a ∧ INV pr Kz M' ∧ (-6) ≤ a ∧ a ≤ 40) := by
  refine ci_of (cc := cX11_perform) (maxL := 6) (ty := .int) (lv := [(0, .ref (ad 0)), (1, .int (sI a1))]) (by decide) rfl (fun r M' hp => rfl) (Nat.le_of_ble_eq_true rfl) rfl ?_
  intro p e s m args below meth c A Q C hret
  refine j_aload_n C 0 0 dX11_perform_0 rfl rfl ?_
  refine j_iload_n C 1 1 dX11_perform_1 rfl rfl ?_
  refine j_callVi C (d := 1) (As := [.int (sI a1)]) (st := []) 0 (s_lt rfl rfl) (s_kc (c := 10) rfl rfl) (by decide) rfl (s1_X11_trayRefusal hM0 a1 (by omega)) gX11_perform_X11_trayRefusal rfl hdX11_trayRefusal (by decide) (Nat.le_of_ble_eq_true rfl) dX11_perform_2 rfl (fun r101 M102 h103 => ?_)
  obtain ⟨a105, rfl, rfl, h104⟩ := h103
  refine j_istore_n C 2 [(2, .int (sI a105)), (0, .ref (ad 0)), (1, .int (sI a1))] dX11_perform_5 rfl (by decide) rfl ?_
  refine j_iload_n C 0 2 dX11_perform_6 rfl rfl ?_
  refine y_if_eq C 12 dX11_perform_7 (by decide) (by omega) (fun h106 => ?_) (fun h106 => ?_)
  · refine j_aload_n C 1 0 dX11_perform_12 rfl rfl ?_
    refine y_getC C 10 50 fX11_perform_52 rfl rfl ft_10_9 sm_10_9 rfl hM0 dX11_perform_13 ?_
    refine j_iload_n C 2 1 dX11_perform_16 rfl rfl ?_
    refine y_aald C 28 4 9 rfl rfl rfl rfl an_28 rfl sma_28 sta_28 (by decide) hM0 dX11_perform_17 (by omega) (fun v107 cv107 => ?_)
    refine j_astore_n C 3 [(3, .ref (ad v107)), (2, .int (sI a105)), (0, .ref (ad 0)), (1, .int (sI a1))] dX11_perform_18 rfl (by decide) rfl ?_
    refine j_aload_n C 2 0 dX11_perform_19 rfl rfl ?_
    refine y_getC C 10 15 fX11_perform_40 rfl rfl ft_10_7 sm_10_7 rfl hM0 dX11_perform_20 ?_
    refine j_aload_n C 2 0 dX11_perform_23 rfl rfl ?_
    refine y_getC C 10 12 fX11_perform_36 rfl rfl ft_10_6 sm_10_6 rfl hM0 dX11_perform_24 ?_
    refine j_callVv C (d := 0) (As := [.ref (ad 12)]) (st := []) 15 (s_lt rfl rfl) (s_kc (c := 8) rfl rfl) (by decide) rfl (s1_X9_copyFrom hM0 hpr hq8_0 rfl rfl) gX11_perform_X9_copyFrom rfl hdX9_copyFrom (by decide) (Nat.le_of_ble_eq_true rfl) dX11_perform_27 rfl (fun M109 h110 => ?_)
    have hM109 := h110
    refine y_iconst C dX11_perform_30 ?_
    refine j_istore C 4 [(4, .int (sI 0)), (3, .ref (ad v107)), (2, .int (sI a105)), (0, .ref (ad 0)), (1, .int (sI a1))] dX11_perform_31 (by decide) rfl ?_
    refine y_iconst C dX11_perform_33 ?_
    refine j_istore C 5 [(5, .int (sI 0)), (4, .int (sI 0)), (3, .ref (ad v107)), (2, .int (sI a105)), (0, .ref (ad 0)), (1, .int (sI a1))] dX11_perform_34 (by decide) rfl ?_
    have X514 : ∀ (a512 : Int) (M513 : mm_M), (0 ≤ a512 ∧ a512 ≤ 40) → INV pr Kz M513 → jj p l e (cn_R 6) s m args below meth c 0 0 Q 6 dC dI ad cA A M513 85 [(0, .ref (ad 0)), (4, .int (sI a512))] [] := by
      intro a512 M513 h515 hM513
      refine j_iload C 1 dX11_perform_85 rfl ?_
      refine y_if_le C 101 dX11_perform_87 (by decide) (by omega) (fun h516 => ?_) (fun h516 => ?_)
      · refine j_iload C 1 dX11_perform_101 rfl ?_
        exact hret _ _ _ _ dX11_perform_103 ⟨a512, rfl, hM513, by omega⟩
      · refine j_aload_n C 0 0 dX11_perform_90 rfl rfl ?_
        refine y_getC C 10 18 fX11_perform_46 rfl rfl ft_10_8 sm_10_8 rfl hM513 dX11_perform_91 ?_
        refine j_aload_n C 0 0 dX11_perform_94 rfl rfl ?_
        refine y_getC C 10 15 fX11_perform_40 rfl rfl ft_10_7 sm_10_7 rfl hM513 dX11_perform_95 ?_
        refine j_callVv C (d := 1) (As := [.ref (ad 15)]) (st := []) 18 (s_lt rfl rfl) (s_kc (c := 5) rfl rfl) (by decide) rfl (s1_X6_keep hM513 hpr hq8_0 rfl) gX11_perform_X6_keep rfl hdX6_keep (by decide) (Nat.le_of_ble_eq_true rfl) dX11_perform_98 rfl (fun M518 h519 => ?_)
        have hM518 := h519
        refine j_iload C 1 dX11_perform_101 rfl ?_
        exact hret _ _ _ _ dX11_perform_103 ⟨a512, rfl, hM518, by omega⟩
    have L488 : ∀ (n486 : Nat), ∀ (a489 : Int) (a490 : Int) (M491 : mm_M), (0 ≤ a489 ∧ a489 ≤ 40 ∧ 0 ≤ a490 ∧ a490 ≤ 40 ∧ (40 - a490) < (n486 : Int)) → INV pr Kz M491 → jj p l e (cn_R 6) s m args below meth c 0 0 Q 6 dC dI ad cA A M491 36 [(0, .ref (ad 0)), (3, .ref (ad v107)), (4, .int (sI a489)), (5, .int (sI a490))] [] := by
      intro n486
      induction n486 with
      | zero =>
        intro a489 a490 M491 h492 hM491
        exfalso; omega
      | succ n486 ih487 =>
        intro a489 a490 M491 h492 hM491
        refine j_iload C 3 dX11_perform_36 rfl ?_
        refine j_aload_n C 1 3 dX11_perform_38 rfl rfl ?_
        refine j_callVi C (d := 1) (As := []) (st := [.int (sI a490)]) v107 (s_lt cv107 rfl) (s_kc (c := 9) cv107 rfl) (by decide) rfl (s1_X10_size hM491 cv107) gX11_perform_X10_size rfl hdX10_size (by decide) (Nat.le_of_ble_eq_true rfl) dX11_perform_39 rfl (fun r493 M494 h495 => ?_)
        obtain ⟨a497, rfl, rfl, h496⟩ := h495
        refine y_icmp_ge C 85 dX11_perform_42 (by decide) (by omega) (fun h498 => ?_) (fun h498 => ?_)
        · refine j_lv [0, 2] rfl ?_; exact X514 a489 M491 (by omega) hM491
        · refine j_iload C 2 dX11_perform_45 rfl ?_
          refine j_iload C 3 dX11_perform_47 rfl ?_
          refine y_icmp_ne C 85 dX11_perform_49 (by decide) (by omega) (fun h499 => ?_) (fun h499 => ?_)
          · refine j_lv [0, 2] rfl ?_; exact X514 a489 M491 (by omega) hM491
          · refine j_aload_n C 0 0 dX11_perform_52 rfl rfl ?_
            refine y_getC C 10 87 fX11_perform_85 rfl rfl ft_10_13 sm_10_13 rfl hM491 dX11_perform_53 ?_
            refine j_aload_n C 0 0 dX11_perform_56 rfl rfl ?_
            refine y_getM C 10 6 fX11_perform_26 rfl rfl ft_10_4 sm_10_4 (by decide) hM491 dX11_perform_57 (fun v500 ev500 cv500 => ?_)
            refine j_aload_n C 0 0 dX11_perform_60 rfl rfl ?_
            refine y_getC C 10 12 fX11_perform_36 rfl rfl ft_10_6 sm_10_6 rfl hM491 dX11_perform_61 ?_
            refine j_aload_n C 1 3 dX11_perform_64 rfl rfl ?_
            refine j_iload C 3 dX11_perform_65 rfl ?_
            refine j_callVj C (d := 1) (As := [.int (sI a490)]) (st := [.ref (ad 12), .ref (ad v500), .ref (ad 87)]) v107 (s_lt cv107 rfl) (s_kc (c := 9) cv107 rfl) (by decide) rfl (s1_X10_numberAt hM491 cv107 a490 (by omega)) gX11_perform_X10_numberAt rfl hdX10_numberAt (by decide) (Nat.le_of_ble_eq_true rfl) dX11_perform_67 rfl (fun r501 M502 h503 => ?_)
            obtain ⟨a505, rfl, rfl, h504⟩ := h503
            refine j_callVi C (d := 5) (As := [.ref (ad v500), .ref (ad 12), .long (sJ a505)]) (st := []) 87 (s_lt rfl rfl) (s_kc (c := 1) rfl rfl) (by decide) rfl (s1_X1_carryOut hM491 hpr cv500 rfl a505 (by omega)) gX11_perform_X1_carryOut rfl hdX1_carryOut (by decide) (Nat.le_of_ble_eq_true rfl) dX11_perform_70 rfl (fun r506 M507 h508 => ?_)
            obtain ⟨a510, rfl, hM507, h509⟩ := h508
            refine y_if_lt C 79 dX11_perform_73 (by decide) (by omega) (fun h511 => ?_) (fun h511 => ?_)
            · refine y_iinc C 3 [(5, .int (sI (a490 + 1))), (0, .ref (ad 0)), (3, .ref (ad v107)), (4, .int (sI a489))] dX11_perform_79 rfl (by decide) rfl ?_
              refine j_goto C 36 dX11_perform_82 (by decide) ?_
              refine j_lv [1, 2, 3, 0] rfl ?_; exact ih487 a489 (a490 + 1) M507 (by omega) hM507
            · refine y_iinc C 2 [(4, .int (sI (a489 + 1))), (0, .ref (ad 0)), (3, .ref (ad v107)), (5, .int (sI a490))] dX11_perform_76 rfl (by decide) rfl ?_
              refine y_iinc C 3 [(5, .int (sI (a490 + 1))), (4, .int (sI (a489 + 1))), (0, .ref (ad 0)), (3, .ref (ad v107))] dX11_perform_79 rfl (by decide) rfl ?_
              refine j_goto C 36 dX11_perform_82 (by decide) ?_
              refine j_lv [2, 3, 1, 0] rfl ?_; exact ih487 (a489 + 1) (a490 + 1) M507 (by omega) hM507
    refine j_lv [4, 2, 1, 0] rfl ?_; exact L488 2010 0 0 M109 (by omega) hM109
  · refine j_iload_n C 0 2 dX11_perform_10 rfl rfl ?_
    exact hret _ _ _ _ dX11_perform_11 ⟨a105, rfl, hM0, by omega⟩
set_option maxHeartbeats 4000000 in
theorem s1_X1_drawDeed {l : Launch} {dC : Nat → ClassId} {dI : Nat → Nat → Nat} {ad : Nat → Nat} {cA : Nat → ClassId} {pr : Nat → Nat → Bool} {Kz : mm_M} {M0 : mm_M} (hM0 : INV pr Kz M0) (hpr : PX pr) {v1 : Nat} (cv1 : s_c v1 = 8) : Ci l 1 yX1_drawDeed wsX1_drawDeed dC dI ad cA [.ref (ad 87), .ref (ad v1)] M0 (fun r M' => ∃ a : Int, r = sI a ∧ INV pr Kz M' ∧ (-2147483648) ≤ a ∧ a ≤ 2147483647) := by
  refine ci_of (cc := cX1_drawDeed) (maxL := 2) (ty := .int) (lv := [(0, .ref (ad 87)), (1, .ref (ad v1))]) (by decide) rfl (fun r M' hp => rfl) (Nat.le_of_ble_eq_true rfl) rfl ?_
  intro p e s m args below meth c A Q C hret
  refine j_aload_n C 1 1 dX1_drawDeed_0 rfl rfl ?_
  refine j_callVi C (d := 0) (As := []) (st := []) v1 (s_lt cv1 rfl) (s_kc (c := 8) cv1 rfl) (by decide) rfl (s1_X9_draw hM0 hpr cv1) gX1_drawDeed_X9_draw rfl hdX9_draw (by decide) (Nat.le_of_ble_eq_true rfl) dX1_drawDeed_1 rfl (fun r101 M102 h103 => ?_)
  obtain ⟨a105, rfl, hM102, h104⟩ := h103
  refine y_iconst C dX1_drawDeed_4 ?_
  refine y_irem C dX1_drawDeed_5 (by omega) ?_
  rcases (show ((a105 % 5) < 2 ∨ 4 < (a105 % 5)) ∨ (a105 % 5) = 2 ∨ (a105 % 5) = 3 ∨ (a105 % 5) = 4 by omega) with h106 | h106 | h106 | h106
  · refine y_tabO C 63 dX1_drawDeed_6 (by decide) (by omega) ?_
    refine y_iconst C dX1_drawDeed_63 ?_
    exact hret _ _ _ _ dX1_drawDeed_64 ⟨(-1), rfl, hM102, by omega⟩
  · refine y_tabI C (off := 26) 32 2 dX1_drawDeed_6 (by decide) rfl (by decide) h106 ?_
    refine j_aload_n C 1 1 dX1_drawDeed_32 rfl rfl ?_
    refine j_callVi C (d := 0) (As := []) (st := []) v1 (s_lt cv1 rfl) (s_kc (c := 8) cv1 rfl) (by decide) rfl (s1_X9_draw hM102 hpr cv1) gX1_drawDeed_X9_draw rfl hdX9_draw (by decide) (Nat.le_of_ble_eq_true rfl) dX1_drawDeed_33 rfl (fun r107 M108 h109 => ?_)
    obtain ⟨a111, rfl, hM108, h110⟩ := h109
    refine y_bipush C dX1_drawDeed_36 rfl ?_
    refine y_irem C dX1_drawDeed_38 (by omega) ?_
    exact hret _ _ _ _ dX1_drawDeed_39 ⟨(a111 % 6), rfl, hM108, by omega⟩
  · refine y_tabI C (off := 34) 40 3 dX1_drawDeed_6 (by decide) rfl (by decide) h106 ?_
    refine y_bipush C dX1_drawDeed_40 rfl ?_
    refine j_aload_n C 1 1 dX1_drawDeed_42 rfl rfl ?_
    refine j_callVi C (d := 0) (As := []) (st := [.int (sI 100)]) v1 (s_lt cv1 rfl) (s_kc (c := 8) cv1 rfl) (by decide) rfl (s1_X9_draw hM102 hpr cv1) gX1_drawDeed_X9_draw rfl hdX9_draw (by decide) (Nat.le_of_ble_eq_true rfl) dX1_drawDeed_43 rfl (fun r112 M113 h114 => ?_)
    obtain ⟨a116, rfl, hM113, h115⟩ := h114
    refine y_bipush C dX1_drawDeed_46 rfl ?_
    refine y_irem C dX1_drawDeed_48 (by omega) ?_
    refine y_iadd0 C dX1_drawDeed_49 (fun a117 la117 ua117 => ?_)
    exact hret _ _ _ _ dX1_drawDeed_50 ⟨a117, rfl, hM113, by omega⟩
  · refine y_tabI C (off := 45) 51 4 dX1_drawDeed_6 (by decide) rfl (by decide) h106 ?_
    refine y_sipush C dX1_drawDeed_51 rfl ?_
    refine j_aload_n C 1 1 dX1_drawDeed_54 rfl rfl ?_
    refine j_callVi C (d := 0) (As := []) (st := [.int (sI 200)]) v1 (s_lt cv1 rfl) (s_kc (c := 8) cv1 rfl) (by decide) rfl (s1_X9_draw hM102 hpr cv1) gX1_drawDeed_X9_draw rfl hdX9_draw (by decide) (Nat.le_of_ble_eq_true rfl) dX1_drawDeed_55 rfl (fun r118 M119 h120 => ?_)
    obtain ⟨a122, rfl, hM119, h121⟩ := h120
    refine y_bipush C dX1_drawDeed_58 rfl ?_
    refine y_irem C dX1_drawDeed_60 (by omega) ?_
    refine y_iadd0 C dX1_drawDeed_61 (fun a123 la123 ua123 => ?_)
    exact hret _ _ _ _ dX1_drawDeed_62 ⟨a123, rfl, hM119, by omega⟩
set_option maxHeartbeats 4000000 in
theorem s1_X11_season {l : Launch} {dC : Nat → ClassId} {dI : Nat → Nat → Nat} {ad : Nat → Nat} {cA : Nat → ClassId} {pr : Nat → Nat → Bool} {Kz : mm_M} {M0 : mm_M} (hM0 : INV pr Kz M0) (hpr : PX pr) (hq8_0 : ∀ i, s_c i = 8 → pr i 0 = false) (a1 : Int) (ha1 : -2147483648 ≤ a1 ∧ a1 ≤ 2147483647) (a2 : Int) (ha2 : -2147483648 ≤ a2 ∧ a2 ≤ 2147483647) : Ci l 6 yX11_season wsX11_season dC dI ad cA [.ref (ad 0), .int (sI a1), .int (sI a2)] M0 (fun r M' => ∃ a : Int, r = sI a ∧ INV pr Kz M' ∧ (-3) ≤ a ∧ a ≤ 40) := by
  refine ci_of (cc := cX11_season) (maxL := 5) (ty := .int) (lv := [(0, .ref (ad 0)), (1, .int (sI a1)), (2, .int (sI a2))]) (by decide) rfl (fun r M' hp => rfl) (Nat.le_of_ble_eq_true rfl) rfl ?_
  intro p e s m args below meth c A Q C hret
  refine j_iload_n C 2 2 dX11_season_0 rfl rfl ?_
  refine y_iconst C dX11_season_1 ?_
  refine y_icmp_lt C 11 dX11_season_2 (by decide) (by omega) (fun h101 => ?_) (fun h101 => ?_)
  · refine y_bipush C dX11_season_11 rfl ?_
    exact hret _ _ _ _ dX11_season_13 ⟨(-3), rfl, hM0, by omega⟩
  · refine j_iload_n C 2 2 dX11_season_5 rfl rfl ?_
    refine y_bipush C dX11_season_6 rfl ?_
    refine y_icmp_le C 14 dX11_season_8 (by decide) (by omega) (fun h102 => ?_) (fun h102 => ?_)
    · refine j_aload_n C 0 0 dX11_season_14 rfl rfl ?_
      refine y_getC C 10 15 fX11_season_40 rfl rfl ft_10_7 sm_10_7 rfl hM0 dX11_season_15 ?_
      refine j_aload_n C 0 0 dX11_season_18 rfl rfl ?_
      refine y_getC C 10 12 fX11_season_36 rfl rfl ft_10_6 sm_10_6 rfl hM0 dX11_season_19 ?_
      refine j_callVv C (d := 0) (As := [.ref (ad 12)]) (st := []) 15 (s_lt rfl rfl) (s_kc (c := 8) rfl rfl) (by decide) rfl (s1_X9_copyFrom hM0 hpr hq8_0 rfl rfl) gX11_season_X9_copyFrom rfl hdX9_copyFrom (by decide) (Nat.le_of_ble_eq_true rfl) dX11_season_22 rfl (fun M104 h105 => ?_)
      have hM104 := h105
      refine j_aload_n C 0 0 dX11_season_25 rfl rfl ?_
      refine y_getC C 10 12 fX11_season_36 rfl rfl ft_10_6 sm_10_6 rfl hM104 dX11_season_26 ?_
      refine j_iload_n C 1 1 dX11_season_29 rfl rfl ?_
      refine y_putIF C 8 qX11_season_195 rfl rfl ft_8_8 sb_8_8 hM104 (PX.w hpr rfl rfl) dX11_season_30 (fun M107 eM107 hM107 => ?_)
      refine y_iconst C dX11_season_33 ?_
      refine j_istore_n C 3 [(3, .int (sI 0)), (0, .ref (ad 0)), (1, .int (sI a1)), (2, .int (sI a2))] dX11_season_34 rfl (by decide) rfl ?_
      refine y_iconst C dX11_season_35 ?_
      refine j_istore C 4 [(4, .int (sI 0)), (3, .int (sI 0)), (0, .ref (ad 0)), (1, .int (sI a1)), (2, .int (sI a2))] dX11_season_36 (by decide) rfl ?_
      have L382 : ∀ (n380 : Nat), ∀ (a383 : Int) (a384 : Int) (M385 : mm_M), (0 ≤ a383 ∧ a383 ≤ 40 ∧ 0 ≤ a384 ∧ a384 ≤ 40 ∧ (a383 ≤ a384) ∧ (40 - a384) < (n380 : Int)) → INV pr Kz M385 → jj p l e (cn_R 6) s m args below meth c 0 0 Q 5 dC dI ad cA A M385 38 [(0, .ref (ad 0)), (2, .int (sI a2)), (3, .int (sI a383)), (4, .int (sI a384))] [] := by
        intro n380
        induction n380 with
        | zero =>
          intro a383 a384 M385 h386 hM385
          exfalso; omega
        | succ n380 ih381 =>
          intro a383 a384 M385 h386 hM385
          refine j_iload C 3 dX11_season_38 rfl ?_
          refine j_iload_n C 1 2 dX11_season_40 rfl rfl ?_
          refine y_icmp_ge C 83 dX11_season_41 (by decide) (by omega) (fun h387 => ?_) (fun h387 => ?_)
          · refine j_iload_n C 2 3 dX11_season_83 rfl rfl ?_
            refine y_if_ne C 101 dX11_season_84 (by decide) (by omega) (fun h400 => ?_) (fun h400 => ?_)
            · refine j_aload_n C 0 0 dX11_season_101 rfl rfl ?_
              refine y_getC C 10 18 fX11_season_46 rfl rfl ft_10_8 sm_10_8 rfl hM385 dX11_season_102 ?_
              refine j_aload_n C 0 0 dX11_season_105 rfl rfl ?_
              refine y_getC C 10 15 fX11_season_40 rfl rfl ft_10_7 sm_10_7 rfl hM385 dX11_season_106 ?_
              refine j_callVv C (d := 1) (As := [.ref (ad 15)]) (st := []) 18 (s_lt rfl rfl) (s_kc (c := 5) rfl rfl) (by decide) rfl (s1_X6_keep hM385 hpr hq8_0 rfl) gX11_season_X6_keep rfl hdX6_keep (by decide) (Nat.le_of_ble_eq_true rfl) dX11_season_109 rfl (fun M402 h403 => ?_)
              have hM402 := h403
              refine j_iload_n C 2 3 dX11_season_112 rfl rfl ?_
              exact hret _ _ _ _ dX11_season_113 ⟨a383, rfl, hM402, by omega⟩
            · refine j_aload_n C 0 0 dX11_season_87 rfl rfl ?_
              refine y_getC C 10 12 fX11_season_36 rfl rfl ft_10_6 sm_10_6 rfl hM385 dX11_season_88 ?_
              refine j_aload_n C 0 0 dX11_season_91 rfl rfl ?_
              refine y_getC C 10 15 fX11_season_40 rfl rfl ft_10_7 sm_10_7 rfl hM385 dX11_season_92 ?_
              refine j_callVv C (d := 0) (As := [.ref (ad 15)]) (st := []) 12 (s_lt rfl rfl) (s_kc (c := 8) rfl rfl) (by decide) rfl (s1_X9_copyFrom hM385 hpr hq8_0 rfl rfl) gX11_season_X9_copyFrom rfl hdX9_copyFrom (by decide) (Nat.le_of_ble_eq_true rfl) dX11_season_95 rfl (fun M406 h407 => ?_)
              have hM406 := h407
              refine j_goto C 112 dX11_season_98 (by decide) ?_
              refine j_iload_n C 2 3 dX11_season_112 rfl rfl ?_
              exact hret _ _ _ _ dX11_season_113 ⟨a383, rfl, hM406, by omega⟩
          · refine j_aload_n C 0 0 dX11_season_44 rfl rfl ?_
            refine y_getC C 10 87 fX11_season_85 rfl rfl ft_10_13 sm_10_13 rfl hM385 dX11_season_45 ?_
            refine j_aload_n C 0 0 dX11_season_48 rfl rfl ?_
            refine y_getM C 10 6 fX11_season_26 rfl rfl ft_10_4 sm_10_4 (by decide) hM385 dX11_season_49 (fun v388 ev388 cv388 => ?_)
            refine j_aload_n C 0 0 dX11_season_52 rfl rfl ?_
            refine y_getC C 10 12 fX11_season_36 rfl rfl ft_10_6 sm_10_6 rfl hM385 dX11_season_53 ?_
            refine j_aload_n C 0 0 dX11_season_56 rfl rfl ?_
            refine y_getC C 10 87 fX11_season_85 rfl rfl ft_10_13 sm_10_13 rfl hM385 dX11_season_57 ?_
            refine j_aload_n C 0 0 dX11_season_60 rfl rfl ?_
            refine y_getC C 10 12 fX11_season_36 rfl rfl ft_10_6 sm_10_6 rfl hM385 dX11_season_61 ?_
            refine j_callVi C (d := 1) (As := [.ref (ad 12)]) (st := [.ref (ad 12), .ref (ad v388), .ref (ad 87)]) 87 (s_lt rfl rfl) (s_kc (c := 1) rfl rfl) (by decide) rfl (s1_X1_drawDeed hM385 hpr rfl) gX11_season_X1_drawDeed rfl hdX1_drawDeed (by decide) (Nat.le_of_ble_eq_true rfl) dX11_season_64 rfl (fun r389 M390 h391 => ?_)
            obtain ⟨a393, rfl, hM390, h392⟩ := h391
            refine y_i2l C dX11_season_67 (by omega) ?_
            refine j_callVi C (d := 5) (As := [.ref (ad v388), .ref (ad 12), .long (sJ a393)]) (st := []) 87 (s_lt rfl rfl) (s_kc (c := 1) rfl rfl) (by decide) rfl (s1_X1_carryOut hM390 hpr cv388 rfl a393 (by omega)) gX11_season_X1_carryOut rfl hdX1_carryOut (by decide) (Nat.le_of_ble_eq_true rfl) dX11_season_68 rfl (fun r394 M395 h396 => ?_)
            obtain ⟨a398, rfl, hM395, h397⟩ := h396
            refine y_if_lt C 77 dX11_season_71 (by decide) (by omega) (fun h399 => ?_) (fun h399 => ?_)
            · refine y_iinc C 3 [(4, .int (sI (a384 + 1))), (0, .ref (ad 0)), (2, .int (sI a2)), (3, .int (sI a383))] dX11_season_77 rfl (by decide) rfl ?_
              refine j_goto C 38 dX11_season_80 (by decide) ?_
              refine j_lv [1, 2, 3, 0] rfl ?_; exact ih381 a383 (a384 + 1) M395 (by omega) hM395
            · refine y_iinc C 2 [(3, .int (sI (a383 + 1))), (0, .ref (ad 0)), (2, .int (sI a2)), (4, .int (sI a384))] dX11_season_74 rfl (by decide) rfl ?_
              refine y_iinc C 3 [(4, .int (sI (a384 + 1))), (3, .int (sI (a383 + 1))), (0, .ref (ad 0)), (2, .int (sI a2))] dX11_season_77 rfl (by decide) rfl ?_
              refine j_goto C 38 dX11_season_80 (by decide) ?_
              refine j_lv [2, 3, 1, 0] rfl ?_; exact ih381 (a383 + 1) (a384 + 1) M395 (by omega) hM395
      refine j_lv [2, 4, 1, 0] rfl ?_; exact L382 2010 0 0 M107 (by omega) hM107
    · refine y_bipush C dX11_season_11 rfl ?_
      exact hret _ _ _ _ dX11_season_13 ⟨(-3), rfl, hM0, by omega⟩
set_option maxHeartbeats 4000000 in
theorem s1_X5_aim {l : Launch} {dC : Nat → ClassId} {dI : Nat → Nat → Nat} {ad : Nat → Nat} {cA : Nat → ClassId} {pr : Nat → Nat → Bool} {Kz : mm_M} {M0 : mm_M} (hM0 : INV pr Kz M0) (hpr : PX pr) {v1 : Nat} (cv1 : s_c v1 = 6) {v2 : Nat} (cv2 : s_c v2 = 8) (a3 : Int) (ha3 : -2147483648 ≤ a3 ∧ a3 ≤ 2147483647) : Cv l 1 yX5_aim wsX5_aim dC dI ad cA [.ref (ad 88), .ref (ad v1), .ref (ad v2), .int (sI a3)] M0 (fun M' => INV pr Kz M') := by
  refine cv_of (cc := cX5_aim) (maxL := 4) (lv := [(0, .ref (ad 88)), (1, .ref (ad v1)), (2, .ref (ad v2)), (3, .int (sI a3))]) (by decide) rfl (Nat.le_of_ble_eq_true rfl) rfl ?_
  intro p e s m args below meth c A Q C hret
  refine j_aload_n C 0 0 dX5_aim_0 rfl rfl ?_
  refine j_aload_n C 1 1 dX5_aim_1 rfl rfl ?_
  refine y_putP C 4 6 qX5_aim_52 rfl rfl rfl rfl ft_4_9 sm_4_9 (by decide) hM0 (PX.w hpr rfl rfl) cv1 dX5_aim_2 (fun M101 eM101 hM101 => ?_)
  refine j_aload_n C 0 0 dX5_aim_5 rfl rfl ?_
  refine j_aload_n C 2 2 dX5_aim_6 rfl rfl ?_
  refine y_putP C 4 8 qX5_aim_56 rfl rfl rfl rfl ft_4_10 sm_4_10 (by decide) hM101 (PX.w hpr rfl rfl) cv2 dX5_aim_7 (fun M102 eM102 hM102 => ?_)
  refine j_aload_n C 0 0 dX5_aim_10 rfl rfl ?_
  refine j_aload_n C 0 0 dX5_aim_11 rfl rfl ?_
  refine y_getV C 4 v2 fX5_aim_56 rfl rfl ft_4_10 (s_pW eM102) dX5_aim_12 ?_
  refine j_callVi C (d := 0) (As := []) (st := [.ref (ad 88)]) v2 (s_lt cv2 rfl) (s_kc (c := 8) cv2 rfl) (by decide) rfl (s1_X9_everyKind hM102 cv2) gX5_aim_X9_everyKind rfl hdX9_everyKind (by decide) (Nat.le_of_ble_eq_true rfl) dX5_aim_15 rfl (fun r103 M104 h105 => ?_)
  obtain ⟨a107, rfl, rfl, h106⟩ := h105
  refine y_putI C 4 _ _ qX5_aim_38 rfl rfl ft_4_11 sb_4_11 hM102 (PX.w hpr rfl rfl) dX5_aim_18 (by omega) (fun M108 eM108 hM108 => ?_)
  refine j_aload_n C 0 0 dX5_aim_21 rfl rfl ?_
  refine j_aload_n C 0 0 dX5_aim_22 rfl rfl ?_
  refine y_getI C 4 _ _ fX5_aim_38 rfl rfl ft_4_11 sb_4_11 hM108 dX5_aim_23 (fun a109 ea109 la109 ua109 => ?_)
  refine j_iload_n C 3 3 dX5_aim_26 rfl rfl ?_
  refine y_iconst C dX5_aim_27 ?_
  refine y_not C dX5_aim_28 ?_
  refine y_iandL C dX5_aim_29 (by omega) (fun a111 la111 ua111 => ?_)
  refine y_putI C 4 _ _ qX5_aim_42 rfl rfl ft_4_12 sb_4_12 hM108 (PX.w hpr rfl rfl) dX5_aim_30 (by omega) (fun M112 eM112 hM112 => ?_)
  refine j_aload_n C 0 0 dX5_aim_33 rfl rfl ?_
  refine j_aload_n C 0 0 dX5_aim_34 rfl rfl ?_
  refine y_getV C 4 v2 fX5_aim_56 rfl rfl ft_4_10 (s_pI eM112 (s_pI eM108 (s_pW eM102))) dX5_aim_35 ?_
  refine y_getI C 8 _ _ fX5_aim_66 cv2 rfl ft_8_3 sb_8_3 hM112 dX5_aim_38 (fun a113 ea113 la113 ua113 => ?_)
  refine j_aload_n C 0 0 dX5_aim_41 rfl rfl ?_
  refine y_getI C 4 _ _ fX5_aim_38 rfl rfl ft_4_11 sb_4_11 hM112 dX5_aim_42 (fun a115 ea115 la115 ua115 => ?_)
  have qa115 : a115 = a109 := (s_fb eM112 (by decide) (ea115)).trans ea109.symm
  refine y_iandR C dX5_aim_45 (by omega) (fun a117 la117 ua117 => ?_)
  refine y_putI C 4 _ _ qX5_aim_45 rfl rfl ft_4_13 sb_4_13 hM112 (PX.w hpr rfl rfl) dX5_aim_46 (by omega) (fun M118 eM118 hM118 => ?_)
  refine j_aload_n C 0 0 dX5_aim_49 rfl rfl ?_
  refine y_getC C 4 81 fX5_aim_48 rfl rfl ft_4_0 sm_4_0 rfl hM118 dX5_aim_50 ?_
  refine j_aload_n C 0 0 dX5_aim_53 rfl rfl ?_
  refine y_getV C 4 v1 fX5_aim_52 rfl rfl ft_4_9 (s_pI eM118 (s_pI eM112 (s_pI eM108 (s_pP eM102 (by decide) (s_pW eM101))))) dX5_aim_54 ?_
  refine j_aload_n C 0 0 dX5_aim_57 rfl rfl ?_
  refine y_getV C 4 v2 fX5_aim_56 rfl rfl ft_4_10 (s_pI eM118 (s_pI eM112 (s_pI eM108 (s_pW eM102)))) dX5_aim_58 ?_
  refine j_callVv C (d := 0) (As := [.ref (ad v1), .ref (ad v2)]) (st := []) 81 (s_lt rfl rfl) (s_kc (c := 3) rfl rfl) (by decide) rfl (s1_X4_tune hM118 hpr cv1 cv2) gX5_aim_X4_tune rfl hdX4_tune (by decide) (Nat.le_of_ble_eq_true rfl) dX5_aim_61 rfl (fun M120 h121 => ?_)
  have hM120 := h121
  exact hret _ _ _ dX5_aim_64 hM120
set_option maxHeartbeats 4000000 in
theorem s2_J7_fill_53178 {l : Launch} {dC : Nat → ClassId} {dI : Nat → Nat → Nat} {ad : Nat → Nat} {cA : Nat → ClassId} {pr : Nat → Nat → Bool} {Kz : mm_M} {M0 : mm_M} (hM0 : INV pr Kz M0) (hpr : PX pr) (a1 : Int) (ha1 : -2147483648 ≤ a1 ∧ a1 ≤ 2147483647) : Cv l 0 yJ7_fill_53178 wsJ7_fill_53178 dC dI ad cA [.ref (ad 90), .int (sI a1)] M0 (fun M' => INV pr Kz M') := by
  refine cv_of (cc := cJ7_fill_53178) (maxL := 4) (lv := [(0, .ref (ad 90)), (1, .int (sI a1))]) (by decide) rfl (Nat.le_of_ble_eq_true rfl) rfl ?_
  intro p e s m args below meth c A Q C hret
  refine y_iconst C dJ7_fill_53178_0 ?_
  refine j_istore_n C 2 [(2, .int (sI 0)), (0, .ref (ad 90)), (1, .int (sI a1))] dJ7_fill_53178_1 rfl (by decide) rfl ?_
  refine j_aload_n C 1 0 dJ7_fill_53178_2 rfl rfl ?_
  refine y_alen C 39 256 rfl rfl rfl an_39 rfl rfl dJ7_fill_53178_3 ?_
  refine j_istore_n C 3 [(3, .int (sI 256)), (2, .int (sI 0)), (0, .ref (ad 90)), (1, .int (sI a1))] dJ7_fill_53178_4 rfl (by decide) rfl ?_
  have L211 : ∀ (n209 : Nat), ∀ (a212 : Int) (M213 : mm_M), (0 ≤ a212 ∧ a212 ≤ 256 ∧ (256 - a212) < (n209 : Int)) → INV pr Kz M213 → jj p l e (cn_R 0) s m args below meth c 0 0 Q 4 dC dI ad cA A M213 5 [(0, .ref (ad 90)), (1, .int (sI a1)), (2, .int (sI a212)), (3, .int (sI 256))] [] := by
    intro n209
    induction n209 with
    | zero =>
      intro a212 M213 h214 hM213
      exfalso; omega
    | succ n209 ih210 =>
      intro a212 M213 h214 hM213
      refine j_iload_n C 2 2 dJ7_fill_53178_5 rfl rfl ?_
      refine j_iload_n C 3 3 dJ7_fill_53178_6 rfl rfl ?_
      refine y_icmp_ge C 20 dJ7_fill_53178_7 (by decide) (by omega) (fun h215 => ?_) (fun h215 => ?_)
      · exact hret _ _ _ dJ7_fill_53178_20 hM213
      · refine j_aload_n C 0 0 dJ7_fill_53178_10 rfl rfl ?_
        refine j_iload_n C 2 2 dJ7_fill_53178_11 rfl rfl ?_
        refine j_iload_n C 1 1 dJ7_fill_53178_12 rfl rfl ?_
        refine y_iastF C 39 256 rfl rfl rfl ak_39 an_39 rfl (sb_39 _) hM213 (PX.w hpr rfl rfl) dJ7_fill_53178_13 (by omega) (fun M216 eM216 hM216 => ?_)
        refine y_iinc C 2 [(2, .int (sI (a212 + 1))), (0, .ref (ad 90)), (1, .int (sI a1)), (3, .int (sI 256))] dJ7_fill_53178_14 rfl (by decide) rfl ?_
        refine j_goto C 5 dJ7_fill_53178_17 (by decide) ?_
        refine j_lv [1, 2, 0, 3] rfl ?_; exact ih210 (a212 + 1) M216 (by omega) hM216
  refine j_lv [2, 3, 1, 0] rfl ?_; exact L211 2010 0 M0 (by omega) hM0
set_option maxHeartbeats 4000000 in
theorem s1_X5_meet {l : Launch} {dC : Nat → ClassId} {dI : Nat → Nat → Nat} {ad : Nat → Nat} {cA : Nat → ClassId} {pr : Nat → Nat → Bool} {Kz : mm_M} {M0 : mm_M} (hM0 : INV pr Kz M0) (hpr : PX pr) (a1 : Int) (ha1 : -2147483648 ≤ a1 ∧ a1 ≤ 2147483647) (a2 : Int) (ha2 : -2147483648 ≤ a2 ∧ a2 ≤ 2147483647) (hp0 : 0 ≤ a1 ∧ a1 ≤ 255) : Cv l 4 yX5_meet wsX5_meet dC dI ad cA [.ref (ad 88), .int (sI a1), .int (sI a2)] M0 (fun M' => INV pr Kz M') := by
  refine cv_of (cc := cX5_meet) (maxL := 5) (lv := [(0, .ref (ad 88)), (1, .int (sI a1)), (2, .int (sI a2))]) (by decide) rfl (Nat.le_of_ble_eq_true rfl) rfl ?_
  intro p e s m args below meth c A Q C hret
  refine j_aload_n C 0 0 dX5_meet_0 rfl rfl ?_
  refine y_getC C 4 90 fX5_meet_15 rfl rfl ft_4_2 sm_4_2 rfl hM0 dX5_meet_1 ?_
  refine j_iload_n C 1 1 dX5_meet_4 rfl rfl ?_
  refine y_iconst C dX5_meet_5 ?_
  refine y_iastF C 39 256 rfl rfl rfl ak_39 an_39 rfl (sb_39 _) hM0 (PX.w hpr rfl rfl) dX5_meet_6 (by omega) (fun M101 eM101 hM101 => ?_)
  refine y_iconst C dX5_meet_7 ?_
  refine j_istore_n C 3 [(3, .int (sI 0)), (0, .ref (ad 88)), (1, .int (sI a1)), (2, .int (sI a2))] dX5_meet_8 rfl (by decide) rfl ?_
  have L216 : ∀ (n214 : Nat), ∀ (a217 : Int) (M218 : mm_M), (0 ≤ a217 ∧ a217 ≤ 6 ∧ (6 - a217) < (n214 : Int)) → INV pr Kz M218 → jj p l e (cn_R 4) s m args below meth c 0 0 Q 5 dC dI ad cA A M218 9 [(0, .ref (ad 88)), (1, .int (sI a1)), (2, .int (sI a2)), (3, .int (sI a217))] [] := by
    intro n214
    induction n214 with
    | zero =>
      intro a217 M218 h219 hM218
      exfalso; omega
    | succ n214 ih215 =>
      intro a217 M218 h219 hM218
      refine j_iload_n C 3 3 dX5_meet_9 rfl rfl ?_
      refine j_aload_n C 0 0 dX5_meet_10 rfl rfl ?_
      refine y_getM C 4 6 fX5_meet_52 rfl rfl ft_4_9 sm_4_9 (by decide) hM218 dX5_meet_11 (fun v220 ev220 cv220 => ?_)
      refine y_getI C 6 _ _ fX5_meet_92 cv220 rfl ft_6_0 sb_6_0 hM218 dX5_meet_14 (fun a221 ea221 la221 ua221 => ?_)
      refine y_icmp_ge C 68 dX5_meet_17 (by decide) (by omega) (fun h223 => ?_) (fun h223 => ?_)
      · exact hret _ _ _ dX5_meet_68 hM218
      · refine j_aload_n C 0 0 dX5_meet_20 rfl rfl ?_
        refine y_getC C 4 81 fX5_meet_48 rfl rfl ft_4_0 sm_4_0 rfl hM218 dX5_meet_21 ?_
        refine j_iload_n C 3 3 dX5_meet_24 rfl rfl ?_
        refine j_iload_n C 1 1 dX5_meet_25 rfl rfl ?_
        refine j_iload_n C 2 2 dX5_meet_26 rfl rfl ?_
        refine j_callVi C (d := 3) (As := [.int (sI a217), .int (sI a1), .int (sI a2)]) (st := []) 81 (s_lt rfl rfl) (s_kc (c := 3) rfl rfl) (by decide) rfl (s1_X4_choice hM218 hpr a217 (by omega) a1 (by omega) a2 (by omega) (by omega)) gX5_meet_X4_choice rfl hdX4_choice (by decide) (Nat.le_of_ble_eq_true rfl) dX5_meet_27 rfl (fun r224 M225 h226 => ?_)
        obtain ⟨a228, rfl, hM225, h227⟩ := h226
        refine j_istore C 4 [(4, .int (sI a228)), (0, .ref (ad 88)), (1, .int (sI a1)), (2, .int (sI a2)), (3, .int (sI a217))] dX5_meet_30 (by decide) rfl ?_
        refine j_aload_n C 1 0 dX5_meet_32 rfl rfl ?_
        refine y_getC C 4 89 fX5_meet_9 rfl rfl ft_4_1 sm_4_1 rfl hM225 dX5_meet_33 ?_
        refine j_iload_n C 2 1 dX5_meet_36 rfl rfl ?_
        refine y_bipush C dX5_meet_37 rfl ?_
        refine y_imul C dX5_meet_39 ?_
        refine j_iload_n C 4 3 dX5_meet_40 rfl rfl ?_
        refine y_iadd C dX5_meet_41 ?_
        refine j_iload C 0 dX5_meet_42 rfl ?_
        refine y_iast C 38 1536 _ _ rfl rfl rfl ak_38 an_38 rfl (sb_38 _) hM225 (PX.w hpr rfl rfl) dX5_meet_44 (by omega) (by omega) (fun M229 eM229 hM229 => ?_)
        refine j_iload C 0 dX5_meet_45 rfl ?_
        refine y_if_lt C 62 dX5_meet_47 (by decide) (by omega) (fun h230 => ?_) (fun h230 => ?_)
        · refine y_iinc C 4 [(3, .int (sI (a217 + 1))), (4, .int (sI a228)), (0, .ref (ad 88)), (1, .int (sI a1)), (2, .int (sI a2))] dX5_meet_62 rfl (by decide) rfl ?_
          refine j_goto C 9 dX5_meet_65 (by decide) ?_
          refine j_lv [2, 3, 4, 0] rfl ?_; exact ih215 (a217 + 1) M229 (by omega) hM229
        · refine j_aload_n C 1 0 dX5_meet_50 rfl rfl ?_
          refine y_getC C 4 90 fX5_meet_15 rfl rfl ft_4_2 sm_4_2 rfl hM229 dX5_meet_51 ?_
          refine j_iload_n C 2 1 dX5_meet_54 rfl rfl ?_
          refine y_iconst C dX5_meet_55 ?_
          refine j_iload C 0 dX5_meet_56 rfl ?_
          refine y_shl1 C 7 128 dX5_meet_58 rfl (by decide) (by omega) (fun a231 la231 ua231 => ?_)
          refine y_iorN C 8 255 dX5_meet_59 rfl (by decide) (by omega) (fun a232 la232 ua232 => ?_)
          refine y_iconst C dX5_meet_60 ?_
          refine y_iastF C 39 256 rfl rfl rfl ak_39 an_39 rfl (sb_39 _) hM229 (PX.w hpr rfl rfl) dX5_meet_61 (by omega) (fun M233 eM233 hM233 => ?_)
          refine y_iinc C 4 [(3, .int (sI (a217 + 1))), (4, .int (sI a228)), (0, .ref (ad 88)), (1, .int (sI a1)), (2, .int (sI a2))] dX5_meet_62 rfl (by decide) rfl ?_
          refine j_goto C 9 dX5_meet_65 (by decide) ?_
          refine j_lv [2, 3, 4, 0] rfl ?_; exact ih215 (a217 + 1) M233 (by omega) hM233
  refine j_lv [1, 2, 3, 0] rfl ?_; exact L216 2010 0 M101 (by omega) hM101
set_option maxHeartbeats 4000000 in
theorem s1_X5_look {l : Launch} {dC : Nat → ClassId} {dI : Nat → Nat → Nat} {ad : Nat → Nat} {cA : Nat → ClassId} {pr : Nat → Nat → Bool} {Kz : mm_M} {M0 : mm_M} (hM0 : INV pr Kz M0) (hpr : PX pr) {v1 : Nat} (cv1 : s_c v1 = 6) {v2 : Nat} (cv2 : s_c v2 = 8) (a3 : Int) (ha3 : -2147483648 ≤ a3 ∧ a3 ≤ 2147483647) : Cv l 5 yX5_look wsX5_look dC dI ad cA [.ref (ad 88), .ref (ad v1), .ref (ad v2), .int (sI a3)] M0 (fun M' => INV pr Kz M') := by
  refine cv_of (cc := cX5_look) (maxL := 5) (lv := [(0, .ref (ad 88)), (1, .ref (ad v1)), (2, .ref (ad v2)), (3, .int (sI a3))]) (by decide) rfl (Nat.le_of_ble_eq_true rfl) rfl ?_
  intro p e s m args below meth c A Q C hret
  refine j_aload_n C 0 0 dX5_look_0 rfl rfl ?_
  refine j_aload_n C 1 1 dX5_look_1 rfl rfl ?_
  refine j_aload_n C 2 2 dX5_look_2 rfl rfl ?_
  refine j_iload_n C 3 3 dX5_look_3 rfl rfl ?_
  refine j_callVv C (d := 1) (As := [.ref (ad v1), .ref (ad v2), .int (sI a3)]) (st := []) 88 (s_lt rfl rfl) (s_kc (c := 4) rfl rfl) (by decide) rfl (s1_X5_aim hM0 hpr cv1 cv2 a3 (by omega)) gX5_look_X5_aim rfl hdX5_aim (by decide) (Nat.le_of_ble_eq_true rfl) dX5_look_4 rfl (fun M102 h103 => ?_)
  have hM102 := h103
  refine j_aload_n C 0 0 dX5_look_7 rfl rfl ?_
  refine y_getC C 4 90 fX5_look_15 rfl rfl ft_4_2 sm_4_2 rfl hM102 dX5_look_8 ?_
  refine y_iconst C dX5_look_11 ?_
  refine j_callSv C (d := 0) (As := [.ref (ad 90), .int (sI 0)]) (st := []) (s2_J7_fill_53178 hM102 hpr 0 (by omega)) gX5_look_J7_fill_53178 rfl hdJ7_fill_53178s (by decide) (Nat.le_of_ble_eq_true rfl) dX5_look_12 rfl (fun M106 h107 => ?_)
  have hM106 := h107
  refine j_aload_n C 0 0 dX5_look_15 rfl rfl ?_
  refine y_getC C 4 90 fX5_look_15 rfl rfl ft_4_2 sm_4_2 rfl hM106 dX5_look_16 ?_
  refine j_aload_n C 0 0 dX5_look_19 rfl rfl ?_
  refine y_getI C 4 _ _ fX5_look_45 rfl rfl ft_4_13 sb_4_13 hM106 dX5_look_20 (fun a109 ea109 la109 ua109 => ?_)
  refine y_iconst C dX5_look_23 ?_
  refine y_iastF C 39 256 rfl rfl rfl ak_39 an_39 rfl (sb_39 _) hM106 (PX.w hpr rfl rfl) dX5_look_24 (by omega) (fun M111 eM111 hM111 => ?_)
  refine j_aload_n C 0 0 dX5_look_25 rfl rfl ?_
  refine y_getI C 4 _ _ fX5_look_45 rfl rfl ft_4_13 sb_4_13 hM111 dX5_look_26 (fun a112 ea112 la112 ua112 => ?_)
  have qa112 : a112 = a109 := (s_fa eM111 (by decide) (ea112)).trans ea109.symm
  refine j_istore C 4 [(4, .int (sI a112)), (0, .ref (ad 88)), (1, .ref (ad v1)), (2, .ref (ad v2)), (3, .int (sI a3))] dX5_look_29 (by decide) rfl ?_
  have L138 : ∀ (n136 : Nat), ∀ (a139 : Int) (M140 : mm_M), (0 ≤ a139 ∧ a139 ≤ 256 ∧ (256 - a139) < (n136 : Int)) → INV pr Kz M140 → jj p l e (cn_R 5) s m args below meth c 0 0 Q 5 dC dI ad cA A M140 31 [(0, .ref (ad 88)), (3, .int (sI a3)), (4, .int (sI a139))] [] := by
    intro n136
    induction n136 with
    | zero =>
      intro a139 M140 h141 hM140
      exfalso; omega
    | succ n136 ih137 =>
      intro a139 M140 h141 hM140
      refine j_iload C 2 dX5_look_31 rfl ?_
      refine j_aload_n C 0 0 dX5_look_33 rfl rfl ?_
      refine y_getI C 4 _ _ fX5_look_38 rfl rfl ft_4_11 sb_4_11 hM140 dX5_look_34 (fun a142 ea142 la142 ua142 => ?_)
      refine y_icmp_gt C 64 dX5_look_37 (by decide) (by omega) (fun h144 => ?_) (fun h144 => ?_)
      · exact hret _ _ _ dX5_look_64 hM140
      · refine j_aload_n C 0 0 dX5_look_40 rfl rfl ?_
        refine y_getC C 4 90 fX5_look_15 rfl rfl ft_4_2 sm_4_2 rfl hM140 dX5_look_41 ?_
        refine j_iload C 2 dX5_look_44 rfl ?_
        refine y_iald C 39 256 _ _ rfl rfl rfl ak_39 an_39 rfl (sb_39 _) hM140 dX5_look_46 (by omega) (fun a145 ea145 la145 ua145 => ?_)
        refine y_iconst C dX5_look_47 ?_
        refine y_icmp_ne C 58 dX5_look_48 (by decide) (by omega) (fun h146 => ?_) (fun h146 => ?_)
        · refine y_iinc C 2 [(4, .int (sI (a139 + 1))), (0, .ref (ad 88)), (3, .int (sI a3))] dX5_look_58 rfl (by decide) rfl ?_
          refine j_goto C 31 dX5_look_61 (by decide) ?_
          refine j_lv [1, 2, 0] rfl ?_; exact ih137 (a139 + 1) M140 (by omega) hM140
        · refine j_aload_n C 0 0 dX5_look_51 rfl rfl ?_
          refine j_iload C 2 dX5_look_52 rfl ?_
          refine j_iload_n C 1 3 dX5_look_54 rfl rfl ?_
          refine j_callVv C (d := 4) (As := [.int (sI a139), .int (sI a3)]) (st := []) 88 (s_lt rfl rfl) (s_kc (c := 4) rfl rfl) (by decide) rfl (s1_X5_meet hM140 hpr a139 (by omega) a3 (by omega) (by omega)) gX5_look_X5_meet rfl hdX5_meet (by decide) (Nat.le_of_ble_eq_true rfl) dX5_look_55 rfl (fun M148 h149 => ?_)
          have hM148 := h149
          refine y_iinc C 2 [(4, .int (sI (a139 + 1))), (0, .ref (ad 88)), (3, .int (sI a3))] dX5_look_58 rfl (by decide) rfl ?_
          refine j_goto C 31 dX5_look_61 (by decide) ?_
          refine j_lv [1, 2, 0] rfl ?_; exact ih137 (a139 + 1) M148 (by omega) hM148
  refine j_lv [1, 4, 0] rfl ?_; exact L138 2010 a112 M111 (by omega) hM111
set_option maxHeartbeats 4000000 in
theorem s1_X5_isShutAt {l : Launch} {dC : Nat → ClassId} {dI : Nat → Nat → Nat} {ad : Nat → Nat} {cA : Nat → ClassId} {pr : Nat → Nat → Bool} {Kz : mm_M} {M0 : mm_M} (hM0 : INV pr Kz M0) (a1 : Int) (ha1 : -2147483648 ≤ a1 ∧ a1 ≤ 2147483647) : Ci l 0 yX5_isShutAt wsX5_isShutAt dC dI ad cA [.ref (ad 88), .int (sI a1)] M0 (fun r M' => ∃ a : Int, r = sI a ∧ M0 = M' ∧ 0 ≤ a ∧ a ≤ 1 ∧ ((a = 0) ∨ (a = 1))) := by
  refine ci_of (cc := cX5_isShutAt) (maxL := 2) (ty := .boolean) (lv := [(0, .ref (ad 88)), (1, .int (sI a1))]) (by decide) rfl (fun r M' hp => by obtain ⟨a, rfl, -, h⟩ := hp; rcases (show a = 0 ∨ a = 1 by omega) with rfl | rfl <;> rfl) (Nat.le_of_ble_eq_true rfl) rfl ?_
  intro p e s m args below meth c A Q C hret
  refine j_aload_n C 0 0 dX5_isShutAt_0 rfl rfl ?_
  refine y_getI C 4 _ _ fX5_isShutAt_42 rfl rfl ft_4_12 sb_4_12 hM0 dX5_isShutAt_1 (fun a101 ea101 la101 ua101 => ?_)
  refine j_iload_n C 1 1 dX5_isShutAt_4 rfl rfl ?_
  refine y_iconst C dX5_isShutAt_5 ?_
  refine y_not C dX5_isShutAt_6 ?_
  refine y_iandL C dX5_isShutAt_7 (by omega) (fun a103 la103 ua103 => ?_)
  refine y_if_ne C 15 dX5_isShutAt_8 (by decide) (by omega) (fun h104 => ?_) (fun h104 => ?_)
  · refine y_iconst C dX5_isShutAt_15 ?_
    exact hret _ _ _ _ dX5_isShutAt_16 ⟨0, rfl, rfl, by omega⟩
  · refine y_iconst C dX5_isShutAt_11 ?_
    refine j_goto C 16 dX5_isShutAt_12 (by decide) ?_
    exact hret _ _ _ _ dX5_isShutAt_16 ⟨1, rfl, rfl, by omega⟩
set_option maxHeartbeats 4000000 in
theorem s1_X5_pick {l : Launch} {dC : Nat → ClassId} {dI : Nat → Nat → Nat} {ad : Nat → Nat} {cA : Nat → ClassId} {pr : Nat → Nat → Bool} {Kz : mm_M} {M0 : mm_M} (hM0 : INV pr Kz M0) (a1 : Int) (ha1 : -2147483648 ≤ a1 ∧ a1 ≤ 2147483647) (a2 : Int) (ha2 : -2147483648 ≤ a2 ∧ a2 ≤ 2147483647) : Ci l 0 yX5_pick wsX5_pick dC dI ad cA [.ref (ad 88), .int (sI a1), .int (sI a2)] M0 (fun r M' => ∃ a : Int, r = sI a ∧ M0 = M' ∧ (-1) ≤ a ∧ a ≤ 7 ∧ ((a = (-1)) ∨ ((-1) ≤ a ∧ a ≤ 7))) := by
  refine ci_of (cc := cX5_pick) (maxL := 4) (ty := .int) (lv := [(0, .ref (ad 88)), (1, .int (sI a1)), (2, .int (sI a2))]) (by decide) rfl (fun r M' hp => rfl) (Nat.le_of_ble_eq_true rfl) rfl ?_
  intro p e s m args below meth c A Q C hret
  refine j_iload_n C 1 1 dX5_pick_0 rfl rfl ?_
  refine y_bipush C dX5_pick_1 rfl ?_
  refine y_imul0 C dX5_pick_3 (fun a101 la101 ua101 => ?_)
  refine j_iload_n C 2 2 dX5_pick_4 rfl rfl ?_
  refine y_iadd0 C dX5_pick_5 (fun a102 la102 ua102 => ?_)
  refine j_istore_n C 3 [(3, .int (sI a102)), (0, .ref (ad 88)), (1, .int (sI a1)), (2, .int (sI a2))] dX5_pick_6 rfl (by decide) rfl ?_
  refine j_iload_n C 0 3 dX5_pick_7 rfl rfl ?_
  refine y_if_lt C 29 dX5_pick_8 (by decide) (by omega) (fun h103 => ?_) (fun h103 => ?_)
  · refine y_iconst C dX5_pick_29 ?_
    exact hret _ _ _ _ dX5_pick_30 ⟨(-1), rfl, rfl, by omega⟩
  · refine j_iload_n C 0 3 dX5_pick_11 rfl rfl ?_
    refine j_aload_n C 1 0 dX5_pick_12 rfl rfl ?_
    refine y_getC C 4 89 fX5_pick_9 rfl rfl ft_4_1 sm_4_1 rfl hM0 dX5_pick_13 ?_
    refine y_alen C 38 1536 rfl rfl rfl an_38 rfl rfl dX5_pick_16 ?_
    refine y_icmp_ge C 29 dX5_pick_17 (by decide) (by omega) (fun h104 => ?_) (fun h104 => ?_)
    · refine y_iconst C dX5_pick_29 ?_
      exact hret _ _ _ _ dX5_pick_30 ⟨(-1), rfl, rfl, by omega⟩
    · refine j_aload_n C 1 0 dX5_pick_20 rfl rfl ?_
      refine y_getC C 4 89 fX5_pick_9 rfl rfl ft_4_1 sm_4_1 rfl hM0 dX5_pick_21 ?_
      refine j_iload_n C 0 3 dX5_pick_24 rfl rfl ?_
      refine y_iald C 38 1536 _ _ rfl rfl rfl ak_38 an_38 rfl (sb_38 _) hM0 dX5_pick_25 (by omega) (fun a105 ea105 la105 ua105 => ?_)
      refine j_goto C 30 dX5_pick_26 (by decide) ?_
      exact hret _ _ _ _ dX5_pick_30 ⟨a105, rfl, rfl, by omega⟩
set_option maxHeartbeats 4000000 in
theorem s1_X5_stepsFrom {l : Launch} {dC : Nat → ClassId} {dI : Nat → Nat → Nat} {ad : Nat → Nat} {cA : Nat → ClassId} {pr : Nat → Nat → Bool} {Kz : mm_M} {M0 : mm_M} (hM0 : INV pr Kz M0) (a1 : Int) (ha1 : -2147483648 ≤ a1 ∧ a1 ≤ 2147483647) (a2 : Int) (ha2 : -2147483648 ≤ a2 ∧ a2 ≤ 2147483647) (hp0 : 0 ≤ a1 ∧ a1 ≤ 255) : Ci l 1 yX5_stepsFrom wsX5_stepsFrom dC dI ad cA [.ref (ad 88), .int (sI a1), .int (sI a2)] M0 (fun r M' => ∃ a : Int, r = sI a ∧ M0 = M' ∧ (-2147483648) ≤ a ∧ a ≤ 2147483647) := by
  refine ci_of (cc := cX5_stepsFrom) (maxL := 7) (ty := .int) (lv := [(0, .ref (ad 88)), (1, .int (sI a1)), (2, .int (sI a2))]) (by decide) rfl (fun r M' hp => rfl) (Nat.le_of_ble_eq_true rfl) rfl ?_
  intro p e s m args below meth c A Q C hret
  refine y_iconst C dX5_stepsFrom_0 ?_
  refine j_istore_n C 3 [(3, .int (sI (-1))), (0, .ref (ad 88)), (1, .int (sI a1)), (2, .int (sI a2))] dX5_stepsFrom_1 rfl (by decide) rfl ?_
  refine y_iconst C dX5_stepsFrom_2 ?_
  refine j_istore C 4 [(4, .int (sI 0)), (3, .int (sI (-1))), (0, .ref (ad 88)), (1, .int (sI a1)), (2, .int (sI a2))] dX5_stepsFrom_3 (by decide) rfl ?_
  have L289 : ∀ (n287 : Nat), ∀ (a290 : Int) (a291 : Int), ((-2147483648) ≤ a290 ∧ a290 ≤ 2147483647 ∧ 0 ≤ a291 ∧ a291 ≤ 6 ∧ (6 - a291) < (n287 : Int)) → jj p l e (cn_R 1) s m args below meth c 0 0 Q 7 dC dI ad cA A M0 5 [(0, .ref (ad 88)), (1, .int (sI a1)), (2, .int (sI a2)), (3, .int (sI a290)), (4, .int (sI a291))] [] := by
    intro n287
    induction n287 with
    | zero =>
      intro a290 a291 h292
      exfalso; omega
    | succ n287 ih288 =>
      intro a290 a291 h292
      refine j_iload C 4 dX5_stepsFrom_5 rfl ?_
      refine j_aload_n C 0 0 dX5_stepsFrom_7 rfl rfl ?_
      refine y_getM C 4 6 fX5_stepsFrom_52 rfl rfl ft_4_9 sm_4_9 (by decide) hM0 dX5_stepsFrom_8 (fun v293 ev293 cv293 => ?_)
      refine y_getI C 6 _ _ fX5_stepsFrom_92 cv293 rfl ft_6_0 sb_6_0 hM0 dX5_stepsFrom_11 (fun a294 ea294 la294 ua294 => ?_)
      refine y_icmp_ge C 92 dX5_stepsFrom_14 (by decide) (by omega) (fun h296 => ?_) (fun h296 => ?_)
      · refine j_iload_n C 3 3 dX5_stepsFrom_92 rfl rfl ?_
        exact hret _ _ _ _ dX5_stepsFrom_93 ⟨a290, rfl, rfl, by omega⟩
      · refine j_aload_n C 0 0 dX5_stepsFrom_17 rfl rfl ?_
        refine j_iload_n C 1 1 dX5_stepsFrom_18 rfl rfl ?_
        refine j_iload C 4 dX5_stepsFrom_19 rfl ?_
        refine j_callVi C (d := 0) (As := [.int (sI a1), .int (sI a291)]) (st := []) 88 (s_lt rfl rfl) (s_kc (c := 4) rfl rfl) (by decide) rfl (s1_X5_pick hM0 a1 (by omega) a291 (by omega)) gX5_stepsFrom_X5_pick rfl hdX5_pick (by decide) (Nat.le_of_ble_eq_true rfl) dX5_stepsFrom_21 rfl (fun r297 M298 h299 => ?_)
        obtain ⟨a301, rfl, rfl, h300⟩ := h299
        refine j_istore C 5 [(5, .int (sI a301)), (0, .ref (ad 88)), (1, .int (sI a1)), (2, .int (sI a2)), (3, .int (sI a290)), (4, .int (sI a291))] dX5_stepsFrom_24 (by decide) rfl ?_
        refine j_iload_n C 3 2 dX5_stepsFrom_26 rfl rfl ?_
        refine j_iload C 5 dX5_stepsFrom_27 rfl ?_
        refine y_ishr0 C dX5_stepsFrom_29 (fun a302 la302 ua302 => ?_)
        refine y_iconst C dX5_stepsFrom_30 ?_
        refine y_iandR C dX5_stepsFrom_31 (by omega) (fun a303 la303 ua303 => ?_)
        refine y_iconst C dX5_stepsFrom_32 ?_
        refine y_icmp_ne C 86 dX5_stepsFrom_33 (by decide) (by omega) (fun h304 => ?_) (fun h304 => ?_)
        · refine y_iinc C 5 [(4, .int (sI (a291 + 1))), (5, .int (sI a301)), (0, .ref (ad 88)), (1, .int (sI a1)), (2, .int (sI a2)), (3, .int (sI a290))] dX5_stepsFrom_86 rfl (by decide) rfl ?_
          refine j_goto C 5 dX5_stepsFrom_89 (by decide) ?_
          refine j_lv [2, 3, 4, 5, 0] rfl ?_; exact ih288 a290 (a291 + 1) (by omega)
        · refine j_iload C 0 dX5_stepsFrom_36 rfl ?_
          refine y_if_lt C 86 dX5_stepsFrom_38 (by decide) (by omega) (fun h305 => ?_) (fun h305 => ?_)
          · refine y_iinc C 5 [(4, .int (sI (a291 + 1))), (5, .int (sI a301)), (0, .ref (ad 88)), (1, .int (sI a1)), (2, .int (sI a2)), (3, .int (sI a290))] dX5_stepsFrom_86 rfl (by decide) rfl ?_
            refine j_goto C 5 dX5_stepsFrom_89 (by decide) ?_
            refine j_lv [2, 3, 4, 5, 0] rfl ?_; exact ih288 a290 (a291 + 1) (by omega)
          · refine j_iload_n C 2 1 dX5_stepsFrom_41 rfl rfl ?_
            refine j_iload C 0 dX5_stepsFrom_42 rfl ?_
            refine y_ishrP C dX5_stepsFrom_44 (by omega) (fun a306 la306 ua306 => ?_)
            refine y_iconst C dX5_stepsFrom_45 ?_
            refine y_iandR C dX5_stepsFrom_46 (by omega) (fun a307 la307 ua307 => ?_)
            refine y_if_ne C 86 dX5_stepsFrom_47 (by decide) (by omega) (fun h308 => ?_) (fun h308 => ?_)
            · refine y_iinc C 5 [(4, .int (sI (a291 + 1))), (5, .int (sI a301)), (0, .ref (ad 88)), (1, .int (sI a1)), (2, .int (sI a2)), (3, .int (sI a290))] dX5_stepsFrom_86 rfl (by decide) rfl ?_
              refine j_goto C 5 dX5_stepsFrom_89 (by decide) ?_
              refine j_lv [2, 3, 4, 5, 0] rfl ?_; exact ih288 a290 (a291 + 1) (by omega)
            · refine j_aload_n C 1 0 dX5_stepsFrom_50 rfl rfl ?_
              refine y_getC C 4 91 fX5_stepsFrom_18 rfl rfl ft_4_3 sm_4_3 rfl hM0 dX5_stepsFrom_51 ?_
              refine j_iload_n C 2 1 dX5_stepsFrom_54 rfl rfl ?_
              refine y_iconst C dX5_stepsFrom_55 ?_
              refine j_iload C 0 dX5_stepsFrom_56 rfl ?_
              refine y_shl1 C 7 128 dX5_stepsFrom_58 rfl (by decide) (by omega) (fun a309 la309 ua309 => ?_)
              refine y_iorN C 8 255 dX5_stepsFrom_59 rfl (by decide) (by omega) (fun a310 la310 ua310 => ?_)
              refine y_iald C 40 256 _ _ rfl rfl rfl ak_40 an_40 rfl (sb_40 _) hM0 dX5_stepsFrom_60 (by omega) (fun a311 ea311 la311 ua311 => ?_)
              refine j_istore C 6 [(6, .int (sI a311)), (5, .int (sI a301)), (0, .ref (ad 88)), (1, .int (sI a1)), (2, .int (sI a2)), (3, .int (sI a290)), (4, .int (sI a291))] dX5_stepsFrom_61 (by decide) rfl ?_
              refine j_iload C 0 dX5_stepsFrom_63 rfl ?_
              refine y_if_lt C 86 dX5_stepsFrom_65 (by decide) (by omega) (fun h312 => ?_) (fun h312 => ?_)
              · refine y_iinc C 6 [(4, .int (sI (a291 + 1))), (6, .int (sI a311)), (5, .int (sI a301)), (0, .ref (ad 88)), (1, .int (sI a1)), (2, .int (sI a2)), (3, .int (sI a290))] dX5_stepsFrom_86 rfl (by decide) rfl ?_
                refine j_goto C 5 dX5_stepsFrom_89 (by decide) ?_
                refine j_lv [3, 4, 5, 6, 0] rfl ?_; exact ih288 a290 (a291 + 1) (by omega)
              · refine j_iload_n C 5 3 dX5_stepsFrom_68 rfl rfl ?_
                refine y_iconst C dX5_stepsFrom_69 ?_
                refine y_icmp_eq C 81 dX5_stepsFrom_70 (by decide) (by omega) (fun h313 => ?_) (fun h313 => ?_)
                · refine j_iload C 0 dX5_stepsFrom_81 rfl ?_
                  refine y_iconst C dX5_stepsFrom_83 ?_
                  refine y_iadd0 C dX5_stepsFrom_84 (fun a314 la314 ua314 => ?_)
                  refine j_istore_n C 3 [(3, .int (sI a314)), (6, .int (sI a311)), (5, .int (sI a301)), (0, .ref (ad 88)), (1, .int (sI a1)), (2, .int (sI a2)), (4, .int (sI a291))] dX5_stepsFrom_85 rfl (by decide) rfl ?_
                  refine y_iinc C 6 [(4, .int (sI (a291 + 1))), (3, .int (sI a314)), (6, .int (sI a311)), (5, .int (sI a301)), (0, .ref (ad 88)), (1, .int (sI a1)), (2, .int (sI a2))] dX5_stepsFrom_86 rfl (by decide) rfl ?_
                  refine j_goto C 5 dX5_stepsFrom_89 (by decide) ?_
                  refine j_lv [4, 5, 6, 1, 0] rfl ?_; exact ih288 a314 (a291 + 1) (by omega)
                · refine j_iload C 0 dX5_stepsFrom_73 rfl ?_
                  refine y_iconst C dX5_stepsFrom_75 ?_
                  refine y_iadd0 C dX5_stepsFrom_76 (fun a315 la315 ua315 => ?_)
                  refine j_iload_n C 5 3 dX5_stepsFrom_77 rfl rfl ?_
                  refine y_icmp_ge C 86 dX5_stepsFrom_78 (by decide) (by omega) (fun h316 => ?_) (fun h316 => ?_)
                  · refine y_iinc C 6 [(4, .int (sI (a291 + 1))), (6, .int (sI a311)), (5, .int (sI a301)), (0, .ref (ad 88)), (1, .int (sI a1)), (2, .int (sI a2)), (3, .int (sI a290))] dX5_stepsFrom_86 rfl (by decide) rfl ?_
                    refine j_goto C 5 dX5_stepsFrom_89 (by decide) ?_
                    refine j_lv [3, 4, 5, 6, 0] rfl ?_; exact ih288 a290 (a291 + 1) (by omega)
                  · refine j_iload C 0 dX5_stepsFrom_81 rfl ?_
                    refine y_iconst C dX5_stepsFrom_83 ?_
                    refine y_iadd0 C dX5_stepsFrom_84 (fun a317 la317 ua317 => ?_)
                    refine j_istore_n C 3 [(3, .int (sI a317)), (6, .int (sI a311)), (5, .int (sI a301)), (0, .ref (ad 88)), (1, .int (sI a1)), (2, .int (sI a2)), (4, .int (sI a291))] dX5_stepsFrom_85 rfl (by decide) rfl ?_
                    refine y_iinc C 6 [(4, .int (sI (a291 + 1))), (3, .int (sI a317)), (6, .int (sI a311)), (5, .int (sI a301)), (0, .ref (ad 88)), (1, .int (sI a1)), (2, .int (sI a2))] dX5_stepsFrom_86 rfl (by decide) rfl ?_
                    refine j_goto C 5 dX5_stepsFrom_89 (by decide) ?_
                    refine j_lv [4, 5, 6, 1, 0] rfl ?_; exact ih288 a317 (a291 + 1) (by omega)
  refine j_lv [2, 3, 4, 1, 0] rfl ?_; exact L289 4294967306 (-1) 0 (by omega)
set_option maxHeartbeats 4000000 in
theorem s1_X5_measure {l : Launch} {dC : Nat → ClassId} {dI : Nat → Nat → Nat} {ad : Nat → Nat} {cA : Nat → ClassId} {pr : Nat → Nat → Bool} {Kz : mm_M} {M0 : mm_M} (hM0 : INV pr Kz M0) (hpr : PX pr) (a1 : Int) (ha1 : -2147483648 ≤ a1 ∧ a1 ≤ 2147483647) : Ci l 2 yX5_measure wsX5_measure dC dI ad cA [.ref (ad 88), .int (sI a1)] M0 (fun r M' => ∃ a : Int, r = sI a ∧ INV pr Kz M' ∧ (-2147483648) ≤ a ∧ a ≤ 2147483647) := by
  refine ci_of (cc := cX5_measure) (maxL := 3) (ty := .int) (lv := [(0, .ref (ad 88)), (1, .int (sI a1))]) (by decide) rfl (fun r M' hp => rfl) (Nat.le_of_ble_eq_true rfl) rfl ?_
  intro p e s m args below meth c A Q C hret
  refine j_aload_n C 0 0 dX5_measure_0 rfl rfl ?_
  refine y_getI C 4 _ _ fX5_measure_38 rfl rfl ft_4_11 sb_4_11 hM0 dX5_measure_1 (fun a101 ea101 la101 ua101 => ?_)
  refine j_istore_n C 2 [(2, .int (sI a101)), (0, .ref (ad 88)), (1, .int (sI a1))] dX5_measure_4 rfl (by decide) rfl ?_
  have L145 : ∀ (n143 : Nat), ∀ (a146 : Int) (M147 : mm_M), ((-1) ≤ a146 ∧ a146 ≤ 255 ∧ (a146 - (-1)) < (n143 : Int)) → INV pr Kz M147 → jj p l e (cn_R 2) s m args below meth c 0 0 Q 3 dC dI ad cA A M147 5 [(0, .ref (ad 88)), (1, .int (sI a1)), (2, .int (sI a146))] [] := by
    intro n143
    induction n143 with
    | zero =>
      intro a146 M147 h148 hM147
      exfalso; omega
    | succ n143 ih144 =>
      intro a146 M147 h148 hM147
      refine j_iload_n C 2 2 dX5_measure_5 rfl rfl ?_
      refine j_aload_n C 0 0 dX5_measure_6 rfl rfl ?_
      refine y_getI C 4 _ _ fX5_measure_45 rfl rfl ft_4_13 sb_4_13 hM147 dX5_measure_7 (fun a149 ea149 la149 ua149 => ?_)
      refine y_icmp_lt C 53 dX5_measure_10 (by decide) (by omega) (fun h151 => ?_) (fun h151 => ?_)
      · refine j_aload_n C 0 0 dX5_measure_53 rfl rfl ?_
        refine y_getC C 4 91 fX5_measure_18 rfl rfl ft_4_3 sm_4_3 rfl hM147 dX5_measure_54 ?_
        refine j_aload_n C 0 0 dX5_measure_57 rfl rfl ?_
        refine y_getI C 4 _ _ fX5_measure_45 rfl rfl ft_4_13 sb_4_13 hM147 dX5_measure_58 (fun a167 ea167 la167 ua167 => ?_)
        refine y_iald C 40 256 _ _ rfl rfl rfl ak_40 an_40 rfl (sb_40 _) hM147 dX5_measure_61 (by omega) (fun a169 ea169 la169 ua169 => ?_)
        exact hret _ _ _ _ dX5_measure_62 ⟨a169, rfl, hM147, by omega⟩
      · refine j_aload_n C 0 0 dX5_measure_13 rfl rfl ?_
        refine y_getC C 4 90 fX5_measure_15 rfl rfl ft_4_2 sm_4_2 rfl hM147 dX5_measure_14 ?_
        refine j_iload_n C 2 2 dX5_measure_17 rfl rfl ?_
        refine y_iald C 39 256 _ _ rfl rfl rfl ak_39 an_39 rfl (sb_39 _) hM147 dX5_measure_18 (by omega) (fun a152 ea152 la152 ua152 => ?_)
        refine y_iconst C dX5_measure_19 ?_
        refine y_icmp_ne C 47 dX5_measure_20 (by decide) (by omega) (fun h153 => ?_) (fun h153 => ?_)
        · refine y_iinc C 2 [(2, .int (sI (a146 + (-1)))), (0, .ref (ad 88)), (1, .int (sI a1))] dX5_measure_47 rfl (by decide) rfl ?_
          refine j_goto C 5 dX5_measure_50 (by decide) ?_
          refine j_lv [1, 2, 0] rfl ?_; exact ih144 (a146 + (-1)) M147 (by omega) hM147
        · refine j_aload_n C 0 0 dX5_measure_23 rfl rfl ?_
          refine y_getC C 4 91 fX5_measure_18 rfl rfl ft_4_3 sm_4_3 rfl hM147 dX5_measure_24 ?_
          refine j_iload_n C 2 2 dX5_measure_27 rfl rfl ?_
          refine j_aload_n C 0 0 dX5_measure_28 rfl rfl ?_
          refine j_iload_n C 2 2 dX5_measure_29 rfl rfl ?_
          refine j_callVi C (d := 0) (As := [.int (sI a146)]) (st := [.int (sI a146), .ref (ad 91)]) 88 (s_lt rfl rfl) (s_kc (c := 4) rfl rfl) (by decide) rfl (s1_X5_isShutAt hM147 a146 (by omega)) gX5_measure_X5_isShutAt rfl hdX5_isShutAt (by decide) (Nat.le_of_ble_eq_true rfl) dX5_measure_30 rfl (fun r154 M155 h156 => ?_)
          obtain ⟨a158, rfl, rfl, h157⟩ := h156
          refine y_if_eq C 40 dX5_measure_33 (by decide) (by omega) (fun h159 => ?_) (fun h159 => ?_)
          · refine j_aload_n C 0 0 dX5_measure_40 rfl rfl ?_
            refine j_iload_n C 2 2 dX5_measure_41 rfl rfl ?_
            refine j_iload_n C 1 1 dX5_measure_42 rfl rfl ?_
            refine j_callVi C (d := 1) (As := [.int (sI a146), .int (sI a1)]) (st := [.int (sI a146), .ref (ad 91)]) 88 (s_lt rfl rfl) (s_kc (c := 4) rfl rfl) (by decide) rfl (s1_X5_stepsFrom hM147 a146 (by omega) a1 (by omega) (by omega)) gX5_measure_X5_stepsFrom rfl hdX5_stepsFrom (by decide) (Nat.le_of_ble_eq_true rfl) dX5_measure_43 rfl (fun r160 M161 h162 => ?_)
            obtain ⟨a164, rfl, rfl, h163⟩ := h162
            refine y_iastF C 40 256 rfl rfl rfl ak_40 an_40 rfl (sb_40 _) hM147 (PX.w hpr rfl rfl) dX5_measure_46 (by omega) (fun M165 eM165 hM165 => ?_)
            refine y_iinc C 2 [(2, .int (sI (a146 + (-1)))), (0, .ref (ad 88)), (1, .int (sI a1))] dX5_measure_47 rfl (by decide) rfl ?_
            refine j_goto C 5 dX5_measure_50 (by decide) ?_
            refine j_lv [1, 2, 0] rfl ?_; exact ih144 (a146 + (-1)) M165 (by omega) hM165
          · refine y_iconst C dX5_measure_36 ?_
            refine j_goto C 46 dX5_measure_37 (by decide) ?_
            refine y_iastF C 40 256 rfl rfl rfl ak_40 an_40 rfl (sb_40 _) hM147 (PX.w hpr rfl rfl) dX5_measure_46 (by omega) (fun M166 eM166 hM166 => ?_)
            refine y_iinc C 2 [(2, .int (sI (a146 + (-1)))), (0, .ref (ad 88)), (1, .int (sI a1))] dX5_measure_47 rfl (by decide) rfl ?_
            refine j_goto C 5 dX5_measure_50 (by decide) ?_
            refine j_lv [1, 2, 0] rfl ?_; exact ih144 (a146 + (-1)) M166 (by omega) hM166
  refine j_lv [1, 2, 0] rfl ?_; exact L145 2010 a101 M0 (by omega) hM0
set_option maxHeartbeats 4000000 in
theorem s1_X5_shortest {l : Launch} {dC : Nat → ClassId} {dI : Nat → Nat → Nat} {ad : Nat → Nat} {cA : Nat → ClassId} {pr : Nat → Nat → Bool} {Kz : mm_M} {M0 : mm_M} (hM0 : INV pr Kz M0) (hpr : PX pr)  : Ci l 3 yX5_shortest wsX5_shortest dC dI ad cA [.ref (ad 88)] M0 (fun r M' => ∃ a : Int, r = sI a ∧ INV pr Kz M' ∧ (-2147483648) ≤ a ∧ a ≤ 2147483647) := by
  refine ci_of (cc := cX5_shortest) (maxL := 1) (ty := .int) (lv := [(0, .ref (ad 88))]) (by decide) rfl (fun r M' hp => rfl) (Nat.le_of_ble_eq_true rfl) rfl ?_
  intro p e s m args below meth c A Q C hret
  refine j_aload_n C 0 0 dX5_shortest_0 rfl rfl ?_
  refine y_iconst C dX5_shortest_1 ?_
  refine j_aload_n C 0 0 dX5_shortest_2 rfl rfl ?_
  refine y_getM C 4 6 fX5_shortest_52 rfl rfl ft_4_9 sm_4_9 (by decide) hM0 dX5_shortest_3 (fun v101 ev101 cv101 => ?_)
  refine y_getI C 6 _ _ fX5_shortest_92 cv101 rfl ft_6_0 sb_6_0 hM0 dX5_shortest_6 (fun a102 ea102 la102 ua102 => ?_)
  refine y_shl1 C 6 64 dX5_shortest_9 rfl (by decide) (by omega) (fun a104 la104 ua104 => ?_)
  refine y_iconst C dX5_shortest_10 ?_
  refine y_isub C dX5_shortest_11 ?_
  refine j_callVi C (d := 2) (As := [.int (sI (a104 - 1))]) (st := []) 88 (s_lt rfl rfl) (s_kc (c := 4) rfl rfl) (by decide) rfl (s1_X5_measure hM0 hpr (a104 - 1) (by omega)) gX5_shortest_X5_measure rfl hdX5_measure (by decide) (Nat.le_of_ble_eq_true rfl) dX5_shortest_12 rfl (fun r105 M106 h107 => ?_)
  obtain ⟨a109, rfl, hM106, h108⟩ := h107
  exact hret _ _ _ _ dX5_shortest_15 ⟨a109, rfl, hM106, by omega⟩
set_option maxHeartbeats 4000000 in
theorem s1_X11_ending {l : Launch} {dC : Nat → ClassId} {dI : Nat → Nat → Nat} {ad : Nat → Nat} {cA : Nat → ClassId} {pr : Nat → Nat → Bool} {Kz : mm_M} {M0 : mm_M} (hM0 : INV pr Kz M0) (hpr : PX pr)  : Ci l 6 yX11_ending wsX11_ending dC dI ad cA [.ref (ad 0)] M0 (fun r M' => ∃ a : Int, r = sI a ∧ INV pr Kz M' ∧ (-2147483648) ≤ a ∧ a ≤ 2147483647) := by
  refine ci_of (cc := cX11_ending) (maxL := 1) (ty := .int) (lv := [(0, .ref (ad 0))]) (by decide) rfl (fun r M' hp => rfl) (Nat.le_of_ble_eq_true rfl) rfl ?_
  intro p e s m args below meth c A Q C hret
  refine j_aload_n C 0 0 dX11_ending_0 rfl rfl ?_
  refine y_getC C 10 88 fX11_ending_94 rfl rfl ft_10_14 sm_10_14 rfl hM0 dX11_ending_1 ?_
  refine j_aload_n C 0 0 dX11_ending_4 rfl rfl ?_
  refine y_getM C 10 6 fX11_ending_26 rfl rfl ft_10_4 sm_10_4 (by decide) hM0 dX11_ending_5 (fun v101 ev101 cv101 => ?_)
  refine j_aload_n C 0 0 dX11_ending_8 rfl rfl ?_
  refine y_getC C 10 12 fX11_ending_36 rfl rfl ft_10_6 sm_10_6 rfl hM0 dX11_ending_9 ?_
  refine j_aload_n C 0 0 dX11_ending_12 rfl rfl ?_
  refine y_getC C 10 12 fX11_ending_36 rfl rfl ft_10_6 sm_10_6 rfl hM0 dX11_ending_13 ?_
  refine y_getI C 8 _ _ fX11_ending_153 rfl rfl ft_8_4 sb_8_4 hM0 dX11_ending_16 (fun a102 ea102 la102 ua102 => ?_)
  refine j_callVv C (d := 5) (As := [.ref (ad v101), .ref (ad 12), .int (sI a102)]) (st := []) 88 (s_lt rfl rfl) (s_kc (c := 4) rfl rfl) (by decide) rfl (s1_X5_look hM0 hpr cv101 rfl a102 (by omega)) gX11_ending_X5_look rfl hdX5_look (by decide) (Nat.le_of_ble_eq_true rfl) dX11_ending_19 rfl (fun M105 h106 => ?_)
  have hM105 := h106
  refine j_aload_n C 0 0 dX11_ending_22 rfl rfl ?_
  refine y_getC C 10 88 fX11_ending_94 rfl rfl ft_10_14 sm_10_14 rfl hM105 dX11_ending_23 ?_
  refine j_callVi C (d := 3) (As := []) (st := []) 88 (s_lt rfl rfl) (s_kc (c := 4) rfl rfl) (by decide) rfl (s1_X5_shortest hM105 hpr) gX11_ending_X5_shortest rfl hdX5_shortest (by decide) (Nat.le_of_ble_eq_true rfl) dX11_ending_26 rfl (fun r108 M109 h110 => ?_)
  obtain ⟨a112, rfl, hM109, h111⟩ := h110
  exact hret _ _ _ _ dX11_ending_29 ⟨a112, rfl, hM109, by omega⟩
set_option maxHeartbeats 4000000 in
theorem s2_X5_pick {l : Launch} {dC : Nat → ClassId} {dI : Nat → Nat → Nat} {ad : Nat → Nat} {cA : Nat → ClassId} {pr : Nat → Nat → Bool} {Kz : mm_M} {M0 : mm_M} (hM0 : INV pr Kz M0) (a1 : Int) (ha1 : -2147483648 ≤ a1 ∧ a1 ≤ 2147483647) (a2 : Int) (ha2 : -2147483648 ≤ a2 ∧ a2 ≤ 2147483647) (hp0 : 0 ≤ a1 ∧ a1 ≤ 255) (hp1 : 0 ≤ a2 ∧ a2 ≤ 5) : Ci l 0 yX5_pick wsX5_pick dC dI ad cA [.ref (ad 88), .int (sI a1), .int (sI a2)] M0 (fun r M' => ∃ a : Int, r = sI a ∧ M0 = M' ∧ (-1) ≤ a ∧ a ≤ 7 ∧ ((0 ≤ ((a1 * 6) + a2) ∧ ((a1 * 6) + a2) < 1536 ∧ a = (M0.1 89 (((a1 * 6) + a2)).toNat).toInt))) := by
  refine ci_of (cc := cX5_pick) (maxL := 4) (ty := .int) (lv := [(0, .ref (ad 88)), (1, .int (sI a1)), (2, .int (sI a2))]) (by decide) rfl (fun r M' hp => rfl) (Nat.le_of_ble_eq_true rfl) rfl ?_
  intro p e s m args below meth c A Q C hret
  refine j_iload_n C 1 1 dX5_pick_0 rfl rfl ?_
  refine y_bipush C dX5_pick_1 rfl ?_
  refine y_imul C dX5_pick_3 ?_
  refine j_iload_n C 2 2 dX5_pick_4 rfl rfl ?_
  refine y_iadd C dX5_pick_5 ?_
  refine j_istore_n C 3 [(3, .int (sI ((a1 * 6) + a2))), (0, .ref (ad 88)), (1, .int (sI a1)), (2, .int (sI a2))] dX5_pick_6 rfl (by decide) rfl ?_
  refine j_iload_n C 0 3 dX5_pick_7 rfl rfl ?_
  refine y_if_lt C 29 dX5_pick_8 (by decide) (by omega) (fun h101 => ?_) (fun h101 => ?_)
  · exfalso; omega
  · refine j_iload_n C 0 3 dX5_pick_11 rfl rfl ?_
    refine j_aload_n C 1 0 dX5_pick_12 rfl rfl ?_
    refine y_getC C 4 89 fX5_pick_9 rfl rfl ft_4_1 sm_4_1 rfl hM0 dX5_pick_13 ?_
    refine y_alen C 38 1536 rfl rfl rfl an_38 rfl rfl dX5_pick_16 ?_
    refine y_icmp_ge C 29 dX5_pick_17 (by decide) (by omega) (fun h102 => ?_) (fun h102 => ?_)
    · exfalso; omega
    · refine j_aload_n C 1 0 dX5_pick_20 rfl rfl ?_
      refine y_getC C 4 89 fX5_pick_9 rfl rfl ft_4_1 sm_4_1 rfl hM0 dX5_pick_21 ?_
      refine j_iload_n C 0 3 dX5_pick_24 rfl rfl ?_
      refine y_iald C 38 1536 _ _ rfl rfl rfl ak_38 an_38 rfl (sb_38 _) hM0 dX5_pick_25 (by omega) (fun a103 ea103 la103 ua103 => ?_)
      refine j_goto C 30 dX5_pick_26 (by decide) ?_
      exact hret _ _ _ _ dX5_pick_30 ⟨a103, rfl, rfl, by omega⟩
set_option maxHeartbeats 4000000 in
theorem s1_X5_nearestComer {l : Launch} {dC : Nat → ClassId} {dI : Nat → Nat → Nat} {ad : Nat → Nat} {cA : Nat → ClassId} {pr : Nat → Nat → Bool} {Kz : mm_M} {M0 : mm_M} (hM0 : INV pr Kz M0) (a1 : Int) (ha1 : -2147483648 ≤ a1 ∧ a1 ≤ 2147483647) (hp0 : 0 ≤ a1 ∧ a1 ≤ 255) : Ci l 1 yX5_nearestComer wsX5_nearestComer dC dI ad cA [.ref (ad 88), .int (sI a1)] M0 (fun r M' => ∃ a : Int, r = sI a ∧ M0 = M' ∧ (-1) ≤ a ∧ a ≤ 5 ∧ (a = -1 ∨ 0 ≤ a ∧ a < 6 ∧ 0 ≤ (M0.1 89 ((a1 * 6) + a).toNat).toInt)) := by
  refine ci_of (cc := cX5_nearestComer) (maxL := 4) (ty := .int) (lv := [(0, .ref (ad 88)), (1, .int (sI a1))]) (by decide) rfl (fun r M' hp => rfl) (Nat.le_of_ble_eq_true rfl) rfl ?_
  intro p e s m args below meth c A Q C hret
  refine y_iconst C dX5_nearestComer_0 ?_
  refine j_istore_n C 2 [(2, .int (sI 0)), (0, .ref (ad 88)), (1, .int (sI a1))] dX5_nearestComer_1 rfl (by decide) rfl ?_
  have L264 : ∀ (n262 : Nat), ∀ (a265 : Int), (0 ≤ a265 ∧ a265 ≤ 6 ∧ (6 - a265) < (n262 : Int)) → jj p l e (cn_R 1) s m args below meth c 0 0 Q 4 dC dI ad cA A M0 2 [(0, .ref (ad 88)), (1, .int (sI a1)), (2, .int (sI a265))] [] := by
    intro n262
    induction n262 with
    | zero =>
      intro a265 h266
      exfalso; omega
    | succ n262 ih263 =>
      intro a265 h266
      refine j_iload_n C 2 2 dX5_nearestComer_2 rfl rfl ?_
      refine j_aload_n C 0 0 dX5_nearestComer_3 rfl rfl ?_
      refine y_getM C 4 6 fX5_nearestComer_52 rfl rfl ft_4_9 sm_4_9 (by decide) hM0 dX5_nearestComer_4 (fun v267 ev267 cv267 => ?_)
      refine y_getI C 6 _ _ fX5_nearestComer_92 cv267 rfl ft_6_0 sb_6_0 hM0 dX5_nearestComer_7 (fun a268 ea268 la268 ua268 => ?_)
      refine y_icmp_ge C 72 dX5_nearestComer_10 (by decide) (by omega) (fun h270 => ?_) (fun h270 => ?_)
      · refine y_iconst C dX5_nearestComer_72 ?_
        exact hret _ _ _ _ dX5_nearestComer_73 ⟨(-1), rfl, rfl, by omega⟩
      · refine j_aload_n C 0 0 dX5_nearestComer_13 rfl rfl ?_
        refine j_iload_n C 1 1 dX5_nearestComer_14 rfl rfl ?_
        refine j_iload_n C 2 2 dX5_nearestComer_15 rfl rfl ?_
        refine j_callVi C (d := 0) (As := [.int (sI a1), .int (sI a265)]) (st := []) 88 (s_lt rfl rfl) (s_kc (c := 4) rfl rfl) (by decide) rfl (s2_X5_pick hM0 a1 (by omega) a265 (by omega) (by omega) (by omega)) gX5_nearestComer_X5_pick rfl hdX5_pick (by decide) (Nat.le_of_ble_eq_true rfl) dX5_nearestComer_16 rfl (fun r271 M272 h273 => ?_)
        obtain ⟨a275, rfl, rfl, h274⟩ := h273
        refine j_istore_n C 3 [(3, .int (sI a275)), (0, .ref (ad 88)), (1, .int (sI a1)), (2, .int (sI a265))] dX5_nearestComer_19 rfl (by decide) rfl ?_
        refine j_iload_n C 0 3 dX5_nearestComer_20 rfl rfl ?_
        refine y_if_lt C 66 dX5_nearestComer_21 (by decide) (by omega) (fun h276 => ?_) (fun h276 => ?_)
        · refine y_iinc C 3 [(2, .int (sI (a265 + 1))), (3, .int (sI a275)), (0, .ref (ad 88)), (1, .int (sI a1))] dX5_nearestComer_66 rfl (by decide) rfl ?_
          refine j_goto C 2 dX5_nearestComer_69 (by decide) ?_
          refine j_lv [2, 3, 0] rfl ?_; exact ih263 (a265 + 1) (by omega)
        · refine j_iload_n C 2 1 dX5_nearestComer_24 rfl rfl ?_
          refine j_iload_n C 0 3 dX5_nearestComer_25 rfl rfl ?_
          refine y_ishrP C dX5_nearestComer_26 (by omega) (fun a277 la277 ua277 => ?_)
          refine y_iconst C dX5_nearestComer_27 ?_
          refine y_iandR C dX5_nearestComer_28 (by omega) (fun a278 la278 ua278 => ?_)
          refine y_if_ne C 66 dX5_nearestComer_29 (by decide) (by omega) (fun h279 => ?_) (fun h279 => ?_)
          · refine y_iinc C 3 [(2, .int (sI (a265 + 1))), (3, .int (sI a275)), (0, .ref (ad 88)), (1, .int (sI a1))] dX5_nearestComer_66 rfl (by decide) rfl ?_
            refine j_goto C 2 dX5_nearestComer_69 (by decide) ?_
            refine j_lv [2, 3, 0] rfl ?_; exact ih263 (a265 + 1) (by omega)
          · refine j_aload_n C 1 0 dX5_nearestComer_32 rfl rfl ?_
            refine y_getC C 4 91 fX5_nearestComer_18 rfl rfl ft_4_3 sm_4_3 rfl hM0 dX5_nearestComer_33 ?_
            refine j_iload_n C 2 1 dX5_nearestComer_36 rfl rfl ?_
            refine y_iconst C dX5_nearestComer_37 ?_
            refine j_iload_n C 0 3 dX5_nearestComer_38 rfl rfl ?_
            refine y_shl1 C 7 128 dX5_nearestComer_39 rfl (by decide) (by omega) (fun a280 la280 ua280 => ?_)
            refine y_iorN C 8 255 dX5_nearestComer_40 rfl (by decide) (by omega) (fun a281 la281 ua281 => ?_)
            refine y_iald C 40 256 _ _ rfl rfl rfl ak_40 an_40 rfl (sb_40 _) hM0 dX5_nearestComer_41 (by omega) (fun a282 ea282 la282 ua282 => ?_)
            refine y_if_lt C 66 dX5_nearestComer_42 (by decide) (by omega) (fun h283 => ?_) (fun h283 => ?_)
            · refine y_iinc C 3 [(2, .int (sI (a265 + 1))), (3, .int (sI a275)), (0, .ref (ad 88)), (1, .int (sI a1))] dX5_nearestComer_66 rfl (by decide) rfl ?_
              refine j_goto C 2 dX5_nearestComer_69 (by decide) ?_
              refine j_lv [2, 3, 0] rfl ?_; exact ih263 (a265 + 1) (by omega)
            · refine j_aload_n C 1 0 dX5_nearestComer_45 rfl rfl ?_
              refine y_getC C 4 91 fX5_nearestComer_18 rfl rfl ft_4_3 sm_4_3 rfl hM0 dX5_nearestComer_46 ?_
              refine j_iload_n C 2 1 dX5_nearestComer_49 rfl rfl ?_
              refine y_iconst C dX5_nearestComer_50 ?_
              refine j_iload_n C 0 3 dX5_nearestComer_51 rfl rfl ?_
              refine y_shl1 C 7 128 dX5_nearestComer_52 rfl (by decide) (by omega) (fun a284 la284 ua284 => ?_)
              refine y_iorN C 8 255 dX5_nearestComer_53 rfl (by decide) (by omega) (fun a285 la285 ua285 => ?_)
              refine y_iald C 40 256 _ _ rfl rfl rfl ak_40 an_40 rfl (sb_40 _) hM0 dX5_nearestComer_54 (by omega) (fun a286 ea286 la286 ua286 => ?_)
              refine j_aload_n C 1 0 dX5_nearestComer_55 rfl rfl ?_
              refine y_getC C 4 91 fX5_nearestComer_18 rfl rfl ft_4_3 sm_4_3 rfl hM0 dX5_nearestComer_56 ?_
              refine j_iload_n C 2 1 dX5_nearestComer_59 rfl rfl ?_
              refine y_iald C 40 256 _ _ rfl rfl rfl ak_40 an_40 rfl (sb_40 _) hM0 dX5_nearestComer_60 (by omega) (fun a287 ea287 la287 ua287 => ?_)
              refine y_icmp_ge C 66 dX5_nearestComer_61 (by decide) (by omega) (fun h288 => ?_) (fun h288 => ?_)
              · refine y_iinc C 3 [(2, .int (sI (a265 + 1))), (3, .int (sI a275)), (0, .ref (ad 88)), (1, .int (sI a1))] dX5_nearestComer_66 rfl (by decide) rfl ?_
                refine j_goto C 2 dX5_nearestComer_69 (by decide) ?_
                refine j_lv [2, 3, 0] rfl ?_; exact ih263 (a265 + 1) (by omega)
              · refine j_iload_n C 3 2 dX5_nearestComer_64 rfl rfl ?_
                exact hret _ _ _ _ dX5_nearestComer_65 ⟨a265, rfl, rfl, by omega⟩
  refine j_lv [1, 2, 0] rfl ?_; exact L264 2010 0 (by omega)
set_option maxHeartbeats 4000000 in
theorem s1_X5_comerAt {l : Launch} {dC : Nat → ClassId} {dI : Nat → Nat → Nat} {ad : Nat → Nat} {cA : Nat → ClassId} {pr : Nat → Nat → Bool} {Kz : mm_M} {M0 : mm_M} (hM0 : INV pr Kz M0) (a1 : Int) (ha1 : -2147483648 ≤ a1 ∧ a1 ≤ 2147483647) : Ci l 2 yX5_comerAt wsX5_comerAt dC dI ad cA [.ref (ad 88), .int (sI a1)] M0 (fun r M' => ∃ a : Int, r = sI a ∧ M0 = M' ∧ (-1) ≤ a ∧ a ≤ 5) := by
  refine ci_of (cc := cX5_comerAt) (maxL := 5) (ty := .int) (lv := [(0, .ref (ad 88)), (1, .int (sI a1))]) (by decide) rfl (fun r M' hp => rfl) (Nat.le_of_ble_eq_true rfl) rfl ?_
  intro p e s m args below meth c A Q C hret
  refine j_aload_n C 0 0 dX5_comerAt_0 rfl rfl ?_
  refine y_getI C 4 _ _ fX5_comerAt_45 rfl rfl ft_4_13 sb_4_13 hM0 dX5_comerAt_1 (fun a101 ea101 la101 ua101 => ?_)
  refine j_istore_n C 2 [(2, .int (sI a101)), (0, .ref (ad 88)), (1, .int (sI a1))] dX5_comerAt_4 rfl (by decide) rfl ?_
  refine y_iconst C dX5_comerAt_5 ?_
  refine j_istore_n C 3 [(3, .int (sI (-1))), (2, .int (sI a101)), (0, .ref (ad 88)), (1, .int (sI a1))] dX5_comerAt_6 rfl (by decide) rfl ?_
  refine y_iconst C dX5_comerAt_7 ?_
  refine j_istore C 4 [(4, .int (sI 0)), (3, .int (sI (-1))), (2, .int (sI a101)), (0, .ref (ad 88)), (1, .int (sI a1))] dX5_comerAt_8 (by decide) rfl ?_
  have L285 : ∀ (n283 : Nat), ∀ (a286 : Int) (a287 : Int) (a288 : Int), (0 ≤ a286 ∧ a286 ≤ 255 ∧ (-1) ≤ a287 ∧ a287 ≤ 5 ∧ 0 ≤ a288 ∧ a288 ≤ 9 ∧ (9 - a288) < (n283 : Int)) → jj p l e (cn_R 2) s m args below meth c 0 0 Q 5 dC dI ad cA A M0 10 [(0, .ref (ad 88)), (1, .int (sI a1)), (2, .int (sI a286)), (3, .int (sI a287)), (4, .int (sI a288))] [] := by
    intro n283
    induction n283 with
    | zero =>
      intro a286 a287 a288 h289
      exfalso; omega
    | succ n283 ih284 =>
      intro a286 a287 a288 h289
      refine j_iload C 4 dX5_comerAt_10 rfl ?_
      refine j_iload_n C 1 1 dX5_comerAt_12 rfl rfl ?_
      refine y_icmp_gt C 53 dX5_comerAt_13 (by decide) (by omega) (fun h290 => ?_) (fun h290 => ?_)
      · refine j_iload_n C 3 3 dX5_comerAt_53 rfl rfl ?_
        exact hret _ _ _ _ dX5_comerAt_54 ⟨a287, rfl, rfl, by omega⟩
      · refine j_iload C 4 dX5_comerAt_16 rfl ?_
        refine y_bipush C dX5_comerAt_18 rfl ?_
        refine y_icmp_gt C 53 dX5_comerAt_20 (by decide) (by omega) (fun h291 => ?_) (fun h291 => ?_)
        · refine j_iload_n C 3 3 dX5_comerAt_53 rfl rfl ?_
          exact hret _ _ _ _ dX5_comerAt_54 ⟨a287, rfl, rfl, by omega⟩
        · refine j_aload_n C 0 0 dX5_comerAt_23 rfl rfl ?_
          refine j_iload_n C 2 2 dX5_comerAt_24 rfl rfl ?_
          refine j_callVi C (d := 1) (As := [.int (sI a286)]) (st := []) 88 (s_lt rfl rfl) (s_kc (c := 4) rfl rfl) (by decide) rfl (s1_X5_nearestComer hM0 a286 (by omega) (by omega)) gX5_comerAt_X5_nearestComer rfl hdX5_nearestComer (by decide) (Nat.le_of_ble_eq_true rfl) dX5_comerAt_25 rfl (fun r292 M293 h294 => ?_)
          obtain ⟨a296, rfl, rfl, h295⟩ := h294
          refine j_istore_n C 3 [(3, .int (sI a296)), (0, .ref (ad 88)), (1, .int (sI a1)), (2, .int (sI a286)), (4, .int (sI a288))] dX5_comerAt_28 rfl (by decide) rfl ?_
          refine j_iload_n C 0 3 dX5_comerAt_29 rfl rfl ?_
          refine y_iconst C dX5_comerAt_30 ?_
          refine y_icmp_ne C 36 dX5_comerAt_31 (by decide) (by omega) (fun h297 => ?_) (fun h297 => ?_)
          · refine j_iload_n C 3 2 dX5_comerAt_36 rfl rfl ?_
            refine y_iconst C dX5_comerAt_37 ?_
            refine j_aload_n C 1 0 dX5_comerAt_38 rfl rfl ?_
            refine j_iload_n C 3 2 dX5_comerAt_39 rfl rfl ?_
            refine j_iload_n C 0 3 dX5_comerAt_40 rfl rfl ?_
            refine j_callVi C (d := 0) (As := [.int (sI a286), .int (sI a296)]) (st := [.int (sI 1), .int (sI a286)]) 88 (s_lt rfl rfl) (s_kc (c := 4) rfl rfl) (by decide) rfl (s2_X5_pick hM0 a286 (by omega) a296 (by omega) (by omega) (by omega)) gX5_comerAt_X5_pick rfl hdX5_pick (by decide) (Nat.le_of_ble_eq_true rfl) dX5_comerAt_41 rfl (fun r298 M299 h300 => ?_)
            obtain ⟨a302, rfl, rfl, h301⟩ := h300
            have na302 : 0 ≤ a302 ∧ a302 ≤ 7 := by omega
            refine y_shl1 C 7 128 dX5_comerAt_44 rfl (by decide) (by omega) (fun a303 la303 ua303 => ?_)
            refine y_iorN C 8 255 dX5_comerAt_45 rfl (by decide) (by omega) (fun a304 la304 ua304 => ?_)
            refine j_istore_n C 2 [(2, .int (sI a304)), (3, .int (sI a296)), (0, .ref (ad 88)), (1, .int (sI a1)), (4, .int (sI a288))] dX5_comerAt_46 rfl (by decide) rfl ?_
            refine y_iinc C 4 [(4, .int (sI (a288 + 1))), (2, .int (sI a304)), (3, .int (sI a296)), (0, .ref (ad 88)), (1, .int (sI a1))] dX5_comerAt_47 rfl (by decide) rfl ?_
            refine j_goto C 10 dX5_comerAt_50 (by decide) ?_
            refine j_lv [3, 4, 1, 2, 0] rfl ?_; exact ih284 a304 a296 (a288 + 1) (by omega)
          · refine y_iconst C dX5_comerAt_34 ?_
            exact hret _ _ _ _ dX5_comerAt_35 ⟨(-1), rfl, rfl, by omega⟩
  refine j_lv [3, 4, 2, 1, 0] rfl ?_; exact L285 2010 a101 (-1) 0 (by omega)
set_option maxHeartbeats 4000000 in
theorem s1_X11_endingBy {l : Launch} {dC : Nat → ClassId} {dI : Nat → Nat → Nat} {ad : Nat → Nat} {cA : Nat → ClassId} {pr : Nat → Nat → Bool} {Kz : mm_M} {M0 : mm_M} (hM0 : INV pr Kz M0) (hpr : PX pr) (a1 : Int) (ha1 : -2147483648 ≤ a1 ∧ a1 ≤ 2147483647) : Ci l 6 yX11_endingBy wsX11_endingBy dC dI ad cA [.ref (ad 0), .int (sI a1)] M0 (fun r M' => ∃ a : Int, r = sI a ∧ INV pr Kz M' ∧ (-3) ≤ a ∧ a ≤ 5) := by
  refine ci_of (cc := cX11_endingBy) (maxL := 2) (ty := .int) (lv := [(0, .ref (ad 0)), (1, .int (sI a1))]) (by decide) rfl (fun r M' hp => rfl) (Nat.le_of_ble_eq_true rfl) rfl ?_
  intro p e s m args below meth c A Q C hret
  refine j_iload_n C 1 1 dX11_endingBy_0 rfl rfl ?_
  refine y_if_ge C 7 dX11_endingBy_1 (by decide) (by omega) (fun h101 => ?_) (fun h101 => ?_)
  · refine j_aload_n C 0 0 dX11_endingBy_7 rfl rfl ?_
    refine y_getC C 10 88 fX11_endingBy_94 rfl rfl ft_10_14 sm_10_14 rfl hM0 dX11_endingBy_8 ?_
    refine j_aload_n C 0 0 dX11_endingBy_11 rfl rfl ?_
    refine y_getM C 10 6 fX11_endingBy_26 rfl rfl ft_10_4 sm_10_4 (by decide) hM0 dX11_endingBy_12 (fun v102 ev102 cv102 => ?_)
    refine j_aload_n C 0 0 dX11_endingBy_15 rfl rfl ?_
    refine y_getC C 10 12 fX11_endingBy_36 rfl rfl ft_10_6 sm_10_6 rfl hM0 dX11_endingBy_16 ?_
    refine j_aload_n C 0 0 dX11_endingBy_19 rfl rfl ?_
    refine y_getC C 10 12 fX11_endingBy_36 rfl rfl ft_10_6 sm_10_6 rfl hM0 dX11_endingBy_20 ?_
    refine y_getI C 8 _ _ fX11_endingBy_153 rfl rfl ft_8_4 sb_8_4 hM0 dX11_endingBy_23 (fun a103 ea103 la103 ua103 => ?_)
    refine j_callVv C (d := 5) (As := [.ref (ad v102), .ref (ad 12), .int (sI a103)]) (st := []) 88 (s_lt rfl rfl) (s_kc (c := 4) rfl rfl) (by decide) rfl (s1_X5_look hM0 hpr cv102 rfl a103 (by omega)) gX11_endingBy_X5_look rfl hdX5_look (by decide) (Nat.le_of_ble_eq_true rfl) dX11_endingBy_26 rfl (fun M106 h107 => ?_)
    have hM106 := h107
    refine j_iload_n C 1 1 dX11_endingBy_29 rfl rfl ?_
    refine j_aload_n C 0 0 dX11_endingBy_30 rfl rfl ?_
    refine y_getC C 10 88 fX11_endingBy_94 rfl rfl ft_10_14 sm_10_14 rfl hM106 dX11_endingBy_31 ?_
    refine j_callVi C (d := 3) (As := []) (st := [.int (sI a1)]) 88 (s_lt rfl rfl) (s_kc (c := 4) rfl rfl) (by decide) rfl (s1_X5_shortest hM106 hpr) gX11_endingBy_X5_shortest rfl hdX5_shortest (by decide) (Nat.le_of_ble_eq_true rfl) dX11_endingBy_34 rfl (fun r109 M110 h111 => ?_)
    obtain ⟨a113, rfl, hM110, h112⟩ := h111
    refine y_icmp_ge C 51 dX11_endingBy_37 (by decide) (by omega) (fun h114 => ?_) (fun h114 => ?_)
    · refine y_iconst C dX11_endingBy_51 ?_
      exact hret _ _ _ _ dX11_endingBy_52 ⟨(-1), rfl, hM110, by omega⟩
    · refine j_aload_n C 0 0 dX11_endingBy_40 rfl rfl ?_
      refine y_getC C 10 88 fX11_endingBy_94 rfl rfl ft_10_14 sm_10_14 rfl hM110 dX11_endingBy_41 ?_
      refine j_iload_n C 1 1 dX11_endingBy_44 rfl rfl ?_
      refine j_callVi C (d := 2) (As := [.int (sI a1)]) (st := []) 88 (s_lt rfl rfl) (s_kc (c := 4) rfl rfl) (by decide) rfl (s1_X5_comerAt hM110 a1 (by omega)) gX11_endingBy_X5_comerAt rfl hdX5_comerAt (by decide) (Nat.le_of_ble_eq_true rfl) dX11_endingBy_45 rfl (fun r115 M116 h117 => ?_)
      obtain ⟨a119, rfl, rfl, h118⟩ := h117
      refine j_goto C 52 dX11_endingBy_48 (by decide) ?_
      exact hret _ _ _ _ dX11_endingBy_52 ⟨a119, rfl, hM110, by omega⟩
  · refine y_bipush C dX11_endingBy_4 rfl ?_
    exact hret _ _ _ _ dX11_endingBy_6 ⟨(-3), rfl, hM0, by omega⟩
set_option maxHeartbeats 4000000 in
theorem s1_J7_fill_d0a16 {l : Launch} {dC : Nat → ClassId} {dI : Nat → Nat → Nat} {ad : Nat → Nat} {cA : Nat → ClassId} {pr : Nat → Nat → Bool} {Kz : mm_M} {M0 : mm_M} (hM0 : INV pr Kz M0) (hpr : PX pr) {v0 : Nat} (cv0 : s_c v0 = 41) (a1 : Int) (ha1 : -9223372036854775808 ≤ a1 ∧ a1 ≤ 9223372036854775807) : Cv l 0 yJ7_fill_d0a16 wsJ7_fill_d0a16 dC dI ad cA [.ref (ad v0), .long (sJ a1)] M0 (fun M' => INV pr Kz M') := by
  refine cv_of (cc := cJ7_fill_d0a16) (maxL := 5) (lv := [(0, .ref (ad v0)), (1, .long (sJ a1))]) (by decide) rfl (Nat.le_of_ble_eq_true rfl) rfl ?_
  intro p e s m args below meth c A Q C hret
  refine y_iconst C dJ7_fill_d0a16_0 ?_
  refine j_istore_n C 3 [(3, .int (sI 0)), (0, .ref (ad v0)), (1, .long (sJ a1))] dJ7_fill_d0a16_1 rfl (by decide) rfl ?_
  refine j_aload_n C 1 0 dJ7_fill_d0a16_2 rfl rfl ?_
  refine y_alen C 41 256 cv0 rfl rfl an_41 rfl rfl dJ7_fill_d0a16_3 ?_
  refine j_istore C 4 [(4, .int (sI 256)), (3, .int (sI 0)), (0, .ref (ad v0)), (1, .long (sJ a1))] dJ7_fill_d0a16_4 (by decide) rfl ?_
  have L211 : ∀ (n209 : Nat), ∀ (a212 : Int) (M213 : mm_M), (0 ≤ a212 ∧ a212 ≤ 256 ∧ (256 - a212) < (n209 : Int)) → INV pr Kz M213 → jj p l e (cn_R 0) s m args below meth c 0 0 Q 5 dC dI ad cA A M213 6 [(0, .ref (ad v0)), (1, .long (sJ a1)), (3, .int (sI a212)), (4, .int (sI 256))] [] := by
    intro n209
    induction n209 with
    | zero =>
      intro a212 M213 h214 hM213
      exfalso; omega
    | succ n209 ih210 =>
      intro a212 M213 h214 hM213
      refine j_iload_n C 2 3 dJ7_fill_d0a16_6 rfl rfl ?_
      refine j_iload C 3 dJ7_fill_d0a16_7 rfl ?_
      refine y_icmp_ge C 22 dJ7_fill_d0a16_9 (by decide) (by omega) (fun h215 => ?_) (fun h215 => ?_)
      · exact hret _ _ _ dJ7_fill_d0a16_22 hM213
      · refine j_aload_n C 0 0 dJ7_fill_d0a16_12 rfl rfl ?_
        refine j_iload_n C 2 3 dJ7_fill_d0a16_13 rfl rfl ?_
        refine j_lload_n C 1 1 dJ7_fill_d0a16_14 rfl rfl ?_
        refine y_last C 41 256 cv0 rfl rfl ak_41 an_41 rfl hM213 (PX.w hpr cv0 rfl) dJ7_fill_d0a16_15 (by omega) (fun M216 eM216 hM216 => ?_)
        refine y_iinc C 2 [(3, .int (sI (a212 + 1))), (0, .ref (ad v0)), (1, .long (sJ a1)), (4, .int (sI 256))] dJ7_fill_d0a16_16 rfl (by decide) rfl ?_
        refine j_goto C 6 dJ7_fill_d0a16_19 (by decide) ?_
        refine j_lv [1, 2, 0, 3] rfl ?_; exact ih210 (a212 + 1) M216 (by omega) hM216
  refine j_lv [2, 3, 1, 0] rfl ?_; exact L211 2010 0 M0 (by omega) hM0
set_option maxHeartbeats 4000000 in
theorem s1_X5_beginRows {l : Launch} {dC : Nat → ClassId} {dI : Nat → Nat → Nat} {ad : Nat → Nat} {cA : Nat → ClassId} {pr : Nat → Nat → Bool} {Kz : mm_M} {M0 : mm_M} (hM0 : INV pr Kz M0) (hpr : PX pr)  : Cv l 1 yX5_beginRows wsX5_beginRows dC dI ad cA [.ref (ad 88)] M0 (fun M' => INV pr Kz M') := by
  refine cv_of (cc := cX5_beginRows) (maxL := 1) (lv := [(0, .ref (ad 88))]) (by decide) rfl (Nat.le_of_ble_eq_true rfl) rfl ?_
  intro p e s m args below meth c A Q C hret
  refine j_aload_n C 0 0 dX5_beginRows_0 rfl rfl ?_
  refine y_getM C 4 41 fX5_beginRows_21 rfl rfl ft_4_4 sm_4_4 (by decide) hM0 dX5_beginRows_1 (fun v101 ev101 cv101 => ?_)
  refine y_lconst C 0 dX5_beginRows_4 rfl ?_
  refine j_callSv C (d := 0) (As := [.ref (ad v101), .long (sJ 0)]) (st := []) (s1_J7_fill_d0a16 hM0 hpr cv101 0 (by omega)) gX5_beginRows_J7_fill_d0a16 rfl hdJ7_fill_d0a16s (by decide) (Nat.le_of_ble_eq_true rfl) dX5_beginRows_5 rfl (fun M103 h104 => ?_)
  have hM103 := h104
  refine j_aload_n C 0 0 dX5_beginRows_8 rfl rfl ?_
  refine y_getM C 4 41 fX5_beginRows_21 rfl rfl ft_4_4 sm_4_4 (by decide) hM103 dX5_beginRows_9 (fun v106 ev106 cv106 => ?_)
  refine j_aload_n C 0 0 dX5_beginRows_12 rfl rfl ?_
  refine y_getI C 4 _ _ fX5_beginRows_45 rfl rfl ft_4_13 sb_4_13 hM103 dX5_beginRows_13 (fun a107 ea107 la107 ua107 => ?_)
  refine y_lconst C 1 dX5_beginRows_16 rfl ?_
  refine y_last C 41 256 cv106 rfl rfl ak_41 an_41 rfl hM103 (PX.w hpr cv106 rfl) dX5_beginRows_17 (by omega) (fun M109 eM109 hM109 => ?_)
  exact hret _ _ _ dX5_beginRows_18 hM109
set_option maxHeartbeats 4000000 in
theorem s1_X5_swapWays {l : Launch} {dC : Nat → ClassId} {dI : Nat → Nat → Nat} {ad : Nat → Nat} {cA : Nat → ClassId} {pr : Nat → Nat → Bool} {Kz : mm_M} {M0 : mm_M} (hM0 : INV pr Kz M0) (hpr : PX pr)  : Cv l 0 yX5_swapWays wsX5_swapWays dC dI ad cA [.ref (ad 88)] M0 (fun M' => INV pr Kz M') := by
  refine cv_of (cc := cX5_swapWays) (maxL := 2) (lv := [(0, .ref (ad 88))]) (by decide) rfl (Nat.le_of_ble_eq_true rfl) rfl ?_
  intro p e s m args below meth c A Q C hret
  refine j_aload_n C 0 0 dX5_swapWays_0 rfl rfl ?_
  refine y_getM C 4 41 fX5_swapWays_21 rfl rfl ft_4_4 sm_4_4 (by decide) hM0 dX5_swapWays_1 (fun v101 ev101 cv101 => ?_)
  refine j_astore_n C 1 [(1, .ref (ad v101)), (0, .ref (ad 88))] dX5_swapWays_4 rfl (by decide) rfl ?_
  refine j_aload_n C 1 0 dX5_swapWays_5 rfl rfl ?_
  refine j_aload_n C 1 0 dX5_swapWays_6 rfl rfl ?_
  refine y_getM C 4 41 fX5_swapWays_25 rfl rfl ft_4_5 sm_4_5 (by decide) hM0 dX5_swapWays_7 (fun v102 ev102 cv102 => ?_)
  refine y_putP C 4 41 qX5_swapWays_21 rfl rfl rfl rfl ft_4_4 sm_4_4 (by decide) hM0 (PX.w hpr rfl rfl) cv102 dX5_swapWays_10 (fun M103 eM103 hM103 => ?_)
  refine j_aload_n C 1 0 dX5_swapWays_13 rfl rfl ?_
  refine j_aload_n C 0 1 dX5_swapWays_14 rfl rfl ?_
  refine y_putP C 4 41 qX5_swapWays_25 rfl rfl rfl rfl ft_4_5 sm_4_5 (by decide) hM103 (PX.w hpr rfl rfl) cv101 dX5_swapWays_15 (fun M104 eM104 hM104 => ?_)
  exact hret _ _ _ dX5_swapWays_18 hM104
set_option maxHeartbeats 4000000 in
theorem s1_X5_lengthenRows {l : Launch} {dC : Nat → ClassId} {dI : Nat → Nat → Nat} {ad : Nat → Nat} {cA : Nat → ClassId} {pr : Nat → Nat → Bool} {Kz : mm_M} {M0 : mm_M} (hM0 : INV pr Kz M0) (hpr : PX pr) (a1 : Int) (ha1 : -2147483648 ≤ a1 ∧ a1 ≤ 2147483647) : Cv l 1 yX5_lengthenRows wsX5_lengthenRows dC dI ad cA [.ref (ad 88), .int (sI a1)] M0 (fun M' => INV pr Kz M') := by
  refine cv_of (cc := cX5_lengthenRows) (maxL := 5) (lv := [(0, .ref (ad 88)), (1, .int (sI a1))]) (by decide) rfl (Nat.le_of_ble_eq_true rfl) rfl ?_
  intro p e s m args below meth c A Q C hret
  refine j_aload_n C 0 0 dX5_lengthenRows_0 rfl rfl ?_
  refine y_getM C 4 41 fX5_lengthenRows_25 rfl rfl ft_4_5 sm_4_5 (by decide) hM0 dX5_lengthenRows_1 (fun v101 ev101 cv101 => ?_)
  refine y_lconst C 0 dX5_lengthenRows_4 rfl ?_
  refine j_callSv C (d := 0) (As := [.ref (ad v101), .long (sJ 0)]) (st := []) (s1_J7_fill_d0a16 hM0 hpr cv101 0 (by omega)) gX5_lengthenRows_J7_fill_d0a16 rfl hdJ7_fill_d0a16s (by decide) (Nat.le_of_ble_eq_true rfl) dX5_lengthenRows_5 rfl (fun M103 h104 => ?_)
  have hM103 := h104
  refine j_aload_n C 0 0 dX5_lengthenRows_8 rfl rfl ?_
  refine y_getI C 4 _ _ fX5_lengthenRows_45 rfl rfl ft_4_13 sb_4_13 hM103 dX5_lengthenRows_9 (fun a106 ea106 la106 ua106 => ?_)
  refine j_istore_n C 2 [(2, .int (sI a106)), (0, .ref (ad 88)), (1, .int (sI a1))] dX5_lengthenRows_12 rfl (by decide) rfl ?_
  have L624 : ∀ (n622 : Nat), ∀ (a625 : Int) (M626 : mm_M), (0 ≤ a625 ∧ a625 ≤ 256 ∧ (256 - a625) < (n622 : Int)) → INV pr Kz M626 → jj p l e (cn_R 1) s m args below meth c 0 0 Q 5 dC dI ad cA A M626 13 [(0, .ref (ad 88)), (1, .int (sI a1)), (2, .int (sI a625))] [] := by
    intro n622
    induction n622 with
    | zero =>
      intro a625 M626 h627 hM626
      exfalso; omega
    | succ n622 ih623 =>
      intro a625 M626 h627 hM626
      refine j_iload_n C 2 2 dX5_lengthenRows_13 rfl rfl ?_
      refine j_aload_n C 0 0 dX5_lengthenRows_14 rfl rfl ?_
      refine y_getI C 4 _ _ fX5_lengthenRows_38 rfl rfl ft_4_11 sb_4_11 hM626 dX5_lengthenRows_15 (fun a628 ea628 la628 ua628 => ?_)
      refine y_icmp_gt C 101 dX5_lengthenRows_18 (by decide) (by omega) (fun h630 => ?_) (fun h630 => ?_)
      · refine j_aload_n C 0 0 dX5_lengthenRows_101 rfl rfl ?_
        refine j_callVv C (d := 0) (As := []) (st := []) 88 (s_lt rfl rfl) (s_kc (c := 4) rfl rfl) (by decide) rfl (s1_X5_swapWays hM626 hpr) gX5_lengthenRows_X5_swapWays rfl hdX5_swapWays (by decide) (Nat.le_of_ble_eq_true rfl) dX5_lengthenRows_102 rfl (fun M884 h885 => ?_)
        have hM884 := h885
        exact hret _ _ _ dX5_lengthenRows_105 hM884
      · refine y_iconst C dX5_lengthenRows_21 ?_
        refine j_istore_n C 3 [(3, .int (sI 0)), (0, .ref (ad 88)), (1, .int (sI a1)), (2, .int (sI a625))] dX5_lengthenRows_22 rfl (by decide) rfl ?_
        have L850 : ∀ (n848 : Nat), ∀ (a851 : Int) (M852 : mm_M), (0 ≤ a851 ∧ a851 ≤ 6 ∧ (6 - a851) < (n848 : Int)) → INV pr Kz M852 → jj p l e (cn_R 1) s m args below meth c 0 0 Q 5 dC dI ad cA A M852 23 [(0, .ref (ad 88)), (1, .int (sI a1)), (2, .int (sI a625)), (3, .int (sI a851))] [] := by
          intro n848
          induction n848 with
          | zero =>
            intro a851 M852 h853 hM852
            exfalso; omega
          | succ n848 ih849 =>
            intro a851 M852 h853 hM852
            refine j_iload_n C 3 3 dX5_lengthenRows_23 rfl rfl ?_
            refine j_aload_n C 0 0 dX5_lengthenRows_24 rfl rfl ?_
            refine y_getM C 4 6 fX5_lengthenRows_52 rfl rfl ft_4_9 sm_4_9 (by decide) hM852 dX5_lengthenRows_25 (fun v854 ev854 cv854 => ?_)
            refine y_getI C 6 _ _ fX5_lengthenRows_92 cv854 rfl ft_6_0 sb_6_0 hM852 dX5_lengthenRows_28 (fun a855 ea855 la855 ua855 => ?_)
            refine y_icmp_ge C 95 dX5_lengthenRows_31 (by decide) (by omega) (fun h857 => ?_) (fun h857 => ?_)
            · refine y_iinc C 2 [(2, .int (sI (a625 + 1))), (0, .ref (ad 88)), (1, .int (sI a1)), (3, .int (sI a851))] dX5_lengthenRows_95 rfl (by decide) rfl ?_
              refine j_goto C 13 dX5_lengthenRows_98 (by decide) ?_
              refine j_lv [1, 2, 0] rfl ?_; exact ih623 (a625 + 1) M852 (by omega) hM852
            · refine j_aload_n C 0 0 dX5_lengthenRows_34 rfl rfl ?_
              refine y_getM C 4 41 fX5_lengthenRows_21 rfl rfl ft_4_4 sm_4_4 (by decide) hM852 dX5_lengthenRows_35 (fun v858 ev858 cv858 => ?_)
              refine j_iload_n C 2 2 dX5_lengthenRows_38 rfl rfl ?_
              refine y_lald C 41 256 cv858 rfl rfl ak_41 an_41 rfl dX5_lengthenRows_39 (by omega) (fun a859 ea859 la859 ua859 => ?_)
              refine y_lconst C 0 dX5_lengthenRows_40 rfl ?_
              refine y_lcmp_eq C 95 dX5_lengthenRows_41 dX5_lengthenRows_42 (by decide) (by omega) (fun h860 => ?_) (fun h860 => ?_)
              · refine y_iinc C 2 [(2, .int (sI (a625 + 1))), (0, .ref (ad 88)), (1, .int (sI a1)), (3, .int (sI a851))] dX5_lengthenRows_95 rfl (by decide) rfl ?_
                refine j_goto C 13 dX5_lengthenRows_98 (by decide) ?_
                refine j_lv [1, 2, 0] rfl ?_; exact ih623 (a625 + 1) M852 (by omega) hM852
              · refine j_aload_n C 0 0 dX5_lengthenRows_45 rfl rfl ?_
                refine j_iload_n C 2 2 dX5_lengthenRows_46 rfl rfl ?_
                refine j_iload_n C 3 3 dX5_lengthenRows_47 rfl rfl ?_
                refine j_callVi C (d := 0) (As := [.int (sI a625), .int (sI a851)]) (st := []) 88 (s_lt rfl rfl) (s_kc (c := 4) rfl rfl) (by decide) rfl (s1_X5_pick hM852 a625 (by omega) a851 (by omega)) gX5_lengthenRows_X5_pick rfl hdX5_pick (by decide) (Nat.le_of_ble_eq_true rfl) dX5_lengthenRows_48 rfl (fun r861 M862 h863 => ?_)
                obtain ⟨a865, rfl, rfl, h864⟩ := h863
                refine j_istore C 4 [(4, .int (sI a865)), (0, .ref (ad 88)), (1, .int (sI a1)), (2, .int (sI a625)), (3, .int (sI a851))] dX5_lengthenRows_51 (by decide) rfl ?_
                refine j_iload C 0 dX5_lengthenRows_53 rfl ?_
                refine y_if_lt C 89 dX5_lengthenRows_55 (by decide) (by omega) (fun h866 => ?_) (fun h866 => ?_)
                · refine y_iinc C 4 [(3, .int (sI (a851 + 1))), (4, .int (sI a865)), (0, .ref (ad 88)), (1, .int (sI a1)), (2, .int (sI a625))] dX5_lengthenRows_89 rfl (by decide) rfl ?_
                  refine j_goto C 23 dX5_lengthenRows_92 (by decide) ?_
                  refine j_lv [2, 3, 4, 0] rfl ?_; exact ih849 (a851 + 1) M852 (by omega) hM852
                · refine j_iload_n C 2 1 dX5_lengthenRows_58 rfl rfl ?_
                  refine y_iconst C dX5_lengthenRows_59 ?_
                  refine y_icmp_eq C 69 dX5_lengthenRows_60 (by decide) (by omega) (fun h867 => ?_) (fun h867 => ?_)
                  · refine j_aload_n C 1 0 dX5_lengthenRows_69 rfl rfl ?_
                    refine y_getM C 4 41 fX5_lengthenRows_25 rfl rfl ft_4_5 sm_4_5 (by decide) hM852 dX5_lengthenRows_70 (fun v868 ev868 cv868 => ?_)
                    refine j_iload_n C 3 2 dX5_lengthenRows_73 rfl rfl ?_
                    refine y_iconst C dX5_lengthenRows_74 ?_
                    refine j_iload C 0 dX5_lengthenRows_75 rfl ?_
                    refine y_shl1 C 7 128 dX5_lengthenRows_77 rfl (by decide) (by omega) (fun a869 la869 ua869 => ?_)
                    refine y_iorN C 8 255 dX5_lengthenRows_78 rfl (by decide) (by omega) (fun a870 la870 ua870 => ?_)
                    refine j_dup2 C dX5_lengthenRows_79 rfl rfl ?_
                    refine y_lald C 41 256 cv868 rfl rfl ak_41 an_41 rfl dX5_lengthenRows_80 (by omega) (fun a871 ea871 la871 ua871 => ?_)
                    refine j_aload_n C 1 0 dX5_lengthenRows_81 rfl rfl ?_
                    refine y_getV C 4 v858 fX5_lengthenRows_21 rfl rfl ft_4_4 (ev858) dX5_lengthenRows_82 ?_
                    refine j_iload_n C 3 2 dX5_lengthenRows_85 rfl rfl ?_
                    refine y_lald C 41 256 cv858 rfl rfl ak_41 an_41 rfl dX5_lengthenRows_86 (by omega) (fun a872 ea872 la872 ua872 => ?_)
                    refine y_ladd0 C dX5_lengthenRows_87 (fun a873 la873 ua873 => ?_)
                    refine y_last C 41 256 cv868 rfl rfl ak_41 an_41 rfl hM852 (PX.w hpr cv868 rfl) dX5_lengthenRows_88 (by omega) (fun M874 eM874 hM874 => ?_)
                    refine y_iinc C 4 [(3, .int (sI (a851 + 1))), (4, .int (sI a865)), (0, .ref (ad 88)), (1, .int (sI a1)), (2, .int (sI a625))] dX5_lengthenRows_89 rfl (by decide) rfl ?_
                    refine j_goto C 23 dX5_lengthenRows_92 (by decide) ?_
                    refine j_lv [2, 3, 4, 0] rfl ?_; exact ih849 (a851 + 1) M874 (by omega) hM874
                  · refine j_iload_n C 2 1 dX5_lengthenRows_63 rfl rfl ?_
                    refine j_iload C 0 dX5_lengthenRows_64 rfl ?_
                    refine y_icmp_ne C 89 dX5_lengthenRows_66 (by decide) (by omega) (fun h875 => ?_) (fun h875 => ?_)
                    · refine y_iinc C 4 [(3, .int (sI (a851 + 1))), (4, .int (sI a865)), (0, .ref (ad 88)), (1, .int (sI a1)), (2, .int (sI a625))] dX5_lengthenRows_89 rfl (by decide) rfl ?_
                      refine j_goto C 23 dX5_lengthenRows_92 (by decide) ?_
                      refine j_lv [2, 3, 4, 0] rfl ?_; exact ih849 (a851 + 1) M852 (by omega) hM852
                    · refine j_aload_n C 1 0 dX5_lengthenRows_69 rfl rfl ?_
                      refine y_getM C 4 41 fX5_lengthenRows_25 rfl rfl ft_4_5 sm_4_5 (by decide) hM852 dX5_lengthenRows_70 (fun v876 ev876 cv876 => ?_)
                      refine j_iload_n C 3 2 dX5_lengthenRows_73 rfl rfl ?_
                      refine y_iconst C dX5_lengthenRows_74 ?_
                      refine j_iload C 0 dX5_lengthenRows_75 rfl ?_
                      refine y_shl1 C 7 128 dX5_lengthenRows_77 rfl (by decide) (by omega) (fun a877 la877 ua877 => ?_)
                      refine y_iorN C 8 255 dX5_lengthenRows_78 rfl (by decide) (by omega) (fun a878 la878 ua878 => ?_)
                      refine j_dup2 C dX5_lengthenRows_79 rfl rfl ?_
                      refine y_lald C 41 256 cv876 rfl rfl ak_41 an_41 rfl dX5_lengthenRows_80 (by omega) (fun a879 ea879 la879 ua879 => ?_)
                      refine j_aload_n C 1 0 dX5_lengthenRows_81 rfl rfl ?_
                      refine y_getV C 4 v858 fX5_lengthenRows_21 rfl rfl ft_4_4 (ev858) dX5_lengthenRows_82 ?_
                      refine j_iload_n C 3 2 dX5_lengthenRows_85 rfl rfl ?_
                      refine y_lald C 41 256 cv858 rfl rfl ak_41 an_41 rfl dX5_lengthenRows_86 (by omega) (fun a880 ea880 la880 ua880 => ?_)
                      refine y_ladd0 C dX5_lengthenRows_87 (fun a881 la881 ua881 => ?_)
                      refine y_last C 41 256 cv876 rfl rfl ak_41 an_41 rfl hM852 (PX.w hpr cv876 rfl) dX5_lengthenRows_88 (by omega) (fun M882 eM882 hM882 => ?_)
                      refine y_iinc C 4 [(3, .int (sI (a851 + 1))), (4, .int (sI a865)), (0, .ref (ad 88)), (1, .int (sI a1)), (2, .int (sI a625))] dX5_lengthenRows_89 rfl (by decide) rfl ?_
                      refine j_goto C 23 dX5_lengthenRows_92 (by decide) ?_
                      refine j_lv [2, 3, 4, 0] rfl ?_; exact ih849 (a851 + 1) M882 (by omega) hM882
        refine j_lv [1, 2, 3, 0] rfl ?_; exact L850 2010 0 M626 (by omega) hM626
  refine j_lv [1, 2, 0] rfl ?_; exact L624 2010 a106 M103 (by omega) hM103
set_option maxHeartbeats 4000000 in
theorem s1_X5_allWays {l : Launch} {dC : Nat → ClassId} {dI : Nat → Nat → Nat} {ad : Nat → Nat} {cA : Nat → ClassId} {pr : Nat → Nat → Bool} {Kz : mm_M} {M0 : mm_M} (hM0 : INV pr Kz M0)  : Cj l 0 yX5_allWays wsX5_allWays dC dI ad cA [.ref (ad 88)] M0 (fun r M' => ∃ a : Int, r = sJ a ∧ M0 = M' ∧ (-9223372036854775808) ≤ a ∧ a ≤ 9223372036854775807) := by
  refine cj_of (cc := cX5_allWays) (maxL := 4) (lv := [(0, .ref (ad 88))]) (by decide) rfl (Nat.le_of_ble_eq_true rfl) rfl ?_
  intro p e s m args below meth c A Q C hret
  refine y_lconst C 0 dX5_allWays_0 rfl ?_
  refine j_lstore_n C 1 [(1, .long (sJ 0)), (0, .ref (ad 88))] dX5_allWays_1 rfl (by decide) rfl ?_
  refine j_aload_n C 1 0 dX5_allWays_2 rfl rfl ?_
  refine y_getI C 4 _ _ fX5_allWays_45 rfl rfl ft_4_13 sb_4_13 hM0 dX5_allWays_3 (fun a101 ea101 la101 ua101 => ?_)
  refine j_istore_n C 3 [(3, .int (sI a101)), (1, .long (sJ 0)), (0, .ref (ad 88))] dX5_allWays_6 rfl (by decide) rfl ?_
  have L120 : ∀ (n118 : Nat), ∀ (a121 : Int) (a122 : Int), ((-9223372036854775808) ≤ a121 ∧ a121 ≤ 9223372036854775807 ∧ 0 ≤ a122 ∧ a122 ≤ 256 ∧ (256 - a122) < (n118 : Int)) → jj p l e (cn_R 0) s m args below meth c 0 0 Q 4 dC dI ad cA A M0 7 [(0, .ref (ad 88)), (1, .long (sJ a121)), (3, .int (sI a122))] [] := by
    intro n118
    induction n118 with
    | zero =>
      intro a121 a122 h123
      exfalso; omega
    | succ n118 ih119 =>
      intro a121 a122 h123
      refine j_iload_n C 2 3 dX5_allWays_7 rfl rfl ?_
      refine j_aload_n C 0 0 dX5_allWays_8 rfl rfl ?_
      refine y_getI C 4 _ _ fX5_allWays_38 rfl rfl ft_4_11 sb_4_11 hM0 dX5_allWays_9 (fun a124 ea124 la124 ua124 => ?_)
      refine y_icmp_gt C 30 dX5_allWays_12 (by decide) (by omega) (fun h126 => ?_) (fun h126 => ?_)
      · refine j_lload_n C 1 1 dX5_allWays_30 rfl rfl ?_
        exact hret _ _ _ _ dX5_allWays_31 ⟨a121, rfl, rfl, by omega⟩
      · refine j_lload_n C 1 1 dX5_allWays_15 rfl rfl ?_
        refine j_aload_n C 0 0 dX5_allWays_16 rfl rfl ?_
        refine y_getM C 4 41 fX5_allWays_21 rfl rfl ft_4_4 sm_4_4 (by decide) hM0 dX5_allWays_17 (fun v127 ev127 cv127 => ?_)
        refine j_iload_n C 2 3 dX5_allWays_20 rfl rfl ?_
        refine y_lald C 41 256 cv127 rfl rfl ak_41 an_41 rfl dX5_allWays_21 (by omega) (fun a128 ea128 la128 ua128 => ?_)
        refine y_ladd0 C dX5_allWays_22 (fun a129 la129 ua129 => ?_)
        refine j_lstore_n C 1 [(1, .long (sJ a129)), (0, .ref (ad 88)), (3, .int (sI a122))] dX5_allWays_23 rfl (by decide) rfl ?_
        refine y_iinc C 2 [(3, .int (sI (a122 + 1))), (1, .long (sJ a129)), (0, .ref (ad 88))] dX5_allWays_24 rfl (by decide) rfl ?_
        refine j_goto C 7 dX5_allWays_27 (by decide) ?_
        refine j_lv [2, 1, 0] rfl ?_; exact ih119 a129 (a122 + 1) (by omega)
  refine j_lv [2, 1, 0] rfl ?_; exact L120 2010 0 a101 (by omega)
set_option maxHeartbeats 4000000 in
theorem s1_X5_openWays {l : Launch} {dC : Nat → ClassId} {dI : Nat → Nat → Nat} {ad : Nat → Nat} {cA : Nat → ClassId} {pr : Nat → Nat → Bool} {Kz : mm_M} {M0 : mm_M} (hM0 : INV pr Kz M0)  : Cj l 1 yX5_openWays wsX5_openWays dC dI ad cA [.ref (ad 88)] M0 (fun r M' => ∃ a : Int, r = sJ a ∧ M0 = M' ∧ (-9223372036854775808) ≤ a ∧ a ≤ 9223372036854775807) := by
  refine cj_of (cc := cX5_openWays) (maxL := 4) (lv := [(0, .ref (ad 88))]) (by decide) rfl (Nat.le_of_ble_eq_true rfl) rfl ?_
  intro p e s m args below meth c A Q C hret
  refine y_lconst C 0 dX5_openWays_0 rfl ?_
  refine j_lstore_n C 1 [(1, .long (sJ 0)), (0, .ref (ad 88))] dX5_openWays_1 rfl (by decide) rfl ?_
  refine j_aload_n C 1 0 dX5_openWays_2 rfl rfl ?_
  refine y_getI C 4 _ _ fX5_openWays_45 rfl rfl ft_4_13 sb_4_13 hM0 dX5_openWays_3 (fun a101 ea101 la101 ua101 => ?_)
  refine j_istore_n C 3 [(3, .int (sI a101)), (1, .long (sJ 0)), (0, .ref (ad 88))] dX5_openWays_6 rfl (by decide) rfl ?_
  have L132 : ∀ (n130 : Nat), ∀ (a133 : Int) (a134 : Int), ((-9223372036854775808) ≤ a133 ∧ a133 ≤ 9223372036854775807 ∧ 0 ≤ a134 ∧ a134 ≤ 256 ∧ (256 - a134) < (n130 : Int)) → jj p l e (cn_R 1) s m args below meth c 0 0 Q 4 dC dI ad cA A M0 7 [(0, .ref (ad 88)), (1, .long (sJ a133)), (3, .int (sI a134))] [] := by
    intro n130
    induction n130 with
    | zero =>
      intro a133 a134 h135
      exfalso; omega
    | succ n130 ih131 =>
      intro a133 a134 h135
      refine j_iload_n C 2 3 dX5_openWays_7 rfl rfl ?_
      refine j_aload_n C 0 0 dX5_openWays_8 rfl rfl ?_
      refine y_getI C 4 _ _ fX5_openWays_38 rfl rfl ft_4_11 sb_4_11 hM0 dX5_openWays_9 (fun a136 ea136 la136 ua136 => ?_)
      refine y_icmp_gt C 42 dX5_openWays_12 (by decide) (by omega) (fun h138 => ?_) (fun h138 => ?_)
      · refine j_lload_n C 1 1 dX5_openWays_42 rfl rfl ?_
        exact hret _ _ _ _ dX5_openWays_43 ⟨a133, rfl, rfl, by omega⟩
      · refine j_lload_n C 1 1 dX5_openWays_15 rfl rfl ?_
        refine j_aload_n C 0 0 dX5_openWays_16 rfl rfl ?_
        refine j_iload_n C 2 3 dX5_openWays_17 rfl rfl ?_
        refine j_callVi C (d := 0) (As := [.int (sI a134)]) (st := [.long (sJ a133)]) 88 (s_lt rfl rfl) (s_kc (c := 4) rfl rfl) (by decide) rfl (s1_X5_isShutAt hM0 a134 (by omega)) gX5_openWays_X5_isShutAt rfl hdX5_isShutAt (by decide) (Nat.le_of_ble_eq_true rfl) dX5_openWays_18 rfl (fun r139 M140 h141 => ?_)
        obtain ⟨a143, rfl, rfl, h142⟩ := h141
        refine y_if_eq C 28 dX5_openWays_21 (by decide) (by omega) (fun h144 => ?_) (fun h144 => ?_)
        · refine j_aload_n C 0 0 dX5_openWays_28 rfl rfl ?_
          refine y_getM C 4 41 fX5_openWays_21 rfl rfl ft_4_4 sm_4_4 (by decide) hM0 dX5_openWays_29 (fun v145 ev145 cv145 => ?_)
          refine j_iload_n C 2 3 dX5_openWays_32 rfl rfl ?_
          refine y_lald C 41 256 cv145 rfl rfl ak_41 an_41 rfl dX5_openWays_33 (by omega) (fun a146 ea146 la146 ua146 => ?_)
          refine y_ladd0 C dX5_openWays_34 (fun a147 la147 ua147 => ?_)
          refine j_lstore_n C 1 [(1, .long (sJ a147)), (0, .ref (ad 88)), (3, .int (sI a134))] dX5_openWays_35 rfl (by decide) rfl ?_
          refine y_iinc C 2 [(3, .int (sI (a134 + 1))), (1, .long (sJ a147)), (0, .ref (ad 88))] dX5_openWays_36 rfl (by decide) rfl ?_
          refine j_goto C 7 dX5_openWays_39 (by decide) ?_
          refine j_lv [2, 1, 0] rfl ?_; exact ih131 a147 (a134 + 1) (by omega)
        · refine y_lconst C 0 dX5_openWays_24 rfl ?_
          refine j_goto C 34 dX5_openWays_25 (by decide) ?_
          refine y_ladd C dX5_openWays_34 ?_
          refine j_lstore_n C 1 [(1, .long (sJ (a133 + 0))), (0, .ref (ad 88)), (3, .int (sI a134))] dX5_openWays_35 rfl (by decide) rfl ?_
          refine y_iinc C 2 [(3, .int (sI (a134 + 1))), (1, .long (sJ (a133 + 0))), (0, .ref (ad 88))] dX5_openWays_36 rfl (by decide) rfl ?_
          refine j_goto C 7 dX5_openWays_39 (by decide) ?_
          refine j_lv [2, 1, 0] rfl ?_; exact ih131 (a133 + 0) (a134 + 1) (by omega)
  refine j_lv [2, 1, 0] rfl ?_; exact L132 2010 0 a101 (by omega)
set_option maxHeartbeats 4000000 in
theorem s1_X5_rowsToShut {l : Launch} {dC : Nat → ClassId} {dI : Nat → Nat → Nat} {ad : Nat → Nat} {cA : Nat → ClassId} {pr : Nat → Nat → Bool} {Kz : mm_M} {M0 : mm_M} (hM0 : INV pr Kz M0) (hpr : PX pr) (a1 : Int) (ha1 : -2147483648 ≤ a1 ∧ a1 ≤ 2147483647) : Cj l 2 yX5_rowsToShut wsX5_rowsToShut dC dI ad cA [.ref (ad 88), .int (sI a1)] M0 (fun r M' => ∃ a : Int, r = sJ a ∧ INV pr Kz M' ∧ (-9223372036854775808) ≤ a ∧ a ≤ 9223372036854775807) := by
  refine cj_of (cc := cX5_rowsToShut) (maxL := 3) (lv := [(0, .ref (ad 88)), (1, .int (sI a1))]) (by decide) rfl (Nat.le_of_ble_eq_true rfl) rfl ?_
  intro p e s m args below meth c A Q C hret
  refine j_aload_n C 0 0 dX5_rowsToShut_0 rfl rfl ?_
  refine j_callVv C (d := 1) (As := []) (st := []) 88 (s_lt rfl rfl) (s_kc (c := 4) rfl rfl) (by decide) rfl (s1_X5_beginRows hM0 hpr) gX5_rowsToShut_X5_beginRows rfl hdX5_beginRows (by decide) (Nat.le_of_ble_eq_true rfl) dX5_rowsToShut_1 rfl (fun M102 h103 => ?_)
  have hM102 := h103
  refine y_iconst C dX5_rowsToShut_4 ?_
  refine j_istore_n C 2 [(2, .int (sI 0)), (0, .ref (ad 88)), (1, .int (sI a1))] dX5_rowsToShut_5 rfl (by decide) rfl ?_
  have L345 : ∀ (n343 : Nat), ∀ (a346 : Int) (M347 : mm_M), (0 ≤ a346 ∧ a346 ≤ 2147483647 ∧ (2147483647 - a346) < (n343 : Int)) → INV pr Kz M347 → jj p l e (cn_R 2) s m args below meth c 0 0 Q 3 dC dI ad cA A M347 6 [(0, .ref (ad 88)), (1, .int (sI a1)), (2, .int (sI a346))] [] := by
    intro n343
    induction n343 with
    | zero =>
      intro a346 M347 h348 hM347
      exfalso; omega
    | succ n343 ih344 =>
      intro a346 M347 h348 hM347
      refine j_iload_n C 2 2 dX5_rowsToShut_6 rfl rfl ?_
      refine j_iload_n C 1 1 dX5_rowsToShut_7 rfl rfl ?_
      refine y_icmp_ge C 22 dX5_rowsToShut_8 (by decide) (by omega) (fun h349 => ?_) (fun h349 => ?_)
      · refine j_aload_n C 0 0 dX5_rowsToShut_22 rfl rfl ?_
        refine j_callVj C (d := 0) (As := []) (st := []) 88 (s_lt rfl rfl) (s_kc (c := 4) rfl rfl) (by decide) rfl (s1_X5_allWays hM347) gX5_rowsToShut_X5_allWays rfl hdX5_allWays (by decide) (Nat.le_of_ble_eq_true rfl) dX5_rowsToShut_23 rfl (fun r354 M355 h356 => ?_)
        obtain ⟨a358, rfl, rfl, h357⟩ := h356
        refine j_aload_n C 0 0 dX5_rowsToShut_26 rfl rfl ?_
        refine j_callVj C (d := 1) (As := []) (st := [.long (sJ a358)]) 88 (s_lt rfl rfl) (s_kc (c := 4) rfl rfl) (by decide) rfl (s1_X5_openWays hM347) gX5_rowsToShut_X5_openWays rfl hdX5_openWays (by decide) (Nat.le_of_ble_eq_true rfl) dX5_rowsToShut_27 rfl (fun r359 M360 h361 => ?_)
        obtain ⟨a363, rfl, rfl, h362⟩ := h361
        refine y_lsub0 C dX5_rowsToShut_30 (fun a364 la364 ua364 => ?_)
        exact hret _ _ _ _ dX5_rowsToShut_31 ⟨a364, rfl, hM347, by omega⟩
      · refine j_aload_n C 0 0 dX5_rowsToShut_11 rfl rfl ?_
        refine y_iconst C dX5_rowsToShut_12 ?_
        refine j_callVv C (d := 1) (As := [.int (sI (-1))]) (st := []) 88 (s_lt rfl rfl) (s_kc (c := 4) rfl rfl) (by decide) rfl (s1_X5_lengthenRows hM347 hpr (-1) (by omega)) gX5_rowsToShut_X5_lengthenRows rfl hdX5_lengthenRows (by decide) (Nat.le_of_ble_eq_true rfl) dX5_rowsToShut_13 rfl (fun M351 h352 => ?_)
        have hM351 := h352
        refine y_iinc C 2 [(2, .int (sI (a346 + 1))), (0, .ref (ad 88)), (1, .int (sI a1))] dX5_rowsToShut_16 rfl (by decide) rfl ?_
        refine j_goto C 6 dX5_rowsToShut_19 (by decide) ?_
        refine j_lv [1, 2, 0] rfl ?_; exact ih344 (a346 + 1) M351 (by omega) hM351
  refine j_lv [1, 2, 0] rfl ?_; exact L345 4294967304 0 M102 (by omega) hM102
set_option maxHeartbeats 4000000 in
theorem s1_X11_endings {l : Launch} {dC : Nat → ClassId} {dI : Nat → Nat → Nat} {ad : Nat → Nat} {cA : Nat → ClassId} {pr : Nat → Nat → Bool} {Kz : mm_M} {M0 : mm_M} (hM0 : INV pr Kz M0) (hpr : PX pr) (a1 : Int) (ha1 : -2147483648 ≤ a1 ∧ a1 ≤ 2147483647) : Cj l 6 yX11_endings wsX11_endings dC dI ad cA [.ref (ad 0), .int (sI a1)] M0 (fun r M' => ∃ a : Int, r = sJ a ∧ INV pr Kz M' ∧ (-9223372036854775808) ≤ a ∧ a ≤ 9223372036854775807) := by
  refine cj_of (cc := cX11_endings) (maxL := 2) (lv := [(0, .ref (ad 0)), (1, .int (sI a1))]) (by decide) rfl (Nat.le_of_ble_eq_true rfl) rfl ?_
  intro p e s m args below meth c A Q C hret
  refine j_iload_n C 1 1 dX11_endings_0 rfl rfl ?_
  refine y_if_lt C 10 dX11_endings_1 (by decide) (by omega) (fun h101 => ?_) (fun h101 => ?_)
  · refine y_ldc2 C (-3) dX11_endings_10 kX11_endings_272 rfl ?_
    exact hret _ _ _ _ dX11_endings_13 ⟨(-3), rfl, hM0, by omega⟩
  · refine j_iload_n C 1 1 dX11_endings_4 rfl rfl ?_
    refine y_bipush C dX11_endings_5 rfl ?_
    refine y_icmp_le C 14 dX11_endings_7 (by decide) (by omega) (fun h102 => ?_) (fun h102 => ?_)
    · refine j_aload_n C 0 0 dX11_endings_14 rfl rfl ?_
      refine y_getC C 10 88 fX11_endings_94 rfl rfl ft_10_14 sm_10_14 rfl hM0 dX11_endings_15 ?_
      refine j_aload_n C 0 0 dX11_endings_18 rfl rfl ?_
      refine y_getM C 10 6 fX11_endings_26 rfl rfl ft_10_4 sm_10_4 (by decide) hM0 dX11_endings_19 (fun v103 ev103 cv103 => ?_)
      refine j_aload_n C 0 0 dX11_endings_22 rfl rfl ?_
      refine y_getC C 10 12 fX11_endings_36 rfl rfl ft_10_6 sm_10_6 rfl hM0 dX11_endings_23 ?_
      refine j_aload_n C 0 0 dX11_endings_26 rfl rfl ?_
      refine y_getC C 10 12 fX11_endings_36 rfl rfl ft_10_6 sm_10_6 rfl hM0 dX11_endings_27 ?_
      refine y_getI C 8 _ _ fX11_endings_153 rfl rfl ft_8_4 sb_8_4 hM0 dX11_endings_30 (fun a104 ea104 la104 ua104 => ?_)
      refine j_callVv C (d := 5) (As := [.ref (ad v103), .ref (ad 12), .int (sI a104)]) (st := []) 88 (s_lt rfl rfl) (s_kc (c := 4) rfl rfl) (by decide) rfl (s1_X5_look hM0 hpr cv103 rfl a104 (by omega)) gX11_endings_X5_look rfl hdX5_look (by decide) (Nat.le_of_ble_eq_true rfl) dX11_endings_33 rfl (fun M107 h108 => ?_)
      have hM107 := h108
      refine j_aload_n C 0 0 dX11_endings_36 rfl rfl ?_
      refine y_getC C 10 88 fX11_endings_94 rfl rfl ft_10_14 sm_10_14 rfl hM107 dX11_endings_37 ?_
      refine j_iload_n C 1 1 dX11_endings_40 rfl rfl ?_
      refine j_callVj C (d := 2) (As := [.int (sI a1)]) (st := []) 88 (s_lt rfl rfl) (s_kc (c := 4) rfl rfl) (by decide) rfl (s1_X5_rowsToShut hM107 hpr a1 (by omega)) gX11_endings_X5_rowsToShut rfl hdX5_rowsToShut (by decide) (Nat.le_of_ble_eq_true rfl) dX11_endings_41 rfl (fun r110 M111 h112 => ?_)
      obtain ⟨a114, rfl, hM111, h113⟩ := h112
      exact hret _ _ _ _ dX11_endings_44 ⟨a114, rfl, hM111, by omega⟩
    · refine y_ldc2 C (-3) dX11_endings_10 kX11_endings_272 rfl ?_
      exact hret _ _ _ _ dX11_endings_13 ⟨(-3), rfl, hM0, by omega⟩
set_option maxHeartbeats 4000000 in
theorem s1_X5_neededBuyers {l : Launch} {dC : Nat → ClassId} {dI : Nat → Nat → Nat} {ad : Nat → Nat} {cA : Nat → ClassId} {pr : Nat → Nat → Bool} {Kz : mm_M} {M0 : mm_M} (hM0 : INV pr Kz M0) (hpr : PX pr)  : Ci l 3 yX5_neededBuyers wsX5_neededBuyers dC dI ad cA [.ref (ad 88)] M0 (fun r M' => ∃ a : Int, r = sI a ∧ INV pr Kz M' ∧ 0 ≤ a ∧ a ≤ 63) := by
  refine ci_of (cc := cX5_neededBuyers) (maxL := 4) (ty := .int) (lv := [(0, .ref (ad 88))]) (by decide) rfl (fun r M' hp => rfl) (Nat.le_of_ble_eq_true rfl) rfl ?_
  intro p e s m args below meth c A Q C hret
  refine y_iconst C dX5_neededBuyers_0 ?_
  refine j_istore_n C 1 [(1, .int (sI 0)), (0, .ref (ad 88))] dX5_neededBuyers_1 rfl (by decide) rfl ?_
  refine y_iconst C dX5_neededBuyers_2 ?_
  refine j_aload_n C 1 0 dX5_neededBuyers_3 rfl rfl ?_
  refine y_getM C 4 6 fX5_neededBuyers_52 rfl rfl ft_4_9 sm_4_9 (by decide) hM0 dX5_neededBuyers_4 (fun v101 ev101 cv101 => ?_)
  refine y_getI C 6 _ _ fX5_neededBuyers_92 cv101 rfl ft_6_0 sb_6_0 hM0 dX5_neededBuyers_7 (fun a102 ea102 la102 ua102 => ?_)
  refine y_shl1 C 6 64 dX5_neededBuyers_10 rfl (by decide) (by omega) (fun a104 la104 ua104 => ?_)
  refine y_iconst C dX5_neededBuyers_11 ?_
  refine y_isub C dX5_neededBuyers_12 ?_
  refine j_istore_n C 2 [(2, .int (sI (a104 - 1))), (1, .int (sI 0)), (0, .ref (ad 88))] dX5_neededBuyers_13 rfl (by decide) rfl ?_
  refine j_aload_n C 2 0 dX5_neededBuyers_14 rfl rfl ?_
  refine j_iload_n C 0 2 dX5_neededBuyers_15 rfl rfl ?_
  refine j_callVi C (d := 2) (As := [.int (sI (a104 - 1))]) (st := []) 88 (s_lt rfl rfl) (s_kc (c := 4) rfl rfl) (by decide) rfl (s1_X5_measure hM0 hpr (a104 - 1) (by omega)) gX5_neededBuyers_X5_measure rfl hdX5_measure (by decide) (Nat.le_of_ble_eq_true rfl) dX5_neededBuyers_16 rfl (fun r105 M106 h107 => ?_)
  obtain ⟨a109, rfl, hM106, h108⟩ := h107
  refine y_iconst C dX5_neededBuyers_19 ?_
  refine y_icmp_ne C 25 dX5_neededBuyers_20 (by decide) (by omega) (fun h110 => ?_) (fun h110 => ?_)
  · refine y_iconst C dX5_neededBuyers_25 ?_
    refine j_istore_n C 3 [(3, .int (sI 0)), (2, .int (sI (a104 - 1))), (1, .int (sI 0)), (0, .ref (ad 88))] dX5_neededBuyers_26 rfl (by decide) rfl ?_
    have L232 : ∀ (n230 : Nat), ∀ (a233 : Int) (a234 : Int) (M235 : mm_M), (0 ≤ a233 ∧ a233 ≤ 63 ∧ 0 ≤ a234 ∧ a234 ≤ 6 ∧ (6 - a234) < (n230 : Int)) → INV pr Kz M235 → jj p l e (cn_R 3) s m args below meth c 0 0 Q 4 dC dI ad cA A M235 27 [(0, .ref (ad 88)), (1, .int (sI a233)), (2, .int (sI (a104 - 1))), (3, .int (sI a234))] [] := by
      intro n230
      induction n230 with
      | zero =>
        intro a233 a234 M235 h236 hM235
        exfalso; omega
      | succ n230 ih231 =>
        intro a233 a234 M235 h236 hM235
        refine j_iload_n C 3 3 dX5_neededBuyers_27 rfl rfl ?_
        refine j_aload_n C 0 0 dX5_neededBuyers_28 rfl rfl ?_
        refine y_getM C 4 6 fX5_neededBuyers_52 rfl rfl ft_4_9 sm_4_9 (by decide) hM235 dX5_neededBuyers_29 (fun v237 ev237 cv237 => ?_)
        refine y_getI C 6 _ _ fX5_neededBuyers_92 cv237 rfl ft_6_0 sb_6_0 hM235 dX5_neededBuyers_32 (fun a238 ea238 la238 ua238 => ?_)
        refine y_icmp_ge C 65 dX5_neededBuyers_35 (by decide) (by omega) (fun h240 => ?_) (fun h240 => ?_)
        · refine j_iload_n C 1 1 dX5_neededBuyers_65 rfl rfl ?_
          exact hret _ _ _ _ dX5_neededBuyers_66 ⟨a233, rfl, hM235, by omega⟩
        · refine j_aload_n C 0 0 dX5_neededBuyers_38 rfl rfl ?_
          refine j_iload_n C 2 2 dX5_neededBuyers_39 rfl rfl ?_
          refine y_iconst C dX5_neededBuyers_40 ?_
          refine j_iload_n C 3 3 dX5_neededBuyers_41 rfl rfl ?_
          refine y_shl1 C 5 32 dX5_neededBuyers_42 rfl (by decide) (by omega) (fun a241 la241 ua241 => ?_)
          refine y_iconst C dX5_neededBuyers_43 ?_
          refine y_not C dX5_neededBuyers_44 ?_
          refine y_iandL C dX5_neededBuyers_45 (by omega) (fun a242 la242 ua242 => ?_)
          refine j_callVi C (d := 2) (As := [.int (sI a242)]) (st := []) 88 (s_lt rfl rfl) (s_kc (c := 4) rfl rfl) (by decide) rfl (s1_X5_measure hM235 hpr a242 (by omega)) gX5_neededBuyers_X5_measure rfl hdX5_measure (by decide) (Nat.le_of_ble_eq_true rfl) dX5_neededBuyers_46 rfl (fun r243 M244 h245 => ?_)
          obtain ⟨a247, rfl, hM244, h246⟩ := h245
          refine y_iconst C dX5_neededBuyers_49 ?_
          refine y_icmp_ne C 59 dX5_neededBuyers_50 (by decide) (by omega) (fun h248 => ?_) (fun h248 => ?_)
          · refine y_iinc C 3 [(3, .int (sI (a234 + 1))), (0, .ref (ad 88)), (1, .int (sI a233)), (2, .int (sI (a104 - 1)))] dX5_neededBuyers_59 rfl (by decide) rfl ?_
            refine j_goto C 27 dX5_neededBuyers_62 (by decide) ?_
            refine j_lv [1, 2, 3, 0] rfl ?_; exact ih231 a233 (a234 + 1) M244 (by omega) hM244
          · refine j_iload_n C 1 1 dX5_neededBuyers_53 rfl rfl ?_
            refine y_iconst C dX5_neededBuyers_54 ?_
            refine j_iload_n C 3 3 dX5_neededBuyers_55 rfl rfl ?_
            refine y_shl1 C 5 32 dX5_neededBuyers_56 rfl (by decide) (by omega) (fun a249 la249 ua249 => ?_)
            refine y_iorN C 6 63 dX5_neededBuyers_57 rfl (by decide) (by omega) (fun a250 la250 ua250 => ?_)
            refine j_istore_n C 1 [(1, .int (sI a250)), (0, .ref (ad 88)), (2, .int (sI (a104 - 1))), (3, .int (sI a234))] dX5_neededBuyers_58 rfl (by decide) rfl ?_
            refine y_iinc C 3 [(3, .int (sI (a234 + 1))), (1, .int (sI a250)), (0, .ref (ad 88)), (2, .int (sI (a104 - 1)))] dX5_neededBuyers_59 rfl (by decide) rfl ?_
            refine j_goto C 27 dX5_neededBuyers_62 (by decide) ?_
            refine j_lv [2, 1, 3, 0] rfl ?_; exact ih231 a250 (a234 + 1) M244 (by omega) hM244
    refine j_lv [3, 2, 1, 0] rfl ?_; exact L232 2010 0 0 M106 (by omega) hM106
  · refine j_iload_n C 1 1 dX5_neededBuyers_23 rfl rfl ?_
    exact hret _ _ _ _ dX5_neededBuyers_24 ⟨0, rfl, hM106, by omega⟩
set_option maxHeartbeats 4000000 in
theorem s1_X11_needed {l : Launch} {dC : Nat → ClassId} {dI : Nat → Nat → Nat} {ad : Nat → Nat} {cA : Nat → ClassId} {pr : Nat → Nat → Bool} {Kz : mm_M} {M0 : mm_M} (hM0 : INV pr Kz M0) (hpr : PX pr)  : Ci l 6 yX11_needed wsX11_needed dC dI ad cA [.ref (ad 0)] M0 (fun r M' => ∃ a : Int, r = sI a ∧ INV pr Kz M' ∧ 0 ≤ a ∧ a ≤ 63) := by
  refine ci_of (cc := cX11_needed) (maxL := 1) (ty := .int) (lv := [(0, .ref (ad 0))]) (by decide) rfl (fun r M' hp => rfl) (Nat.le_of_ble_eq_true rfl) rfl ?_
  intro p e s m args below meth c A Q C hret
  refine j_aload_n C 0 0 dX11_needed_0 rfl rfl ?_
  refine y_getC C 10 88 fX11_needed_94 rfl rfl ft_10_14 sm_10_14 rfl hM0 dX11_needed_1 ?_
  refine j_aload_n C 0 0 dX11_needed_4 rfl rfl ?_
  refine y_getM C 10 6 fX11_needed_26 rfl rfl ft_10_4 sm_10_4 (by decide) hM0 dX11_needed_5 (fun v101 ev101 cv101 => ?_)
  refine j_aload_n C 0 0 dX11_needed_8 rfl rfl ?_
  refine y_getC C 10 12 fX11_needed_36 rfl rfl ft_10_6 sm_10_6 rfl hM0 dX11_needed_9 ?_
  refine j_aload_n C 0 0 dX11_needed_12 rfl rfl ?_
  refine y_getC C 10 12 fX11_needed_36 rfl rfl ft_10_6 sm_10_6 rfl hM0 dX11_needed_13 ?_
  refine y_getI C 8 _ _ fX11_needed_153 rfl rfl ft_8_4 sb_8_4 hM0 dX11_needed_16 (fun a102 ea102 la102 ua102 => ?_)
  refine j_callVv C (d := 5) (As := [.ref (ad v101), .ref (ad 12), .int (sI a102)]) (st := []) 88 (s_lt rfl rfl) (s_kc (c := 4) rfl rfl) (by decide) rfl (s1_X5_look hM0 hpr cv101 rfl a102 (by omega)) gX11_needed_X5_look rfl hdX5_look (by decide) (Nat.le_of_ble_eq_true rfl) dX11_needed_19 rfl (fun M105 h106 => ?_)
  have hM105 := h106
  refine j_aload_n C 0 0 dX11_needed_22 rfl rfl ?_
  refine y_getC C 10 88 fX11_needed_94 rfl rfl ft_10_14 sm_10_14 rfl hM105 dX11_needed_23 ?_
  refine j_callVi C (d := 3) (As := []) (st := []) 88 (s_lt rfl rfl) (s_kc (c := 4) rfl rfl) (by decide) rfl (s1_X5_neededBuyers hM105 hpr) gX11_needed_X5_neededBuyers rfl hdX5_neededBuyers (by decide) (Nat.le_of_ble_eq_true rfl) dX11_needed_26 rfl (fun r108 M109 h110 => ?_)
  obtain ⟨a112, rfl, hM109, h111⟩ := h110
  exact hret _ _ _ _ dX11_needed_29 ⟨a112, rfl, hM109, by omega⟩
set_option maxHeartbeats 4000000 in
theorem s1_X5_everSold {l : Launch} {dC : Nat → ClassId} {dI : Nat → Nat → Nat} {ad : Nat → Nat} {cA : Nat → ClassId} {pr : Nat → Nat → Bool} {Kz : mm_M} {M0 : mm_M} (hM0 : INV pr Kz M0)  : Ci l 0 yX5_everSold wsX5_everSold dC dI ad cA [.ref (ad 88)] M0 (fun r M' => ∃ a : Int, r = sI a ∧ M0 = M' ∧ 0 ≤ a ∧ a ≤ 255) := by
  refine ci_of (cc := cX5_everSold) (maxL := 3) (ty := .int) (lv := [(0, .ref (ad 88))]) (by decide) rfl (fun r M' hp => rfl) (Nat.le_of_ble_eq_true rfl) rfl ?_
  intro p e s m args below meth c A Q C hret
  refine j_aload_n C 0 0 dX5_everSold_0 rfl rfl ?_
  refine y_getI C 4 _ _ fX5_everSold_45 rfl rfl ft_4_13 sb_4_13 hM0 dX5_everSold_1 (fun a101 ea101 la101 ua101 => ?_)
  refine j_istore_n C 1 [(1, .int (sI a101)), (0, .ref (ad 88))] dX5_everSold_4 rfl (by decide) rfl ?_
  refine j_aload_n C 1 0 dX5_everSold_5 rfl rfl ?_
  refine y_getI C 4 _ _ fX5_everSold_45 rfl rfl ft_4_13 sb_4_13 hM0 dX5_everSold_6 (fun a103 ea103 la103 ua103 => ?_)
  refine j_istore_n C 2 [(2, .int (sI a103)), (1, .int (sI a101)), (0, .ref (ad 88))] dX5_everSold_9 rfl (by decide) rfl ?_
  have L125 : ∀ (n123 : Nat), ∀ (a126 : Int) (a127 : Int), (0 ≤ a126 ∧ a126 ≤ 255 ∧ 0 ≤ a127 ∧ a127 ≤ 256 ∧ (256 - a127) < (n123 : Int)) → jj p l e (cn_R 0) s m args below meth c 0 0 Q 3 dC dI ad cA A M0 10 [(0, .ref (ad 88)), (1, .int (sI a126)), (2, .int (sI a127))] [] := by
    intro n123
    induction n123 with
    | zero =>
      intro a126 a127 h128
      exfalso; omega
    | succ n123 ih124 =>
      intro a126 a127 h128
      refine j_iload_n C 2 2 dX5_everSold_10 rfl rfl ?_
      refine j_aload_n C 0 0 dX5_everSold_11 rfl rfl ?_
      refine y_getI C 4 _ _ fX5_everSold_38 rfl rfl ft_4_11 sb_4_11 hM0 dX5_everSold_12 (fun a129 ea129 la129 ua129 => ?_)
      refine y_icmp_gt C 42 dX5_everSold_15 (by decide) (by omega) (fun h131 => ?_) (fun h131 => ?_)
      · refine j_iload_n C 1 1 dX5_everSold_42 rfl rfl ?_
        exact hret _ _ _ _ dX5_everSold_43 ⟨a126, rfl, rfl, by omega⟩
      · refine j_iload_n C 1 1 dX5_everSold_18 rfl rfl ?_
        refine j_aload_n C 0 0 dX5_everSold_19 rfl rfl ?_
        refine y_getC C 4 90 fX5_everSold_15 rfl rfl ft_4_2 sm_4_2 rfl hM0 dX5_everSold_20 ?_
        refine j_iload_n C 2 2 dX5_everSold_23 rfl rfl ?_
        refine y_iald C 39 256 _ _ rfl rfl rfl ak_39 an_39 rfl (sb_39 _) hM0 dX5_everSold_24 (by omega) (fun a132 ea132 la132 ua132 => ?_)
        refine y_iconst C dX5_everSold_25 ?_
        refine y_icmp_ne C 33 dX5_everSold_26 (by decide) (by omega) (fun h133 => ?_) (fun h133 => ?_)
        · refine y_iconst C dX5_everSold_33 ?_
          refine y_iorN C 8 255 dX5_everSold_34 rfl (by decide) (by omega) (fun a134 la134 ua134 => ?_)
          refine j_istore_n C 1 [(1, .int (sI a134)), (0, .ref (ad 88)), (2, .int (sI a127))] dX5_everSold_35 rfl (by decide) rfl ?_
          refine y_iinc C 2 [(2, .int (sI (a127 + 1))), (1, .int (sI a134)), (0, .ref (ad 88))] dX5_everSold_36 rfl (by decide) rfl ?_
          refine j_goto C 10 dX5_everSold_39 (by decide) ?_
          refine j_lv [2, 1, 0] rfl ?_; exact ih124 a134 (a127 + 1) (by omega)
        · refine j_iload_n C 2 2 dX5_everSold_29 rfl rfl ?_
          refine j_goto C 34 dX5_everSold_30 (by decide) ?_
          refine y_iorN C 8 255 dX5_everSold_34 rfl (by decide) (by omega) (fun a135 la135 ua135 => ?_)
          refine j_istore_n C 1 [(1, .int (sI a135)), (0, .ref (ad 88)), (2, .int (sI a127))] dX5_everSold_35 rfl (by decide) rfl ?_
          refine y_iinc C 2 [(2, .int (sI (a127 + 1))), (1, .int (sI a135)), (0, .ref (ad 88))] dX5_everSold_36 rfl (by decide) rfl ?_
          refine j_goto C 10 dX5_everSold_39 (by decide) ?_
          refine j_lv [2, 1, 0] rfl ?_; exact ih124 a135 (a127 + 1) (by omega)
  refine j_lv [2, 1, 0] rfl ?_; exact L125 2010 a101 a103 (by omega)
set_option maxHeartbeats 4000000 in
theorem s1_X11_sellable {l : Launch} {dC : Nat → ClassId} {dI : Nat → Nat → Nat} {ad : Nat → Nat} {cA : Nat → ClassId} {pr : Nat → Nat → Bool} {Kz : mm_M} {M0 : mm_M} (hM0 : INV pr Kz M0) (hpr : PX pr)  : Ci l 6 yX11_sellable wsX11_sellable dC dI ad cA [.ref (ad 0)] M0 (fun r M' => ∃ a : Int, r = sI a ∧ INV pr Kz M' ∧ 0 ≤ a ∧ a ≤ 255) := by
  refine ci_of (cc := cX11_sellable) (maxL := 1) (ty := .int) (lv := [(0, .ref (ad 0))]) (by decide) rfl (fun r M' hp => rfl) (Nat.le_of_ble_eq_true rfl) rfl ?_
  intro p e s m args below meth c A Q C hret
  refine j_aload_n C 0 0 dX11_sellable_0 rfl rfl ?_
  refine y_getC C 10 88 fX11_sellable_94 rfl rfl ft_10_14 sm_10_14 rfl hM0 dX11_sellable_1 ?_
  refine j_aload_n C 0 0 dX11_sellable_4 rfl rfl ?_
  refine y_getM C 10 6 fX11_sellable_26 rfl rfl ft_10_4 sm_10_4 (by decide) hM0 dX11_sellable_5 (fun v101 ev101 cv101 => ?_)
  refine j_aload_n C 0 0 dX11_sellable_8 rfl rfl ?_
  refine y_getC C 10 12 fX11_sellable_36 rfl rfl ft_10_6 sm_10_6 rfl hM0 dX11_sellable_9 ?_
  refine j_aload_n C 0 0 dX11_sellable_12 rfl rfl ?_
  refine y_getC C 10 12 fX11_sellable_36 rfl rfl ft_10_6 sm_10_6 rfl hM0 dX11_sellable_13 ?_
  refine y_getI C 8 _ _ fX11_sellable_153 rfl rfl ft_8_4 sb_8_4 hM0 dX11_sellable_16 (fun a102 ea102 la102 ua102 => ?_)
  refine j_callVv C (d := 5) (As := [.ref (ad v101), .ref (ad 12), .int (sI a102)]) (st := []) 88 (s_lt rfl rfl) (s_kc (c := 4) rfl rfl) (by decide) rfl (s1_X5_look hM0 hpr cv101 rfl a102 (by omega)) gX11_sellable_X5_look rfl hdX5_look (by decide) (Nat.le_of_ble_eq_true rfl) dX11_sellable_19 rfl (fun M105 h106 => ?_)
  have hM105 := h106
  refine j_aload_n C 0 0 dX11_sellable_22 rfl rfl ?_
  refine y_getC C 10 88 fX11_sellable_94 rfl rfl ft_10_14 sm_10_14 rfl hM105 dX11_sellable_23 ?_
  refine j_callVi C (d := 0) (As := []) (st := []) 88 (s_lt rfl rfl) (s_kc (c := 4) rfl rfl) (by decide) rfl (s1_X5_everSold hM105) gX11_sellable_X5_everSold rfl hdX5_everSold (by decide) (Nat.le_of_ble_eq_true rfl) dX11_sellable_26 rfl (fun r108 M109 h110 => ?_)
  obtain ⟨a112, rfl, rfl, h111⟩ := h110
  exact hret _ _ _ _ dX11_sellable_29 ⟨a112, rfl, hM105, by omega⟩
set_option maxHeartbeats 4000000 in
theorem s1_X11_guards {l : Launch} {dC : Nat → ClassId} {dI : Nat → Nat → Nat} {ad : Nat → Nat} {cA : Nat → ClassId} {pr : Nat → Nat → Bool} {Kz : mm_M} {M0 : mm_M} (hM0 : INV pr Kz M0) (hpr : PX pr)  : Ci l 6 yX11_guards wsX11_guards dC dI ad cA [.ref (ad 0)] M0 (fun r M' => ∃ a : Int, r = sI a ∧ INV pr Kz M' ∧ 0 ≤ a ∧ a ≤ 255) := by
  refine ci_of (cc := cX11_guards) (maxL := 3) (ty := .int) (lv := [(0, .ref (ad 0))]) (by decide) rfl (fun r M' hp => rfl) (Nat.le_of_ble_eq_true rfl) rfl ?_
  intro p e s m args below meth c A Q C hret
  refine y_iconst C dX11_guards_0 ?_
  refine j_istore_n C 1 [(1, .int (sI 0)), (0, .ref (ad 0))] dX11_guards_1 rfl (by decide) rfl ?_
  refine j_aload_n C 1 0 dX11_guards_2 rfl rfl ?_
  refine y_getC C 10 88 fX11_guards_94 rfl rfl ft_10_14 sm_10_14 rfl hM0 dX11_guards_3 ?_
  refine j_aload_n C 1 0 dX11_guards_6 rfl rfl ?_
  refine y_getM C 10 6 fX11_guards_26 rfl rfl ft_10_4 sm_10_4 (by decide) hM0 dX11_guards_7 (fun v101 ev101 cv101 => ?_)
  refine j_aload_n C 1 0 dX11_guards_10 rfl rfl ?_
  refine y_getC C 10 12 fX11_guards_36 rfl rfl ft_10_6 sm_10_6 rfl hM0 dX11_guards_11 ?_
  refine j_aload_n C 1 0 dX11_guards_14 rfl rfl ?_
  refine y_getC C 10 12 fX11_guards_36 rfl rfl ft_10_6 sm_10_6 rfl hM0 dX11_guards_15 ?_
  refine y_getI C 8 _ _ fX11_guards_153 rfl rfl ft_8_4 sb_8_4 hM0 dX11_guards_18 (fun a102 ea102 la102 ua102 => ?_)
  refine j_callVv C (d := 5) (As := [.ref (ad v101), .ref (ad 12), .int (sI a102)]) (st := []) 88 (s_lt rfl rfl) (s_kc (c := 4) rfl rfl) (by decide) rfl (s1_X5_look hM0 hpr cv101 rfl a102 (by omega)) gX11_guards_X5_look rfl hdX5_look (by decide) (Nat.le_of_ble_eq_true rfl) dX11_guards_21 rfl (fun M105 h106 => ?_)
  have hM105 := h106
  refine j_aload_n C 1 0 dX11_guards_24 rfl rfl ?_
  refine y_getC C 10 88 fX11_guards_94 rfl rfl ft_10_14 sm_10_14 rfl hM105 dX11_guards_25 ?_
  refine j_callVi C (d := 3) (As := []) (st := []) 88 (s_lt rfl rfl) (s_kc (c := 4) rfl rfl) (by decide) rfl (s1_X5_shortest hM105 hpr) gX11_guards_X5_shortest rfl hdX5_shortest (by decide) (Nat.le_of_ble_eq_true rfl) dX11_guards_28 rfl (fun r108 M109 h110 => ?_)
  obtain ⟨a112, rfl, hM109, h111⟩ := h110
  refine y_iconst C dX11_guards_31 ?_
  refine y_icmp_ne C 37 dX11_guards_32 (by decide) (by omega) (fun h113 => ?_) (fun h113 => ?_)
  · refine y_iconst C dX11_guards_37 ?_
    refine j_istore_n C 2 [(2, .int (sI 0)), (1, .int (sI 0)), (0, .ref (ad 0))] dX11_guards_38 rfl (by decide) rfl ?_
    have L377 : ∀ (n375 : Nat), ∀ (a378 : Int) (a379 : Int) (M380 : mm_M), (0 ≤ a378 ∧ a378 ≤ 255 ∧ 0 ≤ a379 ∧ a379 ≤ 8 ∧ (8 - a379) < (n375 : Int)) → INV pr Kz M380 → jj p l e (cn_R 6) s m args below meth c 0 0 Q 3 dC dI ad cA A M380 39 [(0, .ref (ad 0)), (1, .int (sI a378)), (2, .int (sI a379))] [] := by
      intro n375
      induction n375 with
      | zero =>
        intro a378 a379 M380 h381 hM380
        exfalso; omega
      | succ n375 ih376 =>
        intro a378 a379 M380 h381 hM380
        refine j_iload_n C 2 2 dX11_guards_39 rfl rfl ?_
        refine j_aload_n C 0 0 dX11_guards_40 rfl rfl ?_
        refine y_getC C 10 12 fX11_guards_36 rfl rfl ft_10_6 sm_10_6 rfl hM380 dX11_guards_41 ?_
        refine y_getI C 8 _ _ fX11_guards_160 rfl rfl ft_8_0 sb_8_0 hM380 dX11_guards_44 (fun a382 ea382 la382 ua382 => ?_)
        refine y_icmp_ge C 117 dX11_guards_47 (by decide) (by omega) (fun h384 => ?_) (fun h384 => ?_)
        · refine j_iload_n C 1 1 dX11_guards_117 rfl rfl ?_
          exact hret _ _ _ _ dX11_guards_118 ⟨a378, rfl, hM380, by omega⟩
        · refine j_aload_n C 0 0 dX11_guards_50 rfl rfl ?_
          refine y_getC C 10 12 fX11_guards_36 rfl rfl ft_10_6 sm_10_6 rfl hM380 dX11_guards_51 ?_
          refine y_getI C 8 _ _ fX11_guards_153 rfl rfl ft_8_4 sb_8_4 hM380 dX11_guards_54 (fun a385 ea385 la385 ua385 => ?_)
          refine j_iload_n C 2 2 dX11_guards_57 rfl rfl ?_
          refine y_ishrP C dX11_guards_58 (by omega) (fun a387 la387 ua387 => ?_)
          refine y_iconst C dX11_guards_59 ?_
          refine y_iandR C dX11_guards_60 (by omega) (fun a388 la388 ua388 => ?_)
          refine y_if_ne C 111 dX11_guards_61 (by decide) (by omega) (fun h389 => ?_) (fun h389 => ?_)
          · refine y_iinc C 2 [(2, .int (sI (a379 + 1))), (0, .ref (ad 0)), (1, .int (sI a378))] dX11_guards_111 rfl (by decide) rfl ?_
            refine j_goto C 39 dX11_guards_114 (by decide) ?_
            refine j_lv [1, 2, 0] rfl ?_; exact ih376 a378 (a379 + 1) M380 (by omega) hM380
          · refine j_aload_n C 0 0 dX11_guards_64 rfl rfl ?_
            refine y_getC C 10 88 fX11_guards_94 rfl rfl ft_10_14 sm_10_14 rfl hM380 dX11_guards_65 ?_
            refine j_aload_n C 0 0 dX11_guards_68 rfl rfl ?_
            refine y_getM C 10 6 fX11_guards_26 rfl rfl ft_10_4 sm_10_4 (by decide) hM380 dX11_guards_69 (fun v390 ev390 cv390 => ?_)
            refine j_aload_n C 0 0 dX11_guards_72 rfl rfl ?_
            refine y_getC C 10 12 fX11_guards_36 rfl rfl ft_10_6 sm_10_6 rfl hM380 dX11_guards_73 ?_
            refine j_aload_n C 0 0 dX11_guards_76 rfl rfl ?_
            refine y_getC C 10 12 fX11_guards_36 rfl rfl ft_10_6 sm_10_6 rfl hM380 dX11_guards_77 ?_
            refine y_getI C 8 _ _ fX11_guards_153 rfl rfl ft_8_4 sb_8_4 hM380 dX11_guards_80 (fun a391 ea391 la391 ua391 => ?_)
            refine y_iconst C dX11_guards_83 ?_
            refine j_iload_n C 2 2 dX11_guards_84 rfl rfl ?_
            refine y_shl1 C 7 128 dX11_guards_85 rfl (by decide) (by omega) (fun a393 la393 ua393 => ?_)
            refine y_iorN C 8 255 dX11_guards_86 rfl (by decide) (by omega) (fun a394 la394 ua394 => ?_)
            refine j_callVv C (d := 5) (As := [.ref (ad v390), .ref (ad 12), .int (sI a394)]) (st := []) 88 (s_lt rfl rfl) (s_kc (c := 4) rfl rfl) (by decide) rfl (s1_X5_look hM380 hpr cv390 rfl a394 (by omega)) gX11_guards_X5_look rfl hdX5_look (by decide) (Nat.le_of_ble_eq_true rfl) dX11_guards_87 rfl (fun M396 h397 => ?_)
            have hM396 := h397
            refine j_iload_n C 1 1 dX11_guards_90 rfl rfl ?_
            refine j_aload_n C 0 0 dX11_guards_91 rfl rfl ?_
            refine y_getC C 10 88 fX11_guards_94 rfl rfl ft_10_14 sm_10_14 rfl hM396 dX11_guards_92 ?_
            refine j_callVi C (d := 3) (As := []) (st := [.int (sI a378)]) 88 (s_lt rfl rfl) (s_kc (c := 4) rfl rfl) (by decide) rfl (s1_X5_shortest hM396 hpr) gX11_guards_X5_shortest rfl hdX5_shortest (by decide) (Nat.le_of_ble_eq_true rfl) dX11_guards_95 rfl (fun r399 M400 h401 => ?_)
            obtain ⟨a403, rfl, hM400, h402⟩ := h401
            refine y_iconst C dX11_guards_98 ?_
            refine y_icmp_ne C 108 dX11_guards_99 (by decide) (by omega) (fun h404 => ?_) (fun h404 => ?_)
            · refine y_iconst C dX11_guards_108 ?_
              refine y_iorN C 8 255 dX11_guards_109 rfl (by decide) (by omega) (fun a405 la405 ua405 => ?_)
              refine j_istore_n C 1 [(1, .int (sI a405)), (0, .ref (ad 0)), (2, .int (sI a379))] dX11_guards_110 rfl (by decide) rfl ?_
              refine y_iinc C 2 [(2, .int (sI (a379 + 1))), (1, .int (sI a405)), (0, .ref (ad 0))] dX11_guards_111 rfl (by decide) rfl ?_
              refine j_goto C 39 dX11_guards_114 (by decide) ?_
              refine j_lv [2, 1, 0] rfl ?_; exact ih376 a405 (a379 + 1) M400 (by omega) hM400
            · refine y_iconst C dX11_guards_102 ?_
              refine j_iload_n C 2 2 dX11_guards_103 rfl rfl ?_
              refine y_shl1 C 7 128 dX11_guards_104 rfl (by decide) (by omega) (fun a406 la406 ua406 => ?_)
              refine j_goto C 109 dX11_guards_105 (by decide) ?_
              refine y_iorN C 8 255 dX11_guards_109 rfl (by decide) (by omega) (fun a407 la407 ua407 => ?_)
              refine j_istore_n C 1 [(1, .int (sI a407)), (0, .ref (ad 0)), (2, .int (sI a379))] dX11_guards_110 rfl (by decide) rfl ?_
              refine y_iinc C 2 [(2, .int (sI (a379 + 1))), (1, .int (sI a407)), (0, .ref (ad 0))] dX11_guards_111 rfl (by decide) rfl ?_
              refine j_goto C 39 dX11_guards_114 (by decide) ?_
              refine j_lv [2, 1, 0] rfl ?_; exact ih376 a407 (a379 + 1) M400 (by omega) hM400
    refine j_lv [2, 1, 0] rfl ?_; exact L377 2010 0 0 M109 (by omega) hM109
  · refine j_iload_n C 0 1 dX11_guards_35 rfl rfl ?_
    exact hret _ _ _ _ dX11_guards_36 ⟨0, rfl, hM109, by omega⟩
set_option maxHeartbeats 4000000 in
theorem s1_X5_lastLeft {l : Launch} {dC : Nat → ClassId} {dI : Nat → Nat → Nat} {ad : Nat → Nat} {cA : Nat → ClassId} {pr : Nat → Nat → Bool} {Kz : mm_M} {M0 : mm_M} (hM0 : INV pr Kz M0)  : Ci l 1 yX5_lastLeft wsX5_lastLeft dC dI ad cA [.ref (ad 88)] M0 (fun r M' => ∃ a : Int, r = sI a ∧ M0 = M' ∧ 0 ≤ a ∧ a ≤ 255) := by
  refine ci_of (cc := cX5_lastLeft) (maxL := 4) (ty := .int) (lv := [(0, .ref (ad 88))]) (by decide) rfl (fun r M' hp => rfl) (Nat.le_of_ble_eq_true rfl) rfl ?_
  intro p e s m args below meth c A Q C hret
  refine y_iconst C dX5_lastLeft_0 ?_
  refine j_istore_n C 1 [(1, .int (sI 0)), (0, .ref (ad 88))] dX5_lastLeft_1 rfl (by decide) rfl ?_
  refine j_aload_n C 1 0 dX5_lastLeft_2 rfl rfl ?_
  refine y_getI C 4 _ _ fX5_lastLeft_45 rfl rfl ft_4_13 sb_4_13 hM0 dX5_lastLeft_3 (fun a101 ea101 la101 ua101 => ?_)
  refine j_istore_n C 2 [(2, .int (sI a101)), (1, .int (sI 0)), (0, .ref (ad 88))] dX5_lastLeft_6 rfl (by decide) rfl ?_
  have L139 : ∀ (n137 : Nat), ∀ (a140 : Int) (a141 : Int), (0 ≤ a140 ∧ a140 ≤ 255 ∧ 0 ≤ a141 ∧ a141 ≤ 256 ∧ (256 - a141) < (n137 : Int)) → jj p l e (cn_R 1) s m args below meth c 0 0 Q 4 dC dI ad cA A M0 7 [(0, .ref (ad 88)), (1, .int (sI a140)), (2, .int (sI a141))] [] := by
    intro n137
    induction n137 with
    | zero =>
      intro a140 a141 h142
      exfalso; omega
    | succ n137 ih138 =>
      intro a140 a141 h142
      refine j_iload_n C 2 2 dX5_lastLeft_7 rfl rfl ?_
      refine j_aload_n C 0 0 dX5_lastLeft_8 rfl rfl ?_
      refine y_getI C 4 _ _ fX5_lastLeft_38 rfl rfl ft_4_11 sb_4_11 hM0 dX5_lastLeft_9 (fun a143 ea143 la143 ua143 => ?_)
      refine y_icmp_gt C 52 dX5_lastLeft_12 (by decide) (by omega) (fun h145 => ?_) (fun h145 => ?_)
      · refine j_iload_n C 1 1 dX5_lastLeft_52 rfl rfl ?_
        exact hret _ _ _ _ dX5_lastLeft_53 ⟨a140, rfl, rfl, by omega⟩
      · refine j_aload_n C 0 0 dX5_lastLeft_15 rfl rfl ?_
        refine y_getI C 4 _ _ fX5_lastLeft_42 rfl rfl ft_4_12 sb_4_12 hM0 dX5_lastLeft_16 (fun a146 ea146 la146 ua146 => ?_)
        refine j_iload_n C 2 2 dX5_lastLeft_19 rfl rfl ?_
        refine y_iconst C dX5_lastLeft_20 ?_
        refine y_not C dX5_lastLeft_21 ?_
        refine y_iandL C dX5_lastLeft_22 (by omega) (fun a148 la148 ua148 => ?_)
        refine j_istore_n C 3 [(3, .int (sI a148)), (0, .ref (ad 88)), (1, .int (sI a140)), (2, .int (sI a141))] dX5_lastLeft_23 rfl (by decide) rfl ?_
        refine j_aload_n C 1 0 dX5_lastLeft_24 rfl rfl ?_
        refine y_getC C 4 90 fX5_lastLeft_15 rfl rfl ft_4_2 sm_4_2 rfl hM0 dX5_lastLeft_25 ?_
        refine j_iload_n C 3 2 dX5_lastLeft_28 rfl rfl ?_
        refine y_iald C 39 256 _ _ rfl rfl rfl ak_39 an_39 rfl (sb_39 _) hM0 dX5_lastLeft_29 (by omega) (fun a149 ea149 la149 ua149 => ?_)
        refine y_iconst C dX5_lastLeft_30 ?_
        refine y_icmp_ne C 46 dX5_lastLeft_31 (by decide) (by omega) (fun h150 => ?_) (fun h150 => ?_)
        · refine y_iinc C 3 [(2, .int (sI (a141 + 1))), (3, .int (sI a148)), (0, .ref (ad 88)), (1, .int (sI a140))] dX5_lastLeft_46 rfl (by decide) rfl ?_
          refine j_goto C 7 dX5_lastLeft_49 (by decide) ?_
          refine j_lv [2, 3, 0] rfl ?_; exact ih138 a140 (a141 + 1) (by omega)
        · refine j_iload_n C 0 3 dX5_lastLeft_34 rfl rfl ?_
          refine j_callSi C (d := 0) (As := [.int (sI a148)]) (st := []) (s1_J6_bitCount_0f7a4 hM0 a148 (by omega)) gX5_lastLeft_J6_bitCount_0f7a4 rfl hdJ6_bitCount_0f7a4s (by decide) (Nat.le_of_ble_eq_true rfl) dX5_lastLeft_35 rfl (fun r151 M152 h153 => ?_)
          obtain ⟨a155, rfl, rfl, h154⟩ := h153
          refine y_iconst C dX5_lastLeft_38 ?_
          refine y_icmp_ne C 46 dX5_lastLeft_39 (by decide) (by omega) (fun h156 => ?_) (fun h156 => ?_)
          · refine y_iinc C 3 [(2, .int (sI (a141 + 1))), (3, .int (sI a148)), (0, .ref (ad 88)), (1, .int (sI a140))] dX5_lastLeft_46 rfl (by decide) rfl ?_
            refine j_goto C 7 dX5_lastLeft_49 (by decide) ?_
            refine j_lv [2, 3, 0] rfl ?_; exact ih138 a140 (a141 + 1) (by omega)
          · refine j_iload_n C 2 1 dX5_lastLeft_42 rfl rfl ?_
            refine j_iload_n C 0 3 dX5_lastLeft_43 rfl rfl ?_
            refine y_iorN C 8 255 dX5_lastLeft_44 rfl (by decide) (by omega) (fun a157 la157 ua157 => ?_)
            refine j_istore_n C 1 [(1, .int (sI a157)), (3, .int (sI a148)), (0, .ref (ad 88)), (2, .int (sI a141))] dX5_lastLeft_45 rfl (by decide) rfl ?_
            refine y_iinc C 3 [(2, .int (sI (a141 + 1))), (1, .int (sI a157)), (3, .int (sI a148)), (0, .ref (ad 88))] dX5_lastLeft_46 rfl (by decide) rfl ?_
            refine j_goto C 7 dX5_lastLeft_49 (by decide) ?_
            refine j_lv [3, 1, 0] rfl ?_; exact ih138 a157 (a141 + 1) (by omega)
  refine j_lv [2, 1, 0] rfl ?_; exact L139 2010 0 a101 (by omega)
set_option maxHeartbeats 4000000 in
theorem s1_X11_last {l : Launch} {dC : Nat → ClassId} {dI : Nat → Nat → Nat} {ad : Nat → Nat} {cA : Nat → ClassId} {pr : Nat → Nat → Bool} {Kz : mm_M} {M0 : mm_M} (hM0 : INV pr Kz M0) (hpr : PX pr)  : Ci l 6 yX11_last wsX11_last dC dI ad cA [.ref (ad 0)] M0 (fun r M' => ∃ a : Int, r = sI a ∧ INV pr Kz M' ∧ 0 ≤ a ∧ a ≤ 255) := by
  refine ci_of (cc := cX11_last) (maxL := 1) (ty := .int) (lv := [(0, .ref (ad 0))]) (by decide) rfl (fun r M' hp => rfl) (Nat.le_of_ble_eq_true rfl) rfl ?_
  intro p e s m args below meth c A Q C hret
  refine j_aload_n C 0 0 dX11_last_0 rfl rfl ?_
  refine y_getC C 10 88 fX11_last_94 rfl rfl ft_10_14 sm_10_14 rfl hM0 dX11_last_1 ?_
  refine j_aload_n C 0 0 dX11_last_4 rfl rfl ?_
  refine y_getM C 10 6 fX11_last_26 rfl rfl ft_10_4 sm_10_4 (by decide) hM0 dX11_last_5 (fun v101 ev101 cv101 => ?_)
  refine j_aload_n C 0 0 dX11_last_8 rfl rfl ?_
  refine y_getC C 10 12 fX11_last_36 rfl rfl ft_10_6 sm_10_6 rfl hM0 dX11_last_9 ?_
  refine j_aload_n C 0 0 dX11_last_12 rfl rfl ?_
  refine y_getC C 10 12 fX11_last_36 rfl rfl ft_10_6 sm_10_6 rfl hM0 dX11_last_13 ?_
  refine y_getI C 8 _ _ fX11_last_153 rfl rfl ft_8_4 sb_8_4 hM0 dX11_last_16 (fun a102 ea102 la102 ua102 => ?_)
  refine j_callVv C (d := 5) (As := [.ref (ad v101), .ref (ad 12), .int (sI a102)]) (st := []) 88 (s_lt rfl rfl) (s_kc (c := 4) rfl rfl) (by decide) rfl (s1_X5_look hM0 hpr cv101 rfl a102 (by omega)) gX11_last_X5_look rfl hdX5_look (by decide) (Nat.le_of_ble_eq_true rfl) dX11_last_19 rfl (fun M105 h106 => ?_)
  have hM105 := h106
  refine j_aload_n C 0 0 dX11_last_22 rfl rfl ?_
  refine y_getC C 10 88 fX11_last_94 rfl rfl ft_10_14 sm_10_14 rfl hM105 dX11_last_23 ?_
  refine j_callVi C (d := 1) (As := []) (st := []) 88 (s_lt rfl rfl) (s_kc (c := 4) rfl rfl) (by decide) rfl (s1_X5_lastLeft hM105) gX11_last_X5_lastLeft rfl hdX5_lastLeft (by decide) (Nat.le_of_ble_eq_true rfl) dX11_last_26 rfl (fun r108 M109 h110 => ?_)
  obtain ⟨a112, rfl, rfl, h111⟩ := h110
  exact hret _ _ _ _ dX11_last_29 ⟨a112, rfl, hM105, by omega⟩
set_option maxHeartbeats 4000000 in
theorem s1_X11_chanceRefusal {l : Launch} {dC : Nat → ClassId} {dI : Nat → Nat → Nat} {ad : Nat → Nat} {cA : Nat → ClassId} {pr : Nat → Nat → Bool} {Kz : mm_M} {M0 : mm_M} (hM0 : INV pr Kz M0) (a0 : Int) (ha0 : -2147483648 ≤ a0 ∧ a0 ≤ 2147483647) (a1 : Int) (ha1 : -2147483648 ≤ a1 ∧ a1 ≤ 2147483647) (a2 : Int) (ha2 : -2147483648 ≤ a2 ∧ a2 ≤ 2147483647) : Ci l 0 yX11_chanceRefusal wsX11_chanceRefusal dC dI ad cA [.int (sI a0), .int (sI a1), .int (sI a2)] M0 (fun r M' => ∃ a : Int, r = sI a ∧ M0 = M' ∧ (-3) ≤ a ∧ a ≤ 0 ∧ ((a0 < 0 ∧ a = (-2)) ∨ (0 ≤ a0 ∧ a0 ≤ 1 ∧ a1 < 0 ∧ a = (-3)) ∨ (0 ≤ a0 ∧ a0 ≤ 1 ∧ 0 ≤ a1 ∧ a1 ≤ a2 ∧ a = 0) ∨ (0 ≤ a0 ∧ a0 ≤ 1 ∧ 0 ≤ a1 ∧ a2 < a1 ∧ a = (-3)) ∨ (0 ≤ a0 ∧ 1 < a0 ∧ a = (-2)))) := by
  refine ci_of (cc := cX11_chanceRefusal) (maxL := 3) (ty := .int) (lv := [(0, .int (sI a0)), (1, .int (sI a1)), (2, .int (sI a2))]) (by decide) rfl (fun r M' hp => rfl) (Nat.le_of_ble_eq_true rfl) rfl ?_
  intro p e s m args below meth c A Q C hret
  refine j_iload_n C 0 0 dX11_chanceRefusal_0 rfl rfl ?_
  refine y_if_lt C 9 dX11_chanceRefusal_1 (by decide) (by omega) (fun h101 => ?_) (fun h101 => ?_)
  · refine y_bipush C dX11_chanceRefusal_9 rfl ?_
    exact hret _ _ _ _ dX11_chanceRefusal_11 ⟨(-2), rfl, rfl, by omega⟩
  · refine j_iload_n C 0 0 dX11_chanceRefusal_4 rfl rfl ?_
    refine y_iconst C dX11_chanceRefusal_5 ?_
    refine y_icmp_le C 12 dX11_chanceRefusal_6 (by decide) (by omega) (fun h102 => ?_) (fun h102 => ?_)
    · refine j_iload_n C 1 1 dX11_chanceRefusal_12 rfl rfl ?_
      refine y_if_lt C 21 dX11_chanceRefusal_13 (by decide) (by omega) (fun h103 => ?_) (fun h103 => ?_)
      · refine y_bipush C dX11_chanceRefusal_21 rfl ?_
        refine j_goto C 27 dX11_chanceRefusal_23 (by decide) ?_
        exact hret _ _ _ _ dX11_chanceRefusal_27 ⟨(-3), rfl, rfl, by omega⟩
      · refine j_iload_n C 1 1 dX11_chanceRefusal_16 rfl rfl ?_
        refine j_iload_n C 2 2 dX11_chanceRefusal_17 rfl rfl ?_
        refine y_icmp_le C 26 dX11_chanceRefusal_18 (by decide) (by omega) (fun h104 => ?_) (fun h104 => ?_)
        · refine y_iconst C dX11_chanceRefusal_26 ?_
          exact hret _ _ _ _ dX11_chanceRefusal_27 ⟨0, rfl, rfl, by omega⟩
        · refine y_bipush C dX11_chanceRefusal_21 rfl ?_
          refine j_goto C 27 dX11_chanceRefusal_23 (by decide) ?_
          exact hret _ _ _ _ dX11_chanceRefusal_27 ⟨(-3), rfl, rfl, by omega⟩
    · refine y_bipush C dX11_chanceRefusal_9 rfl ?_
      exact hret _ _ _ _ dX11_chanceRefusal_11 ⟨(-2), rfl, rfl, by omega⟩
set_option maxHeartbeats 4000000 in
theorem s2_J7_fill_d0a16 {l : Launch} {dC : Nat → ClassId} {dI : Nat → Nat → Nat} {ad : Nat → Nat} {cA : Nat → ClassId} {pr : Nat → Nat → Bool} {Kz : mm_M} {M0 : mm_M} (hM0 : INV pr Kz M0) (hpr : PX pr) (a1 : Int) (ha1 : -9223372036854775808 ≤ a1 ∧ a1 ≤ 9223372036854775807) : Cv l 0 yJ7_fill_d0a16 wsJ7_fill_d0a16 dC dI ad cA [.ref (ad 94), .long (sJ a1)] M0 (fun M' => INV pr Kz M') := by
  refine cv_of (cc := cJ7_fill_d0a16) (maxL := 5) (lv := [(0, .ref (ad 94)), (1, .long (sJ a1))]) (by decide) rfl (Nat.le_of_ble_eq_true rfl) rfl ?_
  intro p e s m args below meth c A Q C hret
  refine y_iconst C dJ7_fill_d0a16_0 ?_
  refine j_istore_n C 3 [(3, .int (sI 0)), (0, .ref (ad 94)), (1, .long (sJ a1))] dJ7_fill_d0a16_1 rfl (by decide) rfl ?_
  refine j_aload_n C 1 0 dJ7_fill_d0a16_2 rfl rfl ?_
  refine y_alen C 42 6 rfl rfl rfl an_42 rfl rfl dJ7_fill_d0a16_3 ?_
  refine j_istore C 4 [(4, .int (sI 6)), (3, .int (sI 0)), (0, .ref (ad 94)), (1, .long (sJ a1))] dJ7_fill_d0a16_4 (by decide) rfl ?_
  have L131 : ∀ (n129 : Nat), ∀ (a132 : Int) (M133 : mm_M), (0 ≤ a132 ∧ a132 ≤ 6 ∧ (6 - a132) < (n129 : Int)) → INV pr Kz M133 → jj p l e (cn_R 0) s m args below meth c 0 0 Q 5 dC dI ad cA A M133 6 [(0, .ref (ad 94)), (1, .long (sJ a1)), (3, .int (sI a132)), (4, .int (sI 6))] [] := by
    intro n129
    induction n129 with
    | zero =>
      intro a132 M133 h134 hM133
      exfalso; omega
    | succ n129 ih130 =>
      intro a132 M133 h134 hM133
      refine j_iload_n C 2 3 dJ7_fill_d0a16_6 rfl rfl ?_
      refine j_iload C 3 dJ7_fill_d0a16_7 rfl ?_
      refine y_icmp_ge C 22 dJ7_fill_d0a16_9 (by decide) (by omega) (fun h135 => ?_) (fun h135 => ?_)
      · exact hret _ _ _ dJ7_fill_d0a16_22 hM133
      · refine j_aload_n C 0 0 dJ7_fill_d0a16_12 rfl rfl ?_
        refine j_iload_n C 2 3 dJ7_fill_d0a16_13 rfl rfl ?_
        refine j_lload_n C 1 1 dJ7_fill_d0a16_14 rfl rfl ?_
        refine y_last C 42 6 rfl rfl rfl ak_42 an_42 rfl hM133 (PX.w hpr rfl rfl) dJ7_fill_d0a16_15 (by omega) (fun M136 eM136 hM136 => ?_)
        refine y_iinc C 2 [(3, .int (sI (a132 + 1))), (0, .ref (ad 94)), (1, .long (sJ a1)), (4, .int (sI 6))] dJ7_fill_d0a16_16 rfl (by decide) rfl ?_
        refine j_goto C 6 dJ7_fill_d0a16_19 (by decide) ?_
        refine j_lv [1, 2, 0, 3] rfl ?_; exact ih130 (a132 + 1) M136 (by omega) hM136
  refine j_lv [2, 3, 1, 0] rfl ?_; exact L131 2010 0 M0 (by omega) hM0
set_option maxHeartbeats 4000000 in
theorem s1_X5_spread {l : Launch} {dC : Nat → ClassId} {dI : Nat → Nat → Nat} {ad : Nat → Nat} {cA : Nat → ClassId} {pr : Nat → Nat → Bool} {Kz : mm_M} {M0 : mm_M} (hM0 : INV pr Kz M0) (hpr : PX pr) (a1 : Int) (ha1 : -2147483648 ≤ a1 ∧ a1 ≤ 2147483647) (hp0 : 0 ≤ a1 ∧ a1 ≤ 255) : Cv l 1 yX5_spread wsX5_spread dC dI ad cA [.ref (ad 88), .int (sI a1)] M0 (fun M' => INV pr Kz M') := by
  refine cv_of (cc := cX5_spread) (maxL := 7) (lv := [(0, .ref (ad 88)), (1, .int (sI a1))]) (by decide) rfl (Nat.le_of_ble_eq_true rfl) rfl ?_
  intro p e s m args below meth c A Q C hret
  refine y_iconst C dX5_spread_0 ?_
  refine j_istore_n C 2 [(2, .int (sI 0)), (0, .ref (ad 88)), (1, .int (sI a1))] dX5_spread_1 rfl (by decide) rfl ?_
  have L411 : ∀ (n409 : Nat), ∀ (a412 : Int) (M413 : mm_M), (0 ≤ a412 ∧ a412 ≤ 6 ∧ (6 - a412) < (n409 : Int)) → INV pr Kz M413 → jj p l e (cn_R 1) s m args below meth c 0 0 Q 7 dC dI ad cA A M413 2 [(0, .ref (ad 88)), (1, .int (sI a1)), (2, .int (sI a412))] [] := by
    intro n409
    induction n409 with
    | zero =>
      intro a412 M413 h414 hM413
      exfalso; omega
    | succ n409 ih410 =>
      intro a412 M413 h414 hM413
      refine j_iload_n C 2 2 dX5_spread_2 rfl rfl ?_
      refine j_aload_n C 0 0 dX5_spread_3 rfl rfl ?_
      refine y_getM C 4 6 fX5_spread_52 rfl rfl ft_4_9 sm_4_9 (by decide) hM413 dX5_spread_4 (fun v415 ev415 cv415 => ?_)
      refine y_getI C 6 _ _ fX5_spread_92 cv415 rfl ft_6_0 sb_6_0 hM413 dX5_spread_7 (fun a416 ea416 la416 ua416 => ?_)
      refine y_icmp_ge C 127 dX5_spread_10 (by decide) (by omega) (fun h418 => ?_) (fun h418 => ?_)
      · exact hret _ _ _ dX5_spread_127 hM413
      · refine j_aload_n C 0 0 dX5_spread_13 rfl rfl ?_
        refine y_getM C 4 41 fX5_spread_21 rfl rfl ft_4_4 sm_4_4 (by decide) hM413 dX5_spread_14 (fun v419 ev419 cv419 => ?_)
        refine j_iload_n C 1 1 dX5_spread_17 rfl rfl ?_
        refine y_lald C 41 256 cv419 rfl rfl ak_41 an_41 rfl dX5_spread_18 (by omega) (fun a420 ea420 la420 ua420 => ?_)
        refine j_aload_n C 0 0 dX5_spread_19 rfl rfl ?_
        refine y_getV C 4 v415 fX5_spread_52 rfl rfl ft_4_9 (ev415) dX5_spread_20 ?_
        refine y_getT C 6 23 fX5_spread_153 cv415 rfl ft_6_4 rfl sm_6_4 st_6_4 (by decide) hM413 dX5_spread_23 (fun v421 cv421 => ?_)
        refine j_iload_n C 2 2 dX5_spread_26 rfl rfl ?_
        refine y_iald C 23 6 _ _ cv421 rfl rfl ak_23 an_23 rfl (sb_23 _) hM413 dX5_spread_27 (by omega) (fun a422 ea422 la422 ua422 => ?_)
        refine y_i2l C dX5_spread_28 (by omega) ?_
        refine y_lmul0 C dX5_spread_29 (fun a423 la423 ua423 => ?_)
        refine j_lstore_n C 3 [(3, .long (sJ a423)), (0, .ref (ad 88)), (1, .int (sI a1)), (2, .int (sI a412))] dX5_spread_30 rfl (by decide) rfl ?_
        refine j_aload_n C 1 0 dX5_spread_31 rfl rfl ?_
        refine j_iload_n C 2 1 dX5_spread_32 rfl rfl ?_
        refine j_iload_n C 3 2 dX5_spread_33 rfl rfl ?_
        refine j_callVi C (d := 0) (As := [.int (sI a1), .int (sI a412)]) (st := []) 88 (s_lt rfl rfl) (s_kc (c := 4) rfl rfl) (by decide) rfl (s1_X5_pick hM413 a1 (by omega) a412 (by omega)) gX5_spread_X5_pick rfl hdX5_pick (by decide) (Nat.le_of_ble_eq_true rfl) dX5_spread_34 rfl (fun r424 M425 h426 => ?_)
        obtain ⟨a428, rfl, rfl, h427⟩ := h426
        refine j_istore C 5 [(5, .int (sI a428)), (3, .long (sJ a423)), (0, .ref (ad 88)), (1, .int (sI a1)), (2, .int (sI a412))] dX5_spread_37 (by decide) rfl ?_
        refine j_iload C 0 dX5_spread_39 rfl ?_
        refine y_if_ge C 57 dX5_spread_41 (by decide) (by omega) (fun h429 => ?_) (fun h429 => ?_)
        · refine j_iload_n C 3 1 dX5_spread_57 rfl rfl ?_
          refine y_iconst C dX5_spread_58 ?_
          refine j_iload C 0 dX5_spread_59 rfl ?_
          refine y_shl1 C 7 128 dX5_spread_61 rfl (by decide) (by omega) (fun a430 la430 ua430 => ?_)
          refine y_iorN C 8 255 dX5_spread_62 rfl (by decide) (by omega) (fun a431 la431 ua431 => ?_)
          refine j_istore C 6 [(6, .int (sI a431)), (5, .int (sI a428)), (3, .long (sJ a423)), (0, .ref (ad 88)), (1, .int (sI a1)), (2, .int (sI a412))] dX5_spread_63 (by decide) rfl ?_
          refine j_aload_n C 3 0 dX5_spread_65 rfl rfl ?_
          refine y_getM C 4 41 fX5_spread_25 rfl rfl ft_4_5 sm_4_5 (by decide) hM413 dX5_spread_66 (fun v432 ev432 cv432 => ?_)
          refine j_iload C 0 dX5_spread_69 rfl ?_
          refine j_dup2 C dX5_spread_71 rfl rfl ?_
          refine y_lald C 41 256 cv432 rfl rfl ak_41 an_41 rfl dX5_spread_72 (by omega) (fun a433 ea433 la433 ua433 => ?_)
          refine j_lload_n C 2 3 dX5_spread_73 rfl rfl ?_
          refine y_ladd0 C dX5_spread_74 (fun a434 la434 ua434 => ?_)
          refine y_last C 41 256 cv432 rfl rfl ak_41 an_41 rfl hM413 (PX.w hpr cv432 rfl) dX5_spread_75 (by omega) (fun M435 eM435 hM435 => ?_)
          refine j_aload_n C 3 0 dX5_spread_76 rfl rfl ?_
          refine j_dup C dX5_spread_77 rfl ?_
          refine y_getJ C 4 fX5_spread_35 rfl rfl ft_4_8 dX5_spread_78 (fun a436 ea436 la436 ua436 => ?_)
          refine j_lload_n C 2 3 dX5_spread_81 rfl rfl ?_
          refine j_aload_n C 3 0 dX5_spread_82 rfl rfl ?_
          refine y_getM C 4 8 fX5_spread_56 rfl rfl ft_4_10 sm_4_10 (by decide) hM435 dX5_spread_83 (fun v437 ev437 cv437 => ?_)
          refine y_getT C 8 25 fX5_spread_156 cv437 rfl ft_8_1 rfl sm_8_1 st_8_1 (by decide) hM435 dX5_spread_86 (fun v438 cv438 => ?_)
          refine j_iload C 1 dX5_spread_89 rfl ?_
          refine y_iald C 25 8 _ _ cv438 rfl rfl ak_25 an_25 rfl (sb_25 _) hM435 dX5_spread_91 (by omega) (fun a439 ea439 la439 ua439 => ?_)
          refine y_i2l C dX5_spread_92 (by omega) ?_
          refine y_lmul0 C dX5_spread_93 (fun a440 la440 ua440 => ?_)
          refine y_ladd0 C dX5_spread_94 (fun a441 la441 ua441 => ?_)
          refine y_putJ C 4 qX5_spread_35 rfl rfl ft_4_8 hM435 (PX.w hpr rfl rfl) dX5_spread_95 (fun M442 eM442 hM442 => ?_)
          refine j_aload_n C 3 0 dX5_spread_98 rfl rfl ?_
          refine y_getC C 4 94 fX5_spread_28 rfl rfl ft_4_6 sm_4_6 rfl hM442 dX5_spread_99 ?_
          refine j_iload_n C 5 2 dX5_spread_102 rfl rfl ?_
          refine j_dup2 C dX5_spread_103 rfl rfl ?_
          refine y_lald C 42 6 rfl rfl rfl ak_42 an_42 rfl dX5_spread_104 (by omega) (fun a443 ea443 la443 ua443 => ?_)
          refine j_aload_n C 3 0 dX5_spread_105 rfl rfl ?_
          refine j_iload C 0 dX5_spread_106 rfl ?_
          refine j_callVi C (d := 0) (As := [.int (sI a431)]) (st := [.long (sJ a443), .int (sI a412), .ref (ad 94)]) 88 (s_lt rfl rfl) (s_kc (c := 4) rfl rfl) (by decide) rfl (s1_X5_isShutAt hM442 a431 (by omega)) gX5_spread_X5_isShutAt rfl hdX5_isShutAt (by decide) (Nat.le_of_ble_eq_true rfl) dX5_spread_108 rfl (fun r444 M445 h446 => ?_)
          obtain ⟨a448, rfl, rfl, h447⟩ := h446
          refine y_if_eq C 118 dX5_spread_111 (by decide) (by omega) (fun h449 => ?_) (fun h449 => ?_)
          · refine y_lconst C 0 dX5_spread_118 rfl ?_
            refine y_ladd C dX5_spread_119 ?_
            refine y_last C 42 6 rfl rfl rfl ak_42 an_42 rfl hM442 (PX.w hpr rfl rfl) dX5_spread_120 (by omega) (fun M450 eM450 hM450 => ?_)
            refine y_iinc C 5 [(2, .int (sI (a412 + 1))), (6, .int (sI a431)), (5, .int (sI a428)), (3, .long (sJ a423)), (0, .ref (ad 88)), (1, .int (sI a1))] dX5_spread_121 rfl (by decide) rfl ?_
            refine j_goto C 2 dX5_spread_124 (by decide) ?_
            refine j_lv [4, 5, 0] rfl ?_; exact ih410 (a412 + 1) M450 (by omega) hM450
          · refine j_lload_n C 2 3 dX5_spread_114 rfl rfl ?_
            refine j_goto C 119 dX5_spread_115 (by decide) ?_
            refine y_ladd0 C dX5_spread_119 (fun a451 la451 ua451 => ?_)
            refine y_last C 42 6 rfl rfl rfl ak_42 an_42 rfl hM442 (PX.w hpr rfl rfl) dX5_spread_120 (by omega) (fun M452 eM452 hM452 => ?_)
            refine y_iinc C 5 [(2, .int (sI (a412 + 1))), (6, .int (sI a431)), (5, .int (sI a428)), (3, .long (sJ a423)), (0, .ref (ad 88)), (1, .int (sI a1))] dX5_spread_121 rfl (by decide) rfl ?_
            refine j_goto C 2 dX5_spread_124 (by decide) ?_
            refine j_lv [4, 5, 0] rfl ?_; exact ih410 (a412 + 1) M452 (by omega) hM452
        · refine j_aload_n C 2 0 dX5_spread_44 rfl rfl ?_
          refine y_getM C 4 41 fX5_spread_25 rfl rfl ft_4_5 sm_4_5 (by decide) hM413 dX5_spread_45 (fun v453 ev453 cv453 => ?_)
          refine j_iload_n C 3 1 dX5_spread_48 rfl rfl ?_
          refine j_dup2 C dX5_spread_49 rfl rfl ?_
          refine y_lald C 41 256 cv453 rfl rfl ak_41 an_41 rfl dX5_spread_50 (by omega) (fun a454 ea454 la454 ua454 => ?_)
          refine j_lload_n C 1 3 dX5_spread_51 rfl rfl ?_
          refine y_ladd0 C dX5_spread_52 (fun a455 la455 ua455 => ?_)
          refine y_last C 41 256 cv453 rfl rfl ak_41 an_41 rfl hM413 (PX.w hpr cv453 rfl) dX5_spread_53 (by omega) (fun M456 eM456 hM456 => ?_)
          refine j_goto C 121 dX5_spread_54 (by decide) ?_
          refine y_iinc C 4 [(2, .int (sI (a412 + 1))), (5, .int (sI a428)), (3, .long (sJ a423)), (0, .ref (ad 88)), (1, .int (sI a1))] dX5_spread_121 rfl (by decide) rfl ?_
          refine j_goto C 2 dX5_spread_124 (by decide) ?_
          refine j_lv [3, 4, 0] rfl ?_; exact ih410 (a412 + 1) M456 (by omega) hM456
  refine j_lv [1, 2, 0] rfl ?_; exact L411 2010 0 M0 (by omega) hM0
set_option maxHeartbeats 4000000 in
theorem s1_X5_passDay {l : Launch} {dC : Nat → ClassId} {dI : Nat → Nat → Nat} {ad : Nat → Nat} {cA : Nat → ClassId} {pr : Nat → Nat → Bool} {Kz : mm_M} {M0 : mm_M} (hM0 : INV pr Kz M0) (hpr : PX pr) (a1 : Int) (ha1 : -2147483648 ≤ a1 ∧ a1 ≤ 2147483647) : Cv l 2 yX5_passDay wsX5_passDay dC dI ad cA [.ref (ad 88), .int (sI a1)] M0 (fun M' => INV pr Kz M') := by
  refine cv_of (cc := cX5_passDay) (maxL := 3) (lv := [(0, .ref (ad 88)), (1, .int (sI a1))]) (by decide) rfl (Nat.le_of_ble_eq_true rfl) rfl ?_
  intro p e s m args below meth c A Q C hret
  refine j_aload_n C 0 0 dX5_passDay_0 rfl rfl ?_
  refine y_getM C 4 41 fX5_passDay_25 rfl rfl ft_4_5 sm_4_5 (by decide) hM0 dX5_passDay_1 (fun v101 ev101 cv101 => ?_)
  refine y_lconst C 0 dX5_passDay_4 rfl ?_
  refine j_callSv C (d := 0) (As := [.ref (ad v101), .long (sJ 0)]) (st := []) (s1_J7_fill_d0a16 hM0 hpr cv101 0 (by omega)) gX5_passDay_J7_fill_d0a16 rfl hdJ7_fill_d0a16s (by decide) (Nat.le_of_ble_eq_true rfl) dX5_passDay_5 rfl (fun M103 h104 => ?_)
  have hM103 := h104
  refine j_aload_n C 0 0 dX5_passDay_8 rfl rfl ?_
  refine j_dup C dX5_passDay_9 rfl ?_
  refine y_getJ C 4 fX5_passDay_31 rfl rfl ft_4_7 dX5_passDay_10 (fun a106 ea106 la106 ua106 => ?_)
  refine j_iload_n C 1 1 dX5_passDay_13 rfl rfl ?_
  refine y_i2l C dX5_passDay_14 (by omega) ?_
  refine y_lmul0 C dX5_passDay_15 (fun a107 la107 ua107 => ?_)
  refine y_putJ C 4 qX5_passDay_31 rfl rfl ft_4_7 hM103 (PX.w hpr rfl rfl) dX5_passDay_16 (fun M108 eM108 hM108 => ?_)
  refine j_aload_n C 0 0 dX5_passDay_19 rfl rfl ?_
  refine j_dup C dX5_passDay_20 rfl ?_
  refine y_getJ C 4 fX5_passDay_35 rfl rfl ft_4_8 dX5_passDay_21 (fun a109 ea109 la109 ua109 => ?_)
  refine j_iload_n C 1 1 dX5_passDay_24 rfl rfl ?_
  refine y_i2l C dX5_passDay_25 (by omega) ?_
  refine y_lmul0 C dX5_passDay_26 (fun a110 la110 ua110 => ?_)
  refine y_putJ C 4 qX5_passDay_35 rfl rfl ft_4_8 hM108 (PX.w hpr rfl rfl) dX5_passDay_27 (fun M111 eM111 hM111 => ?_)
  refine y_iconst C dX5_passDay_30 ?_
  refine j_istore_n C 2 [(2, .int (sI 0)), (0, .ref (ad 88)), (1, .int (sI a1))] dX5_passDay_31 rfl (by decide) rfl ?_
  have L177 : ∀ (n175 : Nat), ∀ (a178 : Int) (M179 : mm_M), (0 ≤ a178 ∧ a178 ≤ 6 ∧ (6 - a178) < (n175 : Int)) → INV pr Kz M179 → jj p l e (cn_R 2) s m args below meth c 0 0 Q 3 dC dI ad cA A M179 32 [(0, .ref (ad 88)), (1, .int (sI a1)), (2, .int (sI a178))] [] := by
    intro n175
    induction n175 with
    | zero =>
      intro a178 M179 h180 hM179
      exfalso; omega
    | succ n175 ih176 =>
      intro a178 M179 h180 hM179
      refine j_iload_n C 2 2 dX5_passDay_32 rfl rfl ?_
      refine j_aload_n C 0 0 dX5_passDay_33 rfl rfl ?_
      refine y_getM C 4 6 fX5_passDay_52 rfl rfl ft_4_9 sm_4_9 (by decide) hM179 dX5_passDay_34 (fun v181 ev181 cv181 => ?_)
      refine y_getI C 6 _ _ fX5_passDay_92 cv181 rfl ft_6_0 sb_6_0 hM179 dX5_passDay_37 (fun a182 ea182 la182 ua182 => ?_)
      refine y_icmp_ge C 60 dX5_passDay_40 (by decide) (by omega) (fun h184 => ?_) (fun h184 => ?_)
      · refine j_aload_n C 0 0 dX5_passDay_60 rfl rfl ?_
        refine y_getI C 4 _ _ fX5_passDay_45 rfl rfl ft_4_13 sb_4_13 hM179 dX5_passDay_61 (fun a188 ea188 la188 ua188 => ?_)
        refine j_istore_n C 2 [(2, .int (sI a188)), (0, .ref (ad 88)), (1, .int (sI a1))] dX5_passDay_64 rfl (by decide) rfl ?_
        have L216 : ∀ (n214 : Nat), ∀ (a217 : Int) (M218 : mm_M), (0 ≤ a217 ∧ a217 ≤ 256 ∧ (256 - a217) < (n214 : Int)) → INV pr Kz M218 → jj p l e (cn_R 2) s m args below meth c 0 0 Q 3 dC dI ad cA A M218 65 [(0, .ref (ad 88)), (2, .int (sI a217))] [] := by
          intro n214
          induction n214 with
          | zero =>
            intro a217 M218 h219 hM218
            exfalso; omega
          | succ n214 ih215 =>
            intro a217 M218 h219 hM218
            refine j_iload_n C 1 2 dX5_passDay_65 rfl rfl ?_
            refine j_aload_n C 0 0 dX5_passDay_66 rfl rfl ?_
            refine y_getI C 4 _ _ fX5_passDay_38 rfl rfl ft_4_11 sb_4_11 hM218 dX5_passDay_67 (fun a220 ea220 la220 ua220 => ?_)
            refine y_icmp_gt C 95 dX5_passDay_70 (by decide) (by omega) (fun h222 => ?_) (fun h222 => ?_)
            · refine j_aload_n C 0 0 dX5_passDay_95 rfl rfl ?_
              refine j_callVv C (d := 0) (As := []) (st := []) 88 (s_lt rfl rfl) (s_kc (c := 4) rfl rfl) (by decide) rfl (s1_X5_swapWays hM218 hpr) gX5_passDay_X5_swapWays rfl hdX5_swapWays (by decide) (Nat.le_of_ble_eq_true rfl) dX5_passDay_96 rfl (fun M231 h232 => ?_)
              have hM231 := h232
              exact hret _ _ _ dX5_passDay_99 hM231
            · refine j_aload_n C 0 0 dX5_passDay_73 rfl rfl ?_
              refine y_getM C 4 41 fX5_passDay_21 rfl rfl ft_4_4 sm_4_4 (by decide) hM218 dX5_passDay_74 (fun v223 ev223 cv223 => ?_)
              refine j_iload_n C 1 2 dX5_passDay_77 rfl rfl ?_
              refine y_lald C 41 256 cv223 rfl rfl ak_41 an_41 rfl dX5_passDay_78 (by omega) (fun a224 ea224 la224 ua224 => ?_)
              refine y_lconst C 0 dX5_passDay_79 rfl ?_
              refine y_lcmp_eq C 89 dX5_passDay_80 dX5_passDay_81 (by decide) (by omega) (fun h225 => ?_) (fun h225 => ?_)
              · refine y_iinc C 1 [(2, .int (sI (a217 + 1))), (0, .ref (ad 88))] dX5_passDay_89 rfl (by decide) rfl ?_
                refine j_goto C 65 dX5_passDay_92 (by decide) ?_
                refine j_lv [1, 0] rfl ?_; exact ih215 (a217 + 1) M218 (by omega) hM218
              · refine j_aload_n C 0 0 dX5_passDay_84 rfl rfl ?_
                refine j_iload_n C 1 2 dX5_passDay_85 rfl rfl ?_
                refine j_callVv C (d := 1) (As := [.int (sI a217)]) (st := []) 88 (s_lt rfl rfl) (s_kc (c := 4) rfl rfl) (by decide) rfl (s1_X5_spread hM218 hpr a217 (by omega) (by omega)) gX5_passDay_X5_spread rfl hdX5_spread (by decide) (Nat.le_of_ble_eq_true rfl) dX5_passDay_86 rfl (fun M227 h228 => ?_)
                have hM227 := h228
                refine y_iinc C 1 [(2, .int (sI (a217 + 1))), (0, .ref (ad 88))] dX5_passDay_89 rfl (by decide) rfl ?_
                refine j_goto C 65 dX5_passDay_92 (by decide) ?_
                refine j_lv [1, 0] rfl ?_; exact ih215 (a217 + 1) M227 (by omega) hM227
        refine j_lv [1, 0] rfl ?_; exact L216 2010 a188 M179 (by omega) hM179
      · refine j_aload_n C 0 0 dX5_passDay_43 rfl rfl ?_
        refine y_getC C 4 94 fX5_passDay_28 rfl rfl ft_4_6 sm_4_6 rfl hM179 dX5_passDay_44 ?_
        refine j_iload_n C 2 2 dX5_passDay_47 rfl rfl ?_
        refine j_dup2 C dX5_passDay_48 rfl rfl ?_
        refine y_lald C 42 6 rfl rfl rfl ak_42 an_42 rfl dX5_passDay_49 (by omega) (fun a185 ea185 la185 ua185 => ?_)
        refine j_iload_n C 1 1 dX5_passDay_50 rfl rfl ?_
        refine y_i2l C dX5_passDay_51 (by omega) ?_
        refine y_lmul0 C dX5_passDay_52 (fun a186 la186 ua186 => ?_)
        refine y_last C 42 6 rfl rfl rfl ak_42 an_42 rfl hM179 (PX.w hpr rfl rfl) dX5_passDay_53 (by omega) (fun M187 eM187 hM187 => ?_)
        refine y_iinc C 2 [(2, .int (sI (a178 + 1))), (0, .ref (ad 88)), (1, .int (sI a1))] dX5_passDay_54 rfl (by decide) rfl ?_
        refine j_goto C 32 dX5_passDay_57 (by decide) ?_
        refine j_lv [1, 2, 0] rfl ?_; exact ih176 (a178 + 1) M187 (by omega) hM187
  refine j_lv [1, 2, 0] rfl ?_; exact L177 2010 0 M111 (by omega) hM111
set_option maxHeartbeats 4000000 in
theorem s1_X5_passDays {l : Launch} {dC : Nat → ClassId} {dI : Nat → Nat → Nat} {ad : Nat → Nat} {cA : Nat → ClassId} {pr : Nat → Nat → Bool} {Kz : mm_M} {M0 : mm_M} (hM0 : INV pr Kz M0) (hpr : PX pr) (a1 : Int) (ha1 : -2147483648 ≤ a1 ∧ a1 ≤ 2147483647) : Cv l 3 yX5_passDays wsX5_passDays dC dI ad cA [.ref (ad 88), .int (sI a1)] M0 (fun M' => INV pr Kz M') := by
  refine cv_of (cc := cX5_passDays) (maxL := 4) (lv := [(0, .ref (ad 88)), (1, .int (sI a1))]) (by decide) rfl (Nat.le_of_ble_eq_true rfl) rfl ?_
  intro p e s m args below meth c A Q C hret
  refine j_aload_n C 0 0 dX5_passDays_0 rfl rfl ?_
  refine j_callVv C (d := 1) (As := []) (st := []) 88 (s_lt rfl rfl) (s_kc (c := 4) rfl rfl) (by decide) rfl (s1_X5_beginRows hM0 hpr) gX5_passDays_X5_beginRows rfl hdX5_beginRows (by decide) (Nat.le_of_ble_eq_true rfl) dX5_passDays_1 rfl (fun M102 h103 => ?_)
  have hM102 := h103
  refine j_aload_n C 0 0 dX5_passDays_4 rfl rfl ?_
  refine y_getC C 4 94 fX5_passDays_28 rfl rfl ft_4_6 sm_4_6 rfl hM102 dX5_passDays_5 ?_
  refine y_lconst C 0 dX5_passDays_8 rfl ?_
  refine j_callSv C (d := 0) (As := [.ref (ad 94), .long (sJ 0)]) (st := []) (s2_J7_fill_d0a16 hM102 hpr 0 (by omega)) gX5_passDays_J7_fill_d0a16 rfl hdJ7_fill_d0a16s (by decide) (Nat.le_of_ble_eq_true rfl) dX5_passDays_9 rfl (fun M106 h107 => ?_)
  have hM106 := h107
  refine j_aload_n C 0 0 dX5_passDays_12 rfl rfl ?_
  refine y_lconst C 1 dX5_passDays_13 rfl ?_
  refine y_putJ C 4 qX5_passDays_31 rfl rfl ft_4_7 hM106 (PX.w hpr rfl rfl) dX5_passDays_14 (fun M109 eM109 hM109 => ?_)
  refine j_aload_n C 0 0 dX5_passDays_17 rfl rfl ?_
  refine y_lconst C 0 dX5_passDays_18 rfl ?_
  refine y_putJ C 4 qX5_passDays_35 rfl rfl ft_4_8 hM109 (PX.w hpr rfl rfl) dX5_passDays_19 (fun M110 eM110 hM110 => ?_)
  refine j_aload_n C 0 0 dX5_passDays_22 rfl rfl ?_
  refine y_getM C 4 6 fX5_passDays_52 rfl rfl ft_4_9 sm_4_9 (by decide) hM110 dX5_passDays_23 (fun v111 ev111 cv111 => ?_)
  refine j_callVi C (d := 0) (As := []) (st := []) v111 (s_lt cv111 rfl) (s_kc (c := 6) cv111 rfl) (by decide) rfl (s1_X7_together hM110 cv111) gX5_passDays_X7_together rfl hdX7_together (by decide) (Nat.le_of_ble_eq_true rfl) dX5_passDays_26 rfl (fun r112 M113 h114 => ?_)
  obtain ⟨a116, rfl, rfl, h115⟩ := h114
  refine j_istore_n C 2 [(2, .int (sI a116)), (0, .ref (ad 88)), (1, .int (sI a1))] dX5_passDays_29 rfl (by decide) rfl ?_
  refine y_iconst C dX5_passDays_30 ?_
  refine j_istore_n C 3 [(3, .int (sI 0)), (2, .int (sI a116)), (0, .ref (ad 88)), (1, .int (sI a1))] dX5_passDays_31 rfl (by decide) rfl ?_
  have L391 : ∀ (n389 : Nat), ∀ (a392 : Int) (M393 : mm_M), (0 ≤ a392 ∧ a392 ≤ 2147483647 ∧ (2147483647 - a392) < (n389 : Int)) → INV pr Kz M393 → jj p l e (cn_R 3) s m args below meth c 0 0 Q 4 dC dI ad cA A M393 32 [(0, .ref (ad 88)), (1, .int (sI a1)), (2, .int (sI a116)), (3, .int (sI a392))] [] := by
    intro n389
    induction n389 with
    | zero =>
      intro a392 M393 h394 hM393
      exfalso; omega
    | succ n389 ih390 =>
      intro a392 M393 h394 hM393
      refine j_iload_n C 3 3 dX5_passDays_32 rfl rfl ?_
      refine j_iload_n C 1 1 dX5_passDays_33 rfl rfl ?_
      refine y_icmp_ge C 52 dX5_passDays_34 (by decide) (by omega) (fun h395 => ?_) (fun h395 => ?_)
      · exact hret _ _ _ dX5_passDays_52 hM393
      · refine j_iload_n C 2 2 dX5_passDays_37 rfl rfl ?_
        refine y_if_le C 52 dX5_passDays_38 (by decide) (by omega) (fun h396 => ?_) (fun h396 => ?_)
        · exact hret _ _ _ dX5_passDays_52 hM393
        · refine j_aload_n C 0 0 dX5_passDays_41 rfl rfl ?_
          refine j_iload_n C 2 2 dX5_passDays_42 rfl rfl ?_
          refine j_callVv C (d := 2) (As := [.int (sI a116)]) (st := []) 88 (s_lt rfl rfl) (s_kc (c := 4) rfl rfl) (by decide) rfl (s1_X5_passDay hM393 hpr a116 (by omega)) gX5_passDays_X5_passDay rfl hdX5_passDay (by decide) (Nat.le_of_ble_eq_true rfl) dX5_passDays_43 rfl (fun M398 h399 => ?_)
          have hM398 := h399
          refine y_iinc C 3 [(3, .int (sI (a392 + 1))), (0, .ref (ad 88)), (1, .int (sI a1)), (2, .int (sI a116))] dX5_passDays_46 rfl (by decide) rfl ?_
          refine j_goto C 32 dX5_passDays_49 (by decide) ?_
          refine j_lv [1, 2, 3, 0] rfl ?_; exact ih390 (a392 + 1) M398 (by omega) hM398
  refine j_lv [2, 3, 1, 0] rfl ?_; exact L391 4294967304 0 M110 (by omega) hM110
set_option maxHeartbeats 4000000 in
theorem s1_X11_commonDivisor {l : Launch} {dC : Nat → ClassId} {dI : Nat → Nat → Nat} {ad : Nat → Nat} {cA : Nat → ClassId} {pr : Nat → Nat → Bool} {Kz : mm_M} {M0 : mm_M} (hM0 : INV pr Kz M0) (a0 : Int) (ha0 : -9223372036854775808 ≤ a0 ∧ a0 ≤ 9223372036854775807) (a2 : Int) (ha2 : -9223372036854775808 ≤ a2 ∧ a2 ≤ 9223372036854775807) : Cj l 0 yX11_commonDivisor wsX11_commonDivisor dC dI ad cA [.long (sJ a0), .long (sJ a2)] M0 (fun r M' => ∃ a : Int, r = sJ a ∧ M0 = M' ∧ (-9223372036854775808) ≤ a ∧ a ≤ 9223372036854775807) := by
  refine cj_of (cc := cX11_commonDivisor) (maxL := 11) (lv := [(0, .long (sJ a0)), (2, .long (sJ a2))]) (by decide) rfl (Nat.le_of_ble_eq_true rfl) rfl ?_
  intro p e s m args below meth c A Q C hret
  refine j_lload_n C 0 0 dX11_commonDivisor_0 rfl rfl ?_
  refine j_lstore C 4 [(4, .long (sJ a0)), (0, .long (sJ a0)), (2, .long (sJ a2))] dX11_commonDivisor_1 (by decide) rfl ?_
  refine j_lload_n C 2 2 dX11_commonDivisor_3 rfl rfl ?_
  refine j_lstore C 6 [(6, .long (sJ a2)), (4, .long (sJ a0)), (0, .long (sJ a0)), (2, .long (sJ a2))] dX11_commonDivisor_4 (by decide) rfl ?_
  refine y_iconst C dX11_commonDivisor_6 ?_
  refine j_istore C 8 [(8, .int (sI 0)), (6, .long (sJ a2)), (4, .long (sJ a0)), (0, .long (sJ a0)), (2, .long (sJ a2))] dX11_commonDivisor_7 (by decide) rfl ?_
  have L253 : ∀ (n251 : Nat), ∀ (a254 : Int) (a255 : Int) (a256 : Int), ((-9223372036854775808) ≤ a254 ∧ a254 ≤ 9223372036854775807 ∧ (-9223372036854775808) ≤ a255 ∧ a255 ≤ 9223372036854775807 ∧ 0 ≤ a256 ∧ a256 ≤ 200 ∧ (200 - a256) < (n251 : Int)) → jj p l e (cn_R 0) s m args below meth c 0 0 Q 11 dC dI ad cA A M0 9 [(4, .long (sJ a254)), (6, .long (sJ a255)), (8, .int (sI a256))] [] := by
    intro n251
    induction n251 with
    | zero =>
      intro a254 a255 a256 h257
      exfalso; omega
    | succ n251 ih252 =>
      intro a254 a255 a256 h257
      refine j_iload C 2 dX11_commonDivisor_9 rfl ?_
      refine y_sipush C dX11_commonDivisor_11 rfl ?_
      refine y_icmp_ge C 45 dX11_commonDivisor_14 (by decide) (by omega) (fun h258 => ?_) (fun h258 => ?_)
      · refine j_lload C 0 dX11_commonDivisor_45 rfl ?_
        exact hret _ _ _ _ dX11_commonDivisor_47 ⟨a254, rfl, rfl, by omega⟩
      · refine j_lload C 1 dX11_commonDivisor_17 rfl ?_
        refine y_lconst C 0 dX11_commonDivisor_19 rfl ?_
        refine y_lcmp_eq C 45 dX11_commonDivisor_20 dX11_commonDivisor_21 (by decide) (by omega) (fun h259 => ?_) (fun h259 => ?_)
        · refine j_lload C 0 dX11_commonDivisor_45 rfl ?_
          exact hret _ _ _ _ dX11_commonDivisor_47 ⟨a254, rfl, rfl, by omega⟩
        · refine j_lload C 0 dX11_commonDivisor_24 rfl ?_
          refine j_lload C 1 dX11_commonDivisor_26 rfl ?_
          refine y_lrem0 C dX11_commonDivisor_28 (by omega) (fun a260 la260 ua260 => ?_)
          refine j_lstore C 9 [(9, .long (sJ a260)), (4, .long (sJ a254)), (6, .long (sJ a255)), (8, .int (sI a256))] dX11_commonDivisor_29 (by decide) rfl ?_
          refine j_lload C 2 dX11_commonDivisor_31 rfl ?_
          refine j_lstore C 4 [(4, .long (sJ a255)), (9, .long (sJ a260)), (6, .long (sJ a255)), (8, .int (sI a256))] dX11_commonDivisor_33 (by decide) rfl ?_
          refine j_lload C 1 dX11_commonDivisor_35 rfl ?_
          refine j_lstore C 6 [(6, .long (sJ a260)), (4, .long (sJ a255)), (9, .long (sJ a260)), (8, .int (sI a256))] dX11_commonDivisor_37 (by decide) rfl ?_
          refine y_iinc C 3 [(8, .int (sI (a256 + 1))), (6, .long (sJ a260)), (4, .long (sJ a255)), (9, .long (sJ a260))] dX11_commonDivisor_39 rfl (by decide) rfl ?_
          refine j_goto C 9 dX11_commonDivisor_42 (by decide) ?_
          refine j_lv [2, 1, 0] rfl ?_; exact ih252 a255 a260 (a256 + 1) (by omega)
  refine j_lv [2, 1, 0] rfl ?_; exact L253 2010 a0 a2 0 (by omega)
set_option maxHeartbeats 4000000 in
theorem s1_X11_inLowestTerms {l : Launch} {dC : Nat → ClassId} {dI : Nat → Nat → Nat} {ad : Nat → Nat} {cA : Nat → ClassId} {pr : Nat → Nat → Bool} {Kz : mm_M} {M0 : mm_M} (hM0 : INV pr Kz M0) (a0 : Int) (ha0 : -9223372036854775808 ≤ a0 ∧ a0 ≤ 9223372036854775807) (a2 : Int) (ha2 : -9223372036854775808 ≤ a2 ∧ a2 ≤ 9223372036854775807) (a4 : Int) (ha4 : -2147483648 ≤ a4 ∧ a4 ≤ 2147483647) : Cj l 1 yX11_inLowestTerms wsX11_inLowestTerms dC dI ad cA [.long (sJ a0), .long (sJ a2), .int (sI a4)] M0 (fun r M' => ∃ a : Int, r = sJ a ∧ M0 = M' ∧ (-9223372036854775808) ≤ a ∧ a ≤ 9223372036854775807) := by
  refine cj_of (cc := cX11_inLowestTerms) (maxL := 9) (lv := [(0, .long (sJ a0)), (2, .long (sJ a2)), (4, .int (sI a4))]) (by decide) rfl (Nat.le_of_ble_eq_true rfl) rfl ?_
  intro p e s m args below meth c A Q C hret
  refine j_lload_n C 0 0 dX11_inLowestTerms_0 rfl rfl ?_
  refine j_lload_n C 1 2 dX11_inLowestTerms_1 rfl rfl ?_
  refine j_callSj C (d := 0) (As := [.long (sJ a0), .long (sJ a2)]) (st := []) (s1_X11_commonDivisor hM0 a0 (by omega) a2 (by omega)) gX11_inLowestTerms_X11_commonDivisor rfl hdX11_commonDivisors (by decide) (Nat.le_of_ble_eq_true rfl) dX11_inLowestTerms_2 rfl (fun r101 M102 h103 => ?_)
  obtain ⟨a105, rfl, rfl, h104⟩ := h103
  refine j_lstore C 5 [(5, .long (sJ a105)), (0, .long (sJ a0)), (2, .long (sJ a2)), (4, .int (sI a4))] dX11_inLowestTerms_5 (by decide) rfl ?_
  refine j_iload C 3 dX11_inLowestTerms_7 rfl ?_
  have J108 : ∀ (a107 : Int), ((-9223372036854775808) ≤ a107 ∧ a107 ≤ 9223372036854775807) → jj p l e (cn_R 1) s m args below meth c 0 0 Q 9 dC dI ad cA A M0 17 [(5, .long (sJ a105))] [.long (sJ a107)] := by
    intro a107 h109
    refine j_lstore C 7 [(7, .long (sJ a107)), (5, .long (sJ a105))] dX11_inLowestTerms_17 (by decide) rfl ?_
    refine j_lload C 1 dX11_inLowestTerms_19 rfl ?_
    refine y_lconst C 0 dX11_inLowestTerms_21 rfl ?_
    refine y_lcmp_le C 34 dX11_inLowestTerms_22 dX11_inLowestTerms_23 (by decide) (by omega) (fun h110 => ?_) (fun h110 => ?_)
    · refine j_lload C 0 dX11_inLowestTerms_34 rfl ?_
      exact hret _ _ _ _ dX11_inLowestTerms_36 ⟨a107, rfl, rfl, by omega⟩
    · refine j_lload C 0 dX11_inLowestTerms_26 rfl ?_
      refine j_lload C 1 dX11_inLowestTerms_28 rfl ?_
      refine y_ldiv0 C dX11_inLowestTerms_30 (by omega) (fun a111 la111 ua111 => ?_)
      refine j_goto C 36 dX11_inLowestTerms_31 (by decide) ?_
      exact hret _ _ _ _ dX11_inLowestTerms_36 ⟨a111, rfl, rfl, by omega⟩
  refine y_if_ne C 16 dX11_inLowestTerms_9 (by decide) (by omega) (fun h106 => ?_) (fun h106 => ?_)
  · refine j_lload_n C 2 2 dX11_inLowestTerms_16 rfl rfl ?_
    refine j_lv [0] rfl ?_; exact J108 a2 (by omega)
  · refine j_lload_n C 1 0 dX11_inLowestTerms_12 rfl rfl ?_
    refine j_goto C 17 dX11_inLowestTerms_13 (by decide) ?_
    refine j_lv [0] rfl ?_; exact J108 a0 (by omega)
set_option maxHeartbeats 4000000 in
theorem s1_X11_open {l : Launch} {dC : Nat → ClassId} {dI : Nat → Nat → Nat} {ad : Nat → Nat} {cA : Nat → ClassId} {pr : Nat → Nat → Bool} {Kz : mm_M} {M0 : mm_M} (hM0 : INV pr Kz M0) (hpr : PX pr) (a1 : Int) (ha1 : -2147483648 ≤ a1 ∧ a1 ≤ 2147483647) (a2 : Int) (ha2 : -2147483648 ≤ a2 ∧ a2 ≤ 2147483647) : Cj l 6 yX11_open wsX11_open dC dI ad cA [.ref (ad 0), .int (sI a1), .int (sI a2)] M0 (fun r M' => ∃ a : Int, r = sJ a ∧ INV pr Kz M' ∧ (-9223372036854775808) ≤ a ∧ a ≤ 9223372036854775807) := by
  refine cj_of (cc := cX11_open) (maxL := 4) (lv := [(0, .ref (ad 0)), (1, .int (sI a1)), (2, .int (sI a2))]) (by decide) rfl (Nat.le_of_ble_eq_true rfl) rfl ?_
  intro p e s m args below meth c A Q C hret
  refine j_iload_n C 2 2 dX11_open_0 rfl rfl ?_
  refine j_iload_n C 1 1 dX11_open_1 rfl rfl ?_
  refine y_bipush C dX11_open_2 rfl ?_
  refine j_callSi C (d := 0) (As := [.int (sI a2), .int (sI a1), .int (sI 10)]) (st := []) (s1_X11_chanceRefusal hM0 a2 (by omega) a1 (by omega) 10 (by omega)) gX11_open_X11_chanceRefusal rfl hdX11_chanceRefusals (by decide) (Nat.le_of_ble_eq_true rfl) dX11_open_4 rfl (fun r101 M102 h103 => ?_)
  obtain ⟨a105, rfl, rfl, h104⟩ := h103
  refine j_istore_n C 3 [(3, .int (sI a105)), (0, .ref (ad 0)), (1, .int (sI a1)), (2, .int (sI a2))] dX11_open_7 rfl (by decide) rfl ?_
  refine j_iload_n C 0 3 dX11_open_8 rfl rfl ?_
  refine y_if_eq C 15 dX11_open_9 (by decide) (by omega) (fun h106 => ?_) (fun h106 => ?_)
  · refine j_aload_n C 1 0 dX11_open_15 rfl rfl ?_
    refine y_getC C 10 88 fX11_open_94 rfl rfl ft_10_14 sm_10_14 rfl hM0 dX11_open_16 ?_
    refine j_aload_n C 1 0 dX11_open_19 rfl rfl ?_
    refine y_getM C 10 6 fX11_open_26 rfl rfl ft_10_4 sm_10_4 (by decide) hM0 dX11_open_20 (fun v107 ev107 cv107 => ?_)
    refine j_aload_n C 1 0 dX11_open_23 rfl rfl ?_
    refine y_getC C 10 12 fX11_open_36 rfl rfl ft_10_6 sm_10_6 rfl hM0 dX11_open_24 ?_
    refine j_aload_n C 1 0 dX11_open_27 rfl rfl ?_
    refine y_getC C 10 12 fX11_open_36 rfl rfl ft_10_6 sm_10_6 rfl hM0 dX11_open_28 ?_
    refine y_getI C 8 _ _ fX11_open_153 rfl rfl ft_8_4 sb_8_4 hM0 dX11_open_31 (fun a108 ea108 la108 ua108 => ?_)
    refine j_callVv C (d := 5) (As := [.ref (ad v107), .ref (ad 12), .int (sI a108)]) (st := []) 88 (s_lt rfl rfl) (s_kc (c := 4) rfl rfl) (by decide) rfl (s1_X5_look hM0 hpr cv107 rfl a108 (by omega)) gX11_open_X5_look rfl hdX5_look (by decide) (Nat.le_of_ble_eq_true rfl) dX11_open_34 rfl (fun M111 h112 => ?_)
    have hM111 := h112
    refine j_aload_n C 1 0 dX11_open_37 rfl rfl ?_
    refine y_getC C 10 88 fX11_open_94 rfl rfl ft_10_14 sm_10_14 rfl hM111 dX11_open_38 ?_
    refine j_iload_n C 2 1 dX11_open_41 rfl rfl ?_
    refine j_callVv C (d := 3) (As := [.int (sI a1)]) (st := []) 88 (s_lt rfl rfl) (s_kc (c := 4) rfl rfl) (by decide) rfl (s1_X5_passDays hM111 hpr a1 (by omega)) gX11_open_X5_passDays rfl hdX5_passDays (by decide) (Nat.le_of_ble_eq_true rfl) dX11_open_42 rfl (fun M115 h116 => ?_)
    have hM115 := h116
    refine j_aload_n C 1 0 dX11_open_45 rfl rfl ?_
    refine y_getC C 10 88 fX11_open_94 rfl rfl ft_10_14 sm_10_14 rfl hM115 dX11_open_46 ?_
    refine j_callVj C (d := 1) (As := []) (st := []) 88 (s_lt rfl rfl) (s_kc (c := 4) rfl rfl) (by decide) rfl (s1_X5_openWays hM115) gX11_open_X5_openWays rfl hdX5_openWays (by decide) (Nat.le_of_ble_eq_true rfl) dX11_open_49 rfl (fun r118 M119 h120 => ?_)
    obtain ⟨a122, rfl, rfl, h121⟩ := h120
    refine j_aload_n C 1 0 dX11_open_52 rfl rfl ?_
    refine y_getC C 10 88 fX11_open_94 rfl rfl ft_10_14 sm_10_14 rfl hM115 dX11_open_53 ?_
    refine y_getJ C 4 fX11_open_296 rfl rfl ft_4_7 dX11_open_56 (fun a123 ea123 la123 ua123 => ?_)
    refine j_iload_n C 3 2 dX11_open_59 rfl rfl ?_
    refine j_callSj C (d := 1) (As := [.long (sJ a122), .long (sJ a123), .int (sI a2)]) (st := []) (s1_X11_inLowestTerms hM115 a122 (by omega) a123 (by omega) a2 (by omega)) gX11_open_X11_inLowestTerms rfl hdX11_inLowestTermss (by decide) (Nat.le_of_ble_eq_true rfl) dX11_open_60 rfl (fun r124 M125 h126 => ?_)
    obtain ⟨a128, rfl, rfl, h127⟩ := h126
    exact hret _ _ _ _ dX11_open_63 ⟨a128, rfl, hM115, by omega⟩
  · refine j_iload_n C 0 3 dX11_open_12 rfl rfl ?_
    refine y_i2l C dX11_open_13 (by omega) ?_
    exact hret _ _ _ _ dX11_open_14 ⟨a105, rfl, hM0, by omega⟩
set_option maxHeartbeats 4000000 in
theorem s1_X11_hundredths {l : Launch} {dC : Nat → ClassId} {dI : Nat → Nat → Nat} {ad : Nat → Nat} {cA : Nat → ClassId} {pr : Nat → Nat → Bool} {Kz : mm_M} {M0 : mm_M} (hM0 : INV pr Kz M0) (a0 : Int) (ha0 : -9223372036854775808 ≤ a0 ∧ a0 ≤ 9223372036854775807) (a2 : Int) (ha2 : -9223372036854775808 ≤ a2 ∧ a2 ≤ 9223372036854775807) : Cj l 0 yX11_hundredths wsX11_hundredths dC dI ad cA [.long (sJ a0), .long (sJ a2)] M0 (fun r M' => ∃ a : Int, r = sJ a ∧ M0 = M' ∧ (-9223372036854775808) ≤ a ∧ a ≤ 9223372036854775807) := by
  refine cj_of (cc := cX11_hundredths) (maxL := 8) (lv := [(0, .long (sJ a0)), (2, .long (sJ a2))]) (by decide) rfl (Nat.le_of_ble_eq_true rfl) rfl ?_
  intro p e s m args below meth c A Q C hret
  refine j_lload_n C 1 2 dX11_hundredths_0 rfl rfl ?_
  refine y_lconst C 0 dX11_hundredths_1 rfl ?_
  refine y_lcmp_gt C 8 dX11_hundredths_2 dX11_hundredths_3 (by decide) (by omega) (fun h101 => ?_) (fun h101 => ?_)
  · refine j_lload_n C 0 0 dX11_hundredths_8 rfl rfl ?_
    refine y_ldc2 C 10 dX11_hundredths_9 kX11_hundredths_318 rfl ?_
    refine y_lmul0 C dX11_hundredths_12 (fun a102 la102 ua102 => ?_)
    refine j_lload_n C 1 2 dX11_hundredths_13 rfl rfl ?_
    refine y_ldiv0 C dX11_hundredths_14 (by omega) (fun a103 la103 ua103 => ?_)
    refine j_lstore C 4 [(4, .long (sJ a103)), (0, .long (sJ a0)), (2, .long (sJ a2))] dX11_hundredths_15 (by decide) rfl ?_
    refine j_lload_n C 1 0 dX11_hundredths_17 rfl rfl ?_
    refine y_ldc2 C 10 dX11_hundredths_18 kX11_hundredths_318 rfl ?_
    refine y_lmul0 C dX11_hundredths_21 (fun a104 la104 ua104 => ?_)
    refine j_lload_n C 2 2 dX11_hundredths_22 rfl rfl ?_
    refine y_lrem0 C dX11_hundredths_23 (by omega) (fun a105 la105 ua105 => ?_)
    refine j_lstore C 6 [(6, .long (sJ a105)), (4, .long (sJ a103)), (0, .long (sJ a0)), (2, .long (sJ a2))] dX11_hundredths_24 (by decide) rfl ?_
    refine j_lload C 1 dX11_hundredths_26 rfl ?_
    refine y_ldc2 C 10 dX11_hundredths_28 kX11_hundredths_318 rfl ?_
    refine y_lmul0 C dX11_hundredths_31 (fun a106 la106 ua106 => ?_)
    refine j_lload C 0 dX11_hundredths_32 rfl ?_
    refine y_ldc2 C 10 dX11_hundredths_34 kX11_hundredths_318 rfl ?_
    refine y_lmul0 C dX11_hundredths_37 (fun a107 la107 ua107 => ?_)
    refine j_lload_n C 3 2 dX11_hundredths_38 rfl rfl ?_
    refine y_ldiv0 C dX11_hundredths_39 (by omega) (fun a108 la108 ua108 => ?_)
    refine y_ladd0 C dX11_hundredths_40 (fun a109 la109 ua109 => ?_)
    exact hret _ _ _ _ dX11_hundredths_41 ⟨a109, rfl, rfl, by omega⟩
  · refine y_lconst C 0 dX11_hundredths_6 rfl ?_
    exact hret _ _ _ _ dX11_hundredths_7 ⟨0, rfl, rfl, by omega⟩
set_option maxHeartbeats 4000000 in
theorem s1_X11_likely {l : Launch} {dC : Nat → ClassId} {dI : Nat → Nat → Nat} {ad : Nat → Nat} {cA : Nat → ClassId} {pr : Nat → Nat → Bool} {Kz : mm_M} {M0 : mm_M} (hM0 : INV pr Kz M0) (hpr : PX pr) (a1 : Int) (ha1 : -2147483648 ≤ a1 ∧ a1 ≤ 2147483647) : Ci l 6 yX11_likely wsX11_likely dC dI ad cA [.ref (ad 0), .int (sI a1)] M0 (fun r M' => ∃ a : Int, r = sI a ∧ INV pr Kz M' ∧ (-3) ≤ a ∧ a ≤ 10) := by
  refine ci_of (cc := cX11_likely) (maxL := 3) (ty := .int) (lv := [(0, .ref (ad 0)), (1, .int (sI a1))]) (by decide) rfl (fun r M' hp => rfl) (Nat.le_of_ble_eq_true rfl) rfl ?_
  intro p e s m args below meth c A Q C hret
  refine j_iload_n C 1 1 dX11_likely_0 rfl rfl ?_
  refine y_if_lt C 10 dX11_likely_1 (by decide) (by omega) (fun h101 => ?_) (fun h101 => ?_)
  · refine y_bipush C dX11_likely_10 rfl ?_
    exact hret _ _ _ _ dX11_likely_12 ⟨(-3), rfl, hM0, by omega⟩
  · refine j_iload_n C 1 1 dX11_likely_4 rfl rfl ?_
    refine y_bipush C dX11_likely_5 rfl ?_
    refine y_icmp_le C 13 dX11_likely_7 (by decide) (by omega) (fun h102 => ?_) (fun h102 => ?_)
    · refine j_aload_n C 0 0 dX11_likely_13 rfl rfl ?_
      refine y_getC C 10 88 fX11_likely_94 rfl rfl ft_10_14 sm_10_14 rfl hM0 dX11_likely_14 ?_
      refine j_aload_n C 0 0 dX11_likely_17 rfl rfl ?_
      refine y_getM C 10 6 fX11_likely_26 rfl rfl ft_10_4 sm_10_4 (by decide) hM0 dX11_likely_18 (fun v103 ev103 cv103 => ?_)
      refine j_aload_n C 0 0 dX11_likely_21 rfl rfl ?_
      refine y_getC C 10 12 fX11_likely_36 rfl rfl ft_10_6 sm_10_6 rfl hM0 dX11_likely_22 ?_
      refine j_aload_n C 0 0 dX11_likely_25 rfl rfl ?_
      refine y_getC C 10 12 fX11_likely_36 rfl rfl ft_10_6 sm_10_6 rfl hM0 dX11_likely_26 ?_
      refine y_getI C 8 _ _ fX11_likely_153 rfl rfl ft_8_4 sb_8_4 hM0 dX11_likely_29 (fun a104 ea104 la104 ua104 => ?_)
      refine j_callVv C (d := 5) (As := [.ref (ad v103), .ref (ad 12), .int (sI a104)]) (st := []) 88 (s_lt rfl rfl) (s_kc (c := 4) rfl rfl) (by decide) rfl (s1_X5_look hM0 hpr cv103 rfl a104 (by omega)) gX11_likely_X5_look rfl hdX5_look (by decide) (Nat.le_of_ble_eq_true rfl) dX11_likely_32 rfl (fun M107 h108 => ?_)
      have hM107 := h108
      refine y_iconst C dX11_likely_35 ?_
      refine j_istore_n C 2 [(2, .int (sI 0)), (0, .ref (ad 0)), (1, .int (sI a1))] dX11_likely_36 rfl (by decide) rfl ?_
      have L364 : ∀ (n362 : Nat), ∀ (a365 : Int) (M366 : mm_M), (0 ≤ a365 ∧ a365 ≤ 11 ∧ (11 - a365) < (n362 : Int)) → INV pr Kz M366 → jj p l e (cn_R 6) s m args below meth c 0 0 Q 3 dC dI ad cA A M366 37 [(0, .ref (ad 0)), (1, .int (sI a1)), (2, .int (sI a365))] [] := by
        intro n362
        induction n362 with
        | zero =>
          intro a365 M366 h367 hM366
          exfalso; omega
        | succ n362 ih363 =>
          intro a365 M366 h367 hM366
          refine j_iload_n C 2 2 dX11_likely_37 rfl rfl ?_
          refine y_bipush C dX11_likely_38 rfl ?_
          refine y_icmp_gt C 90 dX11_likely_40 (by decide) (by omega) (fun h368 => ?_) (fun h368 => ?_)
          · refine y_iconst C dX11_likely_90 ?_
            exact hret _ _ _ _ dX11_likely_91 ⟨(-1), rfl, hM366, by omega⟩
          · refine j_aload_n C 0 0 dX11_likely_43 rfl rfl ?_
            refine y_getC C 10 88 fX11_likely_94 rfl rfl ft_10_14 sm_10_14 rfl hM366 dX11_likely_44 ?_
            refine j_iload_n C 2 2 dX11_likely_47 rfl rfl ?_
            refine j_callVv C (d := 3) (As := [.int (sI a365)]) (st := []) 88 (s_lt rfl rfl) (s_kc (c := 4) rfl rfl) (by decide) rfl (s1_X5_passDays hM366 hpr a365 (by omega)) gX11_likely_X5_passDays rfl hdX5_passDays (by decide) (Nat.le_of_ble_eq_true rfl) dX11_likely_48 rfl (fun M370 h371 => ?_)
            have hM370 := h371
            refine j_aload_n C 0 0 dX11_likely_51 rfl rfl ?_
            refine y_getC C 10 88 fX11_likely_94 rfl rfl ft_10_14 sm_10_14 rfl hM370 dX11_likely_52 ?_
            refine y_getJ C 4 fX11_likely_296 rfl rfl ft_4_7 dX11_likely_55 (fun a373 ea373 la373 ua373 => ?_)
            refine j_aload_n C 0 0 dX11_likely_58 rfl rfl ?_
            refine y_getC C 10 88 fX11_likely_94 rfl rfl ft_10_14 sm_10_14 rfl hM370 dX11_likely_59 ?_
            refine j_callVj C (d := 1) (As := []) (st := [.long (sJ a373)]) 88 (s_lt rfl rfl) (s_kc (c := 4) rfl rfl) (by decide) rfl (s1_X5_openWays hM370) gX11_likely_X5_openWays rfl hdX5_openWays (by decide) (Nat.le_of_ble_eq_true rfl) dX11_likely_62 rfl (fun r374 M375 h376 => ?_)
            obtain ⟨a378, rfl, rfl, h377⟩ := h376
            refine y_lsub0 C dX11_likely_65 (fun a379 la379 ua379 => ?_)
            refine j_aload_n C 0 0 dX11_likely_66 rfl rfl ?_
            refine y_getC C 10 88 fX11_likely_94 rfl rfl ft_10_14 sm_10_14 rfl hM370 dX11_likely_67 ?_
            refine y_getJ C 4 fX11_likely_296 rfl rfl ft_4_7 dX11_likely_70 (fun a380 ea380 la380 ua380 => ?_)
            refine j_callSj C (d := 0) (As := [.long (sJ a379), .long (sJ a380)]) (st := []) (s1_X11_hundredths hM370 a379 (by omega) a380 (by omega)) gX11_likely_X11_hundredths rfl hdX11_hundredthss (by decide) (Nat.le_of_ble_eq_true rfl) dX11_likely_73 rfl (fun r381 M382 h383 => ?_)
            obtain ⟨a385, rfl, rfl, h384⟩ := h383
            refine j_iload_n C 1 1 dX11_likely_76 rfl rfl ?_
            refine y_i2l C dX11_likely_77 (by omega) ?_
            refine y_lcmp_lt C 84 dX11_likely_78 dX11_likely_79 (by decide) (by omega) (fun h386 => ?_) (fun h386 => ?_)
            · refine y_iinc C 2 [(2, .int (sI (a365 + 1))), (0, .ref (ad 0)), (1, .int (sI a1))] dX11_likely_84 rfl (by decide) rfl ?_
              refine j_goto C 37 dX11_likely_87 (by decide) ?_
              refine j_lv [1, 2, 0] rfl ?_; exact ih363 (a365 + 1) M370 (by omega) hM370
            · refine j_iload_n C 2 2 dX11_likely_82 rfl rfl ?_
              exact hret _ _ _ _ dX11_likely_83 ⟨a365, rfl, hM370, by omega⟩
      refine j_lv [1, 2, 0] rfl ?_; exact L364 2010 0 M107 (by omega) hM107
    · refine y_bipush C dX11_likely_10 rfl ?_
      exact hret _ _ _ _ dX11_likely_12 ⟨(-3), rfl, hM0, by omega⟩
set_option maxHeartbeats 4000000 in
theorem s1_X11_shutsBy {l : Launch} {dC : Nat → ClassId} {dI : Nat → Nat → Nat} {ad : Nat → Nat} {cA : Nat → ClassId} {pr : Nat → Nat → Bool} {Kz : mm_M} {M0 : mm_M} (hM0 : INV pr Kz M0) (hpr : PX pr) (a1 : Int) (ha1 : -2147483648 ≤ a1 ∧ a1 ≤ 2147483647) (a2 : Int) (ha2 : -2147483648 ≤ a2 ∧ a2 ≤ 2147483647) (a3 : Int) (ha3 : -2147483648 ≤ a3 ∧ a3 ≤ 2147483647) : Cj l 6 yX11_shutsBy wsX11_shutsBy dC dI ad cA [.ref (ad 0), .int (sI a1), .int (sI a2), .int (sI a3)] M0 (fun r M' => ∃ a : Int, r = sJ a ∧ INV pr Kz M' ∧ (-9223372036854775808) ≤ a ∧ a ≤ 9223372036854775807) := by
  refine cj_of (cc := cX11_shutsBy) (maxL := 5) (lv := [(0, .ref (ad 0)), (1, .int (sI a1)), (2, .int (sI a2)), (3, .int (sI a3))]) (by decide) rfl (Nat.le_of_ble_eq_true rfl) rfl ?_
  intro p e s m args below meth c A Q C hret
  refine j_aload_n C 0 0 dX11_shutsBy_0 rfl rfl ?_
  refine j_iload_n C 1 1 dX11_shutsBy_1 rfl rfl ?_
  refine j_callVi C (d := 0) (As := [.int (sI a1)]) (st := []) 0 (s_lt rfl rfl) (s_kc (c := 10) rfl rfl) (by decide) rfl (s1_X11_isBuyer hM0 a1 (by omega)) gX11_shutsBy_X11_isBuyer rfl hdX11_isBuyer (by decide) (Nat.le_of_ble_eq_true rfl) dX11_shutsBy_2 rfl (fun r101 M102 h103 => ?_)
  obtain ⟨a105, rfl, rfl, h104⟩ := h103
  have J113 : ∀ (a112 : Int), ((-3) ≤ a112 ∧ a112 ≤ 0 ∧ (¬ a112 = 0 ∨ (0 ≤ a1 ∧ a1 < 6))) → jj p l e (cn_R 6) s m args below meth c 0 0 Q 5 dC dI ad cA A M0 20 [(0, .ref (ad 0)), (1, .int (sI a1)), (2, .int (sI a2)), (3, .int (sI a3))] [.int (sI a112)] := by
    intro a112 h114
    refine j_istore C 4 [(4, .int (sI a112)), (0, .ref (ad 0)), (1, .int (sI a1)), (2, .int (sI a2)), (3, .int (sI a3))] dX11_shutsBy_20 (by decide) rfl ?_
    refine j_iload C 0 dX11_shutsBy_22 rfl ?_
    refine y_if_eq C 31 dX11_shutsBy_24 (by decide) (by omega) (fun h115 => ?_) (fun h115 => ?_)
    · refine j_aload_n C 1 0 dX11_shutsBy_31 rfl rfl ?_
      refine y_getC C 10 88 fX11_shutsBy_94 rfl rfl ft_10_14 sm_10_14 rfl hM0 dX11_shutsBy_32 ?_
      refine j_aload_n C 1 0 dX11_shutsBy_35 rfl rfl ?_
      refine y_getM C 10 6 fX11_shutsBy_26 rfl rfl ft_10_4 sm_10_4 (by decide) hM0 dX11_shutsBy_36 (fun v116 ev116 cv116 => ?_)
      refine j_aload_n C 1 0 dX11_shutsBy_39 rfl rfl ?_
      refine y_getC C 10 12 fX11_shutsBy_36 rfl rfl ft_10_6 sm_10_6 rfl hM0 dX11_shutsBy_40 ?_
      refine j_aload_n C 1 0 dX11_shutsBy_43 rfl rfl ?_
      refine y_getC C 10 12 fX11_shutsBy_36 rfl rfl ft_10_6 sm_10_6 rfl hM0 dX11_shutsBy_44 ?_
      refine y_getI C 8 _ _ fX11_shutsBy_153 rfl rfl ft_8_4 sb_8_4 hM0 dX11_shutsBy_47 (fun a117 ea117 la117 ua117 => ?_)
      refine j_callVv C (d := 5) (As := [.ref (ad v116), .ref (ad 12), .int (sI a117)]) (st := []) 88 (s_lt rfl rfl) (s_kc (c := 4) rfl rfl) (by decide) rfl (s1_X5_look hM0 hpr cv116 rfl a117 (by omega)) gX11_shutsBy_X5_look rfl hdX5_look (by decide) (Nat.le_of_ble_eq_true rfl) dX11_shutsBy_50 rfl (fun M120 h121 => ?_)
      have hM120 := h121
      refine j_aload_n C 1 0 dX11_shutsBy_53 rfl rfl ?_
      refine y_getC C 10 88 fX11_shutsBy_94 rfl rfl ft_10_14 sm_10_14 rfl hM120 dX11_shutsBy_54 ?_
      refine j_iload_n C 3 2 dX11_shutsBy_57 rfl rfl ?_
      refine j_callVv C (d := 3) (As := [.int (sI a2)]) (st := []) 88 (s_lt rfl rfl) (s_kc (c := 4) rfl rfl) (by decide) rfl (s1_X5_passDays hM120 hpr a2 (by omega)) gX11_shutsBy_X5_passDays rfl hdX5_passDays (by decide) (Nat.le_of_ble_eq_true rfl) dX11_shutsBy_58 rfl (fun M124 h125 => ?_)
      have hM124 := h125
      refine j_aload_n C 1 0 dX11_shutsBy_61 rfl rfl ?_
      refine y_getC C 10 88 fX11_shutsBy_94 rfl rfl ft_10_14 sm_10_14 rfl hM124 dX11_shutsBy_62 ?_
      refine y_getC C 4 94 fX11_shutsBy_308 rfl rfl ft_4_6 sm_4_6 rfl hM124 dX11_shutsBy_65 ?_
      refine j_iload_n C 2 1 dX11_shutsBy_68 rfl rfl ?_
      refine y_lald C 42 6 rfl rfl rfl ak_42 an_42 rfl dX11_shutsBy_69 (by omega) (fun a127 ea127 la127 ua127 => ?_)
      refine j_aload_n C 1 0 dX11_shutsBy_70 rfl rfl ?_
      refine y_getC C 10 88 fX11_shutsBy_94 rfl rfl ft_10_14 sm_10_14 rfl hM124 dX11_shutsBy_71 ?_
      refine y_getJ C 4 fX11_shutsBy_296 rfl rfl ft_4_7 dX11_shutsBy_74 (fun a128 ea128 la128 ua128 => ?_)
      refine j_iload_n C 4 3 dX11_shutsBy_77 rfl rfl ?_
      refine j_callSj C (d := 1) (As := [.long (sJ a127), .long (sJ a128), .int (sI a3)]) (st := []) (s1_X11_inLowestTerms hM124 a127 (by omega) a128 (by omega) a3 (by omega)) gX11_shutsBy_X11_inLowestTerms rfl hdX11_inLowestTermss (by decide) (Nat.le_of_ble_eq_true rfl) dX11_shutsBy_78 rfl (fun r129 M130 h131 => ?_)
      obtain ⟨a133, rfl, rfl, h132⟩ := h131
      exact hret _ _ _ _ dX11_shutsBy_81 ⟨a133, rfl, hM124, by omega⟩
    · refine j_iload C 0 dX11_shutsBy_27 rfl ?_
      refine y_i2l C dX11_shutsBy_29 (by omega) ?_
      exact hret _ _ _ _ dX11_shutsBy_30 ⟨a112, rfl, hM0, by omega⟩
  refine y_if_eq C 18 dX11_shutsBy_5 (by decide) (by omega) (fun h106 => ?_) (fun h106 => ?_)
  · refine y_bipush C dX11_shutsBy_18 rfl ?_
    exact J113 (-2) (by omega)
  · refine j_iload_n C 3 3 dX11_shutsBy_8 rfl rfl ?_
    refine j_iload_n C 2 2 dX11_shutsBy_9 rfl rfl ?_
    refine y_bipush C dX11_shutsBy_10 rfl ?_
    refine j_callSi C (d := 0) (As := [.int (sI a3), .int (sI a2), .int (sI 10)]) (st := []) (s1_X11_chanceRefusal hM0 a3 (by omega) a2 (by omega) 10 (by omega)) gX11_shutsBy_X11_chanceRefusal rfl hdX11_chanceRefusals (by decide) (Nat.le_of_ble_eq_true rfl) dX11_shutsBy_12 rfl (fun r107 M108 h109 => ?_)
    obtain ⟨a111, rfl, rfl, h110⟩ := h109
    refine j_goto C 20 dX11_shutsBy_15 (by decide) ?_
    exact J113 a111 (by omega)
set_option maxHeartbeats 4000000 in
theorem s1_X11_closer {l : Launch} {dC : Nat → ClassId} {dI : Nat → Nat → Nat} {ad : Nat → Nat} {cA : Nat → ClassId} {pr : Nat → Nat → Bool} {Kz : mm_M} {M0 : mm_M} (hM0 : INV pr Kz M0) (hpr : PX pr) (a1 : Int) (ha1 : -2147483648 ≤ a1 ∧ a1 ≤ 2147483647) : Ci l 6 yX11_closer wsX11_closer dC dI ad cA [.ref (ad 0), .int (sI a1)] M0 (fun r M' => ∃ a : Int, r = sI a ∧ INV pr Kz M' ∧ (-3) ≤ a ∧ a ≤ 5) := by
  refine ci_of (cc := cX11_closer) (maxL := 6) (ty := .int) (lv := [(0, .ref (ad 0)), (1, .int (sI a1))]) (by decide) rfl (fun r M' hp => rfl) (Nat.le_of_ble_eq_true rfl) rfl ?_
  intro p e s m args below meth c A Q C hret
  refine j_iload_n C 1 1 dX11_closer_0 rfl rfl ?_
  refine y_if_lt C 10 dX11_closer_1 (by decide) (by omega) (fun h101 => ?_) (fun h101 => ?_)
  · refine y_bipush C dX11_closer_10 rfl ?_
    exact hret _ _ _ _ dX11_closer_12 ⟨(-3), rfl, hM0, by omega⟩
  · refine j_iload_n C 1 1 dX11_closer_4 rfl rfl ?_
    refine y_bipush C dX11_closer_5 rfl ?_
    refine y_icmp_le C 13 dX11_closer_7 (by decide) (by omega) (fun h102 => ?_) (fun h102 => ?_)
    · refine j_aload_n C 0 0 dX11_closer_13 rfl rfl ?_
      refine y_getC C 10 88 fX11_closer_94 rfl rfl ft_10_14 sm_10_14 rfl hM0 dX11_closer_14 ?_
      refine j_aload_n C 0 0 dX11_closer_17 rfl rfl ?_
      refine y_getM C 10 6 fX11_closer_26 rfl rfl ft_10_4 sm_10_4 (by decide) hM0 dX11_closer_18 (fun v103 ev103 cv103 => ?_)
      refine j_aload_n C 0 0 dX11_closer_21 rfl rfl ?_
      refine y_getC C 10 12 fX11_closer_36 rfl rfl ft_10_6 sm_10_6 rfl hM0 dX11_closer_22 ?_
      refine j_aload_n C 0 0 dX11_closer_25 rfl rfl ?_
      refine y_getC C 10 12 fX11_closer_36 rfl rfl ft_10_6 sm_10_6 rfl hM0 dX11_closer_26 ?_
      refine y_getI C 8 _ _ fX11_closer_153 rfl rfl ft_8_4 sb_8_4 hM0 dX11_closer_29 (fun a104 ea104 la104 ua104 => ?_)
      refine j_callVv C (d := 5) (As := [.ref (ad v103), .ref (ad 12), .int (sI a104)]) (st := []) 88 (s_lt rfl rfl) (s_kc (c := 4) rfl rfl) (by decide) rfl (s1_X5_look hM0 hpr cv103 rfl a104 (by omega)) gX11_closer_X5_look rfl hdX5_look (by decide) (Nat.le_of_ble_eq_true rfl) dX11_closer_32 rfl (fun M107 h108 => ?_)
      have hM107 := h108
      refine j_aload_n C 0 0 dX11_closer_35 rfl rfl ?_
      refine y_getC C 10 88 fX11_closer_94 rfl rfl ft_10_14 sm_10_14 rfl hM107 dX11_closer_36 ?_
      refine j_iload_n C 1 1 dX11_closer_39 rfl rfl ?_
      refine j_callVv C (d := 3) (As := [.int (sI a1)]) (st := []) 88 (s_lt rfl rfl) (s_kc (c := 4) rfl rfl) (by decide) rfl (s1_X5_passDays hM107 hpr a1 (by omega)) gX11_closer_X5_passDays rfl hdX5_passDays (by decide) (Nat.le_of_ble_eq_true rfl) dX11_closer_40 rfl (fun M111 h112 => ?_)
      have hM111 := h112
      refine y_iconst C dX11_closer_43 ?_
      refine j_istore_n C 2 [(2, .int (sI (-1))), (0, .ref (ad 0)), (1, .int (sI a1))] dX11_closer_44 rfl (by decide) rfl ?_
      refine y_lconst C 0 dX11_closer_45 rfl ?_
      refine j_lstore_n C 3 [(3, .long (sJ 0)), (2, .int (sI (-1))), (0, .ref (ad 0)), (1, .int (sI a1))] dX11_closer_46 rfl (by decide) rfl ?_
      refine y_iconst C dX11_closer_47 ?_
      refine j_istore C 5 [(5, .int (sI 0)), (3, .long (sJ 0)), (2, .int (sI (-1))), (0, .ref (ad 0)), (1, .int (sI a1))] dX11_closer_48 (by decide) rfl ?_
      have L186 : ∀ (n184 : Nat), ∀ (a187 : Int) (a188 : Int) (a189 : Int), ((-1) ≤ a187 ∧ a187 ≤ 5 ∧ (-9223372036854775808) ≤ a188 ∧ a188 ≤ 9223372036854775807 ∧ 0 ≤ a189 ∧ a189 ≤ 6 ∧ (6 - a189) < (n184 : Int)) → jj p l e (cn_R 6) s m args below meth c 0 0 Q 6 dC dI ad cA A M111 50 [(0, .ref (ad 0)), (2, .int (sI a187)), (3, .long (sJ a188)), (5, .int (sI a189))] [] := by
        intro n184
        induction n184 with
        | zero =>
          intro a187 a188 a189 h190
          exfalso; omega
        | succ n184 ih185 =>
          intro a187 a188 a189 h190
          refine j_iload C 3 dX11_closer_50 rfl ?_
          refine j_aload_n C 0 0 dX11_closer_52 rfl rfl ?_
          refine y_getM C 10 6 fX11_closer_26 rfl rfl ft_10_4 sm_10_4 (by decide) hM111 dX11_closer_53 (fun v191 ev191 cv191 => ?_)
          refine y_getI C 6 _ _ fX11_closer_163 cv191 rfl ft_6_0 sb_6_0 hM111 dX11_closer_56 (fun a192 ea192 la192 ua192 => ?_)
          refine y_icmp_ge C 97 dX11_closer_59 (by decide) (by omega) (fun h194 => ?_) (fun h194 => ?_)
          · refine j_iload_n C 1 2 dX11_closer_97 rfl rfl ?_
            exact hret _ _ _ _ dX11_closer_98 ⟨a187, rfl, hM111, by omega⟩
          · refine j_aload_n C 0 0 dX11_closer_62 rfl rfl ?_
            refine y_getC C 10 88 fX11_closer_94 rfl rfl ft_10_14 sm_10_14 rfl hM111 dX11_closer_63 ?_
            refine y_getC C 4 94 fX11_closer_308 rfl rfl ft_4_6 sm_4_6 rfl hM111 dX11_closer_66 ?_
            refine j_iload C 3 dX11_closer_69 rfl ?_
            refine y_lald C 42 6 rfl rfl rfl ak_42 an_42 rfl dX11_closer_71 (by omega) (fun a195 ea195 la195 ua195 => ?_)
            refine j_lload_n C 2 3 dX11_closer_72 rfl rfl ?_
            refine y_lcmp_le C 91 dX11_closer_73 dX11_closer_74 (by decide) (by omega) (fun h196 => ?_) (fun h196 => ?_)
            · refine y_iinc C 3 [(5, .int (sI (a189 + 1))), (0, .ref (ad 0)), (2, .int (sI a187)), (3, .long (sJ a188))] dX11_closer_91 rfl (by decide) rfl ?_
              refine j_goto C 50 dX11_closer_94 (by decide) ?_
              refine j_lv [1, 2, 3, 0] rfl ?_; exact ih185 a187 a188 (a189 + 1) (by omega)
            · refine j_aload_n C 0 0 dX11_closer_77 rfl rfl ?_
              refine y_getC C 10 88 fX11_closer_94 rfl rfl ft_10_14 sm_10_14 rfl hM111 dX11_closer_78 ?_
              refine y_getC C 4 94 fX11_closer_308 rfl rfl ft_4_6 sm_4_6 rfl hM111 dX11_closer_81 ?_
              refine j_iload C 3 dX11_closer_84 rfl ?_
              refine y_lald C 42 6 rfl rfl rfl ak_42 an_42 rfl dX11_closer_86 (by omega) (fun a197 ea197 la197 ua197 => ?_)
              refine j_lstore_n C 3 [(3, .long (sJ a197)), (0, .ref (ad 0)), (2, .int (sI a187)), (5, .int (sI a189))] dX11_closer_87 rfl (by decide) rfl ?_
              refine j_iload C 3 dX11_closer_88 rfl ?_
              refine j_istore_n C 2 [(2, .int (sI a189)), (3, .long (sJ a197)), (0, .ref (ad 0)), (5, .int (sI a189))] dX11_closer_90 rfl (by decide) rfl ?_
              refine y_iinc C 3 [(5, .int (sI (a189 + 1))), (2, .int (sI a189)), (3, .long (sJ a197)), (0, .ref (ad 0))] dX11_closer_91 rfl (by decide) rfl ?_
              refine j_goto C 50 dX11_closer_94 (by decide) ?_
              refine j_lv [3, 1, 2, 0] rfl ?_; exact ih185 a189 a197 (a189 + 1) (by omega)
      refine j_lv [3, 2, 1, 0] rfl ?_; exact L186 2010 (-1) 0 0 (by omega)
    · refine y_bipush C dX11_closer_10 rfl ?_
      exact hret _ _ _ _ dX11_closer_12 ⟨(-3), rfl, hM0, by omega⟩
set_option maxHeartbeats 4000000 in
theorem s1_X5_soldWays {l : Launch} {dC : Nat → ClassId} {dI : Nat → Nat → Nat} {ad : Nat → Nat} {cA : Nat → ClassId} {pr : Nat → Nat → Bool} {Kz : mm_M} {M0 : mm_M} (hM0 : INV pr Kz M0) (a1 : Int) (ha1 : -2147483648 ≤ a1 ∧ a1 ≤ 2147483647) : Cj l 0 yX5_soldWays wsX5_soldWays dC dI ad cA [.ref (ad 88), .int (sI a1)] M0 (fun r M' => ∃ a : Int, r = sJ a ∧ M0 = M' ∧ (-9223372036854775808) ≤ a ∧ a ≤ 9223372036854775807) := by
  refine cj_of (cc := cX5_soldWays) (maxL := 5) (lv := [(0, .ref (ad 88)), (1, .int (sI a1))]) (by decide) rfl (Nat.le_of_ble_eq_true rfl) rfl ?_
  intro p e s m args below meth c A Q C hret
  refine y_lconst C 0 dX5_soldWays_0 rfl ?_
  refine j_lstore_n C 2 [(2, .long (sJ 0)), (0, .ref (ad 88)), (1, .int (sI a1))] dX5_soldWays_1 rfl (by decide) rfl ?_
  refine j_aload_n C 1 0 dX5_soldWays_2 rfl rfl ?_
  refine y_getI C 4 _ _ fX5_soldWays_45 rfl rfl ft_4_13 sb_4_13 hM0 dX5_soldWays_3 (fun a101 ea101 la101 ua101 => ?_)
  refine j_istore C 4 [(4, .int (sI a101)), (2, .long (sJ 0)), (0, .ref (ad 88)), (1, .int (sI a1))] dX5_soldWays_6 (by decide) rfl ?_
  have L126 : ∀ (n124 : Nat), ∀ (a127 : Int) (a128 : Int), ((-9223372036854775808) ≤ a127 ∧ a127 ≤ 9223372036854775807 ∧ 0 ≤ a128 ∧ a128 ≤ 256 ∧ (256 - a128) < (n124 : Int)) → jj p l e (cn_R 0) s m args below meth c 0 0 Q 5 dC dI ad cA A M0 8 [(0, .ref (ad 88)), (1, .int (sI a1)), (2, .long (sJ a127)), (4, .int (sI a128))] [] := by
    intro n124
    induction n124 with
    | zero =>
      intro a127 a128 h129
      exfalso; omega
    | succ n124 ih125 =>
      intro a127 a128 h129
      refine j_iload C 3 dX5_soldWays_8 rfl ?_
      refine j_aload_n C 0 0 dX5_soldWays_10 rfl rfl ?_
      refine y_getI C 4 _ _ fX5_soldWays_38 rfl rfl ft_4_11 sb_4_11 hM0 dX5_soldWays_11 (fun a130 ea130 la130 ua130 => ?_)
      refine y_icmp_gt C 47 dX5_soldWays_14 (by decide) (by omega) (fun h132 => ?_) (fun h132 => ?_)
      · refine j_lload_n C 2 2 dX5_soldWays_47 rfl rfl ?_
        exact hret _ _ _ _ dX5_soldWays_48 ⟨a127, rfl, rfl, by omega⟩
      · refine j_lload_n C 2 2 dX5_soldWays_17 rfl rfl ?_
        refine j_iload C 3 dX5_soldWays_18 rfl ?_
        refine j_iload_n C 1 1 dX5_soldWays_20 rfl rfl ?_
        refine y_ishrP C dX5_soldWays_21 (by omega) (fun a133 la133 ua133 => ?_)
        refine y_iconst C dX5_soldWays_22 ?_
        refine y_iandR C dX5_soldWays_23 (by omega) (fun a134 la134 ua134 => ?_)
        refine y_iconst C dX5_soldWays_24 ?_
        refine y_icmp_ne C 38 dX5_soldWays_25 (by decide) (by omega) (fun h135 => ?_) (fun h135 => ?_)
        · refine y_lconst C 0 dX5_soldWays_38 rfl ?_
          refine y_ladd C dX5_soldWays_39 ?_
          refine j_lstore_n C 2 [(2, .long (sJ (a127 + 0))), (0, .ref (ad 88)), (1, .int (sI a1)), (4, .int (sI a128))] dX5_soldWays_40 rfl (by decide) rfl ?_
          refine y_iinc C 3 [(4, .int (sI (a128 + 1))), (2, .long (sJ (a127 + 0))), (0, .ref (ad 88)), (1, .int (sI a1))] dX5_soldWays_41 rfl (by decide) rfl ?_
          refine j_goto C 8 dX5_soldWays_44 (by decide) ?_
          refine j_lv [2, 3, 1, 0] rfl ?_; exact ih125 (a127 + 0) (a128 + 1) (by omega)
        · refine j_aload_n C 0 0 dX5_soldWays_28 rfl rfl ?_
          refine y_getM C 4 41 fX5_soldWays_21 rfl rfl ft_4_4 sm_4_4 (by decide) hM0 dX5_soldWays_29 (fun v136 ev136 cv136 => ?_)
          refine j_iload C 3 dX5_soldWays_32 rfl ?_
          refine y_lald C 41 256 cv136 rfl rfl ak_41 an_41 rfl dX5_soldWays_34 (by omega) (fun a137 ea137 la137 ua137 => ?_)
          refine j_goto C 39 dX5_soldWays_35 (by decide) ?_
          refine y_ladd0 C dX5_soldWays_39 (fun a138 la138 ua138 => ?_)
          refine j_lstore_n C 2 [(2, .long (sJ a138)), (0, .ref (ad 88)), (1, .int (sI a1)), (4, .int (sI a128))] dX5_soldWays_40 rfl (by decide) rfl ?_
          refine y_iinc C 3 [(4, .int (sI (a128 + 1))), (2, .long (sJ a138)), (0, .ref (ad 88)), (1, .int (sI a1))] dX5_soldWays_41 rfl (by decide) rfl ?_
          refine j_goto C 8 dX5_soldWays_44 (by decide) ?_
          refine j_lv [2, 3, 1, 0] rfl ?_; exact ih125 a138 (a128 + 1) (by omega)
  refine j_lv [2, 3, 1, 0] rfl ?_; exact L126 2010 0 a101 (by omega)
set_option maxHeartbeats 4000000 in
theorem s1_X11_soldIn {l : Launch} {dC : Nat → ClassId} {dI : Nat → Nat → Nat} {ad : Nat → Nat} {cA : Nat → ClassId} {pr : Nat → Nat → Bool} {Kz : mm_M} {M0 : mm_M} (hM0 : INV pr Kz M0) (hpr : PX pr) (a1 : Int) (ha1 : -2147483648 ≤ a1 ∧ a1 ≤ 2147483647) (a2 : Int) (ha2 : -2147483648 ≤ a2 ∧ a2 ≤ 2147483647) (a3 : Int) (ha3 : -2147483648 ≤ a3 ∧ a3 ≤ 2147483647) : Cj l 6 yX11_soldIn wsX11_soldIn dC dI ad cA [.ref (ad 0), .int (sI a1), .int (sI a2), .int (sI a3)] M0 (fun r M' => ∃ a : Int, r = sJ a ∧ INV pr Kz M' ∧ (-9223372036854775808) ≤ a ∧ a ≤ 9223372036854775807) := by
  refine cj_of (cc := cX11_soldIn) (maxL := 5) (lv := [(0, .ref (ad 0)), (1, .int (sI a1)), (2, .int (sI a2)), (3, .int (sI a3))]) (by decide) rfl (Nat.le_of_ble_eq_true rfl) rfl ?_
  intro p e s m args below meth c A Q C hret
  refine j_aload_n C 0 0 dX11_soldIn_0 rfl rfl ?_
  refine j_iload_n C 1 1 dX11_soldIn_1 rfl rfl ?_
  refine j_callVi C (d := 0) (As := [.int (sI a1)]) (st := []) 0 (s_lt rfl rfl) (s_kc (c := 10) rfl rfl) (by decide) rfl (s1_X11_isKind hM0 a1 (by omega)) gX11_soldIn_X11_isKind rfl hdX11_isKind (by decide) (Nat.le_of_ble_eq_true rfl) dX11_soldIn_2 rfl (fun r101 M102 h103 => ?_)
  obtain ⟨a105, rfl, rfl, h104⟩ := h103
  have J113 : ∀ (a112 : Int), ((-3) ≤ a112 ∧ a112 ≤ 0) → jj p l e (cn_R 6) s m args below meth c 0 0 Q 5 dC dI ad cA A M0 20 [(0, .ref (ad 0)), (1, .int (sI a1)), (2, .int (sI a2)), (3, .int (sI a3))] [.int (sI a112)] := by
    intro a112 h114
    refine j_istore C 4 [(4, .int (sI a112)), (0, .ref (ad 0)), (1, .int (sI a1)), (2, .int (sI a2)), (3, .int (sI a3))] dX11_soldIn_20 (by decide) rfl ?_
    refine j_iload C 0 dX11_soldIn_22 rfl ?_
    refine y_if_eq C 31 dX11_soldIn_24 (by decide) (by omega) (fun h115 => ?_) (fun h115 => ?_)
    · refine j_aload_n C 1 0 dX11_soldIn_31 rfl rfl ?_
      refine y_getC C 10 88 fX11_soldIn_94 rfl rfl ft_10_14 sm_10_14 rfl hM0 dX11_soldIn_32 ?_
      refine j_aload_n C 1 0 dX11_soldIn_35 rfl rfl ?_
      refine y_getM C 10 6 fX11_soldIn_26 rfl rfl ft_10_4 sm_10_4 (by decide) hM0 dX11_soldIn_36 (fun v116 ev116 cv116 => ?_)
      refine j_aload_n C 1 0 dX11_soldIn_39 rfl rfl ?_
      refine y_getC C 10 12 fX11_soldIn_36 rfl rfl ft_10_6 sm_10_6 rfl hM0 dX11_soldIn_40 ?_
      refine j_aload_n C 1 0 dX11_soldIn_43 rfl rfl ?_
      refine y_getC C 10 12 fX11_soldIn_36 rfl rfl ft_10_6 sm_10_6 rfl hM0 dX11_soldIn_44 ?_
      refine y_getI C 8 _ _ fX11_soldIn_153 rfl rfl ft_8_4 sb_8_4 hM0 dX11_soldIn_47 (fun a117 ea117 la117 ua117 => ?_)
      refine j_callVv C (d := 5) (As := [.ref (ad v116), .ref (ad 12), .int (sI a117)]) (st := []) 88 (s_lt rfl rfl) (s_kc (c := 4) rfl rfl) (by decide) rfl (s1_X5_look hM0 hpr cv116 rfl a117 (by omega)) gX11_soldIn_X5_look rfl hdX5_look (by decide) (Nat.le_of_ble_eq_true rfl) dX11_soldIn_50 rfl (fun M120 h121 => ?_)
      have hM120 := h121
      refine j_aload_n C 1 0 dX11_soldIn_53 rfl rfl ?_
      refine y_getC C 10 88 fX11_soldIn_94 rfl rfl ft_10_14 sm_10_14 rfl hM120 dX11_soldIn_54 ?_
      refine j_iload_n C 3 2 dX11_soldIn_57 rfl rfl ?_
      refine j_callVv C (d := 3) (As := [.int (sI a2)]) (st := []) 88 (s_lt rfl rfl) (s_kc (c := 4) rfl rfl) (by decide) rfl (s1_X5_passDays hM120 hpr a2 (by omega)) gX11_soldIn_X5_passDays rfl hdX5_passDays (by decide) (Nat.le_of_ble_eq_true rfl) dX11_soldIn_58 rfl (fun M124 h125 => ?_)
      have hM124 := h125
      refine j_aload_n C 1 0 dX11_soldIn_61 rfl rfl ?_
      refine y_getC C 10 88 fX11_soldIn_94 rfl rfl ft_10_14 sm_10_14 rfl hM124 dX11_soldIn_62 ?_
      refine j_iload_n C 2 1 dX11_soldIn_65 rfl rfl ?_
      refine j_callVj C (d := 0) (As := [.int (sI a1)]) (st := []) 88 (s_lt rfl rfl) (s_kc (c := 4) rfl rfl) (by decide) rfl (s1_X5_soldWays hM124 a1 (by omega)) gX11_soldIn_X5_soldWays rfl hdX5_soldWays (by decide) (Nat.le_of_ble_eq_true rfl) dX11_soldIn_66 rfl (fun r127 M128 h129 => ?_)
      obtain ⟨a131, rfl, rfl, h130⟩ := h129
      refine j_aload_n C 1 0 dX11_soldIn_69 rfl rfl ?_
      refine y_getC C 10 88 fX11_soldIn_94 rfl rfl ft_10_14 sm_10_14 rfl hM124 dX11_soldIn_70 ?_
      refine y_getJ C 4 fX11_soldIn_296 rfl rfl ft_4_7 dX11_soldIn_73 (fun a132 ea132 la132 ua132 => ?_)
      refine j_iload_n C 4 3 dX11_soldIn_76 rfl rfl ?_
      refine j_callSj C (d := 1) (As := [.long (sJ a131), .long (sJ a132), .int (sI a3)]) (st := []) (s1_X11_inLowestTerms hM124 a131 (by omega) a132 (by omega) a3 (by omega)) gX11_soldIn_X11_inLowestTerms rfl hdX11_inLowestTermss (by decide) (Nat.le_of_ble_eq_true rfl) dX11_soldIn_77 rfl (fun r133 M134 h135 => ?_)
      obtain ⟨a137, rfl, rfl, h136⟩ := h135
      exact hret _ _ _ _ dX11_soldIn_80 ⟨a137, rfl, hM124, by omega⟩
    · refine j_iload C 0 dX11_soldIn_27 rfl ?_
      refine y_i2l C dX11_soldIn_29 (by omega) ?_
      exact hret _ _ _ _ dX11_soldIn_30 ⟨a112, rfl, hM0, by omega⟩
  refine y_if_eq C 18 dX11_soldIn_5 (by decide) (by omega) (fun h106 => ?_) (fun h106 => ?_)
  · refine y_bipush C dX11_soldIn_18 rfl ?_
    exact J113 (-2) (by omega)
  · refine j_iload_n C 3 3 dX11_soldIn_8 rfl rfl ?_
    refine j_iload_n C 2 2 dX11_soldIn_9 rfl rfl ?_
    refine y_bipush C dX11_soldIn_10 rfl ?_
    refine j_callSi C (d := 0) (As := [.int (sI a3), .int (sI a2), .int (sI 10)]) (st := []) (s1_X11_chanceRefusal hM0 a3 (by omega) a2 (by omega) 10 (by omega)) gX11_soldIn_X11_chanceRefusal rfl hdX11_chanceRefusals (by decide) (Nat.le_of_ble_eq_true rfl) dX11_soldIn_12 rfl (fun r107 M108 h109 => ?_)
    obtain ⟨a111, rfl, rfl, h110⟩ := h109
    refine j_goto C 20 dX11_soldIn_15 (by decide) ?_
    exact J113 a111 (by omega)
set_option maxHeartbeats 4000000 in
theorem s1_X11_isHideable {l : Launch} {dC : Nat → ClassId} {dI : Nat → Nat → Nat} {ad : Nat → Nat} {cA : Nat → ClassId} {pr : Nat → Nat → Bool} {Kz : mm_M} {M0 : mm_M} (hM0 : INV pr Kz M0) (a1 : Int) (ha1 : -2147483648 ≤ a1 ∧ a1 ≤ 2147483647) (a2 : Int) (ha2 : -2147483648 ≤ a2 ∧ a2 ≤ 2147483647) : Ci l 1 yX11_isHideable wsX11_isHideable dC dI ad cA [.ref (ad 0), .int (sI a1), .int (sI a2)] M0 (fun r M' => ∃ a : Int, r = sI a ∧ M0 = M' ∧ 0 ≤ a ∧ a ≤ 1 ∧ ((a = 0) ∨ (a = 1))) := by
  refine ci_of (cc := cX11_isHideable) (maxL := 3) (ty := .boolean) (lv := [(0, .ref (ad 0)), (1, .int (sI a1)), (2, .int (sI a2))]) (by decide) rfl (fun r M' hp => by obtain ⟨a, rfl, -, h⟩ := hp; rcases (show a = 0 ∨ a = 1 by omega) with rfl | rfl <;> rfl) (Nat.le_of_ble_eq_true rfl) rfl ?_
  intro p e s m args below meth c A Q C hret
  refine j_iload_n C 1 1 dX11_isHideable_0 rfl rfl ?_
  refine j_callSi C (d := 0) (As := [.int (sI a1)]) (st := []) (s1_J6_bitCount_0f7a4 hM0 a1 (by omega)) gX11_isHideable_J6_bitCount_0f7a4 rfl hdJ6_bitCount_0f7a4s (by decide) (Nat.le_of_ble_eq_true rfl) dX11_isHideable_1 rfl (fun r101 M102 h103 => ?_)
  obtain ⟨a105, rfl, rfl, h104⟩ := h103
  refine j_iload_n C 2 2 dX11_isHideable_4 rfl rfl ?_
  refine y_icmp_ne C 24 dX11_isHideable_5 (by decide) (by omega) (fun h106 => ?_) (fun h106 => ?_)
  · refine y_iconst C dX11_isHideable_24 ?_
    exact hret _ _ _ _ dX11_isHideable_25 ⟨0, rfl, rfl, by omega⟩
  · refine j_iload_n C 1 1 dX11_isHideable_8 rfl rfl ?_
    refine j_aload_n C 0 0 dX11_isHideable_9 rfl rfl ?_
    refine y_getC C 10 12 fX11_isHideable_36 rfl rfl ft_10_6 sm_10_6 rfl hM0 dX11_isHideable_10 ?_
    refine y_getI C 8 _ _ fX11_isHideable_153 rfl rfl ft_8_4 sb_8_4 hM0 dX11_isHideable_13 (fun a107 ea107 la107 ua107 => ?_)
    refine y_iandR C dX11_isHideable_16 (by omega) (fun a109 la109 ua109 => ?_)
    refine y_if_ne C 24 dX11_isHideable_17 (by decide) (by omega) (fun h110 => ?_) (fun h110 => ?_)
    · refine y_iconst C dX11_isHideable_24 ?_
      exact hret _ _ _ _ dX11_isHideable_25 ⟨0, rfl, rfl, by omega⟩
    · refine y_iconst C dX11_isHideable_20 ?_
      refine j_goto C 25 dX11_isHideable_21 (by decide) ?_
      exact hret _ _ _ _ dX11_isHideable_25 ⟨1, rfl, rfl, by omega⟩
set_option maxHeartbeats 4000000 in
theorem s1_X11_hides {l : Launch} {dC : Nat → ClassId} {dI : Nat → Nat → Nat} {ad : Nat → Nat} {cA : Nat → ClassId} {pr : Nat → Nat → Bool} {Kz : mm_M} {M0 : mm_M} (hM0 : INV pr Kz M0) (hpr : PX pr) (a1 : Int) (ha1 : -2147483648 ≤ a1 ∧ a1 ≤ 2147483647) (a2 : Int) (ha2 : -2147483648 ≤ a2 ∧ a2 ≤ 2147483647) (a3 : Int) (ha3 : -2147483648 ≤ a3 ∧ a3 ≤ 2147483647) : Ci l 6 yX11_hides wsX11_hides dC dI ad cA [.ref (ad 0), .int (sI a1), .int (sI a2), .int (sI a3)] M0 (fun r M' => ∃ a : Int, r = sI a ∧ INV pr Kz M' ∧ (-5) ≤ a ∧ a ≤ 255) := by
  refine ci_of (cc := cX11_hides) (maxL := 11) (ty := .int) (lv := [(0, .ref (ad 0)), (1, .int (sI a1)), (2, .int (sI a2)), (3, .int (sI a3))]) (by decide) rfl (fun r M' hp => rfl) (Nat.le_of_ble_eq_true rfl) rfl ?_
  intro p e s m args below meth c A Q C hret
  refine j_iload_n C 3 3 dX11_hides_0 rfl rfl ?_
  refine y_if_lt C 9 dX11_hides_1 (by decide) (by omega) (fun h101 => ?_) (fun h101 => ?_)
  · refine y_bipush C dX11_hides_9 rfl ?_
    exact hret _ _ _ _ dX11_hides_11 ⟨(-2), rfl, hM0, by omega⟩
  · refine j_iload_n C 3 3 dX11_hides_4 rfl rfl ?_
    refine y_iconst C dX11_hides_5 ?_
    refine y_icmp_le C 12 dX11_hides_6 (by decide) (by omega) (fun h102 => ?_) (fun h102 => ?_)
    · refine j_iload_n C 1 1 dX11_hides_12 rfl rfl ?_
      refine y_if_lt C 32 dX11_hides_13 (by decide) (by omega) (fun h103 => ?_) (fun h103 => ?_)
      · refine y_bipush C dX11_hides_32 rfl ?_
        exact hret _ _ _ _ dX11_hides_34 ⟨(-3), rfl, hM0, by omega⟩
      · refine j_iload_n C 1 1 dX11_hides_16 rfl rfl ?_
        refine y_iconst C dX11_hides_17 ?_
        refine y_icmp_gt C 32 dX11_hides_18 (by decide) (by omega) (fun h104 => ?_) (fun h104 => ?_)
        · refine y_bipush C dX11_hides_32 rfl ?_
          exact hret _ _ _ _ dX11_hides_34 ⟨(-3), rfl, hM0, by omega⟩
        · refine j_iload_n C 2 2 dX11_hides_21 rfl rfl ?_
          refine y_iconst C dX11_hides_22 ?_
          refine y_icmp_lt C 32 dX11_hides_23 (by decide) (by omega) (fun h105 => ?_) (fun h105 => ?_)
          · refine y_bipush C dX11_hides_32 rfl ?_
            exact hret _ _ _ _ dX11_hides_34 ⟨(-3), rfl, hM0, by omega⟩
          · refine j_iload_n C 2 2 dX11_hides_26 rfl rfl ?_
            refine y_bipush C dX11_hides_27 rfl ?_
            refine y_icmp_le C 35 dX11_hides_29 (by decide) (by omega) (fun h106 => ?_) (fun h106 => ?_)
            · refine j_aload_n C 0 0 dX11_hides_35 rfl rfl ?_
              refine y_getC C 10 12 fX11_hides_36 rfl rfl ft_10_6 sm_10_6 rfl hM0 dX11_hides_36 ?_
              refine j_callVi C (d := 1) (As := []) (st := []) 12 (s_lt rfl rfl) (s_kc (c := 8) rfl rfl) (by decide) rfl (s1_X9_isShut hM0 rfl) gX11_hides_X9_isShut rfl hdX9_isShut (by decide) (Nat.le_of_ble_eq_true rfl) dX11_hides_39 rfl (fun r107 M108 h109 => ?_)
              obtain ⟨a111, rfl, rfl, h110⟩ := h109
              refine y_if_eq C 48 dX11_hides_42 (by decide) (by omega) (fun h112 => ?_) (fun h112 => ?_)
              · refine y_iconst C dX11_hides_48 ?_
                refine j_istore C 4 [(4, .int (sI 0)), (0, .ref (ad 0)), (1, .int (sI a1)), (2, .int (sI a2)), (3, .int (sI a3))] dX11_hides_49 (by decide) rfl ?_
                refine y_ldc2 C (-1) dX11_hides_51 kX11_hides_219 rfl ?_
                refine j_lstore C 5 [(5, .long (sJ (-1))), (4, .int (sI 0)), (0, .ref (ad 0)), (1, .int (sI a1)), (2, .int (sI a2)), (3, .int (sI a3))] dX11_hides_54 (by decide) rfl ?_
                refine y_iconst C dX11_hides_56 ?_
                refine j_istore C 7 [(7, .int (sI 0)), (5, .long (sJ (-1))), (4, .int (sI 0)), (0, .ref (ad 0)), (1, .int (sI a1)), (2, .int (sI a2)), (3, .int (sI a3))] dX11_hides_57 (by decide) rfl ?_
                have L5480 : ∀ (n5478 : Nat), ∀ (a5481 : Int) (a5482 : Int) (a5483 : Int) (M5484 : mm_M), (0 ≤ a5481 ∧ a5481 ≤ 255 ∧ (-9223372036854775808) ≤ a5482 ∧ a5482 ≤ 9223372036854775807 ∧ 0 ≤ a5483 ∧ a5483 ≤ 4 ∧ (4 - a5483) < (n5478 : Int)) → INV pr Kz M5484 → jj p l e (cn_R 6) s m args below meth c 0 0 Q 11 dC dI ad cA A M5484 59 [(0, .ref (ad 0)), (1, .int (sI a1)), (2, .int (sI a2)), (3, .int (sI a3)), (4, .int (sI a5481)), (5, .long (sJ a5482)), (7, .int (sI a5483))] [] := by
                  intro n5478
                  induction n5478 with
                  | zero =>
                    intro a5481 a5482 a5483 M5484 h5485 hM5484
                    exfalso; omega
                  | succ n5478 ih5479 =>
                    intro a5481 a5482 a5483 M5484 h5485 hM5484
                    refine j_iload C 6 dX11_hides_59 rfl ?_
                    refine j_iload_n C 1 1 dX11_hides_61 rfl rfl ?_
                    refine y_icmp_gt C 171 dX11_hides_62 (by decide) (by omega) (fun h5486 => ?_) (fun h5486 => ?_)
                    · refine j_iload_n C 3 3 dX11_hides_171 rfl rfl ?_
                      refine y_if_ne C 183 dX11_hides_172 (by decide) (by omega) (fun h6555 => ?_) (fun h6555 => ?_)
                      · refine j_iload C 4 dX11_hides_183 rfl ?_
                        exact hret _ _ _ _ dX11_hides_185 ⟨a5481, rfl, hM5484, by omega⟩
                      · refine j_iload C 4 dX11_hides_175 rfl ?_
                        refine j_callSi C (d := 0) (As := [.int (sI a5481)]) (st := []) (s1_J6_bitCount_0f7a4 hM5484 a5481 (by omega)) gX11_hides_J6_bitCount_0f7a4 rfl hdJ6_bitCount_0f7a4s (by decide) (Nat.le_of_ble_eq_true rfl) dX11_hides_177 rfl (fun r6556 M6557 h6558 => ?_)
                        obtain ⟨a6560, rfl, rfl, h6559⟩ := h6558
                        refine j_goto C 185 dX11_hides_180 (by decide) ?_
                        exact hret _ _ _ _ dX11_hides_185 ⟨a6560, rfl, hM5484, by omega⟩
                    · refine y_iconst C dX11_hides_65 ?_
                      refine j_istore C 8 [(8, .int (sI 0)), (0, .ref (ad 0)), (1, .int (sI a1)), (2, .int (sI a2)), (3, .int (sI a3)), (4, .int (sI a5481)), (5, .long (sJ a5482)), (7, .int (sI a5483))] dX11_hides_66 (by decide) rfl ?_
                      have L6515 : ∀ (n6513 : Nat), ∀ (a6516 : Int) (a6517 : Int) (a6518 : Int) (M6519 : mm_M), (0 ≤ a6516 ∧ a6516 ≤ 255 ∧ (-9223372036854775808) ≤ a6517 ∧ a6517 ≤ 9223372036854775807 ∧ 0 ≤ a6518 ∧ a6518 ≤ 256 ∧ (256 - a6518) < (n6513 : Int)) → INV pr Kz M6519 → jj p l e (cn_R 6) s m args below meth c 0 0 Q 11 dC dI ad cA A M6519 68 [(0, .ref (ad 0)), (1, .int (sI a1)), (2, .int (sI a2)), (3, .int (sI a3)), (4, .int (sI a6516)), (5, .long (sJ a6517)), (7, .int (sI a5483)), (8, .int (sI a6518))] [] := by
                        intro n6513
                        induction n6513 with
                        | zero =>
                          intro a6516 a6517 a6518 M6519 h6520 hM6519
                          exfalso; omega
                        | succ n6513 ih6514 =>
                          intro a6516 a6517 a6518 M6519 h6520 hM6519
                          refine j_iload C 7 dX11_hides_68 rfl ?_
                          refine j_aload_n C 0 0 dX11_hides_70 rfl rfl ?_
                          refine y_getC C 10 12 fX11_hides_36 rfl rfl ft_10_6 sm_10_6 rfl hM6519 dX11_hides_71 ?_
                          refine j_callVi C (d := 0) (As := []) (st := [.int (sI a6518)]) 12 (s_lt rfl rfl) (s_kc (c := 8) rfl rfl) (by decide) rfl (s1_X9_everyKind hM6519 rfl) gX11_hides_X9_everyKind rfl hdX9_everyKind (by decide) (Nat.le_of_ble_eq_true rfl) dX11_hides_74 rfl (fun r6521 M6522 h6523 => ?_)
                          obtain ⟨a6525, rfl, rfl, h6524⟩ := h6523
                          refine y_icmp_gt C 165 dX11_hides_77 (by decide) (by omega) (fun h6526 => ?_) (fun h6526 => ?_)
                          · refine y_iinc C 6 [(7, .int (sI (a5483 + 1))), (0, .ref (ad 0)), (1, .int (sI a1)), (2, .int (sI a2)), (3, .int (sI a3)), (4, .int (sI a6516)), (5, .long (sJ a6517)), (8, .int (sI a6518))] dX11_hides_165 rfl (by decide) rfl ?_
                            refine j_goto C 59 dX11_hides_168 (by decide) ?_
                            refine j_lv [1, 2, 3, 4, 5, 6, 0] rfl ?_; exact ih5479 a6516 a6517 (a5483 + 1) M6519 (by omega) hM6519
                          · refine j_aload_n C 0 0 dX11_hides_80 rfl rfl ?_
                            refine j_iload C 7 dX11_hides_81 rfl ?_
                            refine j_iload C 6 dX11_hides_83 rfl ?_
                            refine j_callVi C (d := 1) (As := [.int (sI a6518), .int (sI a5483)]) (st := []) 0 (s_lt rfl rfl) (s_kc (c := 10) rfl rfl) (by decide) rfl (s1_X11_isHideable hM6519 a6518 (by omega) a5483 (by omega)) gX11_hides_X11_isHideable rfl hdX11_isHideable (by decide) (Nat.le_of_ble_eq_true rfl) dX11_hides_85 rfl (fun r6527 M6528 h6529 => ?_)
                            obtain ⟨a6531, rfl, rfl, h6530⟩ := h6529
                            refine y_if_eq C 159 dX11_hides_88 (by decide) (by omega) (fun h6532 => ?_) (fun h6532 => ?_)
                            · refine y_iinc C 7 [(8, .int (sI (a6518 + 1))), (0, .ref (ad 0)), (1, .int (sI a1)), (2, .int (sI a2)), (3, .int (sI a3)), (4, .int (sI a6516)), (5, .long (sJ a6517)), (7, .int (sI a5483))] dX11_hides_159 rfl (by decide) rfl ?_
                              refine j_goto C 68 dX11_hides_162 (by decide) ?_
                              refine j_lv [1, 2, 3, 4, 5, 6, 7, 0] rfl ?_; exact ih6514 a6516 a6517 (a6518 + 1) M6519 (by omega) hM6519
                            · refine j_aload_n C 0 0 dX11_hides_91 rfl rfl ?_
                              refine y_getC C 10 88 fX11_hides_94 rfl rfl ft_10_14 sm_10_14 rfl hM6519 dX11_hides_92 ?_
                              refine j_aload_n C 0 0 dX11_hides_95 rfl rfl ?_
                              refine y_getM C 10 6 fX11_hides_26 rfl rfl ft_10_4 sm_10_4 (by decide) hM6519 dX11_hides_96 (fun v6533 ev6533 cv6533 => ?_)
                              refine j_aload_n C 0 0 dX11_hides_99 rfl rfl ?_
                              refine y_getC C 10 12 fX11_hides_36 rfl rfl ft_10_6 sm_10_6 rfl hM6519 dX11_hides_100 ?_
                              refine j_aload_n C 0 0 dX11_hides_103 rfl rfl ?_
                              refine y_getC C 10 12 fX11_hides_36 rfl rfl ft_10_6 sm_10_6 rfl hM6519 dX11_hides_104 ?_
                              refine y_getI C 8 _ _ fX11_hides_153 rfl rfl ft_8_4 sb_8_4 hM6519 dX11_hides_107 (fun a6534 ea6534 la6534 ua6534 => ?_)
                              refine j_iload C 7 dX11_hides_110 rfl ?_
                              refine y_iorN C 8 255 dX11_hides_112 rfl (by decide) (by omega) (fun a6536 la6536 ua6536 => ?_)
                              refine j_callVv C (d := 5) (As := [.ref (ad v6533), .ref (ad 12), .int (sI a6536)]) (st := []) 88 (s_lt rfl rfl) (s_kc (c := 4) rfl rfl) (by decide) rfl (s1_X5_look hM6519 hpr cv6533 rfl a6536 (by omega)) gX11_hides_X5_look rfl hdX5_look (by decide) (Nat.le_of_ble_eq_true rfl) dX11_hides_113 rfl (fun M6538 h6539 => ?_)
                              have hM6538 := h6539
                              refine j_aload_n C 0 0 dX11_hides_116 rfl rfl ?_
                              refine y_getC C 10 88 fX11_hides_94 rfl rfl ft_10_14 sm_10_14 rfl hM6538 dX11_hides_117 ?_
                              refine j_iload_n C 2 2 dX11_hides_120 rfl rfl ?_
                              refine j_callVv C (d := 3) (As := [.int (sI a2)]) (st := []) 88 (s_lt rfl rfl) (s_kc (c := 4) rfl rfl) (by decide) rfl (s1_X5_passDays hM6538 hpr a2 (by omega)) gX11_hides_X5_passDays rfl hdX5_passDays (by decide) (Nat.le_of_ble_eq_true rfl) dX11_hides_121 rfl (fun M6542 h6543 => ?_)
                              have hM6542 := h6543
                              refine j_aload_n C 0 0 dX11_hides_124 rfl rfl ?_
                              refine y_getC C 10 88 fX11_hides_94 rfl rfl ft_10_14 sm_10_14 rfl hM6542 dX11_hides_125 ?_
                              refine j_callVj C (d := 1) (As := []) (st := []) 88 (s_lt rfl rfl) (s_kc (c := 4) rfl rfl) (by decide) rfl (s1_X5_openWays hM6542) gX11_hides_X5_openWays rfl hdX5_openWays (by decide) (Nat.le_of_ble_eq_true rfl) dX11_hides_128 rfl (fun r6545 M6546 h6547 => ?_)
                              obtain ⟨a6549, rfl, rfl, h6548⟩ := h6547
                              refine j_lstore C 9 [(9, .long (sJ a6549)), (0, .ref (ad 0)), (1, .int (sI a1)), (2, .int (sI a2)), (3, .int (sI a3)), (4, .int (sI a6516)), (5, .long (sJ a6517)), (7, .int (sI a5483)), (8, .int (sI a6518))] dX11_hides_131 (by decide) rfl ?_
                              refine j_lload C 0 dX11_hides_133 rfl ?_
                              refine j_lload C 6 dX11_hides_135 rfl ?_
                              have J6552 : ∀ (a6551 : Int), (0 ≤ a6551 ∧ a6551 ≤ 255) → jj p l e (cn_R 6) s m args below meth c 0 0 Q 11 dC dI ad cA A M6542 148 [(0, .ref (ad 0)), (1, .int (sI a1)), (2, .int (sI a2)), (3, .int (sI a3)), (5, .long (sJ a6517)), (7, .int (sI a5483)), (8, .int (sI a6518)), (9, .long (sJ a6549))] [.int (sI a6551)] := by
                                intro a6551 h6553
                                refine j_istore C 4 [(4, .int (sI a6551)), (0, .ref (ad 0)), (1, .int (sI a1)), (2, .int (sI a2)), (3, .int (sI a3)), (5, .long (sJ a6517)), (7, .int (sI a5483)), (8, .int (sI a6518)), (9, .long (sJ a6549))] dX11_hides_148 (by decide) rfl ?_
                                refine j_lload C 5 dX11_hides_150 rfl ?_
                                refine j_lload C 8 dX11_hides_152 rfl ?_
                                refine y_mmaxl C wX11_hides_330_0 wX11_hides_330_1 wX11_hides_330_2 wX11_hides_330_3 (by decide) (Nat.le_of_ble_eq_true rfl) dX11_hides_154 (fun a6554 la6554 ua6554 => ?_)
                                refine j_lstore C 5 [(5, .long (sJ a6554)), (4, .int (sI a6551)), (0, .ref (ad 0)), (1, .int (sI a1)), (2, .int (sI a2)), (3, .int (sI a3)), (7, .int (sI a5483)), (8, .int (sI a6518)), (9, .long (sJ a6549))] dX11_hides_157 (by decide) rfl ?_
                                refine y_iinc C 7 [(8, .int (sI (a6518 + 1))), (5, .long (sJ a6554)), (4, .int (sI a6551)), (0, .ref (ad 0)), (1, .int (sI a1)), (2, .int (sI a2)), (3, .int (sI a3)), (7, .int (sI a5483)), (9, .long (sJ a6549))] dX11_hides_159 rfl (by decide) rfl ?_
                                refine j_goto C 68 dX11_hides_162 (by decide) ?_
                                refine j_lv [3, 4, 5, 6, 2, 1, 7, 0] rfl ?_; exact ih6514 a6551 a6554 (a6518 + 1) M6542 (by omega) hM6542
                              refine y_lcmp_le C 146 dX11_hides_137 dX11_hides_138 (by decide) (by omega) (fun h6550 => ?_) (fun h6550 => ?_)
                              · refine j_iload C 5 dX11_hides_146 rfl ?_
                                refine j_lv [1, 2, 3, 4, 6, 7, 8, 0] rfl ?_; exact J6552 a6516 (by omega)
                              · refine j_iload C 8 dX11_hides_141 rfl ?_
                                refine j_goto C 148 dX11_hides_143 (by decide) ?_
                                refine j_lv [1, 2, 3, 4, 6, 7, 8, 0] rfl ?_; exact J6552 a6518 (by omega)
                      refine j_lv [1, 2, 3, 4, 5, 6, 7, 0] rfl ?_; exact L6515 2010 a5481 a5482 0 M5484 (by omega) hM5484
                refine j_lv [3, 4, 5, 6, 2, 1, 0] rfl ?_; exact L5480 2010 0 (-1) 0 M0 (by omega) hM0
              · refine y_bipush C dX11_hides_45 rfl ?_
                exact hret _ _ _ _ dX11_hides_47 ⟨(-5), rfl, hM0, by omega⟩
            · refine y_bipush C dX11_hides_32 rfl ?_
              exact hret _ _ _ _ dX11_hides_34 ⟨(-3), rfl, hM0, by omega⟩
    · refine y_bipush C dX11_hides_9 rfl ?_
      exact hret _ _ _ _ dX11_hides_11 ⟨(-2), rfl, hM0, by omega⟩
set_option maxHeartbeats 4000000 in
theorem s1_X5_takersNow {l : Launch} {dC : Nat → ClassId} {dI : Nat → Nat → Nat} {ad : Nat → Nat} {cA : Nat → ClassId} {pr : Nat → Nat → Bool} {Kz : mm_M} {M0 : mm_M} (hM0 : INV pr Kz M0)  : Ci l 1 yX5_takersNow wsX5_takersNow dC dI ad cA [.ref (ad 88)] M0 (fun r M' => ∃ a : Int, r = sI a ∧ M0 = M' ∧ 0 ≤ a ∧ a ≤ 63) := by
  refine ci_of (cc := cX5_takersNow) (maxL := 3) (ty := .int) (lv := [(0, .ref (ad 88))]) (by decide) rfl (fun r M' hp => rfl) (Nat.le_of_ble_eq_true rfl) rfl ?_
  intro p e s m args below meth c A Q C hret
  refine y_iconst C dX5_takersNow_0 ?_
  refine j_istore_n C 1 [(1, .int (sI 0)), (0, .ref (ad 88))] dX5_takersNow_1 rfl (by decide) rfl ?_
  refine y_iconst C dX5_takersNow_2 ?_
  refine j_istore_n C 2 [(2, .int (sI 0)), (1, .int (sI 0)), (0, .ref (ad 88))] dX5_takersNow_3 rfl (by decide) rfl ?_
  have L215 : ∀ (n213 : Nat), ∀ (a216 : Int) (a217 : Int), (0 ≤ a216 ∧ a216 ≤ 63 ∧ 0 ≤ a217 ∧ a217 ≤ 6 ∧ (6 - a217) < (n213 : Int)) → jj p l e (cn_R 1) s m args below meth c 0 0 Q 3 dC dI ad cA A M0 4 [(0, .ref (ad 88)), (1, .int (sI a216)), (2, .int (sI a217))] [] := by
    intro n213
    induction n213 with
    | zero =>
      intro a216 a217 h218
      exfalso; omega
    | succ n213 ih214 =>
      intro a216 a217 h218
      refine j_iload_n C 2 2 dX5_takersNow_4 rfl rfl ?_
      refine j_aload_n C 0 0 dX5_takersNow_5 rfl rfl ?_
      refine y_getM C 4 6 fX5_takersNow_52 rfl rfl ft_4_9 sm_4_9 (by decide) hM0 dX5_takersNow_6 (fun v219 ev219 cv219 => ?_)
      refine y_getI C 6 _ _ fX5_takersNow_92 cv219 rfl ft_6_0 sb_6_0 hM0 dX5_takersNow_9 (fun a220 ea220 la220 ua220 => ?_)
      refine y_icmp_ge C 39 dX5_takersNow_12 (by decide) (by omega) (fun h222 => ?_) (fun h222 => ?_)
      · refine j_iload_n C 1 1 dX5_takersNow_39 rfl rfl ?_
        exact hret _ _ _ _ dX5_takersNow_40 ⟨a216, rfl, rfl, by omega⟩
      · refine j_aload_n C 0 0 dX5_takersNow_15 rfl rfl ?_
        refine j_aload_n C 0 0 dX5_takersNow_16 rfl rfl ?_
        refine y_getI C 4 _ _ fX5_takersNow_45 rfl rfl ft_4_13 sb_4_13 hM0 dX5_takersNow_17 (fun a223 ea223 la223 ua223 => ?_)
        refine j_iload_n C 2 2 dX5_takersNow_20 rfl rfl ?_
        refine j_callVi C (d := 0) (As := [.int (sI a223), .int (sI a217)]) (st := []) 88 (s_lt rfl rfl) (s_kc (c := 4) rfl rfl) (by decide) rfl (s1_X5_pick hM0 a223 (by omega) a217 (by omega)) gX5_takersNow_X5_pick rfl hdX5_pick (by decide) (Nat.le_of_ble_eq_true rfl) dX5_takersNow_21 rfl (fun r225 M226 h227 => ?_)
        obtain ⟨a229, rfl, rfl, h228⟩ := h227
        refine y_if_lt C 33 dX5_takersNow_24 (by decide) (by omega) (fun h230 => ?_) (fun h230 => ?_)
        · refine y_iinc C 2 [(2, .int (sI (a217 + 1))), (0, .ref (ad 88)), (1, .int (sI a216))] dX5_takersNow_33 rfl (by decide) rfl ?_
          refine j_goto C 4 dX5_takersNow_36 (by decide) ?_
          refine j_lv [1, 2, 0] rfl ?_; exact ih214 a216 (a217 + 1) (by omega)
        · refine j_iload_n C 1 1 dX5_takersNow_27 rfl rfl ?_
          refine y_iconst C dX5_takersNow_28 ?_
          refine j_iload_n C 2 2 dX5_takersNow_29 rfl rfl ?_
          refine y_shl1 C 5 32 dX5_takersNow_30 rfl (by decide) (by omega) (fun a231 la231 ua231 => ?_)
          refine y_iorN C 6 63 dX5_takersNow_31 rfl (by decide) (by omega) (fun a232 la232 ua232 => ?_)
          refine j_istore_n C 1 [(1, .int (sI a232)), (0, .ref (ad 88)), (2, .int (sI a217))] dX5_takersNow_32 rfl (by decide) rfl ?_
          refine y_iinc C 2 [(2, .int (sI (a217 + 1))), (1, .int (sI a232)), (0, .ref (ad 88))] dX5_takersNow_33 rfl (by decide) rfl ?_
          refine j_goto C 4 dX5_takersNow_36 (by decide) ?_
          refine j_lv [2, 1, 0] rfl ?_; exact ih214 a232 (a217 + 1) (by omega)
  refine j_lv [2, 1, 0] rfl ?_; exact L215 2010 0 0 (by omega)
set_option maxHeartbeats 4000000 in
theorem s1_X11_rota {l : Launch} {dC : Nat → ClassId} {dI : Nat → Nat → Nat} {ad : Nat → Nat} {cA : Nat → ClassId} {pr : Nat → Nat → Bool} {Kz : mm_M} {M0 : mm_M} (hM0 : INV pr Kz M0) (hpr : PX pr) (a1 : Int) (ha1 : -2147483648 ≤ a1 ∧ a1 ≤ 2147483647) : Ci l 6 yX11_rota wsX11_rota dC dI ad cA [.ref (ad 0), .int (sI a1)] M0 (fun r M' => ∃ a : Int, r = sI a ∧ INV pr Kz M' ∧ (-5) ≤ a ∧ a ≤ 255) := by
  refine ci_of (cc := cX11_rota) (maxL := 5) (ty := .int) (lv := [(0, .ref (ad 0)), (1, .int (sI a1))]) (by decide) rfl (fun r M' hp => rfl) (Nat.le_of_ble_eq_true rfl) rfl ?_
  intro p e s m args below meth c A Q C hret
  refine j_iload_n C 1 1 dX11_rota_0 rfl rfl ?_
  refine y_if_lt C 9 dX11_rota_1 (by decide) (by omega) (fun h101 => ?_) (fun h101 => ?_)
  · refine y_bipush C dX11_rota_9 rfl ?_
    exact hret _ _ _ _ dX11_rota_11 ⟨(-2), rfl, hM0, by omega⟩
  · refine j_iload_n C 1 1 dX11_rota_4 rfl rfl ?_
    refine y_iconst C dX11_rota_5 ?_
    refine y_icmp_le C 12 dX11_rota_6 (by decide) (by omega) (fun h102 => ?_) (fun h102 => ?_)
    · refine j_aload_n C 0 0 dX11_rota_12 rfl rfl ?_
      refine y_getC C 10 12 fX11_rota_36 rfl rfl ft_10_6 sm_10_6 rfl hM0 dX11_rota_13 ?_
      refine j_callVi C (d := 1) (As := []) (st := []) 12 (s_lt rfl rfl) (s_kc (c := 8) rfl rfl) (by decide) rfl (s1_X9_isShut hM0 rfl) gX11_rota_X9_isShut rfl hdX9_isShut (by decide) (Nat.le_of_ble_eq_true rfl) dX11_rota_16 rfl (fun r103 M104 h105 => ?_)
      obtain ⟨a107, rfl, rfl, h106⟩ := h105
      refine y_if_eq C 25 dX11_rota_19 (by decide) (by omega) (fun h108 => ?_) (fun h108 => ?_)
      · refine j_aload_n C 0 0 dX11_rota_25 rfl rfl ?_
        refine y_getC C 10 88 fX11_rota_94 rfl rfl ft_10_14 sm_10_14 rfl hM0 dX11_rota_26 ?_
        refine j_aload_n C 0 0 dX11_rota_29 rfl rfl ?_
        refine y_getM C 10 6 fX11_rota_26 rfl rfl ft_10_4 sm_10_4 (by decide) hM0 dX11_rota_30 (fun v109 ev109 cv109 => ?_)
        refine j_aload_n C 0 0 dX11_rota_33 rfl rfl ?_
        refine y_getC C 10 12 fX11_rota_36 rfl rfl ft_10_6 sm_10_6 rfl hM0 dX11_rota_34 ?_
        refine j_aload_n C 0 0 dX11_rota_37 rfl rfl ?_
        refine y_getC C 10 12 fX11_rota_36 rfl rfl ft_10_6 sm_10_6 rfl hM0 dX11_rota_38 ?_
        refine y_getI C 8 _ _ fX11_rota_153 rfl rfl ft_8_4 sb_8_4 hM0 dX11_rota_41 (fun a110 ea110 la110 ua110 => ?_)
        refine j_callVv C (d := 5) (As := [.ref (ad v109), .ref (ad 12), .int (sI a110)]) (st := []) 88 (s_lt rfl rfl) (s_kc (c := 4) rfl rfl) (by decide) rfl (s1_X5_look hM0 hpr cv109 rfl a110 (by omega)) gX11_rota_X5_look rfl hdX5_look (by decide) (Nat.le_of_ble_eq_true rfl) dX11_rota_44 rfl (fun M113 h114 => ?_)
        have hM113 := h114
        refine j_aload_n C 0 0 dX11_rota_47 rfl rfl ?_
        refine y_getC C 10 88 fX11_rota_94 rfl rfl ft_10_14 sm_10_14 rfl hM113 dX11_rota_48 ?_
        refine j_callVi C (d := 1) (As := []) (st := []) 88 (s_lt rfl rfl) (s_kc (c := 4) rfl rfl) (by decide) rfl (s1_X5_takersNow hM113) gX11_rota_X5_takersNow rfl hdX5_takersNow (by decide) (Nat.le_of_ble_eq_true rfl) dX11_rota_51 rfl (fun r116 M117 h118 => ?_)
        obtain ⟨a120, rfl, rfl, h119⟩ := h118
        refine j_istore_n C 2 [(2, .int (sI a120)), (0, .ref (ad 0)), (1, .int (sI a1))] dX11_rota_54 rfl (by decide) rfl ?_
        refine y_iconst C dX11_rota_55 ?_
        refine j_istore_n C 3 [(3, .int (sI 0)), (2, .int (sI a120)), (0, .ref (ad 0)), (1, .int (sI a1))] dX11_rota_56 rfl (by decide) rfl ?_
        have L10293 : ∀ (n10291 : Nat), ∀ (a10294 : Int) (M10295 : mm_M), (0 ≤ a10294 ∧ a10294 ≤ 9 ∧ (9 - a10294) < (n10291 : Int)) → INV pr Kz M10295 → jj p l e (cn_R 6) s m args below meth c 0 0 Q 5 dC dI ad cA A M10295 57 [(0, .ref (ad 0)), (1, .int (sI a1)), (2, .int (sI a120)), (3, .int (sI a10294))] [] := by
          intro n10291
          induction n10291 with
          | zero =>
            intro a10294 M10295 h10296 hM10295
            exfalso; omega
          | succ n10291 ih10292 =>
            intro a10294 M10295 h10296 hM10295
            refine j_iload_n C 3 3 dX11_rota_57 rfl rfl ?_
            refine j_aload_n C 0 0 dX11_rota_58 rfl rfl ?_
            refine y_getC C 10 12 fX11_rota_36 rfl rfl ft_10_6 sm_10_6 rfl hM10295 dX11_rota_59 ?_
            refine y_getI C 8 _ _ fX11_rota_160 rfl rfl ft_8_0 sb_8_0 hM10295 dX11_rota_62 (fun a10297 ea10297 la10297 ua10297 => ?_)
            refine y_icmp_gt C 166 dX11_rota_65 (by decide) (by omega) (fun h10299 => ?_) (fun h10299 => ?_)
            · refine y_iconst C dX11_rota_166 ?_
              exact hret _ _ _ _ dX11_rota_167 ⟨(-1), rfl, hM10295, by omega⟩
            · refine y_iconst C dX11_rota_68 ?_
              refine j_istore C 4 [(4, .int (sI 0)), (0, .ref (ad 0)), (1, .int (sI a1)), (2, .int (sI a120)), (3, .int (sI a10294))] dX11_rota_69 (by decide) rfl ?_
              have L11274 : ∀ (n11272 : Nat), ∀ (a11275 : Int) (M11276 : mm_M), (0 ≤ a11275 ∧ a11275 ≤ 256 ∧ (256 - a11275) < (n11272 : Int)) → INV pr Kz M11276 → jj p l e (cn_R 6) s m args below meth c 0 0 Q 5 dC dI ad cA A M11276 71 [(0, .ref (ad 0)), (1, .int (sI a1)), (2, .int (sI a120)), (3, .int (sI a10294)), (4, .int (sI a11275))] [] := by
                intro n11272
                induction n11272 with
                | zero =>
                  intro a11275 M11276 h11277 hM11276
                  exfalso; omega
                | succ n11272 ih11273 =>
                  intro a11275 M11276 h11277 hM11276
                  refine j_iload C 4 dX11_rota_71 rfl ?_
                  refine j_aload_n C 0 0 dX11_rota_73 rfl rfl ?_
                  refine y_getC C 10 12 fX11_rota_36 rfl rfl ft_10_6 sm_10_6 rfl hM11276 dX11_rota_74 ?_
                  refine j_callVi C (d := 0) (As := []) (st := [.int (sI a11275)]) 12 (s_lt rfl rfl) (s_kc (c := 8) rfl rfl) (by decide) rfl (s1_X9_everyKind hM11276 rfl) gX11_rota_X9_everyKind rfl hdX9_everyKind (by decide) (Nat.le_of_ble_eq_true rfl) dX11_rota_77 rfl (fun r11278 M11279 h11280 => ?_)
                  obtain ⟨a11282, rfl, rfl, h11281⟩ := h11280
                  refine y_icmp_gt C 160 dX11_rota_80 (by decide) (by omega) (fun h11283 => ?_) (fun h11283 => ?_)
                  · refine y_iinc C 3 [(3, .int (sI (a10294 + 1))), (0, .ref (ad 0)), (1, .int (sI a1)), (2, .int (sI a120)), (4, .int (sI a11275))] dX11_rota_160 rfl (by decide) rfl ?_
                    refine j_goto C 57 dX11_rota_163 (by decide) ?_
                    refine j_lv [1, 2, 3, 0] rfl ?_; exact ih10292 (a10294 + 1) M11276 (by omega) hM11276
                  · refine j_aload_n C 0 0 dX11_rota_83 rfl rfl ?_
                    refine j_iload C 4 dX11_rota_84 rfl ?_
                    refine j_iload_n C 3 3 dX11_rota_86 rfl rfl ?_
                    refine j_callVi C (d := 1) (As := [.int (sI a11275), .int (sI a10294)]) (st := []) 0 (s_lt rfl rfl) (s_kc (c := 10) rfl rfl) (by decide) rfl (s1_X11_isHideable hM11276 a11275 (by omega) a10294 (by omega)) gX11_rota_X11_isHideable rfl hdX11_isHideable (by decide) (Nat.le_of_ble_eq_true rfl) dX11_rota_87 rfl (fun r11284 M11285 h11286 => ?_)
                    obtain ⟨a11288, rfl, rfl, h11287⟩ := h11286
                    refine y_if_eq C 154 dX11_rota_90 (by decide) (by omega) (fun h11289 => ?_) (fun h11289 => ?_)
                    · refine y_iinc C 4 [(4, .int (sI (a11275 + 1))), (0, .ref (ad 0)), (1, .int (sI a1)), (2, .int (sI a120)), (3, .int (sI a10294))] dX11_rota_154 rfl (by decide) rfl ?_
                      refine j_goto C 71 dX11_rota_157 (by decide) ?_
                      refine j_lv [1, 2, 3, 4, 0] rfl ?_; exact ih11273 (a11275 + 1) M11276 (by omega) hM11276
                    · refine j_aload_n C 0 0 dX11_rota_93 rfl rfl ?_
                      refine y_getC C 10 88 fX11_rota_94 rfl rfl ft_10_14 sm_10_14 rfl hM11276 dX11_rota_94 ?_
                      refine j_aload_n C 0 0 dX11_rota_97 rfl rfl ?_
                      refine y_getM C 10 6 fX11_rota_26 rfl rfl ft_10_4 sm_10_4 (by decide) hM11276 dX11_rota_98 (fun v11290 ev11290 cv11290 => ?_)
                      refine j_aload_n C 0 0 dX11_rota_101 rfl rfl ?_
                      refine y_getC C 10 12 fX11_rota_36 rfl rfl ft_10_6 sm_10_6 rfl hM11276 dX11_rota_102 ?_
                      refine j_aload_n C 0 0 dX11_rota_105 rfl rfl ?_
                      refine y_getC C 10 12 fX11_rota_36 rfl rfl ft_10_6 sm_10_6 rfl hM11276 dX11_rota_106 ?_
                      refine y_getI C 8 _ _ fX11_rota_153 rfl rfl ft_8_4 sb_8_4 hM11276 dX11_rota_109 (fun a11291 ea11291 la11291 ua11291 => ?_)
                      refine j_iload C 4 dX11_rota_112 rfl ?_
                      refine y_iorN C 8 255 dX11_rota_114 rfl (by decide) (by omega) (fun a11293 la11293 ua11293 => ?_)
                      refine j_callVv C (d := 5) (As := [.ref (ad v11290), .ref (ad 12), .int (sI a11293)]) (st := []) 88 (s_lt rfl rfl) (s_kc (c := 4) rfl rfl) (by decide) rfl (s1_X5_look hM11276 hpr cv11290 rfl a11293 (by omega)) gX11_rota_X5_look rfl hdX5_look (by decide) (Nat.le_of_ble_eq_true rfl) dX11_rota_115 rfl (fun M11295 h11296 => ?_)
                      have hM11295 := h11296
                      refine j_iload_n C 2 2 dX11_rota_118 rfl rfl ?_
                      refine j_aload_n C 0 0 dX11_rota_119 rfl rfl ?_
                      refine y_getC C 10 88 fX11_rota_94 rfl rfl ft_10_14 sm_10_14 rfl hM11295 dX11_rota_120 ?_
                      refine j_callVi C (d := 1) (As := []) (st := [.int (sI a120)]) 88 (s_lt rfl rfl) (s_kc (c := 4) rfl rfl) (by decide) rfl (s1_X5_takersNow hM11295) gX11_rota_X5_takersNow rfl hdX5_takersNow (by decide) (Nat.le_of_ble_eq_true rfl) dX11_rota_123 rfl (fun r11298 M11299 h11300 => ?_)
                      obtain ⟨a11302, rfl, rfl, h11301⟩ := h11300
                      refine y_iconst C dX11_rota_126 ?_
                      refine y_not C dX11_rota_127 ?_
                      refine y_iandL C dX11_rota_128 (by omega) (fun a11303 la11303 ua11303 => ?_)
                      refine y_if_ne C 154 dX11_rota_129 (by decide) (by omega) (fun h11304 => ?_) (fun h11304 => ?_)
                      · refine y_iinc C 4 [(4, .int (sI (a11275 + 1))), (0, .ref (ad 0)), (1, .int (sI a1)), (2, .int (sI a120)), (3, .int (sI a10294))] dX11_rota_154 rfl (by decide) rfl ?_
                        refine j_goto C 71 dX11_rota_157 (by decide) ?_
                        refine j_lv [1, 2, 3, 4, 0] rfl ?_; exact ih11273 (a11275 + 1) M11295 (by omega) hM11295
                      · refine j_aload_n C 0 0 dX11_rota_132 rfl rfl ?_
                        refine y_getC C 10 88 fX11_rota_94 rfl rfl ft_10_14 sm_10_14 rfl hM11295 dX11_rota_133 ?_
                        refine j_callVi C (d := 3) (As := []) (st := []) 88 (s_lt rfl rfl) (s_kc (c := 4) rfl rfl) (by decide) rfl (s1_X5_shortest hM11295 hpr) gX11_rota_X5_shortest rfl hdX5_shortest (by decide) (Nat.le_of_ble_eq_true rfl) dX11_rota_136 rfl (fun r11305 M11306 h11307 => ?_)
                        obtain ⟨a11309, rfl, hM11306, h11308⟩ := h11307
                        refine y_iconst C dX11_rota_139 ?_
                        refine y_icmp_ne C 154 dX11_rota_140 (by decide) (by omega) (fun h11310 => ?_) (fun h11310 => ?_)
                        · refine y_iinc C 4 [(4, .int (sI (a11275 + 1))), (0, .ref (ad 0)), (1, .int (sI a1)), (2, .int (sI a120)), (3, .int (sI a10294))] dX11_rota_154 rfl (by decide) rfl ?_
                          refine j_goto C 71 dX11_rota_157 (by decide) ?_
                          refine j_lv [1, 2, 3, 4, 0] rfl ?_; exact ih11273 (a11275 + 1) M11306 (by omega) hM11306
                        · refine j_iload_n C 1 1 dX11_rota_143 rfl rfl ?_
                          refine y_if_ne C 151 dX11_rota_144 (by decide) (by omega) (fun h11311 => ?_) (fun h11311 => ?_)
                          · refine j_iload C 4 dX11_rota_151 rfl ?_
                            exact hret _ _ _ _ dX11_rota_153 ⟨a11275, rfl, hM11306, by omega⟩
                          · refine j_iload_n C 3 3 dX11_rota_147 rfl rfl ?_
                            refine j_goto C 153 dX11_rota_148 (by decide) ?_
                            exact hret _ _ _ _ dX11_rota_153 ⟨a10294, rfl, hM11306, by omega⟩
              refine j_lv [1, 2, 3, 4, 0] rfl ?_; exact L11274 2010 0 M10295 (by omega) hM10295
        refine j_lv [2, 3, 1, 0] rfl ?_; exact L10293 2010 0 M113 (by omega) hM113
      · refine y_bipush C dX11_rota_22 rfl ?_
        exact hret _ _ _ _ dX11_rota_24 ⟨(-5), rfl, hM0, by omega⟩
    · refine y_bipush C dX11_rota_9 rfl ?_
      exact hret _ _ _ _ dX11_rota_11 ⟨(-2), rfl, hM0, by omega⟩
set_option maxHeartbeats 4000000 in
theorem s1_X11_earns {l : Launch} {dC : Nat → ClassId} {dI : Nat → Nat → Nat} {ad : Nat → Nat} {cA : Nat → ClassId} {pr : Nat → Nat → Bool} {Kz : mm_M} {M0 : mm_M} (hM0 : INV pr Kz M0) (hpr : PX pr) (a1 : Int) (ha1 : -2147483648 ≤ a1 ∧ a1 ≤ 2147483647) (a2 : Int) (ha2 : -2147483648 ≤ a2 ∧ a2 ≤ 2147483647) : Cj l 6 yX11_earns wsX11_earns dC dI ad cA [.ref (ad 0), .int (sI a1), .int (sI a2)] M0 (fun r M' => ∃ a : Int, r = sJ a ∧ INV pr Kz M' ∧ (-9223372036854775808) ≤ a ∧ a ≤ 9223372036854775807) := by
  refine cj_of (cc := cX11_earns) (maxL := 4) (lv := [(0, .ref (ad 0)), (1, .int (sI a1)), (2, .int (sI a2))]) (by decide) rfl (Nat.le_of_ble_eq_true rfl) rfl ?_
  intro p e s m args below meth c A Q C hret
  refine j_iload_n C 2 2 dX11_earns_0 rfl rfl ?_
  refine j_iload_n C 1 1 dX11_earns_1 rfl rfl ?_
  refine y_bipush C dX11_earns_2 rfl ?_
  refine j_callSi C (d := 0) (As := [.int (sI a2), .int (sI a1), .int (sI 8)]) (st := []) (s1_X11_chanceRefusal hM0 a2 (by omega) a1 (by omega) 8 (by omega)) gX11_earns_X11_chanceRefusal rfl hdX11_chanceRefusals (by decide) (Nat.le_of_ble_eq_true rfl) dX11_earns_4 rfl (fun r101 M102 h103 => ?_)
  obtain ⟨a105, rfl, rfl, h104⟩ := h103
  refine j_istore_n C 3 [(3, .int (sI a105)), (0, .ref (ad 0)), (1, .int (sI a1)), (2, .int (sI a2))] dX11_earns_7 rfl (by decide) rfl ?_
  refine j_iload_n C 0 3 dX11_earns_8 rfl rfl ?_
  refine y_if_eq C 15 dX11_earns_9 (by decide) (by omega) (fun h106 => ?_) (fun h106 => ?_)
  · refine j_aload_n C 1 0 dX11_earns_15 rfl rfl ?_
    refine y_getC C 10 88 fX11_earns_94 rfl rfl ft_10_14 sm_10_14 rfl hM0 dX11_earns_16 ?_
    refine j_aload_n C 1 0 dX11_earns_19 rfl rfl ?_
    refine y_getM C 10 6 fX11_earns_26 rfl rfl ft_10_4 sm_10_4 (by decide) hM0 dX11_earns_20 (fun v107 ev107 cv107 => ?_)
    refine j_aload_n C 1 0 dX11_earns_23 rfl rfl ?_
    refine y_getC C 10 12 fX11_earns_36 rfl rfl ft_10_6 sm_10_6 rfl hM0 dX11_earns_24 ?_
    refine j_aload_n C 1 0 dX11_earns_27 rfl rfl ?_
    refine y_getC C 10 12 fX11_earns_36 rfl rfl ft_10_6 sm_10_6 rfl hM0 dX11_earns_28 ?_
    refine y_getI C 8 _ _ fX11_earns_153 rfl rfl ft_8_4 sb_8_4 hM0 dX11_earns_31 (fun a108 ea108 la108 ua108 => ?_)
    refine j_callVv C (d := 5) (As := [.ref (ad v107), .ref (ad 12), .int (sI a108)]) (st := []) 88 (s_lt rfl rfl) (s_kc (c := 4) rfl rfl) (by decide) rfl (s1_X5_look hM0 hpr cv107 rfl a108 (by omega)) gX11_earns_X5_look rfl hdX5_look (by decide) (Nat.le_of_ble_eq_true rfl) dX11_earns_34 rfl (fun M111 h112 => ?_)
    have hM111 := h112
    refine j_aload_n C 1 0 dX11_earns_37 rfl rfl ?_
    refine y_getC C 10 88 fX11_earns_94 rfl rfl ft_10_14 sm_10_14 rfl hM111 dX11_earns_38 ?_
    refine j_iload_n C 2 1 dX11_earns_41 rfl rfl ?_
    refine j_callVv C (d := 3) (As := [.int (sI a1)]) (st := []) 88 (s_lt rfl rfl) (s_kc (c := 4) rfl rfl) (by decide) rfl (s1_X5_passDays hM111 hpr a1 (by omega)) gX11_earns_X5_passDays rfl hdX5_passDays (by decide) (Nat.le_of_ble_eq_true rfl) dX11_earns_42 rfl (fun M115 h116 => ?_)
    have hM115 := h116
    refine j_aload_n C 1 0 dX11_earns_45 rfl rfl ?_
    refine y_getC C 10 88 fX11_earns_94 rfl rfl ft_10_14 sm_10_14 rfl hM115 dX11_earns_46 ?_
    refine y_getJ C 4 fX11_earns_341 rfl rfl ft_4_8 dX11_earns_49 (fun a118 ea118 la118 ua118 => ?_)
    refine j_aload_n C 1 0 dX11_earns_52 rfl rfl ?_
    refine y_getC C 10 88 fX11_earns_94 rfl rfl ft_10_14 sm_10_14 rfl hM115 dX11_earns_53 ?_
    refine y_getJ C 4 fX11_earns_296 rfl rfl ft_4_7 dX11_earns_56 (fun a119 ea119 la119 ua119 => ?_)
    refine j_iload_n C 3 2 dX11_earns_59 rfl rfl ?_
    refine j_callSj C (d := 1) (As := [.long (sJ a118), .long (sJ a119), .int (sI a2)]) (st := []) (s1_X11_inLowestTerms hM115 a118 (by omega) a119 (by omega) a2 (by omega)) gX11_earns_X11_inLowestTerms rfl hdX11_inLowestTermss (by decide) (Nat.le_of_ble_eq_true rfl) dX11_earns_60 rfl (fun r120 M121 h122 => ?_)
    obtain ⟨a124, rfl, rfl, h123⟩ := h122
    exact hret _ _ _ _ dX11_earns_63 ⟨a124, rfl, hM115, by omega⟩
  · refine j_iload_n C 0 3 dX11_earns_12 rfl rfl ?_
    refine y_i2l C dX11_earns_13 (by omega) ?_
    exact hret _ _ _ _ dX11_earns_14 ⟨a105, rfl, hM0, by omega⟩
set_option maxHeartbeats 4000000 in
theorem s1_X11_bestPrice {l : Launch} {dC : Nat → ClassId} {dI : Nat → Nat → Nat} {ad : Nat → Nat} {cA : Nat → ClassId} {pr : Nat → Nat → Bool} {Kz : mm_M} {M0 : mm_M} (hM0 : INV pr Kz M0) (hpr : PX pr) (hq8_0 : ∀ i, s_c i = 8 → pr i 0 = false) (a1 : Int) (ha1 : -2147483648 ≤ a1 ∧ a1 ≤ 2147483647) (a2 : Int) (ha2 : -2147483648 ≤ a2 ∧ a2 ≤ 2147483647) : Ci l 6 yX11_bestPrice wsX11_bestPrice dC dI ad cA [.ref (ad 0), .int (sI a1), .int (sI a2)] M0 (fun r M' => ∃ a : Int, r = sI a ∧ INV pr Kz M' ∧ (-5) ≤ a ∧ a ≤ 99) := by
  refine ci_of (cc := cX11_bestPrice) (maxL := 7) (ty := .int) (lv := [(0, .ref (ad 0)), (1, .int (sI a1)), (2, .int (sI a2))]) (by decide) rfl (fun r M' hp => rfl) (Nat.le_of_ble_eq_true rfl) rfl ?_
  intro p e s m args below meth c A Q C hret
  refine j_aload_n C 0 0 dX11_bestPrice_0 rfl rfl ?_
  refine j_iload_n C 1 1 dX11_bestPrice_1 rfl rfl ?_
  refine j_callVi C (d := 0) (As := [.int (sI a1)]) (st := []) 0 (s_lt rfl rfl) (s_kc (c := 10) rfl rfl) (by decide) rfl (s1_X11_isKind hM0 a1 (by omega)) gX11_bestPrice_X11_isKind rfl hdX11_isKind (by decide) (Nat.le_of_ble_eq_true rfl) dX11_bestPrice_2 rfl (fun r101 M102 h103 => ?_)
  obtain ⟨a105, rfl, rfl, h104⟩ := h103
  refine y_if_ne C 11 dX11_bestPrice_5 (by decide) (by omega) (fun h106 => ?_) (fun h106 => ?_)
  · refine j_iload_n C 2 2 dX11_bestPrice_11 rfl rfl ?_
    refine y_iconst C dX11_bestPrice_12 ?_
    refine y_icmp_lt C 21 dX11_bestPrice_13 (by decide) (by omega) (fun h107 => ?_) (fun h107 => ?_)
    · refine y_bipush C dX11_bestPrice_21 rfl ?_
      exact hret _ _ _ _ dX11_bestPrice_23 ⟨(-3), rfl, hM0, by omega⟩
    · refine j_iload_n C 2 2 dX11_bestPrice_16 rfl rfl ?_
      refine y_iconst C dX11_bestPrice_17 ?_
      refine y_icmp_le C 24 dX11_bestPrice_18 (by decide) (by omega) (fun h108 => ?_) (fun h108 => ?_)
      · refine j_aload_n C 0 0 dX11_bestPrice_24 rfl rfl ?_
        refine y_getC C 10 12 fX11_bestPrice_36 rfl rfl ft_10_6 sm_10_6 rfl hM0 dX11_bestPrice_25 ?_
        refine j_callVi C (d := 1) (As := []) (st := []) 12 (s_lt rfl rfl) (s_kc (c := 8) rfl rfl) (by decide) rfl (s1_X9_isShut hM0 rfl) gX11_bestPrice_X9_isShut rfl hdX9_isShut (by decide) (Nat.le_of_ble_eq_true rfl) dX11_bestPrice_28 rfl (fun r109 M110 h111 => ?_)
        obtain ⟨a113, rfl, rfl, h112⟩ := h111
        refine y_if_eq C 37 dX11_bestPrice_31 (by decide) (by omega) (fun h114 => ?_) (fun h114 => ?_)
        · refine j_aload_n C 0 0 dX11_bestPrice_37 rfl rfl ?_
          refine y_getC C 10 15 fX11_bestPrice_40 rfl rfl ft_10_7 sm_10_7 rfl hM0 dX11_bestPrice_38 ?_
          refine j_aload_n C 0 0 dX11_bestPrice_41 rfl rfl ?_
          refine y_getC C 10 12 fX11_bestPrice_36 rfl rfl ft_10_6 sm_10_6 rfl hM0 dX11_bestPrice_42 ?_
          refine j_callVv C (d := 0) (As := [.ref (ad 12)]) (st := []) 15 (s_lt rfl rfl) (s_kc (c := 8) rfl rfl) (by decide) rfl (s1_X9_copyFrom hM0 hpr hq8_0 rfl rfl) gX11_bestPrice_X9_copyFrom rfl hdX9_copyFrom (by decide) (Nat.le_of_ble_eq_true rfl) dX11_bestPrice_45 rfl (fun M116 h117 => ?_)
          have hM116 := h117
          refine y_iconst C dX11_bestPrice_48 ?_
          refine j_istore_n C 3 [(3, .int (sI 1)), (0, .ref (ad 0)), (1, .int (sI a1)), (2, .int (sI a2))] dX11_bestPrice_49 rfl (by decide) rfl ?_
          refine y_ldc2 C (-1) dX11_bestPrice_50 kX11_bestPrice_219 rfl ?_
          refine j_lstore C 4 [(4, .long (sJ (-1))), (3, .int (sI 1)), (0, .ref (ad 0)), (1, .int (sI a1)), (2, .int (sI a2))] dX11_bestPrice_53 (by decide) rfl ?_
          refine y_iconst C dX11_bestPrice_55 ?_
          refine j_istore C 6 [(6, .int (sI 1)), (4, .long (sJ (-1))), (3, .int (sI 1)), (0, .ref (ad 0)), (1, .int (sI a1)), (2, .int (sI a2))] dX11_bestPrice_56 (by decide) rfl ?_
          have L649 : ∀ (n647 : Nat), ∀ (a650 : Int) (a651 : Int) (a652 : Int) (M653 : mm_M), (1 ≤ a650 ∧ a650 ≤ 99 ∧ (-9223372036854775808) ≤ a651 ∧ a651 ≤ 9223372036854775807 ∧ 1 ≤ a652 ∧ a652 ≤ 100 ∧ (100 - a652) < (n647 : Int)) → INV pr Kz M653 → jj p l e (cn_R 6) s m args below meth c 0 0 Q 7 dC dI ad cA A M653 58 [(0, .ref (ad 0)), (1, .int (sI a1)), (2, .int (sI a2)), (3, .int (sI a650)), (4, .long (sJ a651)), (6, .int (sI a652))] [] := by
            intro n647
            induction n647 with
            | zero =>
              intro a650 a651 a652 M653 h654 hM653
              exfalso; omega
            | succ n647 ih648 =>
              intro a650 a651 a652 M653 h654 hM653
              refine j_iload C 5 dX11_bestPrice_58 rfl ?_
              refine y_bipush C dX11_bestPrice_60 rfl ?_
              refine y_icmp_gt C 146 dX11_bestPrice_62 (by decide) (by omega) (fun h655 => ?_) (fun h655 => ?_)
              · refine j_iload_n C 3 3 dX11_bestPrice_146 rfl rfl ?_
                exact hret _ _ _ _ dX11_bestPrice_147 ⟨a650, rfl, hM653, by omega⟩
              · refine j_aload_n C 0 0 dX11_bestPrice_65 rfl rfl ?_
                refine y_getC C 10 15 fX11_bestPrice_40 rfl rfl ft_10_7 sm_10_7 rfl hM653 dX11_bestPrice_66 ?_
                refine y_getC C 8 16 fX11_bestPrice_144 rfl rfl ft_8_1 sm_8_1 rfl hM653 dX11_bestPrice_69 ?_
                refine j_iload_n C 1 1 dX11_bestPrice_72 rfl rfl ?_
                refine j_iload C 5 dX11_bestPrice_73 rfl ?_
                refine y_iastF C 25 8 rfl rfl rfl ak_25 an_25 rfl (sb_25 _) hM653 (PX.w hpr rfl rfl) dX11_bestPrice_75 (by omega) (fun M656 eM656 hM656 => ?_)
                refine j_aload_n C 0 0 dX11_bestPrice_76 rfl rfl ?_
                refine y_getC C 10 88 fX11_bestPrice_94 rfl rfl ft_10_14 sm_10_14 rfl hM656 dX11_bestPrice_77 ?_
                refine j_aload_n C 0 0 dX11_bestPrice_80 rfl rfl ?_
                refine y_getM C 10 6 fX11_bestPrice_26 rfl rfl ft_10_4 sm_10_4 (by decide) hM656 dX11_bestPrice_81 (fun v657 ev657 cv657 => ?_)
                refine j_aload_n C 0 0 dX11_bestPrice_84 rfl rfl ?_
                refine y_getC C 10 15 fX11_bestPrice_40 rfl rfl ft_10_7 sm_10_7 rfl hM656 dX11_bestPrice_85 ?_
                refine j_aload_n C 0 0 dX11_bestPrice_88 rfl rfl ?_
                refine y_getC C 10 15 fX11_bestPrice_40 rfl rfl ft_10_7 sm_10_7 rfl hM656 dX11_bestPrice_89 ?_
                refine y_getI C 8 _ _ fX11_bestPrice_153 rfl rfl ft_8_4 sb_8_4 hM656 dX11_bestPrice_92 (fun a658 ea658 la658 ua658 => ?_)
                refine j_callVv C (d := 5) (As := [.ref (ad v657), .ref (ad 15), .int (sI a658)]) (st := []) 88 (s_lt rfl rfl) (s_kc (c := 4) rfl rfl) (by decide) rfl (s1_X5_look hM656 hpr cv657 rfl a658 (by omega)) gX11_bestPrice_X5_look rfl hdX5_look (by decide) (Nat.le_of_ble_eq_true rfl) dX11_bestPrice_95 rfl (fun M661 h662 => ?_)
                have hM661 := h662
                refine j_aload_n C 0 0 dX11_bestPrice_98 rfl rfl ?_
                refine y_getC C 10 88 fX11_bestPrice_94 rfl rfl ft_10_14 sm_10_14 rfl hM661 dX11_bestPrice_99 ?_
                refine j_iload_n C 2 2 dX11_bestPrice_102 rfl rfl ?_
                refine j_callVv C (d := 3) (As := [.int (sI a2)]) (st := []) 88 (s_lt rfl rfl) (s_kc (c := 4) rfl rfl) (by decide) rfl (s1_X5_passDays hM661 hpr a2 (by omega)) gX11_bestPrice_X5_passDays rfl hdX5_passDays (by decide) (Nat.le_of_ble_eq_true rfl) dX11_bestPrice_103 rfl (fun M665 h666 => ?_)
                have hM665 := h666
                refine j_aload_n C 0 0 dX11_bestPrice_106 rfl rfl ?_
                refine y_getC C 10 88 fX11_bestPrice_94 rfl rfl ft_10_14 sm_10_14 rfl hM665 dX11_bestPrice_107 ?_
                refine y_getJ C 4 fX11_bestPrice_341 rfl rfl ft_4_8 dX11_bestPrice_110 (fun a668 ea668 la668 ua668 => ?_)
                refine j_lload C 4 dX11_bestPrice_113 rfl ?_
                have J671 : ∀ (a670 : Int), (1 ≤ a670 ∧ a670 ≤ 99) → jj p l e (cn_R 6) s m args below meth c 0 0 Q 7 dC dI ad cA A M665 125 [(0, .ref (ad 0)), (1, .int (sI a1)), (2, .int (sI a2)), (4, .long (sJ a651)), (6, .int (sI a652))] [.int (sI a670)] := by
                  intro a670 h672
                  refine j_istore_n C 3 [(3, .int (sI a670)), (0, .ref (ad 0)), (1, .int (sI a1)), (2, .int (sI a2)), (4, .long (sJ a651)), (6, .int (sI a652))] dX11_bestPrice_125 rfl (by decide) rfl ?_
                  refine j_lload C 4 dX11_bestPrice_126 rfl ?_
                  refine j_aload_n C 1 0 dX11_bestPrice_128 rfl rfl ?_
                  refine y_getC C 10 88 fX11_bestPrice_94 rfl rfl ft_10_14 sm_10_14 rfl hM665 dX11_bestPrice_129 ?_
                  refine y_getJ C 4 fX11_bestPrice_341 rfl rfl ft_4_8 dX11_bestPrice_132 (fun a673 ea673 la673 ua673 => ?_)
                  refine y_mmaxl C wX11_bestPrice_330_0 wX11_bestPrice_330_1 wX11_bestPrice_330_2 wX11_bestPrice_330_3 (by decide) (Nat.le_of_ble_eq_true rfl) dX11_bestPrice_135 (fun a674 la674 ua674 => ?_)
                  refine j_lstore C 4 [(4, .long (sJ a674)), (3, .int (sI a670)), (0, .ref (ad 0)), (1, .int (sI a1)), (2, .int (sI a2)), (6, .int (sI a652))] dX11_bestPrice_138 (by decide) rfl ?_
                  refine y_iinc C 5 [(6, .int (sI (a652 + 1))), (4, .long (sJ a674)), (3, .int (sI a670)), (0, .ref (ad 0)), (1, .int (sI a1)), (2, .int (sI a2))] dX11_bestPrice_140 rfl (by decide) rfl ?_
                  refine j_goto C 58 dX11_bestPrice_143 (by decide) ?_
                  refine j_lv [3, 4, 5, 2, 1, 0] rfl ?_; exact ih648 a670 a674 (a652 + 1) M665 (by omega) hM665
                refine y_lcmp_le C 124 dX11_bestPrice_115 dX11_bestPrice_116 (by decide) (by omega) (fun h669 => ?_) (fun h669 => ?_)
                · refine j_iload_n C 3 3 dX11_bestPrice_124 rfl rfl ?_
                  refine j_lv [0, 1, 2, 4, 5] rfl ?_; exact J671 a650 (by omega)
                · refine j_iload C 5 dX11_bestPrice_119 rfl ?_
                  refine j_goto C 125 dX11_bestPrice_121 (by decide) ?_
                  refine j_lv [0, 1, 2, 4, 5] rfl ?_; exact J671 a652 (by omega)
          refine j_lv [3, 4, 5, 2, 1, 0] rfl ?_; exact L649 2010 1 (-1) 1 M116 (by omega) hM116
        · refine y_bipush C dX11_bestPrice_34 rfl ?_
          exact hret _ _ _ _ dX11_bestPrice_36 ⟨(-5), rfl, hM0, by omega⟩
      · refine y_bipush C dX11_bestPrice_21 rfl ?_
        exact hret _ _ _ _ dX11_bestPrice_23 ⟨(-3), rfl, hM0, by omega⟩
  · refine y_bipush C dX11_bestPrice_8 rfl ?_
    exact hret _ _ _ _ dX11_bestPrice_10 ⟨(-2), rfl, hM0, by omega⟩
set_option maxHeartbeats 4000000 in
theorem s1_X11_isSight {l : Launch} {dC : Nat → ClassId} {dI : Nat → Nat → Nat} {ad : Nat → Nat} {cA : Nat → ClassId} {pr : Nat → Nat → Bool} {Kz : mm_M} {M0 : mm_M} (hM0 : INV pr Kz M0) (a1 : Int) (ha1 : -9223372036854775808 ≤ a1 ∧ a1 ≤ 9223372036854775807) : Ci l 0 yX11_isSight wsX11_isSight dC dI ad cA [.ref (ad 0), .long (sJ a1)] M0 (fun r M' => ∃ a : Int, r = sI a ∧ M0 = M' ∧ 0 ≤ a ∧ a ≤ 1 ∧ ((a1 < 0 ∧ a = 0) ∨ (0 ≤ a1 ∧ 0 ≤ (a1 / 10) ∧ a = 0) ∨ (0 ≤ a1 ∧ (a1 / 10) < 6 ∧ a = 1) ∨ (0 ≤ (M0.1 12 0).toInt ∧ (M0.1 12 0).toInt ≤ 8 ∧ 0 ≤ a1 ∧ (a1 / 10) < 6 ∧ (M0.1 12 0).toInt ≤ 9223372036854775807 ∧ a = 0) ∨ (0 ≤ (M0.1 12 0).toInt ∧ (M0.1 12 0).toInt ≤ 8 ∧ 0 ≤ a1 ∧ (a1 / 10) < 6 ∧ (-9223372036854775808) < (M0.1 12 0).toInt ∧ a = 1))) := by
  refine ci_of (cc := cX11_isSight) (maxL := 5) (ty := .boolean) (lv := [(0, .ref (ad 0)), (1, .long (sJ a1))]) (by decide) rfl (fun r M' hp => by obtain ⟨a, rfl, -, h⟩ := hp; rcases (show a = 0 ∨ a = 1 by omega) with rfl | rfl <;> rfl) (Nat.le_of_ble_eq_true rfl) rfl ?_
  intro p e s m args below meth c A Q C hret
  refine j_lload_n C 1 1 dX11_isSight_0 rfl rfl ?_
  refine y_ldc2 C 10 dX11_isSight_1 kX11_isSight_318 rfl ?_
  refine y_lrem0 C dX11_isSight_4 (by omega) (fun a101 la101 ua101 => ?_)
  refine j_lstore_n C 3 [(3, .long (sJ a101)), (0, .ref (ad 0)), (1, .long (sJ a1))] dX11_isSight_5 rfl (by decide) rfl ?_
  refine j_lload_n C 2 1 dX11_isSight_6 rfl rfl ?_
  refine y_lconst C 0 dX11_isSight_7 rfl ?_
  refine y_lcmp_lt C 54 dX11_isSight_8 dX11_isSight_9 (by decide) (by omega) (fun h102 => ?_) (fun h102 => ?_)
  · refine y_iconst C dX11_isSight_54 ?_
    exact hret _ _ _ _ dX11_isSight_55 ⟨0, rfl, rfl, by omega⟩
  · refine j_lload_n C 2 1 dX11_isSight_12 rfl rfl ?_
    refine y_ldc2 C 10 dX11_isSight_13 kX11_isSight_318 rfl ?_
    refine y_ldiv C dX11_isSight_16 (by omega) ?_
    refine j_aload_n C 1 0 dX11_isSight_17 rfl rfl ?_
    refine y_getM C 10 6 fX11_isSight_26 rfl rfl ft_10_4 sm_10_4 (by decide) hM0 dX11_isSight_18 (fun v103 ev103 cv103 => ?_)
    refine y_getI C 6 _ _ fX11_isSight_163 cv103 rfl ft_6_0 sb_6_0 hM0 dX11_isSight_21 (fun a104 ea104 la104 ua104 => ?_)
    refine y_i2l C dX11_isSight_24 (by omega) ?_
    refine y_lcmp_ge C 54 dX11_isSight_25 dX11_isSight_26 (by decide) (by omega) (fun h106 => ?_) (fun h106 => ?_)
    · refine y_iconst C dX11_isSight_54 ?_
      exact hret _ _ _ _ dX11_isSight_55 ⟨0, rfl, rfl, by omega⟩
    · refine j_lload_n C 0 3 dX11_isSight_29 rfl rfl ?_
      refine y_ldc2 C 9 dX11_isSight_30 kX11_isSight_367 rfl ?_
      refine y_lcmp_eq C 50 dX11_isSight_33 dX11_isSight_34 (by decide) (by omega) (fun h107 => ?_) (fun h107 => ?_)
      · refine y_iconst C dX11_isSight_50 ?_
        refine j_goto C 55 dX11_isSight_51 (by decide) ?_
        exact hret _ _ _ _ dX11_isSight_55 ⟨1, rfl, rfl, by omega⟩
      · refine j_lload_n C 0 3 dX11_isSight_37 rfl rfl ?_
        refine j_aload_n C 1 0 dX11_isSight_38 rfl rfl ?_
        refine y_getC C 10 12 fX11_isSight_36 rfl rfl ft_10_6 sm_10_6 rfl hM0 dX11_isSight_39 ?_
        refine y_getI C 8 _ _ fX11_isSight_160 rfl rfl ft_8_0 sb_8_0 hM0 dX11_isSight_42 (fun a108 ea108 la108 ua108 => ?_)
        refine y_i2l C dX11_isSight_45 (by omega) ?_
        refine y_lcmp_ge C 54 dX11_isSight_46 dX11_isSight_47 (by decide) (by omega) (fun h110 => ?_) (fun h110 => ?_)
        · refine y_iconst C dX11_isSight_54 ?_
          exact hret _ _ _ _ dX11_isSight_55 ⟨0, rfl, rfl, by omega⟩
        · refine y_iconst C dX11_isSight_50 ?_
          refine j_goto C 55 dX11_isSight_51 (by decide) ?_
          exact hret _ _ _ _ dX11_isSight_55 ⟨1, rfl, rfl, by omega⟩
set_option maxHeartbeats 4000000 in
theorem s1_X11_seenRefusal {l : Launch} {dC : Nat → ClassId} {dI : Nat → Nat → Nat} {ad : Nat → Nat} {cA : Nat → ClassId} {pr : Nat → Nat → Bool} {Kz : mm_M} {M0 : mm_M} (hM0 : INV pr Kz M0) (a1 : Int) (ha1 : -2147483648 ≤ a1 ∧ a1 ≤ 2147483647) : Ci l 2 yX11_seenRefusal wsX11_seenRefusal dC dI ad cA [.ref (ad 0), .int (sI a1)] M0 (fun r M' => ∃ a : Int, r = sI a ∧ M0 = M' ∧ (-6) ≤ a ∧ a ≤ 0 ∧ (¬ a = 0 ∨ (0 ≤ a1 ∧ a1 < 4))) := by
  refine ci_of (cc := cX11_seenRefusal) (maxL := 5) (ty := .int) (lv := [(0, .ref (ad 0)), (1, .int (sI a1))]) (by decide) rfl (fun r M' hp => rfl) (Nat.le_of_ble_eq_true rfl) rfl ?_
  intro p e s m args below meth c A Q C hret
  refine j_aload_n C 0 0 dX11_seenRefusal_0 rfl rfl ?_
  refine j_iload_n C 1 1 dX11_seenRefusal_1 rfl rfl ?_
  refine j_callVi C (d := 1) (As := [.int (sI a1)]) (st := []) 0 (s_lt rfl rfl) (s_kc (c := 10) rfl rfl) (by decide) rfl (s1_X11_trayRefusal hM0 a1 (by omega)) gX11_seenRefusal_X11_trayRefusal rfl hdX11_trayRefusal (by decide) (Nat.le_of_ble_eq_true rfl) dX11_seenRefusal_2 rfl (fun r101 M102 h103 => ?_)
  obtain ⟨a105, rfl, rfl, h104⟩ := h103
  refine j_istore_n C 2 [(2, .int (sI a105)), (0, .ref (ad 0)), (1, .int (sI a1))] dX11_seenRefusal_5 rfl (by decide) rfl ?_
  refine j_iload_n C 0 2 dX11_seenRefusal_6 rfl rfl ?_
  refine y_if_eq C 12 dX11_seenRefusal_7 (by decide) (by omega) (fun h106 => ?_) (fun h106 => ?_)
  · refine j_aload_n C 1 0 dX11_seenRefusal_12 rfl rfl ?_
    refine y_getC C 10 50 fX11_seenRefusal_52 rfl rfl ft_10_9 sm_10_9 rfl hM0 dX11_seenRefusal_13 ?_
    refine j_iload_n C 2 1 dX11_seenRefusal_16 rfl rfl ?_
    refine y_aald C 28 4 9 rfl rfl rfl rfl an_28 rfl sma_28 sta_28 (by decide) hM0 dX11_seenRefusal_17 (by omega) (fun v107 cv107 => ?_)
    refine j_astore_n C 3 [(3, .ref (ad v107)), (2, .int (sI a105)), (0, .ref (ad 0)), (1, .int (sI a1))] dX11_seenRefusal_18 rfl (by decide) rfl ?_
    refine j_aload_n C 0 3 dX11_seenRefusal_19 rfl rfl ?_
    refine j_callVi C (d := 1) (As := []) (st := []) v107 (s_lt cv107 rfl) (s_kc (c := 9) cv107 rfl) (by decide) rfl (s1_X10_size hM0 cv107) gX11_seenRefusal_X10_size rfl hdX10_size (by decide) (Nat.le_of_ble_eq_true rfl) dX11_seenRefusal_20 rfl (fun r108 M109 h110 => ?_)
    obtain ⟨a112, rfl, rfl, h111⟩ := h110
    refine y_iconst C dX11_seenRefusal_23 ?_
    refine y_icmp_lt C 36 dX11_seenRefusal_24 (by decide) (by omega) (fun h113 => ?_) (fun h113 => ?_)
    · refine y_bipush C dX11_seenRefusal_36 rfl ?_
      exact hret _ _ _ _ dX11_seenRefusal_38 ⟨(-4), rfl, rfl, by omega⟩
    · refine j_aload_n C 0 3 dX11_seenRefusal_27 rfl rfl ?_
      refine j_callVi C (d := 1) (As := []) (st := []) v107 (s_lt cv107 rfl) (s_kc (c := 9) cv107 rfl) (by decide) rfl (s1_X10_size hM0 cv107) gX11_seenRefusal_X10_size rfl hdX10_size (by decide) (Nat.le_of_ble_eq_true rfl) dX11_seenRefusal_28 rfl (fun r114 M115 h116 => ?_)
      obtain ⟨a118, rfl, rfl, h117⟩ := h116
      refine y_bipush C dX11_seenRefusal_31 rfl ?_
      refine y_icmp_le C 39 dX11_seenRefusal_33 (by decide) (by omega) (fun h119 => ?_) (fun h119 => ?_)
      · refine y_iconst C dX11_seenRefusal_39 ?_
        refine j_istore C 4 [(4, .int (sI 0)), (3, .ref (ad v107)), (2, .int (sI a105)), (0, .ref (ad 0)), (1, .int (sI a1))] dX11_seenRefusal_40 (by decide) rfl ?_
        have L428 : ∀ (n426 : Nat), ∀ (a429 : Int), (0 ≤ a429 ∧ a429 ≤ 40 ∧ (40 - a429) < (n426 : Int)) → jj p l e (cn_R 2) s m args below meth c 0 0 Q 5 dC dI ad cA A M0 42 [(0, .ref (ad 0)), (3, .ref (ad v107)), (4, .int (sI a429))] [] := by
          intro n426
          induction n426 with
          | zero =>
            intro a429 h430
            exfalso; omega
          | succ n426 ih427 =>
            intro a429 h430
            refine j_iload C 2 dX11_seenRefusal_42 rfl ?_
            refine j_aload_n C 1 3 dX11_seenRefusal_44 rfl rfl ?_
            refine j_callVi C (d := 1) (As := []) (st := [.int (sI a429)]) v107 (s_lt cv107 rfl) (s_kc (c := 9) cv107 rfl) (by decide) rfl (s1_X10_size hM0 cv107) gX11_seenRefusal_X10_size rfl hdX10_size (by decide) (Nat.le_of_ble_eq_true rfl) dX11_seenRefusal_45 rfl (fun r431 M432 h433 => ?_)
            obtain ⟨a435, rfl, rfl, h434⟩ := h433
            refine y_icmp_ge C 73 dX11_seenRefusal_48 (by decide) (by omega) (fun h436 => ?_) (fun h436 => ?_)
            · refine y_iconst C dX11_seenRefusal_73 ?_
              exact hret _ _ _ _ dX11_seenRefusal_74 ⟨0, rfl, rfl, by omega⟩
            · refine j_aload_n C 0 0 dX11_seenRefusal_51 rfl rfl ?_
              refine j_aload_n C 1 3 dX11_seenRefusal_52 rfl rfl ?_
              refine j_iload C 2 dX11_seenRefusal_53 rfl ?_
              refine j_callVj C (d := 1) (As := [.int (sI a429)]) (st := [.ref (ad 0)]) v107 (s_lt cv107 rfl) (s_kc (c := 9) cv107 rfl) (by decide) rfl (s1_X10_numberAt hM0 cv107 a429 (by omega)) gX11_seenRefusal_X10_numberAt rfl hdX10_numberAt (by decide) (Nat.le_of_ble_eq_true rfl) dX11_seenRefusal_55 rfl (fun r437 M438 h439 => ?_)
              obtain ⟨a441, rfl, rfl, h440⟩ := h439
              refine j_callVi C (d := 0) (As := [.long (sJ a441)]) (st := []) 0 (s_lt rfl rfl) (s_kc (c := 10) rfl rfl) (by decide) rfl (s1_X11_isSight hM0 a441 (by omega)) gX11_seenRefusal_X11_isSight rfl hdX11_isSight (by decide) (Nat.le_of_ble_eq_true rfl) dX11_seenRefusal_58 rfl (fun r442 M443 h444 => ?_)
              obtain ⟨a446, rfl, rfl, h445⟩ := h444
              refine y_if_ne C 67 dX11_seenRefusal_61 (by decide) (by omega) (fun h447 => ?_) (fun h447 => ?_)
              · refine y_iinc C 2 [(4, .int (sI (a429 + 1))), (0, .ref (ad 0)), (3, .ref (ad v107))] dX11_seenRefusal_67 rfl (by decide) rfl ?_
                refine j_goto C 42 dX11_seenRefusal_70 (by decide) ?_
                refine j_lv [1, 2, 0] rfl ?_; exact ih427 (a429 + 1) (by omega)
              · refine y_bipush C dX11_seenRefusal_64 rfl ?_
                exact hret _ _ _ _ dX11_seenRefusal_66 ⟨(-3), rfl, rfl, by omega⟩
        refine j_lv [3, 1, 0] rfl ?_; exact L428 2010 0 (by omega)
      · refine y_bipush C dX11_seenRefusal_36 rfl ?_
        exact hret _ _ _ _ dX11_seenRefusal_38 ⟨(-4), rfl, rfl, by omega⟩
  · refine j_iload_n C 0 2 dX11_seenRefusal_10 rfl rfl ?_
    exact hret _ _ _ _ dX11_seenRefusal_11 ⟨a105, rfl, rfl, by omega⟩
set_option maxHeartbeats 4000000 in
theorem s1_X5_lookEverywhere {l : Launch} {dC : Nat → ClassId} {dI : Nat → Nat → Nat} {ad : Nat → Nat} {cA : Nat → ClassId} {pr : Nat → Nat → Bool} {Kz : mm_M} {M0 : mm_M} (hM0 : INV pr Kz M0) (hpr : PX pr) {v1 : Nat} (cv1 : s_c v1 = 6) {v2 : Nat} (cv2 : s_c v2 = 8) : Cv l 5 yX5_lookEverywhere wsX5_lookEverywhere dC dI ad cA [.ref (ad 88), .ref (ad v1), .ref (ad v2)] M0 (fun M' => INV pr Kz M') := by
  refine cv_of (cc := cX5_lookEverywhere) (maxL := 4) (lv := [(0, .ref (ad 88)), (1, .ref (ad v1)), (2, .ref (ad v2))]) (by decide) rfl (Nat.le_of_ble_eq_true rfl) rfl ?_
  intro p e s m args below meth c A Q C hret
  refine j_aload_n C 0 0 dX5_lookEverywhere_0 rfl rfl ?_
  refine j_aload_n C 1 1 dX5_lookEverywhere_1 rfl rfl ?_
  refine j_aload_n C 2 2 dX5_lookEverywhere_2 rfl rfl ?_
  refine j_aload_n C 2 2 dX5_lookEverywhere_3 rfl rfl ?_
  refine y_getI C 8 _ _ fX5_lookEverywhere_89 cv2 rfl ft_8_4 sb_8_4 hM0 dX5_lookEverywhere_4 (fun a101 ea101 la101 ua101 => ?_)
  refine j_callVv C (d := 1) (As := [.ref (ad v1), .ref (ad v2), .int (sI a101)]) (st := []) 88 (s_lt rfl rfl) (s_kc (c := 4) rfl rfl) (by decide) rfl (s1_X5_aim hM0 hpr cv1 cv2 a101 (by omega)) gX5_lookEverywhere_X5_aim rfl hdX5_aim (by decide) (Nat.le_of_ble_eq_true rfl) dX5_lookEverywhere_7 rfl (fun M104 h105 => ?_)
  have hM104 := h105
  refine y_iconst C dX5_lookEverywhere_10 ?_
  refine j_istore_n C 3 [(3, .int (sI 0)), (0, .ref (ad 88)), (1, .ref (ad v1)), (2, .ref (ad v2))] dX5_lookEverywhere_11 rfl (by decide) rfl ?_
  have L406 : ∀ (n404 : Nat), ∀ (a407 : Int) (M408 : mm_M), (0 ≤ a407 ∧ a407 ≤ 256 ∧ (256 - a407) < (n404 : Int)) → INV pr Kz M408 → jj p l e (cn_R 5) s m args below meth c 0 0 Q 4 dC dI ad cA A M408 12 [(0, .ref (ad 88)), (2, .ref (ad v2)), (3, .int (sI a407))] [] := by
    intro n404
    induction n404 with
    | zero =>
      intro a407 M408 h409 hM408
      exfalso; omega
    | succ n404 ih405 =>
      intro a407 M408 h409 hM408
      refine j_iload_n C 2 3 dX5_lookEverywhere_12 rfl rfl ?_
      refine j_aload_n C 0 0 dX5_lookEverywhere_13 rfl rfl ?_
      refine y_getI C 4 _ _ fX5_lookEverywhere_38 rfl rfl ft_4_11 sb_4_11 hM408 dX5_lookEverywhere_14 (fun a410 ea410 la410 ua410 => ?_)
      refine y_icmp_gt C 35 dX5_lookEverywhere_17 (by decide) (by omega) (fun h412 => ?_) (fun h412 => ?_)
      · exact hret _ _ _ dX5_lookEverywhere_35 hM408
      · refine j_aload_n C 0 0 dX5_lookEverywhere_20 rfl rfl ?_
        refine j_iload_n C 2 3 dX5_lookEverywhere_21 rfl rfl ?_
        refine j_aload_n C 1 2 dX5_lookEverywhere_22 rfl rfl ?_
        refine y_getI C 8 _ _ fX5_lookEverywhere_89 cv2 rfl ft_8_4 sb_8_4 hM408 dX5_lookEverywhere_23 (fun a413 ea413 la413 ua413 => ?_)
        refine j_callVv C (d := 4) (As := [.int (sI a407), .int (sI a413)]) (st := []) 88 (s_lt rfl rfl) (s_kc (c := 4) rfl rfl) (by decide) rfl (s1_X5_meet hM408 hpr a407 (by omega) a413 (by omega) (by omega)) gX5_lookEverywhere_X5_meet rfl hdX5_meet (by decide) (Nat.le_of_ble_eq_true rfl) dX5_lookEverywhere_26 rfl (fun M416 h417 => ?_)
        have hM416 := h417
        refine y_iinc C 2 [(3, .int (sI (a407 + 1))), (0, .ref (ad 88)), (2, .ref (ad v2))] dX5_lookEverywhere_29 rfl (by decide) rfl ?_
        refine j_goto C 12 dX5_lookEverywhere_32 (by decide) ?_
        refine j_lv [1, 2, 0] rfl ?_; exact ih405 (a407 + 1) M416 (by omega) hM416
  refine j_lv [1, 3, 0] rfl ?_; exact L406 2010 0 M104 (by omega) hM104
set_option maxHeartbeats 4000000 in
theorem s1_X5_everyKind {l : Launch} {dC : Nat → ClassId} {dI : Nat → Nat → Nat} {ad : Nat → Nat} {cA : Nat → ClassId} {pr : Nat → Nat → Bool} {Kz : mm_M} {M0 : mm_M} (hM0 : INV pr Kz M0)  : Ci l 0 yX5_everyKind wsX5_everyKind dC dI ad cA [.ref (ad 88)] M0 (fun r M' => ∃ a : Int, r = sI a ∧ M0 = M' ∧ 0 ≤ a ∧ a ≤ 255 ∧ ((a = (M0.1 88 11).toInt))) := by
  refine ci_of (cc := cX5_everyKind) (maxL := 1) (ty := .int) (lv := [(0, .ref (ad 88))]) (by decide) rfl (fun r M' hp => rfl) (Nat.le_of_ble_eq_true rfl) rfl ?_
  intro p e s m args below meth c A Q C hret
  refine j_aload_n C 0 0 dX5_everyKind_0 rfl rfl ?_
  refine y_getI C 4 _ _ fX5_everyKind_38 rfl rfl ft_4_11 sb_4_11 hM0 dX5_everyKind_1 (fun a101 ea101 la101 ua101 => ?_)
  exact hret _ _ _ _ dX5_everyKind_4 ⟨a101, rfl, rfl, by omega⟩
set_option maxHeartbeats 4000000 in
theorem s1_X0_behind {l : Launch} {dC : Nat → ClassId} {dI : Nat → Nat → Nat} {ad : Nat → Nat} {cA : Nat → ClassId} {pr : Nat → Nat → Bool} {Kz : mm_M} {M0 : mm_M} (hM0 : INV pr Kz M0) (a1 : Int) (ha1 : -2147483648 ≤ a1 ∧ a1 ≤ 2147483647) {v2 : Nat} (cv2 : s_c v2 = 9) : Ci l 2 yX0_behind wsX0_behind dC dI ad cA [.ref (ad 95), .int (sI a1), .ref (ad v2)] M0 (fun r M' => ∃ a : Int, r = sI a ∧ M0 = M' ∧ (-2147483648) ≤ a ∧ a ≤ 2147483647) := by
  refine ci_of (cc := cX0_behind) (maxL := 7) (ty := .int) (lv := [(0, .ref (ad 95)), (1, .int (sI a1)), (2, .ref (ad v2))]) (by decide) rfl (fun r M' hp => rfl) (Nat.le_of_ble_eq_true rfl) rfl ?_
  intro p e s m args below meth c A Q C hret
  refine j_iload_n C 1 1 dX0_behind_0 rfl rfl ?_
  refine j_istore_n C 3 [(3, .int (sI a1)), (0, .ref (ad 95)), (1, .int (sI a1)), (2, .ref (ad v2))] dX0_behind_1 rfl (by decide) rfl ?_
  refine y_iconst C dX0_behind_2 ?_
  refine j_istore C 4 [(4, .int (sI 0)), (3, .int (sI a1)), (0, .ref (ad 95)), (1, .int (sI a1)), (2, .ref (ad v2))] dX0_behind_3 (by decide) rfl ?_
  have L630 : ∀ (n628 : Nat), ∀ (a631 : Int) (a632 : Int), ((-2147483648) ≤ a631 ∧ a631 ≤ 2147483647 ∧ 0 ≤ a632 ∧ a632 ≤ 40 ∧ (40 - a632) < (n628 : Int)) → jj p l e (cn_R 2) s m args below meth c 0 0 Q 7 dC dI ad cA A M0 5 [(0, .ref (ad 95)), (2, .ref (ad v2)), (3, .int (sI a631)), (4, .int (sI a632))] [] := by
    intro n628
    induction n628 with
    | zero =>
      intro a631 a632 h633
      exfalso; omega
    | succ n628 ih629 =>
      intro a631 a632 h633
      refine j_iload C 3 dX0_behind_5 rfl ?_
      refine j_aload_n C 1 2 dX0_behind_7 rfl rfl ?_
      refine j_callVi C (d := 1) (As := []) (st := [.int (sI a632)]) v2 (s_lt cv2 rfl) (s_kc (c := 9) cv2 rfl) (by decide) rfl (s1_X10_size hM0 cv2) gX0_behind_X10_size rfl hdX10_size (by decide) (Nat.le_of_ble_eq_true rfl) dX0_behind_8 rfl (fun r634 M635 h636 => ?_)
      obtain ⟨a638, rfl, rfl, h637⟩ := h636
      refine y_icmp_ge C 86 dX0_behind_11 (by decide) (by omega) (fun h639 => ?_) (fun h639 => ?_)
      · refine j_iload_n C 2 3 dX0_behind_86 rfl rfl ?_
        exact hret _ _ _ _ dX0_behind_87 ⟨a631, rfl, rfl, by omega⟩
      · refine j_aload_n C 1 2 dX0_behind_14 rfl rfl ?_
        refine j_iload C 3 dX0_behind_15 rfl ?_
        refine j_callVj C (d := 1) (As := [.int (sI a632)]) (st := []) v2 (s_lt cv2 rfl) (s_kc (c := 9) cv2 rfl) (by decide) rfl (s1_X10_numberAt hM0 cv2 a632 (by omega)) gX0_behind_X10_numberAt rfl hdX10_numberAt (by decide) (Nat.le_of_ble_eq_true rfl) dX0_behind_17 rfl (fun r640 M641 h642 => ?_)
        obtain ⟨a644, rfl, rfl, h643⟩ := h642
        refine y_l2i C dX0_behind_20 ?_
        refine y_topI (fun a645 la645 ua645 => ?_)
        refine j_istore C 5 [(5, .int (sI a645)), (0, .ref (ad 95)), (2, .ref (ad v2)), (3, .int (sI a631)), (4, .int (sI a632))] dX0_behind_21 (by decide) rfl ?_
        refine j_aload_n C 1 0 dX0_behind_23 rfl rfl ?_
        refine y_getC C 0 88 fX0_behind_25 rfl rfl ft_0_0 sm_0_0 rfl hM0 dX0_behind_24 ?_
        refine j_iload_n C 3 3 dX0_behind_27 rfl rfl ?_
        refine j_iload C 0 dX0_behind_28 rfl ?_
        refine y_bipush C dX0_behind_30 rfl ?_
        refine y_idiv0 C dX0_behind_32 (by omega) (fun a646 la646 ua646 => ?_)
        refine j_callVi C (d := 0) (As := [.int (sI a631), .int (sI a646)]) (st := []) 88 (s_lt rfl rfl) (s_kc (c := 4) rfl rfl) (by decide) rfl (s1_X5_pick hM0 a631 (by omega) a646 (by omega)) gX0_behind_X5_pick rfl hdX5_pick (by decide) (Nat.le_of_ble_eq_true rfl) dX0_behind_33 rfl (fun r647 M648 h649 => ?_)
        obtain ⟨a651, rfl, rfl, h650⟩ := h649
        refine j_istore C 6 [(6, .int (sI a651)), (5, .int (sI a645)), (0, .ref (ad 95)), (2, .ref (ad v2)), (3, .int (sI a631)), (4, .int (sI a632))] dX0_behind_36 (by decide) rfl ?_
        refine j_iload C 0 dX0_behind_38 rfl ?_
        refine j_iload C 1 dX0_behind_40 rfl ?_
        refine y_bipush C dX0_behind_42 rfl ?_
        refine y_iremS C dX0_behind_44 (by omega) (fun a652 la652 ua652 ha652 => ?_)
        refine y_bipush C dX0_behind_45 rfl ?_
        have J656 : ∀ (a655 : Int), ((-9) ≤ a655 ∧ a655 ≤ 9) → jj p l e (cn_R 2) s m args below meth c 0 0 Q 7 dC dI ad cA A M0 59 [(0, .ref (ad 95)), (2, .ref (ad v2)), (3, .int (sI a631)), (4, .int (sI a632)), (6, .int (sI a651))] [.int (sI a655), .int (sI a651)] := by
          intro a655 h657
          refine y_icmp_eq C 64 dX0_behind_59 (by decide) (by omega) (fun h658 => ?_) (fun h658 => ?_)
          · refine j_iload_n C 2 3 dX0_behind_64 rfl rfl ?_
            refine j_iload C 4 dX0_behind_65 rfl ?_
            refine y_if_lt C 77 dX0_behind_67 (by decide) (by omega) (fun h659 => ?_) (fun h659 => ?_)
            · refine y_iconst C dX0_behind_77 ?_
              refine y_ior0 C dX0_behind_78 (fun a660 la660 ua660 => ?_)
              refine j_istore_n C 3 [(3, .int (sI a660)), (0, .ref (ad 95)), (2, .ref (ad v2)), (4, .int (sI a632)), (6, .int (sI a651))] dX0_behind_79 rfl (by decide) rfl ?_
              refine y_iinc C 3 [(4, .int (sI (a632 + 1))), (3, .int (sI a660)), (0, .ref (ad 95)), (2, .ref (ad v2)), (6, .int (sI a651))] dX0_behind_80 rfl (by decide) rfl ?_
              refine j_goto C 5 dX0_behind_83 (by decide) ?_
              refine j_lv [2, 3, 1, 0] rfl ?_; exact ih629 a660 (a632 + 1) (by omega)
            · refine y_iconst C dX0_behind_70 ?_
              refine j_iload C 4 dX0_behind_71 rfl ?_
              refine y_shl1 C 7 128 dX0_behind_73 rfl (by decide) (by omega) (fun a661 la661 ua661 => ?_)
              refine j_goto C 78 dX0_behind_74 (by decide) ?_
              refine y_ior0 C dX0_behind_78 (fun a662 la662 ua662 => ?_)
              refine j_istore_n C 3 [(3, .int (sI a662)), (0, .ref (ad 95)), (2, .ref (ad v2)), (4, .int (sI a632)), (6, .int (sI a651))] dX0_behind_79 rfl (by decide) rfl ?_
              refine y_iinc C 3 [(4, .int (sI (a632 + 1))), (3, .int (sI a662)), (0, .ref (ad 95)), (2, .ref (ad v2)), (6, .int (sI a651))] dX0_behind_80 rfl (by decide) rfl ?_
              refine j_goto C 5 dX0_behind_83 (by decide) ?_
              refine j_lv [2, 3, 1, 0] rfl ?_; exact ih629 a662 (a632 + 1) (by omega)
          · refine y_iconst C dX0_behind_62 ?_
            exact hret _ _ _ _ dX0_behind_63 ⟨(-1), rfl, rfl, by omega⟩
        refine y_icmp_ne C 54 dX0_behind_47 (by decide) (by omega) (fun h653 => ?_) (fun h653 => ?_)
        · refine j_iload C 1 dX0_behind_54 rfl ?_
          refine y_bipush C dX0_behind_56 rfl ?_
          refine y_iremS C dX0_behind_58 (by omega) (fun a654 la654 ua654 ha654 => ?_)
          refine j_lv [2, 3, 4, 5, 0] rfl ?_; exact J656 a654 (by omega)
        · refine y_iconst C dX0_behind_50 ?_
          refine j_goto C 59 dX0_behind_51 (by decide) ?_
          refine j_lv [2, 3, 4, 5, 0] rfl ?_; exact J656 (-1) (by omega)
  refine j_lv [2, 4, 1, 0] rfl ?_; exact L630 4294967306 a1 0 (by omega)
set_option maxHeartbeats 4000000 in
theorem s1_X0_gather {l : Launch} {dC : Nat → ClassId} {dI : Nat → Nat → Nat} {ad : Nat → Nat} {cA : Nat → ClassId} {pr : Nat → Nat → Bool} {Kz : mm_M} {M0 : mm_M} (hM0 : INV pr Kz M0) (hpr : PX pr) {v1 : Nat} (cv1 : s_c v1 = 9) : Cv l 3 yX0_gather wsX0_gather dC dI ad cA [.ref (ad 95), .ref (ad v1)] M0 (fun M' => INV pr Kz M') := by
  refine cv_of (cc := cX0_gather) (maxL := 3) (lv := [(0, .ref (ad 95)), (1, .ref (ad v1))]) (by decide) rfl (Nat.le_of_ble_eq_true rfl) rfl ?_
  intro p e s m args below meth c A Q C hret
  refine j_aload_n C 0 0 dX0_gather_0 rfl rfl ?_
  refine y_iconst C dX0_gather_1 ?_
  refine y_putIF C 0 qX0_gather_18 rfl rfl ft_0_3 sb_0_3 hM0 (PX.w hpr rfl rfl) dX0_gather_2 (fun M101 eM101 hM101 => ?_)
  refine j_aload_n C 0 0 dX0_gather_5 rfl rfl ?_
  refine j_aload_n C 0 0 dX0_gather_6 rfl rfl ?_
  refine y_getC C 0 88 fX0_gather_25 rfl rfl ft_0_0 sm_0_0 rfl hM101 dX0_gather_7 ?_
  refine j_callVi C (d := 0) (As := []) (st := [.ref (ad 95)]) 88 (s_lt rfl rfl) (s_kc (c := 4) rfl rfl) (by decide) rfl (s1_X5_everyKind hM101) gX0_gather_X5_everyKind rfl hdX5_everyKind (by decide) (Nat.le_of_ble_eq_true rfl) dX0_gather_10 rfl (fun r102 M103 h104 => ?_)
  obtain ⟨a106, rfl, rfl, h105⟩ := h104
  refine y_putIF C 0 qX0_gather_22 rfl rfl ft_0_4 sb_0_4 hM101 (PX.w hpr rfl rfl) dX0_gather_13 (fun M107 eM107 hM107 => ?_)
  refine y_iconst C dX0_gather_16 ?_
  refine j_istore_n C 2 [(2, .int (sI 0)), (0, .ref (ad 95)), (1, .ref (ad v1))] dX0_gather_17 rfl (by decide) rfl ?_
  have L758 : ∀ (n756 : Nat), ∀ (a759 : Int) (M760 : mm_M), (0 ≤ a759 ∧ a759 ≤ 256 ∧ (256 - a759) < (n756 : Int)) → INV pr Kz M760 → jj p l e (cn_R 3) s m args below meth c 0 0 Q 3 dC dI ad cA A M760 18 [(0, .ref (ad 95)), (1, .ref (ad v1)), (2, .int (sI a759))] [] := by
    intro n756
    induction n756 with
    | zero =>
      intro a759 M760 h761 hM760
      exfalso; omega
    | succ n756 ih757 =>
      intro a759 M760 h761 hM760
      refine j_iload_n C 2 2 dX0_gather_18 rfl rfl ?_
      refine j_aload_n C 0 0 dX0_gather_19 rfl rfl ?_
      refine y_getC C 0 88 fX0_gather_25 rfl rfl ft_0_0 sm_0_0 rfl hM760 dX0_gather_20 ?_
      refine j_callVi C (d := 0) (As := []) (st := [.int (sI a759)]) 88 (s_lt rfl rfl) (s_kc (c := 4) rfl rfl) (by decide) rfl (s1_X5_everyKind hM760) gX0_gather_X5_everyKind rfl hdX5_everyKind (by decide) (Nat.le_of_ble_eq_true rfl) dX0_gather_23 rfl (fun r762 M763 h764 => ?_)
      obtain ⟨a766, rfl, rfl, h765⟩ := h764
      refine y_icmp_gt C 77 dX0_gather_26 (by decide) (by omega) (fun h767 => ?_) (fun h767 => ?_)
      · exact hret _ _ _ dX0_gather_77 hM760
      · refine j_aload_n C 0 0 dX0_gather_29 rfl rfl ?_
        refine y_getC C 0 96 fX0_gather_9 rfl rfl ft_0_1 sm_0_1 rfl hM760 dX0_gather_30 ?_
        refine j_iload_n C 2 2 dX0_gather_33 rfl rfl ?_
        refine j_aload_n C 0 0 dX0_gather_34 rfl rfl ?_
        refine j_iload_n C 2 2 dX0_gather_35 rfl rfl ?_
        refine j_aload_n C 1 1 dX0_gather_36 rfl rfl ?_
        refine j_callVi C (d := 2) (As := [.int (sI a759), .ref (ad v1)]) (st := [.int (sI a759), .ref (ad 96)]) 95 (s_lt rfl rfl) (s_kc (c := 0) rfl rfl) (by decide) rfl (s1_X0_behind hM760 a759 (by omega) cv1) gX0_gather_X0_behind rfl hdX0_behind (by decide) (Nat.le_of_ble_eq_true rfl) dX0_gather_37 rfl (fun r768 M769 h770 => ?_)
        obtain ⟨a772, rfl, rfl, h771⟩ := h770
        refine y_iastF C 43 256 rfl rfl rfl ak_43 an_43 rfl (sb_43 _) hM760 (PX.w hpr rfl rfl) dX0_gather_40 (by omega) (fun M773 eM773 hM773 => ?_)
        refine j_aload_n C 0 0 dX0_gather_41 rfl rfl ?_
        refine y_getC C 0 96 fX0_gather_9 rfl rfl ft_0_1 sm_0_1 rfl hM773 dX0_gather_42 ?_
        refine j_iload_n C 2 2 dX0_gather_45 rfl rfl ?_
        refine y_iald C 43 256 _ _ rfl rfl rfl ak_43 an_43 rfl (sb_43 _) hM773 dX0_gather_46 (by omega) (fun a774 ea774 la774 ua774 => ?_)
        refine y_iconst C dX0_gather_47 ?_
        refine y_icmp_eq C 71 dX0_gather_48 (by decide) (by omega) (fun h775 => ?_) (fun h775 => ?_)
        · refine y_iinc C 2 [(2, .int (sI (a759 + 1))), (0, .ref (ad 95)), (1, .ref (ad v1))] dX0_gather_71 rfl (by decide) rfl ?_
          refine j_goto C 18 dX0_gather_74 (by decide) ?_
          refine j_lv [1, 2, 0] rfl ?_; exact ih757 (a759 + 1) M773 (by omega) hM773
        · refine j_aload_n C 0 0 dX0_gather_51 rfl rfl ?_
          refine j_dup C dX0_gather_52 rfl ?_
          refine y_getI C 0 _ _ fX0_gather_18 rfl rfl ft_0_3 sb_0_3 hM773 dX0_gather_53 (fun a776 ea776 la776 ua776 => ?_)
          refine y_iconst C dX0_gather_56 ?_
          refine y_iadd0 C dX0_gather_57 (fun a778 la778 ua778 => ?_)
          refine y_putIF C 0 qX0_gather_18 rfl rfl ft_0_3 sb_0_3 hM773 (PX.w hpr rfl rfl) dX0_gather_58 (fun M779 eM779 hM779 => ?_)
          refine j_aload_n C 0 0 dX0_gather_61 rfl rfl ?_
          refine j_dup C dX0_gather_62 rfl ?_
          refine y_getI C 0 _ _ fX0_gather_22 rfl rfl ft_0_4 sb_0_4 hM779 dX0_gather_63 (fun a780 ea780 la780 ua780 => ?_)
          refine j_iload_n C 2 2 dX0_gather_66 rfl rfl ?_
          refine y_iandR C dX0_gather_67 (by omega) (fun a782 la782 ua782 => ?_)
          refine y_putIF C 0 qX0_gather_22 rfl rfl ft_0_4 sb_0_4 hM779 (PX.w hpr rfl rfl) dX0_gather_68 (fun M783 eM783 hM783 => ?_)
          refine y_iinc C 2 [(2, .int (sI (a759 + 1))), (0, .ref (ad 95)), (1, .ref (ad v1))] dX0_gather_71 rfl (by decide) rfl ?_
          refine j_goto C 18 dX0_gather_74 (by decide) ?_
          refine j_lv [1, 2, 0] rfl ?_; exact ih757 (a759 + 1) M783 (by omega) hM783
  refine j_lv [1, 2, 0] rfl ?_; exact L758 2010 0 M107 (by omega) hM107
set_option maxHeartbeats 4000000 in
theorem s1_X11_seen {l : Launch} {dC : Nat → ClassId} {dI : Nat → Nat → Nat} {ad : Nat → Nat} {cA : Nat → ClassId} {pr : Nat → Nat → Bool} {Kz : mm_M} {M0 : mm_M} (hM0 : INV pr Kz M0) (hpr : PX pr) (a1 : Int) (ha1 : -2147483648 ≤ a1 ∧ a1 ≤ 2147483647) : Ci l 6 yX11_seen wsX11_seen dC dI ad cA [.ref (ad 0), .int (sI a1)] M0 (fun r M' => ∃ a : Int, r = sI a ∧ INV pr Kz M' ∧ (-2147483648) ≤ a ∧ a ≤ 2147483647) := by
  refine ci_of (cc := cX11_seen) (maxL := 3) (ty := .int) (lv := [(0, .ref (ad 0)), (1, .int (sI a1))]) (by decide) rfl (fun r M' hp => rfl) (Nat.le_of_ble_eq_true rfl) rfl ?_
  intro p e s m args below meth c A Q C hret
  refine j_aload_n C 0 0 dX11_seen_0 rfl rfl ?_
  refine j_iload_n C 1 1 dX11_seen_1 rfl rfl ?_
  refine j_callVi C (d := 2) (As := [.int (sI a1)]) (st := []) 0 (s_lt rfl rfl) (s_kc (c := 10) rfl rfl) (by decide) rfl (s1_X11_seenRefusal hM0 a1 (by omega)) gX11_seen_X11_seenRefusal rfl hdX11_seenRefusal (by decide) (Nat.le_of_ble_eq_true rfl) dX11_seen_2 rfl (fun r101 M102 h103 => ?_)
  obtain ⟨a105, rfl, rfl, h104⟩ := h103
  refine j_istore_n C 2 [(2, .int (sI a105)), (0, .ref (ad 0)), (1, .int (sI a1))] dX11_seen_5 rfl (by decide) rfl ?_
  refine j_iload_n C 0 2 dX11_seen_6 rfl rfl ?_
  refine y_if_eq C 12 dX11_seen_7 (by decide) (by omega) (fun h106 => ?_) (fun h106 => ?_)
  · refine j_aload_n C 1 0 dX11_seen_12 rfl rfl ?_
    refine y_getC C 10 88 fX11_seen_94 rfl rfl ft_10_14 sm_10_14 rfl hM0 dX11_seen_13 ?_
    refine j_aload_n C 1 0 dX11_seen_16 rfl rfl ?_
    refine y_getM C 10 6 fX11_seen_26 rfl rfl ft_10_4 sm_10_4 (by decide) hM0 dX11_seen_17 (fun v107 ev107 cv107 => ?_)
    refine j_aload_n C 1 0 dX11_seen_20 rfl rfl ?_
    refine y_getC C 10 12 fX11_seen_36 rfl rfl ft_10_6 sm_10_6 rfl hM0 dX11_seen_21 ?_
    refine j_callVv C (d := 5) (As := [.ref (ad v107), .ref (ad 12)]) (st := []) 88 (s_lt rfl rfl) (s_kc (c := 4) rfl rfl) (by decide) rfl (s1_X5_lookEverywhere hM0 hpr cv107 rfl) gX11_seen_X5_lookEverywhere rfl hdX5_lookEverywhere (by decide) (Nat.le_of_ble_eq_true rfl) dX11_seen_24 rfl (fun M109 h110 => ?_)
    have hM109 := h110
    refine j_aload_n C 1 0 dX11_seen_27 rfl rfl ?_
    refine y_getC C 10 95 fX11_seen_103 rfl rfl ft_10_15 sm_10_15 rfl hM109 dX11_seen_28 ?_
    refine j_aload_n C 1 0 dX11_seen_31 rfl rfl ?_
    refine y_getC C 10 50 fX11_seen_52 rfl rfl ft_10_9 sm_10_9 rfl hM109 dX11_seen_32 ?_
    refine j_iload_n C 2 1 dX11_seen_35 rfl rfl ?_
    refine y_aald C 28 4 9 rfl rfl rfl rfl an_28 rfl sma_28 sta_28 (by decide) hM109 dX11_seen_36 (by omega) (fun v112 cv112 => ?_)
    refine j_callVv C (d := 3) (As := [.ref (ad v112)]) (st := []) 95 (s_lt rfl rfl) (s_kc (c := 0) rfl rfl) (by decide) rfl (s1_X0_gather hM109 hpr cv112) gX11_seen_X0_gather rfl hdX0_gather (by decide) (Nat.le_of_ble_eq_true rfl) dX11_seen_37 rfl (fun M114 h115 => ?_)
    have hM114 := h115
    refine j_aload_n C 1 0 dX11_seen_40 rfl rfl ?_
    refine y_getC C 10 95 fX11_seen_103 rfl rfl ft_10_15 sm_10_15 rfl hM114 dX11_seen_41 ?_
    refine y_getI C 0 _ _ fX11_seen_354 rfl rfl ft_0_3 sb_0_3 hM114 dX11_seen_44 (fun a117 ea117 la117 ua117 => ?_)
    exact hret _ _ _ _ dX11_seen_47 ⟨a117, rfl, hM114, by omega⟩
  · refine j_iload_n C 0 2 dX11_seen_10 rfl rfl ?_
    exact hret _ _ _ _ dX11_seen_11 ⟨a105, rfl, hM0, by omega⟩
set_option maxHeartbeats 4000000 in
theorem s1_X11_sureGone {l : Launch} {dC : Nat → ClassId} {dI : Nat → Nat → Nat} {ad : Nat → Nat} {cA : Nat → ClassId} {pr : Nat → Nat → Bool} {Kz : mm_M} {M0 : mm_M} (hM0 : INV pr Kz M0) (hpr : PX pr) (a1 : Int) (ha1 : -2147483648 ≤ a1 ∧ a1 ≤ 2147483647) : Ci l 6 yX11_sureGone wsX11_sureGone dC dI ad cA [.ref (ad 0), .int (sI a1)] M0 (fun r M' => ∃ a : Int, r = sI a ∧ INV pr Kz M' ∧ (-2147483648) ≤ a ∧ a ≤ 2147483647) := by
  refine ci_of (cc := cX11_sureGone) (maxL := 3) (ty := .int) (lv := [(0, .ref (ad 0)), (1, .int (sI a1))]) (by decide) rfl (fun r M' hp => rfl) (Nat.le_of_ble_eq_true rfl) rfl ?_
  intro p e s m args below meth c A Q C hret
  refine j_aload_n C 0 0 dX11_sureGone_0 rfl rfl ?_
  refine j_iload_n C 1 1 dX11_sureGone_1 rfl rfl ?_
  refine j_callVi C (d := 2) (As := [.int (sI a1)]) (st := []) 0 (s_lt rfl rfl) (s_kc (c := 10) rfl rfl) (by decide) rfl (s1_X11_seenRefusal hM0 a1 (by omega)) gX11_sureGone_X11_seenRefusal rfl hdX11_seenRefusal (by decide) (Nat.le_of_ble_eq_true rfl) dX11_sureGone_2 rfl (fun r101 M102 h103 => ?_)
  obtain ⟨a105, rfl, rfl, h104⟩ := h103
  refine j_istore_n C 2 [(2, .int (sI a105)), (0, .ref (ad 0)), (1, .int (sI a1))] dX11_sureGone_5 rfl (by decide) rfl ?_
  refine j_iload_n C 0 2 dX11_sureGone_6 rfl rfl ?_
  refine y_if_eq C 12 dX11_sureGone_7 (by decide) (by omega) (fun h106 => ?_) (fun h106 => ?_)
  · refine j_aload_n C 1 0 dX11_sureGone_12 rfl rfl ?_
    refine y_getC C 10 88 fX11_sureGone_94 rfl rfl ft_10_14 sm_10_14 rfl hM0 dX11_sureGone_13 ?_
    refine j_aload_n C 1 0 dX11_sureGone_16 rfl rfl ?_
    refine y_getM C 10 6 fX11_sureGone_26 rfl rfl ft_10_4 sm_10_4 (by decide) hM0 dX11_sureGone_17 (fun v107 ev107 cv107 => ?_)
    refine j_aload_n C 1 0 dX11_sureGone_20 rfl rfl ?_
    refine y_getC C 10 12 fX11_sureGone_36 rfl rfl ft_10_6 sm_10_6 rfl hM0 dX11_sureGone_21 ?_
    refine j_callVv C (d := 5) (As := [.ref (ad v107), .ref (ad 12)]) (st := []) 88 (s_lt rfl rfl) (s_kc (c := 4) rfl rfl) (by decide) rfl (s1_X5_lookEverywhere hM0 hpr cv107 rfl) gX11_sureGone_X5_lookEverywhere rfl hdX5_lookEverywhere (by decide) (Nat.le_of_ble_eq_true rfl) dX11_sureGone_24 rfl (fun M109 h110 => ?_)
    have hM109 := h110
    refine j_aload_n C 1 0 dX11_sureGone_27 rfl rfl ?_
    refine y_getC C 10 95 fX11_sureGone_103 rfl rfl ft_10_15 sm_10_15 rfl hM109 dX11_sureGone_28 ?_
    refine j_aload_n C 1 0 dX11_sureGone_31 rfl rfl ?_
    refine y_getC C 10 50 fX11_sureGone_52 rfl rfl ft_10_9 sm_10_9 rfl hM109 dX11_sureGone_32 ?_
    refine j_iload_n C 2 1 dX11_sureGone_35 rfl rfl ?_
    refine y_aald C 28 4 9 rfl rfl rfl rfl an_28 rfl sma_28 sta_28 (by decide) hM109 dX11_sureGone_36 (by omega) (fun v112 cv112 => ?_)
    refine j_callVv C (d := 3) (As := [.ref (ad v112)]) (st := []) 95 (s_lt rfl rfl) (s_kc (c := 0) rfl rfl) (by decide) rfl (s1_X0_gather hM109 hpr cv112) gX11_sureGone_X0_gather rfl hdX0_gather (by decide) (Nat.le_of_ble_eq_true rfl) dX11_sureGone_37 rfl (fun M114 h115 => ?_)
    have hM114 := h115
    refine j_aload_n C 1 0 dX11_sureGone_40 rfl rfl ?_
    refine y_getC C 10 95 fX11_sureGone_103 rfl rfl ft_10_15 sm_10_15 rfl hM114 dX11_sureGone_41 ?_
    refine y_getI C 0 _ _ fX11_sureGone_354 rfl rfl ft_0_3 sb_0_3 hM114 dX11_sureGone_44 (fun a117 ea117 la117 ua117 => ?_)
    refine y_if_ne C 54 dX11_sureGone_47 (by decide) (by omega) (fun h119 => ?_) (fun h119 => ?_)
    · refine j_aload_n C 1 0 dX11_sureGone_54 rfl rfl ?_
      refine y_getC C 10 95 fX11_sureGone_103 rfl rfl ft_10_15 sm_10_15 rfl hM114 dX11_sureGone_55 ?_
      refine y_getI C 0 _ _ fX11_sureGone_357 rfl rfl ft_0_4 sb_0_4 hM114 dX11_sureGone_58 (fun a120 ea120 la120 ua120 => ?_)
      exact hret _ _ _ _ dX11_sureGone_61 ⟨a120, rfl, hM114, by omega⟩
    · refine y_iconst C dX11_sureGone_50 ?_
      refine j_goto C 61 dX11_sureGone_51 (by decide) ?_
      exact hret _ _ _ _ dX11_sureGone_61 ⟨0, rfl, hM114, by omega⟩
  · refine j_iload_n C 0 2 dX11_sureGone_10 rfl rfl ?_
    exact hret _ _ _ _ dX11_sureGone_11 ⟨a105, rfl, hM0, by omega⟩
set_option maxHeartbeats 4000000 in
theorem s1_X5_buyers {l : Launch} {dC : Nat → ClassId} {dI : Nat → Nat → Nat} {ad : Nat → Nat} {cA : Nat → ClassId} {pr : Nat → Nat → Bool} {Kz : mm_M} {M0 : mm_M} (hM0 : INV pr Kz M0)  : Ci l 0 yX5_buyers wsX5_buyers dC dI ad cA [.ref (ad 88)] M0 (fun r M' => ∃ a : Int, r = sI a ∧ M0 = M' ∧ 0 ≤ a ∧ a ≤ 6 ∧ ((0 ≤ a ∧ a ≤ 6))) := by
  refine ci_of (cc := cX5_buyers) (maxL := 1) (ty := .int) (lv := [(0, .ref (ad 88))]) (by decide) rfl (fun r M' hp => rfl) (Nat.le_of_ble_eq_true rfl) rfl ?_
  intro p e s m args below meth c A Q C hret
  refine j_aload_n C 0 0 dX5_buyers_0 rfl rfl ?_
  refine y_getM C 4 6 fX5_buyers_52 rfl rfl ft_4_9 sm_4_9 (by decide) hM0 dX5_buyers_1 (fun v101 ev101 cv101 => ?_)
  refine y_getI C 6 _ _ fX5_buyers_92 cv101 rfl ft_6_0 sb_6_0 hM0 dX5_buyers_4 (fun a102 ea102 la102 ua102 => ?_)
  exact hret _ _ _ _ dX5_buyers_7 ⟨a102, rfl, rfl, by omega⟩
set_option maxHeartbeats 4000000 in
theorem s3_J7_fill_53178 {l : Launch} {dC : Nat → ClassId} {dI : Nat → Nat → Nat} {ad : Nat → Nat} {cA : Nat → ClassId} {pr : Nat → Nat → Bool} {Kz : mm_M} {M0 : mm_M} (hM0 : INV pr Kz M0) (hpr : PX pr) (a1 : Int) (ha1 : -2147483648 ≤ a1 ∧ a1 ≤ 2147483647) : Cv l 0 yJ7_fill_53178 wsJ7_fill_53178 dC dI ad cA [.ref (ad 97), .int (sI a1)] M0 (fun M' => INV pr Kz M') := by
  refine cv_of (cc := cJ7_fill_53178) (maxL := 4) (lv := [(0, .ref (ad 97)), (1, .int (sI a1))]) (by decide) rfl (Nat.le_of_ble_eq_true rfl) rfl ?_
  intro p e s m args below meth c A Q C hret
  refine y_iconst C dJ7_fill_53178_0 ?_
  refine j_istore_n C 2 [(2, .int (sI 0)), (0, .ref (ad 97)), (1, .int (sI a1))] dJ7_fill_53178_1 rfl (by decide) rfl ?_
  refine j_aload_n C 1 0 dJ7_fill_53178_2 rfl rfl ?_
  refine y_alen C 44 10 rfl rfl rfl an_44 rfl rfl dJ7_fill_53178_3 ?_
  refine j_istore_n C 3 [(3, .int (sI 10)), (2, .int (sI 0)), (0, .ref (ad 97)), (1, .int (sI a1))] dJ7_fill_53178_4 rfl (by decide) rfl ?_
  have L147 : ∀ (n145 : Nat), ∀ (a148 : Int) (M149 : mm_M), (0 ≤ a148 ∧ a148 ≤ 10 ∧ (10 - a148) < (n145 : Int)) → INV pr Kz M149 → jj p l e (cn_R 0) s m args below meth c 0 0 Q 4 dC dI ad cA A M149 5 [(0, .ref (ad 97)), (1, .int (sI a1)), (2, .int (sI a148)), (3, .int (sI 10))] [] := by
    intro n145
    induction n145 with
    | zero =>
      intro a148 M149 h150 hM149
      exfalso; omega
    | succ n145 ih146 =>
      intro a148 M149 h150 hM149
      refine j_iload_n C 2 2 dJ7_fill_53178_5 rfl rfl ?_
      refine j_iload_n C 3 3 dJ7_fill_53178_6 rfl rfl ?_
      refine y_icmp_ge C 20 dJ7_fill_53178_7 (by decide) (by omega) (fun h151 => ?_) (fun h151 => ?_)
      · exact hret _ _ _ dJ7_fill_53178_20 hM149
      · refine j_aload_n C 0 0 dJ7_fill_53178_10 rfl rfl ?_
        refine j_iload_n C 2 2 dJ7_fill_53178_11 rfl rfl ?_
        refine j_iload_n C 1 1 dJ7_fill_53178_12 rfl rfl ?_
        refine y_iastF C 44 10 rfl rfl rfl ak_44 an_44 rfl (sb_44 _) hM149 (PX.w hpr rfl rfl) dJ7_fill_53178_13 (by omega) (fun M152 eM152 hM152 => ?_)
        refine y_iinc C 2 [(2, .int (sI (a148 + 1))), (0, .ref (ad 97)), (1, .int (sI a1)), (3, .int (sI 10))] dJ7_fill_53178_14 rfl (by decide) rfl ?_
        refine j_goto C 5 dJ7_fill_53178_17 (by decide) ?_
        refine j_lv [1, 2, 0, 3] rfl ?_; exact ih146 (a148 + 1) M152 (by omega) hM152
  refine j_lv [2, 3, 1, 0] rfl ?_; exact L147 2010 0 M0 (by omega) hM0
set_option maxHeartbeats 4000000 in
theorem s1_X0_mostAlike {l : Launch} {dC : Nat → ClassId} {dI : Nat → Nat → Nat} {ad : Nat → Nat} {cA : Nat → ClassId} {pr : Nat → Nat → Bool} {Kz : mm_M} {M0 : mm_M} (hM0 : INV pr Kz M0) (hpr : PX pr) (a1 : Int) (ha1 : -2147483648 ≤ a1 ∧ a1 ≤ 2147483647) : Ci l 1 yX0_mostAlike wsX0_mostAlike dC dI ad cA [.ref (ad 95), .int (sI a1)] M0 (fun r M' => ∃ a : Int, r = sI a ∧ INV pr Kz M' ∧ 0 ≤ a ∧ a ≤ 2147483647) := by
  refine ci_of (cc := cX0_mostAlike) (maxL := 6) (ty := .int) (lv := [(0, .ref (ad 95)), (1, .int (sI a1))]) (by decide) rfl (fun r M' hp => rfl) (Nat.le_of_ble_eq_true rfl) rfl ?_
  intro p e s m args below meth c A Q C hret
  refine j_aload_n C 0 0 dX0_mostAlike_0 rfl rfl ?_
  refine y_getC C 0 97 fX0_mostAlike_15 rfl rfl ft_0_2 sm_0_2 rfl hM0 dX0_mostAlike_1 ?_
  refine y_iconst C dX0_mostAlike_4 ?_
  refine j_callSv C (d := 0) (As := [.ref (ad 97), .int (sI 0)]) (st := []) (s3_J7_fill_53178 hM0 hpr 0 (by omega)) gX0_mostAlike_J7_fill_53178 rfl hdJ7_fill_53178s (by decide) (Nat.le_of_ble_eq_true rfl) dX0_mostAlike_5 rfl (fun M102 h103 => ?_)
  have hM102 := h103
  refine y_iconst C dX0_mostAlike_8 ?_
  refine j_istore_n C 2 [(2, .int (sI 0)), (0, .ref (ad 95)), (1, .int (sI a1))] dX0_mostAlike_9 rfl (by decide) rfl ?_
  refine y_iconst C dX0_mostAlike_10 ?_
  refine j_istore_n C 3 [(3, .int (sI 0)), (2, .int (sI 0)), (0, .ref (ad 95)), (1, .int (sI a1))] dX0_mostAlike_11 rfl (by decide) rfl ?_
  have L809 : ∀ (n807 : Nat), ∀ (a810 : Int) (a811 : Int) (M812 : mm_M), (0 ≤ a810 ∧ a810 ≤ 2147483647 ∧ 0 ≤ a811 ∧ a811 ≤ 256 ∧ (256 - a811) < (n807 : Int)) → INV pr Kz M812 → jj p l e (cn_R 1) s m args below meth c 0 0 Q 6 dC dI ad cA A M812 12 [(0, .ref (ad 95)), (1, .int (sI a1)), (2, .int (sI a810)), (3, .int (sI a811))] [] := by
    intro n807
    induction n807 with
    | zero =>
      intro a810 a811 M812 h813 hM812
      exfalso; omega
    | succ n807 ih808 =>
      intro a810 a811 M812 h813 hM812
      refine j_iload_n C 3 3 dX0_mostAlike_12 rfl rfl ?_
      refine j_aload_n C 0 0 dX0_mostAlike_13 rfl rfl ?_
      refine y_getC C 0 88 fX0_mostAlike_25 rfl rfl ft_0_0 sm_0_0 rfl hM812 dX0_mostAlike_14 ?_
      refine j_callVi C (d := 0) (As := []) (st := [.int (sI a811)]) 88 (s_lt rfl rfl) (s_kc (c := 4) rfl rfl) (by decide) rfl (s1_X5_everyKind hM812) gX0_mostAlike_X5_everyKind rfl hdX5_everyKind (by decide) (Nat.le_of_ble_eq_true rfl) dX0_mostAlike_17 rfl (fun r814 M815 h816 => ?_)
      obtain ⟨a818, rfl, rfl, h817⟩ := h816
      refine y_icmp_gt C 92 dX0_mostAlike_20 (by decide) (by omega) (fun h819 => ?_) (fun h819 => ?_)
      · refine j_iload_n C 2 2 dX0_mostAlike_92 rfl rfl ?_
        exact hret _ _ _ _ dX0_mostAlike_93 ⟨a810, rfl, hM812, by omega⟩
      · refine j_aload_n C 0 0 dX0_mostAlike_23 rfl rfl ?_
        refine y_getC C 0 96 fX0_mostAlike_9 rfl rfl ft_0_1 sm_0_1 rfl hM812 dX0_mostAlike_24 ?_
        refine j_iload_n C 3 3 dX0_mostAlike_27 rfl rfl ?_
        refine y_iald C 43 256 _ _ rfl rfl rfl ak_43 an_43 rfl (sb_43 _) hM812 dX0_mostAlike_28 (by omega) (fun a820 ea820 la820 ua820 => ?_)
        refine y_iconst C dX0_mostAlike_29 ?_
        refine y_icmp_eq C 86 dX0_mostAlike_30 (by decide) (by omega) (fun h821 => ?_) (fun h821 => ?_)
        · refine y_iinc C 3 [(3, .int (sI (a811 + 1))), (0, .ref (ad 95)), (1, .int (sI a1)), (2, .int (sI a810))] dX0_mostAlike_86 rfl (by decide) rfl ?_
          refine j_goto C 12 dX0_mostAlike_89 (by decide) ?_
          refine j_lv [1, 2, 3, 0] rfl ?_; exact ih808 a810 (a811 + 1) M812 (by omega) hM812
        · refine j_aload_n C 0 0 dX0_mostAlike_33 rfl rfl ?_
          refine y_getC C 0 88 fX0_mostAlike_25 rfl rfl ft_0_0 sm_0_0 rfl hM812 dX0_mostAlike_34 ?_
          refine j_aload_n C 0 0 dX0_mostAlike_37 rfl rfl ?_
          refine y_getC C 0 96 fX0_mostAlike_9 rfl rfl ft_0_1 sm_0_1 rfl hM812 dX0_mostAlike_38 ?_
          refine j_iload_n C 3 3 dX0_mostAlike_41 rfl rfl ?_
          refine y_iald C 43 256 _ _ rfl rfl rfl ak_43 an_43 rfl (sb_43 _) hM812 dX0_mostAlike_42 (by omega) (fun a822 ea822 la822 ua822 => ?_)
          refine j_iload_n C 1 1 dX0_mostAlike_43 rfl rfl ?_
          refine j_callVi C (d := 0) (As := [.int (sI a822), .int (sI a1)]) (st := []) 88 (s_lt rfl rfl) (s_kc (c := 4) rfl rfl) (by decide) rfl (s1_X5_pick hM812 a822 (by omega) a1 (by omega)) gX0_mostAlike_X5_pick rfl hdX5_pick (by decide) (Nat.le_of_ble_eq_true rfl) dX0_mostAlike_44 rfl (fun r823 M824 h825 => ?_)
          obtain ⟨a827, rfl, rfl, h826⟩ := h825
          refine j_istore C 4 [(4, .int (sI a827)), (0, .ref (ad 95)), (1, .int (sI a1)), (2, .int (sI a810)), (3, .int (sI a811))] dX0_mostAlike_47 (by decide) rfl ?_
          refine j_iload C 0 dX0_mostAlike_49 rfl ?_
          have J830 : ∀ (a829 : Int), (0 ≤ a829 ∧ a829 ≤ 9) → jj p l e (cn_R 1) s m args below meth c 0 0 Q 6 dC dI ad cA A M812 61 [(0, .ref (ad 95)), (1, .int (sI a1)), (2, .int (sI a810)), (3, .int (sI a811))] [.int (sI a829)] := by
            intro a829 h831
            refine j_istore C 5 [(5, .int (sI a829)), (0, .ref (ad 95)), (1, .int (sI a1)), (2, .int (sI a810)), (3, .int (sI a811))] dX0_mostAlike_61 (by decide) rfl ?_
            refine j_aload_n C 1 0 dX0_mostAlike_63 rfl rfl ?_
            refine y_getC C 0 97 fX0_mostAlike_15 rfl rfl ft_0_2 sm_0_2 rfl hM812 dX0_mostAlike_64 ?_
            refine j_iload C 0 dX0_mostAlike_67 rfl ?_
            refine j_dup2 C dX0_mostAlike_69 rfl rfl ?_
            refine y_iald C 44 10 _ _ rfl rfl rfl ak_44 an_44 rfl (sb_44 _) hM812 dX0_mostAlike_70 (by omega) (fun a832 ea832 la832 ua832 => ?_)
            refine y_iconst C dX0_mostAlike_71 ?_
            refine y_iadd0 C dX0_mostAlike_72 (fun a833 la833 ua833 => ?_)
            refine y_iastF C 44 10 rfl rfl rfl ak_44 an_44 rfl (sb_44 _) hM812 (PX.w hpr rfl rfl) dX0_mostAlike_73 (by omega) (fun M834 eM834 hM834 => ?_)
            refine j_iload_n C 3 2 dX0_mostAlike_74 rfl rfl ?_
            refine j_aload_n C 1 0 dX0_mostAlike_75 rfl rfl ?_
            refine y_getC C 0 97 fX0_mostAlike_15 rfl rfl ft_0_2 sm_0_2 rfl hM834 dX0_mostAlike_76 ?_
            refine j_iload C 0 dX0_mostAlike_79 rfl ?_
            refine y_iald C 44 10 _ _ rfl rfl rfl ak_44 an_44 rfl (sb_44 _) hM834 dX0_mostAlike_81 (by omega) (fun a835 ea835 la835 ua835 => ?_)
            refine y_mmax C wX0_mostAlike_65_0 wX0_mostAlike_65_1 wX0_mostAlike_65_2 wX0_mostAlike_65_3 (by decide) (Nat.le_of_ble_eq_true rfl) dX0_mostAlike_82 (by omega) (fun a836 ha836 => ?_)
            refine j_istore_n C 2 [(2, .int (sI a836)), (5, .int (sI a829)), (0, .ref (ad 95)), (1, .int (sI a1)), (3, .int (sI a811))] dX0_mostAlike_85 rfl (by decide) rfl ?_
            refine y_iinc C 4 [(3, .int (sI (a811 + 1))), (2, .int (sI a836)), (5, .int (sI a829)), (0, .ref (ad 95)), (1, .int (sI a1))] dX0_mostAlike_86 rfl (by decide) rfl ?_
            refine j_goto C 12 dX0_mostAlike_89 (by decide) ?_
            refine j_lv [3, 4, 1, 0] rfl ?_; exact ih808 a836 (a811 + 1) M834 (by omega) hM834
          refine y_if_lt C 59 dX0_mostAlike_51 (by decide) (by omega) (fun h828 => ?_) (fun h828 => ?_)
          · refine y_bipush C dX0_mostAlike_59 rfl ?_
            refine j_lv [1, 2, 3, 4] rfl ?_; exact J830 9 (by omega)
          · refine j_iload C 0 dX0_mostAlike_54 rfl ?_
            refine j_goto C 61 dX0_mostAlike_56 (by decide) ?_
            refine j_lv [1, 2, 3, 4] rfl ?_; exact J830 a827 (by omega)
  refine j_lv [2, 3, 1, 0] rfl ?_; exact L809 4294967304 0 0 M102 (by omega) hM102
set_option maxHeartbeats 4000000 in
theorem s1_X0_mostTelling {l : Launch} {dC : Nat → ClassId} {dI : Nat → Nat → Nat} {ad : Nat → Nat} {cA : Nat → ClassId} {pr : Nat → Nat → Bool} {Kz : mm_M} {M0 : mm_M} (hM0 : INV pr Kz M0) (hpr : PX pr)  : Ci l 2 yX0_mostTelling wsX0_mostTelling dC dI ad cA [.ref (ad 95)] M0 (fun r M' => ∃ a : Int, r = sI a ∧ INV pr Kz M' ∧ (-1) ≤ a ∧ a ≤ 5) := by
  refine ci_of (cc := cX0_mostTelling) (maxL := 5) (ty := .int) (lv := [(0, .ref (ad 95))]) (by decide) rfl (fun r M' hp => rfl) (Nat.le_of_ble_eq_true rfl) rfl ?_
  intro p e s m args below meth c A Q C hret
  refine y_iconst C dX0_mostTelling_0 ?_
  refine j_istore_n C 1 [(1, .int (sI (-1))), (0, .ref (ad 95))] dX0_mostTelling_1 rfl (by decide) rfl ?_
  refine y_sipush C dX0_mostTelling_2 rfl ?_
  refine j_istore_n C 2 [(2, .int (sI 257)), (1, .int (sI (-1))), (0, .ref (ad 95))] dX0_mostTelling_5 rfl (by decide) rfl ?_
  refine y_iconst C dX0_mostTelling_6 ?_
  refine j_istore_n C 3 [(3, .int (sI 0)), (2, .int (sI 257)), (1, .int (sI (-1))), (0, .ref (ad 95))] dX0_mostTelling_7 rfl (by decide) rfl ?_
  have L215 : ∀ (n213 : Nat), ∀ (a216 : Int) (a217 : Int) (a218 : Int) (M219 : mm_M), ((-1) ≤ a216 ∧ a216 ≤ 5 ∧ 0 ≤ a217 ∧ a217 ≤ 257 ∧ 0 ≤ a218 ∧ a218 ≤ 6 ∧ (6 - a218) < (n213 : Int)) → INV pr Kz M219 → jj p l e (cn_R 2) s m args below meth c 0 0 Q 5 dC dI ad cA A M219 8 [(0, .ref (ad 95)), (1, .int (sI a216)), (2, .int (sI a217)), (3, .int (sI a218))] [] := by
    intro n213
    induction n213 with
    | zero =>
      intro a216 a217 a218 M219 h220 hM219
      exfalso; omega
    | succ n213 ih214 =>
      intro a216 a217 a218 M219 h220 hM219
      refine j_iload_n C 3 3 dX0_mostTelling_8 rfl rfl ?_
      refine j_aload_n C 0 0 dX0_mostTelling_9 rfl rfl ?_
      refine y_getC C 0 88 fX0_mostTelling_25 rfl rfl ft_0_0 sm_0_0 rfl hM219 dX0_mostTelling_10 ?_
      refine j_callVi C (d := 0) (As := []) (st := [.int (sI a218)]) 88 (s_lt rfl rfl) (s_kc (c := 4) rfl rfl) (by decide) rfl (s1_X5_buyers hM219) gX0_mostTelling_X5_buyers rfl hdX5_buyers (by decide) (Nat.le_of_ble_eq_true rfl) dX0_mostTelling_13 rfl (fun r221 M222 h223 => ?_)
      obtain ⟨a225, rfl, rfl, h224⟩ := h223
      refine y_icmp_ge C 43 dX0_mostTelling_16 (by decide) (by omega) (fun h226 => ?_) (fun h226 => ?_)
      · refine j_iload_n C 1 1 dX0_mostTelling_43 rfl rfl ?_
        exact hret _ _ _ _ dX0_mostTelling_44 ⟨a216, rfl, hM219, by omega⟩
      · refine j_aload_n C 0 0 dX0_mostTelling_19 rfl rfl ?_
        refine j_iload_n C 3 3 dX0_mostTelling_20 rfl rfl ?_
        refine j_callVi C (d := 1) (As := [.int (sI a218)]) (st := []) 95 (s_lt rfl rfl) (s_kc (c := 0) rfl rfl) (by decide) rfl (s1_X0_mostAlike hM219 hpr a218 (by omega)) gX0_mostTelling_X0_mostAlike rfl hdX0_mostAlike (by decide) (Nat.le_of_ble_eq_true rfl) dX0_mostTelling_21 rfl (fun r227 M228 h229 => ?_)
        obtain ⟨a231, rfl, hM228, h230⟩ := h229
        refine j_istore C 4 [(4, .int (sI a231)), (0, .ref (ad 95)), (1, .int (sI a216)), (2, .int (sI a217)), (3, .int (sI a218))] dX0_mostTelling_24 (by decide) rfl ?_
        refine j_iload C 0 dX0_mostTelling_26 rfl ?_
        refine j_iload_n C 3 2 dX0_mostTelling_28 rfl rfl ?_
        refine y_icmp_ge C 37 dX0_mostTelling_29 (by decide) (by omega) (fun h232 => ?_) (fun h232 => ?_)
        · refine y_iinc C 4 [(3, .int (sI (a218 + 1))), (4, .int (sI a231)), (0, .ref (ad 95)), (1, .int (sI a216)), (2, .int (sI a217))] dX0_mostTelling_37 rfl (by decide) rfl ?_
          refine j_goto C 8 dX0_mostTelling_40 (by decide) ?_
          refine j_lv [2, 3, 4, 0] rfl ?_; exact ih214 a216 a217 (a218 + 1) M228 (by omega) hM228
        · refine j_iload C 0 dX0_mostTelling_32 rfl ?_
          refine j_istore_n C 2 [(2, .int (sI a231)), (4, .int (sI a231)), (0, .ref (ad 95)), (1, .int (sI a216)), (3, .int (sI a218))] dX0_mostTelling_34 rfl (by decide) rfl ?_
          refine j_iload_n C 4 3 dX0_mostTelling_35 rfl rfl ?_
          refine j_istore_n C 1 [(1, .int (sI a218)), (2, .int (sI a231)), (4, .int (sI a231)), (0, .ref (ad 95)), (3, .int (sI a218))] dX0_mostTelling_36 rfl (by decide) rfl ?_
          refine y_iinc C 4 [(3, .int (sI (a218 + 1))), (1, .int (sI a218)), (2, .int (sI a231)), (4, .int (sI a231)), (0, .ref (ad 95))] dX0_mostTelling_37 rfl (by decide) rfl ?_
          refine j_goto C 8 dX0_mostTelling_40 (by decide) ?_
          refine j_lv [4, 1, 2, 0] rfl ?_; exact ih214 a218 a231 (a218 + 1) M228 (by omega) hM228
  refine j_lv [3, 2, 1, 0] rfl ?_; exact L215 2010 (-1) 257 0 M0 (by omega) hM0
