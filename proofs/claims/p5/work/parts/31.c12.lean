set_option maxHeartbeats 4000000 in
theorem s1_X0_mostTelling {l : Launch} {dC : Nat → ClassId} {dI : Nat → Nat → Nat} {ad : Nat → Nat} {cA : Nat → ClassId} {pr : Nat → Nat → Bool} {Kz : mm_M} {M0 : mm_M} (hM0 : INV pr Kz M0) (hpr : PX pr)  : Ci l 2 yX0_mostTelling wsX0_mostTelling dC dI ad cA [.ref (ad 95)] M0 (fun r M' => ∃ a : Int, r = sI a ∧ INV pr Kz M' ∧ (-1) ≤ a ∧ a ≤ 5) := by
  refine ci_of (cc := cX0_mostTelling) (maxL := 5) (ty := .int) (lv := [(0, .ref (ad 95))]) (by decide) rfl (fun r M' hp => rfl) (Nat.le_of_ble_eq_true rfl) rfl ?_
  intro p e s m args below meth c A Q C hret
  refine y_iconst C dX0_mostTelling_0 ?_
  refine j_istore_n C 1 [(1, .int (sI (-1))), (0, .ref (ad 95))] dX0_mostTelling_1 rfl (by decide) rfl ?_
  refine y_sipush C dX0_mostTelling_2 rfl ?_
  refine j_istore_n C 2 [(2, .int (sI 257)), (1, .int (sI (-1))), (0, .ref (ad 95))] dX0_mostTelling_5 rfl (by decide) rfl ?_
  refine y_iconst C dX0_mostTelling_6 ?_
  refine j_istore_n C 3 [(3, .int (sI 0)), (2, .int (sI 257)), (1, .int (sI (-1))), (0, .ref (ad 95))] dX0_mostTelling_7 rfl (by decide) rfl ?_
  have L215 : ∀ (n213 : Nat), ∀ (a216 : Int) (a217 : Int) (a218 : Int) (M219 : mm_M), ((-1) ≤ a216 ∧ a216 ≤ 5 ∧ 0 ≤ a217 ∧ a217 ≤ 257 ∧ 0 ≤ a218 ∧ a218 ≤ 6 ∧ (6 - a218) < (n213 : Int)) → INV pr Kz M219 → jj p l e (cn_R 2) s m args below meth c 0 0 Q 5 dC dI ad cA A M219 8 [(0, .ref (ad 95)), (1, .int (sI a216)), (2, .int (sI a217)), (3, .int (sI a218))] [] := by
    intro n213
    induction n213 with
    | zero =>
      intro a216 a217 a218 M219 h220 hM219
      exfalso; omega
    | succ n213 ih214 =>
      intro a216 a217 a218 M219 h220 hM219
      refine j_iload_n C 3 3 dX0_mostTelling_8 rfl rfl ?_
      refine j_aload_n C 0 0 dX0_mostTelling_9 rfl rfl ?_
      refine y_getC C 0 88 fX0_mostTelling_25 rfl rfl ft_0_0 sm_0_0 rfl hM219 dX0_mostTelling_10 ?_
      refine j_callVi C (d := 0) (As := []) (st := [.int (sI a218)]) 88 (s_lt rfl rfl) (s_kc (c := 4) rfl rfl) (by decide) rfl (s1_X5_buyers hM219) gX0_mostTelling_X5_buyers rfl hdX5_buyers (by decide) (Nat.le_of_ble_eq_true rfl) dX0_mostTelling_13 rfl (fun r221 M222 h223 => ?_)
      obtain ⟨a225, rfl, rfl, h224⟩ := h223
      refine y_icmp_ge C 43 dX0_mostTelling_16 (by decide) (by omega) (fun h226 => ?_) (fun h226 => ?_)
      · refine j_iload_n C 1 1 dX0_mostTelling_43 rfl rfl ?_
        exact hret _ _ _ _ dX0_mostTelling_44 ⟨a216, rfl, hM219, by omega⟩
      · refine j_aload_n C 0 0 dX0_mostTelling_19 rfl rfl ?_
        refine j_iload_n C 3 3 dX0_mostTelling_20 rfl rfl ?_
        refine j_callVi C (d := 1) (As := [.int (sI a218)]) (st := []) 95 (s_lt rfl rfl) (s_kc (c := 0) rfl rfl) (by decide) rfl (s1_X0_mostAlike hM219 hpr a218 (by omega)) gX0_mostTelling_X0_mostAlike rfl hdX0_mostAlike (by decide) (Nat.le_of_ble_eq_true rfl) dX0_mostTelling_21 rfl (fun r227 M228 h229 => ?_)
        obtain ⟨a231, rfl, hM228, h230⟩ := h229
        refine j_istore C 4 [(4, .int (sI a231)), (0, .ref (ad 95)), (1, .int (sI a216)), (2, .int (sI a217)), (3, .int (sI a218))] dX0_mostTelling_24 (by decide) rfl ?_
        refine j_iload C 0 dX0_mostTelling_26 rfl ?_
        refine j_iload_n C 3 2 dX0_mostTelling_28 rfl rfl ?_
        refine y_icmp_ge C 37 dX0_mostTelling_29 (by decide) (by omega) (fun h232 => ?_) (fun h232 => ?_)
        · refine y_iinc C 4 [(3, .int (sI (a218 + 1))), (4, .int (sI a231)), (0, .ref (ad 95)), (1, .int (sI a216)), (2, .int (sI a217))] dX0_mostTelling_37 rfl (by decide) rfl ?_
          refine j_goto C 8 dX0_mostTelling_40 (by decide) ?_
          refine j_lv [2, 3, 4, 0] rfl ?_; exact ih214 a216 a217 (a218 + 1) M228 (by omega) hM228
        · refine j_iload C 0 dX0_mostTelling_32 rfl ?_
          refine j_istore_n C 2 [(2, .int (sI a231)), (4, .int (sI a231)), (0, .ref (ad 95)), (1, .int (sI a216)), (3, .int (sI a218))] dX0_mostTelling_34 rfl (by decide) rfl ?_
          refine j_iload_n C 4 3 dX0_mostTelling_35 rfl rfl ?_
          refine j_istore_n C 1 [(1, .int (sI a218)), (2, .int (sI a231)), (4, .int (sI a231)), (0, .ref (ad 95)), (3, .int (sI a218))] dX0_mostTelling_36 rfl (by decide) rfl ?_
          refine y_iinc C 4 [(3, .int (sI (a218 + 1))), (1, .int (sI a218)), (2, .int (sI a231)), (4, .int (sI a231)), (0, .ref (ad 95))] dX0_mostTelling_37 rfl (by decide) rfl ?_
          refine j_goto C 8 dX0_mostTelling_40 (by decide) ?_
          refine j_lv [4, 1, 2, 0] rfl ?_; exact ih214 a218 a231 (a218 + 1) M228 (by omega) hM228
  refine j_lv [3, 2, 1, 0] rfl ?_; exact L215 2010 (-1) 257 0 M0 (by omega) hM0
set_option maxHeartbeats 4000000 in
theorem s1_X11_ask {l : Launch} {dC : Nat → ClassId} {dI : Nat → Nat → Nat} {ad : Nat → Nat} {cA : Nat → ClassId} {pr : Nat → Nat → Bool} {Kz : mm_M} {M0 : mm_M} (hM0 : INV pr Kz M0) (hpr : PX pr) (a1 : Int) (ha1 : -2147483648 ≤ a1 ∧ a1 ≤ 2147483647) : Ci l 6 yX11_ask wsX11_ask dC dI ad cA [.ref (ad 0), .int (sI a1)] M0 (fun r M' => ∃ a : Int, r = sI a ∧ INV pr Kz M' ∧ (-6) ≤ a ∧ a ≤ 5) := by
  refine ci_of (cc := cX11_ask) (maxL := 3) (ty := .int) (lv := [(0, .ref (ad 0)), (1, .int (sI a1))]) (by decide) rfl (fun r M' hp => rfl) (Nat.le_of_ble_eq_true rfl) rfl ?_
  intro p e s m args below meth c A Q C hret
  refine j_aload_n C 0 0 dX11_ask_0 rfl rfl ?_
  refine j_iload_n C 1 1 dX11_ask_1 rfl rfl ?_
  refine j_callVi C (d := 2) (As := [.int (sI a1)]) (st := []) 0 (s_lt rfl rfl) (s_kc (c := 10) rfl rfl) (by decide) rfl (s1_X11_seenRefusal hM0 a1 (by omega)) gX11_ask_X11_seenRefusal rfl hdX11_seenRefusal (by decide) (Nat.le_of_ble_eq_true rfl) dX11_ask_2 rfl (fun r101 M102 h103 => ?_)
  obtain ⟨a105, rfl, rfl, h104⟩ := h103
  refine j_istore_n C 2 [(2, .int (sI a105)), (0, .ref (ad 0)), (1, .int (sI a1))] dX11_ask_5 rfl (by decide) rfl ?_
  refine j_iload_n C 0 2 dX11_ask_6 rfl rfl ?_
  refine y_if_eq C 12 dX11_ask_7 (by decide) (by omega) (fun h106 => ?_) (fun h106 => ?_)
  · refine j_aload_n C 1 0 dX11_ask_12 rfl rfl ?_
    refine y_getC C 10 88 fX11_ask_94 rfl rfl ft_10_14 sm_10_14 rfl hM0 dX11_ask_13 ?_
    refine j_aload_n C 1 0 dX11_ask_16 rfl rfl ?_
    refine y_getM C 10 6 fX11_ask_26 rfl rfl ft_10_4 sm_10_4 (by decide) hM0 dX11_ask_17 (fun v107 ev107 cv107 => ?_)
    refine j_aload_n C 1 0 dX11_ask_20 rfl rfl ?_
    refine y_getC C 10 12 fX11_ask_36 rfl rfl ft_10_6 sm_10_6 rfl hM0 dX11_ask_21 ?_
    refine j_callVv C (d := 5) (As := [.ref (ad v107), .ref (ad 12)]) (st := []) 88 (s_lt rfl rfl) (s_kc (c := 4) rfl rfl) (by decide) rfl (s1_X5_lookEverywhere hM0 hpr cv107 rfl) gX11_ask_X5_lookEverywhere rfl hdX5_lookEverywhere (by decide) (Nat.le_of_ble_eq_true rfl) dX11_ask_24 rfl (fun M109 h110 => ?_)
    have hM109 := h110
    refine j_aload_n C 1 0 dX11_ask_27 rfl rfl ?_
    refine y_getC C 10 95 fX11_ask_103 rfl rfl ft_10_15 sm_10_15 rfl hM109 dX11_ask_28 ?_
    refine j_aload_n C 1 0 dX11_ask_31 rfl rfl ?_
    refine y_getC C 10 50 fX11_ask_52 rfl rfl ft_10_9 sm_10_9 rfl hM109 dX11_ask_32 ?_
    refine j_iload_n C 2 1 dX11_ask_35 rfl rfl ?_
    refine y_aald C 28 4 9 rfl rfl rfl rfl an_28 rfl sma_28 sta_28 (by decide) hM109 dX11_ask_36 (by omega) (fun v112 cv112 => ?_)
    refine j_callVv C (d := 3) (As := [.ref (ad v112)]) (st := []) 95 (s_lt rfl rfl) (s_kc (c := 0) rfl rfl) (by decide) rfl (s1_X0_gather hM109 hpr cv112) gX11_ask_X0_gather rfl hdX0_gather (by decide) (Nat.le_of_ble_eq_true rfl) dX11_ask_37 rfl (fun M114 h115 => ?_)
    have hM114 := h115
    refine j_aload_n C 1 0 dX11_ask_40 rfl rfl ?_
    refine y_getC C 10 95 fX11_ask_103 rfl rfl ft_10_15 sm_10_15 rfl hM114 dX11_ask_41 ?_
    refine y_getI C 0 _ _ fX11_ask_354 rfl rfl ft_0_3 sb_0_3 hM114 dX11_ask_44 (fun a117 ea117 la117 ua117 => ?_)
    refine y_if_ne C 54 dX11_ask_47 (by decide) (by omega) (fun h119 => ?_) (fun h119 => ?_)
    · refine j_aload_n C 1 0 dX11_ask_54 rfl rfl ?_
      refine y_getC C 10 95 fX11_ask_103 rfl rfl ft_10_15 sm_10_15 rfl hM114 dX11_ask_55 ?_
      refine j_callVi C (d := 2) (As := []) (st := []) 95 (s_lt rfl rfl) (s_kc (c := 0) rfl rfl) (by decide) rfl (s1_X0_mostTelling hM114 hpr) gX11_ask_X0_mostTelling rfl hdX0_mostTelling (by decide) (Nat.le_of_ble_eq_true rfl) dX11_ask_58 rfl (fun r120 M121 h122 => ?_)
      obtain ⟨a124, rfl, hM121, h123⟩ := h122
      exact hret _ _ _ _ dX11_ask_61 ⟨a124, rfl, hM121, by omega⟩
    · refine y_iconst C dX11_ask_50 ?_
      refine j_goto C 61 dX11_ask_51 (by decide) ?_
      exact hret _ _ _ _ dX11_ask_61 ⟨(-1), rfl, hM114, by omega⟩
  · refine j_iload_n C 0 2 dX11_ask_10 rfl rfl ?_
    exact hret _ _ _ _ dX11_ask_11 ⟨a105, rfl, hM0, by omega⟩
set_option maxHeartbeats 4000000 in
theorem s1_X11_cameRefusal {l : Launch} {dC : Nat → ClassId} {dI : Nat → Nat → Nat} {ad : Nat → Nat} {cA : Nat → ClassId} {pr : Nat → Nat → Bool} {Kz : mm_M} {M0 : mm_M} (hM0 : INV pr Kz M0) (a1 : Int) (ha1 : -2147483648 ≤ a1 ∧ a1 ≤ 2147483647) : Ci l 2 yX11_cameRefusal wsX11_cameRefusal dC dI ad cA [.ref (ad 0), .int (sI a1)] M0 (fun r M' => ∃ a : Int, r = sI a ∧ M0 = M' ∧ (-6) ≤ a ∧ a ≤ 0 ∧ (¬ a = 0 ∨ (0 ≤ a1 ∧ a1 < 4))) := by
  refine ci_of (cc := cX11_cameRefusal) (maxL := 5) (ty := .int) (lv := [(0, .ref (ad 0)), (1, .int (sI a1))]) (by decide) rfl (fun r M' hp => rfl) (Nat.le_of_ble_eq_true rfl) rfl ?_
  intro p e s m args below meth c A Q C hret
  refine j_aload_n C 0 0 dX11_cameRefusal_0 rfl rfl ?_
  refine j_iload_n C 1 1 dX11_cameRefusal_1 rfl rfl ?_
  refine j_callVi C (d := 1) (As := [.int (sI a1)]) (st := []) 0 (s_lt rfl rfl) (s_kc (c := 10) rfl rfl) (by decide) rfl (s1_X11_trayRefusal hM0 a1 (by omega)) gX11_cameRefusal_X11_trayRefusal rfl hdX11_trayRefusal (by decide) (Nat.le_of_ble_eq_true rfl) dX11_cameRefusal_2 rfl (fun r101 M102 h103 => ?_)
  obtain ⟨a105, rfl, rfl, h104⟩ := h103
  refine j_istore_n C 2 [(2, .int (sI a105)), (0, .ref (ad 0)), (1, .int (sI a1))] dX11_cameRefusal_5 rfl (by decide) rfl ?_
  refine j_iload_n C 0 2 dX11_cameRefusal_6 rfl rfl ?_
  refine y_if_eq C 12 dX11_cameRefusal_7 (by decide) (by omega) (fun h106 => ?_) (fun h106 => ?_)
  · refine j_aload_n C 1 0 dX11_cameRefusal_12 rfl rfl ?_
    refine y_getC C 10 50 fX11_cameRefusal_52 rfl rfl ft_10_9 sm_10_9 rfl hM0 dX11_cameRefusal_13 ?_
    refine j_iload_n C 2 1 dX11_cameRefusal_16 rfl rfl ?_
    refine y_aald C 28 4 9 rfl rfl rfl rfl an_28 rfl sma_28 sta_28 (by decide) hM0 dX11_cameRefusal_17 (by omega) (fun v107 cv107 => ?_)
    refine j_astore_n C 3 [(3, .ref (ad v107)), (2, .int (sI a105)), (0, .ref (ad 0)), (1, .int (sI a1))] dX11_cameRefusal_18 rfl (by decide) rfl ?_
    refine j_aload_n C 0 3 dX11_cameRefusal_19 rfl rfl ?_
    refine j_callVi C (d := 1) (As := []) (st := []) v107 (s_lt cv107 rfl) (s_kc (c := 9) cv107 rfl) (by decide) rfl (s1_X10_size hM0 cv107) gX11_cameRefusal_X10_size rfl hdX10_size (by decide) (Nat.le_of_ble_eq_true rfl) dX11_cameRefusal_20 rfl (fun r108 M109 h110 => ?_)
    obtain ⟨a112, rfl, rfl, h111⟩ := h110
    refine y_iconst C dX11_cameRefusal_23 ?_
    refine y_icmp_lt C 36 dX11_cameRefusal_24 (by decide) (by omega) (fun h113 => ?_) (fun h113 => ?_)
    · refine y_bipush C dX11_cameRefusal_36 rfl ?_
      exact hret _ _ _ _ dX11_cameRefusal_38 ⟨(-4), rfl, rfl, by omega⟩
    · refine j_aload_n C 0 3 dX11_cameRefusal_27 rfl rfl ?_
      refine j_callVi C (d := 1) (As := []) (st := []) v107 (s_lt cv107 rfl) (s_kc (c := 9) cv107 rfl) (by decide) rfl (s1_X10_size hM0 cv107) gX11_cameRefusal_X10_size rfl hdX10_size (by decide) (Nat.le_of_ble_eq_true rfl) dX11_cameRefusal_28 rfl (fun r114 M115 h116 => ?_)
      obtain ⟨a118, rfl, rfl, h117⟩ := h116
      refine y_bipush C dX11_cameRefusal_31 rfl ?_
      refine y_icmp_le C 39 dX11_cameRefusal_33 (by decide) (by omega) (fun h119 => ?_) (fun h119 => ?_)
      · refine y_iconst C dX11_cameRefusal_39 ?_
        refine j_istore C 4 [(4, .int (sI 0)), (3, .ref (ad v107)), (2, .int (sI a105)), (0, .ref (ad 0)), (1, .int (sI a1))] dX11_cameRefusal_40 (by decide) rfl ?_
        have L479 : ∀ (n477 : Nat), ∀ (a480 : Int), (0 ≤ a480 ∧ a480 ≤ 40 ∧ (40 - a480) < (n477 : Int)) → jj p l e (cn_R 2) s m args below meth c 0 0 Q 5 dC dI ad cA A M0 42 [(0, .ref (ad 0)), (3, .ref (ad v107)), (4, .int (sI a480))] [] := by
          intro n477
          induction n477 with
          | zero =>
            intro a480 h481
            exfalso; omega
          | succ n477 ih478 =>
            intro a480 h481
            refine j_iload C 2 dX11_cameRefusal_42 rfl ?_
            refine j_aload_n C 1 3 dX11_cameRefusal_44 rfl rfl ?_
            refine j_callVi C (d := 1) (As := []) (st := [.int (sI a480)]) v107 (s_lt cv107 rfl) (s_kc (c := 9) cv107 rfl) (by decide) rfl (s1_X10_size hM0 cv107) gX11_cameRefusal_X10_size rfl hdX10_size (by decide) (Nat.le_of_ble_eq_true rfl) dX11_cameRefusal_45 rfl (fun r482 M483 h484 => ?_)
            obtain ⟨a486, rfl, rfl, h485⟩ := h484
            refine y_icmp_ge C 91 dX11_cameRefusal_48 (by decide) (by omega) (fun h487 => ?_) (fun h487 => ?_)
            · refine y_iconst C dX11_cameRefusal_91 ?_
              exact hret _ _ _ _ dX11_cameRefusal_92 ⟨0, rfl, rfl, by omega⟩
            · refine j_aload_n C 1 3 dX11_cameRefusal_51 rfl rfl ?_
              refine j_iload C 2 dX11_cameRefusal_52 rfl ?_
              refine j_callVj C (d := 1) (As := [.int (sI a480)]) (st := []) v107 (s_lt cv107 rfl) (s_kc (c := 9) cv107 rfl) (by decide) rfl (s1_X10_numberAt hM0 cv107 a480 (by omega)) gX11_cameRefusal_X10_numberAt rfl hdX10_numberAt (by decide) (Nat.le_of_ble_eq_true rfl) dX11_cameRefusal_54 rfl (fun r488 M489 h490 => ?_)
              obtain ⟨a492, rfl, rfl, h491⟩ := h490
              refine y_ldc2 C (-1) dX11_cameRefusal_57 kX11_cameRefusal_219 rfl ?_
              refine y_lcmp_lt C 82 dX11_cameRefusal_60 dX11_cameRefusal_61 (by decide) (by omega) (fun h493 => ?_) (fun h493 => ?_)
              · refine y_bipush C dX11_cameRefusal_82 rfl ?_
                exact hret _ _ _ _ dX11_cameRefusal_84 ⟨(-3), rfl, rfl, by omega⟩
              · refine j_aload_n C 1 3 dX11_cameRefusal_64 rfl rfl ?_
                refine j_iload C 2 dX11_cameRefusal_65 rfl ?_
                refine j_callVj C (d := 1) (As := [.int (sI a480)]) (st := []) v107 (s_lt cv107 rfl) (s_kc (c := 9) cv107 rfl) (by decide) rfl (s1_X10_numberAt hM0 cv107 a480 (by omega)) gX11_cameRefusal_X10_numberAt rfl hdX10_numberAt (by decide) (Nat.le_of_ble_eq_true rfl) dX11_cameRefusal_67 rfl (fun r494 M495 h496 => ?_)
                obtain ⟨a498, rfl, rfl, h497⟩ := h496
                refine j_aload_n C 0 0 dX11_cameRefusal_70 rfl rfl ?_
                refine y_getC C 10 12 fX11_cameRefusal_36 rfl rfl ft_10_6 sm_10_6 rfl hM0 dX11_cameRefusal_71 ?_
                refine y_getI C 8 _ _ fX11_cameRefusal_160 rfl rfl ft_8_0 sb_8_0 hM0 dX11_cameRefusal_74 (fun a499 ea499 la499 ua499 => ?_)
                refine y_i2l C dX11_cameRefusal_77 (by omega) ?_
                refine y_lcmp_lt C 85 dX11_cameRefusal_78 dX11_cameRefusal_79 (by decide) (by omega) (fun h501 => ?_) (fun h501 => ?_)
                · refine y_iinc C 2 [(4, .int (sI (a480 + 1))), (0, .ref (ad 0)), (3, .ref (ad v107))] dX11_cameRefusal_85 rfl (by decide) rfl ?_
                  refine j_goto C 42 dX11_cameRefusal_88 (by decide) ?_
                  refine j_lv [1, 2, 0] rfl ?_; exact ih478 (a480 + 1) (by omega)
                · refine y_bipush C dX11_cameRefusal_82 rfl ?_
                  exact hret _ _ _ _ dX11_cameRefusal_84 ⟨(-3), rfl, rfl, by omega⟩
        refine j_lv [3, 1, 0] rfl ?_; exact L479 2010 0 (by omega)
      · refine y_bipush C dX11_cameRefusal_36 rfl ?_
        exact hret _ _ _ _ dX11_cameRefusal_38 ⟨(-4), rfl, rfl, by omega⟩
  · refine j_iload_n C 0 2 dX11_cameRefusal_10 rfl rfl ?_
    exact hret _ _ _ _ dX11_cameRefusal_11 ⟨a105, rfl, rfl, by omega⟩
set_option maxHeartbeats 4000000 in
theorem s1_X0_rows {l : Launch} {dC : Nat → ClassId} {dI : Nat → Nat → Nat} {ad : Nat → Nat} {cA : Nat → ClassId} {pr : Nat → Nat → Bool} {Kz : mm_M} {M0 : mm_M} (hM0 : INV pr Kz M0) (hpr : PX pr) {v1 : Nat} (cv1 : s_c v1 = 9) : Cj l 2 yX0_rows wsX0_rows dC dI ad cA [.ref (ad 95), .ref (ad v1)] M0 (fun r M' => ∃ a : Int, r = sJ a ∧ INV pr Kz M' ∧ (-9223372036854775808) ≤ a ∧ a ≤ 9223372036854775807) := by
  refine cj_of (cc := cX0_rows) (maxL := 3) (lv := [(0, .ref (ad 95)), (1, .ref (ad v1))]) (by decide) rfl (Nat.le_of_ble_eq_true rfl) rfl ?_
  intro p e s m args below meth c A Q C hret
  refine j_aload_n C 0 0 dX0_rows_0 rfl rfl ?_
  refine y_getC C 0 88 fX0_rows_25 rfl rfl ft_0_0 sm_0_0 rfl hM0 dX0_rows_1 ?_
  refine j_callVv C (d := 1) (As := []) (st := []) 88 (s_lt rfl rfl) (s_kc (c := 4) rfl rfl) (by decide) rfl (s1_X5_beginRows hM0 hpr) gX0_rows_X5_beginRows rfl hdX5_beginRows (by decide) (Nat.le_of_ble_eq_true rfl) dX0_rows_4 rfl (fun M102 h103 => ?_)
  have hM102 := h103
  refine y_iconst C dX0_rows_7 ?_
  refine j_istore_n C 2 [(2, .int (sI 0)), (0, .ref (ad 95)), (1, .ref (ad v1))] dX0_rows_8 rfl (by decide) rfl ?_
  have L413 : ∀ (n411 : Nat), ∀ (a414 : Int) (M415 : mm_M), (0 ≤ a414 ∧ a414 ≤ 40 ∧ (40 - a414) < (n411 : Int)) → INV pr Kz M415 → jj p l e (cn_R 2) s m args below meth c 0 0 Q 3 dC dI ad cA A M415 9 [(0, .ref (ad 95)), (1, .ref (ad v1)), (2, .int (sI a414))] [] := by
    intro n411
    induction n411 with
    | zero =>
      intro a414 M415 h416 hM415
      exfalso; omega
    | succ n411 ih412 =>
      intro a414 M415 h416 hM415
      refine j_iload_n C 2 2 dX0_rows_9 rfl rfl ?_
      refine j_aload_n C 1 1 dX0_rows_10 rfl rfl ?_
      refine j_callVi C (d := 1) (As := []) (st := [.int (sI a414)]) v1 (s_lt cv1 rfl) (s_kc (c := 9) cv1 rfl) (by decide) rfl (s1_X10_size hM415 cv1) gX0_rows_X10_size rfl hdX10_size (by decide) (Nat.le_of_ble_eq_true rfl) dX0_rows_11 rfl (fun r417 M418 h419 => ?_)
      obtain ⟨a421, rfl, rfl, h420⟩ := h419
      refine y_icmp_ge C 36 dX0_rows_14 (by decide) (by omega) (fun h422 => ?_) (fun h422 => ?_)
      · refine j_aload_n C 0 0 dX0_rows_36 rfl rfl ?_
        refine y_getC C 0 88 fX0_rows_25 rfl rfl ft_0_0 sm_0_0 rfl hM415 dX0_rows_37 ?_
        refine j_callVj C (d := 0) (As := []) (st := []) 88 (s_lt rfl rfl) (s_kc (c := 4) rfl rfl) (by decide) rfl (s1_X5_allWays hM415) gX0_rows_X5_allWays rfl hdX5_allWays (by decide) (Nat.le_of_ble_eq_true rfl) dX0_rows_40 rfl (fun r433 M434 h435 => ?_)
        obtain ⟨a437, rfl, rfl, h436⟩ := h435
        exact hret _ _ _ _ dX0_rows_43 ⟨a437, rfl, hM415, by omega⟩
      · refine j_aload_n C 0 0 dX0_rows_17 rfl rfl ?_
        refine y_getC C 0 88 fX0_rows_25 rfl rfl ft_0_0 sm_0_0 rfl hM415 dX0_rows_18 ?_
        refine j_aload_n C 1 1 dX0_rows_21 rfl rfl ?_
        refine j_iload_n C 2 2 dX0_rows_22 rfl rfl ?_
        refine j_callVj C (d := 1) (As := [.int (sI a414)]) (st := [.ref (ad 88)]) v1 (s_lt cv1 rfl) (s_kc (c := 9) cv1 rfl) (by decide) rfl (s1_X10_numberAt hM415 cv1 a414 (by omega)) gX0_rows_X10_numberAt rfl hdX10_numberAt (by decide) (Nat.le_of_ble_eq_true rfl) dX0_rows_23 rfl (fun r423 M424 h425 => ?_)
        obtain ⟨a427, rfl, rfl, h426⟩ := h425
        refine y_l2i C dX0_rows_26 ?_
        refine y_topI (fun a428 la428 ua428 => ?_)
        refine j_callVv C (d := 1) (As := [.int (sI a428)]) (st := []) 88 (s_lt rfl rfl) (s_kc (c := 4) rfl rfl) (by decide) rfl (s1_X5_lengthenRows hM415 hpr a428 (by omega)) gX0_rows_X5_lengthenRows rfl hdX5_lengthenRows (by decide) (Nat.le_of_ble_eq_true rfl) dX0_rows_27 rfl (fun M430 h431 => ?_)
        have hM430 := h431
        refine y_iinc C 2 [(2, .int (sI (a414 + 1))), (0, .ref (ad 95)), (1, .ref (ad v1))] dX0_rows_30 rfl (by decide) rfl ?_
        refine j_goto C 9 dX0_rows_33 (by decide) ?_
        refine j_lv [1, 2, 0] rfl ?_; exact ih412 (a414 + 1) M430 (by omega) hM430
  refine j_lv [1, 2, 0] rfl ?_; exact L413 2010 0 M102 (by omega) hM102
set_option maxHeartbeats 4000000 in
theorem s1_X11_came {l : Launch} {dC : Nat → ClassId} {dI : Nat → Nat → Nat} {ad : Nat → Nat} {cA : Nat → ClassId} {pr : Nat → Nat → Bool} {Kz : mm_M} {M0 : mm_M} (hM0 : INV pr Kz M0) (hpr : PX pr) (a1 : Int) (ha1 : -2147483648 ≤ a1 ∧ a1 ≤ 2147483647) : Cj l 6 yX11_came wsX11_came dC dI ad cA [.ref (ad 0), .int (sI a1)] M0 (fun r M' => ∃ a : Int, r = sJ a ∧ INV pr Kz M' ∧ (-9223372036854775808) ≤ a ∧ a ≤ 9223372036854775807) := by
  refine cj_of (cc := cX11_came) (maxL := 3) (lv := [(0, .ref (ad 0)), (1, .int (sI a1))]) (by decide) rfl (Nat.le_of_ble_eq_true rfl) rfl ?_
  intro p e s m args below meth c A Q C hret
  refine j_aload_n C 0 0 dX11_came_0 rfl rfl ?_
  refine j_iload_n C 1 1 dX11_came_1 rfl rfl ?_
  refine j_callVi C (d := 2) (As := [.int (sI a1)]) (st := []) 0 (s_lt rfl rfl) (s_kc (c := 10) rfl rfl) (by decide) rfl (s1_X11_cameRefusal hM0 a1 (by omega)) gX11_came_X11_cameRefusal rfl hdX11_cameRefusal (by decide) (Nat.le_of_ble_eq_true rfl) dX11_came_2 rfl (fun r101 M102 h103 => ?_)
  obtain ⟨a105, rfl, rfl, h104⟩ := h103
  refine j_istore_n C 2 [(2, .int (sI a105)), (0, .ref (ad 0)), (1, .int (sI a1))] dX11_came_5 rfl (by decide) rfl ?_
  refine j_iload_n C 0 2 dX11_came_6 rfl rfl ?_
  refine y_if_eq C 13 dX11_came_7 (by decide) (by omega) (fun h106 => ?_) (fun h106 => ?_)
  · refine j_aload_n C 1 0 dX11_came_13 rfl rfl ?_
    refine y_getC C 10 88 fX11_came_94 rfl rfl ft_10_14 sm_10_14 rfl hM0 dX11_came_14 ?_
    refine j_aload_n C 1 0 dX11_came_17 rfl rfl ?_
    refine y_getM C 10 6 fX11_came_26 rfl rfl ft_10_4 sm_10_4 (by decide) hM0 dX11_came_18 (fun v107 ev107 cv107 => ?_)
    refine j_aload_n C 1 0 dX11_came_21 rfl rfl ?_
    refine y_getC C 10 12 fX11_came_36 rfl rfl ft_10_6 sm_10_6 rfl hM0 dX11_came_22 ?_
    refine j_aload_n C 1 0 dX11_came_25 rfl rfl ?_
    refine y_getC C 10 12 fX11_came_36 rfl rfl ft_10_6 sm_10_6 rfl hM0 dX11_came_26 ?_
    refine y_getI C 8 _ _ fX11_came_153 rfl rfl ft_8_4 sb_8_4 hM0 dX11_came_29 (fun a108 ea108 la108 ua108 => ?_)
    refine j_callVv C (d := 5) (As := [.ref (ad v107), .ref (ad 12), .int (sI a108)]) (st := []) 88 (s_lt rfl rfl) (s_kc (c := 4) rfl rfl) (by decide) rfl (s1_X5_look hM0 hpr cv107 rfl a108 (by omega)) gX11_came_X5_look rfl hdX5_look (by decide) (Nat.le_of_ble_eq_true rfl) dX11_came_32 rfl (fun M111 h112 => ?_)
    have hM111 := h112
    refine j_aload_n C 1 0 dX11_came_35 rfl rfl ?_
    refine y_getC C 10 95 fX11_came_103 rfl rfl ft_10_15 sm_10_15 rfl hM111 dX11_came_36 ?_
    refine j_aload_n C 1 0 dX11_came_39 rfl rfl ?_
    refine y_getC C 10 50 fX11_came_52 rfl rfl ft_10_9 sm_10_9 rfl hM111 dX11_came_40 ?_
    refine j_iload_n C 2 1 dX11_came_43 rfl rfl ?_
    refine y_aald C 28 4 9 rfl rfl rfl rfl an_28 rfl sma_28 sta_28 (by decide) hM111 dX11_came_44 (by omega) (fun v114 cv114 => ?_)
    refine j_callVj C (d := 2) (As := [.ref (ad v114)]) (st := []) 95 (s_lt rfl rfl) (s_kc (c := 0) rfl rfl) (by decide) rfl (s1_X0_rows hM111 hpr cv114) gX11_came_X0_rows rfl hdX0_rows (by decide) (Nat.le_of_ble_eq_true rfl) dX11_came_45 rfl (fun r115 M116 h117 => ?_)
    obtain ⟨a119, rfl, hM116, h118⟩ := h117
    exact hret _ _ _ _ dX11_came_48 ⟨a119, rfl, hM116, by omega⟩
  · refine j_iload_n C 0 2 dX11_came_10 rfl rfl ?_
    refine y_i2l C dX11_came_11 (by omega) ?_
    exact hret _ _ _ _ dX11_came_12 ⟨a105, rfl, hM0, by omega⟩
set_option maxHeartbeats 4000000 in
theorem s4_J7_fill_53178 {l : Launch} {dC : Nat → ClassId} {dI : Nat → Nat → Nat} {ad : Nat → Nat} {cA : Nat → ClassId} {pr : Nat → Nat → Bool} {Kz : mm_M} {M0 : mm_M} (hM0 : INV pr Kz M0) (hpr : PX pr) (a1 : Int) (ha1 : -2147483648 ≤ a1 ∧ a1 ≤ 2147483647) : Cv l 0 yJ7_fill_53178 wsJ7_fill_53178 dC dI ad cA [.ref (ad 96), .int (sI a1)] M0 (fun M' => INV pr Kz M') := by
  refine cv_of (cc := cJ7_fill_53178) (maxL := 4) (lv := [(0, .ref (ad 96)), (1, .int (sI a1))]) (by decide) rfl (Nat.le_of_ble_eq_true rfl) rfl ?_
  intro p e s m args below meth c A Q C hret
  refine y_iconst C dJ7_fill_53178_0 ?_
  refine j_istore_n C 2 [(2, .int (sI 0)), (0, .ref (ad 96)), (1, .int (sI a1))] dJ7_fill_53178_1 rfl (by decide) rfl ?_
  refine j_aload_n C 1 0 dJ7_fill_53178_2 rfl rfl ?_
  refine y_alen C 43 256 rfl rfl rfl an_43 rfl rfl dJ7_fill_53178_3 ?_
  refine j_istore_n C 3 [(3, .int (sI 256)), (2, .int (sI 0)), (0, .ref (ad 96)), (1, .int (sI a1))] dJ7_fill_53178_4 rfl (by decide) rfl ?_
  have L211 : ∀ (n209 : Nat), ∀ (a212 : Int) (M213 : mm_M), (0 ≤ a212 ∧ a212 ≤ 256 ∧ (256 - a212) < (n209 : Int)) → INV pr Kz M213 → jj p l e (cn_R 0) s m args below meth c 0 0 Q 4 dC dI ad cA A M213 5 [(0, .ref (ad 96)), (1, .int (sI a1)), (2, .int (sI a212)), (3, .int (sI 256))] [] := by
    intro n209
    induction n209 with
    | zero =>
      intro a212 M213 h214 hM213
      exfalso; omega
    | succ n209 ih210 =>
      intro a212 M213 h214 hM213
      refine j_iload_n C 2 2 dJ7_fill_53178_5 rfl rfl ?_
      refine j_iload_n C 3 3 dJ7_fill_53178_6 rfl rfl ?_
      refine y_icmp_ge C 20 dJ7_fill_53178_7 (by decide) (by omega) (fun h215 => ?_) (fun h215 => ?_)
      · exact hret _ _ _ dJ7_fill_53178_20 hM213
      · refine j_aload_n C 0 0 dJ7_fill_53178_10 rfl rfl ?_
        refine j_iload_n C 2 2 dJ7_fill_53178_11 rfl rfl ?_
        refine j_iload_n C 1 1 dJ7_fill_53178_12 rfl rfl ?_
        refine y_iastF C 43 256 rfl rfl rfl ak_43 an_43 rfl (sb_43 _) hM213 (PX.w hpr rfl rfl) dJ7_fill_53178_13 (by omega) (fun M216 eM216 hM216 => ?_)
        refine y_iinc C 2 [(2, .int (sI (a212 + 1))), (0, .ref (ad 96)), (1, .int (sI a1)), (3, .int (sI 256))] dJ7_fill_53178_14 rfl (by decide) rfl ?_
        refine j_goto C 5 dJ7_fill_53178_17 (by decide) ?_
        refine j_lv [1, 2, 0, 3] rfl ?_; exact ih210 (a212 + 1) M216 (by omega) hM216
  refine j_lv [2, 3, 1, 0] rfl ?_; exact L211 2010 0 M0 (by omega) hM0
set_option maxHeartbeats 4000000 in
theorem s1_X5_isMet {l : Launch} {dC : Nat → ClassId} {dI : Nat → Nat → Nat} {ad : Nat → Nat} {cA : Nat → ClassId} {pr : Nat → Nat → Bool} {Kz : mm_M} {M0 : mm_M} (hM0 : INV pr Kz M0) (a1 : Int) (ha1 : -2147483648 ≤ a1 ∧ a1 ≤ 2147483647) (hp0 : 0 ≤ a1 ∧ a1 ≤ 255) : Ci l 0 yX5_isMet wsX5_isMet dC dI ad cA [.ref (ad 88), .int (sI a1)] M0 (fun r M' => ∃ a : Int, r = sI a ∧ M0 = M' ∧ 0 ≤ a ∧ a ≤ 1 ∧ ((¬ (M0.1 90 (a1).toNat).toInt = 1 ∧ a = 0) ∨ (1 ≤ (M0.1 90 (a1).toNat).toInt ∧ (M0.1 90 (a1).toNat).toInt ≤ 1 ∧ (M0.1 90 (a1).toNat).toInt = 1 ∧ a = 1))) := by
  refine ci_of (cc := cX5_isMet) (maxL := 2) (ty := .boolean) (lv := [(0, .ref (ad 88)), (1, .int (sI a1))]) (by decide) rfl (fun r M' hp => by obtain ⟨a, rfl, -, h⟩ := hp; rcases (show a = 0 ∨ a = 1 by omega) with rfl | rfl <;> rfl) (Nat.le_of_ble_eq_true rfl) rfl ?_
  intro p e s m args below meth c A Q C hret
  refine j_aload_n C 0 0 dX5_isMet_0 rfl rfl ?_
  refine y_getC C 4 90 fX5_isMet_15 rfl rfl ft_4_2 sm_4_2 rfl hM0 dX5_isMet_1 ?_
  refine j_iload_n C 1 1 dX5_isMet_4 rfl rfl ?_
  refine y_iald C 39 256 _ _ rfl rfl rfl ak_39 an_39 rfl (sb_39 _) hM0 dX5_isMet_5 (by omega) (fun a101 ea101 la101 ua101 => ?_)
  refine y_iconst C dX5_isMet_6 ?_
  refine y_icmp_ne C 14 dX5_isMet_7 (by decide) (by omega) (fun h102 => ?_) (fun h102 => ?_)
  · refine y_iconst C dX5_isMet_14 ?_
    exact hret _ _ _ _ dX5_isMet_15 ⟨0, rfl, rfl, by omega⟩
  · refine y_iconst C dX5_isMet_10 ?_
    refine j_goto C 15 dX5_isMet_11 (by decide) ?_
    exact hret _ _ _ _ dX5_isMet_15 ⟨1, rfl, rfl, by omega⟩
set_option maxHeartbeats 4000000 in
theorem s1_X0_fitting {l : Launch} {dC : Nat → ClassId} {dI : Nat → Nat → Nat} {ad : Nat → Nat} {cA : Nat → ClassId} {pr : Nat → Nat → Bool} {Kz : mm_M} {M0 : mm_M} (hM0 : INV pr Kz M0) (a1 : Int) (ha1 : -2147483648 ≤ a1 ∧ a1 ≤ 2147483647) (a2 : Int) (ha2 : -2147483648 ≤ a2 ∧ a2 ≤ 2147483647) (hp0 : 0 ≤ a1 ∧ a1 ≤ 255) : Ci l 1 yX0_fitting wsX0_fitting dC dI ad cA [.ref (ad 95), .int (sI a1), .int (sI a2)] M0 (fun r M' => ∃ a : Int, r = sI a ∧ M0 = M' ∧ 0 ≤ a ∧ a ≤ 63) := by
  refine ci_of (cc := cX0_fitting) (maxL := 6) (ty := .int) (lv := [(0, .ref (ad 95)), (1, .int (sI a1)), (2, .int (sI a2))]) (by decide) rfl (fun r M' hp => rfl) (Nat.le_of_ble_eq_true rfl) rfl ?_
  intro p e s m args below meth c A Q C hret
  refine y_iconst C dX0_fitting_0 ?_
  refine j_istore_n C 3 [(3, .int (sI 0)), (0, .ref (ad 95)), (1, .int (sI a1)), (2, .int (sI a2))] dX0_fitting_1 rfl (by decide) rfl ?_
  refine y_iconst C dX0_fitting_2 ?_
  refine j_istore C 4 [(4, .int (sI 0)), (3, .int (sI 0)), (0, .ref (ad 95)), (1, .int (sI a1)), (2, .int (sI a2))] dX0_fitting_3 (by decide) rfl ?_
  have L299 : ∀ (n297 : Nat), ∀ (a300 : Int) (a301 : Int), (0 ≤ a300 ∧ a300 ≤ 63 ∧ 0 ≤ a301 ∧ a301 ≤ 6 ∧ (6 - a301) < (n297 : Int)) → jj p l e (cn_R 1) s m args below meth c 0 0 Q 6 dC dI ad cA A M0 5 [(0, .ref (ad 95)), (1, .int (sI a1)), (2, .int (sI a2)), (3, .int (sI a300)), (4, .int (sI a301))] [] := by
    intro n297
    induction n297 with
    | zero =>
      intro a300 a301 h302
      exfalso; omega
    | succ n297 ih298 =>
      intro a300 a301 h302
      refine j_iload C 4 dX0_fitting_5 rfl ?_
      refine j_aload_n C 0 0 dX0_fitting_7 rfl rfl ?_
      refine y_getC C 0 88 fX0_fitting_25 rfl rfl ft_0_0 sm_0_0 rfl hM0 dX0_fitting_8 ?_
      refine j_callVi C (d := 0) (As := []) (st := [.int (sI a301)]) 88 (s_lt rfl rfl) (s_kc (c := 4) rfl rfl) (by decide) rfl (s1_X5_buyers hM0) gX0_fitting_X5_buyers rfl hdX5_buyers (by decide) (Nat.le_of_ble_eq_true rfl) dX0_fitting_11 rfl (fun r303 M304 h305 => ?_)
      obtain ⟨a307, rfl, rfl, h306⟩ := h305
      refine y_icmp_ge C 73 dX0_fitting_14 (by decide) (by omega) (fun h308 => ?_) (fun h308 => ?_)
      · refine j_iload_n C 3 3 dX0_fitting_73 rfl rfl ?_
        exact hret _ _ _ _ dX0_fitting_74 ⟨a300, rfl, rfl, by omega⟩
      · refine j_aload_n C 0 0 dX0_fitting_17 rfl rfl ?_
        refine y_getC C 0 88 fX0_fitting_25 rfl rfl ft_0_0 sm_0_0 rfl hM0 dX0_fitting_18 ?_
        refine j_iload_n C 1 1 dX0_fitting_21 rfl rfl ?_
        refine j_iload C 4 dX0_fitting_22 rfl ?_
        refine j_callVi C (d := 0) (As := [.int (sI a1), .int (sI a301)]) (st := []) 88 (s_lt rfl rfl) (s_kc (c := 4) rfl rfl) (by decide) rfl (s1_X5_pick hM0 a1 (by omega) a301 (by omega)) gX0_fitting_X5_pick rfl hdX5_pick (by decide) (Nat.le_of_ble_eq_true rfl) dX0_fitting_24 rfl (fun r309 M310 h311 => ?_)
        obtain ⟨a313, rfl, rfl, h312⟩ := h311
        refine j_istore C 5 [(5, .int (sI a313)), (0, .ref (ad 95)), (1, .int (sI a1)), (2, .int (sI a2)), (3, .int (sI a300)), (4, .int (sI a301))] dX0_fitting_27 (by decide) rfl ?_
        refine j_iload C 0 dX0_fitting_29 rfl ?_
        refine y_if_lt C 67 dX0_fitting_31 (by decide) (by omega) (fun h314 => ?_) (fun h314 => ?_)
        · refine y_iinc C 5 [(4, .int (sI (a301 + 1))), (5, .int (sI a313)), (0, .ref (ad 95)), (1, .int (sI a1)), (2, .int (sI a2)), (3, .int (sI a300))] dX0_fitting_67 rfl (by decide) rfl ?_
          refine j_goto C 5 dX0_fitting_70 (by decide) ?_
          refine j_lv [2, 3, 4, 5, 0] rfl ?_; exact ih298 a300 (a301 + 1) (by omega)
        · refine j_iload_n C 3 2 dX0_fitting_34 rfl rfl ?_
          refine y_iconst C dX0_fitting_35 ?_
          refine y_icmp_eq C 45 dX0_fitting_36 (by decide) (by omega) (fun h315 => ?_) (fun h315 => ?_)
          · refine j_aload_n C 1 0 dX0_fitting_45 rfl rfl ?_
            refine y_getC C 0 96 fX0_fitting_9 rfl rfl ft_0_1 sm_0_1 rfl hM0 dX0_fitting_46 ?_
            refine j_iload_n C 2 1 dX0_fitting_49 rfl rfl ?_
            refine y_iconst C dX0_fitting_50 ?_
            refine j_iload C 0 dX0_fitting_51 rfl ?_
            refine y_shl1 C 7 128 dX0_fitting_53 rfl (by decide) (by omega) (fun a316 la316 ua316 => ?_)
            refine y_iorN C 8 255 dX0_fitting_54 rfl (by decide) (by omega) (fun a317 la317 ua317 => ?_)
            refine y_iald C 43 256 _ _ rfl rfl rfl ak_43 an_43 rfl (sb_43 _) hM0 dX0_fitting_55 (by omega) (fun a318 ea318 la318 ua318 => ?_)
            refine y_iconst C dX0_fitting_56 ?_
            refine y_icmp_ne C 67 dX0_fitting_57 (by decide) (by omega) (fun h319 => ?_) (fun h319 => ?_)
            · refine y_iinc C 5 [(4, .int (sI (a301 + 1))), (5, .int (sI a313)), (0, .ref (ad 95)), (1, .int (sI a1)), (2, .int (sI a2)), (3, .int (sI a300))] dX0_fitting_67 rfl (by decide) rfl ?_
              refine j_goto C 5 dX0_fitting_70 (by decide) ?_
              refine j_lv [2, 3, 4, 5, 0] rfl ?_; exact ih298 a300 (a301 + 1) (by omega)
            · refine j_iload_n C 4 3 dX0_fitting_60 rfl rfl ?_
              refine y_iconst C dX0_fitting_61 ?_
              refine j_iload C 5 dX0_fitting_62 rfl ?_
              refine y_shl1 C 5 32 dX0_fitting_64 rfl (by decide) (by omega) (fun a320 la320 ua320 => ?_)
              refine y_iorN C 6 63 dX0_fitting_65 rfl (by decide) (by omega) (fun a321 la321 ua321 => ?_)
              refine j_istore_n C 3 [(3, .int (sI a321)), (5, .int (sI a313)), (0, .ref (ad 95)), (1, .int (sI a1)), (2, .int (sI a2)), (4, .int (sI a301))] dX0_fitting_66 rfl (by decide) rfl ?_
              refine y_iinc C 5 [(4, .int (sI (a301 + 1))), (3, .int (sI a321)), (5, .int (sI a313)), (0, .ref (ad 95)), (1, .int (sI a1)), (2, .int (sI a2))] dX0_fitting_67 rfl (by decide) rfl ?_
              refine j_goto C 5 dX0_fitting_70 (by decide) ?_
              refine j_lv [3, 4, 5, 1, 0] rfl ?_; exact ih298 a321 (a301 + 1) (by omega)
          · refine j_iload_n C 3 2 dX0_fitting_39 rfl rfl ?_
            refine j_iload C 0 dX0_fitting_40 rfl ?_
            refine y_icmp_ne C 67 dX0_fitting_42 (by decide) (by omega) (fun h322 => ?_) (fun h322 => ?_)
            · refine y_iinc C 5 [(4, .int (sI (a301 + 1))), (5, .int (sI a313)), (0, .ref (ad 95)), (1, .int (sI a1)), (2, .int (sI a2)), (3, .int (sI a300))] dX0_fitting_67 rfl (by decide) rfl ?_
              refine j_goto C 5 dX0_fitting_70 (by decide) ?_
              refine j_lv [2, 3, 4, 5, 0] rfl ?_; exact ih298 a300 (a301 + 1) (by omega)
            · refine j_aload_n C 1 0 dX0_fitting_45 rfl rfl ?_
              refine y_getC C 0 96 fX0_fitting_9 rfl rfl ft_0_1 sm_0_1 rfl hM0 dX0_fitting_46 ?_
              refine j_iload_n C 2 1 dX0_fitting_49 rfl rfl ?_
              refine y_iconst C dX0_fitting_50 ?_
              refine j_iload C 0 dX0_fitting_51 rfl ?_
              refine y_shl1 C 7 128 dX0_fitting_53 rfl (by decide) (by omega) (fun a323 la323 ua323 => ?_)
              refine y_iorN C 8 255 dX0_fitting_54 rfl (by decide) (by omega) (fun a324 la324 ua324 => ?_)
              refine y_iald C 43 256 _ _ rfl rfl rfl ak_43 an_43 rfl (sb_43 _) hM0 dX0_fitting_55 (by omega) (fun a325 ea325 la325 ua325 => ?_)
              refine y_iconst C dX0_fitting_56 ?_
              refine y_icmp_ne C 67 dX0_fitting_57 (by decide) (by omega) (fun h326 => ?_) (fun h326 => ?_)
              · refine y_iinc C 5 [(4, .int (sI (a301 + 1))), (5, .int (sI a313)), (0, .ref (ad 95)), (1, .int (sI a1)), (2, .int (sI a2)), (3, .int (sI a300))] dX0_fitting_67 rfl (by decide) rfl ?_
                refine j_goto C 5 dX0_fitting_70 (by decide) ?_
                refine j_lv [2, 3, 4, 5, 0] rfl ?_; exact ih298 a300 (a301 + 1) (by omega)
              · refine j_iload_n C 4 3 dX0_fitting_60 rfl rfl ?_
                refine y_iconst C dX0_fitting_61 ?_
                refine j_iload C 5 dX0_fitting_62 rfl ?_
                refine y_shl1 C 5 32 dX0_fitting_64 rfl (by decide) (by omega) (fun a327 la327 ua327 => ?_)
                refine y_iorN C 6 63 dX0_fitting_65 rfl (by decide) (by omega) (fun a328 la328 ua328 => ?_)
                refine j_istore_n C 3 [(3, .int (sI a328)), (5, .int (sI a313)), (0, .ref (ad 95)), (1, .int (sI a1)), (2, .int (sI a2)), (4, .int (sI a301))] dX0_fitting_66 rfl (by decide) rfl ?_
                refine y_iinc C 5 [(4, .int (sI (a301 + 1))), (3, .int (sI a328)), (5, .int (sI a313)), (0, .ref (ad 95)), (1, .int (sI a1)), (2, .int (sI a2))] dX0_fitting_67 rfl (by decide) rfl ?_
                refine j_goto C 5 dX0_fitting_70 (by decide) ?_
                refine j_lv [3, 4, 5, 1, 0] rfl ?_; exact ih298 a328 (a301 + 1) (by omega)
  refine j_lv [2, 3, 4, 1, 0] rfl ?_; exact L299 2010 0 0 (by omega)
set_option maxHeartbeats 4000000 in
theorem s1_X0_stepBack {l : Launch} {dC : Nat → ClassId} {dI : Nat → Nat → Nat} {ad : Nat → Nat} {cA : Nat → ClassId} {pr : Nat → Nat → Bool} {Kz : mm_M} {M0 : mm_M} (hM0 : INV pr Kz M0) (hpr : PX pr) (a1 : Int) (ha1 : -2147483648 ≤ a1 ∧ a1 ≤ 2147483647) : Cv l 2 yX0_stepBack wsX0_stepBack dC dI ad cA [.ref (ad 95), .int (sI a1)] M0 (fun M' => INV pr Kz M') := by
  refine cv_of (cc := cX0_stepBack) (maxL := 3) (lv := [(0, .ref (ad 95)), (1, .int (sI a1))]) (by decide) rfl (Nat.le_of_ble_eq_true rfl) rfl ?_
  intro p e s m args below meth c A Q C hret
  refine y_iconst C dX0_stepBack_0 ?_
  refine j_istore_n C 2 [(2, .int (sI 0)), (0, .ref (ad 95)), (1, .int (sI a1))] dX0_stepBack_1 rfl (by decide) rfl ?_
  have L724 : ∀ (n722 : Nat), ∀ (a725 : Int) (M726 : mm_M), (0 ≤ a725 ∧ a725 ≤ 256 ∧ (256 - a725) < (n722 : Int)) → INV pr Kz M726 → jj p l e (cn_R 2) s m args below meth c 0 0 Q 3 dC dI ad cA A M726 2 [(0, .ref (ad 95)), (1, .int (sI a1)), (2, .int (sI a725))] [] := by
    intro n722
    induction n722 with
    | zero =>
      intro a725 M726 h727 hM726
      exfalso; omega
    | succ n722 ih723 =>
      intro a725 M726 h727 hM726
      refine j_iload_n C 2 2 dX0_stepBack_2 rfl rfl ?_
      refine j_aload_n C 0 0 dX0_stepBack_3 rfl rfl ?_
      refine y_getC C 0 88 fX0_stepBack_25 rfl rfl ft_0_0 sm_0_0 rfl hM726 dX0_stepBack_4 ?_
      refine j_callVi C (d := 0) (As := []) (st := [.int (sI a725)]) 88 (s_lt rfl rfl) (s_kc (c := 4) rfl rfl) (by decide) rfl (s1_X5_everyKind hM726) gX0_stepBack_X5_everyKind rfl hdX5_everyKind (by decide) (Nat.le_of_ble_eq_true rfl) dX0_stepBack_7 rfl (fun r728 M729 h730 => ?_)
      obtain ⟨a732, rfl, rfl, h731⟩ := h730
      refine y_icmp_gt C 50 dX0_stepBack_10 (by decide) (by omega) (fun h733 => ?_) (fun h733 => ?_)
      · exact hret _ _ _ dX0_stepBack_50 hM726
      · refine j_aload_n C 0 0 dX0_stepBack_13 rfl rfl ?_
        refine y_getC C 0 96 fX0_stepBack_9 rfl rfl ft_0_1 sm_0_1 rfl hM726 dX0_stepBack_14 ?_
        refine j_iload_n C 2 2 dX0_stepBack_17 rfl rfl ?_
        refine j_aload_n C 0 0 dX0_stepBack_18 rfl rfl ?_
        refine y_getC C 0 88 fX0_stepBack_25 rfl rfl ft_0_0 sm_0_0 rfl hM726 dX0_stepBack_19 ?_
        refine j_iload_n C 2 2 dX0_stepBack_22 rfl rfl ?_
        refine j_callVi C (d := 0) (As := [.int (sI a725)]) (st := [.int (sI a725), .ref (ad 96)]) 88 (s_lt rfl rfl) (s_kc (c := 4) rfl rfl) (by decide) rfl (s1_X5_isMet hM726 a725 (by omega) (by omega)) gX0_stepBack_X5_isMet rfl hdX5_isMet (by decide) (Nat.le_of_ble_eq_true rfl) dX0_stepBack_23 rfl (fun r734 M735 h736 => ?_)
        obtain ⟨a738, rfl, rfl, h737⟩ := h736
        refine y_if_eq C 42 dX0_stepBack_26 (by decide) (by omega) (fun h739 => ?_) (fun h739 => ?_)
        · refine y_iconst C dX0_stepBack_42 ?_
          refine y_iastF C 43 256 rfl rfl rfl ak_43 an_43 rfl (sb_43 _) hM726 (PX.w hpr rfl rfl) dX0_stepBack_43 (by omega) (fun M740 eM740 hM740 => ?_)
          refine y_iinc C 2 [(2, .int (sI (a725 + 1))), (0, .ref (ad 95)), (1, .int (sI a1))] dX0_stepBack_44 rfl (by decide) rfl ?_
          refine j_goto C 2 dX0_stepBack_47 (by decide) ?_
          refine j_lv [1, 2, 0] rfl ?_; exact ih723 (a725 + 1) M740 (by omega) hM740
        · refine j_aload_n C 0 0 dX0_stepBack_29 rfl rfl ?_
          refine j_iload_n C 2 2 dX0_stepBack_30 rfl rfl ?_
          refine j_iload_n C 1 1 dX0_stepBack_31 rfl rfl ?_
          refine j_callVi C (d := 1) (As := [.int (sI a725), .int (sI a1)]) (st := [.int (sI a725), .ref (ad 96)]) 95 (s_lt rfl rfl) (s_kc (c := 0) rfl rfl) (by decide) rfl (s1_X0_fitting hM726 a725 (by omega) a1 (by omega) (by omega)) gX0_stepBack_X0_fitting rfl hdX0_fitting (by decide) (Nat.le_of_ble_eq_true rfl) dX0_stepBack_32 rfl (fun r741 M742 h743 => ?_)
          obtain ⟨a745, rfl, rfl, h744⟩ := h743
          refine y_if_eq C 42 dX0_stepBack_35 (by decide) (by omega) (fun h746 => ?_) (fun h746 => ?_)
          · refine y_iconst C dX0_stepBack_42 ?_
            refine y_iastF C 43 256 rfl rfl rfl ak_43 an_43 rfl (sb_43 _) hM726 (PX.w hpr rfl rfl) dX0_stepBack_43 (by omega) (fun M747 eM747 hM747 => ?_)
            refine y_iinc C 2 [(2, .int (sI (a725 + 1))), (0, .ref (ad 95)), (1, .int (sI a1))] dX0_stepBack_44 rfl (by decide) rfl ?_
            refine j_goto C 2 dX0_stepBack_47 (by decide) ?_
            refine j_lv [1, 2, 0] rfl ?_; exact ih723 (a725 + 1) M747 (by omega) hM747
          · refine y_iconst C dX0_stepBack_38 ?_
            refine j_goto C 43 dX0_stepBack_39 (by decide) ?_
            refine y_iastF C 43 256 rfl rfl rfl ak_43 an_43 rfl (sb_43 _) hM726 (PX.w hpr rfl rfl) dX0_stepBack_43 (by omega) (fun M748 eM748 hM748 => ?_)
            refine y_iinc C 2 [(2, .int (sI (a725 + 1))), (0, .ref (ad 95)), (1, .int (sI a1))] dX0_stepBack_44 rfl (by decide) rfl ?_
            refine j_goto C 2 dX0_stepBack_47 (by decide) ?_
            refine j_lv [1, 2, 0] rfl ?_; exact ih723 (a725 + 1) M748 (by omega) hM748
  refine j_lv [1, 2, 0] rfl ?_; exact L724 2010 0 M0 (by omega) hM0
set_option maxHeartbeats 4000000 in
theorem s1_X5_isOnRow {l : Launch} {dC : Nat → ClassId} {dI : Nat → Nat → Nat} {ad : Nat → Nat} {cA : Nat → ClassId} {pr : Nat → Nat → Bool} {Kz : mm_M} {M0 : mm_M} (hM0 : INV pr Kz M0) (a1 : Int) (ha1 : -2147483648 ≤ a1 ∧ a1 ≤ 2147483647) (hp0 : 0 ≤ a1 ∧ a1 ≤ 255) : Ci l 0 yX5_isOnRow wsX5_isOnRow dC dI ad cA [.ref (ad 88), .int (sI a1)] M0 (fun r M' => ∃ a : Int, r = sI a ∧ M0 = M' ∧ 0 ≤ a ∧ a ≤ 1 ∧ ((a = 0) ∨ (a = 1))) := by
  refine ci_of (cc := cX5_isOnRow) (maxL := 2) (ty := .boolean) (lv := [(0, .ref (ad 88)), (1, .int (sI a1))]) (by decide) rfl (fun r M' hp => by obtain ⟨a, rfl, -, h⟩ := hp; rcases (show a = 0 ∨ a = 1 by omega) with rfl | rfl <;> rfl) (Nat.le_of_ble_eq_true rfl) rfl ?_
  intro p e s m args below meth c A Q C hret
  refine j_aload_n C 0 0 dX5_isOnRow_0 rfl rfl ?_
  refine y_getM C 4 41 fX5_isOnRow_21 rfl rfl ft_4_4 sm_4_4 (by decide) hM0 dX5_isOnRow_1 (fun v101 ev101 cv101 => ?_)
  refine j_iload_n C 1 1 dX5_isOnRow_4 rfl rfl ?_
  refine y_lald C 41 256 cv101 rfl rfl ak_41 an_41 rfl dX5_isOnRow_5 (by omega) (fun a102 ea102 la102 ua102 => ?_)
  refine y_lconst C 0 dX5_isOnRow_6 rfl ?_
  refine y_lcmp_eq C 15 dX5_isOnRow_7 dX5_isOnRow_8 (by decide) (by omega) (fun h103 => ?_) (fun h103 => ?_)
  · refine y_iconst C dX5_isOnRow_15 ?_
    exact hret _ _ _ _ dX5_isOnRow_16 ⟨0, rfl, rfl, by omega⟩
  · refine y_iconst C dX5_isOnRow_11 ?_
    refine j_goto C 16 dX5_isOnRow_12 (by decide) ?_
    exact hret _ _ _ _ dX5_isOnRow_16 ⟨1, rfl, rfl, by omega⟩
set_option maxHeartbeats 4000000 in
theorem s1_X0_comers {l : Launch} {dC : Nat → ClassId} {dI : Nat → Nat → Nat} {ad : Nat → Nat} {cA : Nat → ClassId} {pr : Nat → Nat → Bool} {Kz : mm_M} {M0 : mm_M} (hM0 : INV pr Kz M0) (hpr : PX pr) {v1 : Nat} (cv1 : s_c v1 = 9) (a2 : Int) (ha2 : -2147483648 ≤ a2 ∧ a2 ≤ 2147483647) : Ci l 3 yX0_comers wsX0_comers dC dI ad cA [.ref (ad 95), .ref (ad v1), .int (sI a2)] M0 (fun r M' => ∃ a : Int, r = sI a ∧ INV pr Kz M' ∧ 0 ≤ a ∧ a ≤ 63) := by
  refine ci_of (cc := cX0_comers) (maxL := 5) (ty := .int) (lv := [(0, .ref (ad 95)), (1, .ref (ad v1)), (2, .int (sI a2))]) (by decide) rfl (fun r M' hp => rfl) (Nat.le_of_ble_eq_true rfl) rfl ?_
  intro p e s m args below meth c A Q C hret
  refine j_aload_n C 0 0 dX0_comers_0 rfl rfl ?_
  refine y_getC C 0 96 fX0_comers_9 rfl rfl ft_0_1 sm_0_1 rfl hM0 dX0_comers_1 ?_
  refine y_iconst C dX0_comers_4 ?_
  refine j_callSv C (d := 0) (As := [.ref (ad 96), .int (sI 1)]) (st := []) (s4_J7_fill_53178 hM0 hpr 1 (by omega)) gX0_comers_J7_fill_53178 rfl hdJ7_fill_53178s (by decide) (Nat.le_of_ble_eq_true rfl) dX0_comers_5 rfl (fun M102 h103 => ?_)
  have hM102 := h103
  refine j_aload_n C 1 1 dX0_comers_8 rfl rfl ?_
  refine j_callVi C (d := 1) (As := []) (st := []) v1 (s_lt cv1 rfl) (s_kc (c := 9) cv1 rfl) (by decide) rfl (s1_X10_size hM102 cv1) gX0_comers_X10_size rfl hdX10_size (by decide) (Nat.le_of_ble_eq_true rfl) dX0_comers_9 rfl (fun r105 M106 h107 => ?_)
  obtain ⟨a109, rfl, rfl, h108⟩ := h107
  refine y_iconst C dX0_comers_12 ?_
  refine y_isub C dX0_comers_13 ?_
  refine j_istore_n C 3 [(3, .int (sI (a109 - 1))), (0, .ref (ad 95)), (1, .ref (ad v1)), (2, .int (sI a2))] dX0_comers_14 rfl (by decide) rfl ?_
  have L164 : ∀ (n162 : Nat), ∀ (a165 : Int) (M166 : mm_M), ((-2147483648) ≤ a165 ∧ a165 ≤ 39 ∧ (a165 - (-2147483648)) < (n162 : Int)) → INV pr Kz M166 → jj p l e (cn_R 3) s m args below meth c 0 0 Q 5 dC dI ad cA A M166 15 [(0, .ref (ad 95)), (1, .ref (ad v1)), (2, .int (sI a2)), (3, .int (sI a165))] [] := by
    intro n162
    induction n162 with
    | zero =>
      intro a165 M166 h167 hM166
      exfalso; omega
    | succ n162 ih163 =>
      intro a165 M166 h167 hM166
      refine j_iload_n C 3 3 dX0_comers_15 rfl rfl ?_
      refine j_iload_n C 2 2 dX0_comers_16 rfl rfl ?_
      refine y_icmp_le C 36 dX0_comers_17 (by decide) (by omega) (fun h168 => ?_) (fun h168 => ?_)
      · refine j_aload_n C 0 0 dX0_comers_36 rfl rfl ?_
        refine y_getC C 0 88 fX0_comers_25 rfl rfl ft_0_0 sm_0_0 rfl hM166 dX0_comers_37 ?_
        refine j_callVv C (d := 1) (As := []) (st := []) 88 (s_lt rfl rfl) (s_kc (c := 4) rfl rfl) (by decide) rfl (s1_X5_beginRows hM166 hpr) gX0_comers_X5_beginRows rfl hdX5_beginRows (by decide) (Nat.le_of_ble_eq_true rfl) dX0_comers_40 rfl (fun M180 h181 => ?_)
        have hM180 := h181
        refine y_iconst C dX0_comers_43 ?_
        refine j_istore_n C 3 [(3, .int (sI 0)), (0, .ref (ad 95)), (1, .ref (ad v1)), (2, .int (sI a2))] dX0_comers_44 rfl (by decide) rfl ?_
        have L627 : ∀ (n625 : Nat), ∀ (a628 : Int) (M629 : mm_M), (0 ≤ a628 ∧ a628 ≤ 2147483647 ∧ (2147483647 - a628) < (n625 : Int)) → INV pr Kz M629 → jj p l e (cn_R 3) s m args below meth c 0 0 Q 5 dC dI ad cA A M629 45 [(0, .ref (ad 95)), (1, .ref (ad v1)), (2, .int (sI a2)), (3, .int (sI a628))] [] := by
          intro n625
          induction n625 with
          | zero =>
            intro a628 M629 h630 hM629
            exfalso; omega
          | succ n625 ih626 =>
            intro a628 M629 h630 hM629
            refine j_iload_n C 3 3 dX0_comers_45 rfl rfl ?_
            refine j_iload_n C 2 2 dX0_comers_46 rfl rfl ?_
            refine y_icmp_ge C 69 dX0_comers_47 (by decide) (by omega) (fun h631 => ?_) (fun h631 => ?_)
            · refine y_iconst C dX0_comers_69 ?_
              refine j_istore_n C 3 [(3, .int (sI 0)), (0, .ref (ad 95)), (1, .ref (ad v1)), (2, .int (sI a2))] dX0_comers_70 rfl (by decide) rfl ?_
              refine y_iconst C dX0_comers_71 ?_
              refine j_istore C 4 [(4, .int (sI 0)), (3, .int (sI 0)), (0, .ref (ad 95)), (1, .ref (ad v1)), (2, .int (sI a2))] dX0_comers_72 (by decide) rfl ?_
              have L1346 : ∀ (n1344 : Nat), ∀ (a1347 : Int) (a1348 : Int), (0 ≤ a1347 ∧ a1347 ≤ 63 ∧ 0 ≤ a1348 ∧ a1348 ≤ 256 ∧ (256 - a1348) < (n1344 : Int)) → jj p l e (cn_R 3) s m args below meth c 0 0 Q 5 dC dI ad cA A M629 74 [(0, .ref (ad 95)), (1, .ref (ad v1)), (2, .int (sI a2)), (3, .int (sI a1347)), (4, .int (sI a1348))] [] := by
                intro n1344
                induction n1344 with
                | zero =>
                  intro a1347 a1348 h1349
                  exfalso; omega
                | succ n1344 ih1345 =>
                  intro a1347 a1348 h1349
                  refine j_iload C 4 dX0_comers_74 rfl ?_
                  refine j_aload_n C 0 0 dX0_comers_76 rfl rfl ?_
                  refine y_getC C 0 88 fX0_comers_25 rfl rfl ft_0_0 sm_0_0 rfl hM629 dX0_comers_77 ?_
                  refine j_callVi C (d := 0) (As := []) (st := [.int (sI a1348)]) 88 (s_lt rfl rfl) (s_kc (c := 4) rfl rfl) (by decide) rfl (s1_X5_everyKind hM629) gX0_comers_X5_everyKind rfl hdX5_everyKind (by decide) (Nat.le_of_ble_eq_true rfl) dX0_comers_80 rfl (fun r1350 M1351 h1352 => ?_)
                  obtain ⟨a1354, rfl, rfl, h1353⟩ := h1352
                  refine y_icmp_gt C 119 dX0_comers_83 (by decide) (by omega) (fun h1355 => ?_) (fun h1355 => ?_)
                  · refine j_iload_n C 3 3 dX0_comers_119 rfl rfl ?_
                    exact hret _ _ _ _ dX0_comers_120 ⟨a1347, rfl, hM629, by omega⟩
                  · refine j_aload_n C 0 0 dX0_comers_86 rfl rfl ?_
                    refine y_getC C 0 88 fX0_comers_25 rfl rfl ft_0_0 sm_0_0 rfl hM629 dX0_comers_87 ?_
                    refine j_iload C 4 dX0_comers_90 rfl ?_
                    refine j_callVi C (d := 0) (As := [.int (sI a1348)]) (st := []) 88 (s_lt rfl rfl) (s_kc (c := 4) rfl rfl) (by decide) rfl (s1_X5_isOnRow hM629 a1348 (by omega) (by omega)) gX0_comers_X5_isOnRow rfl hdX5_isOnRow (by decide) (Nat.le_of_ble_eq_true rfl) dX0_comers_92 rfl (fun r1356 M1357 h1358 => ?_)
                    obtain ⟨a1360, rfl, rfl, h1359⟩ := h1358
                    refine y_if_eq C 113 dX0_comers_95 (by decide) (by omega) (fun h1361 => ?_) (fun h1361 => ?_)
                    · refine y_iinc C 4 [(4, .int (sI (a1348 + 1))), (0, .ref (ad 95)), (1, .ref (ad v1)), (2, .int (sI a2)), (3, .int (sI a1347))] dX0_comers_113 rfl (by decide) rfl ?_
                      refine j_goto C 74 dX0_comers_116 (by decide) ?_
                      refine j_lv [1, 2, 3, 4, 0] rfl ?_; exact ih1345 a1347 (a1348 + 1) (by omega)
                    · refine j_iload_n C 3 3 dX0_comers_98 rfl rfl ?_
                      refine j_aload_n C 0 0 dX0_comers_99 rfl rfl ?_
                      refine j_iload C 4 dX0_comers_100 rfl ?_
                      refine j_aload_n C 1 1 dX0_comers_102 rfl rfl ?_
                      refine j_iload_n C 2 2 dX0_comers_103 rfl rfl ?_
                      refine j_callVj C (d := 1) (As := [.int (sI a2)]) (st := [.int (sI a1348), .ref (ad 95), .int (sI a1347)]) v1 (s_lt cv1 rfl) (s_kc (c := 9) cv1 rfl) (by decide) rfl (s1_X10_numberAt hM629 cv1 a2 (by omega)) gX0_comers_X10_numberAt rfl hdX10_numberAt (by decide) (Nat.le_of_ble_eq_true rfl) dX0_comers_104 rfl (fun r1362 M1363 h1364 => ?_)
                      obtain ⟨a1366, rfl, rfl, h1365⟩ := h1364
                      refine y_l2i C dX0_comers_107 ?_
                      refine y_topI (fun a1367 la1367 ua1367 => ?_)
                      refine j_callVi C (d := 1) (As := [.int (sI a1348), .int (sI a1367)]) (st := [.int (sI a1347)]) 95 (s_lt rfl rfl) (s_kc (c := 0) rfl rfl) (by decide) rfl (s1_X0_fitting hM629 a1348 (by omega) a1367 (by omega) (by omega)) gX0_comers_X0_fitting rfl hdX0_fitting (by decide) (Nat.le_of_ble_eq_true rfl) dX0_comers_108 rfl (fun r1368 M1369 h1370 => ?_)
                      obtain ⟨a1372, rfl, rfl, h1371⟩ := h1370
                      refine y_iorN C 6 63 dX0_comers_111 rfl (by decide) (by omega) (fun a1373 la1373 ua1373 => ?_)
                      refine j_istore_n C 3 [(3, .int (sI a1373)), (0, .ref (ad 95)), (1, .ref (ad v1)), (2, .int (sI a2)), (4, .int (sI a1348))] dX0_comers_112 rfl (by decide) rfl ?_
                      refine y_iinc C 4 [(4, .int (sI (a1348 + 1))), (3, .int (sI a1373)), (0, .ref (ad 95)), (1, .ref (ad v1)), (2, .int (sI a2))] dX0_comers_113 rfl (by decide) rfl ?_
                      refine j_goto C 74 dX0_comers_116 (by decide) ?_
                      refine j_lv [2, 3, 4, 1, 0] rfl ?_; exact ih1345 a1373 (a1348 + 1) (by omega)
              refine j_lv [2, 3, 4, 1, 0] rfl ?_; exact L1346 2010 0 0 (by omega)
            · refine j_aload_n C 0 0 dX0_comers_50 rfl rfl ?_
              refine y_getC C 0 88 fX0_comers_25 rfl rfl ft_0_0 sm_0_0 rfl hM629 dX0_comers_51 ?_
              refine j_aload_n C 1 1 dX0_comers_54 rfl rfl ?_
              refine j_iload_n C 3 3 dX0_comers_55 rfl rfl ?_
              refine j_callVj C (d := 1) (As := [.int (sI a628)]) (st := [.ref (ad 88)]) v1 (s_lt cv1 rfl) (s_kc (c := 9) cv1 rfl) (by decide) rfl (s1_X10_numberAt hM629 cv1 a628 (by omega)) gX0_comers_X10_numberAt rfl hdX10_numberAt (by decide) (Nat.le_of_ble_eq_true rfl) dX0_comers_56 rfl (fun r632 M633 h634 => ?_)
              obtain ⟨a636, rfl, rfl, h635⟩ := h634
              refine y_l2i C dX0_comers_59 ?_
              refine y_topI (fun a637 la637 ua637 => ?_)
              refine j_callVv C (d := 1) (As := [.int (sI a637)]) (st := []) 88 (s_lt rfl rfl) (s_kc (c := 4) rfl rfl) (by decide) rfl (s1_X5_lengthenRows hM629 hpr a637 (by omega)) gX0_comers_X5_lengthenRows rfl hdX5_lengthenRows (by decide) (Nat.le_of_ble_eq_true rfl) dX0_comers_60 rfl (fun M639 h640 => ?_)
              have hM639 := h640
              refine y_iinc C 3 [(3, .int (sI (a628 + 1))), (0, .ref (ad 95)), (1, .ref (ad v1)), (2, .int (sI a2))] dX0_comers_63 rfl (by decide) rfl ?_
              refine j_goto C 45 dX0_comers_66 (by decide) ?_
              refine j_lv [1, 2, 3, 0] rfl ?_; exact ih626 (a628 + 1) M639 (by omega) hM639
        refine j_lv [1, 2, 3, 0] rfl ?_; exact L627 4294967304 0 M180 (by omega) hM180
      · refine j_aload_n C 0 0 dX0_comers_20 rfl rfl ?_
        refine j_aload_n C 1 1 dX0_comers_21 rfl rfl ?_
        refine j_iload_n C 3 3 dX0_comers_22 rfl rfl ?_
        refine j_callVj C (d := 1) (As := [.int (sI a165)]) (st := [.ref (ad 95)]) v1 (s_lt cv1 rfl) (s_kc (c := 9) cv1 rfl) (by decide) rfl (s1_X10_numberAt hM166 cv1 a165 (by omega)) gX0_comers_X10_numberAt rfl hdX10_numberAt (by decide) (Nat.le_of_ble_eq_true rfl) dX0_comers_23 rfl (fun r169 M170 h171 => ?_)
        obtain ⟨a173, rfl, rfl, h172⟩ := h171
        refine y_l2i C dX0_comers_26 ?_
        refine y_topI (fun a174 la174 ua174 => ?_)
        refine j_callVv C (d := 2) (As := [.int (sI a174)]) (st := []) 95 (s_lt rfl rfl) (s_kc (c := 0) rfl rfl) (by decide) rfl (s1_X0_stepBack hM166 hpr a174 (by omega)) gX0_comers_X0_stepBack rfl hdX0_stepBack (by decide) (Nat.le_of_ble_eq_true rfl) dX0_comers_27 rfl (fun M176 h177 => ?_)
        have hM176 := h177
        refine y_iinc C 3 [(3, .int (sI (a165 + (-1)))), (0, .ref (ad 95)), (1, .ref (ad v1)), (2, .int (sI a2))] dX0_comers_30 rfl (by decide) rfl ?_
        refine j_goto C 15 dX0_comers_33 (by decide) ?_
        refine j_lv [1, 2, 3, 0] rfl ?_; exact ih163 (a165 + (-1)) M176 (by omega) hM176
  refine j_lv [1, 2, 3, 0] rfl ?_; exact L164 4294967306 (a109 - 1) M102 (by omega) hM102
set_option maxHeartbeats 4000000 in
theorem s1_X11_who {l : Launch} {dC : Nat → ClassId} {dI : Nat → Nat → Nat} {ad : Nat → Nat} {cA : Nat → ClassId} {pr : Nat → Nat → Bool} {Kz : mm_M} {M0 : mm_M} (hM0 : INV pr Kz M0) (hpr : PX pr) (a1 : Int) (ha1 : -2147483648 ≤ a1 ∧ a1 ≤ 2147483647) (a2 : Int) (ha2 : -2147483648 ≤ a2 ∧ a2 ≤ 2147483647) : Ci l 6 yX11_who wsX11_who dC dI ad cA [.ref (ad 0), .int (sI a1), .int (sI a2)] M0 (fun r M' => ∃ a : Int, r = sI a ∧ INV pr Kz M' ∧ (-7) ≤ a ∧ a ≤ 63) := by
  refine ci_of (cc := cX11_who) (maxL := 4) (ty := .int) (lv := [(0, .ref (ad 0)), (1, .int (sI a1)), (2, .int (sI a2))]) (by decide) rfl (fun r M' hp => rfl) (Nat.le_of_ble_eq_true rfl) rfl ?_
  intro p e s m args below meth c A Q C hret
  refine j_aload_n C 0 0 dX11_who_0 rfl rfl ?_
  refine j_iload_n C 1 1 dX11_who_1 rfl rfl ?_
  refine j_callVi C (d := 2) (As := [.int (sI a1)]) (st := []) 0 (s_lt rfl rfl) (s_kc (c := 10) rfl rfl) (by decide) rfl (s1_X11_cameRefusal hM0 a1 (by omega)) gX11_who_X11_cameRefusal rfl hdX11_cameRefusal (by decide) (Nat.le_of_ble_eq_true rfl) dX11_who_2 rfl (fun r101 M102 h103 => ?_)
  obtain ⟨a105, rfl, rfl, h104⟩ := h103
  refine j_istore_n C 3 [(3, .int (sI a105)), (0, .ref (ad 0)), (1, .int (sI a1)), (2, .int (sI a2))] dX11_who_5 rfl (by decide) rfl ?_
  refine j_iload_n C 0 3 dX11_who_6 rfl rfl ?_
  refine y_if_eq C 12 dX11_who_7 (by decide) (by omega) (fun h106 => ?_) (fun h106 => ?_)
  · refine j_aload_n C 1 0 dX11_who_12 rfl rfl ?_
    refine y_getC C 10 50 fX11_who_52 rfl rfl ft_10_9 sm_10_9 rfl hM0 dX11_who_13 ?_
    refine j_iload_n C 2 1 dX11_who_16 rfl rfl ?_
    refine y_aald C 28 4 9 rfl rfl rfl rfl an_28 rfl sma_28 sta_28 (by decide) hM0 dX11_who_17 (by omega) (fun v107 cv107 => ?_)
    refine j_iload_n C 3 2 dX11_who_18 rfl rfl ?_
    refine j_callVi C (d := 0) (As := [.int (sI a2)]) (st := []) v107 (s_lt cv107 rfl) (s_kc (c := 9) cv107 rfl) (by decide) rfl (s1_X10_has hM0 cv107 a2 (by omega)) gX11_who_X10_has rfl hdX10_has (by decide) (Nat.le_of_ble_eq_true rfl) dX11_who_19 rfl (fun r108 M109 h110 => ?_)
    obtain ⟨a112, rfl, rfl, h111⟩ := h110
    refine y_if_ne C 28 dX11_who_22 (by decide) (by omega) (fun h113 => ?_) (fun h113 => ?_)
    · refine j_aload_n C 1 0 dX11_who_28 rfl rfl ?_
      refine y_getC C 10 88 fX11_who_94 rfl rfl ft_10_14 sm_10_14 rfl hM0 dX11_who_29 ?_
      refine j_aload_n C 1 0 dX11_who_32 rfl rfl ?_
      refine y_getM C 10 6 fX11_who_26 rfl rfl ft_10_4 sm_10_4 (by decide) hM0 dX11_who_33 (fun v114 ev114 cv114 => ?_)
      refine j_aload_n C 1 0 dX11_who_36 rfl rfl ?_
      refine y_getC C 10 12 fX11_who_36 rfl rfl ft_10_6 sm_10_6 rfl hM0 dX11_who_37 ?_
      refine j_aload_n C 1 0 dX11_who_40 rfl rfl ?_
      refine y_getC C 10 12 fX11_who_36 rfl rfl ft_10_6 sm_10_6 rfl hM0 dX11_who_41 ?_
      refine y_getI C 8 _ _ fX11_who_153 rfl rfl ft_8_4 sb_8_4 hM0 dX11_who_44 (fun a115 ea115 la115 ua115 => ?_)
      refine j_callVv C (d := 5) (As := [.ref (ad v114), .ref (ad 12), .int (sI a115)]) (st := []) 88 (s_lt rfl rfl) (s_kc (c := 4) rfl rfl) (by decide) rfl (s1_X5_look hM0 hpr cv114 rfl a115 (by omega)) gX11_who_X5_look rfl hdX5_look (by decide) (Nat.le_of_ble_eq_true rfl) dX11_who_47 rfl (fun M118 h119 => ?_)
      have hM118 := h119
      refine j_aload_n C 1 0 dX11_who_50 rfl rfl ?_
      refine y_getC C 10 95 fX11_who_103 rfl rfl ft_10_15 sm_10_15 rfl hM118 dX11_who_51 ?_
      refine j_aload_n C 1 0 dX11_who_54 rfl rfl ?_
      refine y_getC C 10 50 fX11_who_52 rfl rfl ft_10_9 sm_10_9 rfl hM118 dX11_who_55 ?_
      refine j_iload_n C 2 1 dX11_who_58 rfl rfl ?_
      refine y_aald C 28 4 9 rfl rfl rfl rfl an_28 rfl sma_28 sta_28 (by decide) hM118 dX11_who_59 (by omega) (fun v121 cv121 => ?_)
      refine j_iload_n C 3 2 dX11_who_60 rfl rfl ?_
      refine j_callVi C (d := 3) (As := [.ref (ad v121), .int (sI a2)]) (st := []) 95 (s_lt rfl rfl) (s_kc (c := 0) rfl rfl) (by decide) rfl (s1_X0_comers hM118 hpr cv121 a2 (by omega)) gX11_who_X0_comers rfl hdX0_comers (by decide) (Nat.le_of_ble_eq_true rfl) dX11_who_61 rfl (fun r122 M123 h124 => ?_)
      obtain ⟨a126, rfl, hM123, h125⟩ := h124
      exact hret _ _ _ _ dX11_who_64 ⟨a126, rfl, hM123, by omega⟩
    · refine y_bipush C dX11_who_25 rfl ?_
      exact hret _ _ _ _ dX11_who_27 ⟨(-7), rfl, hM0, by omega⟩
  · refine j_iload_n C 0 3 dX11_who_10 rfl rfl ?_
    exact hret _ _ _ _ dX11_who_11 ⟨a105, rfl, hM0, by omega⟩
set_option maxHeartbeats 4000000 in
theorem s3_J7_fill_d0a16 {l : Launch} {dC : Nat → ClassId} {dI : Nat → Nat → Nat} {ad : Nat → Nat} {cA : Nat → ClassId} {pr : Nat → Nat → Bool} {Kz : mm_M} {M0 : mm_M} (hM0 : INV pr Kz M0) (hpr : PX pr) {v0 : Nat} (cv0 : s_c v0 = 29) (a1 : Int) (ha1 : -9223372036854775808 ≤ a1 ∧ a1 ≤ 9223372036854775807) : Cv l 0 yJ7_fill_d0a16 wsJ7_fill_d0a16 dC dI ad cA [.ref (ad v0), .long (sJ a1)] M0 (fun M' => INV pr Kz M') := by
  refine cv_of (cc := cJ7_fill_d0a16) (maxL := 5) (lv := [(0, .ref (ad v0)), (1, .long (sJ a1))]) (by decide) rfl (Nat.le_of_ble_eq_true rfl) rfl ?_
  intro p e s m args below meth c A Q C hret
  refine y_iconst C dJ7_fill_d0a16_0 ?_
  refine j_istore_n C 3 [(3, .int (sI 0)), (0, .ref (ad v0)), (1, .long (sJ a1))] dJ7_fill_d0a16_1 rfl (by decide) rfl ?_
  refine j_aload_n C 1 0 dJ7_fill_d0a16_2 rfl rfl ?_
  refine y_alen C 29 40 cv0 rfl rfl an_29 rfl rfl dJ7_fill_d0a16_3 ?_
  refine j_istore C 4 [(4, .int (sI 40)), (3, .int (sI 0)), (0, .ref (ad v0)), (1, .long (sJ a1))] dJ7_fill_d0a16_4 (by decide) rfl ?_
  have L171 : ∀ (n169 : Nat), ∀ (a172 : Int) (M173 : mm_M), (0 ≤ a172 ∧ a172 ≤ 40 ∧ (40 - a172) < (n169 : Int)) → INV pr Kz M173 → jj p l e (cn_R 0) s m args below meth c 0 0 Q 5 dC dI ad cA A M173 6 [(0, .ref (ad v0)), (1, .long (sJ a1)), (3, .int (sI a172)), (4, .int (sI 40))] [] := by
    intro n169
    induction n169 with
    | zero =>
      intro a172 M173 h174 hM173
      exfalso; omega
    | succ n169 ih170 =>
      intro a172 M173 h174 hM173
      refine j_iload_n C 2 3 dJ7_fill_d0a16_6 rfl rfl ?_
      refine j_iload C 3 dJ7_fill_d0a16_7 rfl ?_
      refine y_icmp_ge C 22 dJ7_fill_d0a16_9 (by decide) (by omega) (fun h175 => ?_) (fun h175 => ?_)
      · exact hret _ _ _ dJ7_fill_d0a16_22 hM173
      · refine j_aload_n C 0 0 dJ7_fill_d0a16_12 rfl rfl ?_
        refine j_iload_n C 2 3 dJ7_fill_d0a16_13 rfl rfl ?_
        refine j_lload_n C 1 1 dJ7_fill_d0a16_14 rfl rfl ?_
        refine y_last C 29 40 cv0 rfl rfl ak_29 an_29 rfl hM173 (PX.w hpr cv0 rfl) dJ7_fill_d0a16_15 (by omega) (fun M176 eM176 hM176 => ?_)
        refine y_iinc C 2 [(3, .int (sI (a172 + 1))), (0, .ref (ad v0)), (1, .long (sJ a1)), (4, .int (sI 40))] dJ7_fill_d0a16_16 rfl (by decide) rfl ?_
        refine j_goto C 6 dJ7_fill_d0a16_19 (by decide) ?_
        refine j_lv [1, 2, 0, 3] rfl ?_; exact ih170 (a172 + 1) M176 (by omega) hM176
  refine j_lv [2, 3, 1, 0] rfl ?_; exact L171 2010 0 M0 (by omega) hM0
set_option maxHeartbeats 4000000 in
theorem s1_X10_layOut {l : Launch} {dC : Nat → ClassId} {dI : Nat → Nat → Nat} {ad : Nat → Nat} {cA : Nat → ClassId} {pr : Nat → Nat → Bool} {Kz : mm_M} {M0 : mm_M} (hM0 : INV pr Kz M0) (hpr : PX pr) (hq9_1 : ∀ i, s_c i = 9 → pr i 1 = false) (hq9_2 : ∀ i, s_c i = 9 → pr i 2 = false) {v0 : Nat} (cv0 : s_c v0 = 9) (a1 : Int) (ha1 : -2147483648 ≤ a1 ∧ a1 ≤ 2147483647) (a2 : Int) (ha2 : -2147483648 ≤ a2 ∧ a2 ≤ 2147483647) (hp0 : 0 ≤ a1 ∧ a1 ≤ 3) (hp1 : 0 ≤ a2 ∧ a2 ≤ 40) : Cv l 1 yX10_layOut wsX10_layOut dC dI ad cA [.ref (ad v0), .int (sI a1), .int (sI a2)] M0 (fun M' => INV pr Kz M' ∧ ((M'.1 v0 1).toInt = a1 ∧ (M'.1 v0 2).toInt = a2) ∧ (b01 (LYX M0 M' v0) = 1)) := by
  refine cv_of (cc := cX10_layOut) (maxL := 3) (lv := [(0, .ref (ad v0)), (1, .int (sI a1)), (2, .int (sI a2))]) (by decide) rfl (Nat.le_of_ble_eq_true rfl) rfl ?_
  intro p e s m args below meth c A Q C hret
  refine j_aload_n C 0 0 dX10_layOut_0 rfl rfl ?_
  refine y_getT C 9 29 fX10_layOut_9 cv0 rfl ft_9_0 rfl sm_9_0 st_9_0 (by decide) hM0 dX10_layOut_1 (fun v101 cv101 => ?_)
  refine y_lconst C 0 dX10_layOut_4 rfl ?_
  have hprO := hpr
  obtain ⟨pr2, Kz2, hpr, hM0, hbk⟩ := fzX hpr hM0
  refine j_callSv C (d := 0) (As := [.ref (ad v101), .long (sJ 0)]) (st := []) (s3_J7_fill_d0a16 hM0 hpr cv101 0 (by omega)) gX10_layOut_J7_fill_d0a16 rfl hdJ7_fill_d0a16s (by decide) (Nat.le_of_ble_eq_true rfl) dX10_layOut_5 rfl (fun M104 h105 => ?_)
  have hM104 := h105
  have hz9 := (hbk _ hM104).2
  have hM104 := (hbk _ hM104).1
  have hpr := hprO
  refine j_aload_n C 0 0 dX10_layOut_8 rfl rfl ?_
  refine j_iload_n C 1 1 dX10_layOut_9 rfl rfl ?_
  refine y_putI C 9 _ _ qX10_layOut_15 cv0 rfl ft_9_1 sb_9_1 hM104 (hq9_1 _ cv0) dX10_layOut_10 (by omega) (fun M108 eM108 hM108 => ?_)
  refine j_aload_n C 0 0 dX10_layOut_13 rfl rfl ?_
  refine j_iload_n C 2 2 dX10_layOut_14 rfl rfl ?_
  refine y_putI C 9 _ _ qX10_layOut_19 cv0 rfl ft_9_2 sb_9_2 hM108 (hq9_2 _ cv0) dX10_layOut_15 (by omega) (fun M109 eM109 hM109 => ?_)
  have u110a := lyx hz9 eM108 eM109
  have u110b : (M109.1 v0 2).toInt = a2 := s_wr eM109 (by omega)
  have u110c : (M109.1 v0 1).toInt = a1 := (s_fb eM109 (by decide) rfl).trans (s_wr eM108 (by omega))
  exact hret _ _ _ dX10_layOut_18 ⟨hM109, by omega⟩
set_option maxHeartbeats 4000000 in
theorem s1_X11_numbers {l : Launch} {dC : Nat → ClassId} {dI : Nat → Nat → Nat} {ad : Nat → Nat} {cA : Nat → ClassId} {pr : Nat → Nat → Bool} {Kz : mm_M} {M0 : mm_M} (hM0 : INV pr Kz M0) (hpr : PX pr) (hq9_1 : ∀ i, s_c i = 9 → pr i 1 = false) (hq9_2 : ∀ i, s_c i = 9 → pr i 2 = false) (a1 : Int) (ha1 : -2147483648 ≤ a1 ∧ a1 ≤ 2147483647) (a2 : Int) (ha2 : -2147483648 ≤ a2 ∧ a2 ≤ 2147483647) (a3 : Int) (ha3 : -2147483648 ≤ a3 ∧ a3 ≤ 2147483647) : Ci l 2 yX11_numbers wsX11_numbers dC dI ad cA [.ref (ad 0), .int (sI a1), .int (sI a2), .int (sI a3)] M0 (fun r M' => ∃ a : Int, r = sI a ∧ INV pr Kz M' ∧ (-3) ≤ a ∧ a ≤ 0 ∧ (a = nuF a1 a2 a3) ∧ (b01 (NBX M0 M' a1 a2 a3) = 1)) := by
  refine ci_of (cc := cX11_numbers) (maxL := 4) (ty := .int) (lv := [(0, .ref (ad 0)), (1, .int (sI a1)), (2, .int (sI a2)), (3, .int (sI a3))]) (by decide) rfl (fun r M' hp => rfl) (Nat.le_of_ble_eq_true rfl) rfl ?_
  intro p e s m args below meth c A Q C hret
  refine j_iload_n C 1 1 dX11_numbers_0 rfl rfl ?_
  refine j_callSi C (d := 0) (As := [.int (sI a1)]) (st := []) (s1_X11_isTray hM0 a1 (by omega)) gX11_numbers_X11_isTray rfl hdX11_isTrays (by decide) (Nat.le_of_ble_eq_true rfl) dX11_numbers_1 rfl (fun r101 M102 h103 => ?_)
  obtain ⟨a105, rfl, rfl, h104⟩ := h103
  refine y_if_eq C 16 dX11_numbers_4 (by decide) (by omega) (fun h106 => ?_) (fun h106 => ?_)
  · refine y_bipush C dX11_numbers_16 rfl ?_
    have u107x := nbx_no (M := M0) (t := a1) (s := a2) (n := a3) (by omega)
    have u108n := nuF_s a1 a2 a3
    exact hret _ _ _ _ dX11_numbers_18 ⟨(-2), rfl, hM0, by omega⟩
  · refine j_iload_n C 2 2 dX11_numbers_7 rfl rfl ?_
    refine y_if_lt C 16 dX11_numbers_8 (by decide) (by omega) (fun h109 => ?_) (fun h109 => ?_)
    · refine y_bipush C dX11_numbers_16 rfl ?_
      have u110x := nbx_no (M := M0) (t := a1) (s := a2) (n := a3) (by omega)
      have u111n := nuF_s a1 a2 a3
      exact hret _ _ _ _ dX11_numbers_18 ⟨(-2), rfl, hM0, by omega⟩
    · refine j_iload_n C 2 2 dX11_numbers_11 rfl rfl ?_
      refine y_iconst C dX11_numbers_12 ?_
      refine y_icmp_le C 19 dX11_numbers_13 (by decide) (by omega) (fun h112 => ?_) (fun h112 => ?_)
      · refine j_iload_n C 3 3 dX11_numbers_19 rfl rfl ?_
        refine y_if_lt C 29 dX11_numbers_20 (by decide) (by omega) (fun h113 => ?_) (fun h113 => ?_)
        · refine y_bipush C dX11_numbers_29 rfl ?_
          have u114x := nbx_no (M := M0) (t := a1) (s := a2) (n := a3) (by omega)
          have u115n := nuF_s a1 a2 a3
          exact hret _ _ _ _ dX11_numbers_31 ⟨(-3), rfl, hM0, by omega⟩
        · refine j_iload_n C 3 3 dX11_numbers_23 rfl rfl ?_
          refine y_bipush C dX11_numbers_24 rfl ?_
          refine y_icmp_le C 32 dX11_numbers_26 (by decide) (by omega) (fun h116 => ?_) (fun h116 => ?_)
          · refine j_aload_n C 0 0 dX11_numbers_32 rfl rfl ?_
            refine y_getC C 10 50 fX11_numbers_52 rfl rfl ft_10_9 sm_10_9 rfl hM0 dX11_numbers_33 ?_
            refine j_iload_n C 1 1 dX11_numbers_36 rfl rfl ?_
            refine y_aaldE C 28 4 9 rfl rfl rfl rfl an_28 rfl sma_28 sta_28 (by decide) hM0 dX11_numbers_37 (by omega) (fun cv117 => ?_)
            refine j_iload_n C 2 2 dX11_numbers_38 rfl rfl ?_
            refine j_iload_n C 3 3 dX11_numbers_39 rfl rfl ?_
            refine j_callVv C (d := 1) (As := [.int (sI a2), .int (sI a3)]) (st := []) (s_p0 50 (a1).toNat) (s_lt cv117 rfl) (s_kc (c := 9) cv117 rfl) (by decide) rfl (s1_X10_layOut hM0 hpr hq9_1 hq9_2 cv117 a2 (by omega) a3 (by omega) (by omega) (by omega)) gX11_numbers_X10_layOut rfl hdX10_layOut (by decide) (Nat.le_of_ble_eq_true rfl) dX11_numbers_40 rfl (fun M119 h120 => ?_)
            obtain ⟨hM119, h121⟩ := h120
            refine y_iconst C dX11_numbers_43 ?_
            have u122x := nbx_yes (M := M0) (N := M119) (t := a1) (s := a2) (n := a3) (by omega) (by omega) (by omega)
            have u123n := nuF_s a1 a2 a3
            exact hret _ _ _ _ dX11_numbers_44 ⟨0, rfl, hM119, by omega⟩
          · refine y_bipush C dX11_numbers_29 rfl ?_
            have u124x := nbx_no (M := M0) (t := a1) (s := a2) (n := a3) (by omega)
            have u125n := nuF_s a1 a2 a3
            exact hret _ _ _ _ dX11_numbers_31 ⟨(-3), rfl, hM0, by omega⟩
      · refine y_bipush C dX11_numbers_16 rfl ?_
        have u126x := nbx_no (M := M0) (t := a1) (s := a2) (n := a3) (by omega)
        have u127n := nuF_s a1 a2 a3
        exact hret _ _ _ _ dX11_numbers_18 ⟨(-2), rfl, hM0, by omega⟩
set_option maxHeartbeats 4000000 in
theorem s2_X11_trayRefusal {l : Launch} {dC : Nat → ClassId} {dI : Nat → Nat → Nat} {ad : Nat → Nat} {cA : Nat → ClassId} {pr : Nat → Nat → Bool} {Kz : mm_M} {M0 : mm_M} (hM0 : INV pr Kz M0) (a1 : Int) (ha1 : -2147483648 ≤ a1 ∧ a1 ≤ 2147483647) : Ci l 1 yX11_trayRefusal wsX11_trayRefusal dC dI ad cA [.ref (ad 0), .int (sI a1)] M0 (fun r M' => ∃ a : Int, r = sI a ∧ M0 = M' ∧ (-6) ≤ a ∧ a ≤ 0 ∧ ((a1 < 0 ∨ 3 < a1) ∧ a = -2 ∨ 0 ≤ a1 ∧ a1 ≤ 3 ∧ (M0.1 (s_p0 50 (a1).toNat) 2).toInt = -1 ∧ a = -6 ∨ 0 ≤ a1 ∧ a1 ≤ 3 ∧ ¬ (M0.1 (s_p0 50 (a1).toNat) 2).toInt = -1 ∧ a = 0)) := by
  refine ci_of (cc := cX11_trayRefusal) (maxL := 2) (ty := .int) (lv := [(0, .ref (ad 0)), (1, .int (sI a1))]) (by decide) rfl (fun r M' hp => rfl) (Nat.le_of_ble_eq_true rfl) rfl ?_
  intro p e s m args below meth c A Q C hret
  refine j_iload_n C 1 1 dX11_trayRefusal_0 rfl rfl ?_
  refine j_callSi C (d := 0) (As := [.int (sI a1)]) (st := []) (s1_X11_isTray hM0 a1 (by omega)) gX11_trayRefusal_X11_isTray rfl hdX11_isTrays (by decide) (Nat.le_of_ble_eq_true rfl) dX11_trayRefusal_1 rfl (fun r101 M102 h103 => ?_)
  obtain ⟨a105, rfl, rfl, h104⟩ := h103
  refine y_if_ne C 10 dX11_trayRefusal_4 (by decide) (by omega) (fun h106 => ?_) (fun h106 => ?_)
  · refine j_aload_n C 0 0 dX11_trayRefusal_10 rfl rfl ?_
    refine y_getC C 10 50 fX11_trayRefusal_52 rfl rfl ft_10_9 sm_10_9 rfl hM0 dX11_trayRefusal_11 ?_
    refine j_iload_n C 1 1 dX11_trayRefusal_14 rfl rfl ?_
    refine y_aaldE C 28 4 9 rfl rfl rfl rfl an_28 rfl sma_28 sta_28 (by decide) hM0 dX11_trayRefusal_15 (by omega) (fun cv107 => ?_)
    refine j_callVi C (d := 0) (As := []) (st := []) (s_p0 50 (a1).toNat) (s_lt cv107 rfl) (s_kc (c := 9) cv107 rfl) (by decide) rfl (s1_X10_isMissing hM0 cv107) gX11_trayRefusal_X10_isMissing rfl hdX10_isMissing (by decide) (Nat.le_of_ble_eq_true rfl) dX11_trayRefusal_16 rfl (fun r108 M109 h110 => ?_)
    obtain ⟨a112, rfl, rfl, h111⟩ := h110
    refine y_if_eq C 27 dX11_trayRefusal_19 (by decide) (by omega) (fun h113 => ?_) (fun h113 => ?_)
    · refine y_iconst C dX11_trayRefusal_27 ?_
      exact hret _ _ _ _ dX11_trayRefusal_28 ⟨0, rfl, rfl, by omega⟩
    · refine y_bipush C dX11_trayRefusal_22 rfl ?_
      refine j_goto C 28 dX11_trayRefusal_24 (by decide) ?_
      exact hret _ _ _ _ dX11_trayRefusal_28 ⟨(-6), rfl, rfl, by omega⟩
  · refine y_bipush C dX11_trayRefusal_7 rfl ?_
    exact hret _ _ _ _ dX11_trayRefusal_9 ⟨(-2), rfl, rfl, by omega⟩
set_option maxHeartbeats 4000000 in
theorem s1_X10_cut {l : Launch} {dC : Nat → ClassId} {dI : Nat → Nat → Nat} {ad : Nat → Nat} {cA : Nat → ClassId} {pr : Nat → Nat → Bool} {Kz : mm_M} {M0 : mm_M} (hM0 : INV pr Kz M0) {v0 : Nat} (cv0 : s_c v0 = 9) (a1 : Int) (ha1 : -9223372036854775808 ≤ a1 ∧ a1 ≤ 9223372036854775807) : Cj l 0 yX10_cut wsX10_cut dC dI ad cA [.ref (ad v0), .long (sJ a1)] M0 (fun r M' => ∃ a : Int, r = sJ a ∧ M0 = M' ∧ (-9223372036854775808) ≤ a ∧ a ≤ 9223372036854775807 ∧ (a = ctF a1 (M0.1 v0 1).toInt)) := by
  refine cj_of (cc := cX10_cut) (maxL := 3) (lv := [(0, .ref (ad v0)), (1, .long (sJ a1))]) (by decide) rfl (Nat.le_of_ble_eq_true rfl) rfl ?_
  intro p e s m args below meth c A Q C hret
  refine j_aload_n C 0 0 dX10_cut_0 rfl rfl ?_
  refine y_getI C 9 _ _ fX10_cut_15 cv0 rfl ft_9_1 sb_9_1 hM0 dX10_cut_1 (fun a101 ea101 la101 ua101 => ?_)
  rcases (show (a101 < 0 ∨ 2 < a101) ∨ a101 = 0 ∨ a101 = 1 ∨ a101 = 2 by omega) with h103 | h103 | h103 | h103
  · refine y_tabO C 46 dX10_cut_4 (by decide) (by omega) ?_
    refine j_lload_n C 1 1 dX10_cut_46 rfl rfl ?_
    have u104 := ctF_s a1 (M0.1 v0 1).toInt
    exact hret _ _ _ _ dX10_cut_47 ⟨a1, rfl, rfl, by omega⟩
  · refine y_tabI C (off := 28) 32 0 dX10_cut_4 (by decide) rfl (by decide) h103 ?_
    refine j_lload_n C 1 1 dX10_cut_32 rfl rfl ?_
    refine e_l2i C dX10_cut_33 (fun lb105 ub105 => ?_)
    refine e_i2b C dX10_cut_34 (fun lb106 ub106 => ?_)
    refine y_i2l C dX10_cut_35 (by omega) ?_
    have u107 := ctF_s a1 (M0.1 v0 1).toInt
    exact hret _ _ _ _ dX10_cut_36 ⟨(i8F (w32 a1)), rfl, rfl, by omega⟩
  · refine y_tabI C (off := 33) 37 1 dX10_cut_4 (by decide) rfl (by decide) h103 ?_
    refine j_lload_n C 1 1 dX10_cut_37 rfl rfl ?_
    refine e_l2i C dX10_cut_38 (fun lb108 ub108 => ?_)
    refine e_i2s C dX10_cut_39 (fun lb109 ub109 => ?_)
    refine y_i2l C dX10_cut_40 (by omega) ?_
    have u110 := ctF_s a1 (M0.1 v0 1).toInt
    exact hret _ _ _ _ dX10_cut_41 ⟨(i16F (w32 a1)), rfl, rfl, by omega⟩
  · refine y_tabI C (off := 38) 42 2 dX10_cut_4 (by decide) rfl (by decide) h103 ?_
    refine j_lload_n C 1 1 dX10_cut_42 rfl rfl ?_
    refine e_l2i C dX10_cut_43 (fun lb111 ub111 => ?_)
    refine y_i2l C dX10_cut_44 (by omega) ?_
    have u112 := ctF_s a1 (M0.1 v0 1).toInt
    exact hret _ _ _ _ dX10_cut_45 ⟨(w32 a1), rfl, rfl, by omega⟩
set_option maxHeartbeats 4000000 in
theorem s1_X10_put {l : Launch} {dC : Nat → ClassId} {dI : Nat → Nat → Nat} {ad : Nat → Nat} {cA : Nat → ClassId} {pr : Nat → Nat → Bool} {Kz : mm_M} {M0 : mm_M} (hM0 : INV pr Kz M0) (hpr : PX pr) {v0 : Nat} (cv0 : s_c v0 = 9) (a1 : Int) (ha1 : -2147483648 ≤ a1 ∧ a1 ≤ 2147483647) (a2 : Int) (ha2 : -9223372036854775808 ≤ a2 ∧ a2 ≤ 9223372036854775807) : Cv l 1 yX10_put wsX10_put dC dI ad cA [.ref (ad v0), .int (sI a1), .long (sJ a2)] M0 (fun M' => INV pr Kz M' ∧ (0 ≤ a1 ∧ a1 < (M0.1 v0 2).toInt ∧ (M'.2.1 (s_p0 v0 0) (a1).toNat).toInt = ctF a2 (M0.1 v0 1).toInt ∨ (a1 < 0 ∨ (M0.1 v0 2).toInt ≤ a1))) := by
  refine cv_of (cc := cX10_put) (maxL := 4) (lv := [(0, .ref (ad v0)), (1, .int (sI a1)), (2, .long (sJ a2))]) (by decide) rfl (Nat.le_of_ble_eq_true rfl) rfl ?_
  intro p e s m args below meth c A Q C hret
  refine j_aload_n C 0 0 dX10_put_0 rfl rfl ?_
  refine j_iload_n C 1 1 dX10_put_1 rfl rfl ?_
  refine j_callVi C (d := 0) (As := [.int (sI a1)]) (st := []) v0 (s_lt cv0 rfl) (s_kc (c := 9) cv0 rfl) (by decide) rfl (s1_X10_has hM0 cv0 a1 (by omega)) gX10_put_X10_has rfl hdX10_has (by decide) (Nat.le_of_ble_eq_true rfl) dX10_put_2 rfl (fun r101 M102 h103 => ?_)
  obtain ⟨a105, rfl, rfl, h104⟩ := h103
  refine y_if_eq C 19 dX10_put_5 (by decide) (by omega) (fun h106 => ?_) (fun h106 => ?_)
  · exact hret _ _ _ dX10_put_19 ⟨hM0, by omega⟩
  · refine j_aload_n C 0 0 dX10_put_8 rfl rfl ?_
    refine y_getTE C 9 29 fX10_put_9 cv0 rfl ft_9_0 rfl sm_9_0 st_9_0 (by decide) hM0 dX10_put_9 (fun cv108 => ?_)
    refine j_iload_n C 1 1 dX10_put_12 rfl rfl ?_
    refine j_aload_n C 0 0 dX10_put_13 rfl rfl ?_
    refine j_lload_n C 2 2 dX10_put_14 rfl rfl ?_
    refine j_callVj C (d := 0) (As := [.long (sJ a2)]) (st := [.int (sI a1), .ref (ad (s_p0 v0 0))]) v0 (s_lt cv0 rfl) (s_kc (c := 9) cv0 rfl) (by decide) rfl (s1_X10_cut hM0 cv0 a2 (by omega)) gX10_put_X10_cut rfl hdX10_cut (by decide) (Nat.le_of_ble_eq_true rfl) dX10_put_15 rfl (fun r109 M110 h111 => ?_)
    obtain ⟨a113, rfl, rfl, h112⟩ := h111
    refine y_last C 29 40 cv108 rfl rfl ak_29 an_29 rfl hM0 (PX.w hpr cv108 rfl) dX10_put_18 (by omega) (fun M114 eM114 hM114 => ?_)
    have u115 := wJ_rd eM114 (by omega)
    exact hret _ _ _ dX10_put_19 ⟨hM114, by omega⟩
set_option maxHeartbeats 4000000 in
theorem s2_X10_numberAt {l : Launch} {dC : Nat → ClassId} {dI : Nat → Nat → Nat} {ad : Nat → Nat} {cA : Nat → ClassId} {pr : Nat → Nat → Bool} {Kz : mm_M} {M0 : mm_M} (hM0 : INV pr Kz M0) {v0 : Nat} (cv0 : s_c v0 = 9) (a1 : Int) (ha1 : -2147483648 ≤ a1 ∧ a1 ≤ 2147483647) : Cj l 1 yX10_numberAt wsX10_numberAt dC dI ad cA [.ref (ad v0), .int (sI a1)] M0 (fun r M' => ∃ a : Int, r = sJ a ∧ M0 = M' ∧ (-9223372036854775808) ≤ a ∧ a ≤ 9223372036854775807 ∧ (0 ≤ a1 ∧ a1 < (M0.1 v0 2).toInt ∧ a = (M0.2.1 (s_p0 v0 0) (a1).toNat).toInt ∨ (a1 < 0 ∨ (M0.1 v0 2).toInt ≤ a1) ∧ a = 0)) := by
  refine cj_of (cc := cX10_numberAt) (maxL := 2) (lv := [(0, .ref (ad v0)), (1, .int (sI a1))]) (by decide) rfl (Nat.le_of_ble_eq_true rfl) rfl ?_
  intro p e s m args below meth c A Q C hret
  refine j_aload_n C 0 0 dX10_numberAt_0 rfl rfl ?_
  refine j_iload_n C 1 1 dX10_numberAt_1 rfl rfl ?_
  refine j_callVi C (d := 0) (As := [.int (sI a1)]) (st := []) v0 (s_lt cv0 rfl) (s_kc (c := 9) cv0 rfl) (by decide) rfl (s1_X10_has hM0 cv0 a1 (by omega)) gX10_numberAt_X10_has rfl hdX10_has (by decide) (Nat.le_of_ble_eq_true rfl) dX10_numberAt_2 rfl (fun r101 M102 h103 => ?_)
  obtain ⟨a105, rfl, rfl, h104⟩ := h103
  refine y_if_eq C 17 dX10_numberAt_5 (by decide) (by omega) (fun h106 => ?_) (fun h106 => ?_)
  · refine y_lconst C 0 dX10_numberAt_17 rfl ?_
    exact hret _ _ _ _ dX10_numberAt_18 ⟨0, rfl, rfl, by omega⟩
  · refine j_aload_n C 0 0 dX10_numberAt_8 rfl rfl ?_
    refine y_getTE C 9 29 fX10_numberAt_9 cv0 rfl ft_9_0 rfl sm_9_0 st_9_0 (by decide) hM0 dX10_numberAt_9 (fun cv107 => ?_)
    refine j_iload_n C 1 1 dX10_numberAt_12 rfl rfl ?_
    refine y_lald C 29 40 cv107 rfl rfl ak_29 an_29 rfl dX10_numberAt_13 (by omega) (fun a108 ea108 la108 ua108 => ?_)
    refine j_goto C 18 dX10_numberAt_14 (by decide) ?_
    exact hret _ _ _ _ dX10_numberAt_18 ⟨a108, rfl, rfl, by omega⟩
set_option maxHeartbeats 4000000 in
theorem s1_X11_write {l : Launch} {dC : Nat → ClassId} {dI : Nat → Nat → Nat} {ad : Nat → Nat} {cA : Nat → ClassId} {pr : Nat → Nat → Bool} {Kz : mm_M} {M0 : mm_M} (hM0 : INV pr Kz M0) (hpr : PX pr) (a1 : Int) (ha1 : -2147483648 ≤ a1 ∧ a1 ≤ 2147483647) (a2 : Int) (ha2 : -2147483648 ≤ a2 ∧ a2 ≤ 2147483647) (a3 : Int) (ha3 : -9223372036854775808 ≤ a3 ∧ a3 ≤ 9223372036854775807) : Cj l 2 yX11_write wsX11_write dC dI ad cA [.ref (ad 0), .int (sI a1), .int (sI a2), .long (sJ a3)] M0 (fun r M' => ∃ a : Int, r = sJ a ∧ INV pr Kz M' ∧ (-9223372036854775808) ≤ a ∧ a ≤ 9223372036854775807 ∧ ((a1 < 0 ∨ 3 < a1) ∧ a = -2 ∨ 0 ≤ a1 ∧ a1 ≤ 3 ∧ (M0.1 (s_p0 50 (a1).toNat) 2).toInt = -1 ∧ a = -6 ∨ 0 ≤ a1 ∧ a1 ≤ 3 ∧ ¬ (M0.1 (s_p0 50 (a1).toNat) 2).toInt = -1 ∧ (a2 < 0 ∨ (M0.1 (s_p0 50 (a1).toNat) 2).toInt ≤ a2) ∧ a = -7 ∨ 0 ≤ a1 ∧ a1 ≤ 3 ∧ ¬ (M0.1 (s_p0 50 (a1).toNat) 2).toInt = -1 ∧ 0 ≤ a2 ∧ a2 < (M0.1 (s_p0 50 (a1).toNat) 2).toInt ∧ a = ctF a3 (M0.1 (s_p0 50 (a1).toNat) 1).toInt)) := by
  refine cj_of (cc := cX11_write) (maxL := 6) (lv := [(0, .ref (ad 0)), (1, .int (sI a1)), (2, .int (sI a2)), (3, .long (sJ a3))]) (by decide) rfl (Nat.le_of_ble_eq_true rfl) rfl ?_
  intro p e s m args below meth c A Q C hret
  refine j_aload_n C 0 0 dX11_write_0 rfl rfl ?_
  refine j_iload_n C 1 1 dX11_write_1 rfl rfl ?_
  refine j_callVi C (d := 1) (As := [.int (sI a1)]) (st := []) 0 (s_lt rfl rfl) (s_kc (c := 10) rfl rfl) (by decide) rfl (s2_X11_trayRefusal hM0 a1 (by omega)) gX11_write_X11_trayRefusal rfl hdX11_trayRefusal (by decide) (Nat.le_of_ble_eq_true rfl) dX11_write_2 rfl (fun r101 M102 h103 => ?_)
  obtain ⟨a105, rfl, rfl, h104⟩ := h103
  refine j_istore C 5 [(5, .int (sI a105)), (0, .ref (ad 0)), (1, .int (sI a1)), (2, .int (sI a2)), (3, .long (sJ a3))] dX11_write_5 (by decide) rfl ?_
  refine j_iload C 0 dX11_write_7 rfl ?_
  refine y_if_eq C 16 dX11_write_9 (by decide) (by omega) (fun h106 => ?_) (fun h106 => ?_)
  · refine j_aload_n C 1 0 dX11_write_16 rfl rfl ?_
    refine y_getC C 10 50 fX11_write_52 rfl rfl ft_10_9 sm_10_9 rfl hM0 dX11_write_17 ?_
    refine j_iload_n C 2 1 dX11_write_20 rfl rfl ?_
    refine y_aaldE C 28 4 9 rfl rfl rfl rfl an_28 rfl sma_28 sta_28 (by decide) hM0 dX11_write_21 (by omega) (fun cv107 => ?_)
    refine j_iload_n C 3 2 dX11_write_22 rfl rfl ?_
    refine j_callVi C (d := 0) (As := [.int (sI a2)]) (st := []) (s_p0 50 (a1).toNat) (s_lt cv107 rfl) (s_kc (c := 9) cv107 rfl) (by decide) rfl (s1_X10_has hM0 cv107 a2 (by omega)) gX11_write_X10_has rfl hdX10_has (by decide) (Nat.le_of_ble_eq_true rfl) dX11_write_23 rfl (fun r108 M109 h110 => ?_)
    obtain ⟨a112, rfl, rfl, h111⟩ := h110
    refine y_if_ne C 33 dX11_write_26 (by decide) (by omega) (fun h113 => ?_) (fun h113 => ?_)
    · refine j_aload_n C 1 0 dX11_write_33 rfl rfl ?_
      refine y_getC C 10 50 fX11_write_52 rfl rfl ft_10_9 sm_10_9 rfl hM0 dX11_write_34 ?_
      refine j_iload_n C 2 1 dX11_write_37 rfl rfl ?_
      refine y_aaldE C 28 4 9 rfl rfl rfl rfl an_28 rfl sma_28 sta_28 (by decide) hM0 dX11_write_38 (by omega) (fun cv114 => ?_)
      refine j_iload_n C 3 2 dX11_write_39 rfl rfl ?_
      refine j_lload_n C 4 3 dX11_write_40 rfl rfl ?_
      have hprO := hpr
      obtain ⟨pr2, Kz2, hpr, hM0, hbk⟩ := fzX hpr hM0
      refine j_callVv C (d := 1) (As := [.int (sI a2), .long (sJ a3)]) (st := []) (s_p0 50 (a1).toNat) (s_lt cv114 rfl) (s_kc (c := 9) cv114 rfl) (by decide) rfl (s1_X10_put hM0 hpr cv114 a2 (by omega) a3 (by omega)) gX11_write_X10_put rfl hdX10_put (by decide) (Nat.le_of_ble_eq_true rfl) dX11_write_41 rfl (fun M117 h118 => ?_)
      obtain ⟨hM117, h119⟩ := h118
      have u120z := congrArg Int32.toInt ((hbk _ hM117).2 (s_p0 50 (a1).toNat) 2 (by rw [p50_c (a1).toNat (by omega)]; rfl))
      have hM117 := (hbk _ hM117).1
      have hpr := hprO
      refine j_aload_n C 1 0 dX11_write_44 rfl rfl ?_
      refine y_getC C 10 50 fX11_write_52 rfl rfl ft_10_9 sm_10_9 rfl hM117 dX11_write_45 ?_
      refine j_iload_n C 2 1 dX11_write_48 rfl rfl ?_
      refine y_aaldE C 28 4 9 rfl rfl rfl rfl an_28 rfl sma_28 sta_28 (by decide) hM117 dX11_write_49 (by omega) (fun cv121 => ?_)
      refine j_iload_n C 3 2 dX11_write_50 rfl rfl ?_
      refine j_callVj C (d := 1) (As := [.int (sI a2)]) (st := []) (s_p0 50 (a1).toNat) (s_lt cv121 rfl) (s_kc (c := 9) cv121 rfl) (by decide) rfl (s2_X10_numberAt hM117 cv121 a2 (by omega)) gX11_write_X10_numberAt rfl hdX10_numberAt (by decide) (Nat.le_of_ble_eq_true rfl) dX11_write_51 rfl (fun r122 M123 h124 => ?_)
      obtain ⟨a126, rfl, rfl, h125⟩ := h124
      exact hret _ _ _ _ dX11_write_54 ⟨a126, rfl, hM117, by omega⟩
    · refine y_ldc2 C (-7) dX11_write_29 kX11_write_387 rfl ?_
      exact hret _ _ _ _ dX11_write_32 ⟨(-7), rfl, hM0, by omega⟩
  · refine j_iload C 0 dX11_write_12 rfl ?_
    refine y_i2l C dX11_write_14 (by omega) ?_
    exact hret _ _ _ _ dX11_write_15 ⟨a105, rfl, hM0, by omega⟩
set_option maxHeartbeats 4000000 in
theorem s2_X10_put {l : Launch} {dC : Nat → ClassId} {dI : Nat → Nat → Nat} {ad : Nat → Nat} {cA : Nat → ClassId} {pr : Nat → Nat → Bool} {Kz : mm_M} {M0 : mm_M} (hM0 : INV pr Kz M0) (hpr : PX pr) {v0 : Nat} (cv0 : s_c v0 = 9) (a1 : Int) (ha1 : -2147483648 ≤ a1 ∧ a1 ≤ 2147483647) (a2 : Int) (ha2 : -9223372036854775808 ≤ a2 ∧ a2 ≤ 9223372036854775807) : Cv l 1 yX10_put wsX10_put dC dI ad cA [.ref (ad v0), .int (sI a1), .long (sJ a2)] M0 (fun M' => INV pr Kz M') := by
  refine cv_of (cc := cX10_put) (maxL := 4) (lv := [(0, .ref (ad v0)), (1, .int (sI a1)), (2, .long (sJ a2))]) (by decide) rfl (Nat.le_of_ble_eq_true rfl) rfl ?_
  intro p e s m args below meth c A Q C hret
  refine j_aload_n C 0 0 dX10_put_0 rfl rfl ?_
  refine j_iload_n C 1 1 dX10_put_1 rfl rfl ?_
  refine j_callVi C (d := 0) (As := [.int (sI a1)]) (st := []) v0 (s_lt cv0 rfl) (s_kc (c := 9) cv0 rfl) (by decide) rfl (s1_X10_has hM0 cv0 a1 (by omega)) gX10_put_X10_has rfl hdX10_has (by decide) (Nat.le_of_ble_eq_true rfl) dX10_put_2 rfl (fun r101 M102 h103 => ?_)
  obtain ⟨a105, rfl, rfl, h104⟩ := h103
  refine y_if_eq C 19 dX10_put_5 (by decide) (by omega) (fun h106 => ?_) (fun h106 => ?_)
  · exact hret _ _ _ dX10_put_19 hM0
  · refine j_aload_n C 0 0 dX10_put_8 rfl rfl ?_
    refine y_getT C 9 29 fX10_put_9 cv0 rfl ft_9_0 rfl sm_9_0 st_9_0 (by decide) hM0 dX10_put_9 (fun v107 cv107 => ?_)
    refine j_iload_n C 1 1 dX10_put_12 rfl rfl ?_
    refine j_aload_n C 0 0 dX10_put_13 rfl rfl ?_
    refine j_lload_n C 2 2 dX10_put_14 rfl rfl ?_
    refine j_callVj C (d := 0) (As := [.long (sJ a2)]) (st := [.int (sI a1), .ref (ad v107)]) v0 (s_lt cv0 rfl) (s_kc (c := 9) cv0 rfl) (by decide) rfl (s1_X10_cut hM0 cv0 a2 (by omega)) gX10_put_X10_cut rfl hdX10_cut (by decide) (Nat.le_of_ble_eq_true rfl) dX10_put_15 rfl (fun r108 M109 h110 => ?_)
    obtain ⟨a112, rfl, rfl, h111⟩ := h110
    refine y_last C 29 40 cv107 rfl rfl ak_29 an_29 rfl hM0 (PX.w hpr cv107 rfl) dX10_put_18 (by omega) (fun M113 eM113 hM113 => ?_)
    exact hret _ _ _ dX10_put_19 hM113
set_option maxHeartbeats 4000000 in
theorem s1_X11_lists {l : Launch} {dC : Nat → ClassId} {dI : Nat → Nat → Nat} {ad : Nat → Nat} {cA : Nat → ClassId} {pr : Nat → Nat → Bool} {Kz : mm_M} {M0 : mm_M} (hM0 : INV pr Kz M0) (hpr : PX pr) (a1 : Int) (ha1 : -2147483648 ≤ a1 ∧ a1 ≤ 2147483647) : Ci l 6 yX11_lists wsX11_lists dC dI ad cA [.ref (ad 0), .int (sI a1)] M0 (fun r M' => ∃ a : Int, r = sI a ∧ INV pr Kz M' ∧ (-2147483648) ≤ a ∧ a ≤ 40) := by
  refine ci_of (cc := cX11_lists) (maxL := 6) (ty := .int) (lv := [(0, .ref (ad 0)), (1, .int (sI a1))]) (by decide) rfl (fun r M' hp => rfl) (Nat.le_of_ble_eq_true rfl) rfl ?_
  intro p e s m args below meth c A Q C hret
  refine j_aload_n C 0 0 dX11_lists_0 rfl rfl ?_
  refine j_iload_n C 1 1 dX11_lists_1 rfl rfl ?_
  refine j_callVi C (d := 1) (As := [.int (sI a1)]) (st := []) 0 (s_lt rfl rfl) (s_kc (c := 10) rfl rfl) (by decide) rfl (s1_X11_trayRefusal hM0 a1 (by omega)) gX11_lists_X11_trayRefusal rfl hdX11_trayRefusal (by decide) (Nat.le_of_ble_eq_true rfl) dX11_lists_2 rfl (fun r101 M102 h103 => ?_)
  obtain ⟨a105, rfl, rfl, h104⟩ := h103
  refine j_istore_n C 2 [(2, .int (sI a105)), (0, .ref (ad 0)), (1, .int (sI a1))] dX11_lists_5 rfl (by decide) rfl ?_
  refine j_iload_n C 0 2 dX11_lists_6 rfl rfl ?_
  refine y_if_eq C 12 dX11_lists_7 (by decide) (by omega) (fun h106 => ?_) (fun h106 => ?_)
  · refine j_aload_n C 1 0 dX11_lists_12 rfl rfl ?_
    refine y_getC C 10 88 fX11_lists_94 rfl rfl ft_10_14 sm_10_14 rfl hM0 dX11_lists_13 ?_
    refine j_aload_n C 1 0 dX11_lists_16 rfl rfl ?_
    refine y_getM C 10 6 fX11_lists_26 rfl rfl ft_10_4 sm_10_4 (by decide) hM0 dX11_lists_17 (fun v107 ev107 cv107 => ?_)
    refine j_aload_n C 1 0 dX11_lists_20 rfl rfl ?_
    refine y_getC C 10 12 fX11_lists_36 rfl rfl ft_10_6 sm_10_6 rfl hM0 dX11_lists_21 ?_
    refine j_aload_n C 1 0 dX11_lists_24 rfl rfl ?_
    refine y_getC C 10 12 fX11_lists_36 rfl rfl ft_10_6 sm_10_6 rfl hM0 dX11_lists_25 ?_
    refine y_getI C 8 _ _ fX11_lists_153 rfl rfl ft_8_4 sb_8_4 hM0 dX11_lists_28 (fun a108 ea108 la108 ua108 => ?_)
    refine j_callVv C (d := 5) (As := [.ref (ad v107), .ref (ad 12), .int (sI a108)]) (st := []) 88 (s_lt rfl rfl) (s_kc (c := 4) rfl rfl) (by decide) rfl (s1_X5_look hM0 hpr cv107 rfl a108 (by omega)) gX11_lists_X5_look rfl hdX5_look (by decide) (Nat.le_of_ble_eq_true rfl) dX11_lists_31 rfl (fun M111 h112 => ?_)
    have hM111 := h112
    refine j_aload_n C 1 0 dX11_lists_34 rfl rfl ?_
    refine y_getC C 10 88 fX11_lists_94 rfl rfl ft_10_14 sm_10_14 rfl hM111 dX11_lists_35 ?_
    refine j_callVi C (d := 3) (As := []) (st := []) 88 (s_lt rfl rfl) (s_kc (c := 4) rfl rfl) (by decide) rfl (s1_X5_shortest hM111 hpr) gX11_lists_X5_shortest rfl hdX5_shortest (by decide) (Nat.le_of_ble_eq_true rfl) dX11_lists_38 rfl (fun r114 M115 h116 => ?_)
    obtain ⟨a118, rfl, hM115, h117⟩ := h116
    refine j_istore_n C 3 [(3, .int (sI a118)), (2, .int (sI a105)), (0, .ref (ad 0)), (1, .int (sI a1))] dX11_lists_41 rfl (by decide) rfl ?_
    refine j_iload_n C 0 3 dX11_lists_42 rfl rfl ?_
    refine y_iconst C dX11_lists_43 ?_
    refine y_icmp_ne C 50 dX11_lists_44 (by decide) (by omega) (fun h119 => ?_) (fun h119 => ?_)
    · refine j_iload_n C 0 3 dX11_lists_50 rfl rfl ?_
      refine j_aload_n C 2 0 dX11_lists_51 rfl rfl ?_
      refine y_getC C 10 50 fX11_lists_52 rfl rfl ft_10_9 sm_10_9 rfl hM115 dX11_lists_52 ?_
      refine j_iload_n C 3 1 dX11_lists_55 rfl rfl ?_
      refine y_aald C 28 4 9 rfl rfl rfl rfl an_28 rfl sma_28 sta_28 (by decide) hM115 dX11_lists_56 (by omega) (fun v120 cv120 => ?_)
      refine j_callVi C (d := 1) (As := []) (st := [.int (sI a118)]) v120 (s_lt cv120 rfl) (s_kc (c := 9) cv120 rfl) (by decide) rfl (s1_X10_size hM115 cv120) gX11_lists_X10_size rfl hdX10_size (by decide) (Nat.le_of_ble_eq_true rfl) dX11_lists_57 rfl (fun r121 M122 h123 => ?_)
      obtain ⟨a125, rfl, rfl, h124⟩ := h123
      refine y_mmin C wX11_lists_246_0 wX11_lists_246_1 wX11_lists_246_2 wX11_lists_246_3 (by decide) (Nat.le_of_ble_eq_true rfl) dX11_lists_60 (by omega) (fun a126 ha126 => ?_)
      refine j_istore C 4 [(4, .int (sI a126)), (3, .int (sI a118)), (2, .int (sI a105)), (0, .ref (ad 0)), (1, .int (sI a1))] dX11_lists_63 (by decide) rfl ?_
      refine y_iconst C dX11_lists_65 ?_
      refine j_istore C 5 [(5, .int (sI 0)), (4, .int (sI a126)), (3, .int (sI a118)), (2, .int (sI a105)), (0, .ref (ad 0)), (1, .int (sI a1))] dX11_lists_66 (by decide) rfl ?_
      have L350 : ∀ (n348 : Nat), ∀ (a351 : Int) (M352 : mm_M), (0 ≤ a351 ∧ a351 ≤ 40 ∧ (40 - a351) < (n348 : Int)) → INV pr Kz M352 → jj p l e (cn_R 6) s m args below meth c 0 0 Q 6 dC dI ad cA A M352 68 [(0, .ref (ad 0)), (1, .int (sI a1)), (4, .int (sI a126)), (5, .int (sI a351))] [] := by
        intro n348
        induction n348 with
        | zero =>
          intro a351 M352 h353 hM352
          exfalso; omega
        | succ n348 ih349 =>
          intro a351 M352 h353 hM352
          refine j_iload C 3 dX11_lists_68 rfl ?_
          refine j_iload C 2 dX11_lists_70 rfl ?_
          refine y_icmp_ge C 102 dX11_lists_72 (by decide) (by omega) (fun h354 => ?_) (fun h354 => ?_)
          · refine j_iload C 2 dX11_lists_102 rfl ?_
            exact hret _ _ _ _ dX11_lists_104 ⟨a126, rfl, hM352, by omega⟩
          · refine j_aload_n C 0 0 dX11_lists_75 rfl rfl ?_
            refine y_getC C 10 50 fX11_lists_52 rfl rfl ft_10_9 sm_10_9 rfl hM352 dX11_lists_76 ?_
            refine j_iload_n C 1 1 dX11_lists_79 rfl rfl ?_
            refine y_aald C 28 4 9 rfl rfl rfl rfl an_28 rfl sma_28 sta_28 (by decide) hM352 dX11_lists_80 (by omega) (fun v355 cv355 => ?_)
            refine j_iload C 3 dX11_lists_81 rfl ?_
            refine j_aload_n C 0 0 dX11_lists_83 rfl rfl ?_
            refine y_getC C 10 88 fX11_lists_94 rfl rfl ft_10_14 sm_10_14 rfl hM352 dX11_lists_84 ?_
            refine j_iload C 3 dX11_lists_87 rfl ?_
            refine j_callVi C (d := 2) (As := [.int (sI a351)]) (st := [.int (sI a351), .ref (ad v355)]) 88 (s_lt rfl rfl) (s_kc (c := 4) rfl rfl) (by decide) rfl (s1_X5_comerAt hM352 a351 (by omega)) gX11_lists_X5_comerAt rfl hdX5_comerAt (by decide) (Nat.le_of_ble_eq_true rfl) dX11_lists_89 rfl (fun r356 M357 h358 => ?_)
            obtain ⟨a360, rfl, rfl, h359⟩ := h358
            refine y_i2l C dX11_lists_92 (by omega) ?_
            refine j_callVv C (d := 1) (As := [.int (sI a351), .long (sJ a360)]) (st := []) v355 (s_lt cv355 rfl) (s_kc (c := 9) cv355 rfl) (by decide) rfl (s2_X10_put hM352 hpr cv355 a351 (by omega) a360 (by omega)) gX11_lists_X10_put rfl hdX10_put (by decide) (Nat.le_of_ble_eq_true rfl) dX11_lists_93 rfl (fun M362 h363 => ?_)
            have hM362 := h363
            refine y_iinc C 3 [(5, .int (sI (a351 + 1))), (0, .ref (ad 0)), (1, .int (sI a1)), (4, .int (sI a126))] dX11_lists_96 rfl (by decide) rfl ?_
            refine j_goto C 68 dX11_lists_99 (by decide) ?_
            refine j_lv [1, 2, 3, 0] rfl ?_; exact ih349 (a351 + 1) M362 (by omega) hM362
      refine j_lv [4, 5, 1, 0] rfl ?_; exact L350 2010 0 M115 (by omega) hM115
    · refine y_bipush C dX11_lists_47 rfl ?_
      exact hret _ _ _ _ dX11_lists_49 ⟨(-5), rfl, hM115, by omega⟩
  · refine j_iload_n C 0 2 dX11_lists_10 rfl rfl ?_
    exact hret _ _ _ _ dX11_lists_11 ⟨a105, rfl, hM0, by omega⟩
set_option maxHeartbeats 4000000 in
theorem s1_X7_copyFrom {l : Launch} {dC : Nat → ClassId} {dI : Nat → Nat → Nat} {ad : Nat → Nat} {cA : Nat → ClassId} {pr : Nat → Nat → Bool} {Kz : mm_M} {M0 : mm_M} (hM0 : INV pr Kz M0) (hpr : PX pr) (hq6_0 : ∀ i, s_c i = 6 → pr i 0 = false) (hq6_1 : ∀ i, s_c i = 6 → pr i 1 = false) {v0 : Nat} (cv0 : s_c v0 = 6) {v1 : Nat} (cv1 : s_c v1 = 6) : Cv l 0 yX7_copyFrom wsX7_copyFrom dC dI ad cA [.ref (ad v0), .ref (ad v1)] M0 (fun M' => INV pr Kz M') := by
  refine cv_of (cc := cX7_copyFrom) (maxL := 3) (lv := [(0, .ref (ad v0)), (1, .ref (ad v1))]) (by decide) rfl (Nat.le_of_ble_eq_true rfl) rfl ?_
  intro p e s m args below meth c A Q C hret
  refine j_aload_n C 0 0 dX7_copyFrom_0 rfl rfl ?_
  refine j_aload_n C 1 1 dX7_copyFrom_1 rfl rfl ?_
  refine y_getI C 6 _ _ fX7_copyFrom_9 cv1 rfl ft_6_0 sb_6_0 hM0 dX7_copyFrom_2 (fun a101 ea101 la101 ua101 => ?_)
  refine y_putI C 6 _ _ qX7_copyFrom_9 cv0 rfl ft_6_0 sb_6_0 hM0 (hq6_0 _ cv0) dX7_copyFrom_5 (by omega) (fun M103 eM103 hM103 => ?_)
  refine j_aload_n C 0 0 dX7_copyFrom_8 rfl rfl ?_
  refine j_aload_n C 1 1 dX7_copyFrom_9 rfl rfl ?_
  refine y_getI C 6 _ _ fX7_copyFrom_15 cv1 rfl ft_6_1 sb_6_1 hM103 dX7_copyFrom_10 (fun a104 ea104 la104 ua104 => ?_)
  refine y_putIF C 6 qX7_copyFrom_15 cv0 rfl ft_6_1 sb_6_1 hM103 (hq6_1 _ cv0) dX7_copyFrom_13 (fun M106 eM106 hM106 => ?_)
  refine j_aload_n C 0 0 dX7_copyFrom_16 rfl rfl ?_
  refine j_aload_n C 1 1 dX7_copyFrom_17 rfl rfl ?_
  refine y_getI C 6 _ _ fX7_copyFrom_31 cv1 rfl ft_6_6 sb_6_6 hM106 dX7_copyFrom_18 (fun a107 ea107 la107 ua107 => ?_)
  refine y_putI C 6 _ _ qX7_copyFrom_31 cv0 rfl ft_6_6 sb_6_6 hM106 (PX.w hpr cv0 rfl) dX7_copyFrom_21 (by omega) (fun M109 eM109 hM109 => ?_)
  refine j_aload_n C 0 0 dX7_copyFrom_24 rfl rfl ?_
  refine j_aload_n C 1 1 dX7_copyFrom_25 rfl rfl ?_
  refine y_getI C 6 _ _ fX7_copyFrom_34 cv1 rfl ft_6_7 sb_6_7 hM109 dX7_copyFrom_26 (fun a110 ea110 la110 ua110 => ?_)
  refine y_putI C 6 _ _ qX7_copyFrom_34 cv0 rfl ft_6_7 sb_6_7 hM109 (PX.w hpr cv0 rfl) dX7_copyFrom_29 (by omega) (fun M112 eM112 hM112 => ?_)
  refine j_aload_n C 0 0 dX7_copyFrom_32 rfl rfl ?_
  refine j_aload_n C 1 1 dX7_copyFrom_33 rfl rfl ?_
  refine y_getI C 6 _ _ fX7_copyFrom_37 cv1 rfl ft_6_8 sb_6_8 hM112 dX7_copyFrom_34 (fun a113 ea113 la113 ua113 => ?_)
  refine y_putI C 6 _ _ qX7_copyFrom_37 cv0 rfl ft_6_8 sb_6_8 hM112 (PX.w hpr cv0 rfl) dX7_copyFrom_37 (by omega) (fun M115 eM115 hM115 => ?_)
  refine j_aload_n C 0 0 dX7_copyFrom_40 rfl rfl ?_
  refine j_aload_n C 1 1 dX7_copyFrom_41 rfl rfl ?_
  refine y_getI C 6 _ _ fX7_copyFrom_40 cv1 rfl ft_6_9 sb_6_9 hM115 dX7_copyFrom_42 (fun a116 ea116 la116 ua116 => ?_)
  refine y_putI C 6 _ _ qX7_copyFrom_40 cv0 rfl ft_6_9 sb_6_9 hM115 (PX.w hpr cv0 rfl) dX7_copyFrom_45 (by omega) (fun M118 eM118 hM118 => ?_)
  refine j_aload_n C 0 0 dX7_copyFrom_48 rfl rfl ?_
  refine j_aload_n C 1 1 dX7_copyFrom_49 rfl rfl ?_
  refine y_getI C 6 _ _ fX7_copyFrom_43 cv1 rfl ft_6_10 sb_6_10 hM118 dX7_copyFrom_50 (fun a119 ea119 la119 ua119 => ?_)
  refine y_putI C 6 _ _ qX7_copyFrom_43 cv0 rfl ft_6_10 sb_6_10 hM118 (PX.w hpr cv0 rfl) dX7_copyFrom_53 (by omega) (fun M121 eM121 hM121 => ?_)
  refine y_iconst C dX7_copyFrom_56 ?_
  refine j_istore_n C 2 [(2, .int (sI 0)), (0, .ref (ad v0)), (1, .ref (ad v1))] dX7_copyFrom_57 rfl (by decide) rfl ?_
  have L229 : ∀ (n227 : Nat), ∀ (a230 : Int) (M231 : mm_M), (0 ≤ a230 ∧ a230 ≤ 6 ∧ (6 - a230) < (n227 : Int)) → INV pr Kz M231 → jj p l e (cn_R 0) s m args below meth c 0 0 Q 3 dC dI ad cA A M231 58 [(0, .ref (ad v0)), (1, .ref (ad v1)), (2, .int (sI a230))] [] := by
    intro n227
    induction n227 with
    | zero =>
      intro a230 M231 h232 hM231
      exfalso; omega
    | succ n227 ih228 =>
      intro a230 M231 h232 hM231
      refine j_iload_n C 2 2 dX7_copyFrom_58 rfl rfl ?_
      refine y_bipush C dX7_copyFrom_59 rfl ?_
      refine y_icmp_ge C 106 dX7_copyFrom_61 (by decide) (by omega) (fun h233 => ?_) (fun h233 => ?_)
      · refine y_iconst C dX7_copyFrom_106 ?_
        refine j_istore_n C 2 [(2, .int (sI 0)), (0, .ref (ad v0)), (1, .ref (ad v1))] dX7_copyFrom_107 rfl (by decide) rfl ?_
        have L578 : ∀ (n576 : Nat), ∀ (a579 : Int) (M580 : mm_M), (0 ≤ a579 ∧ a579 ≤ 900 ∧ (900 - a579) < (n576 : Int)) → INV pr Kz M580 → jj p l e (cn_R 0) s m args below meth c 0 0 Q 3 dC dI ad cA A M580 108 [(0, .ref (ad v0)), (1, .ref (ad v1)), (2, .int (sI a579))] [] := by
          intro n576
          induction n576 with
          | zero =>
            intro a579 M580 h581 hM580
            exfalso; omega
          | succ n576 ih577 =>
            intro a579 M580 h581 hM580
            refine j_iload_n C 2 2 dX7_copyFrom_108 rfl rfl ?_
            refine j_aload_n C 0 0 dX7_copyFrom_109 rfl rfl ?_
            refine y_getI C 6 _ _ fX7_copyFrom_31 cv0 rfl ft_6_6 sb_6_6 hM580 dX7_copyFrom_110 (fun a582 ea582 la582 ua582 => ?_)
            refine y_icmp_ge C 143 dX7_copyFrom_113 (by decide) (by omega) (fun h584 => ?_) (fun h584 => ?_)
            · exact hret _ _ _ dX7_copyFrom_143 hM580
            · refine j_iload_n C 2 2 dX7_copyFrom_116 rfl rfl ?_
              refine j_aload_n C 0 0 dX7_copyFrom_117 rfl rfl ?_
              refine y_getT C 6 24 fX7_copyFrom_28 cv0 rfl ft_6_5 rfl sm_6_5 st_6_5 (by decide) hM580 dX7_copyFrom_118 (fun v585 cv585 => ?_)
              refine y_alen C 24 900 cv585 rfl rfl an_24 rfl rfl dX7_copyFrom_121 ?_
              refine y_icmp_ge C 143 dX7_copyFrom_122 (by decide) (by omega) (fun h586 => ?_) (fun h586 => ?_)
              · exfalso; omega
              · refine j_aload_n C 0 0 dX7_copyFrom_125 rfl rfl ?_
                refine y_getT C 6 24 fX7_copyFrom_28 cv0 rfl ft_6_5 rfl sm_6_5 st_6_5 (by decide) hM580 dX7_copyFrom_126 (fun v587 cv587 => ?_)
                refine j_iload_n C 2 2 dX7_copyFrom_129 rfl rfl ?_
                refine j_aload_n C 1 1 dX7_copyFrom_130 rfl rfl ?_
                refine y_getT C 6 24 fX7_copyFrom_28 cv1 rfl ft_6_5 rfl sm_6_5 st_6_5 (by decide) hM580 dX7_copyFrom_131 (fun v588 cv588 => ?_)
                refine j_iload_n C 2 2 dX7_copyFrom_134 rfl rfl ?_
                refine y_iald C 24 900 _ _ cv588 rfl rfl ak_24 an_24 rfl (sb_24 _) hM580 dX7_copyFrom_135 (by omega) (fun a589 ea589 la589 ua589 => ?_)
                refine y_iastF C 24 900 cv587 rfl rfl ak_24 an_24 rfl (sb_24 _) hM580 (PX.w hpr cv587 rfl) dX7_copyFrom_136 (by omega) (fun M590 eM590 hM590 => ?_)
                refine y_iinc C 2 [(2, .int (sI (a579 + 1))), (0, .ref (ad v0)), (1, .ref (ad v1))] dX7_copyFrom_137 rfl (by decide) rfl ?_
                refine j_goto C 108 dX7_copyFrom_140 (by decide) ?_
                refine j_lv [1, 2, 0] rfl ?_; exact ih577 (a579 + 1) M590 (by omega) hM590
        refine j_lv [1, 2, 0] rfl ?_; exact L578 2010 0 M231 (by omega) hM231
      · refine j_aload_n C 0 0 dX7_copyFrom_64 rfl rfl ?_
        refine y_getT C 6 21 fX7_copyFrom_18 cv0 rfl ft_6_2 rfl sm_6_2 st_6_2 (by decide) hM231 dX7_copyFrom_65 (fun v234 cv234 => ?_)
        refine j_iload_n C 2 2 dX7_copyFrom_68 rfl rfl ?_
        refine j_aload_n C 1 1 dX7_copyFrom_69 rfl rfl ?_
        refine y_getT C 6 21 fX7_copyFrom_18 cv1 rfl ft_6_2 rfl sm_6_2 st_6_2 (by decide) hM231 dX7_copyFrom_70 (fun v235 cv235 => ?_)
        refine j_iload_n C 2 2 dX7_copyFrom_73 rfl rfl ?_
        refine y_iald C 21 6 _ _ cv235 rfl rfl ak_21 an_21 rfl (sb_21 _) hM231 dX7_copyFrom_74 (by omega) (fun a236 ea236 la236 ua236 => ?_)
        refine y_iastF C 21 6 cv234 rfl rfl ak_21 an_21 rfl (sb_21 _) hM231 (PX.w hpr cv234 rfl) dX7_copyFrom_75 (by omega) (fun M237 eM237 hM237 => ?_)
        refine j_aload_n C 0 0 dX7_copyFrom_76 rfl rfl ?_
        refine y_getT C 6 22 fX7_copyFrom_22 cv0 rfl ft_6_3 rfl sm_6_3 st_6_3 (by decide) hM237 dX7_copyFrom_77 (fun v238 cv238 => ?_)
        refine j_iload_n C 2 2 dX7_copyFrom_80 rfl rfl ?_
        refine j_aload_n C 1 1 dX7_copyFrom_81 rfl rfl ?_
        refine y_getT C 6 22 fX7_copyFrom_22 cv1 rfl ft_6_3 rfl sm_6_3 st_6_3 (by decide) hM237 dX7_copyFrom_82 (fun v239 cv239 => ?_)
        refine j_iload_n C 2 2 dX7_copyFrom_85 rfl rfl ?_
        refine y_iald C 22 6 _ _ cv239 rfl rfl ak_22 an_22 rfl (sb_22 _) hM237 dX7_copyFrom_86 (by omega) (fun a240 ea240 la240 ua240 => ?_)
        refine y_iastF C 22 6 cv238 rfl rfl ak_22 an_22 rfl (sb_22 _) hM237 (PX.w hpr cv238 rfl) dX7_copyFrom_87 (by omega) (fun M241 eM241 hM241 => ?_)
        refine j_aload_n C 0 0 dX7_copyFrom_88 rfl rfl ?_
        refine y_getT C 6 23 fX7_copyFrom_25 cv0 rfl ft_6_4 rfl sm_6_4 st_6_4 (by decide) hM241 dX7_copyFrom_89 (fun v242 cv242 => ?_)
        refine j_iload_n C 2 2 dX7_copyFrom_92 rfl rfl ?_
        refine j_aload_n C 1 1 dX7_copyFrom_93 rfl rfl ?_
        refine y_getT C 6 23 fX7_copyFrom_25 cv1 rfl ft_6_4 rfl sm_6_4 st_6_4 (by decide) hM241 dX7_copyFrom_94 (fun v243 cv243 => ?_)
        refine j_iload_n C 2 2 dX7_copyFrom_97 rfl rfl ?_
        refine y_iald C 23 6 _ _ cv243 rfl rfl ak_23 an_23 rfl (sb_23 _) hM241 dX7_copyFrom_98 (by omega) (fun a244 ea244 la244 ua244 => ?_)
        refine y_iastF C 23 6 cv242 rfl rfl ak_23 an_23 rfl (sb_23 _) hM241 (PX.w hpr cv242 rfl) dX7_copyFrom_99 (by omega) (fun M245 eM245 hM245 => ?_)
        refine y_iinc C 2 [(2, .int (sI (a230 + 1))), (0, .ref (ad v0)), (1, .ref (ad v1))] dX7_copyFrom_100 rfl (by decide) rfl ?_
        refine j_goto C 58 dX7_copyFrom_103 (by decide) ?_
        refine j_lv [1, 2, 0] rfl ?_; exact ih228 (a230 + 1) M245 (by omega) hM245
  refine j_lv [1, 2, 0] rfl ?_; exact L229 2010 0 M121 (by omega) hM121
set_option maxHeartbeats 4000000 in
theorem s1_X11_image {l : Launch} {dC : Nat → ClassId} {dI : Nat → Nat → Nat} {ad : Nat → Nat} {cA : Nat → ClassId} {pr : Nat → Nat → Bool} {Kz : mm_M} {M0 : mm_M} (hM0 : INV pr Kz M0) (hpr : PX pr) (hq2_0 : ∀ i, s_c i = 2 → pr i 0 = false) (hq6_0 : ∀ i, s_c i = 6 → pr i 0 = false) (hq6_1 : ∀ i, s_c i = 6 → pr i 1 = false) (hq8_0 : ∀ i, s_c i = 8 → pr i 0 = false) (a1 : Int) (ha1 : -2147483648 ≤ a1 ∧ a1 ≤ 2147483647) : Ci l 1 yX11_image wsX11_image dC dI ad cA [.ref (ad 0), .int (sI a1)] M0 (fun r M' => ∃ a : Int, r = sI a ∧ INV pr Kz M' ∧ (-2) ≤ a ∧ a ≤ 0 ∧ (a1 = 0 ∧ a = 0 ∧ (M'.1 60 0).toInt = 1 ∧ (M'.1 69 0).toInt = (M0.1 69 0).toInt ∨ a1 = 1 ∧ a = 0 ∧ (M'.1 60 0).toInt = (M0.1 60 0).toInt ∧ (M'.1 69 0).toInt = 1 ∨ (a1 < 0 ∨ 1 < a1) ∧ a = -2 ∧ (M'.1 60 0).toInt = (M0.1 60 0).toInt ∧ (M'.1 69 0).toInt = (M0.1 69 0).toInt)) := by
  refine ci_of (cc := cX11_image) (maxL := 2) (ty := .int) (lv := [(0, .ref (ad 0)), (1, .int (sI a1))]) (by decide) rfl (fun r M' hp => rfl) (Nat.le_of_ble_eq_true rfl) rfl ?_
  intro p e s m args below meth c A Q C hret
  refine j_iload_n C 1 1 dX11_image_0 rfl rfl ?_
  refine y_if_lt C 13 dX11_image_1 (by decide) (by omega) (fun h101 => ?_) (fun h101 => ?_)
  · refine y_bipush C dX11_image_13 rfl ?_
    exact hret _ _ _ _ dX11_image_15 ⟨(-2), rfl, hM0, by omega⟩
  · refine j_iload_n C 1 1 dX11_image_4 rfl rfl ?_
    refine j_aload_n C 0 0 dX11_image_5 rfl rfl ?_
    refine y_getC C 10 59 fX11_image_58 rfl rfl ft_10_10 sm_10_10 rfl hM0 dX11_image_6 ?_
    refine y_alen C 30 2 rfl rfl rfl an_30 rfl rfl dX11_image_9 ?_
    refine y_icmp_lt C 16 dX11_image_10 (by decide) (by omega) (fun h102 => ?_) (fun h102 => ?_)
    · refine j_aload_n C 0 0 dX11_image_16 rfl rfl ?_
      refine y_getC C 10 59 fX11_image_58 rfl rfl ft_10_10 sm_10_10 rfl hM0 dX11_image_17 ?_
      refine j_iload_n C 1 1 dX11_image_20 rfl rfl ?_
      refine y_aaldE C 30 2 2 rfl rfl rfl rfl an_30 rfl sma_30 sta_30 (by decide) hM0 dX11_image_21 (by omega) (fun cv103 => ?_)
      refine y_iconst C dX11_image_22 ?_
      refine y_putZ C 2 qX11_image_393 cv103 rfl ft_2_0 sb_2_0 hM0 (hq2_0 _ cv103) dX11_image_23 (by omega) (fun M104 eM104 hM104 => ?_)
      have u105p := p59 (x := a1) (by omega)
      have u105a := w_or eM104 (by omega) 60 0
      have u105b := w_or eM104 (by omega) 69 0
      obtain ⟨pr, Kz, hpr, hM104, hne, hbk⟩ := fzXs [2] hpr hM104
      have hq6_0 : ∀ i, s_c i = 6 → pr i 0 = false := fun i h => hne i 0 (by rw [h]; rfl) (hq6_0 i h)
      have hq6_1 : ∀ i, s_c i = 6 → pr i 1 = false := fun i h => hne i 1 (by rw [h]; rfl) (hq6_1 i h)
      have hq8_0 : ∀ i, s_c i = 8 → pr i 0 = false := fun i h => hne i 0 (by rw [h]; rfl) (hq8_0 i h)
      refine j_aload_n C 0 0 dX11_image_26 rfl rfl ?_
      refine y_getC C 10 59 fX11_image_58 rfl rfl ft_10_10 sm_10_10 rfl hM104 dX11_image_27 ?_
      refine j_iload_n C 1 1 dX11_image_30 rfl rfl ?_
      refine y_aaldE C 30 2 2 rfl rfl rfl rfl an_30 rfl sma_30 sta_30 (by decide) hM104 dX11_image_31 (by omega) (fun cv106 => ?_)
      refine y_getTE C 2 6 fX11_image_397 cv106 rfl ft_2_1 rfl sm_2_1 st_2_1 (by decide) hM104 dX11_image_32 (fun cv107 => ?_)
      refine j_aload_n C 0 0 dX11_image_35 rfl rfl ?_
      refine y_getM C 10 6 fX11_image_26 rfl rfl ft_10_4 sm_10_4 (by decide) hM104 dX11_image_36 (fun v108 ev108 cv108 => ?_)
      refine j_callVv C (d := 0) (As := [.ref (ad v108)]) (st := []) (s_p0 (s_p0 59 (a1).toNat) 1) (s_lt cv107 rfl) (s_kc (c := 6) cv107 rfl) (by decide) rfl (s1_X7_copyFrom hM104 hpr hq6_0 hq6_1 cv107 cv108) gX11_image_X7_copyFrom rfl hdX7_copyFrom (by decide) (Nat.le_of_ble_eq_true rfl) dX11_image_39 rfl (fun M110 h111 => ?_)
      have hM110 := h111
      refine j_aload_n C 0 0 dX11_image_42 rfl rfl ?_
      refine y_getC C 10 59 fX11_image_58 rfl rfl ft_10_10 sm_10_10 rfl hM110 dX11_image_43 ?_
      refine j_iload_n C 1 1 dX11_image_46 rfl rfl ?_
      refine y_aaldE C 30 2 2 rfl rfl rfl rfl an_30 rfl sma_30 sta_30 (by decide) hM110 dX11_image_47 (by omega) (fun cv113 => ?_)
      refine y_getTE C 2 8 fX11_image_400 cv113 rfl ft_2_2 rfl sm_2_2 st_2_2 (by decide) hM110 dX11_image_48 (fun cv114 => ?_)
      refine j_aload_n C 0 0 dX11_image_51 rfl rfl ?_
      refine y_getC C 10 12 fX11_image_36 rfl rfl ft_10_6 sm_10_6 rfl hM110 dX11_image_52 ?_
      refine j_callVv C (d := 0) (As := [.ref (ad 12)]) (st := []) (s_p0 (s_p0 59 (a1).toNat) 2) (s_lt cv114 rfl) (s_kc (c := 8) cv114 rfl) (by decide) rfl (s1_X9_copyFrom hM110 hpr hq8_0 cv114 rfl) gX11_image_X9_copyFrom rfl hdX9_copyFrom (by decide) (Nat.le_of_ble_eq_true rfl) dX11_image_55 rfl (fun M116 h117 => ?_)
      have hM116 := h117
      refine y_iconst C dX11_image_58 ?_
      have u119a := congrArg Int32.toInt ((hbk _ hM116).2 60 0 rfl rfl).1
      have u119b := congrArg Int32.toInt ((hbk _ hM116).2 69 0 rfl rfl).1
      have hM116 := (hbk _ hM116).1
      exact hret _ _ _ _ dX11_image_59 ⟨0, rfl, hM116, by omega⟩
    · refine y_bipush C dX11_image_13 rfl ?_
      exact hret _ _ _ _ dX11_image_15 ⟨(-2), rfl, hM0, by omega⟩
set_option maxHeartbeats 4000000 in
theorem s1_X11_restore {l : Launch} {dC : Nat → ClassId} {dI : Nat → Nat → Nat} {ad : Nat → Nat} {cA : Nat → ClassId} {pr : Nat → Nat → Bool} {Kz : mm_M} {M0 : mm_M} (hM0 : INV pr Kz M0) (hpr : PX pr) (hq6_0 : ∀ i, s_c i = 6 → pr i 0 = false) (hq6_1 : ∀ i, s_c i = 6 → pr i 1 = false) (hq8_0 : ∀ i, s_c i = 8 → pr i 0 = false) (a1 : Int) (ha1 : -2147483648 ≤ a1 ∧ a1 ≤ 2147483647) : Ci l 3 yX11_restore wsX11_restore dC dI ad cA [.ref (ad 0), .int (sI a1)] M0 (fun r M' => ∃ a : Int, r = sI a ∧ INV pr Kz M' ∧ (-5) ≤ a ∧ a ≤ 0 ∧ (a1 = 0 ∧ ((M0.1 60 0).toInt = 0 ∧ a = -5 ∨ ¬ (M0.1 60 0).toInt = 0 ∧ a = 0) ∨ a1 = 1 ∧ ((M0.1 69 0).toInt = 0 ∧ a = -5 ∨ ¬ (M0.1 69 0).toInt = 0 ∧ a = 0) ∨ (a1 < 0 ∨ 1 < a1) ∧ a = -2)) := by
  refine ci_of (cc := cX11_restore) (maxL := 2) (ty := .int) (lv := [(0, .ref (ad 0)), (1, .int (sI a1))]) (by decide) rfl (fun r M' hp => rfl) (Nat.le_of_ble_eq_true rfl) rfl ?_
  intro p e s m args below meth c A Q C hret
  refine j_iload_n C 1 1 dX11_restore_0 rfl rfl ?_
  refine y_if_lt C 13 dX11_restore_1 (by decide) (by omega) (fun h101 => ?_) (fun h101 => ?_)
  · refine y_bipush C dX11_restore_13 rfl ?_
    exact hret _ _ _ _ dX11_restore_15 ⟨(-2), rfl, hM0, by omega⟩
  · refine j_iload_n C 1 1 dX11_restore_4 rfl rfl ?_
    refine j_aload_n C 0 0 dX11_restore_5 rfl rfl ?_
    refine y_getC C 10 59 fX11_restore_58 rfl rfl ft_10_10 sm_10_10 rfl hM0 dX11_restore_6 ?_
    refine y_alen C 30 2 rfl rfl rfl an_30 rfl rfl dX11_restore_9 ?_
    refine y_icmp_lt C 16 dX11_restore_10 (by decide) (by omega) (fun h102 => ?_) (fun h102 => ?_)
    · refine j_aload_n C 0 0 dX11_restore_16 rfl rfl ?_
      refine y_getC C 10 59 fX11_restore_58 rfl rfl ft_10_10 sm_10_10 rfl hM0 dX11_restore_17 ?_
      refine j_iload_n C 1 1 dX11_restore_20 rfl rfl ?_
      refine y_aaldE C 30 2 2 rfl rfl rfl rfl an_30 rfl sma_30 sta_30 (by decide) hM0 dX11_restore_21 (by omega) (fun cv103 => ?_)
      refine y_getI C 2 _ _ fX11_restore_393 cv103 rfl ft_2_0 sb_2_0 hM0 dX11_restore_22 (fun a104 ea104 la104 ua104 => ?_)
      have u106p := p59 (x := a1) (by omega)
      have u106a := rd_or M0 (s_p0 59 (a1).toNat) 60 0
      have u106b := rd_or M0 (s_p0 59 (a1).toNat) 69 0
      refine y_if_ne C 31 dX11_restore_25 (by decide) (by omega) (fun h107 => ?_) (fun h107 => ?_)
      · refine j_aload_n C 0 0 dX11_restore_31 rfl rfl ?_
        refine y_getM C 10 6 fX11_restore_26 rfl rfl ft_10_4 sm_10_4 (by decide) hM0 dX11_restore_32 (fun v108 ev108 cv108 => ?_)
        refine j_aload_n C 0 0 dX11_restore_35 rfl rfl ?_
        refine y_getC C 10 59 fX11_restore_58 rfl rfl ft_10_10 sm_10_10 rfl hM0 dX11_restore_36 ?_
        refine j_iload_n C 1 1 dX11_restore_39 rfl rfl ?_
        refine y_aaldE C 30 2 2 rfl rfl rfl rfl an_30 rfl sma_30 sta_30 (by decide) hM0 dX11_restore_40 (by omega) (fun cv109 => ?_)
        refine y_getTE C 2 6 fX11_restore_397 cv109 rfl ft_2_1 rfl sm_2_1 st_2_1 (by decide) hM0 dX11_restore_41 (fun cv110 => ?_)
        refine j_callVv C (d := 0) (As := [.ref (ad (s_p0 (s_p0 59 (a1).toNat) 1))]) (st := []) v108 (s_lt cv108 rfl) (s_kc (c := 6) cv108 rfl) (by decide) rfl (s1_X7_copyFrom hM0 hpr hq6_0 hq6_1 cv108 cv110) gX11_restore_X7_copyFrom rfl hdX7_copyFrom (by decide) (Nat.le_of_ble_eq_true rfl) dX11_restore_44 rfl (fun M112 h113 => ?_)
        have hM112 := h113
        refine j_aload_n C 0 0 dX11_restore_47 rfl rfl ?_
        refine y_getC C 10 12 fX11_restore_36 rfl rfl ft_10_6 sm_10_6 rfl hM112 dX11_restore_48 ?_
        refine j_aload_n C 0 0 dX11_restore_51 rfl rfl ?_
        refine y_getC C 10 59 fX11_restore_58 rfl rfl ft_10_10 sm_10_10 rfl hM112 dX11_restore_52 ?_
        refine j_iload_n C 1 1 dX11_restore_55 rfl rfl ?_
        refine y_aaldE C 30 2 2 rfl rfl rfl rfl an_30 rfl sma_30 sta_30 (by decide) hM112 dX11_restore_56 (by omega) (fun cv115 => ?_)
        refine y_getTE C 2 8 fX11_restore_400 cv115 rfl ft_2_2 rfl sm_2_2 st_2_2 (by decide) hM112 dX11_restore_57 (fun cv116 => ?_)
        refine j_callVv C (d := 0) (As := [.ref (ad (s_p0 (s_p0 59 (a1).toNat) 2))]) (st := []) 12 (s_lt rfl rfl) (s_kc (c := 8) rfl rfl) (by decide) rfl (s1_X9_copyFrom hM112 hpr hq8_0 rfl cv116) gX11_restore_X9_copyFrom rfl hdX9_copyFrom (by decide) (Nat.le_of_ble_eq_true rfl) dX11_restore_60 rfl (fun M118 h119 => ?_)
        have hM118 := h119
        refine j_aload_n C 0 0 dX11_restore_63 rfl rfl ?_
        refine j_callVv C (d := 2) (As := []) (st := []) 0 (s_lt rfl rfl) (s_kc (c := 10) rfl rfl) (by decide) rfl (s1_X11_beginAnew hM118 hpr) gX11_restore_X11_beginAnew rfl hdX11_beginAnew (by decide) (Nat.le_of_ble_eq_true rfl) dX11_restore_64 rfl (fun M122 h123 => ?_)
        have hM122 := h123
        refine y_iconst C dX11_restore_67 ?_
        exact hret _ _ _ _ dX11_restore_68 ⟨0, rfl, hM122, by omega⟩
      · refine y_bipush C dX11_restore_28 rfl ?_
        exact hret _ _ _ _ dX11_restore_30 ⟨(-5), rfl, hM0, by omega⟩
    · refine y_bipush C dX11_restore_13 rfl ?_
      exact hret _ _ _ _ dX11_restore_15 ⟨(-2), rfl, hM0, by omega⟩
set_option maxHeartbeats 4000000 in
theorem s1_X11_count {l : Launch} {dC : Nat → ClassId} {dI : Nat → Nat → Nat} {ad : Nat → Nat} {cA : Nat → ClassId} {pr : Nat → Nat → Bool} {Kz : mm_M} {M0 : mm_M} (hM0 : INV pr Kz M0) (a1 : Int) (ha1 : -2147483648 ≤ a1 ∧ a1 ≤ 2147483647) : Ci l 2 yX11_count wsX11_count dC dI ad cA [.ref (ad 0), .int (sI a1)] M0 (fun r M' => ∃ a : Int, r = sI a ∧ M0 = M' ∧ (-2147483648) ≤ a ∧ a ≤ 2147483647) := by
  refine ci_of (cc := cX11_count) (maxL := 2) (ty := .int) (lv := [(0, .ref (ad 0)), (1, .int (sI a1))]) (by decide) rfl (fun r M' hp => rfl) (Nat.le_of_ble_eq_true rfl) rfl ?_
  intro p e s m args below meth c A Q C hret
  refine j_iload_n C 1 1 dX11_count_0 rfl rfl ?_
  rcases (show (a1 < 0 ∨ 11 < a1) ∨ a1 = 0 ∨ a1 = 1 ∨ a1 = 2 ∨ a1 = 3 ∨ a1 = 4 ∨ a1 = 5 ∨ a1 = 6 ∨ a1 = 7 ∨ a1 = 8 ∨ a1 = 9 ∨ a1 = 10 ∨ a1 = 11 by omega) with h101 | h101 | h101 | h101 | h101 | h101 | h101 | h101 | h101 | h101 | h101 | h101 | h101
  · refine y_tabO C 165 dX11_count_1 (by decide) (by omega) ?_
    refine y_iconst C dX11_count_165 ?_
    exact hret _ _ _ _ dX11_count_166 ⟨(-1), rfl, rfl, by omega⟩
  · refine y_tabI C (off := 63) 64 0 dX11_count_1 (by decide) rfl (by decide) h101 ?_
    refine j_aload_n C 0 0 dX11_count_64 rfl rfl ?_
    refine y_getC C 10 12 fX11_count_36 rfl rfl ft_10_6 sm_10_6 rfl hM0 dX11_count_65 ?_
    refine y_getI C 8 _ _ fX11_count_160 rfl rfl ft_8_0 sb_8_0 hM0 dX11_count_68 (fun a102 ea102 la102 ua102 => ?_)
    exact hret _ _ _ _ dX11_count_71 ⟨a102, rfl, rfl, by omega⟩
  · refine y_tabI C (off := 71) 72 1 dX11_count_1 (by decide) rfl (by decide) h101 ?_
    refine j_aload_n C 0 0 dX11_count_72 rfl rfl ?_
    refine y_getM C 10 6 fX11_count_26 rfl rfl ft_10_4 sm_10_4 (by decide) hM0 dX11_count_73 (fun v104 ev104 cv104 => ?_)
    refine y_getI C 6 _ _ fX11_count_163 cv104 rfl ft_6_0 sb_6_0 hM0 dX11_count_76 (fun a105 ea105 la105 ua105 => ?_)
    exact hret _ _ _ _ dX11_count_79 ⟨a105, rfl, rfl, by omega⟩
  · refine y_tabI C (off := 79) 80 2 dX11_count_1 (by decide) rfl (by decide) h101 ?_
    refine j_aload_n C 0 0 dX11_count_80 rfl rfl ?_
    refine y_getC C 10 12 fX11_count_36 rfl rfl ft_10_6 sm_10_6 rfl hM0 dX11_count_81 ?_
    refine y_getI C 8 _ _ fX11_count_150 rfl rfl ft_8_3 sb_8_3 hM0 dX11_count_84 (fun a107 ea107 la107 ua107 => ?_)
    exact hret _ _ _ _ dX11_count_87 ⟨a107, rfl, rfl, by omega⟩
  · refine y_tabI C (off := 87) 88 3 dX11_count_1 (by decide) rfl (by decide) h101 ?_
    refine j_aload_n C 0 0 dX11_count_88 rfl rfl ?_
    refine y_getC C 10 12 fX11_count_36 rfl rfl ft_10_6 sm_10_6 rfl hM0 dX11_count_89 ?_
    refine y_getI C 8 _ _ fX11_count_153 rfl rfl ft_8_4 sb_8_4 hM0 dX11_count_92 (fun a109 ea109 la109 ua109 => ?_)
    exact hret _ _ _ _ dX11_count_95 ⟨a109, rfl, rfl, by omega⟩
  · refine y_tabI C (off := 95) 96 4 dX11_count_1 (by decide) rfl (by decide) h101 ?_
    refine j_aload_n C 0 0 dX11_count_96 rfl rfl ?_
    refine y_getC C 10 12 fX11_count_36 rfl rfl ft_10_6 sm_10_6 rfl hM0 dX11_count_97 ?_
    refine j_callVi C (d := 1) (As := []) (st := []) 12 (s_lt rfl rfl) (s_kc (c := 8) rfl rfl) (by decide) rfl (s1_X9_isShut hM0 rfl) gX11_count_X9_isShut rfl hdX9_isShut (by decide) (Nat.le_of_ble_eq_true rfl) dX11_count_100 rfl (fun r111 M112 h113 => ?_)
    obtain ⟨a115, rfl, rfl, h114⟩ := h113
    refine y_if_eq C 110 dX11_count_103 (by decide) (by omega) (fun h116 => ?_) (fun h116 => ?_)
    · refine y_iconst C dX11_count_110 ?_
      exact hret _ _ _ _ dX11_count_111 ⟨0, rfl, rfl, by omega⟩
    · refine y_iconst C dX11_count_106 ?_
      refine j_goto C 111 dX11_count_107 (by decide) ?_
      exact hret _ _ _ _ dX11_count_111 ⟨1, rfl, rfl, by omega⟩
  · refine y_tabI C (off := 111) 112 5 dX11_count_1 (by decide) rfl (by decide) h101 ?_
    refine j_aload_n C 0 0 dX11_count_112 rfl rfl ?_
    refine y_getC C 10 12 fX11_count_36 rfl rfl ft_10_6 sm_10_6 rfl hM0 dX11_count_113 ?_
    refine y_getI C 8 _ _ fX11_count_252 rfl rfl ft_8_5 sb_8_5 hM0 dX11_count_116 (fun a117 ea117 la117 ua117 => ?_)
    exact hret _ _ _ _ dX11_count_119 ⟨a117, rfl, rfl, by omega⟩
  · refine y_tabI C (off := 119) 120 6 dX11_count_1 (by decide) rfl (by decide) h101 ?_
    refine j_aload_n C 0 0 dX11_count_120 rfl rfl ?_
    refine y_getC C 10 12 fX11_count_36 rfl rfl ft_10_6 sm_10_6 rfl hM0 dX11_count_121 ?_
    refine y_getI C 8 _ _ fX11_count_401 rfl rfl ft_8_6 sb_8_6 hM0 dX11_count_124 (fun a119 ea119 la119 ua119 => ?_)
    exact hret _ _ _ _ dX11_count_127 ⟨a119, rfl, rfl, by omega⟩
  · refine y_tabI C (off := 127) 128 7 dX11_count_1 (by decide) rfl (by decide) h101 ?_
    refine j_aload_n C 0 0 dX11_count_128 rfl rfl ?_
    refine y_getC C 10 12 fX11_count_36 rfl rfl ft_10_6 sm_10_6 rfl hM0 dX11_count_129 ?_
    refine y_getI C 8 _ _ fX11_count_121 rfl rfl ft_8_7 sb_8_7 hM0 dX11_count_132 (fun a121 ea121 la121 ua121 => ?_)
    exact hret _ _ _ _ dX11_count_135 ⟨a121, rfl, rfl, by omega⟩
  · refine y_tabI C (off := 135) 136 8 dX11_count_1 (by decide) rfl (by decide) h101 ?_
    refine j_aload_n C 0 0 dX11_count_136 rfl rfl ?_
    refine y_getM C 10 6 fX11_count_26 rfl rfl ft_10_4 sm_10_4 (by decide) hM0 dX11_count_137 (fun v123 ev123 cv123 => ?_)
    refine j_callVi C (d := 0) (As := []) (st := []) v123 (s_lt cv123 rfl) (s_kc (c := 6) cv123 rfl) (by decide) rfl (s1_X7_together hM0 cv123) gX11_count_X7_together rfl hdX7_together (by decide) (Nat.le_of_ble_eq_true rfl) dX11_count_140 rfl (fun r124 M125 h126 => ?_)
    obtain ⟨a128, rfl, rfl, h127⟩ := h126
    exact hret _ _ _ _ dX11_count_143 ⟨a128, rfl, rfl, by omega⟩
  · refine y_tabI C (off := 143) 144 9 dX11_count_1 (by decide) rfl (by decide) h101 ?_
    refine j_aload_n C 0 0 dX11_count_144 rfl rfl ?_
    refine y_getC C 10 18 fX11_count_46 rfl rfl ft_10_8 sm_10_8 rfl hM0 dX11_count_145 ?_
    refine y_getI C 5 _ _ fX11_count_225 rfl rfl ft_5_2 sb_5_2 hM0 dX11_count_148 (fun a129 ea129 la129 ua129 => ?_)
    exact hret _ _ _ _ dX11_count_151 ⟨a129, rfl, rfl, by omega⟩
  · refine y_tabI C (off := 151) 152 10 dX11_count_1 (by decide) rfl (by decide) h101 ?_
    refine j_aload_n C 0 0 dX11_count_152 rfl rfl ?_
    refine y_getI C 10 _ _ fX11_count_13 rfl rfl ft_10_1 sb_10_1 hM0 dX11_count_153 (fun a131 ea131 la131 ua131 => ?_)
    exact hret _ _ _ _ dX11_count_156 ⟨a131, rfl, rfl, by omega⟩
  · refine y_tabI C (off := 156) 157 11 dX11_count_1 (by decide) rfl (by decide) h101 ?_
    refine j_aload_n C 0 0 dX11_count_157 rfl rfl ?_
    refine y_getM C 10 6 fX11_count_26 rfl rfl ft_10_4 sm_10_4 (by decide) hM0 dX11_count_158 (fun v133 ev133 cv133 => ?_)
    refine y_getI C 6 _ _ fX11_count_131 cv133 rfl ft_6_1 sb_6_1 hM0 dX11_count_161 (fun a134 ea134 la134 ua134 => ?_)
    exact hret _ _ _ _ dX11_count_164 ⟨a134, rfl, rfl, by omega⟩
