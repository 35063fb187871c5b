set_option maxHeartbeats 4000000 in
theorem s1_X11_cameRefusal {l : Launch} {dC : Nat → ClassId} {dI : Nat → Nat → Nat} {ad : Nat → Nat} {cA : Nat → ClassId} {pr : Nat → Nat → Bool} {Kz : mm_M} {M0 : mm_M} (hM0 : INV pr Kz M0) (a1 : Int) (ha1 : -2147483648 ≤ a1 ∧ a1 ≤ 2147483647) : Ci l 2 yX11_cameRefusal wsX11_cameRefusal dC dI ad cA [.ref (ad 0), .int (sI a1)] M0 (fun r M' => ∃ a : Int, r = sI a ∧ M0 = M' ∧ (-6) ≤ a ∧ a ≤ 0 ∧ (¬ a = 0 ∨ (0 ≤ a1 ∧ a1 < 4))) := by
  refine ci_of (cc := cX11_cameRefusal) (maxL := 5) (ty := .int) (lv := [(0, .ref (ad 0)), (1, .int (sI a1))]) (by decide) rfl (fun r M' hp => rfl) (Nat.le_of_ble_eq_true rfl) rfl ?_
  intro p e s m args below meth c A Q C hret
  refine j_aload_n C 0 0 dX11_cameRefusal_0 rfl rfl ?_
  refine j_iload_n C 1 1 dX11_cameRefusal_1 rfl rfl ?_
  refine j_callVi C (d := 1) (As := [.int (sI a1)]) (st := []) 0 (s_lt rfl rfl) (s_kc (c := 10) rfl rfl) (by decide) rfl (s1_X11_trayRefusal hM0 a1 (by exact ⟨ha1.1, ha1.2⟩)) gX11_cameRefusal_X11_trayRefusal rfl hdX11_trayRefusal (by decide) (Nat.le_of_ble_eq_true rfl) dX11_cameRefusal_2 rfl (fun r101 M102 h103 => ?_)
  obtain ⟨a105, rfl, rfl, h104⟩ := h103
  refine j_istore_n C 2 [(2, .int (sI a105)), (0, .ref (ad 0)), (1, .int (sI a1))] dX11_cameRefusal_5 rfl (by decide) rfl ?_
  refine j_iload_n C 0 2 dX11_cameRefusal_6 rfl rfl ?_
  refine y_if_eq C 12 dX11_cameRefusal_7 (by decide) (by omega) (fun h106 => ?_) (fun h106 => ?_)
  · refine j_aload_n C 1 0 dX11_cameRefusal_12 rfl rfl ?_
    refine y_getC C 10 50 fX11_cameRefusal_52 rfl rfl ft_10_9 sm_10_9 rfl hM0 dX11_cameRefusal_13 ?_
    refine j_iload_n C 2 1 dX11_cameRefusal_16 rfl rfl ?_
    refine y_aald C 28 4 9 rfl rfl rfl rfl an_28 rfl sma_28 sta_28 (by decide) hM0 dX11_cameRefusal_17 (by omega) (fun v107 cv107 => ?_)
    refine j_astore_n C 3 [(3, .ref (ad v107)), (2, .int (sI a105)), (0, .ref (ad 0)), (1, .int (sI a1))] dX11_cameRefusal_18 rfl (by decide) rfl ?_
    refine j_aload_n C 0 3 dX11_cameRefusal_19 rfl rfl ?_
    refine j_callVi C (d := 1) (As := []) (st := []) v107 (s_lt cv107 rfl) (s_kc (c := 9) cv107 rfl) (by decide) rfl (s1_X10_size hM0 cv107) gX11_cameRefusal_X10_size rfl hdX10_size (by decide) (Nat.le_of_ble_eq_true rfl) dX11_cameRefusal_20 rfl (fun r108 M109 h110 => ?_)
    obtain ⟨a112, rfl, rfl, h111⟩ := h110
    refine y_iconst C dX11_cameRefusal_23 ?_
    refine y_icmp_lt C 36 dX11_cameRefusal_24 (by decide) (by exact ⟨⟨(by omega), (by omega)⟩, ⟨(by decide), (by decide)⟩⟩) (fun h113 => ?_) (fun h113 => ?_)
    · refine y_bipush C dX11_cameRefusal_36 rfl ?_
      exact hret _ _ _ _ dX11_cameRefusal_38 ⟨(-4), rfl, rfl, by exact ⟨(by decide), ⟨(by decide), (by omega)⟩⟩⟩
    · refine j_aload_n C 0 3 dX11_cameRefusal_27 rfl rfl ?_
      refine j_callVi C (d := 1) (As := []) (st := []) v107 (s_lt cv107 rfl) (s_kc (c := 9) cv107 rfl) (by decide) rfl (s1_X10_size hM0 cv107) gX11_cameRefusal_X10_size rfl hdX10_size (by decide) (Nat.le_of_ble_eq_true rfl) dX11_cameRefusal_28 rfl (fun r114 M115 h116 => ?_)
      obtain ⟨a118, rfl, rfl, h117⟩ := h116
      refine y_bipush C dX11_cameRefusal_31 rfl ?_
      refine y_icmp_le C 39 dX11_cameRefusal_33 (by decide) (by exact ⟨⟨(by omega), (by omega)⟩, ⟨(by decide), (by decide)⟩⟩) (fun h119 => ?_) (fun h119 => ?_)
      · refine y_iconst C dX11_cameRefusal_39 ?_
        refine j_istore C 4 [(4, .int (sI 0)), (3, .ref (ad v107)), (2, .int (sI a105)), (0, .ref (ad 0)), (1, .int (sI a1))] dX11_cameRefusal_40 (by decide) rfl ?_
        have L479 : ∀ (n477 : Nat), ∀ (a480 : Int), (0 ≤ a480 ∧ a480 ≤ 40 ∧ (40 - a480) < (n477 : Int)) → jj p l e (cn_R 2) s m args below meth c 0 0 Q 5 dC dI ad cA A M0 42 [(0, .ref (ad 0)), (3, .ref (ad v107)), (4, .int (sI a480))] [] := by
          intro n477
          induction n477 with
          | zero =>
            intro a480 h481
            exfalso; omega
          | succ n477 ih478 =>
            intro a480 h481
            refine j_iload C 2 dX11_cameRefusal_42 rfl ?_
            refine j_aload_n C 1 3 dX11_cameRefusal_44 rfl rfl ?_
            refine j_callVi C (d := 1) (As := []) (st := [.int (sI a480)]) v107 (s_lt cv107 rfl) (s_kc (c := 9) cv107 rfl) (by decide) rfl (s1_X10_size hM0 cv107) gX11_cameRefusal_X10_size rfl hdX10_size (by decide) (Nat.le_of_ble_eq_true rfl) dX11_cameRefusal_45 rfl (fun r482 M483 h484 => ?_)
            obtain ⟨a486, rfl, rfl, h485⟩ := h484
            refine y_icmp_ge C 91 dX11_cameRefusal_48 (by decide) (by (clear ih478 h119 h117 h113 h111 cv107 h106 h104 hret C ha1 hM0; omega)) (fun h487 => ?_) (fun h487 => ?_)
            · refine y_iconst C dX11_cameRefusal_91 ?_
              exact hret _ _ _ _ dX11_cameRefusal_92 ⟨0, rfl, rfl, by exact ⟨(by decide), ⟨(by decide), (by (clear h487 h485 h481 ih478 h119 h117 h113 h111 cv107 hret C hM0; omega))⟩⟩⟩
            · refine j_aload_n C 1 3 dX11_cameRefusal_51 rfl rfl ?_
              refine j_iload C 2 dX11_cameRefusal_52 rfl ?_
              refine j_callVj C (d := 1) (As := [.int (sI a480)]) (st := []) v107 (s_lt cv107 rfl) (s_kc (c := 9) cv107 rfl) (by decide) rfl (s1_X10_numberAt hM0 cv107 a480 (by omega)) gX11_cameRefusal_X10_numberAt rfl hdX10_numberAt (by decide) (Nat.le_of_ble_eq_true rfl) dX11_cameRefusal_54 rfl (fun r488 M489 h490 => ?_)
              obtain ⟨a492, rfl, rfl, h491⟩ := h490
              refine y_ldc2 C (-1) dX11_cameRefusal_57 kX11_cameRefusal_219 rfl ?_
              refine y_lcmp_lt C 82 dX11_cameRefusal_60 dX11_cameRefusal_61 (by decide) (by exact ⟨⟨h491.1, h491.2⟩, ⟨(by decide), (by decide)⟩⟩) (fun h493 => ?_) (fun h493 => ?_)
              · refine y_bipush C dX11_cameRefusal_82 rfl ?_
                exact hret _ _ _ _ dX11_cameRefusal_84 ⟨(-3), rfl, rfl, by exact ⟨(by decide), ⟨(by decide), (by omega)⟩⟩⟩
              · refine j_aload_n C 1 3 dX11_cameRefusal_64 rfl rfl ?_
                refine j_iload C 2 dX11_cameRefusal_65 rfl ?_
                refine j_callVj C (d := 1) (As := [.int (sI a480)]) (st := []) v107 (s_lt cv107 rfl) (s_kc (c := 9) cv107 rfl) (by decide) rfl (s1_X10_numberAt hM0 cv107 a480 (by omega)) gX11_cameRefusal_X10_numberAt rfl hdX10_numberAt (by decide) (Nat.le_of_ble_eq_true rfl) dX11_cameRefusal_67 rfl (fun r494 M495 h496 => ?_)
                obtain ⟨a498, rfl, rfl, h497⟩ := h496
                refine j_aload_n C 0 0 dX11_cameRefusal_70 rfl rfl ?_
                refine y_getC C 10 12 fX11_cameRefusal_36 rfl rfl ft_10_6 sm_10_6 rfl hM0 dX11_cameRefusal_71 ?_
                refine y_getI C 8 _ _ fX11_cameRefusal_160 rfl rfl ft_8_0 sb_8_0 hM0 dX11_cameRefusal_74 (fun a499 ea499 la499 ua499 => ?_)
                refine y_i2l C dX11_cameRefusal_77 (by (clear h497 h493 h491 h487 h485 h481 ih478 h119 h117 h113 h111 cv107 h106 h104 hret C ha1 hM0; omega)) ?_
                refine y_lcmp_lt C 85 dX11_cameRefusal_78 dX11_cameRefusal_79 (by decide) (by exact ⟨⟨h497.1, h497.2⟩, ⟨(by (clear h493 h491 h487 h485 h481 ih478 h119 h117 h113 h111 cv107 h106 h104 hret C ha1 hM0; omega)), (by (clear h493 h491 h487 h485 h481 ih478 h119 h117 h113 h111 cv107 h106 h104 hret C ha1 hM0; omega))⟩⟩) (fun h501 => ?_) (fun h501 => ?_)
                · refine y_iinc C 2 [(4, .int (sI (a480 + 1))), (0, .ref (ad 0)), (3, .ref (ad v107))] dX11_cameRefusal_85 rfl (by decide) rfl ?_
                  refine j_goto C 42 dX11_cameRefusal_88 (by decide) ?_
                  refine j_lv [1, 2, 0] rfl ?_; exact ih478 (a480 + 1) (by (clear h501 ua499 la499 ea499 h497 h493 h491 ih478 h119 h117 h113 h111 cv107 h106 h104 hret C ha1 hM0; omega))
                · refine y_bipush C dX11_cameRefusal_82 rfl ?_
                  exact hret _ _ _ _ dX11_cameRefusal_84 ⟨(-3), rfl, rfl, by exact ⟨(by decide), ⟨(by decide), (by omega)⟩⟩⟩
        refine j_lv [3, 1, 0] rfl ?_; exact L479 2010 0 (by exact ⟨(by decide), ⟨(by decide), (by decide)⟩⟩)
      · refine y_bipush C dX11_cameRefusal_36 rfl ?_
        exact hret _ _ _ _ dX11_cameRefusal_38 ⟨(-4), rfl, rfl, by exact ⟨(by decide), ⟨(by decide), (by omega)⟩⟩⟩
  · refine j_iload_n C 0 2 dX11_cameRefusal_10 rfl rfl ?_
    exact hret _ _ _ _ dX11_cameRefusal_11 ⟨a105, rfl, rfl, by exact ⟨h104.1, ⟨h104.2.1, (by (clear hret C ha1 hM0; omega))⟩⟩⟩
set_option maxHeartbeats 4000000 in
theorem s1_X5_isMet {l : Launch} {dC : Nat → ClassId} {dI : Nat → Nat → Nat} {ad : Nat → Nat} {cA : Nat → ClassId} {pr : Nat → Nat → Bool} {Kz : mm_M} {M0 : mm_M} (hM0 : INV pr Kz M0) (a1 : Int) (ha1 : -2147483648 ≤ a1 ∧ a1 ≤ 2147483647) (hp0 : 0 ≤ a1 ∧ a1 ≤ 255) : Ci l 0 yX5_isMet wsX5_isMet dC dI ad cA [.ref (ad 88), .int (sI a1)] M0 (fun r M' => ∃ a : Int, r = sI a ∧ M0 = M' ∧ 0 ≤ a ∧ a ≤ 1 ∧ ((¬ (M0.1 90 (a1).toNat).toInt = 1 ∧ a = 0) ∨ (1 ≤ (M0.1 90 (a1).toNat).toInt ∧ (M0.1 90 (a1).toNat).toInt ≤ 1 ∧ (M0.1 90 (a1).toNat).toInt = 1 ∧ a = 1))) := by
  refine ci_of (cc := cX5_isMet) (maxL := 2) (ty := .boolean) (lv := [(0, .ref (ad 88)), (1, .int (sI a1))]) (by decide) rfl (fun r M' hp => by obtain ⟨a, rfl, -, h⟩ := hp; rcases (show a = 0 ∨ a = 1 by omega) with rfl | rfl <;> rfl) (Nat.le_of_ble_eq_true rfl) rfl ?_
  intro p e s m args below meth c A Q C hret
  refine j_aload_n C 0 0 dX5_isMet_0 rfl rfl ?_
  refine y_getC C 4 90 fX5_isMet_15 rfl rfl ft_4_2 sm_4_2 rfl hM0 dX5_isMet_1 ?_
  refine j_iload_n C 1 1 dX5_isMet_4 rfl rfl ?_
  refine y_iald C 39 256 _ _ rfl rfl rfl ak_39 an_39 rfl (sb_39 _) hM0 dX5_isMet_5 (by exact ⟨hp0.1, (by omega)⟩) (fun a101 ea101 la101 ua101 => ?_)
  refine y_iconst C dX5_isMet_6 ?_
  refine y_icmp_ne C 14 dX5_isMet_7 (by decide) (by exact ⟨⟨la101, ua101⟩, ⟨(by decide), (by decide)⟩⟩) (fun h102 => ?_) (fun h102 => ?_)
  · refine y_iconst C dX5_isMet_14 ?_
    exact hret _ _ _ _ dX5_isMet_15 ⟨0, rfl, rfl, by exact ⟨(by decide), ⟨(by decide), (by (clear hret C hp0 ha1 hM0; omega))⟩⟩⟩
  · refine y_iconst C dX5_isMet_10 ?_
    refine j_goto C 15 dX5_isMet_11 (by decide) ?_
    exact hret _ _ _ _ dX5_isMet_15 ⟨1, rfl, rfl, by exact ⟨(by decide), ⟨(by decide), (by (clear ua101 la101 hret C hp0 ha1 hM0; omega))⟩⟩⟩
set_option maxHeartbeats 4000000 in
theorem s1_X0_fitting {l : Launch} {dC : Nat → ClassId} {dI : Nat → Nat → Nat} {ad : Nat → Nat} {cA : Nat → ClassId} {pr : Nat → Nat → Bool} {Kz : mm_M} {M0 : mm_M} (hM0 : INV pr Kz M0) (a1 : Int) (ha1 : -2147483648 ≤ a1 ∧ a1 ≤ 2147483647) (a2 : Int) (ha2 : -2147483648 ≤ a2 ∧ a2 ≤ 2147483647) (hp0 : 0 ≤ a1 ∧ a1 ≤ 255) : Ci l 1 yX0_fitting wsX0_fitting dC dI ad cA [.ref (ad 95), .int (sI a1), .int (sI a2)] M0 (fun r M' => ∃ a : Int, r = sI a ∧ M0 = M' ∧ 0 ≤ a ∧ a ≤ 63) := by
  refine ci_of (cc := cX0_fitting) (maxL := 6) (ty := .int) (lv := [(0, .ref (ad 95)), (1, .int (sI a1)), (2, .int (sI a2))]) (by decide) rfl (fun r M' hp => rfl) (Nat.le_of_ble_eq_true rfl) rfl ?_
  intro p e s m args below meth c A Q C hret
  refine y_iconst C dX0_fitting_0 ?_
  refine j_istore_n C 3 [(3, .int (sI 0)), (0, .ref (ad 95)), (1, .int (sI a1)), (2, .int (sI a2))] dX0_fitting_1 rfl (by decide) rfl ?_
  refine y_iconst C dX0_fitting_2 ?_
  refine j_istore C 4 [(4, .int (sI 0)), (3, .int (sI 0)), (0, .ref (ad 95)), (1, .int (sI a1)), (2, .int (sI a2))] dX0_fitting_3 (by decide) rfl ?_
  have L299 : ∀ (n297 : Nat), ∀ (a300 : Int) (a301 : Int), (0 ≤ a300 ∧ a300 ≤ 63 ∧ 0 ≤ a301 ∧ a301 ≤ 6 ∧ (6 - a301) < (n297 : Int)) → jj p l e (cn_R 1) s m args below meth c 0 0 Q 6 dC dI ad cA A M0 5 [(0, .ref (ad 95)), (1, .int (sI a1)), (2, .int (sI a2)), (3, .int (sI a300)), (4, .int (sI a301))] [] := by
    intro n297
    induction n297 with
    | zero =>
      intro a300 a301 h302
      exfalso; omega
    | succ n297 ih298 =>
      intro a300 a301 h302
      refine j_iload C 4 dX0_fitting_5 rfl ?_
      refine j_aload_n C 0 0 dX0_fitting_7 rfl rfl ?_
      refine y_getC C 0 88 fX0_fitting_25 rfl rfl ft_0_0 sm_0_0 rfl hM0 dX0_fitting_8 ?_
      refine j_callVi C (d := 0) (As := []) (st := [.int (sI a301)]) 88 (s_lt rfl rfl) (s_kc (c := 4) rfl rfl) (by decide) rfl (s1_X5_buyers hM0) gX0_fitting_X5_buyers rfl hdX5_buyers (by decide) (Nat.le_of_ble_eq_true rfl) dX0_fitting_11 rfl (fun r303 M304 h305 => ?_)
      obtain ⟨a307, rfl, rfl, h306⟩ := h305
      refine y_icmp_ge C 73 dX0_fitting_14 (by decide) (by omega) (fun h308 => ?_) (fun h308 => ?_)
      · refine j_iload_n C 3 3 dX0_fitting_73 rfl rfl ?_
        exact hret _ _ _ _ dX0_fitting_74 ⟨a300, rfl, rfl, by exact ⟨h302.1, h302.2.1⟩⟩
      · refine j_aload_n C 0 0 dX0_fitting_17 rfl rfl ?_
        refine y_getC C 0 88 fX0_fitting_25 rfl rfl ft_0_0 sm_0_0 rfl hM0 dX0_fitting_18 ?_
        refine j_iload_n C 1 1 dX0_fitting_21 rfl rfl ?_
        refine j_iload C 4 dX0_fitting_22 rfl ?_
        refine j_callVi C (d := 0) (As := [.int (sI a1), .int (sI a301)]) (st := []) 88 (s_lt rfl rfl) (s_kc (c := 4) rfl rfl) (by decide) rfl (s1_X5_pick hM0 a1 (by exact ⟨ha1.1, ha1.2⟩) a301 (by omega)) gX0_fitting_X5_pick rfl hdX5_pick (by decide) (Nat.le_of_ble_eq_true rfl) dX0_fitting_24 rfl (fun r309 M310 h311 => ?_)
        obtain ⟨a313, rfl, rfl, h312⟩ := h311
        refine j_istore C 5 [(5, .int (sI a313)), (0, .ref (ad 95)), (1, .int (sI a1)), (2, .int (sI a2)), (3, .int (sI a300)), (4, .int (sI a301))] dX0_fitting_27 (by decide) rfl ?_
        refine j_iload C 0 dX0_fitting_29 rfl ?_
        refine y_if_lt C 67 dX0_fitting_31 (by decide) (by omega) (fun h314 => ?_) (fun h314 => ?_)
        · refine y_iinc C 5 [(4, .int (sI (a301 + 1))), (5, .int (sI a313)), (0, .ref (ad 95)), (1, .int (sI a1)), (2, .int (sI a2)), (3, .int (sI a300))] dX0_fitting_67 rfl (by decide) rfl ?_
          refine j_goto C 5 dX0_fitting_70 (by decide) ?_
          refine j_lv [2, 3, 4, 5, 0] rfl ?_; exact ih298 a300 (a301 + 1) (by exact ⟨h302.1, ⟨h302.2.1, ⟨(by (clear h314 h312 ih298 hret C hp0 ha2 ha1 hM0; omega)), ⟨(by (clear h314 h312 ih298 hret C hp0 ha2 ha1 hM0; omega)), (by (clear h314 h312 ih298 hret C hp0 ha2 ha1 hM0; omega))⟩⟩⟩⟩)
        · refine j_iload_n C 3 2 dX0_fitting_34 rfl rfl ?_
          refine y_iconst C dX0_fitting_35 ?_
          refine y_icmp_eq C 45 dX0_fitting_36 (by decide) (by exact ⟨⟨ha2.1, ha2.2⟩, ⟨(by decide), (by decide)⟩⟩) (fun h315 => ?_) (fun h315 => ?_)
          · refine j_aload_n C 1 0 dX0_fitting_45 rfl rfl ?_
            refine y_getC C 0 96 fX0_fitting_9 rfl rfl ft_0_1 sm_0_1 rfl hM0 dX0_fitting_46 ?_
            refine j_iload_n C 2 1 dX0_fitting_49 rfl rfl ?_
            refine y_iconst C dX0_fitting_50 ?_
            refine j_iload C 0 dX0_fitting_51 rfl ?_
            refine y_shl1 C 7 128 dX0_fitting_53 rfl (by decide) (by omega) (fun a316 la316 ua316 => ?_)
            refine y_iorN C 8 255 dX0_fitting_54 rfl (by decide) (by exact ⟨hp0.1, ⟨hp0.2, ⟨(by (clear h315 h314 h312 h308 h306 h302 ih298 hret C ha2 hM0; omega)), (by (clear h315 h314 h312 h308 h306 h302 ih298 hret C ha2 hM0; omega))⟩⟩⟩) (fun a317 la317 ua317 => ?_)
            refine y_iald C 43 256 _ _ rfl rfl rfl ak_43 an_43 rfl (sb_43 _) hM0 dX0_fitting_55 (by exact ⟨la317, (by omega)⟩) (fun a318 ea318 la318 ua318 => ?_)
            refine y_iconst C dX0_fitting_56 ?_
            refine y_icmp_ne C 67 dX0_fitting_57 (by decide) (by exact ⟨⟨la318, ua318⟩, ⟨(by decide), (by decide)⟩⟩) (fun h319 => ?_) (fun h319 => ?_)
            · refine y_iinc C 5 [(4, .int (sI (a301 + 1))), (5, .int (sI a313)), (0, .ref (ad 95)), (1, .int (sI a1)), (2, .int (sI a2)), (3, .int (sI a300))] dX0_fitting_67 rfl (by decide) rfl ?_
              refine j_goto C 5 dX0_fitting_70 (by decide) ?_
              refine j_lv [2, 3, 4, 5, 0] rfl ?_; exact ih298 a300 (a301 + 1) (by exact ⟨h302.1, ⟨h302.2.1, ⟨(by (clear h319 ua318 la318 ea318 ua317 la317 ua316 la316 h315 h314 h312 ih298 hret C hp0 ha2 ha1 hM0; omega)), ⟨(by (clear h319 ua318 la318 ea318 ua317 la317 ua316 la316 h315 h314 h312 ih298 hret C hp0 ha2 ha1 hM0; omega)), (by (clear h319 ua318 la318 ea318 ua317 la317 ua316 la316 h315 h314 h312 ih298 hret C hp0 ha2 ha1 hM0; omega))⟩⟩⟩⟩)
            · refine j_iload_n C 4 3 dX0_fitting_60 rfl rfl ?_
              refine y_iconst C dX0_fitting_61 ?_
              refine j_iload C 5 dX0_fitting_62 rfl ?_
              refine y_shl1 C 5 32 dX0_fitting_64 rfl (by decide) (by exact ⟨h302.2.2.1, (by (clear h319 ua318 la318 ea318 ua317 la317 ua316 la316 h315 h314 h312 ih298 hret C hp0 ha2 ha1 hM0; omega))⟩) (fun a320 la320 ua320 => ?_)
              refine y_iorN C 6 63 dX0_fitting_65 rfl (by decide) (by exact ⟨h302.1, ⟨h302.2.1, ⟨(by (clear h319 ua318 la318 ea318 ua317 la317 ua316 la316 h315 h314 h312 h308 h306 ih298 hret C hp0 ha2 ha1 hM0; omega)), (by (clear h319 ua318 la318 ea318 ua317 la317 ua316 la316 h315 h314 h312 h308 h306 ih298 hret C hp0 ha2 ha1 hM0; omega))⟩⟩⟩) (fun a321 la321 ua321 => ?_)
              refine j_istore_n C 3 [(3, .int (sI a321)), (5, .int (sI a313)), (0, .ref (ad 95)), (1, .int (sI a1)), (2, .int (sI a2)), (4, .int (sI a301))] dX0_fitting_66 rfl (by decide) rfl ?_
              refine y_iinc C 5 [(4, .int (sI (a301 + 1))), (3, .int (sI a321)), (5, .int (sI a313)), (0, .ref (ad 95)), (1, .int (sI a1)), (2, .int (sI a2))] dX0_fitting_67 rfl (by decide) rfl ?_
              refine j_goto C 5 dX0_fitting_70 (by decide) ?_
              refine j_lv [3, 4, 5, 1, 0] rfl ?_; exact ih298 a321 (a301 + 1) (by exact ⟨la321, ⟨ua321, ⟨(by (clear ua320 la320 h319 ua318 la318 ea318 ua317 la317 ua316 la316 h315 h314 h312 ih298 hret C hp0 ha2 ha1 hM0; omega)), ⟨(by (clear ua320 la320 h319 ua318 la318 ea318 ua317 la317 ua316 la316 h315 h314 h312 ih298 hret C hp0 ha2 ha1 hM0; omega)), (by (clear ua320 la320 h319 ua318 la318 ea318 ua317 la317 ua316 la316 h315 h314 h312 ih298 hret C hp0 ha2 ha1 hM0; omega))⟩⟩⟩⟩)
          · refine j_iload_n C 3 2 dX0_fitting_39 rfl rfl ?_
            refine j_iload C 0 dX0_fitting_40 rfl ?_
            refine y_icmp_ne C 67 dX0_fitting_42 (by decide) (by exact ⟨⟨ha2.1, ha2.2⟩, ⟨(by (clear h315 h308 h306 h302 ih298 hret C hp0 ha1 hM0; omega)), (by (clear h315 h308 h306 h302 ih298 hret C hp0 ha1 hM0; omega))⟩⟩) (fun h322 => ?_) (fun h322 => ?_)
            · refine y_iinc C 5 [(4, .int (sI (a301 + 1))), (5, .int (sI a313)), (0, .ref (ad 95)), (1, .int (sI a1)), (2, .int (sI a2)), (3, .int (sI a300))] dX0_fitting_67 rfl (by decide) rfl ?_
              refine j_goto C 5 dX0_fitting_70 (by decide) ?_
              refine j_lv [2, 3, 4, 5, 0] rfl ?_; exact ih298 a300 (a301 + 1) (by exact ⟨h302.1, ⟨h302.2.1, ⟨(by omega), ⟨(by omega), (by omega)⟩⟩⟩⟩)
            · refine j_aload_n C 1 0 dX0_fitting_45 rfl rfl ?_
              refine y_getC C 0 96 fX0_fitting_9 rfl rfl ft_0_1 sm_0_1 rfl hM0 dX0_fitting_46 ?_
              refine j_iload_n C 2 1 dX0_fitting_49 rfl rfl ?_
              refine y_iconst C dX0_fitting_50 ?_
              refine j_iload C 0 dX0_fitting_51 rfl ?_
              refine y_shl1 C 7 128 dX0_fitting_53 rfl (by decide) (by omega) (fun a323 la323 ua323 => ?_)
              refine y_iorN C 8 255 dX0_fitting_54 rfl (by decide) (by exact ⟨hp0.1, ⟨hp0.2, ⟨(by omega), (by omega)⟩⟩⟩) (fun a324 la324 ua324 => ?_)
              refine y_iald C 43 256 _ _ rfl rfl rfl ak_43 an_43 rfl (sb_43 _) hM0 dX0_fitting_55 (by exact ⟨la324, (by omega)⟩) (fun a325 ea325 la325 ua325 => ?_)
              refine y_iconst C dX0_fitting_56 ?_
              refine y_icmp_ne C 67 dX0_fitting_57 (by decide) (by exact ⟨⟨la325, ua325⟩, ⟨(by decide), (by decide)⟩⟩) (fun h326 => ?_) (fun h326 => ?_)
              · refine y_iinc C 5 [(4, .int (sI (a301 + 1))), (5, .int (sI a313)), (0, .ref (ad 95)), (1, .int (sI a1)), (2, .int (sI a2)), (3, .int (sI a300))] dX0_fitting_67 rfl (by decide) rfl ?_
                refine j_goto C 5 dX0_fitting_70 (by decide) ?_
                refine j_lv [2, 3, 4, 5, 0] rfl ?_; exact ih298 a300 (a301 + 1) (by exact ⟨h302.1, ⟨h302.2.1, ⟨(by omega), ⟨(by omega), (by omega)⟩⟩⟩⟩)
              · refine j_iload_n C 4 3 dX0_fitting_60 rfl rfl ?_
                refine y_iconst C dX0_fitting_61 ?_
                refine j_iload C 5 dX0_fitting_62 rfl ?_
                refine y_shl1 C 5 32 dX0_fitting_64 rfl (by decide) (by exact ⟨h302.2.2.1, (by omega)⟩) (fun a327 la327 ua327 => ?_)
                refine y_iorN C 6 63 dX0_fitting_65 rfl (by decide) (by exact ⟨h302.1, ⟨h302.2.1, ⟨(by omega), (by omega)⟩⟩⟩) (fun a328 la328 ua328 => ?_)
                refine j_istore_n C 3 [(3, .int (sI a328)), (5, .int (sI a313)), (0, .ref (ad 95)), (1, .int (sI a1)), (2, .int (sI a2)), (4, .int (sI a301))] dX0_fitting_66 rfl (by decide) rfl ?_
                refine y_iinc C 5 [(4, .int (sI (a301 + 1))), (3, .int (sI a328)), (5, .int (sI a313)), (0, .ref (ad 95)), (1, .int (sI a1)), (2, .int (sI a2))] dX0_fitting_67 rfl (by decide) rfl ?_
                refine j_goto C 5 dX0_fitting_70 (by decide) ?_
                refine j_lv [3, 4, 5, 1, 0] rfl ?_; exact ih298 a328 (a301 + 1) (by exact ⟨la328, ⟨ua328, ⟨(by omega), ⟨(by omega), (by omega)⟩⟩⟩⟩)
  refine j_lv [2, 3, 4, 1, 0] rfl ?_; exact L299 2010 0 0 (by exact ⟨(by decide), ⟨(by decide), ⟨(by decide), ⟨(by decide), (by decide)⟩⟩⟩⟩)
set_option maxHeartbeats 4000000 in
theorem s1_X5_isOnRow {l : Launch} {dC : Nat → ClassId} {dI : Nat → Nat → Nat} {ad : Nat → Nat} {cA : Nat → ClassId} {pr : Nat → Nat → Bool} {Kz : mm_M} {M0 : mm_M} (hM0 : INV pr Kz M0) (a1 : Int) (ha1 : -2147483648 ≤ a1 ∧ a1 ≤ 2147483647) (hp0 : 0 ≤ a1 ∧ a1 ≤ 255) : Ci l 0 yX5_isOnRow wsX5_isOnRow dC dI ad cA [.ref (ad 88), .int (sI a1)] M0 (fun r M' => ∃ a : Int, r = sI a ∧ M0 = M' ∧ 0 ≤ a ∧ a ≤ 1 ∧ ((a = 0) ∨ (a = 1))) := by
  refine ci_of (cc := cX5_isOnRow) (maxL := 2) (ty := .boolean) (lv := [(0, .ref (ad 88)), (1, .int (sI a1))]) (by decide) rfl (fun r M' hp => by obtain ⟨a, rfl, -, h⟩ := hp; rcases (show a = 0 ∨ a = 1 by exact h.2.2) with rfl | rfl <;> rfl) (Nat.le_of_ble_eq_true rfl) rfl ?_
  intro p e s m args below meth c A Q C hret
  refine j_aload_n C 0 0 dX5_isOnRow_0 rfl rfl ?_
  refine y_getM C 4 41 fX5_isOnRow_21 rfl rfl ft_4_4 sm_4_4 (by decide) hM0 dX5_isOnRow_1 (fun v101 ev101 cv101 => ?_)
  refine j_iload_n C 1 1 dX5_isOnRow_4 rfl rfl ?_
  refine y_lald C 41 256 cv101 rfl rfl ak_41 an_41 rfl dX5_isOnRow_5 (by exact ⟨hp0.1, (by omega)⟩) (fun a102 ea102 la102 ua102 => ?_)
  refine y_lconst C 0 dX5_isOnRow_6 rfl ?_
  refine y_lcmp_eq C 15 dX5_isOnRow_7 dX5_isOnRow_8 (by decide) (by exact ⟨⟨la102, ua102⟩, ⟨(by decide), (by decide)⟩⟩) (fun h103 => ?_) (fun h103 => ?_)
  · refine y_iconst C dX5_isOnRow_15 ?_
    exact hret _ _ _ _ dX5_isOnRow_16 ⟨0, rfl, rfl, by exact ⟨(by decide), ⟨(by decide), (by decide)⟩⟩⟩
  · refine y_iconst C dX5_isOnRow_11 ?_
    refine j_goto C 16 dX5_isOnRow_12 (by decide) ?_
    exact hret _ _ _ _ dX5_isOnRow_16 ⟨1, rfl, rfl, by exact ⟨(by decide), ⟨(by decide), (by decide)⟩⟩⟩
set_option maxHeartbeats 4000000 in
theorem s1_X10_cut {l : Launch} {dC : Nat → ClassId} {dI : Nat → Nat → Nat} {ad : Nat → Nat} {cA : Nat → ClassId} {pr : Nat → Nat → Bool} {Kz : mm_M} {M0 : mm_M} (hM0 : INV pr Kz M0) {v0 : Nat} (cv0 : s_c v0 = 9) (a1 : Int) (ha1 : -9223372036854775808 ≤ a1 ∧ a1 ≤ 9223372036854775807) : Cj l 0 yX10_cut wsX10_cut dC dI ad cA [.ref (ad v0), .long (sJ a1)] M0 (fun r M' => ∃ a : Int, r = sJ a ∧ M0 = M' ∧ (-9223372036854775808) ≤ a ∧ a ≤ 9223372036854775807 ∧ (a = ctF a1 (M0.1 v0 1).toInt)) := by
  refine cj_of (cc := cX10_cut) (maxL := 3) (lv := [(0, .ref (ad v0)), (1, .long (sJ a1))]) (by decide) rfl (Nat.le_of_ble_eq_true rfl) rfl ?_
  intro p e s m args below meth c A Q C hret
  refine j_aload_n C 0 0 dX10_cut_0 rfl rfl ?_
  refine y_getI C 9 _ _ fX10_cut_15 cv0 rfl ft_9_1 sb_9_1 hM0 dX10_cut_1 (fun a101 ea101 la101 ua101 => ?_)
  rcases (show (a101 < 0 ∨ 2 < a101) ∨ a101 = 0 ∨ a101 = 1 ∨ a101 = 2 by (clear hret C ha1 cv0 hM0; omega)) with h103 | h103 | h103 | h103
  · refine y_tabO C 46 dX10_cut_4 (by decide) (by exact ⟨⟨(by (clear hret C ha1 cv0 hM0; omega)), (by (clear hret C ha1 cv0 hM0; omega))⟩, h103⟩) ?_
    refine j_lload_n C 1 1 dX10_cut_46 rfl rfl ?_
    have u104 := ctF_s a1 (M0.1 v0 1).toInt
    exact hret _ _ _ _ dX10_cut_47 ⟨a1, rfl, rfl, by exact ⟨ha1.1, ⟨ha1.2, (by (clear ua101 la101 hret C cv0 hM0; omega))⟩⟩⟩
  · refine y_tabI C (off := 28) 32 0 dX10_cut_4 (by decide) rfl (by decide) h103 ?_
    refine j_lload_n C 1 1 dX10_cut_32 rfl rfl ?_
    refine e_l2i C dX10_cut_33 (fun lb105 ub105 => ?_)
    refine e_i2b C dX10_cut_34 (fun lb106 ub106 => ?_)
    refine y_i2l C dX10_cut_35 (by omega) ?_
    have u107 := ctF_s a1 (M0.1 v0 1).toInt
    exact hret _ _ _ _ dX10_cut_36 ⟨(i8F (w32 a1)), rfl, rfl, by (clear ub105 lb105 ua101 la101 hret C ha1 cv0 hM0; omega)⟩
  · refine y_tabI C (off := 33) 37 1 dX10_cut_4 (by decide) rfl (by decide) h103 ?_
    refine j_lload_n C 1 1 dX10_cut_37 rfl rfl ?_
    refine e_l2i C dX10_cut_38 (fun lb108 ub108 => ?_)
    refine e_i2s C dX10_cut_39 (fun lb109 ub109 => ?_)
    refine y_i2l C dX10_cut_40 (by omega) ?_
    have u110 := ctF_s a1 (M0.1 v0 1).toInt
    exact hret _ _ _ _ dX10_cut_41 ⟨(i16F (w32 a1)), rfl, rfl, by (clear ub108 lb108 ua101 la101 hret C ha1 cv0 hM0; omega)⟩
  · refine y_tabI C (off := 38) 42 2 dX10_cut_4 (by decide) rfl (by decide) h103 ?_
    refine j_lload_n C 1 1 dX10_cut_42 rfl rfl ?_
    refine e_l2i C dX10_cut_43 (fun lb111 ub111 => ?_)
    refine y_i2l C dX10_cut_44 (by exact ⟨lb111, ub111⟩) ?_
    have u112 := ctF_s a1 (M0.1 v0 1).toInt
    exact hret _ _ _ _ dX10_cut_45 ⟨(w32 a1), rfl, rfl, by (clear ua101 la101 hret C ha1 cv0 hM0; omega)⟩
set_option maxHeartbeats 4000000 in
theorem s1_X11_count {l : Launch} {dC : Nat → ClassId} {dI : Nat → Nat → Nat} {ad : Nat → Nat} {cA : Nat → ClassId} {pr : Nat → Nat → Bool} {Kz : mm_M} {M0 : mm_M} (hM0 : INV pr Kz M0) (a1 : Int) (ha1 : -2147483648 ≤ a1 ∧ a1 ≤ 2147483647) : Ci l 2 yX11_count wsX11_count dC dI ad cA [.ref (ad 0), .int (sI a1)] M0 (fun r M' => ∃ a : Int, r = sI a ∧ M0 = M' ∧ (-2147483648) ≤ a ∧ a ≤ 2147483647) := by
  refine ci_of (cc := cX11_count) (maxL := 2) (ty := .int) (lv := [(0, .ref (ad 0)), (1, .int (sI a1))]) (by decide) rfl (fun r M' hp => rfl) (Nat.le_of_ble_eq_true rfl) rfl ?_
  intro p e s m args below meth c A Q C hret
  refine j_iload_n C 1 1 dX11_count_0 rfl rfl ?_
  rcases (show (a1 < 0 ∨ 11 < a1) ∨ a1 = 0 ∨ a1 = 1 ∨ a1 = 2 ∨ a1 = 3 ∨ a1 = 4 ∨ a1 = 5 ∨ a1 = 6 ∨ a1 = 7 ∨ a1 = 8 ∨ a1 = 9 ∨ a1 = 10 ∨ a1 = 11 by omega) with h101 | h101 | h101 | h101 | h101 | h101 | h101 | h101 | h101 | h101 | h101 | h101 | h101
  · refine y_tabO C 165 dX11_count_1 (by decide) (by exact ⟨⟨ha1.1, ha1.2⟩, h101⟩) ?_
    refine y_iconst C dX11_count_165 ?_
    exact hret _ _ _ _ dX11_count_166 ⟨(-1), rfl, rfl, by exact ⟨(by decide), (by decide)⟩⟩
  · refine y_tabI C (off := 63) 64 0 dX11_count_1 (by decide) rfl (by decide) h101 ?_
    refine j_aload_n C 0 0 dX11_count_64 rfl rfl ?_
    refine y_getC C 10 12 fX11_count_36 rfl rfl ft_10_6 sm_10_6 rfl hM0 dX11_count_65 ?_
    refine y_getI C 8 _ _ fX11_count_160 rfl rfl ft_8_0 sb_8_0 hM0 dX11_count_68 (fun a102 ea102 la102 ua102 => ?_)
    exact hret _ _ _ _ dX11_count_71 ⟨a102, rfl, rfl, by omega⟩
  · refine y_tabI C (off := 71) 72 1 dX11_count_1 (by decide) rfl (by decide) h101 ?_
    refine j_aload_n C 0 0 dX11_count_72 rfl rfl ?_
    refine y_getM C 10 6 fX11_count_26 rfl rfl ft_10_4 sm_10_4 (by decide) hM0 dX11_count_73 (fun v104 ev104 cv104 => ?_)
    refine y_getI C 6 _ _ fX11_count_163 cv104 rfl ft_6_0 sb_6_0 hM0 dX11_count_76 (fun a105 ea105 la105 ua105 => ?_)
    exact hret _ _ _ _ dX11_count_79 ⟨a105, rfl, rfl, by (clear cv104 ev104 h101 hret C ha1 hM0; omega)⟩
  · refine y_tabI C (off := 79) 80 2 dX11_count_1 (by decide) rfl (by decide) h101 ?_
    refine j_aload_n C 0 0 dX11_count_80 rfl rfl ?_
    refine y_getC C 10 12 fX11_count_36 rfl rfl ft_10_6 sm_10_6 rfl hM0 dX11_count_81 ?_
    refine y_getI C 8 _ _ fX11_count_150 rfl rfl ft_8_3 sb_8_3 hM0 dX11_count_84 (fun a107 ea107 la107 ua107 => ?_)
    exact hret _ _ _ _ dX11_count_87 ⟨a107, rfl, rfl, by omega⟩
  · refine y_tabI C (off := 87) 88 3 dX11_count_1 (by decide) rfl (by decide) h101 ?_
    refine j_aload_n C 0 0 dX11_count_88 rfl rfl ?_
    refine y_getC C 10 12 fX11_count_36 rfl rfl ft_10_6 sm_10_6 rfl hM0 dX11_count_89 ?_
    refine y_getI C 8 _ _ fX11_count_153 rfl rfl ft_8_4 sb_8_4 hM0 dX11_count_92 (fun a109 ea109 la109 ua109 => ?_)
    exact hret _ _ _ _ dX11_count_95 ⟨a109, rfl, rfl, by omega⟩
  · refine y_tabI C (off := 95) 96 4 dX11_count_1 (by decide) rfl (by decide) h101 ?_
    refine j_aload_n C 0 0 dX11_count_96 rfl rfl ?_
    refine y_getC C 10 12 fX11_count_36 rfl rfl ft_10_6 sm_10_6 rfl hM0 dX11_count_97 ?_
    refine j_callVi C (d := 1) (As := []) (st := []) 12 (s_lt rfl rfl) (s_kc (c := 8) rfl rfl) (by decide) rfl (s1_X9_isShut hM0 rfl) gX11_count_X9_isShut rfl hdX9_isShut (by decide) (Nat.le_of_ble_eq_true rfl) dX11_count_100 rfl (fun r111 M112 h113 => ?_)
    obtain ⟨a115, rfl, rfl, h114⟩ := h113
    refine y_if_eq C 110 dX11_count_103 (by decide) (by omega) (fun h116 => ?_) (fun h116 => ?_)
    · refine y_iconst C dX11_count_110 ?_
      exact hret _ _ _ _ dX11_count_111 ⟨0, rfl, rfl, by exact ⟨(by decide), (by decide)⟩⟩
    · refine y_iconst C dX11_count_106 ?_
      refine j_goto C 111 dX11_count_107 (by decide) ?_
      exact hret _ _ _ _ dX11_count_111 ⟨1, rfl, rfl, by exact ⟨(by decide), (by decide)⟩⟩
  · refine y_tabI C (off := 111) 112 5 dX11_count_1 (by decide) rfl (by decide) h101 ?_
    refine j_aload_n C 0 0 dX11_count_112 rfl rfl ?_
    refine y_getC C 10 12 fX11_count_36 rfl rfl ft_10_6 sm_10_6 rfl hM0 dX11_count_113 ?_
    refine y_getI C 8 _ _ fX11_count_252 rfl rfl ft_8_5 sb_8_5 hM0 dX11_count_116 (fun a117 ea117 la117 ua117 => ?_)
    exact hret _ _ _ _ dX11_count_119 ⟨a117, rfl, rfl, by exact ⟨la117, ua117⟩⟩
  · refine y_tabI C (off := 119) 120 6 dX11_count_1 (by decide) rfl (by decide) h101 ?_
    refine j_aload_n C 0 0 dX11_count_120 rfl rfl ?_
    refine y_getC C 10 12 fX11_count_36 rfl rfl ft_10_6 sm_10_6 rfl hM0 dX11_count_121 ?_
    refine y_getI C 8 _ _ fX11_count_401 rfl rfl ft_8_6 sb_8_6 hM0 dX11_count_124 (fun a119 ea119 la119 ua119 => ?_)
    exact hret _ _ _ _ dX11_count_127 ⟨a119, rfl, rfl, by exact ⟨la119, ua119⟩⟩
  · refine y_tabI C (off := 127) 128 7 dX11_count_1 (by decide) rfl (by decide) h101 ?_
    refine j_aload_n C 0 0 dX11_count_128 rfl rfl ?_
    refine y_getC C 10 12 fX11_count_36 rfl rfl ft_10_6 sm_10_6 rfl hM0 dX11_count_129 ?_
    refine y_getI C 8 _ _ fX11_count_121 rfl rfl ft_8_7 sb_8_7 hM0 dX11_count_132 (fun a121 ea121 la121 ua121 => ?_)
    exact hret _ _ _ _ dX11_count_135 ⟨a121, rfl, rfl, by exact ⟨la121, ua121⟩⟩
  · refine y_tabI C (off := 135) 136 8 dX11_count_1 (by decide) rfl (by decide) h101 ?_
    refine j_aload_n C 0 0 dX11_count_136 rfl rfl ?_
    refine y_getM C 10 6 fX11_count_26 rfl rfl ft_10_4 sm_10_4 (by decide) hM0 dX11_count_137 (fun v123 ev123 cv123 => ?_)
    refine j_callVi C (d := 0) (As := []) (st := []) v123 (s_lt cv123 rfl) (s_kc (c := 6) cv123 rfl) (by decide) rfl (s1_X7_together hM0 cv123) gX11_count_X7_together rfl hdX7_together (by decide) (Nat.le_of_ble_eq_true rfl) dX11_count_140 rfl (fun r124 M125 h126 => ?_)
    obtain ⟨a128, rfl, rfl, h127⟩ := h126
    exact hret _ _ _ _ dX11_count_143 ⟨a128, rfl, rfl, by exact ⟨h127.1, h127.2⟩⟩
  · refine y_tabI C (off := 143) 144 9 dX11_count_1 (by decide) rfl (by decide) h101 ?_
    refine j_aload_n C 0 0 dX11_count_144 rfl rfl ?_
    refine y_getC C 10 18 fX11_count_46 rfl rfl ft_10_8 sm_10_8 rfl hM0 dX11_count_145 ?_
    refine y_getI C 5 _ _ fX11_count_225 rfl rfl ft_5_2 sb_5_2 hM0 dX11_count_148 (fun a129 ea129 la129 ua129 => ?_)
    exact hret _ _ _ _ dX11_count_151 ⟨a129, rfl, rfl, by omega⟩
  · refine y_tabI C (off := 151) 152 10 dX11_count_1 (by decide) rfl (by decide) h101 ?_
    refine j_aload_n C 0 0 dX11_count_152 rfl rfl ?_
    refine y_getI C 10 _ _ fX11_count_13 rfl rfl ft_10_1 sb_10_1 hM0 dX11_count_153 (fun a131 ea131 la131 ua131 => ?_)
    exact hret _ _ _ _ dX11_count_156 ⟨a131, rfl, rfl, by omega⟩
  · refine y_tabI C (off := 156) 157 11 dX11_count_1 (by decide) rfl (by decide) h101 ?_
    refine j_aload_n C 0 0 dX11_count_157 rfl rfl ?_
    refine y_getM C 10 6 fX11_count_26 rfl rfl ft_10_4 sm_10_4 (by decide) hM0 dX11_count_158 (fun v133 ev133 cv133 => ?_)
    refine y_getI C 6 _ _ fX11_count_131 cv133 rfl ft_6_1 sb_6_1 hM0 dX11_count_161 (fun a134 ea134 la134 ua134 => ?_)
    exact hret _ _ _ _ dX11_count_164 ⟨a134, rfl, rfl, by exact ⟨la134, ua134⟩⟩
