set_option maxHeartbeats 4000000 in
theorem s1_X11_fault {l : Launch} {dC : Nat → ClassId} {dI : Nat → Nat → Nat} {ad : Nat → Nat} {cA : Nat → ClassId} {pr : Nat → Nat → Bool} {Kz : mm_M} {M0 : mm_M} (hM0 : INV pr Kz M0) (a1 : Int) (ha1 : -2147483648 ≤ a1 ∧ a1 ≤ 2147483647) : Ci l 0 yX11_fault wsX11_fault dC dI ad cA [.ref (ad 0), .int (sI a1)] M0 (fun r M' => ∃ a : Int, r = sI a ∧ M0 = M' ∧ (-2147483648) ≤ a ∧ a ≤ 2147483647 ∧ (a1 = 0 ∧ a = (M0.1 0 2).toInt ∨ a1 = 1 ∧ a = (M0.1 0 3).toInt ∨ ¬ a1 = 0 ∧ ¬ a1 = 1 ∧ a = -1)) := by
  refine ci_of (cc := cX11_fault) (maxL := 2) (ty := .int) (lv := [(0, .ref (ad 0)), (1, .int (sI a1))]) (by decide) rfl (fun r M' hp => rfl) (Nat.le_of_ble_eq_true rfl) rfl ?_
  intro p e s m args below meth c A Q C hret
  refine j_iload_n C 1 1 dX11_fault_0 rfl rfl ?_
  refine y_if_ne C 9 dX11_fault_1 (by decide) (by exact ⟨ha1.1, ha1.2⟩) (fun h101 => ?_) (fun h101 => ?_)
  · refine j_iload_n C 1 1 dX11_fault_9 rfl rfl ?_
    refine y_iconst C dX11_fault_10 ?_
    refine y_icmp_ne C 21 dX11_fault_11 (by decide) (by exact ⟨⟨ha1.1, ha1.2⟩, ⟨(by decide), (by decide)⟩⟩) (fun h102 => ?_) (fun h102 => ?_)
    · refine y_iconst C dX11_fault_21 ?_
      exact hret _ _ _ _ dX11_fault_22 ⟨(-1), rfl, rfl, by exact ⟨(by decide), ⟨(by decide), (by (clear hret C ha1 hM0; omega))⟩⟩⟩
    · refine j_aload_n C 0 0 dX11_fault_14 rfl rfl ?_
      refine y_getI C 10 _ _ fX11_fault_20 rfl rfl ft_10_3 sb_10_3 hM0 dX11_fault_15 (fun a103 ea103 la103 ua103 => ?_)
      refine j_goto C 22 dX11_fault_18 (by decide) ?_
      exact hret _ _ _ _ dX11_fault_22 ⟨a103, rfl, rfl, by exact ⟨la103, ⟨ua103, (by (clear h101 hret C ha1 hM0; omega))⟩⟩⟩
  · refine j_aload_n C 0 0 dX11_fault_4 rfl rfl ?_
    refine y_getI C 10 _ _ fX11_fault_17 rfl rfl ft_10_2 sb_10_2 hM0 dX11_fault_5 (fun a105 ea105 la105 ua105 => ?_)
    exact hret _ _ _ _ dX11_fault_8 ⟨a105, rfl, rfl, by exact ⟨la105, ⟨ua105, (by (clear hret C ha1 hM0; omega))⟩⟩⟩
set_option maxHeartbeats 4000000 in
theorem s1_X11_isKind {l : Launch} {dC : Nat → ClassId} {dI : Nat → Nat → Nat} {ad : Nat → Nat} {cA : Nat → ClassId} {pr : Nat → Nat → Bool} {Kz : mm_M} {M0 : mm_M} (hM0 : INV pr Kz M0) (a1 : Int) (ha1 : -2147483648 ≤ a1 ∧ a1 ≤ 2147483647) : Ci l 0 yX11_isKind wsX11_isKind dC dI ad cA [.ref (ad 0), .int (sI a1)] M0 (fun r M' => ∃ a : Int, r = sI a ∧ M0 = M' ∧ 0 ≤ a ∧ a ≤ 1 ∧ ((a1 < 0 ∧ a = 0) ∨ (0 ≤ (M0.1 12 0).toInt ∧ (M0.1 12 0).toInt ≤ 8 ∧ 0 ≤ a1 ∧ (M0.1 12 0).toInt ≤ a1 ∧ a = 0) ∨ (1 ≤ (M0.1 12 0).toInt ∧ (M0.1 12 0).toInt ≤ 8 ∧ 0 ≤ a1 ∧ a1 < (M0.1 12 0).toInt ∧ a = 1))) := by
  refine ci_of (cc := cX11_isKind) (maxL := 2) (ty := .boolean) (lv := [(0, .ref (ad 0)), (1, .int (sI a1))]) (by decide) rfl (fun r M' hp => by obtain ⟨a, rfl, -, h⟩ := hp; rcases (show a = 0 ∨ a = 1 by omega) with rfl | rfl <;> rfl) (Nat.le_of_ble_eq_true rfl) rfl ?_
  intro p e s m args below meth c A Q C hret
  refine j_iload_n C 1 1 dX11_isKind_0 rfl rfl ?_
  refine y_if_lt C 19 dX11_isKind_1 (by decide) (by exact ⟨ha1.1, ha1.2⟩) (fun h101 => ?_) (fun h101 => ?_)
  · refine y_iconst C dX11_isKind_19 ?_
    exact hret _ _ _ _ dX11_isKind_20 ⟨0, rfl, rfl, by exact ⟨(by decide), ⟨(by decide), (by omega)⟩⟩⟩
  · refine j_iload_n C 1 1 dX11_isKind_4 rfl rfl ?_
    refine j_aload_n C 0 0 dX11_isKind_5 rfl rfl ?_
    refine y_getC C 10 12 fX11_isKind_36 rfl rfl ft_10_6 sm_10_6 rfl hM0 dX11_isKind_6 ?_
    refine y_getI C 8 _ _ fX11_isKind_160 rfl rfl ft_8_0 sb_8_0 hM0 dX11_isKind_9 (fun a102 ea102 la102 ua102 => ?_)
    refine y_icmp_ge C 19 dX11_isKind_12 (by decide) (by exact ⟨⟨ha1.1, ha1.2⟩, ⟨(by omega), (by omega)⟩⟩) (fun h104 => ?_) (fun h104 => ?_)
    · refine y_iconst C dX11_isKind_19 ?_
      exact hret _ _ _ _ dX11_isKind_20 ⟨0, rfl, rfl, by exact ⟨(by decide), ⟨(by decide), (by omega)⟩⟩⟩
    · refine y_iconst C dX11_isKind_15 ?_
      refine j_goto C 20 dX11_isKind_16 (by decide) ?_
      exact hret _ _ _ _ dX11_isKind_20 ⟨1, rfl, rfl, by exact ⟨(by decide), ⟨(by decide), (by omega)⟩⟩⟩
set_option maxHeartbeats 4000000 in
theorem s1_J6_bitCount_0f7a4 {l : Launch} {dC : Nat → ClassId} {dI : Nat → Nat → Nat} {ad : Nat → Nat} {cA : Nat → ClassId} {pr : Nat → Nat → Bool} {Kz : mm_M} {M0 : mm_M} (hM0 : INV pr Kz M0) (a0 : Int) (ha0 : -2147483648 ≤ a0 ∧ a0 ≤ 2147483647) : Ci l 0 yJ6_bitCount_0f7a4 wsJ6_bitCount_0f7a4 dC dI ad cA [.int (sI a0)] M0 (fun r M' => ∃ a : Int, r = sI a ∧ M0 = M' ∧ 0 ≤ a ∧ a ≤ 63 ∧ ((0 ≤ a ∧ a ≤ 63))) := by
  refine ci_of (cc := cJ6_bitCount_0f7a4) (maxL := 1) (ty := .int) (lv := [(0, .int (sI a0))]) (by decide) rfl (fun r M' hp => rfl) (Nat.le_of_ble_eq_true rfl) rfl ?_
  intro p e s m args below meth c A Q C hret
  refine j_iload_n C 0 0 dJ6_bitCount_0f7a4_0 rfl rfl ?_
  refine j_iload_n C 0 0 dJ6_bitCount_0f7a4_1 rfl rfl ?_
  refine y_iconst C dJ6_bitCount_0f7a4_2 ?_
  refine y_iushr0 C dJ6_bitCount_0f7a4_3 (fun a101 la101 ua101 => ?_)
  refine y_ldcw C 1431655765 dJ6_bitCount_0f7a4_4 kJ6_bitCount_0f7a4_265 rfl ?_
  refine y_iandR C dJ6_bitCount_0f7a4_7 (by exact ⟨(by decide), (by decide)⟩) (fun a102 la102 ua102 => ?_)
  refine y_isub0 C dJ6_bitCount_0f7a4_8 (fun a103 la103 ua103 => ?_)
  refine j_istore_n C 0 [(0, .int (sI a103))] dJ6_bitCount_0f7a4_9 rfl (by decide) rfl ?_
  refine j_iload_n C 0 0 dJ6_bitCount_0f7a4_10 rfl rfl ?_
  refine y_ldcw C 858993459 dJ6_bitCount_0f7a4_11 kJ6_bitCount_0f7a4_266 rfl ?_
  refine y_iandR C dJ6_bitCount_0f7a4_14 (by exact ⟨(by decide), (by decide)⟩) (fun a104 la104 ua104 => ?_)
  refine j_iload_n C 0 0 dJ6_bitCount_0f7a4_15 rfl rfl ?_
  refine y_iconst C dJ6_bitCount_0f7a4_16 ?_
  refine y_iushr0 C dJ6_bitCount_0f7a4_17 (fun a105 la105 ua105 => ?_)
  refine y_ldcw C 858993459 dJ6_bitCount_0f7a4_18 kJ6_bitCount_0f7a4_266 rfl ?_
  refine y_iandR C dJ6_bitCount_0f7a4_21 (by exact ⟨(by decide), (by decide)⟩) (fun a106 la106 ua106 => ?_)
  refine y_iadd C dJ6_bitCount_0f7a4_22 ?_
  refine j_istore_n C 0 [(0, .int (sI (a104 + a106)))] dJ6_bitCount_0f7a4_23 rfl (by decide) rfl ?_
  refine j_iload_n C 0 0 dJ6_bitCount_0f7a4_24 rfl rfl ?_
  refine j_iload_n C 0 0 dJ6_bitCount_0f7a4_25 rfl rfl ?_
  refine y_iconst C dJ6_bitCount_0f7a4_26 ?_
  refine y_iushr0 C dJ6_bitCount_0f7a4_27 (fun a107 la107 ua107 => ?_)
  refine y_iadd0 C dJ6_bitCount_0f7a4_28 (fun a108 la108 ua108 => ?_)
  refine y_ldcw C 252645135 dJ6_bitCount_0f7a4_29 kJ6_bitCount_0f7a4_267 rfl ?_
  refine y_iandR C dJ6_bitCount_0f7a4_32 (by exact ⟨(by decide), (by decide)⟩) (fun a109 la109 ua109 => ?_)
  refine j_istore_n C 0 [(0, .int (sI a109))] dJ6_bitCount_0f7a4_33 rfl (by decide) rfl ?_
  refine j_iload_n C 0 0 dJ6_bitCount_0f7a4_34 rfl rfl ?_
  refine j_iload_n C 0 0 dJ6_bitCount_0f7a4_35 rfl rfl ?_
  refine y_bipush C dJ6_bitCount_0f7a4_36 rfl ?_
  refine y_iushr0 C dJ6_bitCount_0f7a4_38 (fun a110 la110 ua110 => ?_)
  refine y_iadd0 C dJ6_bitCount_0f7a4_39 (fun a111 la111 ua111 => ?_)
  refine j_istore_n C 0 [(0, .int (sI a111))] dJ6_bitCount_0f7a4_40 rfl (by decide) rfl ?_
  refine j_iload_n C 0 0 dJ6_bitCount_0f7a4_41 rfl rfl ?_
  refine j_iload_n C 0 0 dJ6_bitCount_0f7a4_42 rfl rfl ?_
  refine y_bipush C dJ6_bitCount_0f7a4_43 rfl ?_
  refine y_iushr16 C dJ6_bitCount_0f7a4_45 (fun a112 la112 ua112 => ?_)
  refine y_iadd0 C dJ6_bitCount_0f7a4_46 (fun a113 la113 ua113 => ?_)
  refine j_istore_n C 0 [(0, .int (sI a113))] dJ6_bitCount_0f7a4_47 rfl (by decide) rfl ?_
  refine j_iload_n C 0 0 dJ6_bitCount_0f7a4_48 rfl rfl ?_
  refine y_bipush C dJ6_bitCount_0f7a4_49 rfl ?_
  refine y_iandR C dJ6_bitCount_0f7a4_51 (by exact ⟨(by decide), (by decide)⟩) (fun a114 la114 ua114 => ?_)
  exact hret _ _ _ _ dJ6_bitCount_0f7a4_52 ⟨a114, rfl, rfl, by exact ⟨la114, ⟨ua114, ⟨la114, ua114⟩⟩⟩⟩
set_option maxHeartbeats 4000000 in
theorem s1_X11_isBuyer {l : Launch} {dC : Nat → ClassId} {dI : Nat → Nat → Nat} {ad : Nat → Nat} {cA : Nat → ClassId} {pr : Nat → Nat → Bool} {Kz : mm_M} {M0 : mm_M} (hM0 : INV pr Kz M0) (a1 : Int) (ha1 : -2147483648 ≤ a1 ∧ a1 ≤ 2147483647) : Ci l 0 yX11_isBuyer wsX11_isBuyer dC dI ad cA [.ref (ad 0), .int (sI a1)] M0 (fun r M' => ∃ a : Int, r = sI a ∧ M0 = M' ∧ 0 ≤ a ∧ a ≤ 1 ∧ ((a1 < 0 ∧ a = 0) ∨ (0 ≤ a1 ∧ 0 ≤ a1 ∧ a = 0) ∨ (0 ≤ a1 ∧ a1 < 6 ∧ a = 1))) := by
  refine ci_of (cc := cX11_isBuyer) (maxL := 2) (ty := .boolean) (lv := [(0, .ref (ad 0)), (1, .int (sI a1))]) (by decide) rfl (fun r M' hp => by obtain ⟨a, rfl, -, h⟩ := hp; rcases (show a = 0 ∨ a = 1 by omega) with rfl | rfl <;> rfl) (Nat.le_of_ble_eq_true rfl) rfl ?_
  intro p e s m args below meth c A Q C hret
  refine j_iload_n C 1 1 dX11_isBuyer_0 rfl rfl ?_
  refine y_if_lt C 19 dX11_isBuyer_1 (by decide) (by exact ⟨ha1.1, ha1.2⟩) (fun h101 => ?_) (fun h101 => ?_)
  · refine y_iconst C dX11_isBuyer_19 ?_
    exact hret _ _ _ _ dX11_isBuyer_20 ⟨0, rfl, rfl, by exact ⟨(by decide), ⟨(by decide), (by omega)⟩⟩⟩
  · refine j_iload_n C 1 1 dX11_isBuyer_4 rfl rfl ?_
    refine j_aload_n C 0 0 dX11_isBuyer_5 rfl rfl ?_
    refine y_getM C 10 6 fX11_isBuyer_26 rfl rfl ft_10_4 sm_10_4 (by decide) hM0 dX11_isBuyer_6 (fun v102 ev102 cv102 => ?_)
    refine y_getI C 6 _ _ fX11_isBuyer_163 cv102 rfl ft_6_0 sb_6_0 hM0 dX11_isBuyer_9 (fun a103 ea103 la103 ua103 => ?_)
    refine y_icmp_ge C 19 dX11_isBuyer_12 (by decide) (by exact ⟨⟨ha1.1, ha1.2⟩, ⟨(by (clear cv102 ev102 hret C hM0; omega)), (by (clear cv102 ev102 hret C hM0; omega))⟩⟩) (fun h105 => ?_) (fun h105 => ?_)
    · refine y_iconst C dX11_isBuyer_19 ?_
      exact hret _ _ _ _ dX11_isBuyer_20 ⟨0, rfl, rfl, by exact ⟨(by decide), ⟨(by decide), (by (clear h105 ua103 la103 ea103 cv102 ev102 hret C hM0; omega))⟩⟩⟩
    · refine y_iconst C dX11_isBuyer_15 ?_
      refine j_goto C 20 dX11_isBuyer_16 (by decide) ?_
      exact hret _ _ _ _ dX11_isBuyer_20 ⟨1, rfl, rfl, by exact ⟨(by decide), ⟨(by decide), (by (clear cv102 ev102 hret C hM0; omega))⟩⟩⟩
set_option maxHeartbeats 4000000 in
theorem s1_X9_everyKind {l : Launch} {dC : Nat → ClassId} {dI : Nat → Nat → Nat} {ad : Nat → Nat} {cA : Nat → ClassId} {pr : Nat → Nat → Bool} {Kz : mm_M} {M0 : mm_M} (hM0 : INV pr Kz M0) {v0 : Nat} (cv0 : s_c v0 = 8) : Ci l 0 yX9_everyKind wsX9_everyKind dC dI ad cA [.ref (ad v0)] M0 (fun r M' => ∃ a : Int, r = sI a ∧ M0 = M' ∧ 0 ≤ a ∧ a ≤ 255 ∧ ((0 ≤ a ∧ a ≤ 255))) := by
  refine ci_of (cc := cX9_everyKind) (maxL := 1) (ty := .int) (lv := [(0, .ref (ad v0))]) (by decide) rfl (fun r M' hp => rfl) (Nat.le_of_ble_eq_true rfl) rfl ?_
  intro p e s m args below meth c A Q C hret
  refine y_iconst C dX9_everyKind_0 ?_
  refine j_aload_n C 0 0 dX9_everyKind_1 rfl rfl ?_
  refine y_getI C 8 _ _ fX9_everyKind_9 cv0 rfl ft_8_0 sb_8_0 hM0 dX9_everyKind_2 (fun a101 ea101 la101 ua101 => ?_)
  refine y_shl1 C 8 256 dX9_everyKind_5 rfl (by decide) (by exact ⟨la101, (by omega)⟩) (fun a103 la103 ua103 => ?_)
  refine y_iconst C dX9_everyKind_6 ?_
  refine y_isub C dX9_everyKind_7 ?_
  exact hret _ _ _ _ dX9_everyKind_8 ⟨(a103 - 1), rfl, rfl, by omega⟩
set_option maxHeartbeats 4000000 in
theorem s1_X9_isShut {l : Launch} {dC : Nat → ClassId} {dI : Nat → Nat → Nat} {ad : Nat → Nat} {cA : Nat → ClassId} {pr : Nat → Nat → Bool} {Kz : mm_M} {M0 : mm_M} (hM0 : INV pr Kz M0) {v0 : Nat} (cv0 : s_c v0 = 8) : Ci l 1 yX9_isShut wsX9_isShut dC dI ad cA [.ref (ad v0)] M0 (fun r M' => ∃ a : Int, r = sI a ∧ M0 = M' ∧ 0 ≤ a ∧ a ≤ 1 ∧ ((a = 0) ∨ (a = 1))) := by
  refine ci_of (cc := cX9_isShut) (maxL := 1) (ty := .boolean) (lv := [(0, .ref (ad v0))]) (by decide) rfl (fun r M' hp => by obtain ⟨a, rfl, -, h⟩ := hp; rcases (show a = 0 ∨ a = 1 by exact h.2.2) with rfl | rfl <;> rfl) (Nat.le_of_ble_eq_true rfl) rfl ?_
  intro p e s m args below meth c A Q C hret
  refine j_aload_n C 0 0 dX9_isShut_0 rfl rfl ?_
  refine j_callVi C (d := 0) (As := []) (st := []) v0 (s_lt cv0 rfl) (s_kc (c := 8) cv0 rfl) (by decide) rfl (s1_X9_everyKind hM0 cv0) gX9_isShut_X9_everyKind rfl hdX9_everyKind (by decide) (Nat.le_of_ble_eq_true rfl) dX9_isShut_1 rfl (fun r101 M102 h103 => ?_)
  obtain ⟨a105, rfl, rfl, h104⟩ := h103
  refine j_aload_n C 0 0 dX9_isShut_4 rfl rfl ?_
  refine y_getI C 8 _ _ fX9_isShut_25 cv0 rfl ft_8_4 sb_8_4 hM0 dX9_isShut_5 (fun a106 ea106 la106 ua106 => ?_)
  refine y_iconst C dX9_isShut_8 ?_
  refine y_not C dX9_isShut_9 ?_
  refine y_iandL C dX9_isShut_10 (by exact ⟨h104.1, (by omega)⟩) (fun a108 la108 ua108 => ?_)
  refine j_aload_n C 0 0 dX9_isShut_11 rfl rfl ?_
  refine y_getI C 8 _ _ fX9_isShut_22 cv0 rfl ft_8_3 sb_8_3 hM0 dX9_isShut_12 (fun a109 ea109 la109 ua109 => ?_)
  refine y_iconst C dX9_isShut_15 ?_
  refine y_not C dX9_isShut_16 ?_
  refine y_iandL C dX9_isShut_17 (by exact ⟨la108, (by omega)⟩) (fun a111 la111 ua111 => ?_)
  refine y_if_ne C 25 dX9_isShut_18 (by decide) (by (clear ua109 la109 ea109 ua106 la106 ea106 hret C cv0 hM0; omega)) (fun h112 => ?_) (fun h112 => ?_)
  · refine y_iconst C dX9_isShut_25 ?_
    exact hret _ _ _ _ dX9_isShut_26 ⟨0, rfl, rfl, by exact ⟨(by decide), ⟨(by decide), (by decide)⟩⟩⟩
  · refine y_iconst C dX9_isShut_21 ?_
    refine j_goto C 26 dX9_isShut_22 (by decide) ?_
    exact hret _ _ _ _ dX9_isShut_26 ⟨1, rfl, rfl, by exact ⟨(by decide), ⟨(by decide), (by decide)⟩⟩⟩
