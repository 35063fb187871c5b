set_option maxHeartbeats 4000000 in
theorem s1_X12_plain {l : Launch} {dC : Nat → ClassId} {dI : Nat → Nat → Nat} {ad : Nat → Nat} {cA : Nat → ClassId} {pr : Nat → Nat → Bool} {Kz : mm_M} {M0 : mm_M} (hM0 : INV pr Kz M0) (hpr : PM pr)  (hp0 : b01 (PI M0) = 1) : Cv l 0 yX12_plain wsX12_plain dC dI ad cA [.ref (ad 102)] M0 (fun M' => INV pr Kz M' ∧ FR [102] M0 M' ∧ (b01 (ZR M' 1181) = 1) ∧ (b01 (PI M') = 1)) := by
  refine cv_of (cc := cX12_plain) (maxL := 2) (lv := [(0, .ref (ad 102))]) (by decide) rfl (Nat.le_of_ble_eq_true rfl) rfl ?_
  intro p e s m args below meth c A Q C hret
  refine y_iconst C dX12_plain_0 ?_
  refine j_istore_n C 1 [(1, .int (sI 0)), (0, .ref (ad 102))] dX12_plain_1 rfl (by decide) rfl ?_
  have u101 := zr_0 M0
  have L110 : ∀ (n108 : Nat), ∀ (a111 : Int) (M112 : mm_M), (0 ≤ a111 ∧ a111 ≤ 1181 ∧ (b01 (ZR M112 a111) = 1) ∧ (b01 (PI M112) = 1) ∧ (1181 - a111) < (n108 : Int)) → INV pr Kz M112 → FR [102] M0 M112 → jj p l e (cn_R 0) s m args below meth c 0 0 Q 2 dC dI ad cA A M112 2 [(0, .ref (ad 102)), (1, .int (sI a111))] [] := by
    intro n108
    induction n108 with
    | zero =>
      intro a111 M112 h113 hM112 fM112
      exfalso; omega
    | succ n108 ih109 =>
      intro a111 M112 h113 hM112 fM112
      refine j_iload_n C 1 1 dX12_plain_2 rfl rfl ?_
      refine y_sipush C dX12_plain_3 rfl ?_
      refine y_icmp_ge C 19 dX12_plain_6 (by decide) (by omega) (fun h114 => ?_) (fun h114 => ?_)
      · obtain rfl : a111 = 1181 := by omega
        exact hret _ _ _ dX12_plain_19 ⟨hM112, (FR.rf.tr fM112 (by decide)), by omega⟩
      · refine j_aload_n C 0 0 dX12_plain_9 rfl rfl ?_
        refine j_iload_n C 1 1 dX12_plain_10 rfl rfl ?_
        refine y_iconst C dX12_plain_11 ?_
        refine y_iastR C 48 1181 rfl rfl rfl ak_48 an_48 rfl hM112 (PM.w hpr rfl rfl) dX12_plain_12 (by omega) (by omega) (b48_0 _) (fun M115 eM115 hM115 => ?_)
        have pM115 := pi_o eM115 (by decide) (by decide) (by omega)
        have u116 := zr_s (k := a111) eM115 (by omega) (by omega)
        refine y_iinc C 1 [(1, .int (sI (a111 + 1))), (0, .ref (ad 102))] dX12_plain_13 rfl (by decide) rfl ?_
        refine j_goto C 2 dX12_plain_16 (by decide) ?_
        refine j_lv [1, 0] rfl ?_; exact ih109 (a111 + 1) M115 (by omega) hM115 ((FR.rf.tr fM112 (by decide)).wI eM115 (by decide))
  refine j_lv [1, 0] rfl ?_; exact L110 2372 0 M0 (by omega) hM0 FR.rf
set_option maxHeartbeats 4000000 in
theorem s1_X12_see {l : Launch} {dC : Nat → ClassId} {dI : Nat → Nat → Nat} {ad : Nat → Nat} {cA : Nat → ClassId} {pr : Nat → Nat → Bool} {Kz : mm_M} {M0 : mm_M} (hM0 : INV pr Kz M0) (a1 : Int) (ha1 : -2147483648 ≤ a1 ∧ a1 ≤ 2147483647) (hp0 : 0 ≤ a1 ∧ a1 ≤ 900) : Ci l 0 yX12_see wsX12_see dC dI ad cA [.ref (ad 98), .int (sI a1)] M0 (fun r M' => ∃ a : Int, r = sI a ∧ M0 = M' ∧ (-1) ≤ a ∧ a ≤ 255 ∧ (a1 < (M0.1 98 8).toInt ∧ a = (M0.1 101 (a1).toNat).toInt ∨ ¬ a1 < (M0.1 98 8).toInt ∧ a = -1)) := by
  refine ci_of (cc := cX12_see) (maxL := 2) (ty := .int) (lv := [(0, .ref (ad 98)), (1, .int (sI a1))]) (by decide) rfl (fun r M' hp => rfl) (Nat.le_of_ble_eq_true rfl) rfl ?_
  intro p e s m args below meth c A Q C hret
  refine j_iload_n C 1 1 dX12_see_0 rfl rfl ?_
  refine j_aload_n C 0 0 dX12_see_1 rfl rfl ?_
  refine y_getI C 11 _ _ fX12_see_83 rfl rfl ft_11_8 sb_11_8 hM0 dX12_see_2 (fun a101 ea101 la101 ua101 => ?_)
  obtain rfl : a101 = (M0.1 98 8).toInt := ea101
  refine y_icmp_ge C 17 dX12_see_5 (by decide) (by omega) (fun h103 => ?_) (fun h103 => ?_)
  · refine y_iconst C dX12_see_17 ?_
    exact hret _ _ _ _ dX12_see_18 ⟨(-1), rfl, rfl, by omega⟩
  · refine j_aload_n C 0 0 dX12_see_8 rfl rfl ?_
    refine y_getC C 11 101 fX12_see_21 rfl rfl ft_11_3 sm_11_3 rfl hM0 dX12_see_9 ?_
    refine j_iload_n C 1 1 dX12_see_12 rfl rfl ?_
    refine y_iald C 47 900 _ _ rfl rfl rfl ak_47 an_47 rfl (sb_47 _) hM0 dX12_see_13 (by omega) (fun a104 ea104 la104 ua104 => ?_)
    obtain rfl : a104 = (M0.1 101 (a1).toNat).toInt := ea104
    refine j_goto C 18 dX12_see_14 (by decide) ?_
    exact hret _ _ _ _ dX12_see_18 ⟨(M0.1 101 (a1).toNat).toInt, rfl, rfl, by omega⟩
set_option maxHeartbeats 4000000 in
theorem s1_X12_isSmall {l : Launch} {dC : Nat → ClassId} {dI : Nat → Nat → Nat} {ad : Nat → Nat} {cA : Nat → ClassId} {pr : Nat → Nat → Bool} {Kz : mm_M} {M0 : mm_M} (hM0 : INV pr Kz M0) (a0 : Int) (ha0 : -2147483648 ≤ a0 ∧ a0 ≤ 2147483647) : Ci l 0 yX12_isSmall wsX12_isSmall dC dI ad cA [.int (sI a0)] M0 (fun r M' => ∃ a : Int, r = sI a ∧ M0 = M' ∧ 0 ≤ a ∧ a ≤ 1 ∧ ((a0 < 97 ∧ a = 0) ∨ (97 ≤ a0 ∧ 122 < a0 ∧ a = 0) ∨ (97 ≤ a0 ∧ a0 ≤ 122 ∧ a = 1))) := by
  refine ci_of (cc := cX12_isSmall) (maxL := 1) (ty := .boolean) (lv := [(0, .int (sI a0))]) (by decide) rfl (fun r M' hp => by obtain ⟨a, rfl, -, h⟩ := hp; rcases (show a = 0 ∨ a = 1 by omega) with rfl | rfl <;> rfl) (Nat.le_of_ble_eq_true rfl) rfl ?_
  intro p e s m args below meth c A Q C hret
  refine j_iload_n C 0 0 dX12_isSmall_0 rfl rfl ?_
  refine y_bipush C dX12_isSmall_1 rfl ?_
  refine y_icmp_lt C 16 dX12_isSmall_3 (by decide) (by omega) (fun h101 => ?_) (fun h101 => ?_)
  · refine y_iconst C dX12_isSmall_16 ?_
    exact hret _ _ _ _ dX12_isSmall_17 ⟨0, rfl, rfl, by omega⟩
  · refine j_iload_n C 0 0 dX12_isSmall_6 rfl rfl ?_
    refine y_bipush C dX12_isSmall_7 rfl ?_
    refine y_icmp_gt C 16 dX12_isSmall_9 (by decide) (by omega) (fun h102 => ?_) (fun h102 => ?_)
    · refine y_iconst C dX12_isSmall_16 ?_
      exact hret _ _ _ _ dX12_isSmall_17 ⟨0, rfl, rfl, by omega⟩
    · refine y_iconst C dX12_isSmall_12 ?_
      refine j_goto C 17 dX12_isSmall_13 (by decide) ?_
      exact hret _ _ _ _ dX12_isSmall_17 ⟨1, rfl, rfl, by omega⟩
set_option maxHeartbeats 4000000 in
theorem s1_X12_isDigit {l : Launch} {dC : Nat → ClassId} {dI : Nat → Nat → Nat} {ad : Nat → Nat} {cA : Nat → ClassId} {pr : Nat → Nat → Bool} {Kz : mm_M} {M0 : mm_M} (hM0 : INV pr Kz M0) (a0 : Int) (ha0 : -2147483648 ≤ a0 ∧ a0 ≤ 2147483647) : Ci l 0 yX12_isDigit wsX12_isDigit dC dI ad cA [.int (sI a0)] M0 (fun r M' => ∃ a : Int, r = sI a ∧ M0 = M' ∧ 0 ≤ a ∧ a ≤ 1 ∧ ((a0 < 48 ∧ a = 0) ∨ (48 ≤ a0 ∧ 57 < a0 ∧ a = 0) ∨ (48 ≤ a0 ∧ a0 ≤ 57 ∧ a = 1))) := by
  refine ci_of (cc := cX12_isDigit) (maxL := 1) (ty := .boolean) (lv := [(0, .int (sI a0))]) (by decide) rfl (fun r M' hp => by obtain ⟨a, rfl, -, h⟩ := hp; rcases (show a = 0 ∨ a = 1 by omega) with rfl | rfl <;> rfl) (Nat.le_of_ble_eq_true rfl) rfl ?_
  intro p e s m args below meth c A Q C hret
  refine j_iload_n C 0 0 dX12_isDigit_0 rfl rfl ?_
  refine y_bipush C dX12_isDigit_1 rfl ?_
  refine y_icmp_lt C 16 dX12_isDigit_3 (by decide) (by omega) (fun h101 => ?_) (fun h101 => ?_)
  · refine y_iconst C dX12_isDigit_16 ?_
    exact hret _ _ _ _ dX12_isDigit_17 ⟨0, rfl, rfl, by omega⟩
  · refine j_iload_n C 0 0 dX12_isDigit_6 rfl rfl ?_
    refine y_bipush C dX12_isDigit_7 rfl ?_
    refine y_icmp_gt C 16 dX12_isDigit_9 (by decide) (by omega) (fun h102 => ?_) (fun h102 => ?_)
    · refine y_iconst C dX12_isDigit_16 ?_
      exact hret _ _ _ _ dX12_isDigit_17 ⟨0, rfl, rfl, by omega⟩
    · refine y_iconst C dX12_isDigit_12 ?_
      refine j_goto C 17 dX12_isDigit_13 (by decide) ?_
      exact hret _ _ _ _ dX12_isDigit_17 ⟨1, rfl, rfl, by omega⟩
set_option maxHeartbeats 4000000 in
theorem s2_J0_coder_7d493 {l : Launch} {dC : Nat → ClassId} {dI : Nat → Nat → Nat} {ad : Nat → Nat} {cA : Nat → ClassId} {pr : Nat → Nat → Bool} {Kz : mm_M} {M0 : mm_M} (hM0 : INV pr Kz M0)  : Ci l 0 yJ0_coder_7d493 wsJ0_coder_7d493 dC dI ad cA [.ref (dI 1000 3)] M0 (fun r M' => ∃ a : Int, r = sI a ∧ M0 = M' ∧ 0 ≤ a ∧ a ≤ 0 ∧ ((a = 0))) := by
  refine ci_of (cc := cJ0_coder_7d493) (maxL := 1) (ty := .byte) (lv := [(0, .ref (dI 1000 3))]) (by decide) rfl (fun r M' hp => by obtain ⟨a, rfl, -, h⟩ := hp; exact nar_byte (by omega)) (Nat.le_of_ble_eq_true rfl) rfl ?_
  intro p e s m args below meth c A Q C hret
  refine j_getsC C fJ0_coder_7d493_38 dJ0_coder_7d493_0 ?_
  refine y_if_eq C 13 dJ0_coder_7d493_3 (by decide) (by omega) (fun h101 => ?_) (fun h101 => ?_)
  · exfalso; omega
  · refine j_aload_n C 0 0 dJ0_coder_7d493_6 rfl rfl ?_
    refine j_strC C (by decide) fJ0_coder_7d493_15 dJ0_coder_7d493_7 ?_
    refine j_goto C 14 dJ0_coder_7d493_10 (by decide) ?_
    exact hret _ _ _ _ dJ0_coder_7d493_14 ⟨0, rfl, rfl, by omega⟩
set_option maxHeartbeats 4000000 in
theorem s2_J0_length_8abf5 {l : Launch} {dC : Nat → ClassId} {dI : Nat → Nat → Nat} {ad : Nat → Nat} {cA : Nat → ClassId} {pr : Nat → Nat → Bool} {Kz : mm_M} {M0 : mm_M} (hM0 : INV pr Kz M0)  : Ci l 1 yJ0_length_8abf5 wsJ0_length_8abf5 dC dI ad cA [.ref (dI 1000 3)] M0 (fun r M' => ∃ a : Int, r = sI a ∧ M0 = M' ∧ 0 ≤ a ∧ a ≤ 12 ∧ ((0 ≤ a ∧ a ≤ 12))) := by
  refine ci_of (cc := cJ0_length_8abf5) (maxL := 1) (ty := .int) (lv := [(0, .ref (dI 1000 3))]) (by decide) rfl (fun r M' hp => rfl) (Nat.le_of_ble_eq_true rfl) rfl ?_
  intro p e s m args below meth c A Q C hret
  refine j_aload_n C 0 0 dJ0_length_8abf5_0 rfl rfl ?_
  refine j_strV C (by decide) fJ0_length_8abf5_9 dJ0_length_8abf5_1 ?_
  refine j_strL C 12 (by decide) rfl dJ0_length_8abf5_4 ?_
  refine j_aload_n C 0 0 dJ0_length_8abf5_5 rfl rfl ?_
  refine j_callSS C (d := 0) (As := []) (st := [.int (sI 12)]) 3 (by decide) (s2_J0_coder_7d493 hM0) gJ0_length_8abf5_J0_coder_7d493 rfl hdJ0_coder_7d493 (by decide) (Nat.le_of_ble_eq_true rfl) dJ0_length_8abf5_6 rfl (fun r101 M102 h103 => ?_)
  obtain ⟨a105, rfl, rfl, h104⟩ := h103
  refine e_ishrP C dJ0_length_8abf5_9 (by omega) (fun lb106 ub106 => ?_)
  exact hret _ _ _ _ dJ0_length_8abf5_10 ⟨(shrI 12 a105), rfl, rfl, by omega⟩
set_option maxHeartbeats 4000000 in
theorem s3_J0_isLatin1_aae02 {l : Launch} {dC : Nat → ClassId} {dI : Nat → Nat → Nat} {ad : Nat → Nat} {cA : Nat → ClassId} {pr : Nat → Nat → Bool} {Kz : mm_M} {M0 : mm_M} (hM0 : INV pr Kz M0)  : Ci l 0 yJ0_isLatin1_aae02 wsJ0_isLatin1_aae02 dC dI ad cA [.ref (dI 1000 3)] M0 (fun r M' => ∃ a : Int, r = sI a ∧ M0 = M' ∧ 1 ≤ a ∧ a ≤ 1 ∧ ((a = 1))) := by
  refine ci_of (cc := cJ0_isLatin1_aae02) (maxL := 1) (ty := .boolean) (lv := [(0, .ref (dI 1000 3))]) (by decide) rfl (fun r M' hp => by obtain ⟨a, rfl, -, h⟩ := hp; rcases (show a = 0 ∨ a = 1 by omega) with rfl | rfl <;> rfl) (Nat.le_of_ble_eq_true rfl) rfl ?_
  intro p e s m args below meth c A Q C hret
  refine j_getsC C fJ0_isLatin1_aae02_38 dJ0_isLatin1_aae02_0 ?_
  refine y_if_eq C 17 dJ0_isLatin1_aae02_3 (by decide) (by omega) (fun h101 => ?_) (fun h101 => ?_)
  · exfalso; omega
  · refine j_aload_n C 0 0 dJ0_isLatin1_aae02_6 rfl rfl ?_
    refine j_strC C (by decide) fJ0_isLatin1_aae02_15 dJ0_isLatin1_aae02_7 ?_
    refine y_if_ne C 17 dJ0_isLatin1_aae02_10 (by decide) (by omega) (fun h102 => ?_) (fun h102 => ?_)
    · exfalso; omega
    · refine y_iconst C dJ0_isLatin1_aae02_13 ?_
      refine j_goto C 18 dJ0_isLatin1_aae02_14 (by decide) ?_
      exact hret _ _ _ _ dJ0_isLatin1_aae02_18 ⟨1, rfl, rfl, by omega⟩
set_option maxHeartbeats 4000000 in
theorem s3_J3_checkIndex_8e157 {l : Launch} {dC : Nat → ClassId} {dI : Nat → Nat → Nat} {ad : Nat → Nat} {cA : Nat → ClassId} {pr : Nat → Nat → Bool} {Kz : mm_M} {M0 : mm_M} (hM0 : INV pr Kz M0) (a0 : Int) (ha0 : -2147483648 ≤ a0 ∧ a0 ≤ 2147483647) (a1 : Int) (ha1 : -2147483648 ≤ a1 ∧ a1 ≤ 2147483647) (hp0 : a0 < a1) (hp1 : 0 ≤ a0 ∧ a0 ≤ 2147483647) : Ci l 0 yJ3_checkIndex_8e157 wsJ3_checkIndex_8e157 dC dI ad cA [.int (sI a0), .int (sI a1), .null] M0 (fun r M' => ∃ a : Int, r = sI a ∧ M0 = M' ∧ 0 ≤ a ∧ a ≤ 2147483646 ∧ ((a0 < a1 ∧ 0 ≤ a0 ∧ a0 < a1 ∧ a = a0))) := by
  refine ci_of (cc := cJ3_checkIndex_8e157) (maxL := 3) (ty := .int) (lv := [(0, .int (sI a0)), (1, .int (sI a1)), (2, .null)]) (by decide) rfl (fun r M' hp => rfl) (Nat.le_of_ble_eq_true rfl) rfl ?_
  intro p e s m args below meth c A Q C hret
  refine j_iload_n C 0 0 dJ3_checkIndex_8e157_0 rfl rfl ?_
  refine y_if_lt C 9 dJ3_checkIndex_8e157_1 (by decide) (by omega) (fun h101 => ?_) (fun h101 => ?_)
  · exfalso; omega
  · refine j_iload_n C 0 0 dJ3_checkIndex_8e157_4 rfl rfl ?_
    refine j_iload_n C 1 1 dJ3_checkIndex_8e157_5 rfl rfl ?_
    refine y_icmp_lt C 16 dJ3_checkIndex_8e157_6 (by decide) (by omega) (fun h102 => ?_) (fun h102 => ?_)
    · refine j_iload_n C 0 0 dJ3_checkIndex_8e157_16 rfl rfl ?_
      exact hret _ _ _ _ dJ3_checkIndex_8e157_17 ⟨a0, rfl, rfl, by omega⟩
    · exfalso; omega
set_option maxHeartbeats 4000000 in
theorem s4_J3_checkIndex_8e157 {l : Launch} {dC : Nat → ClassId} {dI : Nat → Nat → Nat} {ad : Nat → Nat} {cA : Nat → ClassId} {pr : Nat → Nat → Bool} {Kz : mm_M} {M0 : mm_M} (hM0 : INV pr Kz M0) (a0 : Int) (ha0 : -2147483648 ≤ a0 ∧ a0 ≤ 2147483647) (a1 : Int) (ha1 : -2147483648 ≤ a1 ∧ a1 ≤ 2147483647) (t2 : Nat) (hp0 : a0 < a1) (hp1 : 0 ≤ a0 ∧ a0 ≤ 2147483647) : Ci l 0 yJ3_checkIndex_8e157 wsJ3_checkIndex_8e157 dC dI ad cA [.int (sI a0), .int (sI a1), .ref t2] M0 (fun r M' => ∃ a : Int, r = sI a ∧ M0 = M' ∧ 0 ≤ a ∧ a ≤ 2147483646 ∧ ((a0 < a1 ∧ 0 ≤ a0 ∧ a0 < a1 ∧ a = a0))) := by
  refine ci_of (cc := cJ3_checkIndex_8e157) (maxL := 3) (ty := .int) (lv := [(0, .int (sI a0)), (1, .int (sI a1)), (2, .ref t2)]) (by decide) rfl (fun r M' hp => rfl) (Nat.le_of_ble_eq_true rfl) rfl ?_
  intro p e s m args below meth c A Q C hret
  refine j_iload_n C 0 0 dJ3_checkIndex_8e157_0 rfl rfl ?_
  refine y_if_lt C 9 dJ3_checkIndex_8e157_1 (by decide) (by omega) (fun h101 => ?_) (fun h101 => ?_)
  · exfalso; omega
  · refine j_iload_n C 0 0 dJ3_checkIndex_8e157_4 rfl rfl ?_
    refine j_iload_n C 1 1 dJ3_checkIndex_8e157_5 rfl rfl ?_
    refine y_icmp_lt C 16 dJ3_checkIndex_8e157_6 (by decide) (by omega) (fun h102 => ?_) (fun h102 => ?_)
    · refine j_iload_n C 0 0 dJ3_checkIndex_8e157_16 rfl rfl ?_
      exact hret _ _ _ _ dJ3_checkIndex_8e157_17 ⟨a0, rfl, rfl, by omega⟩
    · exfalso; omega
set_option maxHeartbeats 4000000 in
theorem s2_J0_checkIndex_df160 {l : Launch} {dC : Nat → ClassId} {dI : Nat → Nat → Nat} {ad : Nat → Nat} {cA : Nat → ClassId} {pr : Nat → Nat → Bool} {Kz : mm_M} {M0 : mm_M} (hM0 : INV pr Kz M0) (a0 : Int) (ha0 : -2147483648 ≤ a0 ∧ a0 ≤ 2147483647) (a1 : Int) (ha1 : -2147483648 ≤ a1 ∧ a1 ≤ 2147483647) (hp0 : a0 < a1) (hp1 : 0 ≤ a0 ∧ a0 ≤ 2147483647) : Cv l 1 yJ0_checkIndex_df160 wsJ0_checkIndex_df160 dC dI ad cA [.int (sI a0), .int (sI a1)] M0 (fun M' => M0 = M') := by
  refine cv_of (cc := cJ0_checkIndex_df160) (maxL := 2) (lv := [(0, .int (sI a0)), (1, .int (sI a1))]) (by decide) rfl (Nat.le_of_ble_eq_true rfl) rfl ?_
  intro p e s m args below meth c A Q C hret
  refine j_iload_n C 0 0 dJ0_checkIndex_df160_0 rfl rfl ?_
  refine j_iload_n C 1 1 dJ0_checkIndex_df160_1 rfl rfl ?_
  refine j_getsF C fJ0_checkIndex_df160_1053 dJ0_checkIndex_df160_2 ?_ (fun t101 => ?_)
  · refine j_callSi C (d := 0) (As := [.int (sI a0), .int (sI a1), .null]) (st := []) (s3_J3_checkIndex_8e157 hM0 a0 (by omega) a1 (by omega) (by omega) (by omega)) gJ0_checkIndex_df160_J3_checkIndex_8e157 rfl hdJ3_checkIndex_8e157s (by decide) (Nat.le_of_ble_eq_true rfl) dJ0_checkIndex_df160_5 rfl (fun r102 M103 h104 => ?_)
    obtain ⟨a106, rfl, rfl, h105⟩ := h104
    refine j_pop C dJ0_checkIndex_df160_8 rfl ?_
    exact hret _ _ _ dJ0_checkIndex_df160_9 rfl
  · refine j_callSi C (d := 0) (As := [.int (sI a0), .int (sI a1), .ref t101]) (st := []) (s4_J3_checkIndex_8e157 hM0 a0 (by omega) a1 (by omega) t101 (by omega) (by omega)) gJ0_checkIndex_df160_J3_checkIndex_8e157 rfl hdJ3_checkIndex_8e157s (by decide) (Nat.le_of_ble_eq_true rfl) dJ0_checkIndex_df160_5 rfl (fun r107 M108 h109 => ?_)
    obtain ⟨a111, rfl, rfl, h110⟩ := h109
    refine j_pop C dJ0_checkIndex_df160_8 rfl ?_
    exact hret _ _ _ dJ0_checkIndex_df160_9 rfl
set_option maxHeartbeats 4000000 in
theorem s2_J0_charAt_5068e {l : Launch} {dC : Nat → ClassId} {dI : Nat → Nat → Nat} {ad : Nat → Nat} {cA : Nat → ClassId} {pr : Nat → Nat → Bool} {Kz : mm_M} {M0 : mm_M} (hM0 : INV pr Kz M0) (a1 : Int) (ha1 : -2147483648 ≤ a1 ∧ a1 ≤ 2147483647) (hp0 : 0 ≤ a1 ∧ a1 ≤ 11) : Ci l 3 yJ0_charAt_5068e wsJ0_charAt_5068e dC dI ad cA [.ref (dI 1000 3), .int (sI a1)] M0 (fun r M' => ∃ a : Int, r = sI a ∧ M0 = M' ∧ 0 ≤ a ∧ a ≤ 127 ∧ (a = ((js_byt 3).getD (a1).toNat 0).toInt)) := by
  refine ci_of (cc := cJ0_charAt_5068e) (maxL := 2) (ty := .char) (lv := [(0, .ref (dI 1000 3)), (1, .int (sI a1))]) (by decide) rfl (fun r M' hp => by obtain ⟨a, rfl, -, h⟩ := hp; exact nar_char (by omega)) (Nat.le_of_ble_eq_true rfl) rfl ?_
  intro p e s m args below meth c A Q C hret
  refine j_aload_n C 0 0 dJ0_charAt_5068e_0 rfl rfl ?_
  refine j_callSS C (d := 0) (As := []) (st := []) 3 (by decide) (s3_J0_isLatin1_aae02 hM0) gJ0_charAt_5068e_J0_isLatin1_aae02 rfl hdJ0_isLatin1_aae02 (by decide) (Nat.le_of_ble_eq_true rfl) dJ0_charAt_5068e_1 rfl (fun r101 M102 h103 => ?_)
  obtain ⟨a105, rfl, rfl, h104⟩ := h103
  refine y_if_eq C 16 dJ0_charAt_5068e_4 (by decide) (by omega) (fun h106 => ?_) (fun h106 => ?_)
  · exfalso; omega
  · refine j_aload_n C 0 0 dJ0_charAt_5068e_7 rfl rfl ?_
    refine j_strV C (by decide) fJ0_charAt_5068e_9 dJ0_charAt_5068e_8 ?_
    refine j_iload_n C 1 1 dJ0_charAt_5068e_11 rfl rfl ?_
    refine j_callSi C (d := 2) (As := [.ref (dI 1001 3), .int (sI a1)]) (st := []) (h_J1_charAt_3 (fun a b h => s1_J0_checkIndex_df160 hM0 a (by omega) b (by omega) (by omega) (by omega)) a1 (by omega)) gJ0_charAt_5068e_J1_charAt_3b067 rfl hdJ1_charAt_3b067s (by decide) (Nat.le_of_ble_eq_true rfl) dJ0_charAt_5068e_12 rfl (fun r107 M108 h109 => ?_)
    obtain ⟨a111, rfl, rfl, h110⟩ := h109
    exact hret _ _ _ _ dJ0_charAt_5068e_15 ⟨a111, rfl, rfl, by omega⟩
set_option maxHeartbeats 4000000 in
theorem s3_J0_coder_7d493 {l : Launch} {dC : Nat → ClassId} {dI : Nat → Nat → Nat} {ad : Nat → Nat} {cA : Nat → ClassId} {pr : Nat → Nat → Bool} {Kz : mm_M} {M0 : mm_M} (hM0 : INV pr Kz M0)  : Ci l 0 yJ0_coder_7d493 wsJ0_coder_7d493 dC dI ad cA [.ref (dI 1000 2)] M0 (fun r M' => ∃ a : Int, r = sI a ∧ M0 = M' ∧ 0 ≤ a ∧ a ≤ 0 ∧ ((a = 0))) := by
  refine ci_of (cc := cJ0_coder_7d493) (maxL := 1) (ty := .byte) (lv := [(0, .ref (dI 1000 2))]) (by decide) rfl (fun r M' hp => by obtain ⟨a, rfl, -, h⟩ := hp; exact nar_byte (by omega)) (Nat.le_of_ble_eq_true rfl) rfl ?_
  intro p e s m args below meth c A Q C hret
  refine j_getsC C fJ0_coder_7d493_38 dJ0_coder_7d493_0 ?_
  refine y_if_eq C 13 dJ0_coder_7d493_3 (by decide) (by omega) (fun h101 => ?_) (fun h101 => ?_)
  · exfalso; omega
  · refine j_aload_n C 0 0 dJ0_coder_7d493_6 rfl rfl ?_
    refine j_strC C (by decide) fJ0_coder_7d493_15 dJ0_coder_7d493_7 ?_
    refine j_goto C 14 dJ0_coder_7d493_10 (by decide) ?_
    exact hret _ _ _ _ dJ0_coder_7d493_14 ⟨0, rfl, rfl, by omega⟩
set_option maxHeartbeats 4000000 in
theorem s3_J0_length_8abf5 {l : Launch} {dC : Nat → ClassId} {dI : Nat → Nat → Nat} {ad : Nat → Nat} {cA : Nat → ClassId} {pr : Nat → Nat → Bool} {Kz : mm_M} {M0 : mm_M} (hM0 : INV pr Kz M0)  : Ci l 1 yJ0_length_8abf5 wsJ0_length_8abf5 dC dI ad cA [.ref (dI 1000 2)] M0 (fun r M' => ∃ a : Int, r = sI a ∧ M0 = M' ∧ 0 ≤ a ∧ a ≤ 88 ∧ ((0 ≤ a ∧ a ≤ 88))) := by
  refine ci_of (cc := cJ0_length_8abf5) (maxL := 1) (ty := .int) (lv := [(0, .ref (dI 1000 2))]) (by decide) rfl (fun r M' hp => rfl) (Nat.le_of_ble_eq_true rfl) rfl ?_
  intro p e s m args below meth c A Q C hret
  refine j_aload_n C 0 0 dJ0_length_8abf5_0 rfl rfl ?_
  refine j_strV C (by decide) fJ0_length_8abf5_9 dJ0_length_8abf5_1 ?_
  refine j_strL C 88 (by decide) rfl dJ0_length_8abf5_4 ?_
  refine j_aload_n C 0 0 dJ0_length_8abf5_5 rfl rfl ?_
  refine j_callSS C (d := 0) (As := []) (st := [.int (sI 88)]) 2 (by decide) (s3_J0_coder_7d493 hM0) gJ0_length_8abf5_J0_coder_7d493 rfl hdJ0_coder_7d493 (by decide) (Nat.le_of_ble_eq_true rfl) dJ0_length_8abf5_6 rfl (fun r101 M102 h103 => ?_)
  obtain ⟨a105, rfl, rfl, h104⟩ := h103
  refine e_ishrP C dJ0_length_8abf5_9 (by omega) (fun lb106 ub106 => ?_)
  exact hret _ _ _ _ dJ0_length_8abf5_10 ⟨(shrI 88 a105), rfl, rfl, by omega⟩
set_option maxHeartbeats 4000000 in
theorem s4_J0_isLatin1_aae02 {l : Launch} {dC : Nat → ClassId} {dI : Nat → Nat → Nat} {ad : Nat → Nat} {cA : Nat → ClassId} {pr : Nat → Nat → Bool} {Kz : mm_M} {M0 : mm_M} (hM0 : INV pr Kz M0)  : Ci l 0 yJ0_isLatin1_aae02 wsJ0_isLatin1_aae02 dC dI ad cA [.ref (dI 1000 2)] M0 (fun r M' => ∃ a : Int, r = sI a ∧ M0 = M' ∧ 1 ≤ a ∧ a ≤ 1 ∧ ((a = 1))) := by
  refine ci_of (cc := cJ0_isLatin1_aae02) (maxL := 1) (ty := .boolean) (lv := [(0, .ref (dI 1000 2))]) (by decide) rfl (fun r M' hp => by obtain ⟨a, rfl, -, h⟩ := hp; rcases (show a = 0 ∨ a = 1 by omega) with rfl | rfl <;> rfl) (Nat.le_of_ble_eq_true rfl) rfl ?_
  intro p e s m args below meth c A Q C hret
  refine j_getsC C fJ0_isLatin1_aae02_38 dJ0_isLatin1_aae02_0 ?_
  refine y_if_eq C 17 dJ0_isLatin1_aae02_3 (by decide) (by omega) (fun h101 => ?_) (fun h101 => ?_)
  · exfalso; omega
  · refine j_aload_n C 0 0 dJ0_isLatin1_aae02_6 rfl rfl ?_
    refine j_strC C (by decide) fJ0_isLatin1_aae02_15 dJ0_isLatin1_aae02_7 ?_
    refine y_if_ne C 17 dJ0_isLatin1_aae02_10 (by decide) (by omega) (fun h102 => ?_) (fun h102 => ?_)
    · exfalso; omega
    · refine y_iconst C dJ0_isLatin1_aae02_13 ?_
      refine j_goto C 18 dJ0_isLatin1_aae02_14 (by decide) ?_
      exact hret _ _ _ _ dJ0_isLatin1_aae02_18 ⟨1, rfl, rfl, by omega⟩
set_option maxHeartbeats 4000000 in
theorem s3_J0_charAt_5068e {l : Launch} {dC : Nat → ClassId} {dI : Nat → Nat → Nat} {ad : Nat → Nat} {cA : Nat → ClassId} {pr : Nat → Nat → Bool} {Kz : mm_M} {M0 : mm_M} (hM0 : INV pr Kz M0) (a1 : Int) (ha1 : -2147483648 ≤ a1 ∧ a1 ≤ 2147483647) (hp0 : 0 ≤ a1 ∧ a1 ≤ 87) : Ci l 3 yJ0_charAt_5068e wsJ0_charAt_5068e dC dI ad cA [.ref (dI 1000 2), .int (sI a1)] M0 (fun r M' => ∃ a : Int, r = sI a ∧ M0 = M' ∧ 0 ≤ a ∧ a ≤ 127 ∧ (a = 32 ∨ a1 + 1 < 88) ∧ (a = ((js_byt 2).getD (a1).toNat 0).toInt)) := by
  refine ci_of (cc := cJ0_charAt_5068e) (maxL := 2) (ty := .char) (lv := [(0, .ref (dI 1000 2)), (1, .int (sI a1))]) (by decide) rfl (fun r M' hp => by obtain ⟨a, rfl, -, h⟩ := hp; exact nar_char (by omega)) (Nat.le_of_ble_eq_true rfl) rfl ?_
  intro p e s m args below meth c A Q C hret
  refine j_aload_n C 0 0 dJ0_charAt_5068e_0 rfl rfl ?_
  refine j_callSS C (d := 0) (As := []) (st := []) 2 (by decide) (s4_J0_isLatin1_aae02 hM0) gJ0_charAt_5068e_J0_isLatin1_aae02 rfl hdJ0_isLatin1_aae02 (by decide) (Nat.le_of_ble_eq_true rfl) dJ0_charAt_5068e_1 rfl (fun r101 M102 h103 => ?_)
  obtain ⟨a105, rfl, rfl, h104⟩ := h103
  refine y_if_eq C 16 dJ0_charAt_5068e_4 (by decide) (by omega) (fun h106 => ?_) (fun h106 => ?_)
  · exfalso; omega
  · refine j_aload_n C 0 0 dJ0_charAt_5068e_7 rfl rfl ?_
    refine j_strV C (by decide) fJ0_charAt_5068e_9 dJ0_charAt_5068e_8 ?_
    refine j_iload_n C 1 1 dJ0_charAt_5068e_11 rfl rfl ?_
    refine j_callSi C (d := 2) (As := [.ref (dI 1001 2), .int (sI a1)]) (st := []) (h_J1_charAt_2 (fun a b h => s1_J0_checkIndex_df160 hM0 a (by omega) b (by omega) (by omega) (by omega)) a1 (by omega)) gJ0_charAt_5068e_J1_charAt_3b067 rfl hdJ1_charAt_3b067s (by decide) (Nat.le_of_ble_eq_true rfl) dJ0_charAt_5068e_12 rfl (fun r107 M108 h109 => ?_)
    obtain ⟨a111, rfl, rfl, h110⟩ := h109
    exact hret _ _ _ _ dJ0_charAt_5068e_15 ⟨a111, rfl, rfl, by omega⟩
set_option maxHeartbeats 4000000 in
theorem s1_X12_keyAt {l : Launch} {dC : Nat → ClassId} {dI : Nat → Nat → Nat} {ad : Nat → Nat} {cA : Nat → ClassId} {pr : Nat → Nat → Bool} {Kz : mm_M} {M0 : mm_M} (hM0 : INV pr Kz M0) (gf : Nat → Int) (gn : Int) (hp0 : b01 (TPM gf gn M0) = 1) (hp1 : 0 ≤ (M0.1 98 6).toInt ∧ (M0.1 98 6).toInt < (M0.1 98 7).toInt) (hp2 : (M0.1 98 7).toInt ≤ gn) : Ci l 4 yX12_keyAt wsX12_keyAt dC dI ad cA [.ref (ad 98)] M0 (fun r M' => ∃ a : Int, r = sI a ∧ M0 = M' ∧ 0 ≤ a ∧ a ≤ 88 ∧ (a = kdF (twF gf (M0.1 98 6).toInt ((M0.1 98 7).toInt - (M0.1 98 6).toInt)))) := by
  refine ci_of (cc := cX12_keyAt) (maxL := 4) (ty := .int) (lv := [(0, .ref (ad 98))]) (by decide) rfl (fun r M' hp => rfl) (Nat.le_of_ble_eq_true rfl) rfl ?_
  intro p e s m args below meth c A Q C hret
  refine y_iconst C dX12_keyAt_0 ?_
  refine j_istore_n C 1 [(1, .int (sI 0)), (0, .ref (ad 98))] dX12_keyAt_1 rfl (by decide) rfl ?_
  refine y_iconst C dX12_keyAt_2 ?_
  refine j_istore_n C 2 [(2, .int (sI 1)), (1, .int (sI 0)), (0, .ref (ad 98))] dX12_keyAt_3 rfl (by decide) rfl ?_
  have u101z := nk_0 gf (M0.1 98 6).toInt ((M0.1 98 7).toInt - (M0.1 98 6).toInt)
  have u101k : ((koF (0 : Int).toNat : Nat) : Int) = 1 := by decide
  have L230 : ∀ (n228 : Nat), ∀ (a231 : Int) (a232 : Int), (0 ≤ a231 ∧ a231 ≤ 88 ∧ 1 ≤ a232 ∧ a232 ≤ 88 ∧ (a231 < a232) ∧ (a232 = (koF (a231).toNat : Int)) ∧ (b01 (NOK gf (M0.1 98 6).toInt ((M0.1 98 7).toInt - (M0.1 98 6).toInt) a231) = 1) ∧ (a231 ≤ 17) ∧ (88 - a232) < (n228 : Int)) → jj p l e (cn_R 4) s m args below meth c 0 0 Q 4 dC dI ad cA A M0 4 [(0, .ref (ad 98)), (1, .int (sI a231)), (2, .int (sI a232))] [] := by
    intro n228
    induction n228 with
    | zero =>
      intro a231 a232 h233
      exfalso; omega
    | succ n228 ih229 =>
      intro a231 a232 h233
      have u234o := ko_o a231
      refine j_iload_n C 2 2 dX12_keyAt_4 rfl rfl ?_
      refine j_ldcS C 2 (by decide) rfl rfl dX12_keyAt_5 ?_
      refine j_callSS C (d := 1) (As := []) (st := [.int (sI a232)]) 2 (by decide) (s3_J0_length_8abf5 hM0) gX12_keyAt_J0_length_8abf5 rfl hdJ0_length_8abf5 (by decide) (Nat.le_of_ble_eq_true rfl) dX12_keyAt_7 rfl (fun r235 M236 h237 => ?_)
      obtain ⟨a239, rfl, rfl, h238⟩ := h237
      refine y_icmp_ge C 123 dX12_keyAt_10 (by decide) (by omega) (fun h240 => ?_) (fun h240 => ?_)
      · have u241o := ko_o a231
        obtain rfl : a231 = 17 := by omega
        have u241e := nk_e (f := gf) (i := (M0.1 98 6).toInt) (m := (M0.1 98 7).toInt - (M0.1 98 6).toInt) (by omega)
        refine y_bipush C dX12_keyAt_123 rfl ?_
        exact hret _ _ _ _ dX12_keyAt_125 ⟨22, rfl, rfl, by omega⟩
      · refine y_iconst C dX12_keyAt_13 ?_
        refine j_istore_n C 3 [(3, .int (sI 0)), (0, .ref (ad 98)), (1, .int (sI a231)), (2, .int (sI a232))] dX12_keyAt_14 rfl (by decide) rfl ?_
        have u242z := sk_0 gf (M0.1 98 6).toInt (a231).toNat
        have X296 : ∀ (a295 : Int), (0 ≤ a295 ∧ a295 ≤ 87 ∧ (a232 + a295 ≤ 87) ∧ (b01 (SMK gf (M0.1 98 6).toInt (a231).toNat a295) = 1) ∧ ((M0.1 98 6).toInt + a295 ≤ (M0.1 98 7).toInt) ∧ (((js_byt 2).getD (a232 + a295).toNat 0).toInt = 32 ∨ ¬ ((js_byt 2).getD (a232 + a295).toNat 0).toInt = 32 ∧ ((M0.1 98 7).toInt ≤ (M0.1 98 6).toInt + a295 ∨ ¬ gf ((M0.1 98 6).toInt + a295).toNat = ((js_byt 2).getD (a232 + a295).toNat 0).toInt))) → jj p l e (cn_R 4) s m args below meth c 0 0 Q 4 dC dI ad cA A M0 69 [(0, .ref (ad 98)), (1, .int (sI a231)), (2, .int (sI a232)), (3, .int (sI a295))] [] := by
          intro a295 h297
          refine j_ldcS C 2 (by decide) rfl rfl dX12_keyAt_69 ?_
          refine j_iload_n C 2 2 dX12_keyAt_71 rfl rfl ?_
          refine j_iload_n C 3 3 dX12_keyAt_72 rfl rfl ?_
          refine y_iadd C dX12_keyAt_73 ?_
          refine j_callSS C (d := 3) (As := [.int (sI (a232 + a295))]) (st := []) 2 (by decide) (s3_J0_charAt_5068e hM0 (a232 + a295) (by omega) (by omega)) gX12_keyAt_J0_charAt_5068e rfl hdJ0_charAt_5068e (by decide) (Nat.le_of_ble_eq_true rfl) dX12_keyAt_74 rfl (fun r298 M299 h300 => ?_)
          obtain ⟨a302, rfl, rfl, h301⟩ := h300
          refine y_bipush C dX12_keyAt_77 rfl ?_
          refine y_icmp_ne C 97 dX12_keyAt_79 (by decide) (by omega) (fun h303 => ?_) (fun h303 => ?_)
          · have u304n := nk_s (f := gf) (i := (M0.1 98 6).toInt) (m := (M0.1 98 7).toInt - (M0.1 98 6).toInt) (n := a231) (by omega) (by omega) (kq_n (f := gf) (i := (M0.1 98 6).toInt) (n := a231) (m := a295) (k := a232) (b := (M0.1 98 7).toInt) (by omega) (by omega) (by omega) (by omega) (by omega))
            have L316 : ∀ (n314 : Nat), ∀ (a317 : Int), (1 ≤ a317 ∧ a317 ≤ 87 ∧ (a231 < a317) ∧ (a232 ≤ a317) ∧ (b01 (NOK gf (M0.1 98 6).toInt ((M0.1 98 7).toInt - (M0.1 98 6).toInt) (a231 + 1)) = 1) ∧ ((koF (a231).toNat : Int) ≤ a317) ∧ (a317 ≤ keN (a231).toNat) ∧ (88 - a317) < (n314 : Int)) → jj p l e (cn_R 4) s m args below meth c 0 0 Q 4 dC dI ad cA A M0 97 [(0, .ref (ad 98)), (1, .int (sI a231)), (2, .int (sI a317))] [] := by
              intro n314
              induction n314 with
              | zero =>
                intro a317 h318
                exfalso; omega
              | succ n314 ih315 =>
                intro a317 h318
                have u319e := ke_o a231 a317 (by omega)
                have u319o := ko_o a231
                have u319O := ko_o (a231 + 1)
                refine j_ldcS C 2 (by decide) rfl rfl dX12_keyAt_97 ?_
                refine j_iload_n C 2 2 dX12_keyAt_99 rfl rfl ?_
                refine j_callSS C (d := 3) (As := [.int (sI a317)]) (st := []) 2 (by decide) (s3_J0_charAt_5068e hM0 a317 (by omega) (by omega)) gX12_keyAt_J0_charAt_5068e rfl hdJ0_charAt_5068e (by decide) (Nat.le_of_ble_eq_true rfl) dX12_keyAt_100 rfl (fun r320 M321 h322 => ?_)
                obtain ⟨a324, rfl, rfl, h323⟩ := h322
                refine y_bipush C dX12_keyAt_103 rfl ?_
                refine y_icmp_eq C 114 dX12_keyAt_105 (by decide) (by omega) (fun h325 => ?_) (fun h325 => ?_)
                · refine y_iinc C 2 [(2, .int (sI (a317 + 1))), (0, .ref (ad 98)), (1, .int (sI a231))] dX12_keyAt_114 rfl (by decide) rfl ?_
                  refine y_iinc C 2 [(1, .int (sI (a231 + 1))), (2, .int (sI (a317 + 1))), (0, .ref (ad 98))] dX12_keyAt_117 rfl (by decide) rfl ?_
                  refine j_goto C 4 dX12_keyAt_120 (by decide) ?_
                  have u327z := nk_0 gf (M0.1 98 6).toInt ((M0.1 98 7).toInt - (M0.1 98 6).toInt)
                  have u327k : ((koF (0 : Int).toNat : Nat) : Int) = 1 := by decide
                  refine j_lv [2, 0, 1] rfl ?_; exact ih229 (a231 + 1) (a317 + 1) (by omega)
                · refine y_iinc C 2 [(2, .int (sI (a317 + 1))), (0, .ref (ad 98)), (1, .int (sI a231))] dX12_keyAt_108 rfl (by decide) rfl ?_
                  refine j_goto C 97 dX12_keyAt_111 (by decide) ?_
                  refine j_lv [1, 2, 0] rfl ?_; exact ih315 (a317 + 1) (by omega)
            refine j_lv [0, 1, 2] rfl ?_; exact L316 2010 a232 (by omega)
          · refine j_aload_n C 0 0 dX12_keyAt_82 rfl rfl ?_
            refine y_getI C 11 _ _ fX12_keyAt_98 rfl rfl ft_11_6 sb_11_6 hM0 dX12_keyAt_83 (fun a328 ea328 la328 ua328 => ?_)
            obtain rfl : a328 = (M0.1 98 6).toInt := ea328
            refine j_iload_n C 3 3 dX12_keyAt_86 rfl rfl ?_
            refine y_iadd C dX12_keyAt_87 ?_
            refine j_aload_n C 0 0 dX12_keyAt_88 rfl rfl ?_
            refine y_getI C 11 _ _ fX12_keyAt_101 rfl rfl ft_11_7 sb_11_7 hM0 dX12_keyAt_89 (fun a330 ea330 la330 ua330 => ?_)
            obtain rfl : a330 = (M0.1 98 7).toInt := ea330
            refine y_icmp_ne C 97 dX12_keyAt_92 (by decide) (by omega) (fun h332 => ?_) (fun h332 => ?_)
            · have u333n := nk_s (f := gf) (i := (M0.1 98 6).toInt) (m := (M0.1 98 7).toInt - (M0.1 98 6).toInt) (n := a231) (by omega) (by omega) (kq_n (f := gf) (i := (M0.1 98 6).toInt) (n := a231) (m := a295) (k := a232) (b := (M0.1 98 7).toInt) (by omega) (by omega) (by omega) (by omega) (by omega))
              have L345 : ∀ (n343 : Nat), ∀ (a346 : Int), (1 ≤ a346 ∧ a346 ≤ 87 ∧ (a231 < a346) ∧ (a232 ≤ a346) ∧ (b01 (NOK gf (M0.1 98 6).toInt ((M0.1 98 7).toInt - (M0.1 98 6).toInt) (a231 + 1)) = 1) ∧ ((koF (a231).toNat : Int) ≤ a346) ∧ (a346 ≤ keN (a231).toNat) ∧ (88 - a346) < (n343 : Int)) → jj p l e (cn_R 4) s m args below meth c 0 0 Q 4 dC dI ad cA A M0 97 [(0, .ref (ad 98)), (1, .int (sI a231)), (2, .int (sI a346))] [] := by
                intro n343
                induction n343 with
                | zero =>
                  intro a346 h347
                  exfalso; omega
                | succ n343 ih344 =>
                  intro a346 h347
                  have u348e := ke_o a231 a346 (by omega)
                  have u348o := ko_o a231
                  have u348O := ko_o (a231 + 1)
                  refine j_ldcS C 2 (by decide) rfl rfl dX12_keyAt_97 ?_
                  refine j_iload_n C 2 2 dX12_keyAt_99 rfl rfl ?_
                  refine j_callSS C (d := 3) (As := [.int (sI a346)]) (st := []) 2 (by decide) (s3_J0_charAt_5068e hM0 a346 (by omega) (by omega)) gX12_keyAt_J0_charAt_5068e rfl hdJ0_charAt_5068e (by decide) (Nat.le_of_ble_eq_true rfl) dX12_keyAt_100 rfl (fun r349 M350 h351 => ?_)
                  obtain ⟨a353, rfl, rfl, h352⟩ := h351
                  refine y_bipush C dX12_keyAt_103 rfl ?_
                  refine y_icmp_eq C 114 dX12_keyAt_105 (by decide) (by omega) (fun h354 => ?_) (fun h354 => ?_)
                  · refine y_iinc C 2 [(2, .int (sI (a346 + 1))), (0, .ref (ad 98)), (1, .int (sI a231))] dX12_keyAt_114 rfl (by decide) rfl ?_
                    refine y_iinc C 2 [(1, .int (sI (a231 + 1))), (2, .int (sI (a346 + 1))), (0, .ref (ad 98))] dX12_keyAt_117 rfl (by decide) rfl ?_
                    refine j_goto C 4 dX12_keyAt_120 (by decide) ?_
                    have u356z := nk_0 gf (M0.1 98 6).toInt ((M0.1 98 7).toInt - (M0.1 98 6).toInt)
                    have u356k : ((koF (0 : Int).toNat : Nat) : Int) = 1 := by decide
                    refine j_lv [2, 0, 1] rfl ?_; exact ih229 (a231 + 1) (a346 + 1) (by omega)
                  · refine y_iinc C 2 [(2, .int (sI (a346 + 1))), (0, .ref (ad 98)), (1, .int (sI a231))] dX12_keyAt_108 rfl (by decide) rfl ?_
                    refine j_goto C 97 dX12_keyAt_111 (by decide) ?_
                    refine j_lv [1, 2, 0] rfl ?_; exact ih344 (a346 + 1) (by omega)
              refine j_lv [0, 1, 2] rfl ?_; exact L345 2010 a232 (by omega)
            · have u357q := kq_y (f := gf) (i := (M0.1 98 6).toInt) (n := a231) (m := a295) (k := a232) (b := (M0.1 98 7).toInt) (by omega) (by omega) (by omega) (by omega) (by omega)
              refine j_iload_n C 1 1 dX12_keyAt_95 rfl rfl ?_
              exact hret _ _ _ _ dX12_keyAt_96 ⟨a231, rfl, rfl, by omega⟩
        have L269 : ∀ (n267 : Nat), ∀ (a270 : Int), (0 ≤ a270 ∧ a270 ≤ 87 ∧ (a232 + a270 ≤ 87) ∧ (b01 (SMK gf (M0.1 98 6).toInt (a231).toNat a270) = 1) ∧ ((M0.1 98 6).toInt + a270 ≤ (M0.1 98 7).toInt) ∧ (88 - a270) < (n267 : Int)) → jj p l e (cn_R 4) s m args below meth c 0 0 Q 4 dC dI ad cA A M0 15 [(0, .ref (ad 98)), (1, .int (sI a231)), (2, .int (sI a232)), (3, .int (sI a270))] [] := by
          intro n267
          induction n267 with
          | zero =>
            intro a270 h271
            exfalso; omega
          | succ n267 ih268 =>
            intro a270 h271
            refine j_ldcS C 2 (by decide) rfl rfl dX12_keyAt_15 ?_
            refine j_iload_n C 2 2 dX12_keyAt_17 rfl rfl ?_
            refine j_iload_n C 3 3 dX12_keyAt_18 rfl rfl ?_
            refine y_iadd C dX12_keyAt_19 ?_
            refine j_callSS C (d := 3) (As := [.int (sI (a232 + a270))]) (st := []) 2 (by decide) (s3_J0_charAt_5068e hM0 (a232 + a270) (by omega) (by omega)) gX12_keyAt_J0_charAt_5068e rfl hdJ0_charAt_5068e (by decide) (Nat.le_of_ble_eq_true rfl) dX12_keyAt_20 rfl (fun r272 M273 h274 => ?_)
            obtain ⟨a276, rfl, rfl, h275⟩ := h274
            refine y_bipush C dX12_keyAt_23 rfl ?_
            refine y_icmp_eq C 69 dX12_keyAt_25 (by decide) (by omega) (fun h277 => ?_) (fun h277 => ?_)
            · exact X296 a270 (by omega)
            · refine j_aload_n C 0 0 dX12_keyAt_28 rfl rfl ?_
              refine y_getI C 11 _ _ fX12_keyAt_98 rfl rfl ft_11_6 sb_11_6 hM0 dX12_keyAt_29 (fun a278 ea278 la278 ua278 => ?_)
              obtain rfl : a278 = (M0.1 98 6).toInt := ea278
              refine j_iload_n C 3 3 dX12_keyAt_32 rfl rfl ?_
              refine y_iadd C dX12_keyAt_33 ?_
              refine j_aload_n C 0 0 dX12_keyAt_34 rfl rfl ?_
              refine y_getI C 11 _ _ fX12_keyAt_101 rfl rfl ft_11_7 sb_11_7 hM0 dX12_keyAt_35 (fun a280 ea280 la280 ua280 => ?_)
              obtain rfl : a280 = (M0.1 98 7).toInt := ea280
              refine y_icmp_ge C 69 dX12_keyAt_38 (by decide) (by omega) (fun h282 => ?_) (fun h282 => ?_)
              · exact X296 a270 (by omega)
              · refine j_aload_n C 0 0 dX12_keyAt_41 rfl rfl ?_
                refine y_getC C 11 101 fX12_keyAt_21 rfl rfl ft_11_3 sm_11_3 rfl hM0 dX12_keyAt_42 ?_
                refine j_aload_n C 0 0 dX12_keyAt_45 rfl rfl ?_
                refine y_getI C 11 _ _ fX12_keyAt_98 rfl rfl ft_11_6 sb_11_6 hM0 dX12_keyAt_46 (fun a283 ea283 la283 ua283 => ?_)
                obtain rfl : a283 = (M0.1 98 6).toInt := ea283
                refine j_iload_n C 3 3 dX12_keyAt_49 rfl rfl ?_
                refine y_iadd C dX12_keyAt_50 ?_
                have u285p := tpm_r (f := gf) (n := gn) (M := M0) (a := ((M0.1 98 6).toInt + a270)) (by omega) (by omega)
                refine y_iald C 47 900 _ _ rfl rfl rfl ak_47 an_47 rfl (sb_47 _) hM0 dX12_keyAt_51 (by omega) (fun a286 ea286 la286 ua286 => ?_)
                obtain rfl : a286 = (M0.1 101 (((M0.1 98 6).toInt + a270)).toNat).toInt := ea286
                refine j_ldcS C 2 (by decide) rfl rfl dX12_keyAt_52 ?_
                refine j_iload_n C 2 2 dX12_keyAt_54 rfl rfl ?_
                refine j_iload_n C 3 3 dX12_keyAt_55 rfl rfl ?_
                refine y_iadd C dX12_keyAt_56 ?_
                refine j_callSS C (d := 3) (As := [.int (sI (a232 + a270))]) (st := [.int (sI (M0.1 101 (((M0.1 98 6).toInt + a270)).toNat).toInt)]) 2 (by decide) (s3_J0_charAt_5068e hM0 (a232 + a270) (by omega) (by omega)) gX12_keyAt_J0_charAt_5068e rfl hdJ0_charAt_5068e (by decide) (Nat.le_of_ble_eq_true rfl) dX12_keyAt_57 rfl (fun r287 M288 h289 => ?_)
                obtain ⟨a291, rfl, rfl, h290⟩ := h289
                refine y_icmp_ne C 69 dX12_keyAt_60 (by decide) (by omega) (fun h292 => ?_) (fun h292 => ?_)
                · exact X296 a270 (by omega)
                · have u293w := sk_s (f := gf) (i := (M0.1 98 6).toInt) (n := a231) (m := a270) (k := a232) (by omega) (by omega) (by omega) (by omega) (by omega)
                  refine y_iinc C 3 [(3, .int (sI (a270 + 1))), (0, .ref (ad 98)), (1, .int (sI a231)), (2, .int (sI a232))] dX12_keyAt_63 rfl (by decide) rfl ?_
                  refine j_goto C 15 dX12_keyAt_66 (by decide) ?_
                  have u294z := sk_0 gf (M0.1 98 6).toInt (a231).toNat
                  refine j_lv [1, 2, 3, 0] rfl ?_; exact ih268 (a270 + 1) (by omega)
        refine j_lv [1, 2, 3, 0] rfl ?_; exact L269 2010 0 (by omega)
  refine j_lv [2, 1, 0] rfl ?_; exact L230 2010 0 1 (by omega)
set_option maxHeartbeats 4000000 in
theorem s1_X12_next {l : Launch} {dC : Nat → ClassId} {dI : Nat → Nat → Nat} {ad : Nat → Nat} {cA : Nat → ClassId} {pr : Nat → Nat → Bool} {Kz : mm_M} {M0 : mm_M} (hM0 : INV pr Kz M0) (hpr : PM pr) (gf : Nat → Int) (gn : Int) (hp0 : (M0.1 98 7).toInt ≤ (M0.1 98 8).toInt) (hp1 : (M0.1 98 8).toInt ≤ 900) (hp2 : b01 (TPM gf gn M0) = 1) (hp3 : b01 (PI M0) = 1) : Cv l 5 yX12_next wsX12_next dC dI ad cA [.ref (ad 98)] M0 (fun M' => INV pr Kz M' ∧ FR [98] M0 M' ∧ (b01 (RIP M') = 1) ∧ ((M'.1 98 8).toInt = (M0.1 98 8).toInt) ∧ ((M0.1 98 7).toInt ≤ (M'.1 98 6).toInt) ∧ ((M'.1 98 11).toInt = (M0.1 98 11).toInt) ∧ (b01 (TKM gf gn M') = 1) ∧ ((M'.1 98 6).toInt = runE blB gf gn (M0.1 98 7).toInt) ∧ ((M'.1 98 12).toInt = (M0.1 98 12).toInt) ∧ (b01 (PI M') = 1)) := by
  refine cv_of (cc := cX12_next) (maxL := 2) (lv := [(0, .ref (ad 98))]) (by decide) rfl (Nat.le_of_ble_eq_true rfl) rfl ?_
  intro p e s m args below meth c A Q C hret
  have u101T := tpm_z (f := gf) (n := gn) (M := M0) (by omega)
  refine j_aload_n C 0 0 dX12_next_0 rfl rfl ?_
  refine j_aload_n C 0 0 dX12_next_1 rfl rfl ?_
  refine y_getI C 11 _ _ fX12_next_101 rfl rfl ft_11_7 sb_11_7 hM0 dX12_next_2 (fun a102 ea102 la102 ua102 => ?_)
  obtain rfl : a102 = (M0.1 98 7).toInt := ea102
  refine y_putI C 11 _ _ qX12_next_98 rfl rfl ft_11_6 sb_11_6 hM0 (PM.w hpr rfl rfl) dX12_next_5 (by omega) (fun M104 eM104 hM104 => ?_)
  have pM104 := pi_o eM104 (by decide) (by decide) (by omega)
  have u105c := run_c blB gf gn (M104.1 98 6).toInt ((M0.1 98 7).toInt)
  have L136 : ∀ (n134 : Nat), ∀ (M137 : mm_M), ((0 ≤ (M137.1 98 6).toInt) ∧ ((M137.1 98 8).toInt = (M0.1 98 8).toInt) ∧ ((M137.1 98 11).toInt = (M0.1 98 11).toInt) ∧ ((M0.1 98 7).toInt ≤ (M137.1 98 6).toInt) ∧ ((M137.1 98 6).toInt ≤ (M137.1 98 8).toInt) ∧ ((M137.1 98 8).toInt ≤ 900) ∧ (runE blB gf gn (M137.1 98 6).toInt = runE blB gf gn (M0.1 98 7).toInt) ∧ ((M137.1 98 12).toInt = (M0.1 98 12).toInt) ∧ (b01 (PI M137) = 1) ∧ (900 - (M137.1 98 6).toInt) < (n134 : Int)) → INV pr Kz M137 → FR [98] M0 M137 → jj p l e (cn_R 5) s m args below meth c 0 0 Q 2 dC dI ad cA A M137 8 [(0, .ref (ad 98))] [] := by
    intro n134
    induction n134 with
    | zero =>
      intro M137 h138 hM137 fM137
      exfalso; omega
    | succ n134 ih135 =>
      intro M137 h138 hM137 fM137
      have u139R := rx_bl gf gn (M137.1 98 6).toInt (by omega)
      refine j_aload_n C 0 0 dX12_next_8 rfl rfl ?_
      refine j_aload_n C 0 0 dX12_next_9 rfl rfl ?_
      refine y_getI C 11 _ _ fX12_next_98 rfl rfl ft_11_6 sb_11_6 hM137 dX12_next_10 (fun a140 ea140 la140 ua140 => ?_)
      obtain rfl : a140 = (M137.1 98 6).toInt := ea140
      have k142 := tpm_s (f := gf) (n := gn) (a := (M137.1 98 6).toInt) (M := M0) (M' := M137) (by omega) (show M137.1 101 = M0.1 101 from (FR.cell fM137 (by decide)))
      refine j_callVi C (d := 0) (As := [.int (sI (M137.1 98 6).toInt)]) (st := []) 98 (s_lt rfl rfl) (s_kc (c := 11) rfl rfl) (by decide) rfl (s1_X12_see hM137 (M137.1 98 6).toInt (by omega) (by omega)) gX12_next_X12_see rfl hdX12_see (by decide) (Nat.le_of_ble_eq_true rfl) dX12_next_13 rfl (fun r143 M144 h145 => ?_)
      obtain ⟨a147, rfl, rfl, h146⟩ := h145
      refine y_bipush C dX12_next_16 rfl ?_
      refine y_icmp_eq C 34 dX12_next_18 (by decide) (by omega) (fun h148 => ?_) (fun h148 => ?_)
      · refine j_aload_n C 0 0 dX12_next_34 rfl rfl ?_
        refine j_dup C dX12_next_35 rfl ?_
        refine y_getI C 11 _ _ fX12_next_98 rfl rfl ft_11_6 sb_11_6 hM137 dX12_next_36 (fun a149 ea149 la149 ua149 => ?_)
        obtain rfl : a149 = (M137.1 98 6).toInt := ea149
        refine y_iconst C dX12_next_39 ?_
        refine y_iadd C dX12_next_40 ?_
        refine y_putI C 11 _ _ qX12_next_98 rfl rfl ft_11_6 sb_11_6 hM137 (PM.w hpr rfl rfl) dX12_next_41 (by omega) (fun M151 eM151 hM151 => ?_)
        have pM151 := pi_o eM151 (by decide) (by decide) (by omega)
        refine j_goto C 8 dX12_next_44 (by decide) ?_
        have u152c := run_c blB gf gn (M151.1 98 6).toInt (((M137.1 98 6).toInt + 1))
        have zz98_8 : (M151.1 98 8).toInt = (M137.1 98 8).toInt := s_fb eM151 (by decide) (rfl); have zz98_6 := (Eq.trans (rfl : (M151.1 98 6).toInt = (M151.1 98 6).toInt) (s_wr eM151 (by omega))); have zz98_12 : (M151.1 98 12).toInt = (M137.1 98 12).toInt := s_fb eM151 (by decide) (rfl); have zz98_11 : (M151.1 98 11).toInt = (M137.1 98 11).toInt := s_fb eM151 (by decide) (rfl); exact ih135 M151 (by omega) hM151 ((FR.rf.tr fM137 (by decide)).wI eM151 (by decide))
      · refine j_aload_n C 0 0 dX12_next_21 rfl rfl ?_
        refine j_aload_n C 0 0 dX12_next_22 rfl rfl ?_
        refine y_getI C 11 _ _ fX12_next_98 rfl rfl ft_11_6 sb_11_6 hM137 dX12_next_23 (fun a153 ea153 la153 ua153 => ?_)
        obtain rfl : a153 = (M137.1 98 6).toInt := ea153
        have k155 := tpm_s (f := gf) (n := gn) (a := (M137.1 98 6).toInt) (M := M0) (M' := M137) (by omega) (show M137.1 101 = M0.1 101 from (FR.cell fM137 (by decide)))
        refine j_callVi C (d := 0) (As := [.int (sI (M137.1 98 6).toInt)]) (st := []) 98 (s_lt rfl rfl) (s_kc (c := 11) rfl rfl) (by decide) rfl (s1_X12_see hM137 (M137.1 98 6).toInt (by omega) (by omega)) gX12_next_X12_see rfl hdX12_see (by decide) (Nat.le_of_ble_eq_true rfl) dX12_next_26 rfl (fun r156 M157 h158 => ?_)
        obtain ⟨a160, rfl, rfl, h159⟩ := h158
        refine y_bipush C dX12_next_29 rfl ?_
        refine y_icmp_ne C 47 dX12_next_31 (by decide) (by omega) (fun h161 => ?_) (fun h161 => ?_)
        · have u166E := nt_e gf gn (M137.1 98 6).toInt
          refine j_aload_n C 0 0 dX12_next_47 rfl rfl ?_
          refine j_aload_n C 0 0 dX12_next_48 rfl rfl ?_
          refine y_getI C 11 _ _ fX12_next_98 rfl rfl ft_11_6 sb_11_6 hM137 dX12_next_49 (fun a167 ea167 la167 ua167 => ?_)
          obtain rfl : a167 = (M137.1 98 6).toInt := ea167
          refine y_putI C 11 _ _ qX12_next_101 rfl rfl ft_11_7 sb_11_7 hM137 (PM.w hpr rfl rfl) dX12_next_52 (by omega) (fun M169 eM169 hM169 => ?_)
          have pM169 := pi_o eM169 (by decide) (by decide) (by omega)
          refine j_aload_n C 0 0 dX12_next_55 rfl rfl ?_
          refine y_getI C 11 _ _ fX12_next_98 rfl rfl ft_11_6 sb_11_6 hM169 dX12_next_56 (fun a170 ea170 la170 ua170 => ?_)
          obtain rfl : a170 = (M137.1 98 6).toInt := s_fb eM169 (by decide) (ea170)
          refine j_aload_n C 0 0 dX12_next_59 rfl rfl ?_
          refine y_getI C 11 _ _ fX12_next_83 rfl rfl ft_11_8 sb_11_8 hM169 dX12_next_60 (fun a172 ea172 la172 ua172 => ?_)
          obtain rfl : a172 = (M137.1 98 8).toInt := s_fb eM169 (by decide) (ea172)
          refine y_icmp_lt C 75 dX12_next_63 (by decide) (by omega) (fun h174 => ?_) (fun h174 => ?_)
          · refine j_aload_n C 0 0 dX12_next_75 rfl rfl ?_
            refine j_aload_n C 0 0 dX12_next_76 rfl rfl ?_
            refine y_getI C 11 _ _ fX12_next_98 rfl rfl ft_11_6 sb_11_6 hM169 dX12_next_77 (fun a175 ea175 la175 ua175 => ?_)
            obtain rfl : a175 = (M137.1 98 6).toInt := s_fb eM169 (by decide) (ea175)
            have k177 := tpm_s (f := gf) (n := gn) (a := (M137.1 98 6).toInt) (M := M0) (M' := M169) (by omega) (show M169.1 101 = M0.1 101 from ((wI_cell eM169 (by decide)).trans (FR.cell fM137 (by decide))))
            refine j_callVi C (d := 0) (As := [.int (sI (M137.1 98 6).toInt)]) (st := []) 98 (s_lt rfl rfl) (s_kc (c := 11) rfl rfl) (by decide) rfl (s1_X12_see hM169 (M137.1 98 6).toInt (by omega) (by omega)) gX12_next_X12_see rfl hdX12_see (by decide) (Nat.le_of_ble_eq_true rfl) dX12_next_80 rfl (fun r178 M179 h180 => ?_)
            obtain ⟨a182, rfl, rfl, h181⟩ := h180
            refine j_callSi C (d := 0) (As := [.int (sI a182)]) (st := []) (s1_X12_isSmall hM169 a182 (by omega)) gX12_next_X12_isSmall rfl hdX12_isSmalls (by decide) (Nat.le_of_ble_eq_true rfl) dX12_next_83 rfl (fun r183 M184 h185 => ?_)
            obtain ⟨a187, rfl, rfl, h186⟩ := h185
            refine y_if_eq C 127 dX12_next_86 (by decide) (by omega) (fun h188 => ?_) (fun h188 => ?_)
            · refine j_aload_n C 0 0 dX12_next_127 rfl rfl ?_
              refine j_aload_n C 0 0 dX12_next_128 rfl rfl ?_
              refine y_getI C 11 _ _ fX12_next_98 rfl rfl ft_11_6 sb_11_6 hM169 dX12_next_129 (fun a189 ea189 la189 ua189 => ?_)
              obtain rfl : a189 = (M137.1 98 6).toInt := s_fb eM169 (by decide) (ea189)
              have k191 := tpm_s (f := gf) (n := gn) (a := (M137.1 98 6).toInt) (M := M0) (M' := M169) (by omega) (show M169.1 101 = M0.1 101 from ((wI_cell eM169 (by decide)).trans (FR.cell fM137 (by decide))))
              refine j_callVi C (d := 0) (As := [.int (sI (M137.1 98 6).toInt)]) (st := []) 98 (s_lt rfl rfl) (s_kc (c := 11) rfl rfl) (by decide) rfl (s1_X12_see hM169 (M137.1 98 6).toInt (by omega) (by omega)) gX12_next_X12_see rfl hdX12_see (by decide) (Nat.le_of_ble_eq_true rfl) dX12_next_132 rfl (fun r192 M193 h194 => ?_)
              obtain ⟨a196, rfl, rfl, h195⟩ := h194
              refine j_callSi C (d := 0) (As := [.int (sI a196)]) (st := []) (s1_X12_isDigit hM169 a196 (by omega)) gX12_next_X12_isDigit rfl hdX12_isDigits (by decide) (Nat.le_of_ble_eq_true rfl) dX12_next_135 rfl (fun r197 M198 h199 => ?_)
              obtain ⟨a201, rfl, rfl, h200⟩ := h199
              refine y_if_eq C 236 dX12_next_138 (by decide) (by omega) (fun h202 => ?_) (fun h202 => ?_)
              · refine j_aload_n C 0 0 dX12_next_236 rfl rfl ?_
                refine j_dup C dX12_next_237 rfl ?_
                refine y_getI C 11 _ _ fX12_next_101 rfl rfl ft_11_7 sb_11_7 hM169 dX12_next_238 (fun a203 ea203 la203 ua203 => ?_)
                obtain rfl : a203 = (M137.1 98 6).toInt := (ea203).trans (s_wr eM169 (by omega))
                refine y_iconst C dX12_next_241 ?_
                refine y_iadd C dX12_next_242 ?_
                refine y_putI C 11 _ _ qX12_next_101 rfl rfl ft_11_7 sb_11_7 hM169 (PM.w hpr rfl rfl) dX12_next_243 (by omega) (fun M205 eM205 hM205 => ?_)
                have pM205 := pi_o eM205 (by decide) (by decide) (by omega)
                refine j_aload_n C 0 0 dX12_next_246 rfl rfl ?_
                refine y_bipush C dX12_next_247 rfl ?_
                refine y_putIF C 11 qX12_next_108 rfl rfl ft_11_9 sb_11_9 hM205 (PM.w hpr rfl rfl) dX12_next_249 (fun M206 eM206 hM206 => ?_)
                have pM206 := pi_o eM206 (by decide) (by decide) (by omega)
                refine y_iconst C dX12_next_252 ?_
                refine j_istore_n C 1 [(1, .int (sI 0)), (0, .ref (ad 98))] dX12_next_253 rfl (by decide) rfl ?_
                have zz98_6 : (M206.1 98 6).toInt = (M137.1 98 6).toInt := s_fb eM169 (by decide) (s_fb eM205 (by decide) (s_fb eM206 (by decide) (rfl)))
                have zz98_7 := (Eq.trans (s_fb eM206 (by decide) (rfl) : (M206.1 98 7).toInt = (M205.1 98 7).toInt) (s_wr eM205 (by omega)))
                have zz98_9 := (Eq.trans (rfl : (M206.1 98 9).toInt = (M206.1 98 9).toInt) (s_wr eM206 (by omega)))
                have u207z := sgK_0 (gf ((M206.1 98 6).toInt).toNat)
                have L237 : ∀ (n235 : Nat), ∀ (a238 : Int) (M239 : mm_M), (0 ≤ a238 ∧ a238 ≤ 12 ∧ (0 ≤ (M239.1 98 6).toInt) ∧ ((M239.1 98 8).toInt = (M0.1 98 8).toInt) ∧ ((M239.1 98 11).toInt = (M0.1 98 11).toInt) ∧ ((M0.1 98 7).toInt ≤ (M239.1 98 6).toInt) ∧ ((M239.1 98 6).toInt ≤ (M239.1 98 8).toInt) ∧ ((M239.1 98 8).toInt ≤ 900) ∧ ((M239.1 98 7).toInt ≤ (M239.1 98 8).toInt) ∧ ((M239.1 98 6).toInt < (M239.1 98 7).toInt) ∧ ((M239.1 98 9).toInt = sgK (gf ((M239.1 98 6).toInt).toNat) a238) ∧ ((M239.1 98 6).toInt = (M206.1 98 6).toInt) ∧ ((M239.1 98 7).toInt = (M239.1 98 6).toInt + 1) ∧ ((M239.1 98 6).toInt = runE blB gf gn (M0.1 98 7).toInt) ∧ ((M239.1 98 6).toInt < gn) ∧ ((M239.1 98 12).toInt = (M0.1 98 12).toInt) ∧ (b01 (PI M239) = 1) ∧ (12 - a238) < (n235 : Int)) → INV pr Kz M239 → FR [98] M0 M239 → jj p l e (cn_R 5) s m args below meth c 0 0 Q 2 dC dI ad cA A M239 254 [(0, .ref (ad 98)), (1, .int (sI a238))] [] := by
                  intro n235
                  induction n235 with
                  | zero =>
                    intro a238 M239 h240 hM239 fM239
                    exfalso; omega
                  | succ n235 ih236 =>
                    intro a238 M239 h240 hM239 fM239
                    refine j_iload_n C 1 1 dX12_next_254 rfl rfl ?_
                    refine j_ldcS C 3 (by decide) rfl rfl dX12_next_255 ?_
                    refine j_callSS C (d := 1) (As := []) (st := [.int (sI a238)]) 3 (by decide) (s2_J0_length_8abf5 hM239) gX12_next_J0_length_8abf5 rfl hdJ0_length_8abf5 (by decide) (Nat.le_of_ble_eq_true rfl) dX12_next_257 rfl (fun r242 M243 h244 => ?_)
                    obtain ⟨a246, rfl, rfl, h245⟩ := h244
                    refine y_icmp_ge C 294 dX12_next_260 (by decide) (by omega) (fun h247 => ?_) (fun h247 => ?_)
                    · have u266H := gf_c gf (M239.1 98 6).toInt (M137.1 98 6).toInt
                      have u266G := nt_g (f := gf) (n := gn) (i := (M239.1 98 6).toInt) (by omega) (by omega) (by omega)
                      have u266K := sgK_c (gf ((M239.1 98 6).toInt).toNat) (gf ((M239.1 98 6).toInt).toNat) 12 a238
                      have u266M := tkm_mk (f := gf) (n := gn) (i := (M239.1 98 6).toInt) (M := M0) (M' := M239) (by omega) (show M239.1 101 = M0.1 101 from (FR.cell fM239 (by decide))) (by omega) (by omega) (by omega) (by omega) (by omega)
                      have u267 : b01 (RIP M239) = 1 := b01_i (by unfold RIP; omega)
                      exact hret _ _ _ dX12_next_294 ⟨hM239, (FR.rf.tr fM239 (by decide)), by omega⟩
                    · have u248s := sgK_s (gf ((M239.1 98 6).toInt).toNat) a238 (by omega)
                      refine j_aload_n C 0 0 dX12_next_263 rfl rfl ?_
                      refine j_aload_n C 0 0 dX12_next_264 rfl rfl ?_
                      refine y_getI C 11 _ _ fX12_next_98 rfl rfl ft_11_6 sb_11_6 hM239 dX12_next_265 (fun a249 ea249 la249 ua249 => ?_)
                      obtain rfl : a249 = (M239.1 98 6).toInt := ea249
                      have k251 := tpm_s (f := gf) (n := gn) (a := (M239.1 98 6).toInt) (M := M0) (M' := M239) (by omega) (show M239.1 101 = M0.1 101 from (FR.cell fM239 (by decide)))
                      refine j_callVi C (d := 0) (As := [.int (sI (M239.1 98 6).toInt)]) (st := []) 98 (s_lt rfl rfl) (s_kc (c := 11) rfl rfl) (by decide) rfl (s1_X12_see hM239 (M239.1 98 6).toInt (by omega) (by omega)) gX12_next_X12_see rfl hdX12_see (by decide) (Nat.le_of_ble_eq_true rfl) dX12_next_268 rfl (fun r252 M253 h254 => ?_)
                      obtain ⟨a256, rfl, rfl, h255⟩ := h254
                      refine j_ldcS C 3 (by decide) rfl rfl dX12_next_271 ?_
                      refine j_iload_n C 1 1 dX12_next_273 rfl rfl ?_
                      refine j_callSS C (d := 3) (As := [.int (sI a238)]) (st := [.int (sI a256)]) 3 (by decide) (s2_J0_charAt_5068e hM239 a238 (by omega) (by omega)) gX12_next_J0_charAt_5068e rfl hdJ0_charAt_5068e (by decide) (Nat.le_of_ble_eq_true rfl) dX12_next_274 rfl (fun r257 M258 h259 => ?_)
                      obtain ⟨a261, rfl, rfl, h260⟩ := h259
                      refine y_icmp_ne C 288 dX12_next_277 (by decide) (by omega) (fun h262 => ?_) (fun h262 => ?_)
                      · refine y_iinc C 1 [(1, .int (sI (a238 + 1))), (0, .ref (ad 98))] dX12_next_288 rfl (by decide) rfl ?_
                        refine j_goto C 254 dX12_next_291 (by decide) ?_
                        have u263c := sgK_c (gf ((M239.1 98 6).toInt).toNat) (gf ((M239.1 98 6).toInt).toNat) (a238 + 1) (a238 + 1)
                        have u263g := gf_c gf (M239.1 98 6).toInt (M239.1 98 6).toInt
                        refine j_lv [1, 0] rfl ?_; exact ih236 (a238 + 1) M239 (by omega) hM239 (FR.rf.tr fM239 (by decide))
                      · refine j_aload_n C 0 0 dX12_next_280 rfl rfl ?_
                        refine y_bipush C dX12_next_281 rfl ?_
                        refine j_iload_n C 1 1 dX12_next_283 rfl rfl ?_
                        refine y_iadd C dX12_next_284 ?_
                        refine y_putIF C 11 qX12_next_108 rfl rfl ft_11_9 sb_11_9 hM239 (PM.w hpr rfl rfl) dX12_next_285 (fun M264 eM264 hM264 => ?_)
                        have pM264 := pi_o eM264 (by decide) (by decide) (by omega)
                        refine y_iinc C 1 [(1, .int (sI (a238 + 1))), (0, .ref (ad 98))] dX12_next_288 rfl (by decide) rfl ?_
                        refine j_goto C 254 dX12_next_291 (by decide) ?_
                        have zz98_6 : (M264.1 98 6).toInt = (M239.1 98 6).toInt := s_fb eM264 (by decide) (rfl)
                        have zz98_9 := (Eq.trans (rfl : (M264.1 98 9).toInt = (M264.1 98 9).toInt) (s_wr eM264 (by omega)))
                        have u265c := sgK_c (gf ((M264.1 98 6).toInt).toNat) (gf ((M239.1 98 6).toInt).toNat) (a238 + 1) (a238 + 1)
                        have u265g := gf_c gf (M264.1 98 6).toInt (M239.1 98 6).toInt
                        have zz98_9 := (Eq.trans (rfl : (M264.1 98 9).toInt = (M264.1 98 9).toInt) (s_wr eM264 (by omega))); have zz98_8 : (M264.1 98 8).toInt = (M239.1 98 8).toInt := s_fb eM264 (by decide) (rfl); have zz98_7 : (M264.1 98 7).toInt = (M239.1 98 7).toInt := s_fb eM264 (by decide) (rfl); have zz98_6 : (M264.1 98 6).toInt = (M239.1 98 6).toInt := s_fb eM264 (by decide) (rfl); have zz98_12 : (M264.1 98 12).toInt = (M239.1 98 12).toInt := s_fb eM264 (by decide) (rfl); have zz98_11 : (M264.1 98 11).toInt = (M239.1 98 11).toInt := s_fb eM264 (by decide) (rfl); refine j_lv [1, 0] rfl ?_; exact ih236 (a238 + 1) M264 (by omega) hM264 ((FR.rf.tr fM239 (by decide)).wI eM264 (by decide))
                have zz98_9 := (Eq.trans (rfl : (M206.1 98 9).toInt = (M206.1 98 9).toInt) (s_wr eM206 (by omega))); have zz98_8 : (M206.1 98 8).toInt = (M137.1 98 8).toInt := s_fb eM169 (by decide) (s_fb eM205 (by decide) (s_fb eM206 (by decide) (rfl))); have zz98_7 := (Eq.trans (s_fb eM206 (by decide) (rfl) : (M206.1 98 7).toInt = (M205.1 98 7).toInt) (s_wr eM205 (by omega))); have zz98_6 : (M206.1 98 6).toInt = (M137.1 98 6).toInt := s_fb eM169 (by decide) (s_fb eM205 (by decide) (s_fb eM206 (by decide) (rfl))); have zz98_12 : (M206.1 98 12).toInt = (M137.1 98 12).toInt := s_fb eM169 (by decide) (s_fb eM205 (by decide) (s_fb eM206 (by decide) (rfl))); have zz98_11 : (M206.1 98 11).toInt = (M137.1 98 11).toInt := s_fb eM169 (by decide) (s_fb eM205 (by decide) (s_fb eM206 (by decide) (rfl))); refine j_lv [1, 0] rfl ?_; exact L237 2010 0 M206 (by omega) hM206 ((((FR.rf.tr fM137 (by decide)).wI eM169 (by decide)).wI eM205 (by decide)).wI eM206 (by decide))
              · refine j_aload_n C 0 0 dX12_next_141 rfl rfl ?_
                refine y_iconst C dX12_next_142 ?_
                refine y_putI C 11 _ _ qX12_next_121 rfl rfl ft_11_10 sb_11_10 hM169 (PM.w hpr rfl rfl) dX12_next_143 (by omega) (fun M268 eM268 hM268 => ?_)
                have pM268 := pi_o eM268 (by decide) (by decide) (by omega)
                have u269a : (M169.1 98 7).toInt = (M137.1 98 6).toInt := s_wr eM169 (by omega)
                have u269b : (M268.1 98 7).toInt = (M169.1 98 7).toInt := congrArg Int32.toInt (wI_ne eM268 (by decide))
                have u269c : (M268.1 101 ((M268.1 98 7).toInt).toNat).toInt = (M169.1 101 ((M137.1 98 6).toInt).toNat).toInt := by rw [u269b, u269a, wI_cell eM268 (show (101 : Nat) ≠ 98 by decide)]
                have u269c := run_c dgB gf gn (M268.1 98 7).toInt ((M137.1 98 6).toInt)
                have zz98_6 : (M268.1 98 6).toInt = (M137.1 98 6).toInt := s_fb eM169 (by decide) (s_fb eM268 (by decide) (rfl))
                have zz98_7 := (Eq.trans (s_fb eM268 (by decide) (rfl) : (M268.1 98 7).toInt = (M169.1 98 7).toInt) (s_wr eM169 (by omega)))
                have u269g := gf_c gf (M137.1 98 6).toInt (M268.1 98 6).toInt
                have u269n := nt_d (f := gf) (n := gn) (i := (M268.1 98 6).toInt) (by omega) (by omega)
                have u269r := rx_dg gf gn (M268.1 98 6).toInt (by omega)
                have u269d := run_c dgB gf gn (M268.1 98 7).toInt (M268.1 98 6).toInt
                have u269V := val_c gf (M268.1 98 6).toInt ((M268.1 98 7).toInt - (M268.1 98 6).toInt) 0
                have u269W : valF gf (M268.1 98 6).toInt (0 : Int).toNat = 0 := rfl
                have L312 : ∀ (n310 : Nat), ∀ (M313 : mm_M), ((0 ≤ (M313.1 98 6).toInt) ∧ ((M313.1 98 8).toInt = (M0.1 98 8).toInt) ∧ ((M313.1 98 11).toInt = (M0.1 98 11).toInt) ∧ ((M0.1 98 7).toInt ≤ (M313.1 98 6).toInt) ∧ ((M313.1 98 6).toInt ≤ (M313.1 98 8).toInt) ∧ ((M313.1 98 8).toInt ≤ 900) ∧ ((M313.1 98 7).toInt ≤ (M313.1 98 8).toInt) ∧ ((M313.1 98 6).toInt < (M313.1 98 7).toInt ∨ (M313.1 98 7).toInt = (M313.1 98 6).toInt ∧ (M313.1 98 7).toInt < (M313.1 98 8).toInt ∧ 48 ≤ (M313.1 101 (M313.1 98 7).toInt.toNat).toInt ∧ (M313.1 101 (M313.1 98 7).toInt.toNat).toInt ≤ 57) ∧ ((M313.1 98 7).toInt = (M313.1 98 6).toInt ∧ (M313.1 98 10).toInt = 0 ∨ (M313.1 98 7).toInt = (M313.1 98 6).toInt + 1 ∧ (M313.1 98 10).toInt ≤ 9 ∨ (M313.1 98 7).toInt = (M313.1 98 6).toInt + 2 ∧ (M313.1 98 10).toInt ≤ 99 ∨ (M313.1 98 6).toInt + 3 ≤ (M313.1 98 7).toInt) ∧ (runE dgB gf gn (M313.1 98 7).toInt = runE dgB gf gn ((M268.1 98 6).toInt + 1)) ∧ ((M313.1 98 6).toInt = (M268.1 98 6).toInt) ∧ ((M313.1 98 6).toInt = runE blB gf gn (M0.1 98 7).toInt) ∧ ((M313.1 98 12).toInt = (M0.1 98 12).toInt) ∧ ((M313.1 98 7).toInt - (M268.1 98 6).toInt ≤ 3 ∧ (M313.1 98 10).toInt = valF gf (M268.1 98 6).toInt ((M313.1 98 7).toInt - (M268.1 98 6).toInt).toNat ∨ 3 < (M313.1 98 7).toInt - (M268.1 98 6).toInt) ∧ (b01 (PI M313) = 1) ∧ (900 - (M313.1 98 7).toInt) < (n310 : Int)) → INV pr Kz M313 → FR [98] M0 M313 → jj p l e (cn_R 5) s m args below meth c 0 0 Q 2 dC dI ad cA A M313 146 [(0, .ref (ad 98))] [] := by
                  intro n310
                  induction n310 with
                  | zero =>
                    intro M313 h314 hM313 fM313
                    exfalso; omega
                  | succ n310 ih311 =>
                    intro M313 h314 hM313 fM313
                    have u315R := rx_dg gf gn (M313.1 98 7).toInt (by omega)
                    refine j_aload_n C 0 0 dX12_next_146 rfl rfl ?_
                    refine j_aload_n C 0 0 dX12_next_147 rfl rfl ?_
                    refine y_getI C 11 _ _ fX12_next_101 rfl rfl ft_11_7 sb_11_7 hM313 dX12_next_148 (fun a316 ea316 la316 ua316 => ?_)
                    obtain rfl : a316 = (M313.1 98 7).toInt := ea316
                    have k318 := tpm_s (f := gf) (n := gn) (a := (M313.1 98 7).toInt) (M := M0) (M' := M313) (by omega) (show M313.1 101 = M0.1 101 from (FR.cell fM313 (by decide)))
                    refine j_callVi C (d := 0) (As := [.int (sI (M313.1 98 7).toInt)]) (st := []) 98 (s_lt rfl rfl) (s_kc (c := 11) rfl rfl) (by decide) rfl (s1_X12_see hM313 (M313.1 98 7).toInt (by omega) (by omega)) gX12_next_X12_see rfl hdX12_see (by decide) (Nat.le_of_ble_eq_true rfl) dX12_next_151 rfl (fun r319 M320 h321 => ?_)
                    obtain ⟨a323, rfl, rfl, h322⟩ := h321
                    refine j_callSi C (d := 0) (As := [.int (sI a323)]) (st := []) (s1_X12_isDigit hM313 a323 (by omega)) gX12_next_X12_isDigit rfl hdX12_isDigits (by decide) (Nat.le_of_ble_eq_true rfl) dX12_next_154 rfl (fun r324 M325 h326 => ?_)
                    obtain ⟨a328, rfl, rfl, h327⟩ := h326
                    refine y_if_eq C 209 dX12_next_157 (by decide) (by omega) (fun h329 => ?_) (fun h329 => ?_)
                    · have u354V := val_c gf (M268.1 98 6).toInt ((M313.1 98 7).toInt - (M268.1 98 6).toInt) (runE dgB gf gn ((M268.1 98 6).toInt + 1) - (M268.1 98 6).toInt)
                      refine j_aload_n C 0 0 dX12_next_209 rfl rfl ?_
                      refine j_aload_n C 0 0 dX12_next_210 rfl rfl ?_
                      refine y_getI C 11 _ _ fX12_next_101 rfl rfl ft_11_7 sb_11_7 hM313 dX12_next_211 (fun a355 ea355 la355 ua355 => ?_)
                      obtain rfl : a355 = (M313.1 98 7).toInt := ea355
                      refine j_aload_n C 0 0 dX12_next_214 rfl rfl ?_
                      refine y_getI C 11 _ _ fX12_next_98 rfl rfl ft_11_6 sb_11_6 hM313 dX12_next_215 (fun a357 ea357 la357 ua357 => ?_)
                      obtain rfl : a357 = (M313.1 98 6).toInt := ea357
                      refine y_isub C dX12_next_218 ?_
                      refine y_iconst C dX12_next_219 ?_
                      refine y_icmp_le C 228 dX12_next_220 (by decide) (by omega) (fun h359 => ?_) (fun h359 => ?_)
                      · refine y_bipush C dX12_next_228 rfl ?_
                        refine y_putIF C 11 qX12_next_108 rfl rfl ft_11_9 sb_11_9 hM313 (PM.w hpr rfl rfl) dX12_next_230 (fun M360 eM360 hM360 => ?_)
                        have pM360 := pi_o eM360 (by decide) (by decide) (by omega)
                        refine j_goto C 294 dX12_next_233 (by decide) ?_
                        have zz98_6 : (M360.1 98 6).toInt = (M313.1 98 6).toInt := s_fb eM360 (by decide) (rfl)
                        have zz98_7 : (M360.1 98 7).toInt = (M313.1 98 7).toInt := s_fb eM360 (by decide) (rfl)
                        have zz98_8 : (M360.1 98 8).toInt = (M313.1 98 8).toInt := s_fb eM360 (by decide) (rfl)
                        have zz98_9 := (Eq.trans (rfl : (M360.1 98 9).toInt = (M360.1 98 9).toInt) (s_wr eM360 (by omega)))
                        have zz98_10 : (M360.1 98 10).toInt = (M313.1 98 10).toInt := s_fb eM360 (by decide) (rfl)
                        have u361M := tkm_mk (f := gf) (n := gn) (i := (M268.1 98 6).toInt) (M := M0) (M' := M360) (by omega) (show M360.1 101 = M0.1 101 from ((wI_cell eM360 (by decide)).trans (FR.cell fM313 (by decide)))) (by omega) (by omega) (by omega) (by omega) (by omega)
                        have zz98_6 : (M360.1 98 6).toInt = (M313.1 98 6).toInt := s_fb eM360 (by decide) (rfl)
                        have zz98_7 : (M360.1 98 7).toInt = (M313.1 98 7).toInt := s_fb eM360 (by decide) (rfl)
                        have zz98_8 : (M360.1 98 8).toInt = (M313.1 98 8).toInt := s_fb eM360 (by decide) (rfl)
                        have zz98_9 := (Eq.trans (rfl : (M360.1 98 9).toInt = (M360.1 98 9).toInt) (s_wr eM360 (by omega)))
                        have u362 : b01 (RIP M360) = 1 := b01_i (by unfold RIP; omega)
                        have zz98_11 : (M360.1 98 11).toInt = (M313.1 98 11).toInt := s_fb eM360 (by decide) (rfl); have zz98_12 : (M360.1 98 12).toInt = (M313.1 98 12).toInt := s_fb eM360 (by decide) (rfl); have zz98_6 : (M360.1 98 6).toInt = (M313.1 98 6).toInt := s_fb eM360 (by decide) (rfl); have zz98_8 : (M360.1 98 8).toInt = (M313.1 98 8).toInt := s_fb eM360 (by decide) (rfl); exact hret _ _ _ dX12_next_294 ⟨hM360, ((FR.rf.tr fM313 (by decide)).wI eM360 (by decide)), by omega⟩
                      · refine y_bipush C dX12_next_223 rfl ?_
                        refine j_goto C 230 dX12_next_225 (by decide) ?_
                        refine y_putIF C 11 qX12_next_108 rfl rfl ft_11_9 sb_11_9 hM313 (PM.w hpr rfl rfl) dX12_next_230 (fun M363 eM363 hM363 => ?_)
                        have pM363 := pi_o eM363 (by decide) (by decide) (by omega)
                        refine j_goto C 294 dX12_next_233 (by decide) ?_
                        have zz98_6 : (M363.1 98 6).toInt = (M313.1 98 6).toInt := s_fb eM363 (by decide) (rfl)
                        have zz98_7 : (M363.1 98 7).toInt = (M313.1 98 7).toInt := s_fb eM363 (by decide) (rfl)
                        have zz98_8 : (M363.1 98 8).toInt = (M313.1 98 8).toInt := s_fb eM363 (by decide) (rfl)
                        have zz98_9 := (Eq.trans (rfl : (M363.1 98 9).toInt = (M363.1 98 9).toInt) (s_wr eM363 (by omega)))
                        have zz98_10 : (M363.1 98 10).toInt = (M313.1 98 10).toInt := s_fb eM363 (by decide) (rfl)
                        have u364M := tkm_mk (f := gf) (n := gn) (i := (M268.1 98 6).toInt) (M := M0) (M' := M363) (by omega) (show M363.1 101 = M0.1 101 from ((wI_cell eM363 (by decide)).trans (FR.cell fM313 (by decide)))) (by omega) (by omega) (by omega) (by omega) (by omega)
                        have zz98_6 : (M363.1 98 6).toInt = (M313.1 98 6).toInt := s_fb eM363 (by decide) (rfl)
                        have zz98_7 : (M363.1 98 7).toInt = (M313.1 98 7).toInt := s_fb eM363 (by decide) (rfl)
                        have zz98_8 : (M363.1 98 8).toInt = (M313.1 98 8).toInt := s_fb eM363 (by decide) (rfl)
                        have zz98_9 := (Eq.trans (rfl : (M363.1 98 9).toInt = (M363.1 98 9).toInt) (s_wr eM363 (by omega)))
                        have u365 : b01 (RIP M363) = 1 := b01_i (by unfold RIP; omega)
                        have zz98_11 : (M363.1 98 11).toInt = (M313.1 98 11).toInt := s_fb eM363 (by decide) (rfl); have zz98_12 : (M363.1 98 12).toInt = (M313.1 98 12).toInt := s_fb eM363 (by decide) (rfl); have zz98_6 : (M363.1 98 6).toInt = (M313.1 98 6).toInt := s_fb eM363 (by decide) (rfl); have zz98_8 : (M363.1 98 8).toInt = (M313.1 98 8).toInt := s_fb eM363 (by decide) (rfl); exact hret _ _ _ dX12_next_294 ⟨hM363, ((FR.rf.tr fM313 (by decide)).wI eM363 (by decide)), by omega⟩
                    · refine j_aload_n C 0 0 dX12_next_160 rfl rfl ?_
                      refine y_getI C 11 _ _ fX12_next_101 rfl rfl ft_11_7 sb_11_7 hM313 dX12_next_161 (fun a330 ea330 la330 ua330 => ?_)
                      obtain rfl : a330 = (M313.1 98 7).toInt := ea330
                      refine j_aload_n C 0 0 dX12_next_164 rfl rfl ?_
                      refine y_getI C 11 _ _ fX12_next_98 rfl rfl ft_11_6 sb_11_6 hM313 dX12_next_165 (fun a332 ea332 la332 ua332 => ?_)
                      obtain rfl : a332 = (M313.1 98 6).toInt := ea332
                      refine y_isub C dX12_next_168 ?_
                      refine y_iconst C dX12_next_169 ?_
                      refine y_icmp_ge C 196 dX12_next_170 (by decide) (by omega) (fun h334 => ?_) (fun h334 => ?_)
                      · refine j_aload_n C 0 0 dX12_next_196 rfl rfl ?_
                        refine j_dup C dX12_next_197 rfl ?_
                        refine y_getI C 11 _ _ fX12_next_101 rfl rfl ft_11_7 sb_11_7 hM313 dX12_next_198 (fun a335 ea335 la335 ua335 => ?_)
                        obtain rfl : a335 = (M313.1 98 7).toInt := ea335
                        refine y_iconst C dX12_next_201 ?_
                        refine y_iadd C dX12_next_202 ?_
                        refine y_putI C 11 _ _ qX12_next_101 rfl rfl ft_11_7 sb_11_7 hM313 (PM.w hpr rfl rfl) dX12_next_203 (by omega) (fun M337 eM337 hM337 => ?_)
                        have pM337 := pi_o eM337 (by decide) (by decide) (by omega)
                        refine j_goto C 146 dX12_next_206 (by decide) ?_
                        have u338c := run_c dgB gf gn (M337.1 98 7).toInt (((M313.1 98 7).toInt + 1))
                        have u338V := val_c gf (M268.1 98 6).toInt ((M337.1 98 7).toInt - (M268.1 98 6).toInt) ((M313.1 98 7).toInt + 1 - (M268.1 98 6).toInt)
                        have u338W := val_s gf (M268.1 98 6).toInt (M313.1 98 7).toInt (by omega)
                        have zz98_8 : (M337.1 98 8).toInt = (M313.1 98 8).toInt := s_fb eM337 (by decide) (rfl); have zz98_7 := (Eq.trans (rfl : (M337.1 98 7).toInt = (M337.1 98 7).toInt) (s_wr eM337 (by omega))); have zz98_6 : (M337.1 98 6).toInt = (M313.1 98 6).toInt := s_fb eM337 (by decide) (rfl); have zz98_12 : (M337.1 98 12).toInt = (M313.1 98 12).toInt := s_fb eM337 (by decide) (rfl); have zz98_11 : (M337.1 98 11).toInt = (M313.1 98 11).toInt := s_fb eM337 (by decide) (rfl); have zz98_10 : (M337.1 98 10).toInt = (M313.1 98 10).toInt := s_fb eM337 (by decide) (rfl); exact ih311 M337 (by omega) hM337 ((FR.rf.tr fM313 (by decide)).wI eM337 (by decide))
                      · refine j_aload_n C 0 0 dX12_next_173 rfl rfl ?_
                        refine y_bipush C dX12_next_174 rfl ?_
                        refine j_aload_n C 0 0 dX12_next_176 rfl rfl ?_
                        refine y_getI C 11 _ _ fX12_next_121 rfl rfl ft_11_10 sb_11_10 hM313 dX12_next_177 (fun a339 ea339 la339 ua339 => ?_)
                        obtain rfl : a339 = (M313.1 98 10).toInt := ea339
                        refine y_imul C dX12_next_180 ?_
                        refine j_aload_n C 0 0 dX12_next_181 rfl rfl ?_
                        refine j_aload_n C 0 0 dX12_next_182 rfl rfl ?_
                        refine y_getI C 11 _ _ fX12_next_101 rfl rfl ft_11_7 sb_11_7 hM313 dX12_next_183 (fun a341 ea341 la341 ua341 => ?_)
                        obtain rfl : a341 = (M313.1 98 7).toInt := ea341
                        have k343 := tpm_s (f := gf) (n := gn) (a := (M313.1 98 7).toInt) (M := M0) (M' := M313) (by omega) (show M313.1 101 = M0.1 101 from (FR.cell fM313 (by decide)))
                        refine j_callVi C (d := 0) (As := [.int (sI (M313.1 98 7).toInt)]) (st := [.int (sI (10 * (M313.1 98 10).toInt)), .ref (ad 98)]) 98 (s_lt rfl rfl) (s_kc (c := 11) rfl rfl) (by decide) rfl (s1_X12_see hM313 (M313.1 98 7).toInt (by omega) (by omega)) gX12_next_X12_see rfl hdX12_see (by decide) (Nat.le_of_ble_eq_true rfl) dX12_next_186 rfl (fun r344 M345 h346 => ?_)
                        obtain ⟨a348, rfl, rfl, h347⟩ := h346
                        refine y_iadd C dX12_next_189 ?_
                        refine y_bipush C dX12_next_190 rfl ?_
                        refine y_isub C dX12_next_192 ?_
                        refine y_putI C 11 _ _ qX12_next_121 rfl rfl ft_11_10 sb_11_10 hM313 (PM.w hpr rfl rfl) dX12_next_193 (by omega) (fun M349 eM349 hM349 => ?_)
                        have pM349 := pi_o eM349 (by decide) (by decide) (by omega)
                        refine j_aload_n C 0 0 dX12_next_196 rfl rfl ?_
                        refine j_dup C dX12_next_197 rfl ?_
                        refine y_getI C 11 _ _ fX12_next_101 rfl rfl ft_11_7 sb_11_7 hM349 dX12_next_198 (fun a350 ea350 la350 ua350 => ?_)
                        obtain rfl : a350 = (M313.1 98 7).toInt := s_fb eM349 (by decide) (ea350)
                        refine y_iconst C dX12_next_201 ?_
                        refine y_iadd C dX12_next_202 ?_
                        refine y_putI C 11 _ _ qX12_next_101 rfl rfl ft_11_7 sb_11_7 hM349 (PM.w hpr rfl rfl) dX12_next_203 (by omega) (fun M352 eM352 hM352 => ?_)
                        have pM352 := pi_o eM352 (by decide) (by decide) (by omega)
                        refine j_goto C 146 dX12_next_206 (by decide) ?_
                        have u353c := run_c dgB gf gn (M352.1 98 7).toInt (((M313.1 98 7).toInt + 1))
                        have u353V := val_c gf (M268.1 98 6).toInt ((M352.1 98 7).toInt - (M268.1 98 6).toInt) ((M313.1 98 7).toInt + 1 - (M268.1 98 6).toInt)
                        have u353W := val_s gf (M268.1 98 6).toInt (M313.1 98 7).toInt (by omega)
                        have zz98_8 : (M352.1 98 8).toInt = (M313.1 98 8).toInt := s_fb eM349 (by decide) (s_fb eM352 (by decide) (rfl)); have zz98_7 := (Eq.trans (rfl : (M352.1 98 7).toInt = (M352.1 98 7).toInt) (s_wr eM352 (by omega))); have zz98_6 : (M352.1 98 6).toInt = (M313.1 98 6).toInt := s_fb eM349 (by decide) (s_fb eM352 (by decide) (rfl)); have zz98_12 : (M352.1 98 12).toInt = (M313.1 98 12).toInt := s_fb eM349 (by decide) (s_fb eM352 (by decide) (rfl)); have zz98_11 : (M352.1 98 11).toInt = (M313.1 98 11).toInt := s_fb eM349 (by decide) (s_fb eM352 (by decide) (rfl)); have zz98_10 := (Eq.trans (s_fb eM352 (by decide) (rfl) : (M352.1 98 10).toInt = (M349.1 98 10).toInt) (s_wr eM349 (by omega))); exact ih311 M352 (by omega) hM352 (((FR.rf.tr fM313 (by decide)).wI eM349 (by decide)).wI eM352 (by decide))
                have zz98_8 : (M268.1 98 8).toInt = (M137.1 98 8).toInt := s_fb eM169 (by decide) (s_fb eM268 (by decide) (rfl)); have zz98_7 := (Eq.trans (s_fb eM268 (by decide) (rfl) : (M268.1 98 7).toInt = (M169.1 98 7).toInt) (s_wr eM169 (by omega))); have zz98_6 : (M268.1 98 6).toInt = (M137.1 98 6).toInt := s_fb eM169 (by decide) (s_fb eM268 (by decide) (rfl)); have zz98_12 : (M268.1 98 12).toInt = (M137.1 98 12).toInt := s_fb eM169 (by decide) (s_fb eM268 (by decide) (rfl)); have zz98_11 : (M268.1 98 11).toInt = (M137.1 98 11).toInt := s_fb eM169 (by decide) (s_fb eM268 (by decide) (rfl)); have zz98_10 := (Eq.trans (rfl : (M268.1 98 10).toInt = (M268.1 98 10).toInt) (s_wr eM268 (by omega))); exact L312 2010 M268 (by omega) hM268 (((FR.rf.tr fM137 (by decide)).wI eM169 (by decide)).wI eM268 (by decide))
            · have u366a : (M169.1 98 7).toInt = (M137.1 98 6).toInt := s_wr eM169 (by omega)
              have u366b : (M169.1 98 7).toInt = (M169.1 98 7).toInt := rfl
              have u366c : (M169.1 101 ((M169.1 98 7).toInt).toNat).toInt = (M169.1 101 ((M137.1 98 6).toInt).toNat).toInt := by rw [u366b, u366a]
              have u366c := run_c smB gf gn (M169.1 98 7).toInt ((M137.1 98 6).toInt)
              have zz98_6 : (M169.1 98 6).toInt = (M137.1 98 6).toInt := s_fb eM169 (by decide) (rfl)
              have zz98_7 := (Eq.trans (rfl : (M169.1 98 7).toInt = (M169.1 98 7).toInt) (s_wr eM169 (by omega)))
              have u366g := gf_c gf (M137.1 98 6).toInt (M169.1 98 6).toInt
              have u366n := nt_s (f := gf) (n := gn) (i := (M169.1 98 6).toInt) (by omega) (by omega)
              have u366r := rx_sm gf gn (M169.1 98 6).toInt (by omega)
              have u366d := run_c smB gf gn (M169.1 98 7).toInt (M169.1 98 6).toInt
              have L389 : ∀ (n387 : Nat), ∀ (M390 : mm_M), ((0 ≤ (M390.1 98 6).toInt) ∧ ((M390.1 98 8).toInt = (M0.1 98 8).toInt) ∧ ((M390.1 98 11).toInt = (M0.1 98 11).toInt) ∧ ((M0.1 98 7).toInt ≤ (M390.1 98 6).toInt) ∧ ((M390.1 98 6).toInt ≤ (M390.1 98 8).toInt) ∧ ((M390.1 98 8).toInt ≤ 900) ∧ ((M390.1 98 7).toInt ≤ (M390.1 98 8).toInt) ∧ ((M390.1 98 6).toInt < (M390.1 98 7).toInt ∨ (M390.1 98 7).toInt = (M390.1 98 6).toInt ∧ (M390.1 98 7).toInt < (M390.1 98 8).toInt ∧ 97 ≤ (M390.1 101 (M390.1 98 7).toInt.toNat).toInt ∧ (M390.1 101 (M390.1 98 7).toInt.toNat).toInt ≤ 122) ∧ (runE smB gf gn (M390.1 98 7).toInt = runE smB gf gn ((M169.1 98 6).toInt + 1)) ∧ ((M390.1 98 6).toInt = (M169.1 98 6).toInt) ∧ ((M390.1 98 6).toInt = runE blB gf gn (M0.1 98 7).toInt) ∧ ((M390.1 98 12).toInt = (M0.1 98 12).toInt) ∧ (b01 (PI M390) = 1) ∧ (900 - (M390.1 98 7).toInt) < (n387 : Int)) → INV pr Kz M390 → FR [98] M0 M390 → jj p l e (cn_R 5) s m args below meth c 0 0 Q 2 dC dI ad cA A M390 89 [(0, .ref (ad 98))] [] := by
                intro n387
                induction n387 with
                | zero =>
                  intro M390 h391 hM390 fM390
                  exfalso; omega
                | succ n387 ih388 =>
                  intro M390 h391 hM390 fM390
                  have u392R := rx_sm gf gn (M390.1 98 7).toInt (by omega)
                  refine j_aload_n C 0 0 dX12_next_89 rfl rfl ?_
                  refine j_aload_n C 0 0 dX12_next_90 rfl rfl ?_
                  refine y_getI C 11 _ _ fX12_next_101 rfl rfl ft_11_7 sb_11_7 hM390 dX12_next_91 (fun a393 ea393 la393 ua393 => ?_)
                  obtain rfl : a393 = (M390.1 98 7).toInt := ea393
                  have k395 := tpm_s (f := gf) (n := gn) (a := (M390.1 98 7).toInt) (M := M0) (M' := M390) (by omega) (show M390.1 101 = M0.1 101 from (FR.cell fM390 (by decide)))
                  refine j_callVi C (d := 0) (As := [.int (sI (M390.1 98 7).toInt)]) (st := []) 98 (s_lt rfl rfl) (s_kc (c := 11) rfl rfl) (by decide) rfl (s1_X12_see hM390 (M390.1 98 7).toInt (by omega) (by omega)) gX12_next_X12_see rfl hdX12_see (by decide) (Nat.le_of_ble_eq_true rfl) dX12_next_94 rfl (fun r396 M397 h398 => ?_)
                  obtain ⟨a400, rfl, rfl, h399⟩ := h398
                  refine j_callSi C (d := 0) (As := [.int (sI a400)]) (st := []) (s1_X12_isSmall hM390 a400 (by omega)) gX12_next_X12_isSmall rfl hdX12_isSmalls (by decide) (Nat.le_of_ble_eq_true rfl) dX12_next_97 rfl (fun r401 M402 h403 => ?_)
                  obtain ⟨a405, rfl, rfl, h404⟩ := h403
                  refine y_if_eq C 116 dX12_next_100 (by decide) (by omega) (fun h406 => ?_) (fun h406 => ?_)
                  · refine j_aload_n C 0 0 dX12_next_116 rfl rfl ?_
                    refine j_aload_n C 0 0 dX12_next_117 rfl rfl ?_
                    refine j_callVi C (d := 4) (As := []) (st := [.ref (ad 98)]) 98 (s_lt rfl rfl) (s_kc (c := 11) rfl rfl) (by decide) rfl (s1_X12_keyAt hM390 gf gn (by omega) (by omega) (by omega)) gX12_next_X12_keyAt rfl hdX12_keyAt (by decide) (Nat.le_of_ble_eq_true rfl) dX12_next_118 rfl (fun r411 M412 h413 => ?_)
                    obtain ⟨a415, rfl, rfl, h414⟩ := h413
                    have u416w := tw_c gf (M169.1 98 6).toInt ((M390.1 98 7).toInt - (M169.1 98 6).toInt) (runE smB gf gn ((M169.1 98 6).toInt + 1) - (M169.1 98 6).toInt)
                    refine y_putIF C 11 qX12_next_108 rfl rfl ft_11_9 sb_11_9 hM390 (PM.w hpr rfl rfl) dX12_next_121 (fun M417 eM417 hM417 => ?_)
                    have pM417 := pi_o eM417 (by decide) (by decide) (by omega)
                    refine j_goto C 294 dX12_next_124 (by decide) ?_
                    have zz98_6 : (M417.1 98 6).toInt = (M390.1 98 6).toInt := s_fb eM417 (by decide) (rfl)
                    have zz98_7 : (M417.1 98 7).toInt = (M390.1 98 7).toInt := s_fb eM417 (by decide) (rfl)
                    have zz98_8 : (M417.1 98 8).toInt = (M390.1 98 8).toInt := s_fb eM417 (by decide) (rfl)
                    have zz98_9 := (Eq.trans (rfl : (M417.1 98 9).toInt = (M417.1 98 9).toInt) (s_wr eM417 (by omega)))
                    have zz98_10 : (M417.1 98 10).toInt = (M390.1 98 10).toInt := s_fb eM417 (by decide) (rfl)
                    have u418M := tkm_mk (f := gf) (n := gn) (i := (M169.1 98 6).toInt) (M := M0) (M' := M417) (by omega) (show M417.1 101 = M0.1 101 from ((wI_cell eM417 (by decide)).trans (FR.cell fM390 (by decide)))) (by omega) (by omega) (by omega) (by omega) (by omega)
                    have zz98_6 : (M417.1 98 6).toInt = (M390.1 98 6).toInt := s_fb eM417 (by decide) (rfl)
                    have zz98_7 : (M417.1 98 7).toInt = (M390.1 98 7).toInt := s_fb eM417 (by decide) (rfl)
                    have zz98_8 : (M417.1 98 8).toInt = (M390.1 98 8).toInt := s_fb eM417 (by decide) (rfl)
                    have zz98_9 := (Eq.trans (rfl : (M417.1 98 9).toInt = (M417.1 98 9).toInt) (s_wr eM417 (by omega)))
                    have u419 : b01 (RIP M417) = 1 := b01_i (by unfold RIP; omega)
                    have zz98_11 : (M417.1 98 11).toInt = (M390.1 98 11).toInt := s_fb eM417 (by decide) (rfl); have zz98_12 : (M417.1 98 12).toInt = (M390.1 98 12).toInt := s_fb eM417 (by decide) (rfl); have zz98_6 : (M417.1 98 6).toInt = (M390.1 98 6).toInt := s_fb eM417 (by decide) (rfl); have zz98_8 : (M417.1 98 8).toInt = (M390.1 98 8).toInt := s_fb eM417 (by decide) (rfl); exact hret _ _ _ dX12_next_294 ⟨hM417, ((FR.rf.tr fM390 (by decide)).wI eM417 (by decide)), by omega⟩
                  · refine j_aload_n C 0 0 dX12_next_103 rfl rfl ?_
                    refine j_dup C dX12_next_104 rfl ?_
                    refine y_getI C 11 _ _ fX12_next_101 rfl rfl ft_11_7 sb_11_7 hM390 dX12_next_105 (fun a407 ea407 la407 ua407 => ?_)
                    obtain rfl : a407 = (M390.1 98 7).toInt := ea407
                    refine y_iconst C dX12_next_108 ?_
                    refine y_iadd C dX12_next_109 ?_
                    refine y_putI C 11 _ _ qX12_next_101 rfl rfl ft_11_7 sb_11_7 hM390 (PM.w hpr rfl rfl) dX12_next_110 (by omega) (fun M409 eM409 hM409 => ?_)
                    have pM409 := pi_o eM409 (by decide) (by decide) (by omega)
                    refine j_goto C 89 dX12_next_113 (by decide) ?_
                    have u410c := run_c smB gf gn (M409.1 98 7).toInt (((M390.1 98 7).toInt + 1))
                    have zz98_8 : (M409.1 98 8).toInt = (M390.1 98 8).toInt := s_fb eM409 (by decide) (rfl); have zz98_7 := (Eq.trans (rfl : (M409.1 98 7).toInt = (M409.1 98 7).toInt) (s_wr eM409 (by omega))); have zz98_6 : (M409.1 98 6).toInt = (M390.1 98 6).toInt := s_fb eM409 (by decide) (rfl); have zz98_12 : (M409.1 98 12).toInt = (M390.1 98 12).toInt := s_fb eM409 (by decide) (rfl); have zz98_11 : (M409.1 98 11).toInt = (M390.1 98 11).toInt := s_fb eM409 (by decide) (rfl); exact ih388 M409 (by omega) hM409 ((FR.rf.tr fM390 (by decide)).wI eM409 (by decide))
              have zz98_8 : (M169.1 98 8).toInt = (M137.1 98 8).toInt := s_fb eM169 (by decide) (rfl); have zz98_7 := (Eq.trans (rfl : (M169.1 98 7).toInt = (M169.1 98 7).toInt) (s_wr eM169 (by omega))); have zz98_6 : (M169.1 98 6).toInt = (M137.1 98 6).toInt := s_fb eM169 (by decide) (rfl); have zz98_12 : (M169.1 98 12).toInt = (M137.1 98 12).toInt := s_fb eM169 (by decide) (rfl); have zz98_11 : (M169.1 98 11).toInt = (M137.1 98 11).toInt := s_fb eM169 (by decide) (rfl); exact L389 2010 M169 (by omega) hM169 ((FR.rf.tr fM137 (by decide)).wI eM169 (by decide))
          · refine j_aload_n C 0 0 dX12_next_66 rfl rfl ?_
            refine y_bipush C dX12_next_67 rfl ?_
            refine y_putIF C 11 qX12_next_108 rfl rfl ft_11_9 sb_11_9 hM169 (PM.w hpr rfl rfl) dX12_next_69 (fun M420 eM420 hM420 => ?_)
            have pM420 := pi_o eM420 (by decide) (by decide) (by omega)
            refine j_goto C 294 dX12_next_72 (by decide) ?_
            have zz98_6 : (M420.1 98 6).toInt = (M137.1 98 6).toInt := s_fb eM169 (by decide) (s_fb eM420 (by decide) (rfl))
            have zz98_7 := (Eq.trans (s_fb eM420 (by decide) (rfl) : (M420.1 98 7).toInt = (M169.1 98 7).toInt) (s_wr eM169 (by omega)))
            have zz98_8 : (M420.1 98 8).toInt = (M137.1 98 8).toInt := s_fb eM169 (by decide) (s_fb eM420 (by decide) (rfl))
            have zz98_9 := (Eq.trans (rfl : (M420.1 98 9).toInt = (M420.1 98 9).toInt) (s_wr eM420 (by omega)))
            have zz98_10 : (M420.1 98 10).toInt = (M137.1 98 10).toInt := s_fb eM169 (by decide) (s_fb eM420 (by decide) (rfl))
            have u421M := tkm_mk (f := gf) (n := gn) (i := (M137.1 98 6).toInt) (M := M0) (M' := M420) (by omega) (show M420.1 101 = M0.1 101 from (((wI_cell eM420 (by decide)).trans (wI_cell eM169 (by decide))).trans (FR.cell fM137 (by decide)))) (by omega) (by omega) (by omega) (by omega) (by omega)
            have zz98_6 : (M420.1 98 6).toInt = (M137.1 98 6).toInt := s_fb eM169 (by decide) (s_fb eM420 (by decide) (rfl))
            have zz98_7 := (Eq.trans (s_fb eM420 (by decide) (rfl) : (M420.1 98 7).toInt = (M169.1 98 7).toInt) (s_wr eM169 (by omega)))
            have zz98_8 : (M420.1 98 8).toInt = (M137.1 98 8).toInt := s_fb eM169 (by decide) (s_fb eM420 (by decide) (rfl))
            have zz98_9 := (Eq.trans (rfl : (M420.1 98 9).toInt = (M420.1 98 9).toInt) (s_wr eM420 (by omega)))
            have u422 : b01 (RIP M420) = 1 := b01_i (by unfold RIP; omega)
            have zz98_11 : (M420.1 98 11).toInt = (M137.1 98 11).toInt := s_fb eM169 (by decide) (s_fb eM420 (by decide) (rfl)); have zz98_12 : (M420.1 98 12).toInt = (M137.1 98 12).toInt := s_fb eM169 (by decide) (s_fb eM420 (by decide) (rfl)); have zz98_6 : (M420.1 98 6).toInt = (M137.1 98 6).toInt := s_fb eM169 (by decide) (s_fb eM420 (by decide) (rfl)); have zz98_8 : (M420.1 98 8).toInt = (M137.1 98 8).toInt := s_fb eM169 (by decide) (s_fb eM420 (by decide) (rfl)); exact hret _ _ _ dX12_next_294 ⟨hM420, (((FR.rf.tr fM137 (by decide)).wI eM169 (by decide)).wI eM420 (by decide)), by omega⟩
        · refine j_aload_n C 0 0 dX12_next_34 rfl rfl ?_
          refine j_dup C dX12_next_35 rfl ?_
          refine y_getI C 11 _ _ fX12_next_98 rfl rfl ft_11_6 sb_11_6 hM137 dX12_next_36 (fun a162 ea162 la162 ua162 => ?_)
          obtain rfl : a162 = (M137.1 98 6).toInt := ea162
          refine y_iconst C dX12_next_39 ?_
          refine y_iadd C dX12_next_40 ?_
          refine y_putI C 11 _ _ qX12_next_98 rfl rfl ft_11_6 sb_11_6 hM137 (PM.w hpr rfl rfl) dX12_next_41 (by omega) (fun M164 eM164 hM164 => ?_)
          have pM164 := pi_o eM164 (by decide) (by decide) (by omega)
          refine j_goto C 8 dX12_next_44 (by decide) ?_
          have u165c := run_c blB gf gn (M164.1 98 6).toInt (((M137.1 98 6).toInt + 1))
          have zz98_8 : (M164.1 98 8).toInt = (M137.1 98 8).toInt := s_fb eM164 (by decide) (rfl); have zz98_6 := (Eq.trans (rfl : (M164.1 98 6).toInt = (M164.1 98 6).toInt) (s_wr eM164 (by omega))); have zz98_12 : (M164.1 98 12).toInt = (M137.1 98 12).toInt := s_fb eM164 (by decide) (rfl); have zz98_11 : (M164.1 98 11).toInt = (M137.1 98 11).toInt := s_fb eM164 (by decide) (rfl); exact ih135 M164 (by omega) hM164 ((FR.rf.tr fM137 (by decide)).wI eM164 (by decide))
  have zz98_8 : (M104.1 98 8).toInt = (M0.1 98 8).toInt := s_fb eM104 (by decide) (rfl); have zz98_6 := (Eq.trans (rfl : (M104.1 98 6).toInt = (M104.1 98 6).toInt) (s_wr eM104 (by omega))); have zz98_12 : (M104.1 98 12).toInt = (M0.1 98 12).toInt := s_fb eM104 (by decide) (rfl); have zz98_11 : (M104.1 98 11).toInt = (M0.1 98 11).toInt := s_fb eM104 (by decide) (rfl); exact L136 2010 M104 (by omega) hM104 (FR.rf.wI eM104 (by decide))
set_option maxHeartbeats 4000000 in
theorem s1_X12_is {l : Launch} {dC : Nat → ClassId} {dI : Nat → Nat → Nat} {ad : Nat → Nat} {cA : Nat → ClassId} {pr : Nat → Nat → Bool} {Kz : mm_M} {M0 : mm_M} (hM0 : INV pr Kz M0) (a1 : Int) (ha1 : -2147483648 ≤ a1 ∧ a1 ≤ 2147483647) : Ci l 0 yX12_is wsX12_is dC dI ad cA [.ref (ad 98), .int (sI a1)] M0 (fun r M' => ∃ a : Int, r = sI a ∧ M0 = M' ∧ 0 ≤ a ∧ a ≤ 1 ∧ ((¬ (M0.1 98 11).toInt = 0 ∧ a = 0) ∨ (0 ≤ (M0.1 98 11).toInt ∧ (M0.1 98 11).toInt ≤ 0 ∧ (M0.1 98 11).toInt = 0 ∧ ¬ (M0.1 98 9).toInt = a1 ∧ a = 0) ∨ (0 ≤ (M0.1 98 11).toInt ∧ (M0.1 98 11).toInt ≤ 0 ∧ (M0.1 98 11).toInt = 0 ∧ (M0.1 98 9).toInt = a1 ∧ a = 1))) := by
  refine ci_of (cc := cX12_is) (maxL := 2) (ty := .boolean) (lv := [(0, .ref (ad 98)), (1, .int (sI a1))]) (by decide) rfl (fun r M' hp => by obtain ⟨a, rfl, -, h⟩ := hp; rcases (show a = 0 ∨ a = 1 by omega) with rfl | rfl <;> rfl) (Nat.le_of_ble_eq_true rfl) rfl ?_
  intro p e s m args below meth c A Q C hret
  refine j_aload_n C 0 0 dX12_is_0 rfl rfl ?_
  refine y_getI C 11 _ _ fX12_is_126 rfl rfl ft_11_11 sb_11_11 hM0 dX12_is_1 (fun a101 ea101 la101 ua101 => ?_)
  obtain rfl : a101 = (M0.1 98 11).toInt := ea101
  refine y_if_ne C 19 dX12_is_4 (by decide) (by omega) (fun h103 => ?_) (fun h103 => ?_)
  · refine y_iconst C dX12_is_19 ?_
    exact hret _ _ _ _ dX12_is_20 ⟨0, rfl, rfl, by omega⟩
  · refine j_aload_n C 0 0 dX12_is_7 rfl rfl ?_
    refine y_getI C 11 _ _ fX12_is_108 rfl rfl ft_11_9 sb_11_9 hM0 dX12_is_8 (fun a104 ea104 la104 ua104 => ?_)
    obtain rfl : a104 = (M0.1 98 9).toInt := ea104
    refine j_iload_n C 1 1 dX12_is_11 rfl rfl ?_
    refine y_icmp_ne C 19 dX12_is_12 (by decide) (by omega) (fun h106 => ?_) (fun h106 => ?_)
    · refine y_iconst C dX12_is_19 ?_
      exact hret _ _ _ _ dX12_is_20 ⟨0, rfl, rfl, by omega⟩
    · refine y_iconst C dX12_is_15 ?_
      refine j_goto C 20 dX12_is_16 (by decide) ?_
      exact hret _ _ _ _ dX12_is_20 ⟨1, rfl, rfl, by omega⟩
set_option maxHeartbeats 4000000 in
theorem s1_X12_eats {l : Launch} {dC : Nat → ClassId} {dI : Nat → Nat → Nat} {ad : Nat → Nat} {cA : Nat → ClassId} {pr : Nat → Nat → Bool} {Kz : mm_M} {M0 : mm_M} (hM0 : INV pr Kz M0) (hpr : PM pr) (a1 : Int) (ha1 : -2147483648 ≤ a1 ∧ a1 ≤ 2147483647) (gf : Nat → Int) (gn : Int) (gi : Int) (hp0 : b01 (RIP M0) = 1) (hp1 : ¬ a1 = 24) (hp2 : b01 (TKM gf gn M0) = 1) (hp3 : b01 (PO gn gi (M0.1 98 11).toInt (M0.1 98 6).toInt) = 1) (hp4 : b01 (PI M0) = 1) : Ci l 6 yX12_eats wsX12_eats dC dI ad cA [.ref (ad 98), .int (sI a1)] M0 (fun r M' => ∃ a : Int, r = sI a ∧ INV pr Kz M' ∧ FR [98] M0 M' ∧ 0 ≤ a ∧ a ≤ 1 ∧ (b01 (RIP M') = 1) ∧ ((M'.1 98 8).toInt = (M0.1 98 8).toInt) ∧ (a = 0 ∧ (M'.1 98 6).toInt = (M0.1 98 6).toInt ∧ (M'.1 98 11).toInt = (M0.1 98 11).toInt ∨ a = 1 ∧ (M0.1 98 11).toInt = 0 ∧ (M'.1 98 11).toInt = 0 ∧ (M0.1 98 6).toInt + 1 ≤ (M'.1 98 6).toInt) ∧ (a = 1 ∧ (M0.1 98 11).toInt = 0 ∧ kdF (tkF gf gn (M0.1 98 6).toInt) = a1 ∧ (M'.1 98 11).toInt = 0 ∧ (M'.1 98 12).toInt = (M0.1 98 12).toInt ∧ b01 (PO gn (nxF gf gn gi) (M'.1 98 11).toInt (M'.1 98 6).toInt) = 1 ∨ a = 0 ∧ (M'.1 98 11).toInt = (M0.1 98 11).toInt ∧ (M'.1 98 12).toInt = (M0.1 98 12).toInt ∧ (M'.1 98 6).toInt = (M0.1 98 6).toInt ∧ (¬ (M0.1 98 11).toInt = 0 ∨ ¬ kdF (tkF gf gn (M0.1 98 6).toInt) = a1)) ∧ (b01 (PI M') = 1) ∧ (b01 (TKM gf gn M') = 1)) := by
  refine ci_of (cc := cX12_eats) (maxL := 2) (ty := .boolean) (lv := [(0, .ref (ad 98)), (1, .int (sI a1))]) (by decide) rfl (fun r M' hp => by obtain ⟨a, rfl, -, h⟩ := hp; rcases (show a = 0 ∨ a = 1 by omega) with rfl | rfl <;> rfl) (Nat.le_of_ble_eq_true rfl) rfl ?_
  intro p e s m args below meth c A Q C hret
  have u101l := ri_l (M := M0) (by omega)
  have k102 := tkm_K (f := gf) (n := gn) (M := M0) (by omega)
  have k103 := kd_2 (kdk_24 gf gn (M0.1 98 6).toInt) (by omega)
  refine j_aload_n C 0 0 dX12_eats_0 rfl rfl ?_
  refine j_iload_n C 1 1 dX12_eats_1 rfl rfl ?_
  have k104 := tkm_K (f := gf) (n := gn) (M := M0) (by omega)
  refine j_callVi C (d := 0) (As := [.int (sI a1)]) (st := []) 98 (s_lt rfl rfl) (s_kc (c := 11) rfl rfl) (by decide) rfl (s1_X12_is hM0 a1 (by omega)) gX12_eats_X12_is rfl hdX12_is (by decide) (Nat.le_of_ble_eq_true rfl) dX12_eats_2 rfl (fun r105 M106 h107 => ?_)
  obtain ⟨a109, rfl, rfl, h108⟩ := h107
  refine y_if_ne C 10 dX12_eats_5 (by decide) (by omega) (fun h110 => ?_) (fun h110 => ?_)
  · have u111k := ri_k (M := M0) (by omega) (by omega)
    refine j_aload_n C 0 0 dX12_eats_10 rfl rfl ?_
    have k112 := tkm_p (f := gf) (n := gn) (M := M0) (by omega)
    have k113 := tkm_K (f := gf) (n := gn) (M := M0) (by omega)
    refine j_callVv C (d := 5) (As := []) (st := []) 98 (s_lt rfl rfl) (s_kc (c := 11) rfl rfl) (by decide) rfl (s1_X12_next hM0 hpr gf gn (by omega) (by omega) (by omega) (by omega)) gX12_eats_X12_next rfl hdX12_next (by decide) (Nat.le_of_ble_eq_true rfl) dX12_eats_11 rfl (fun M115 h116 => ?_)
    obtain ⟨hM115, fM115, h117⟩ := h116
    have bM115 := tkm_b (f := gf) (n := gn) (M := M115) (by omega)
    have qM115 := nx_po (f := gf) (n := gn) (i := gi) (M := M0) (M' := M115) (by omega) (by omega) (by omega) (by omega) (by omega)
    refine y_iconst C dX12_eats_14 ?_
    exact hret _ _ _ _ dX12_eats_15 ⟨1, rfl, hM115, (FR.rf.tr fM115 (by decide)), by omega⟩
  · refine y_iconst C dX12_eats_8 ?_
    exact hret _ _ _ _ dX12_eats_9 ⟨0, rfl, hM0, FR.rf, by omega⟩
set_option maxHeartbeats 4000000 in
theorem s1_X12_fails {l : Launch} {dC : Nat → ClassId} {dI : Nat → Nat → Nat} {ad : Nat → Nat} {cA : Nat → ClassId} {pr : Nat → Nat → Bool} {Kz : mm_M} {M0 : mm_M} (hM0 : INV pr Kz M0) (hpr : PM pr) (a1 : Int) (ha1 : -2147483648 ≤ a1 ∧ a1 ≤ 2147483647) (gf : Nat → Int) (gn : Int) (gi : Int) (hp0 : b01 (RIP M0) = 1) (hp1 : 2 ≤ a1 ∧ a1 ≤ 4) (hp2 : b01 (TKM gf gn M0) = 1) (hp3 : b01 (PO gn gi (M0.1 98 11).toInt (M0.1 98 6).toInt) = 1) (hp4 : b01 (PI M0) = 1) : Cv l 0 yX12_fails wsX12_fails dC dI ad cA [.ref (ad 98), .int (sI a1)] M0 (fun M' => INV pr Kz M' ∧ FR [98] M0 M' ∧ (¬ (M'.1 98 11).toInt = 0) ∧ ((M'.1 98 6).toInt = (M0.1 98 6).toInt ∧ (M'.1 98 8).toInt = (M0.1 98 8).toInt) ∧ (b01 (RIP M') = 1) ∧ (b01 (PI M') = 1) ∧ (b01 (TKM gf gn M') = 1) ∧ b01 (RR ((faQ gf gn a1) gi) (M0.1 98 11).toInt (M0.1 98 12).toInt (M'.1 98 11).toInt (M'.1 98 12).toInt (M'.1 98 6).toInt) = 1) := by
  refine cv_of (cc := cX12_fails) (maxL := 2) (lv := [(0, .ref (ad 98)), (1, .int (sI a1))]) (by decide) rfl (Nat.le_of_ble_eq_true rfl) rfl ?_
  intro p e s m args below meth c A Q C hret
  have u101l := ri_l (M := M0) (by omega)
  have u101k := fun h => ri_k (M := M0) (by omega) h
  have u101f := flP_s gf gn gi a1
  have k102 := tkm_K (f := gf) (n := gn) (M := M0) (by omega)
  have k103 := kd_2 (kdk_25 gf gn (M0.1 98 6).toInt) (by omega)
  have u101c := tk_c gf gn (M0.1 98 6).toInt gi
  have u101e := po_e (n := gn) (i := gi) (a := (M0.1 98 11).toInt) (p := (M0.1 98 6).toInt) (by omega)
  refine j_aload_n C 0 0 dX12_fails_0 rfl rfl ?_
  refine y_getI C 11 _ _ fX12_fails_126 rfl rfl ft_11_11 sb_11_11 hM0 dX12_fails_1 (fun a104 ea104 la104 ua104 => ?_)
  obtain rfl : a104 = (M0.1 98 11).toInt := ea104
  refine y_if_eq C 8 dX12_fails_4 (by decide) (by omega) (fun h106 => ?_) (fun h106 => ?_)
  · refine j_aload_n C 0 0 dX12_fails_8 rfl rfl ?_
    refine j_aload_n C 0 0 dX12_fails_9 rfl rfl ?_
    refine y_getI C 11 _ _ fX12_fails_108 rfl rfl ft_11_9 sb_11_9 hM0 dX12_fails_10 (fun a107 ea107 la107 ua107 => ?_)
    obtain rfl : a107 = (M0.1 98 9).toInt := ea107
    refine y_bipush C dX12_fails_13 rfl ?_
    refine y_icmp_ne C 22 dX12_fails_15 (by decide) (by omega) (fun h109 => ?_) (fun h109 => ?_)
    · refine j_iload_n C 1 1 dX12_fails_22 rfl rfl ?_
      refine y_putIF C 11 qX12_fails_126 rfl rfl ft_11_11 sb_11_11 hM0 (PM.w hpr rfl rfl) dX12_fails_23 (fun M110 eM110 hM110 => ?_)
      have xM110 := tkm_f (f := gf) (n := gn) eM110 (by decide) (by omega)
      have pM110 := pi_o eM110 (by decide) (by decide) (by omega)
      refine j_aload_n C 0 0 dX12_fails_26 rfl rfl ?_
      refine j_aload_n C 0 0 dX12_fails_27 rfl rfl ?_
      refine y_getI C 11 _ _ fX12_fails_98 rfl rfl ft_11_6 sb_11_6 hM110 dX12_fails_28 (fun a111 ea111 la111 ua111 => ?_)
      obtain rfl : a111 = (M0.1 98 6).toInt := s_fb eM110 (by decide) (ea111)
      refine y_putIF C 11 qX12_fails_129 rfl rfl ft_11_12 sb_11_12 hM110 (PM.w hpr rfl rfl) dX12_fails_31 (fun M113 eM113 hM113 => ?_)
      have xM113 := tkm_f (f := gf) (n := gn) eM113 (by decide) (by omega)
      have pM113 := pi_o eM113 (by decide) (by decide) (by omega)
      have zz98_6 : (M113.1 98 6).toInt = (M0.1 98 6).toInt := s_fb eM110 (by decide) (s_fb eM113 (by decide) (rfl))
      have zz98_7 : (M113.1 98 7).toInt = (M0.1 98 7).toInt := s_fb eM110 (by decide) (s_fb eM113 (by decide) (rfl))
      have zz98_8 : (M113.1 98 8).toInt = (M0.1 98 8).toInt := s_fb eM110 (by decide) (s_fb eM113 (by decide) (rfl))
      have zz98_9 : (M113.1 98 9).toInt = (M0.1 98 9).toInt := s_fb eM110 (by decide) (s_fb eM113 (by decide) (rfl))
      have u114 : b01 (RIP M113) = 1 := b01_i (by unfold RIP; omega)
      have u1141 : (faQ gf gn a1 gi).1 = flP gf gn gi a1 := rfl
      have u1142 : (faQ gf gn a1 gi).2.1 = gi := rfl
      have zz98_11 := (Eq.trans (s_fb eM113 (by decide) (rfl) : (M113.1 98 11).toInt = (M110.1 98 11).toInt) (s_wr eM110 (by omega)))
      have zz98_12 := (Eq.trans (rfl : (M113.1 98 12).toInt = (M113.1 98 12).toInt) (s_wr eM113 (by omega)))
      have zz98_6 : (M113.1 98 6).toInt = (M0.1 98 6).toInt := s_fb eM110 (by decide) (s_fb eM113 (by decide) (rfl))
      have u114r : b01 (RR (faQ gf gn a1 gi) (M0.1 98 11).toInt (M0.1 98 12).toInt (M113.1 98 11).toInt (M113.1 98 12).toInt (M113.1 98 6).toInt) = 1 := b01_i (by unfold RR; omega)
      have zz98_11 := (Eq.trans (s_fb eM113 (by decide) (rfl) : (M113.1 98 11).toInt = (M110.1 98 11).toInt) (s_wr eM110 (by omega))); have zz98_12 := (Eq.trans (rfl : (M113.1 98 12).toInt = (M113.1 98 12).toInt) (s_wr eM113 (by omega))); have zz98_6 : (M113.1 98 6).toInt = (M0.1 98 6).toInt := s_fb eM110 (by decide) (s_fb eM113 (by decide) (rfl)); have zz98_8 : (M113.1 98 8).toInt = (M0.1 98 8).toInt := s_fb eM110 (by decide) (s_fb eM113 (by decide) (rfl)); exact hret _ _ _ dX12_fails_34 ⟨hM113, ((FR.rf.wI eM110 (by decide)).wI eM113 (by decide)), by omega⟩
    · refine y_iconst C dX12_fails_18 ?_
      refine j_goto C 23 dX12_fails_19 (by decide) ?_
      refine y_putIF C 11 qX12_fails_126 rfl rfl ft_11_11 sb_11_11 hM0 (PM.w hpr rfl rfl) dX12_fails_23 (fun M115 eM115 hM115 => ?_)
      have xM115 := tkm_f (f := gf) (n := gn) eM115 (by decide) (by omega)
      have pM115 := pi_o eM115 (by decide) (by decide) (by omega)
      refine j_aload_n C 0 0 dX12_fails_26 rfl rfl ?_
      refine j_aload_n C 0 0 dX12_fails_27 rfl rfl ?_
      refine y_getI C 11 _ _ fX12_fails_98 rfl rfl ft_11_6 sb_11_6 hM115 dX12_fails_28 (fun a116 ea116 la116 ua116 => ?_)
      obtain rfl : a116 = (M0.1 98 6).toInt := s_fb eM115 (by decide) (ea116)
      refine y_putIF C 11 qX12_fails_129 rfl rfl ft_11_12 sb_11_12 hM115 (PM.w hpr rfl rfl) dX12_fails_31 (fun M118 eM118 hM118 => ?_)
      have xM118 := tkm_f (f := gf) (n := gn) eM118 (by decide) (by omega)
      have pM118 := pi_o eM118 (by decide) (by decide) (by omega)
      have zz98_6 : (M118.1 98 6).toInt = (M0.1 98 6).toInt := s_fb eM115 (by decide) (s_fb eM118 (by decide) (rfl))
      have zz98_7 : (M118.1 98 7).toInt = (M0.1 98 7).toInt := s_fb eM115 (by decide) (s_fb eM118 (by decide) (rfl))
      have zz98_8 : (M118.1 98 8).toInt = (M0.1 98 8).toInt := s_fb eM115 (by decide) (s_fb eM118 (by decide) (rfl))
      have zz98_9 : (M118.1 98 9).toInt = (M0.1 98 9).toInt := s_fb eM115 (by decide) (s_fb eM118 (by decide) (rfl))
      have u119 : b01 (RIP M118) = 1 := b01_i (by unfold RIP; omega)
      have u1191 : (faQ gf gn a1 gi).1 = flP gf gn gi a1 := rfl
      have u1192 : (faQ gf gn a1 gi).2.1 = gi := rfl
      have zz98_11 := (Eq.trans (s_fb eM118 (by decide) (rfl) : (M118.1 98 11).toInt = (M115.1 98 11).toInt) (s_wr eM115 (by omega)))
      have zz98_12 := (Eq.trans (rfl : (M118.1 98 12).toInt = (M118.1 98 12).toInt) (s_wr eM118 (by omega)))
      have zz98_6 : (M118.1 98 6).toInt = (M0.1 98 6).toInt := s_fb eM115 (by decide) (s_fb eM118 (by decide) (rfl))
      have u119r : b01 (RR (faQ gf gn a1 gi) (M0.1 98 11).toInt (M0.1 98 12).toInt (M118.1 98 11).toInt (M118.1 98 12).toInt (M118.1 98 6).toInt) = 1 := b01_i (by unfold RR; omega)
      have zz98_11 := (Eq.trans (s_fb eM118 (by decide) (rfl) : (M118.1 98 11).toInt = (M115.1 98 11).toInt) (s_wr eM115 (by omega))); have zz98_12 := (Eq.trans (rfl : (M118.1 98 12).toInt = (M118.1 98 12).toInt) (s_wr eM118 (by omega))); have zz98_6 : (M118.1 98 6).toInt = (M0.1 98 6).toInt := s_fb eM115 (by decide) (s_fb eM118 (by decide) (rfl)); have zz98_8 : (M118.1 98 8).toInt = (M0.1 98 8).toInt := s_fb eM115 (by decide) (s_fb eM118 (by decide) (rfl)); exact hret _ _ _ dX12_fails_34 ⟨hM118, ((FR.rf.wI eM115 (by decide)).wI eM118 (by decide)), by omega⟩
  · have u1201 : (faQ gf gn a1 gi).1 = flP gf gn gi a1 := rfl
    have u1202 : (faQ gf gn a1 gi).2.1 = gi := rfl
    have u120r : b01 (RR (faQ gf gn a1 gi) (M0.1 98 11).toInt (M0.1 98 12).toInt (M0.1 98 11).toInt (M0.1 98 12).toInt (M0.1 98 6).toInt) = 1 := b01_i (by unfold RR; omega)
    exact hret _ _ _ dX12_fails_7 ⟨hM0, FR.rf, by omega⟩
set_option maxHeartbeats 4000000 in
theorem s1_X12_ends {l : Launch} {dC : Nat → ClassId} {dI : Nat → Nat → Nat} {ad : Nat → Nat} {cA : Nat → ClassId} {pr : Nat → Nat → Bool} {Kz : mm_M} {M0 : mm_M} (hM0 : INV pr Kz M0) (hpr : PM pr) (gf : Nat → Int) (gn : Int) (gi : Int) (hp0 : b01 (RIP M0) = 1) (hp1 : b01 (LV M0) = 1) (hp2 : b01 (TKM gf gn M0) = 1) (hp3 : b01 (PO gn gi (M0.1 98 11).toInt (M0.1 98 6).toInt) = 1) (hp4 : b01 (PI M0) = 1) : Cv l 7 yX12_ends wsX12_ends dC dI ad cA [.ref (ad 98)] M0 (fun M' => INV pr Kz M' ∧ FR [98, 102] M0 M' ∧ (b01 (RIP M') = 1) ∧ ((M'.1 98 8).toInt = (M0.1 98 8).toInt) ∧ ((M0.1 98 6).toInt ≤ (M'.1 98 6).toInt) ∧ (b01 (LV M') = 1) ∧ (¬ (M'.1 98 11).toInt = 0 ∨ (M0.1 98 11).toInt = 0 ∧ (M0.1 98 6).toInt + 1 ≤ (M'.1 98 6).toInt) ∧ ((M'.1 102 26).toInt = (M0.1 102 26).toInt ∧ (M'.1 102 1).toInt = (M0.1 102 1).toInt ∧ (M'.1 102 0).toInt = (M0.1 102 0).toInt + 1) ∧ (b01 (PI M') = 1) ∧ (b01 (TKM gf gn M') = 1) ∧ b01 (RR ((exP gf gn 2059) gi) (M0.1 98 11).toInt (M0.1 98 12).toInt (M'.1 98 11).toInt (M'.1 98 12).toInt (M'.1 98 6).toInt) = 1) := by
  refine cv_of (cc := cX12_ends) (maxL := 1) (lv := [(0, .ref (ad 98))]) (by decide) rfl (Nat.le_of_ble_eq_true rfl) rfl ?_
  intro p e s m args below meth c A Q C hret
  have u101l := ri_l (M := M0) (by omega)
  refine j_aload_n C 0 0 dX12_ends_0 rfl rfl ?_
  refine y_bipush C dX12_ends_1 rfl ?_
  have k102 := tkm_K (f := gf) (n := gn) (M := M0) (by omega)
  have k103 := kd_2 (kdk_30 gf gn (M0.1 98 6).toInt) (by omega)
  refine j_callVi C (d := 6) (As := [.int (sI 30)]) (st := []) 98 (s_lt rfl rfl) (s_kc (c := 11) rfl rfl) (by decide) rfl (s1_X12_eats hM0 hpr 30 (by omega) gf gn gi (by omega) (by omega) (by omega) (by omega) (by omega)) gX12_ends_X12_eats rfl hdX12_eats (by decide) (Nat.le_of_ble_eq_true rfl) dX12_ends_3 rfl (fun r104 M105 h106 => ?_)
  obtain ⟨a108, rfl, hM105, fM105, h107⟩ := h106
  have k109 := tk_c gf gn (M105.1 98 6).toInt (M0.1 98 6).toInt
  have bM105 := tkm_b (f := gf) (n := gn) (M := M105) (by omega)
  have u110v := lv_c (M := M0) (N := M105) (FR.cell fM105 (by decide)) (by omega) (by omega)
  have u110l := ri_l (M := M105) (by omega)
  have J120 : ∀ (M119 : mm_M), ((b01 (RIP M119) = 1) ∧ ((M119.1 98 8).toInt = (M0.1 98 8).toInt) ∧ ((M0.1 98 6).toInt ≤ (M119.1 98 6).toInt) ∧ (b01 (LV M119) = 1) ∧ (¬ (M119.1 98 11).toInt = 0 ∨ (M0.1 98 11).toInt = 0 ∧ (M0.1 98 6).toInt + 1 ≤ (M119.1 98 6).toInt) ∧ (b01 (RR (exP gf gn 2059 gi) (M0.1 98 11).toInt (M0.1 98 12).toInt (M119.1 98 11).toInt (M119.1 98 12).toInt (M119.1 98 6).toInt) = 1) ∧ ((M119.1 102 26).toInt = (M0.1 102 26).toInt ∧ (M119.1 102 1).toInt = (M0.1 102 1).toInt ∧ (M119.1 102 0).toInt = (M0.1 102 0).toInt) ∧ (b01 (TKM gf gn M119) = 1) ∧ (b01 (PO gn (exP gf gn 2059 gi).2.2 (M119.1 98 11).toInt (M119.1 98 6).toInt) = 1) ∧ (b01 (PI M119) = 1)) → INV pr Kz M119 → FR [98, 102] M0 M119 → jj p l e (cn_R 7) s m args below meth c 0 0 Q 1 dC dI ad cA A M119 14 [(0, .ref (ad 98))] [] := by
    intro M119 h121 hM119 fM119
    refine j_aload_n C 0 0 dX12_ends_14 rfl rfl ?_
    refine y_getC C 11 102 fX12_ends_24 rfl rfl ft_11_4 sm_11_4 rfl hM119 dX12_ends_15 ?_
    refine y_iconst C dX12_ends_18 ?_
    refine j_dup2 C dX12_ends_19 rfl rfl ?_
    refine y_ialdF C 48 1181 rfl rfl rfl ak_48 an_48 rfl dX12_ends_20 (by omega) (fun a123 ea123 la123 ua123 => ?_)
    obtain rfl : a123 = (M119.1 102 0).toInt := ea123
    refine y_iconst C dX12_ends_21 ?_
    refine e_iadd C dX12_ends_22 (fun lb124 ub124 => ?_)
    refine y_iastH C 48 1181 rfl rfl rfl ak_48 an_48 rfl _ _ hM119 (PM.w hpr rfl rfl) (hs_48_0_0 _ (by omega) (by omega)) dX12_ends_23 (by omega) (by omega) (fun M125 eM125 hM125 => ?_)
    have xM125 := tkm_w (f := gf) (n := gn) eM125 (by decide) (by decide) (by omega)
    have qM125 := po_eq gn (exP gf gn 2059 gi).2.2 (M119.1 98 11).toInt (M119.1 98 6).toInt (M125.1 98 11).toInt (M125.1 98 6).toInt (by omega) (by omega) (by omega)
    have pM125 := pi_o eM125 (by decide) (by decide) (by omega)
    have u126v := lv_w eM125 (h4b hM119) (by decide) (by omega)
    have u126i := ri_c (M := M119) (N := M125) (wI_cell eM125 (by decide)) (by omega)
    have u126q6 : (M125.1 98 6).toInt = (M119.1 98 6).toInt := by rw [show M125.1 98 = M119.1 98 from wI_cell eM125 (by decide)]
    have u126q8 : (M125.1 98 8).toInt = (M119.1 98 8).toInt := by rw [show M125.1 98 = M119.1 98 from wI_cell eM125 (by decide)]
    have u126q11 : (M125.1 98 11).toInt = (M119.1 98 11).toInt := by rw [show M125.1 98 = M119.1 98 from wI_cell eM125 (by decide)]
    have u127w12 : (M125.1 98 12).toInt = (M119.1 98 12).toInt := by rw [show M125.1 98 = M119.1 98 from wI_cell eM125 (by decide)]
    have u127r := rr_eq (exP gf gn 2059 gi) (M0.1 98 11).toInt (M0.1 98 12).toInt (M119.1 98 11).toInt (M119.1 98 12).toInt (M119.1 98 6).toInt (M125.1 98 11).toInt (M125.1 98 12).toInt (M125.1 98 6).toInt (by omega) (by omega) (by omega) (by omega)
    have zz102_0 : (M125.1 102 0).toInt = (addI (M119.1 102 0).toInt 1) := (Eq.trans (rfl : (M125.1 102 0).toInt = (M125.1 102 0).toInt) (s_wr eM125 (by omega))); have zz102_1 : (M125.1 102 1).toInt = (M119.1 102 1).toInt := s_fb eM125 (by decide) (rfl); have zz102_26 : (M125.1 102 26).toInt = (M119.1 102 26).toInt := s_fb eM125 (by decide) (rfl); have zz98_11 : (M125.1 98 11).toInt = (M119.1 98 11).toInt := s_fa eM125 (by decide) (rfl); have zz98_12 : (M125.1 98 12).toInt = (M119.1 98 12).toInt := s_fa eM125 (by decide) (rfl); have zz98_6 : (M125.1 98 6).toInt = (M119.1 98 6).toInt := s_fa eM125 (by decide) (rfl); have zz98_8 : (M125.1 98 8).toInt = (M119.1 98 8).toInt := s_fa eM125 (by decide) (rfl); exact hret _ _ _ dX12_ends_24 ⟨hM125, ((FR.rf.tr fM119 (by decide)).wI eM125 (by decide)), by omega⟩
  refine y_if_ne C 14 dX12_ends_6 (by decide) (by omega) (fun h111 => ?_) (fun h111 => ?_)
  · have u112x := ex_1 gf gn 2059 gi (M0.1 98 11).toInt (M0.1 98 12).toInt (M0.1 98 6).toInt (M105.1 98 11).toInt (M105.1 98 12).toInt (M105.1 98 6).toInt (by omega) (by omega) (by omega) (by omega) (by omega) (by omega)
    have u112p := po_rr (exP gf gn 2059) gn gi (M0.1 98 11).toInt (M0.1 98 12).toInt (M0.1 98 6).toInt (M105.1 98 11).toInt (M105.1 98 12).toInt (M105.1 98 6).toInt (ex_g gf gn 2059 (by decide)) (by omega) (by omega)
    have zz102_26 : (M105.1 102 26).toInt = (M0.1 102 26).toInt := s_fF fM105 (by decide) (rfl); have zz102_1 : (M105.1 102 1).toInt = (M0.1 102 1).toInt := s_fF fM105 (by decide) (rfl); have zz102_0 : (M105.1 102 0).toInt = (M0.1 102 0).toInt := s_fF fM105 (by decide) (rfl); exact J120 M105 (by omega) hM105 (FR.rf.tr fM105 (by decide))
  · refine j_aload_n C 0 0 dX12_ends_9 rfl rfl ?_
    refine y_iconst C dX12_ends_10 ?_
    have p113 := po_eq gn gi (M0.1 98 11).toInt (M0.1 98 6).toInt (M105.1 98 11).toInt (M105.1 98 6).toInt (by omega) (by omega) (by omega)
    refine j_callVv C (d := 0) (As := [.int (sI 2)]) (st := []) 98 (s_lt rfl rfl) (s_kc (c := 11) rfl rfl) (by decide) rfl (s1_X12_fails hM105 hpr 2 (by omega) gf gn gi (by omega) (by omega) (by omega) (by omega) (by omega)) gX12_ends_X12_fails rfl hdX12_fails (by decide) (Nat.le_of_ble_eq_true rfl) dX12_ends_11 rfl (fun M115 h116 => ?_)
    obtain ⟨hM115, fM115, h117⟩ := h116
    have bM115 := tkm_b (f := gf) (n := gn) (M := M115) (by omega)
    have qM115 := po_f gn ((faQ gf gn 2) gi).2.2 (M115.1 98 11).toInt (M115.1 98 6).toInt (by omega)
    have u118v := lv_c (M := M105) (N := M115) (FR.cell fM115 (by decide)) (by omega) (by omega)
    have u118l := ri_l (M := M115) (by omega)
    have u118x := ex_2z gf gn 2059 gi (M0.1 98 11).toInt (M0.1 98 12).toInt (M0.1 98 6).toInt (M115.1 98 11).toInt (M115.1 98 12).toInt (M115.1 98 6).toInt (by omega) (by omega) (rr_fr (faQ gf gn 2 gi) (M0.1 98 11).toInt (M0.1 98 12).toInt (M105.1 98 11).toInt (M105.1 98 12).toInt (M115.1 98 11).toInt (M115.1 98 12).toInt (M115.1 98 6).toInt (by omega) (by omega) (by omega))
    have u118p := po_rr (exP gf gn 2059) gn gi (M0.1 98 11).toInt (M0.1 98 12).toInt (M0.1 98 6).toInt (M115.1 98 11).toInt (M115.1 98 12).toInt (M115.1 98 6).toInt (ex_g gf gn 2059 (by decide)) (by omega) (by omega)
    have zz102_26 : (M115.1 102 26).toInt = (M0.1 102 26).toInt := s_fF fM105 (by decide) (s_fF fM115 (by decide) (rfl)); have zz102_1 : (M115.1 102 1).toInt = (M0.1 102 1).toInt := s_fF fM105 (by decide) (s_fF fM115 (by decide) (rfl)); have zz102_0 : (M115.1 102 0).toInt = (M0.1 102 0).toInt := s_fF fM105 (by decide) (s_fF fM115 (by decide) (rfl)); exact J120 M115 (by omega) hM115 ((FR.rf.tr fM105 (by decide)).tr fM115 (by decide))
set_option maxHeartbeats 4000000 in
theorem s1_X12_goesIn {l : Launch} {dC : Nat → ClassId} {dI : Nat → Nat → Nat} {ad : Nat → Nat} {cA : Nat → ClassId} {pr : Nat → Nat → Bool} {Kz : mm_M} {M0 : mm_M} (hM0 : INV pr Kz M0) (hpr : PM pr) (gf : Nat → Int) (gn : Int) (gi : Int) (hp0 : b01 (RIP M0) = 1) (hp1 : ¬ tkF gf gn (M0.1 98 6).toInt = 3000) (hp2 : ¬ tkF gf gn (M0.1 98 6).toInt = 3001) (hp3 : (M0.1 98 11).toInt = 0) (hp4 : b01 (TKM gf gn M0) = 1) (hp5 : b01 (PO gn gi (M0.1 98 11).toInt (M0.1 98 6).toInt) = 1) (hp6 : b01 (PI M0) = 1) : Ci l 6 yX12_goesIn wsX12_goesIn dC dI ad cA [.ref (ad 98), .int (sI 0)] M0 (fun r M' => ∃ a : Int, r = sI a ∧ INV pr Kz M' ∧ FR [98] M0 M' ∧ 1 ≤ a ∧ a ≤ 1 ∧ (b01 (RIP M') = 1) ∧ ((M'.1 98 8).toInt = (M0.1 98 8).toInt) ∧ ((M0.1 98 6).toInt ≤ (M'.1 98 6).toInt) ∧ (a = 0 ∧ ¬ (M'.1 98 11).toInt = 0 ∨ a = 1 ∧ (M'.1 98 11).toInt = 0 ∧ (M0.1 98 11).toInt = 0 ∧ (M0.1 98 7).toInt ≤ (M'.1 98 6).toInt) ∧ (a = 1 ∧ (M'.1 98 11).toInt = 0 ∧ (M'.1 98 12).toInt = (M0.1 98 12).toInt ∧ b01 (PO gn (nxF gf gn gi) (M'.1 98 11).toInt (M'.1 98 6).toInt) = 1) ∧ (b01 (PI M') = 1) ∧ (b01 (TKM gf gn M') = 1)) := by
  refine ci_of (cc := cX12_goesIn) (maxL := 2) (ty := .boolean) (lv := [(0, .ref (ad 98)), (1, .int (sI 0))]) (by decide) rfl (fun r M' hp => by obtain ⟨a, rfl, -, h⟩ := hp; rcases (show a = 0 ∨ a = 1 by omega) with rfl | rfl <;> rfl) (Nat.le_of_ble_eq_true rfl) rfl ?_
  intro p e s m args below meth c A Q C hret
  have u101l := ri_l (M := M0) (by omega)
  refine j_iload_n C 1 1 dX12_goesIn_0 rfl rfl ?_
  refine y_bipush C dX12_goesIn_1 rfl ?_
  refine y_icmp_ne C 11 dX12_goesIn_3 (by decide) (by omega) (fun h102 => ?_) (fun h102 => ?_)
  · have u103l := ri_l (M := M0) (by omega)
    refine j_aload_n C 0 0 dX12_goesIn_11 rfl rfl ?_
    refine y_getI C 11 _ _ fX12_goesIn_126 rfl rfl ft_11_11 sb_11_11 hM0 dX12_goesIn_12 (fun a104 ea104 la104 ua104 => ?_)
    obtain rfl : a104 = (M0.1 98 11).toInt := ea104
    refine y_if_ne C 22 dX12_goesIn_15 (by decide) (by omega) (fun h106 => ?_) (fun h106 => ?_)
    · refine j_aload_n C 0 0 dX12_goesIn_22 rfl rfl ?_
      refine y_getI C 11 _ _ fX12_goesIn_126 rfl rfl ft_11_11 sb_11_11 hM0 dX12_goesIn_23 (fun a107 ea107 la107 ua107 => ?_)
      obtain rfl : a107 = (M0.1 98 11).toInt := ea107
      refine y_if_ne C 33 dX12_goesIn_26 (by decide) (by omega) (fun h109 => ?_) (fun h109 => ?_)
      · refine y_iconst C dX12_goesIn_33 ?_
        exact hret _ _ _ _ dX12_goesIn_34 ⟨0, rfl, hM0, FR.rf, by omega⟩
      · exfalso; omega
    · refine j_aload_n C 0 0 dX12_goesIn_18 rfl rfl ?_
      have k110 := tkm_p (f := gf) (n := gn) (M := M0) (by omega)
      have k111 := tkm_K (f := gf) (n := gn) (M := M0) (by omega)
      refine j_callVv C (d := 5) (As := []) (st := []) 98 (s_lt rfl rfl) (s_kc (c := 11) rfl rfl) (by decide) rfl (s1_X12_next hM0 hpr gf gn (by omega) (by omega) (by omega) (by omega)) gX12_goesIn_X12_next rfl hdX12_next (by decide) (Nat.le_of_ble_eq_true rfl) dX12_goesIn_19 rfl (fun M113 h114 => ?_)
      obtain ⟨hM113, fM113, h115⟩ := h114
      have bM113 := tkm_b (f := gf) (n := gn) (M := M113) (by omega)
      have qM113 := nx_po (f := gf) (n := gn) (i := gi) (M := M0) (M' := M113) (by omega) (by omega) (by omega) (by omega) (by omega)
      refine j_aload_n C 0 0 dX12_goesIn_22 rfl rfl ?_
      refine y_getI C 11 _ _ fX12_goesIn_126 rfl rfl ft_11_11 sb_11_11 hM113 dX12_goesIn_23 (fun a116 ea116 la116 ua116 => ?_)
      obtain rfl : a116 = (M113.1 98 11).toInt := ea116
      refine y_if_ne C 33 dX12_goesIn_26 (by decide) (by omega) (fun h118 => ?_) (fun h118 => ?_)
      · refine y_iconst C dX12_goesIn_33 ?_
        exact hret _ _ _ _ dX12_goesIn_34 ⟨0, rfl, hM113, (FR.rf.tr fM113 (by decide)), by omega⟩
      · refine y_iconst C dX12_goesIn_29 ?_
        refine j_goto C 34 dX12_goesIn_30 (by decide) ?_
        exact hret _ _ _ _ dX12_goesIn_34 ⟨1, rfl, hM113, (FR.rf.tr fM113 (by decide)), by omega⟩
  · refine j_aload_n C 0 0 dX12_goesIn_6 rfl rfl ?_
    refine y_iconst C dX12_goesIn_7 ?_
    refine j_callVv C (d := 0) (As := [.int (sI 4)]) (st := []) 98 (s_lt rfl rfl) (s_kc (c := 11) rfl rfl) (by decide) rfl (s1_X12_fails hM0 hpr 4 (by omega) gf gn gi (by omega) (by omega) (by omega) (by omega) (by omega)) gX12_goesIn_X12_fails rfl hdX12_fails (by decide) (Nat.le_of_ble_eq_true rfl) dX12_goesIn_8 rfl (fun M120 h121 => ?_)
    obtain ⟨hM120, fM120, h122⟩ := h121
    have bM120 := tkm_b (f := gf) (n := gn) (M := M120) (by omega)
    have qM120 := po_f gn ((faQ gf gn 4) gi).2.2 (M120.1 98 11).toInt (M120.1 98 6).toInt (by omega)
    have u123l := ri_l (M := M120) (by omega)
    refine j_aload_n C 0 0 dX12_goesIn_11 rfl rfl ?_
    refine y_getI C 11 _ _ fX12_goesIn_126 rfl rfl ft_11_11 sb_11_11 hM120 dX12_goesIn_12 (fun a124 ea124 la124 ua124 => ?_)
    obtain rfl : a124 = (M120.1 98 11).toInt := ea124
    refine y_if_ne C 22 dX12_goesIn_15 (by decide) (by omega) (fun h126 => ?_) (fun h126 => ?_)
    · refine j_aload_n C 0 0 dX12_goesIn_22 rfl rfl ?_
      refine y_getI C 11 _ _ fX12_goesIn_126 rfl rfl ft_11_11 sb_11_11 hM120 dX12_goesIn_23 (fun a127 ea127 la127 ua127 => ?_)
      obtain rfl : a127 = (M120.1 98 11).toInt := ea127
      refine y_if_ne C 33 dX12_goesIn_26 (by decide) (by omega) (fun h129 => ?_) (fun h129 => ?_)
      · refine y_iconst C dX12_goesIn_33 ?_
        exact hret _ _ _ _ dX12_goesIn_34 ⟨0, rfl, hM120, (FR.rf.tr fM120 (by decide)), by omega⟩
      · exfalso; omega
    · refine j_aload_n C 0 0 dX12_goesIn_18 rfl rfl ?_
      have k130 := tkm_p (f := gf) (n := gn) (M := M120) (by omega)
      have k131 := tkm_K (f := gf) (n := gn) (M := M120) (by omega)
      refine j_callVv C (d := 5) (As := []) (st := []) 98 (s_lt rfl rfl) (s_kc (c := 11) rfl rfl) (by decide) rfl (s1_X12_next hM120 hpr gf gn (by omega) (by omega) (by omega) (by omega)) gX12_goesIn_X12_next rfl hdX12_next (by decide) (Nat.le_of_ble_eq_true rfl) dX12_goesIn_19 rfl (fun M133 h134 => ?_)
      obtain ⟨hM133, fM133, h135⟩ := h134
      have bM133 := tkm_b (f := gf) (n := gn) (M := M133) (by omega)
      have qM133 := nx_po (f := gf) (n := gn) (i := ((faQ gf gn 4) gi).2.2) (M := M120) (M' := M133) (by omega) (by omega) (by omega) (by omega) (by omega)
      refine j_aload_n C 0 0 dX12_goesIn_22 rfl rfl ?_
      refine y_getI C 11 _ _ fX12_goesIn_126 rfl rfl ft_11_11 sb_11_11 hM133 dX12_goesIn_23 (fun a136 ea136 la136 ua136 => ?_)
      obtain rfl : a136 = (M133.1 98 11).toInt := ea136
      refine y_if_ne C 33 dX12_goesIn_26 (by decide) (by omega) (fun h138 => ?_) (fun h138 => ?_)
      · refine y_iconst C dX12_goesIn_33 ?_
        exact hret _ _ _ _ dX12_goesIn_34 ⟨0, rfl, hM133, ((FR.rf.tr fM120 (by decide)).tr fM133 (by decide)), by omega⟩
      · refine y_iconst C dX12_goesIn_29 ?_
        refine j_goto C 34 dX12_goesIn_30 (by decide) ?_
        exact hret _ _ _ _ dX12_goesIn_34 ⟨1, rfl, hM133, ((FR.rf.tr fM120 (by decide)).tr fM133 (by decide)), by omega⟩
set_option maxHeartbeats 4000000 in
theorem s2_X12_goesIn {l : Launch} {dC : Nat → ClassId} {dI : Nat → Nat → Nat} {ad : Nat → Nat} {cA : Nat → ClassId} {pr : Nat → Nat → Bool} {Kz : mm_M} {M0 : mm_M} (hM0 : INV pr Kz M0) (hpr : PM pr) (gf : Nat → Int) (gn : Int) (gi : Int) (hp0 : b01 (RIP M0) = 1) (hp1 : ¬ tkF gf gn (M0.1 98 6).toInt = 3000) (hp2 : ¬ tkF gf gn (M0.1 98 6).toInt = 3001) (hp3 : (M0.1 98 11).toInt = 0) (hp4 : b01 (TKM gf gn M0) = 1) (hp5 : b01 (PO gn gi (M0.1 98 11).toInt (M0.1 98 6).toInt) = 1) (hp6 : b01 (PI M0) = 1) : Ci l 6 yX12_goesIn wsX12_goesIn dC dI ad cA [.ref (ad 98), .int (sI 1)] M0 (fun r M' => ∃ a : Int, r = sI a ∧ INV pr Kz M' ∧ FR [98] M0 M' ∧ 1 ≤ a ∧ a ≤ 1 ∧ (b01 (RIP M') = 1) ∧ ((M'.1 98 8).toInt = (M0.1 98 8).toInt) ∧ ((M0.1 98 6).toInt ≤ (M'.1 98 6).toInt) ∧ (a = 0 ∧ ¬ (M'.1 98 11).toInt = 0 ∨ a = 1 ∧ (M'.1 98 11).toInt = 0 ∧ (M0.1 98 11).toInt = 0 ∧ (M0.1 98 7).toInt ≤ (M'.1 98 6).toInt) ∧ (a = 1 ∧ (M'.1 98 11).toInt = 0 ∧ (M'.1 98 12).toInt = (M0.1 98 12).toInt ∧ b01 (PO gn (nxF gf gn gi) (M'.1 98 11).toInt (M'.1 98 6).toInt) = 1) ∧ (b01 (PI M') = 1) ∧ (b01 (TKM gf gn M') = 1)) := by
  refine ci_of (cc := cX12_goesIn) (maxL := 2) (ty := .boolean) (lv := [(0, .ref (ad 98)), (1, .int (sI 1))]) (by decide) rfl (fun r M' hp => by obtain ⟨a, rfl, -, h⟩ := hp; rcases (show a = 0 ∨ a = 1 by omega) with rfl | rfl <;> rfl) (Nat.le_of_ble_eq_true rfl) rfl ?_
  intro p e s m args below meth c A Q C hret
  have u101l := ri_l (M := M0) (by omega)
  refine j_iload_n C 1 1 dX12_goesIn_0 rfl rfl ?_
  refine y_bipush C dX12_goesIn_1 rfl ?_
  refine y_icmp_ne C 11 dX12_goesIn_3 (by decide) (by omega) (fun h102 => ?_) (fun h102 => ?_)
  · have u103l := ri_l (M := M0) (by omega)
    refine j_aload_n C 0 0 dX12_goesIn_11 rfl rfl ?_
    refine y_getI C 11 _ _ fX12_goesIn_126 rfl rfl ft_11_11 sb_11_11 hM0 dX12_goesIn_12 (fun a104 ea104 la104 ua104 => ?_)
    obtain rfl : a104 = (M0.1 98 11).toInt := ea104
    refine y_if_ne C 22 dX12_goesIn_15 (by decide) (by omega) (fun h106 => ?_) (fun h106 => ?_)
    · refine j_aload_n C 0 0 dX12_goesIn_22 rfl rfl ?_
      refine y_getI C 11 _ _ fX12_goesIn_126 rfl rfl ft_11_11 sb_11_11 hM0 dX12_goesIn_23 (fun a107 ea107 la107 ua107 => ?_)
      obtain rfl : a107 = (M0.1 98 11).toInt := ea107
      refine y_if_ne C 33 dX12_goesIn_26 (by decide) (by omega) (fun h109 => ?_) (fun h109 => ?_)
      · refine y_iconst C dX12_goesIn_33 ?_
        exact hret _ _ _ _ dX12_goesIn_34 ⟨0, rfl, hM0, FR.rf, by omega⟩
      · exfalso; omega
    · refine j_aload_n C 0 0 dX12_goesIn_18 rfl rfl ?_
      have k110 := tkm_p (f := gf) (n := gn) (M := M0) (by omega)
      have k111 := tkm_K (f := gf) (n := gn) (M := M0) (by omega)
      refine j_callVv C (d := 5) (As := []) (st := []) 98 (s_lt rfl rfl) (s_kc (c := 11) rfl rfl) (by decide) rfl (s1_X12_next hM0 hpr gf gn (by omega) (by omega) (by omega) (by omega)) gX12_goesIn_X12_next rfl hdX12_next (by decide) (Nat.le_of_ble_eq_true rfl) dX12_goesIn_19 rfl (fun M113 h114 => ?_)
      obtain ⟨hM113, fM113, h115⟩ := h114
      have bM113 := tkm_b (f := gf) (n := gn) (M := M113) (by omega)
      have qM113 := nx_po (f := gf) (n := gn) (i := gi) (M := M0) (M' := M113) (by omega) (by omega) (by omega) (by omega) (by omega)
      refine j_aload_n C 0 0 dX12_goesIn_22 rfl rfl ?_
      refine y_getI C 11 _ _ fX12_goesIn_126 rfl rfl ft_11_11 sb_11_11 hM113 dX12_goesIn_23 (fun a116 ea116 la116 ua116 => ?_)
      obtain rfl : a116 = (M113.1 98 11).toInt := ea116
      refine y_if_ne C 33 dX12_goesIn_26 (by decide) (by omega) (fun h118 => ?_) (fun h118 => ?_)
      · refine y_iconst C dX12_goesIn_33 ?_
        exact hret _ _ _ _ dX12_goesIn_34 ⟨0, rfl, hM113, (FR.rf.tr fM113 (by decide)), by omega⟩
      · refine y_iconst C dX12_goesIn_29 ?_
        refine j_goto C 34 dX12_goesIn_30 (by decide) ?_
        exact hret _ _ _ _ dX12_goesIn_34 ⟨1, rfl, hM113, (FR.rf.tr fM113 (by decide)), by omega⟩
  · refine j_aload_n C 0 0 dX12_goesIn_6 rfl rfl ?_
    refine y_iconst C dX12_goesIn_7 ?_
    refine j_callVv C (d := 0) (As := [.int (sI 4)]) (st := []) 98 (s_lt rfl rfl) (s_kc (c := 11) rfl rfl) (by decide) rfl (s1_X12_fails hM0 hpr 4 (by omega) gf gn gi (by omega) (by omega) (by omega) (by omega) (by omega)) gX12_goesIn_X12_fails rfl hdX12_fails (by decide) (Nat.le_of_ble_eq_true rfl) dX12_goesIn_8 rfl (fun M120 h121 => ?_)
    obtain ⟨hM120, fM120, h122⟩ := h121
    have bM120 := tkm_b (f := gf) (n := gn) (M := M120) (by omega)
    have qM120 := po_f gn ((faQ gf gn 4) gi).2.2 (M120.1 98 11).toInt (M120.1 98 6).toInt (by omega)
    have u123l := ri_l (M := M120) (by omega)
    refine j_aload_n C 0 0 dX12_goesIn_11 rfl rfl ?_
    refine y_getI C 11 _ _ fX12_goesIn_126 rfl rfl ft_11_11 sb_11_11 hM120 dX12_goesIn_12 (fun a124 ea124 la124 ua124 => ?_)
    obtain rfl : a124 = (M120.1 98 11).toInt := ea124
    refine y_if_ne C 22 dX12_goesIn_15 (by decide) (by omega) (fun h126 => ?_) (fun h126 => ?_)
    · refine j_aload_n C 0 0 dX12_goesIn_22 rfl rfl ?_
      refine y_getI C 11 _ _ fX12_goesIn_126 rfl rfl ft_11_11 sb_11_11 hM120 dX12_goesIn_23 (fun a127 ea127 la127 ua127 => ?_)
      obtain rfl : a127 = (M120.1 98 11).toInt := ea127
      refine y_if_ne C 33 dX12_goesIn_26 (by decide) (by omega) (fun h129 => ?_) (fun h129 => ?_)
      · refine y_iconst C dX12_goesIn_33 ?_
        exact hret _ _ _ _ dX12_goesIn_34 ⟨0, rfl, hM120, (FR.rf.tr fM120 (by decide)), by omega⟩
      · exfalso; omega
    · refine j_aload_n C 0 0 dX12_goesIn_18 rfl rfl ?_
      have k130 := tkm_p (f := gf) (n := gn) (M := M120) (by omega)
      have k131 := tkm_K (f := gf) (n := gn) (M := M120) (by omega)
      refine j_callVv C (d := 5) (As := []) (st := []) 98 (s_lt rfl rfl) (s_kc (c := 11) rfl rfl) (by decide) rfl (s1_X12_next hM120 hpr gf gn (by omega) (by omega) (by omega) (by omega)) gX12_goesIn_X12_next rfl hdX12_next (by decide) (Nat.le_of_ble_eq_true rfl) dX12_goesIn_19 rfl (fun M133 h134 => ?_)
      obtain ⟨hM133, fM133, h135⟩ := h134
      have bM133 := tkm_b (f := gf) (n := gn) (M := M133) (by omega)
      have qM133 := nx_po (f := gf) (n := gn) (i := ((faQ gf gn 4) gi).2.2) (M := M120) (M' := M133) (by omega) (by omega) (by omega) (by omega) (by omega)
      refine j_aload_n C 0 0 dX12_goesIn_22 rfl rfl ?_
      refine y_getI C 11 _ _ fX12_goesIn_126 rfl rfl ft_11_11 sb_11_11 hM133 dX12_goesIn_23 (fun a136 ea136 la136 ua136 => ?_)
      obtain rfl : a136 = (M133.1 98 11).toInt := ea136
      refine y_if_ne C 33 dX12_goesIn_26 (by decide) (by omega) (fun h138 => ?_) (fun h138 => ?_)
      · refine y_iconst C dX12_goesIn_33 ?_
        exact hret _ _ _ _ dX12_goesIn_34 ⟨0, rfl, hM133, ((FR.rf.tr fM120 (by decide)).tr fM133 (by decide)), by omega⟩
      · refine y_iconst C dX12_goesIn_29 ?_
        refine j_goto C 34 dX12_goesIn_30 (by decide) ?_
        exact hret _ _ _ _ dX12_goesIn_34 ⟨1, rfl, hM133, ((FR.rf.tr fM120 (by decide)).tr fM133 (by decide)), by omega⟩
set_option maxHeartbeats 4000000 in
theorem s3_X12_goesIn {l : Launch} {dC : Nat → ClassId} {dI : Nat → Nat → Nat} {ad : Nat → Nat} {cA : Nat → ClassId} {pr : Nat → Nat → Bool} {Kz : mm_M} {M0 : mm_M} (hM0 : INV pr Kz M0) (hpr : PM pr) (gf : Nat → Int) (gn : Int) (gi : Int) (hp0 : b01 (RIP M0) = 1) (hp1 : ¬ tkF gf gn (M0.1 98 6).toInt = 3000) (hp2 : ¬ tkF gf gn (M0.1 98 6).toInt = 3001) (hp3 : (M0.1 98 11).toInt = 0) (hp4 : b01 (TKM gf gn M0) = 1) (hp5 : b01 (PO gn gi (M0.1 98 11).toInt (M0.1 98 6).toInt) = 1) (hp6 : b01 (PI M0) = 1) : Ci l 6 yX12_goesIn wsX12_goesIn dC dI ad cA [.ref (ad 98), .int (sI 2)] M0 (fun r M' => ∃ a : Int, r = sI a ∧ INV pr Kz M' ∧ FR [98] M0 M' ∧ 1 ≤ a ∧ a ≤ 1 ∧ (b01 (RIP M') = 1) ∧ ((M'.1 98 8).toInt = (M0.1 98 8).toInt) ∧ ((M0.1 98 6).toInt ≤ (M'.1 98 6).toInt) ∧ (a = 0 ∧ ¬ (M'.1 98 11).toInt = 0 ∨ a = 1 ∧ (M'.1 98 11).toInt = 0 ∧ (M0.1 98 11).toInt = 0 ∧ (M0.1 98 7).toInt ≤ (M'.1 98 6).toInt) ∧ (a = 1 ∧ (M'.1 98 11).toInt = 0 ∧ (M'.1 98 12).toInt = (M0.1 98 12).toInt ∧ b01 (PO gn (nxF gf gn gi) (M'.1 98 11).toInt (M'.1 98 6).toInt) = 1) ∧ (b01 (PI M') = 1) ∧ (b01 (TKM gf gn M') = 1)) := by
  refine ci_of (cc := cX12_goesIn) (maxL := 2) (ty := .boolean) (lv := [(0, .ref (ad 98)), (1, .int (sI 2))]) (by decide) rfl (fun r M' hp => by obtain ⟨a, rfl, -, h⟩ := hp; rcases (show a = 0 ∨ a = 1 by omega) with rfl | rfl <;> rfl) (Nat.le_of_ble_eq_true rfl) rfl ?_
  intro p e s m args below meth c A Q C hret
  have u101l := ri_l (M := M0) (by omega)
  refine j_iload_n C 1 1 dX12_goesIn_0 rfl rfl ?_
  refine y_bipush C dX12_goesIn_1 rfl ?_
  refine y_icmp_ne C 11 dX12_goesIn_3 (by decide) (by omega) (fun h102 => ?_) (fun h102 => ?_)
  · have u103l := ri_l (M := M0) (by omega)
    refine j_aload_n C 0 0 dX12_goesIn_11 rfl rfl ?_
    refine y_getI C 11 _ _ fX12_goesIn_126 rfl rfl ft_11_11 sb_11_11 hM0 dX12_goesIn_12 (fun a104 ea104 la104 ua104 => ?_)
    obtain rfl : a104 = (M0.1 98 11).toInt := ea104
    refine y_if_ne C 22 dX12_goesIn_15 (by decide) (by omega) (fun h106 => ?_) (fun h106 => ?_)
    · refine j_aload_n C 0 0 dX12_goesIn_22 rfl rfl ?_
      refine y_getI C 11 _ _ fX12_goesIn_126 rfl rfl ft_11_11 sb_11_11 hM0 dX12_goesIn_23 (fun a107 ea107 la107 ua107 => ?_)
      obtain rfl : a107 = (M0.1 98 11).toInt := ea107
      refine y_if_ne C 33 dX12_goesIn_26 (by decide) (by omega) (fun h109 => ?_) (fun h109 => ?_)
      · refine y_iconst C dX12_goesIn_33 ?_
        exact hret _ _ _ _ dX12_goesIn_34 ⟨0, rfl, hM0, FR.rf, by omega⟩
      · exfalso; omega
    · refine j_aload_n C 0 0 dX12_goesIn_18 rfl rfl ?_
      have k110 := tkm_p (f := gf) (n := gn) (M := M0) (by omega)
      have k111 := tkm_K (f := gf) (n := gn) (M := M0) (by omega)
      refine j_callVv C (d := 5) (As := []) (st := []) 98 (s_lt rfl rfl) (s_kc (c := 11) rfl rfl) (by decide) rfl (s1_X12_next hM0 hpr gf gn (by omega) (by omega) (by omega) (by omega)) gX12_goesIn_X12_next rfl hdX12_next (by decide) (Nat.le_of_ble_eq_true rfl) dX12_goesIn_19 rfl (fun M113 h114 => ?_)
      obtain ⟨hM113, fM113, h115⟩ := h114
      have bM113 := tkm_b (f := gf) (n := gn) (M := M113) (by omega)
      have qM113 := nx_po (f := gf) (n := gn) (i := gi) (M := M0) (M' := M113) (by omega) (by omega) (by omega) (by omega) (by omega)
      refine j_aload_n C 0 0 dX12_goesIn_22 rfl rfl ?_
      refine y_getI C 11 _ _ fX12_goesIn_126 rfl rfl ft_11_11 sb_11_11 hM113 dX12_goesIn_23 (fun a116 ea116 la116 ua116 => ?_)
      obtain rfl : a116 = (M113.1 98 11).toInt := ea116
      refine y_if_ne C 33 dX12_goesIn_26 (by decide) (by omega) (fun h118 => ?_) (fun h118 => ?_)
      · refine y_iconst C dX12_goesIn_33 ?_
        exact hret _ _ _ _ dX12_goesIn_34 ⟨0, rfl, hM113, (FR.rf.tr fM113 (by decide)), by omega⟩
      · refine y_iconst C dX12_goesIn_29 ?_
        refine j_goto C 34 dX12_goesIn_30 (by decide) ?_
        exact hret _ _ _ _ dX12_goesIn_34 ⟨1, rfl, hM113, (FR.rf.tr fM113 (by decide)), by omega⟩
  · refine j_aload_n C 0 0 dX12_goesIn_6 rfl rfl ?_
    refine y_iconst C dX12_goesIn_7 ?_
    refine j_callVv C (d := 0) (As := [.int (sI 4)]) (st := []) 98 (s_lt rfl rfl) (s_kc (c := 11) rfl rfl) (by decide) rfl (s1_X12_fails hM0 hpr 4 (by omega) gf gn gi (by omega) (by omega) (by omega) (by omega) (by omega)) gX12_goesIn_X12_fails rfl hdX12_fails (by decide) (Nat.le_of_ble_eq_true rfl) dX12_goesIn_8 rfl (fun M120 h121 => ?_)
    obtain ⟨hM120, fM120, h122⟩ := h121
    have bM120 := tkm_b (f := gf) (n := gn) (M := M120) (by omega)
    have qM120 := po_f gn ((faQ gf gn 4) gi).2.2 (M120.1 98 11).toInt (M120.1 98 6).toInt (by omega)
    have u123l := ri_l (M := M120) (by omega)
    refine j_aload_n C 0 0 dX12_goesIn_11 rfl rfl ?_
    refine y_getI C 11 _ _ fX12_goesIn_126 rfl rfl ft_11_11 sb_11_11 hM120 dX12_goesIn_12 (fun a124 ea124 la124 ua124 => ?_)
    obtain rfl : a124 = (M120.1 98 11).toInt := ea124
    refine y_if_ne C 22 dX12_goesIn_15 (by decide) (by omega) (fun h126 => ?_) (fun h126 => ?_)
    · refine j_aload_n C 0 0 dX12_goesIn_22 rfl rfl ?_
      refine y_getI C 11 _ _ fX12_goesIn_126 rfl rfl ft_11_11 sb_11_11 hM120 dX12_goesIn_23 (fun a127 ea127 la127 ua127 => ?_)
      obtain rfl : a127 = (M120.1 98 11).toInt := ea127
      refine y_if_ne C 33 dX12_goesIn_26 (by decide) (by omega) (fun h129 => ?_) (fun h129 => ?_)
      · refine y_iconst C dX12_goesIn_33 ?_
        exact hret _ _ _ _ dX12_goesIn_34 ⟨0, rfl, hM120, (FR.rf.tr fM120 (by decide)), by omega⟩
      · exfalso; omega
    · refine j_aload_n C 0 0 dX12_goesIn_18 rfl rfl ?_
      have k130 := tkm_p (f := gf) (n := gn) (M := M120) (by omega)
      have k131 := tkm_K (f := gf) (n := gn) (M := M120) (by omega)
      refine j_callVv C (d := 5) (As := []) (st := []) 98 (s_lt rfl rfl) (s_kc (c := 11) rfl rfl) (by decide) rfl (s1_X12_next hM120 hpr gf gn (by omega) (by omega) (by omega) (by omega)) gX12_goesIn_X12_next rfl hdX12_next (by decide) (Nat.le_of_ble_eq_true rfl) dX12_goesIn_19 rfl (fun M133 h134 => ?_)
      obtain ⟨hM133, fM133, h135⟩ := h134
      have bM133 := tkm_b (f := gf) (n := gn) (M := M133) (by omega)
      have qM133 := nx_po (f := gf) (n := gn) (i := ((faQ gf gn 4) gi).2.2) (M := M120) (M' := M133) (by omega) (by omega) (by omega) (by omega) (by omega)
      refine j_aload_n C 0 0 dX12_goesIn_22 rfl rfl ?_
      refine y_getI C 11 _ _ fX12_goesIn_126 rfl rfl ft_11_11 sb_11_11 hM133 dX12_goesIn_23 (fun a136 ea136 la136 ua136 => ?_)
      obtain rfl : a136 = (M133.1 98 11).toInt := ea136
      refine y_if_ne C 33 dX12_goesIn_26 (by decide) (by omega) (fun h138 => ?_) (fun h138 => ?_)
      · refine y_iconst C dX12_goesIn_33 ?_
        exact hret _ _ _ _ dX12_goesIn_34 ⟨0, rfl, hM133, ((FR.rf.tr fM120 (by decide)).tr fM133 (by decide)), by omega⟩
      · refine y_iconst C dX12_goesIn_29 ?_
        refine j_goto C 34 dX12_goesIn_30 (by decide) ?_
        exact hret _ _ _ _ dX12_goesIn_34 ⟨1, rfl, hM133, ((FR.rf.tr fM120 (by decide)).tr fM133 (by decide)), by omega⟩
set_option maxHeartbeats 4000000 in
theorem s4_X12_goesIn {l : Launch} {dC : Nat → ClassId} {dI : Nat → Nat → Nat} {ad : Nat → Nat} {cA : Nat → ClassId} {pr : Nat → Nat → Bool} {Kz : mm_M} {M0 : mm_M} (hM0 : INV pr Kz M0) (hpr : PM pr) (gf : Nat → Int) (gn : Int) (gi : Int) (hp0 : b01 (RIP M0) = 1) (hp1 : ¬ tkF gf gn (M0.1 98 6).toInt = 3000) (hp2 : ¬ tkF gf gn (M0.1 98 6).toInt = 3001) (hp3 : (M0.1 98 11).toInt = 0) (hp4 : b01 (TKM gf gn M0) = 1) (hp5 : b01 (PO gn gi (M0.1 98 11).toInt (M0.1 98 6).toInt) = 1) (hp6 : b01 (PI M0) = 1) : Ci l 6 yX12_goesIn wsX12_goesIn dC dI ad cA [.ref (ad 98), .int (sI 3)] M0 (fun r M' => ∃ a : Int, r = sI a ∧ INV pr Kz M' ∧ FR [98] M0 M' ∧ 1 ≤ a ∧ a ≤ 1 ∧ (b01 (RIP M') = 1) ∧ ((M'.1 98 8).toInt = (M0.1 98 8).toInt) ∧ ((M0.1 98 6).toInt ≤ (M'.1 98 6).toInt) ∧ (a = 0 ∧ ¬ (M'.1 98 11).toInt = 0 ∨ a = 1 ∧ (M'.1 98 11).toInt = 0 ∧ (M0.1 98 11).toInt = 0 ∧ (M0.1 98 7).toInt ≤ (M'.1 98 6).toInt) ∧ (a = 1 ∧ (M'.1 98 11).toInt = 0 ∧ (M'.1 98 12).toInt = (M0.1 98 12).toInt ∧ b01 (PO gn (nxF gf gn gi) (M'.1 98 11).toInt (M'.1 98 6).toInt) = 1) ∧ (b01 (PI M') = 1) ∧ (b01 (TKM gf gn M') = 1)) := by
  refine ci_of (cc := cX12_goesIn) (maxL := 2) (ty := .boolean) (lv := [(0, .ref (ad 98)), (1, .int (sI 3))]) (by decide) rfl (fun r M' hp => by obtain ⟨a, rfl, -, h⟩ := hp; rcases (show a = 0 ∨ a = 1 by omega) with rfl | rfl <;> rfl) (Nat.le_of_ble_eq_true rfl) rfl ?_
  intro p e s m args below meth c A Q C hret
  have u101l := ri_l (M := M0) (by omega)
  refine j_iload_n C 1 1 dX12_goesIn_0 rfl rfl ?_
  refine y_bipush C dX12_goesIn_1 rfl ?_
  refine y_icmp_ne C 11 dX12_goesIn_3 (by decide) (by omega) (fun h102 => ?_) (fun h102 => ?_)
  · have u103l := ri_l (M := M0) (by omega)
    refine j_aload_n C 0 0 dX12_goesIn_11 rfl rfl ?_
    refine y_getI C 11 _ _ fX12_goesIn_126 rfl rfl ft_11_11 sb_11_11 hM0 dX12_goesIn_12 (fun a104 ea104 la104 ua104 => ?_)
    obtain rfl : a104 = (M0.1 98 11).toInt := ea104
    refine y_if_ne C 22 dX12_goesIn_15 (by decide) (by omega) (fun h106 => ?_) (fun h106 => ?_)
    · refine j_aload_n C 0 0 dX12_goesIn_22 rfl rfl ?_
      refine y_getI C 11 _ _ fX12_goesIn_126 rfl rfl ft_11_11 sb_11_11 hM0 dX12_goesIn_23 (fun a107 ea107 la107 ua107 => ?_)
      obtain rfl : a107 = (M0.1 98 11).toInt := ea107
      refine y_if_ne C 33 dX12_goesIn_26 (by decide) (by omega) (fun h109 => ?_) (fun h109 => ?_)
      · refine y_iconst C dX12_goesIn_33 ?_
        exact hret _ _ _ _ dX12_goesIn_34 ⟨0, rfl, hM0, FR.rf, by omega⟩
      · exfalso; omega
    · refine j_aload_n C 0 0 dX12_goesIn_18 rfl rfl ?_
      have k110 := tkm_p (f := gf) (n := gn) (M := M0) (by omega)
      have k111 := tkm_K (f := gf) (n := gn) (M := M0) (by omega)
      refine j_callVv C (d := 5) (As := []) (st := []) 98 (s_lt rfl rfl) (s_kc (c := 11) rfl rfl) (by decide) rfl (s1_X12_next hM0 hpr gf gn (by omega) (by omega) (by omega) (by omega)) gX12_goesIn_X12_next rfl hdX12_next (by decide) (Nat.le_of_ble_eq_true rfl) dX12_goesIn_19 rfl (fun M113 h114 => ?_)
      obtain ⟨hM113, fM113, h115⟩ := h114
      have bM113 := tkm_b (f := gf) (n := gn) (M := M113) (by omega)
      have qM113 := nx_po (f := gf) (n := gn) (i := gi) (M := M0) (M' := M113) (by omega) (by omega) (by omega) (by omega) (by omega)
      refine j_aload_n C 0 0 dX12_goesIn_22 rfl rfl ?_
      refine y_getI C 11 _ _ fX12_goesIn_126 rfl rfl ft_11_11 sb_11_11 hM113 dX12_goesIn_23 (fun a116 ea116 la116 ua116 => ?_)
      obtain rfl : a116 = (M113.1 98 11).toInt := ea116
      refine y_if_ne C 33 dX12_goesIn_26 (by decide) (by omega) (fun h118 => ?_) (fun h118 => ?_)
      · refine y_iconst C dX12_goesIn_33 ?_
        exact hret _ _ _ _ dX12_goesIn_34 ⟨0, rfl, hM113, (FR.rf.tr fM113 (by decide)), by omega⟩
      · refine y_iconst C dX12_goesIn_29 ?_
        refine j_goto C 34 dX12_goesIn_30 (by decide) ?_
        exact hret _ _ _ _ dX12_goesIn_34 ⟨1, rfl, hM113, (FR.rf.tr fM113 (by decide)), by omega⟩
  · refine j_aload_n C 0 0 dX12_goesIn_6 rfl rfl ?_
    refine y_iconst C dX12_goesIn_7 ?_
    refine j_callVv C (d := 0) (As := [.int (sI 4)]) (st := []) 98 (s_lt rfl rfl) (s_kc (c := 11) rfl rfl) (by decide) rfl (s1_X12_fails hM0 hpr 4 (by omega) gf gn gi (by omega) (by omega) (by omega) (by omega) (by omega)) gX12_goesIn_X12_fails rfl hdX12_fails (by decide) (Nat.le_of_ble_eq_true rfl) dX12_goesIn_8 rfl (fun M120 h121 => ?_)
    obtain ⟨hM120, fM120, h122⟩ := h121
    have bM120 := tkm_b (f := gf) (n := gn) (M := M120) (by omega)
    have qM120 := po_f gn ((faQ gf gn 4) gi).2.2 (M120.1 98 11).toInt (M120.1 98 6).toInt (by omega)
    have u123l := ri_l (M := M120) (by omega)
    refine j_aload_n C 0 0 dX12_goesIn_11 rfl rfl ?_
    refine y_getI C 11 _ _ fX12_goesIn_126 rfl rfl ft_11_11 sb_11_11 hM120 dX12_goesIn_12 (fun a124 ea124 la124 ua124 => ?_)
    obtain rfl : a124 = (M120.1 98 11).toInt := ea124
    refine y_if_ne C 22 dX12_goesIn_15 (by decide) (by omega) (fun h126 => ?_) (fun h126 => ?_)
    · refine j_aload_n C 0 0 dX12_goesIn_22 rfl rfl ?_
      refine y_getI C 11 _ _ fX12_goesIn_126 rfl rfl ft_11_11 sb_11_11 hM120 dX12_goesIn_23 (fun a127 ea127 la127 ua127 => ?_)
      obtain rfl : a127 = (M120.1 98 11).toInt := ea127
      refine y_if_ne C 33 dX12_goesIn_26 (by decide) (by omega) (fun h129 => ?_) (fun h129 => ?_)
      · refine y_iconst C dX12_goesIn_33 ?_
        exact hret _ _ _ _ dX12_goesIn_34 ⟨0, rfl, hM120, (FR.rf.tr fM120 (by decide)), by omega⟩
      · exfalso; omega
    · refine j_aload_n C 0 0 dX12_goesIn_18 rfl rfl ?_
      have k130 := tkm_p (f := gf) (n := gn) (M := M120) (by omega)
      have k131 := tkm_K (f := gf) (n := gn) (M := M120) (by omega)
      refine j_callVv C (d := 5) (As := []) (st := []) 98 (s_lt rfl rfl) (s_kc (c := 11) rfl rfl) (by decide) rfl (s1_X12_next hM120 hpr gf gn (by omega) (by omega) (by omega) (by omega)) gX12_goesIn_X12_next rfl hdX12_next (by decide) (Nat.le_of_ble_eq_true rfl) dX12_goesIn_19 rfl (fun M133 h134 => ?_)
      obtain ⟨hM133, fM133, h135⟩ := h134
      have bM133 := tkm_b (f := gf) (n := gn) (M := M133) (by omega)
      have qM133 := nx_po (f := gf) (n := gn) (i := ((faQ gf gn 4) gi).2.2) (M := M120) (M' := M133) (by omega) (by omega) (by omega) (by omega) (by omega)
      refine j_aload_n C 0 0 dX12_goesIn_22 rfl rfl ?_
      refine y_getI C 11 _ _ fX12_goesIn_126 rfl rfl ft_11_11 sb_11_11 hM133 dX12_goesIn_23 (fun a136 ea136 la136 ua136 => ?_)
      obtain rfl : a136 = (M133.1 98 11).toInt := ea136
      refine y_if_ne C 33 dX12_goesIn_26 (by decide) (by omega) (fun h138 => ?_) (fun h138 => ?_)
      · refine y_iconst C dX12_goesIn_33 ?_
        exact hret _ _ _ _ dX12_goesIn_34 ⟨0, rfl, hM133, ((FR.rf.tr fM120 (by decide)).tr fM133 (by decide)), by omega⟩
      · refine y_iconst C dX12_goesIn_29 ?_
        refine j_goto C 34 dX12_goesIn_30 (by decide) ?_
        exact hret _ _ _ _ dX12_goesIn_34 ⟨1, rfl, hM133, ((FR.rf.tr fM120 (by decide)).tr fM133 (by decide)), by omega⟩
set_option maxHeartbeats 4000000 in
theorem s5_X12_goesIn {l : Launch} {dC : Nat → ClassId} {dI : Nat → Nat → Nat} {ad : Nat → Nat} {cA : Nat → ClassId} {pr : Nat → Nat → Bool} {Kz : mm_M} {M0 : mm_M} (hM0 : INV pr Kz M0) (hpr : PM pr) (gf : Nat → Int) (gn : Int) (gi : Int) (hp0 : b01 (RIP M0) = 1) (hp1 : ¬ tkF gf gn (M0.1 98 6).toInt = 3000) (hp2 : ¬ tkF gf gn (M0.1 98 6).toInt = 3001) (hp3 : (M0.1 98 11).toInt = 0) (hp4 : b01 (TKM gf gn M0) = 1) (hp5 : b01 (PO gn gi (M0.1 98 11).toInt (M0.1 98 6).toInt) = 1) (hp6 : b01 (PI M0) = 1) : Ci l 6 yX12_goesIn wsX12_goesIn dC dI ad cA [.ref (ad 98), .int (sI 4)] M0 (fun r M' => ∃ a : Int, r = sI a ∧ INV pr Kz M' ∧ FR [98] M0 M' ∧ 1 ≤ a ∧ a ≤ 1 ∧ (b01 (RIP M') = 1) ∧ ((M'.1 98 8).toInt = (M0.1 98 8).toInt) ∧ ((M0.1 98 6).toInt ≤ (M'.1 98 6).toInt) ∧ (a = 0 ∧ ¬ (M'.1 98 11).toInt = 0 ∨ a = 1 ∧ (M'.1 98 11).toInt = 0 ∧ (M0.1 98 11).toInt = 0 ∧ (M0.1 98 7).toInt ≤ (M'.1 98 6).toInt) ∧ (a = 1 ∧ (M'.1 98 11).toInt = 0 ∧ (M'.1 98 12).toInt = (M0.1 98 12).toInt ∧ b01 (PO gn (nxF gf gn gi) (M'.1 98 11).toInt (M'.1 98 6).toInt) = 1) ∧ (b01 (PI M') = 1) ∧ (b01 (TKM gf gn M') = 1)) := by
  refine ci_of (cc := cX12_goesIn) (maxL := 2) (ty := .boolean) (lv := [(0, .ref (ad 98)), (1, .int (sI 4))]) (by decide) rfl (fun r M' hp => by obtain ⟨a, rfl, -, h⟩ := hp; rcases (show a = 0 ∨ a = 1 by omega) with rfl | rfl <;> rfl) (Nat.le_of_ble_eq_true rfl) rfl ?_
  intro p e s m args below meth c A Q C hret
  have u101l := ri_l (M := M0) (by omega)
  refine j_iload_n C 1 1 dX12_goesIn_0 rfl rfl ?_
  refine y_bipush C dX12_goesIn_1 rfl ?_
  refine y_icmp_ne C 11 dX12_goesIn_3 (by decide) (by omega) (fun h102 => ?_) (fun h102 => ?_)
  · have u103l := ri_l (M := M0) (by omega)
    refine j_aload_n C 0 0 dX12_goesIn_11 rfl rfl ?_
    refine y_getI C 11 _ _ fX12_goesIn_126 rfl rfl ft_11_11 sb_11_11 hM0 dX12_goesIn_12 (fun a104 ea104 la104 ua104 => ?_)
    obtain rfl : a104 = (M0.1 98 11).toInt := ea104
    refine y_if_ne C 22 dX12_goesIn_15 (by decide) (by omega) (fun h106 => ?_) (fun h106 => ?_)
    · refine j_aload_n C 0 0 dX12_goesIn_22 rfl rfl ?_
      refine y_getI C 11 _ _ fX12_goesIn_126 rfl rfl ft_11_11 sb_11_11 hM0 dX12_goesIn_23 (fun a107 ea107 la107 ua107 => ?_)
      obtain rfl : a107 = (M0.1 98 11).toInt := ea107
      refine y_if_ne C 33 dX12_goesIn_26 (by decide) (by omega) (fun h109 => ?_) (fun h109 => ?_)
      · refine y_iconst C dX12_goesIn_33 ?_
        exact hret _ _ _ _ dX12_goesIn_34 ⟨0, rfl, hM0, FR.rf, by omega⟩
      · exfalso; omega
    · refine j_aload_n C 0 0 dX12_goesIn_18 rfl rfl ?_
      have k110 := tkm_p (f := gf) (n := gn) (M := M0) (by omega)
      have k111 := tkm_K (f := gf) (n := gn) (M := M0) (by omega)
      refine j_callVv C (d := 5) (As := []) (st := []) 98 (s_lt rfl rfl) (s_kc (c := 11) rfl rfl) (by decide) rfl (s1_X12_next hM0 hpr gf gn (by omega) (by omega) (by omega) (by omega)) gX12_goesIn_X12_next rfl hdX12_next (by decide) (Nat.le_of_ble_eq_true rfl) dX12_goesIn_19 rfl (fun M113 h114 => ?_)
      obtain ⟨hM113, fM113, h115⟩ := h114
      have bM113 := tkm_b (f := gf) (n := gn) (M := M113) (by omega)
      have qM113 := nx_po (f := gf) (n := gn) (i := gi) (M := M0) (M' := M113) (by omega) (by omega) (by omega) (by omega) (by omega)
      refine j_aload_n C 0 0 dX12_goesIn_22 rfl rfl ?_
      refine y_getI C 11 _ _ fX12_goesIn_126 rfl rfl ft_11_11 sb_11_11 hM113 dX12_goesIn_23 (fun a116 ea116 la116 ua116 => ?_)
      obtain rfl : a116 = (M113.1 98 11).toInt := ea116
      refine y_if_ne C 33 dX12_goesIn_26 (by decide) (by omega) (fun h118 => ?_) (fun h118 => ?_)
      · refine y_iconst C dX12_goesIn_33 ?_
        exact hret _ _ _ _ dX12_goesIn_34 ⟨0, rfl, hM113, (FR.rf.tr fM113 (by decide)), by omega⟩
      · refine y_iconst C dX12_goesIn_29 ?_
        refine j_goto C 34 dX12_goesIn_30 (by decide) ?_
        exact hret _ _ _ _ dX12_goesIn_34 ⟨1, rfl, hM113, (FR.rf.tr fM113 (by decide)), by omega⟩
  · refine j_aload_n C 0 0 dX12_goesIn_6 rfl rfl ?_
    refine y_iconst C dX12_goesIn_7 ?_
    refine j_callVv C (d := 0) (As := [.int (sI 4)]) (st := []) 98 (s_lt rfl rfl) (s_kc (c := 11) rfl rfl) (by decide) rfl (s1_X12_fails hM0 hpr 4 (by omega) gf gn gi (by omega) (by omega) (by omega) (by omega) (by omega)) gX12_goesIn_X12_fails rfl hdX12_fails (by decide) (Nat.le_of_ble_eq_true rfl) dX12_goesIn_8 rfl (fun M120 h121 => ?_)
    obtain ⟨hM120, fM120, h122⟩ := h121
    have bM120 := tkm_b (f := gf) (n := gn) (M := M120) (by omega)
    have qM120 := po_f gn ((faQ gf gn 4) gi).2.2 (M120.1 98 11).toInt (M120.1 98 6).toInt (by omega)
    have u123l := ri_l (M := M120) (by omega)
    refine j_aload_n C 0 0 dX12_goesIn_11 rfl rfl ?_
    refine y_getI C 11 _ _ fX12_goesIn_126 rfl rfl ft_11_11 sb_11_11 hM120 dX12_goesIn_12 (fun a124 ea124 la124 ua124 => ?_)
    obtain rfl : a124 = (M120.1 98 11).toInt := ea124
    refine y_if_ne C 22 dX12_goesIn_15 (by decide) (by omega) (fun h126 => ?_) (fun h126 => ?_)
    · refine j_aload_n C 0 0 dX12_goesIn_22 rfl rfl ?_
      refine y_getI C 11 _ _ fX12_goesIn_126 rfl rfl ft_11_11 sb_11_11 hM120 dX12_goesIn_23 (fun a127 ea127 la127 ua127 => ?_)
      obtain rfl : a127 = (M120.1 98 11).toInt := ea127
      refine y_if_ne C 33 dX12_goesIn_26 (by decide) (by omega) (fun h129 => ?_) (fun h129 => ?_)
      · refine y_iconst C dX12_goesIn_33 ?_
        exact hret _ _ _ _ dX12_goesIn_34 ⟨0, rfl, hM120, (FR.rf.tr fM120 (by decide)), by omega⟩
      · exfalso; omega
    · refine j_aload_n C 0 0 dX12_goesIn_18 rfl rfl ?_
      have k130 := tkm_p (f := gf) (n := gn) (M := M120) (by omega)
      have k131 := tkm_K (f := gf) (n := gn) (M := M120) (by omega)
      refine j_callVv C (d := 5) (As := []) (st := []) 98 (s_lt rfl rfl) (s_kc (c := 11) rfl rfl) (by decide) rfl (s1_X12_next hM120 hpr gf gn (by omega) (by omega) (by omega) (by omega)) gX12_goesIn_X12_next rfl hdX12_next (by decide) (Nat.le_of_ble_eq_true rfl) dX12_goesIn_19 rfl (fun M133 h134 => ?_)
      obtain ⟨hM133, fM133, h135⟩ := h134
      have bM133 := tkm_b (f := gf) (n := gn) (M := M133) (by omega)
      have qM133 := nx_po (f := gf) (n := gn) (i := ((faQ gf gn 4) gi).2.2) (M := M120) (M' := M133) (by omega) (by omega) (by omega) (by omega) (by omega)
      refine j_aload_n C 0 0 dX12_goesIn_22 rfl rfl ?_
      refine y_getI C 11 _ _ fX12_goesIn_126 rfl rfl ft_11_11 sb_11_11 hM133 dX12_goesIn_23 (fun a136 ea136 la136 ua136 => ?_)
      obtain rfl : a136 = (M133.1 98 11).toInt := ea136
      refine y_if_ne C 33 dX12_goesIn_26 (by decide) (by omega) (fun h138 => ?_) (fun h138 => ?_)
      · refine y_iconst C dX12_goesIn_33 ?_
        exact hret _ _ _ _ dX12_goesIn_34 ⟨0, rfl, hM133, ((FR.rf.tr fM120 (by decide)).tr fM133 (by decide)), by omega⟩
      · refine y_iconst C dX12_goesIn_29 ?_
        refine j_goto C 34 dX12_goesIn_30 (by decide) ?_
        exact hret _ _ _ _ dX12_goesIn_34 ⟨1, rfl, hM133, ((FR.rf.tr fM120 (by decide)).tr fM133 (by decide)), by omega⟩
set_option maxHeartbeats 4000000 in
theorem s6_X12_goesIn {l : Launch} {dC : Nat → ClassId} {dI : Nat → Nat → Nat} {ad : Nat → Nat} {cA : Nat → ClassId} {pr : Nat → Nat → Bool} {Kz : mm_M} {M0 : mm_M} (hM0 : INV pr Kz M0) (hpr : PM pr) (gf : Nat → Int) (gn : Int) (gi : Int) (hp0 : b01 (RIP M0) = 1) (hp1 : ¬ tkF gf gn (M0.1 98 6).toInt = 3000) (hp2 : ¬ tkF gf gn (M0.1 98 6).toInt = 3001) (hp3 : (M0.1 98 11).toInt = 0) (hp4 : b01 (TKM gf gn M0) = 1) (hp5 : b01 (PO gn gi (M0.1 98 11).toInt (M0.1 98 6).toInt) = 1) (hp6 : b01 (PI M0) = 1) : Ci l 6 yX12_goesIn wsX12_goesIn dC dI ad cA [.ref (ad 98), .int (sI 5)] M0 (fun r M' => ∃ a : Int, r = sI a ∧ INV pr Kz M' ∧ FR [98] M0 M' ∧ 1 ≤ a ∧ a ≤ 1 ∧ (b01 (RIP M') = 1) ∧ ((M'.1 98 8).toInt = (M0.1 98 8).toInt) ∧ ((M0.1 98 6).toInt ≤ (M'.1 98 6).toInt) ∧ (a = 0 ∧ ¬ (M'.1 98 11).toInt = 0 ∨ a = 1 ∧ (M'.1 98 11).toInt = 0 ∧ (M0.1 98 11).toInt = 0 ∧ (M0.1 98 7).toInt ≤ (M'.1 98 6).toInt) ∧ (a = 1 ∧ (M'.1 98 11).toInt = 0 ∧ (M'.1 98 12).toInt = (M0.1 98 12).toInt ∧ b01 (PO gn (nxF gf gn gi) (M'.1 98 11).toInt (M'.1 98 6).toInt) = 1) ∧ (b01 (PI M') = 1) ∧ (b01 (TKM gf gn M') = 1)) := by
  refine ci_of (cc := cX12_goesIn) (maxL := 2) (ty := .boolean) (lv := [(0, .ref (ad 98)), (1, .int (sI 5))]) (by decide) rfl (fun r M' hp => by obtain ⟨a, rfl, -, h⟩ := hp; rcases (show a = 0 ∨ a = 1 by omega) with rfl | rfl <;> rfl) (Nat.le_of_ble_eq_true rfl) rfl ?_
  intro p e s m args below meth c A Q C hret
  have u101l := ri_l (M := M0) (by omega)
  refine j_iload_n C 1 1 dX12_goesIn_0 rfl rfl ?_
  refine y_bipush C dX12_goesIn_1 rfl ?_
  refine y_icmp_ne C 11 dX12_goesIn_3 (by decide) (by omega) (fun h102 => ?_) (fun h102 => ?_)
  · have u103l := ri_l (M := M0) (by omega)
    refine j_aload_n C 0 0 dX12_goesIn_11 rfl rfl ?_
    refine y_getI C 11 _ _ fX12_goesIn_126 rfl rfl ft_11_11 sb_11_11 hM0 dX12_goesIn_12 (fun a104 ea104 la104 ua104 => ?_)
    obtain rfl : a104 = (M0.1 98 11).toInt := ea104
    refine y_if_ne C 22 dX12_goesIn_15 (by decide) (by omega) (fun h106 => ?_) (fun h106 => ?_)
    · refine j_aload_n C 0 0 dX12_goesIn_22 rfl rfl ?_
      refine y_getI C 11 _ _ fX12_goesIn_126 rfl rfl ft_11_11 sb_11_11 hM0 dX12_goesIn_23 (fun a107 ea107 la107 ua107 => ?_)
      obtain rfl : a107 = (M0.1 98 11).toInt := ea107
      refine y_if_ne C 33 dX12_goesIn_26 (by decide) (by omega) (fun h109 => ?_) (fun h109 => ?_)
      · refine y_iconst C dX12_goesIn_33 ?_
        exact hret _ _ _ _ dX12_goesIn_34 ⟨0, rfl, hM0, FR.rf, by omega⟩
      · exfalso; omega
    · refine j_aload_n C 0 0 dX12_goesIn_18 rfl rfl ?_
      have k110 := tkm_p (f := gf) (n := gn) (M := M0) (by omega)
      have k111 := tkm_K (f := gf) (n := gn) (M := M0) (by omega)
      refine j_callVv C (d := 5) (As := []) (st := []) 98 (s_lt rfl rfl) (s_kc (c := 11) rfl rfl) (by decide) rfl (s1_X12_next hM0 hpr gf gn (by omega) (by omega) (by omega) (by omega)) gX12_goesIn_X12_next rfl hdX12_next (by decide) (Nat.le_of_ble_eq_true rfl) dX12_goesIn_19 rfl (fun M113 h114 => ?_)
      obtain ⟨hM113, fM113, h115⟩ := h114
      have bM113 := tkm_b (f := gf) (n := gn) (M := M113) (by omega)
      have qM113 := nx_po (f := gf) (n := gn) (i := gi) (M := M0) (M' := M113) (by omega) (by omega) (by omega) (by omega) (by omega)
      refine j_aload_n C 0 0 dX12_goesIn_22 rfl rfl ?_
      refine y_getI C 11 _ _ fX12_goesIn_126 rfl rfl ft_11_11 sb_11_11 hM113 dX12_goesIn_23 (fun a116 ea116 la116 ua116 => ?_)
      obtain rfl : a116 = (M113.1 98 11).toInt := ea116
      refine y_if_ne C 33 dX12_goesIn_26 (by decide) (by omega) (fun h118 => ?_) (fun h118 => ?_)
      · refine y_iconst C dX12_goesIn_33 ?_
        exact hret _ _ _ _ dX12_goesIn_34 ⟨0, rfl, hM113, (FR.rf.tr fM113 (by decide)), by omega⟩
      · refine y_iconst C dX12_goesIn_29 ?_
        refine j_goto C 34 dX12_goesIn_30 (by decide) ?_
        exact hret _ _ _ _ dX12_goesIn_34 ⟨1, rfl, hM113, (FR.rf.tr fM113 (by decide)), by omega⟩
  · refine j_aload_n C 0 0 dX12_goesIn_6 rfl rfl ?_
    refine y_iconst C dX12_goesIn_7 ?_
    refine j_callVv C (d := 0) (As := [.int (sI 4)]) (st := []) 98 (s_lt rfl rfl) (s_kc (c := 11) rfl rfl) (by decide) rfl (s1_X12_fails hM0 hpr 4 (by omega) gf gn gi (by omega) (by omega) (by omega) (by omega) (by omega)) gX12_goesIn_X12_fails rfl hdX12_fails (by decide) (Nat.le_of_ble_eq_true rfl) dX12_goesIn_8 rfl (fun M120 h121 => ?_)
    obtain ⟨hM120, fM120, h122⟩ := h121
    have bM120 := tkm_b (f := gf) (n := gn) (M := M120) (by omega)
    have qM120 := po_f gn ((faQ gf gn 4) gi).2.2 (M120.1 98 11).toInt (M120.1 98 6).toInt (by omega)
    have u123l := ri_l (M := M120) (by omega)
    refine j_aload_n C 0 0 dX12_goesIn_11 rfl rfl ?_
    refine y_getI C 11 _ _ fX12_goesIn_126 rfl rfl ft_11_11 sb_11_11 hM120 dX12_goesIn_12 (fun a124 ea124 la124 ua124 => ?_)
    obtain rfl : a124 = (M120.1 98 11).toInt := ea124
    refine y_if_ne C 22 dX12_goesIn_15 (by decide) (by omega) (fun h126 => ?_) (fun h126 => ?_)
    · refine j_aload_n C 0 0 dX12_goesIn_22 rfl rfl ?_
      refine y_getI C 11 _ _ fX12_goesIn_126 rfl rfl ft_11_11 sb_11_11 hM120 dX12_goesIn_23 (fun a127 ea127 la127 ua127 => ?_)
      obtain rfl : a127 = (M120.1 98 11).toInt := ea127
      refine y_if_ne C 33 dX12_goesIn_26 (by decide) (by omega) (fun h129 => ?_) (fun h129 => ?_)
      · refine y_iconst C dX12_goesIn_33 ?_
        exact hret _ _ _ _ dX12_goesIn_34 ⟨0, rfl, hM120, (FR.rf.tr fM120 (by decide)), by omega⟩
      · exfalso; omega
    · refine j_aload_n C 0 0 dX12_goesIn_18 rfl rfl ?_
      have k130 := tkm_p (f := gf) (n := gn) (M := M120) (by omega)
      have k131 := tkm_K (f := gf) (n := gn) (M := M120) (by omega)
      refine j_callVv C (d := 5) (As := []) (st := []) 98 (s_lt rfl rfl) (s_kc (c := 11) rfl rfl) (by decide) rfl (s1_X12_next hM120 hpr gf gn (by omega) (by omega) (by omega) (by omega)) gX12_goesIn_X12_next rfl hdX12_next (by decide) (Nat.le_of_ble_eq_true rfl) dX12_goesIn_19 rfl (fun M133 h134 => ?_)
      obtain ⟨hM133, fM133, h135⟩ := h134
      have bM133 := tkm_b (f := gf) (n := gn) (M := M133) (by omega)
      have qM133 := nx_po (f := gf) (n := gn) (i := ((faQ gf gn 4) gi).2.2) (M := M120) (M' := M133) (by omega) (by omega) (by omega) (by omega) (by omega)
      refine j_aload_n C 0 0 dX12_goesIn_22 rfl rfl ?_
      refine y_getI C 11 _ _ fX12_goesIn_126 rfl rfl ft_11_11 sb_11_11 hM133 dX12_goesIn_23 (fun a136 ea136 la136 ua136 => ?_)
      obtain rfl : a136 = (M133.1 98 11).toInt := ea136
      refine y_if_ne C 33 dX12_goesIn_26 (by decide) (by omega) (fun h138 => ?_) (fun h138 => ?_)
      · refine y_iconst C dX12_goesIn_33 ?_
        exact hret _ _ _ _ dX12_goesIn_34 ⟨0, rfl, hM133, ((FR.rf.tr fM120 (by decide)).tr fM133 (by decide)), by omega⟩
      · refine y_iconst C dX12_goesIn_29 ?_
        refine j_goto C 34 dX12_goesIn_30 (by decide) ?_
        exact hret _ _ _ _ dX12_goesIn_34 ⟨1, rfl, hM133, ((FR.rf.tr fM120 (by decide)).tr fM133 (by decide)), by omega⟩
set_option maxHeartbeats 4000000 in
theorem s7_X12_goesIn {l : Launch} {dC : Nat → ClassId} {dI : Nat → Nat → Nat} {ad : Nat → Nat} {cA : Nat → ClassId} {pr : Nat → Nat → Bool} {Kz : mm_M} {M0 : mm_M} (hM0 : INV pr Kz M0) (hpr : PM pr) (gf : Nat → Int) (gn : Int) (gi : Int) (hp0 : b01 (RIP M0) = 1) (hp1 : ¬ tkF gf gn (M0.1 98 6).toInt = 3000) (hp2 : ¬ tkF gf gn (M0.1 98 6).toInt = 3001) (hp3 : (M0.1 98 11).toInt = 0) (hp4 : b01 (TKM gf gn M0) = 1) (hp5 : b01 (PO gn gi (M0.1 98 11).toInt (M0.1 98 6).toInt) = 1) (hp6 : b01 (PI M0) = 1) : Ci l 6 yX12_goesIn wsX12_goesIn dC dI ad cA [.ref (ad 98), .int (sI 6)] M0 (fun r M' => ∃ a : Int, r = sI a ∧ INV pr Kz M' ∧ FR [98] M0 M' ∧ 0 ≤ a ∧ a ≤ 0 ∧ (b01 (RIP M') = 1) ∧ ((M'.1 98 8).toInt = (M0.1 98 8).toInt) ∧ ((M0.1 98 6).toInt ≤ (M'.1 98 6).toInt) ∧ (a = 0 ∧ ¬ (M'.1 98 11).toInt = 0 ∨ a = 1 ∧ (M'.1 98 11).toInt = 0 ∧ (M0.1 98 11).toInt = 0 ∧ (M0.1 98 7).toInt ≤ (M'.1 98 6).toInt) ∧ (a = 0 ∧ (M'.1 98 11).toInt = 4 ∧ (M'.1 98 12).toInt = gi) ∧ (b01 (PI M') = 1) ∧ (b01 (TKM gf gn M') = 1)) := by
  refine ci_of (cc := cX12_goesIn) (maxL := 2) (ty := .boolean) (lv := [(0, .ref (ad 98)), (1, .int (sI 6))]) (by decide) rfl (fun r M' hp => by obtain ⟨a, rfl, -, h⟩ := hp; rcases (show a = 0 ∨ a = 1 by omega) with rfl | rfl <;> rfl) (Nat.le_of_ble_eq_true rfl) rfl ?_
  intro p e s m args below meth c A Q C hret
  have u101l := ri_l (M := M0) (by omega)
  refine j_iload_n C 1 1 dX12_goesIn_0 rfl rfl ?_
  refine y_bipush C dX12_goesIn_1 rfl ?_
  refine y_icmp_ne C 11 dX12_goesIn_3 (by decide) (by omega) (fun h102 => ?_) (fun h102 => ?_)
  · exfalso; omega
  · refine j_aload_n C 0 0 dX12_goesIn_6 rfl rfl ?_
    refine y_iconst C dX12_goesIn_7 ?_
    refine j_callVv C (d := 0) (As := [.int (sI 4)]) (st := []) 98 (s_lt rfl rfl) (s_kc (c := 11) rfl rfl) (by decide) rfl (s1_X12_fails hM0 hpr 4 (by omega) gf gn gi (by omega) (by omega) (by omega) (by omega) (by omega)) gX12_goesIn_X12_fails rfl hdX12_fails (by decide) (Nat.le_of_ble_eq_true rfl) dX12_goesIn_8 rfl (fun M104 h105 => ?_)
    obtain ⟨hM104, fM104, h106⟩ := h105
    have bM104 := tkm_b (f := gf) (n := gn) (M := M104) (by omega)
    have qM104 := po_f gn ((faQ gf gn 4) gi).2.2 (M104.1 98 11).toInt (M104.1 98 6).toInt (by omega)
    have u107l := ri_l (M := M104) (by omega)
    refine j_aload_n C 0 0 dX12_goesIn_11 rfl rfl ?_
    refine y_getI C 11 _ _ fX12_goesIn_126 rfl rfl ft_11_11 sb_11_11 hM104 dX12_goesIn_12 (fun a108 ea108 la108 ua108 => ?_)
    obtain rfl : a108 = (M104.1 98 11).toInt := ea108
    refine y_if_ne C 22 dX12_goesIn_15 (by decide) (by omega) (fun h110 => ?_) (fun h110 => ?_)
    · refine j_aload_n C 0 0 dX12_goesIn_22 rfl rfl ?_
      refine y_getI C 11 _ _ fX12_goesIn_126 rfl rfl ft_11_11 sb_11_11 hM104 dX12_goesIn_23 (fun a111 ea111 la111 ua111 => ?_)
      obtain rfl : a111 = (M104.1 98 11).toInt := ea111
      refine y_if_ne C 33 dX12_goesIn_26 (by decide) (by omega) (fun h113 => ?_) (fun h113 => ?_)
      · refine y_iconst C dX12_goesIn_33 ?_
        have u1144 := fa_4 gf gn 4 gi (M0.1 98 11).toInt (M0.1 98 12).toInt (M0.1 98 6).toInt (M104.1 98 11).toInt (M104.1 98 12).toInt (M104.1 98 6).toInt (by decide) (by omega) (by omega) (by omega) (by omega)
        exact hret _ _ _ _ dX12_goesIn_34 ⟨0, rfl, hM104, (FR.rf.tr fM104 (by decide)), by omega⟩
      · exfalso; omega
    · refine j_aload_n C 0 0 dX12_goesIn_18 rfl rfl ?_
      have k115 := tkm_p (f := gf) (n := gn) (M := M104) (by omega)
      have k116 := tkm_K (f := gf) (n := gn) (M := M104) (by omega)
      refine j_callVv C (d := 5) (As := []) (st := []) 98 (s_lt rfl rfl) (s_kc (c := 11) rfl rfl) (by decide) rfl (s1_X12_next hM104 hpr gf gn (by omega) (by omega) (by omega) (by omega)) gX12_goesIn_X12_next rfl hdX12_next (by decide) (Nat.le_of_ble_eq_true rfl) dX12_goesIn_19 rfl (fun M118 h119 => ?_)
      obtain ⟨hM118, fM118, h120⟩ := h119
      have bM118 := tkm_b (f := gf) (n := gn) (M := M118) (by omega)
      have qM118 := nx_po (f := gf) (n := gn) (i := ((faQ gf gn 4) gi).2.2) (M := M104) (M' := M118) (by omega) (by omega) (by omega) (by omega) (by omega)
      refine j_aload_n C 0 0 dX12_goesIn_22 rfl rfl ?_
      refine y_getI C 11 _ _ fX12_goesIn_126 rfl rfl ft_11_11 sb_11_11 hM118 dX12_goesIn_23 (fun a121 ea121 la121 ua121 => ?_)
      obtain rfl : a121 = (M118.1 98 11).toInt := ea121
      refine y_if_ne C 33 dX12_goesIn_26 (by decide) (by omega) (fun h123 => ?_) (fun h123 => ?_)
      · refine y_iconst C dX12_goesIn_33 ?_
        have u1244 := fa_4 gf gn 4 gi (M0.1 98 11).toInt (M0.1 98 12).toInt (M0.1 98 6).toInt (M118.1 98 11).toInt (M118.1 98 12).toInt (M118.1 98 6).toInt (by decide) (by omega) (by omega) (by omega) (by omega)
        exact hret _ _ _ _ dX12_goesIn_34 ⟨0, rfl, hM118, ((FR.rf.tr fM104 (by decide)).tr fM118 (by decide)), by omega⟩
      · refine y_iconst C dX12_goesIn_29 ?_
        refine j_goto C 34 dX12_goesIn_30 (by decide) ?_
        have u1254 := fa_4 gf gn 4 gi (M0.1 98 11).toInt (M0.1 98 12).toInt (M0.1 98 6).toInt (M118.1 98 11).toInt (M118.1 98 12).toInt (M118.1 98 6).toInt (by decide) (by omega) (by omega) (by omega) (by omega)
        exact hret _ _ _ _ dX12_goesIn_34 ⟨1, rfl, hM118, ((FR.rf.tr fM104 (by decide)).tr fM118 (by decide)), by omega⟩
set_option maxHeartbeats 4000000 in
theorem s1_X12_wordOf {l : Launch} {dC : Nat → ClassId} {dI : Nat → Nat → Nat} {ad : Nat → Nat} {cA : Nat → ClassId} {pr : Nat → Nat → Bool} {Kz : mm_M} {M0 : mm_M} (hM0 : INV pr Kz M0) (a1 : Int) (ha1 : -2147483648 ≤ a1 ∧ a1 ≤ 2147483647) : Ci l 0 yX12_wordOf wsX12_wordOf dC dI ad cA [.ref (ad 98), .int (sI a1)] M0 (fun r M' => ∃ a : Int, r = sI a ∧ M0 = M' ∧ (-1) ≤ a ∧ a ≤ 7 ∧ (a = (woF a1))) := by
  refine ci_of (cc := cX12_wordOf) (maxL := 2) (ty := .int) (lv := [(0, .ref (ad 98)), (1, .int (sI a1))]) (by decide) rfl (fun r M' hp => rfl) (Nat.le_of_ble_eq_true rfl) rfl ?_
  intro p e s m args below meth c A Q C hret
  refine j_iload_n C 1 1 dX12_wordOf_0 rfl rfl ?_
  rcases (show (a1 < 1 ∨ 13 < a1) ∨ a1 = 1 ∨ a1 = 2 ∨ a1 = 3 ∨ a1 = 4 ∨ a1 = 5 ∨ a1 = 6 ∨ a1 = 7 ∨ a1 = 8 ∨ a1 = 9 ∨ a1 = 10 ∨ a1 = 11 ∨ a1 = 12 ∨ a1 = 13 by omega) with h101 | h101 | h101 | h101 | h101 | h101 | h101 | h101 | h101 | h101 | h101 | h101 | h101 | h101
  · refine y_tabO C 86 dX12_wordOf_1 (by decide) (by omega) ?_
    refine y_iconst C dX12_wordOf_86 ?_
    have u102 := woF_s a1
    exact hret _ _ _ _ dX12_wordOf_87 ⟨(-1), rfl, rfl, by omega⟩
  · refine y_tabI C (off := 73) 74 1 dX12_wordOf_1 (by decide) rfl (by decide) h101 ?_
    refine y_iconst C dX12_wordOf_74 ?_
    have u103 := woF_s a1
    exact hret _ _ _ _ dX12_wordOf_75 ⟨3, rfl, rfl, by omega⟩
  · refine y_tabI C (off := 75) 76 2 dX12_wordOf_1 (by decide) rfl (by decide) h101 ?_
    refine y_iconst C dX12_wordOf_76 ?_
    have u104 := woF_s a1
    exact hret _ _ _ _ dX12_wordOf_77 ⟨4, rfl, rfl, by omega⟩
  · refine y_tabI C (off := 77) 78 3 dX12_wordOf_1 (by decide) rfl (by decide) h101 ?_
    refine y_iconst C dX12_wordOf_78 ?_
    have u105 := woF_s a1
    exact hret _ _ _ _ dX12_wordOf_79 ⟨5, rfl, rfl, by omega⟩
  · refine y_tabI C (off := 82) 83 4 dX12_wordOf_1 (by decide) rfl (by decide) h101 ?_
    refine y_bipush C dX12_wordOf_83 rfl ?_
    have u106 := woF_s a1
    exact hret _ _ _ _ dX12_wordOf_85 ⟨7, rfl, rfl, by omega⟩
  · refine y_tabI C (off := 85) 86 5 dX12_wordOf_1 (by decide) rfl (by decide) h101 ?_
    refine y_iconst C dX12_wordOf_86 ?_
    have u107 := woF_s a1
    exact hret _ _ _ _ dX12_wordOf_87 ⟨(-1), rfl, rfl, by omega⟩
  · refine y_tabI C (off := 85) 86 6 dX12_wordOf_1 (by decide) rfl (by decide) h101 ?_
    refine y_iconst C dX12_wordOf_86 ?_
    have u108 := woF_s a1
    exact hret _ _ _ _ dX12_wordOf_87 ⟨(-1), rfl, rfl, by omega⟩
  · refine y_tabI C (off := 69) 70 7 dX12_wordOf_1 (by decide) rfl (by decide) h101 ?_
    refine y_iconst C dX12_wordOf_70 ?_
    have u109 := woF_s a1
    exact hret _ _ _ _ dX12_wordOf_71 ⟨1, rfl, rfl, by omega⟩
  · refine y_tabI C (off := 71) 72 8 dX12_wordOf_1 (by decide) rfl (by decide) h101 ?_
    refine y_iconst C dX12_wordOf_72 ?_
    have u110 := woF_s a1
    exact hret _ _ _ _ dX12_wordOf_73 ⟨2, rfl, rfl, by omega⟩
  · refine y_tabI C (off := 85) 86 9 dX12_wordOf_1 (by decide) rfl (by decide) h101 ?_
    refine y_iconst C dX12_wordOf_86 ?_
    have u111 := woF_s a1
    exact hret _ _ _ _ dX12_wordOf_87 ⟨(-1), rfl, rfl, by omega⟩
  · refine y_tabI C (off := 85) 86 10 dX12_wordOf_1 (by decide) rfl (by decide) h101 ?_
    refine y_iconst C dX12_wordOf_86 ?_
    have u112 := woF_s a1
    exact hret _ _ _ _ dX12_wordOf_87 ⟨(-1), rfl, rfl, by omega⟩
  · refine y_tabI C (off := 85) 86 11 dX12_wordOf_1 (by decide) rfl (by decide) h101 ?_
    refine y_iconst C dX12_wordOf_86 ?_
    have u113 := woF_s a1
    exact hret _ _ _ _ dX12_wordOf_87 ⟨(-1), rfl, rfl, by omega⟩
  · refine y_tabI C (off := 67) 68 12 dX12_wordOf_1 (by decide) rfl (by decide) h101 ?_
    refine y_iconst C dX12_wordOf_68 ?_
    have u114 := woF_s a1
    exact hret _ _ _ _ dX12_wordOf_69 ⟨0, rfl, rfl, by omega⟩
  · refine y_tabI C (off := 79) 80 13 dX12_wordOf_1 (by decide) rfl (by decide) h101 ?_
    refine y_bipush C dX12_wordOf_80 rfl ?_
    have u115 := woF_s a1
    exact hret _ _ _ _ dX12_wordOf_82 ⟨6, rfl, rfl, by omega⟩
set_option maxHeartbeats 4000000 in
theorem s1_X12_codes {l : Launch} {dC : Nat → ClassId} {dI : Nat → Nat → Nat} {ad : Nat → Nat} {cA : Nat → ClassId} {pr : Nat → Nat → Bool} {Kz : mm_M} {M0 : mm_M} (hM0 : INV pr Kz M0) (hpr : PM pr) (a1 : Int) (ha1 : -2147483648 ≤ a1 ∧ a1 ≤ 2147483647) (gf : Nat → Int) (gn : Int) (gi : Int) (hp0 : b01 (CB M0) = 1) (hp1 : b01 (TKM gf gn M0) = 1) (hp2 : b01 (PO gn gi (M0.1 98 11).toInt (M0.1 98 6).toInt) = 1) (hp3 : b01 (PI M0) = 1) : Cv l 0 yX12_codes wsX12_codes dC dI ad cA [.ref (ad 98), .int (sI a1)] M0 (fun M' => INV pr Kz M' ∧ FR [102] M0 M' ∧ (b01 (AW M0 M' a1) = 1) ∧ ((M'.1 98 11).toInt = (M0.1 98 11).toInt ∧ (M'.1 98 12).toInt = (M0.1 98 12).toInt) ∧ ((M'.1 98 6).toInt = (M0.1 98 6).toInt) ∧ (b01 (PI M') = 1) ∧ (b01 (TKM gf gn M') = 1)) := by
  refine cv_of (cc := cX12_codes) (maxL := 2) (lv := [(0, .ref (ad 98)), (1, .int (sI a1))]) (by decide) rfl (Nat.le_of_ble_eq_true rfl) rfl ?_
  intro p e s m args below meth c A Q C hret
  refine j_aload_n C 0 0 dX12_codes_0 rfl rfl ?_
  refine y_getI C 11 _ _ fX12_codes_126 rfl rfl ft_11_11 sb_11_11 hM0 dX12_codes_1 (fun a101 ea101 la101 ua101 => ?_)
  obtain rfl : a101 = (M0.1 98 11).toInt := ea101
  refine y_if_eq C 8 dX12_codes_4 (by decide) (by omega) (fun h103 => ?_) (fun h103 => ?_)
  · have u104 := cb_e (M := M0) (by omega) (by omega)
    refine j_aload_n C 0 0 dX12_codes_8 rfl rfl ?_
    refine y_getC C 11 102 fX12_codes_24 rfl rfl ft_11_4 sm_11_4 rfl hM0 dX12_codes_9 ?_
    refine y_sipush C dX12_codes_12 rfl ?_
    refine j_aload_n C 0 0 dX12_codes_15 rfl rfl ?_
    refine y_getC C 11 102 fX12_codes_24 rfl rfl ft_11_4 sm_11_4 rfl hM0 dX12_codes_16 ?_
    refine y_sipush C dX12_codes_19 rfl ?_
    refine y_ialdH C 48 1181 rfl rfl rfl ak_48 an_48 rfl _ _ hM0 (hr_48_280_280 _ (by omega) (by omega)) dX12_codes_22 (by omega) (fun a105 ea105 la105 ua105 => ?_)
    obtain rfl : a105 = (M0.1 102 280).toInt := ea105
    refine y_iadd C dX12_codes_23 ?_
    refine j_iload_n C 1 1 dX12_codes_24 rfl rfl ?_
    refine y_iastR C 48 1181 rfl rfl rfl ak_48 an_48 rfl hM0 (PM.w hpr rfl rfl) dX12_codes_25 (by omega) (by omega) (b48_c (281 + (M0.1 102 280).toInt).toNat a1 (by omega)) (fun M106 eM106 hM106 => ?_)
    have xM106 := tkm_w (f := gf) (n := gn) eM106 (by decide) (by decide) (by omega)
    have qM106 := po_eq gn gi (M0.1 98 11).toInt (M0.1 98 6).toInt (M106.1 98 11).toInt (M106.1 98 6).toInt (by omega) (by omega) (by omega)
    have pM106 := pi_o eM106 (by decide) (by decide) (by omega)
    refine j_aload_n C 0 0 dX12_codes_26 rfl rfl ?_
    refine y_getC C 11 102 fX12_codes_24 rfl rfl ft_11_4 sm_11_4 rfl hM106 dX12_codes_27 ?_
    refine y_sipush C dX12_codes_30 rfl ?_
    refine j_dup2 C dX12_codes_33 rfl rfl ?_
    refine y_ialdH C 48 1181 rfl rfl rfl ak_48 an_48 rfl _ _ hM106 (hr_48_280_280 _ (by omega) (by omega)) dX12_codes_34 (by omega) (fun a107 ea107 la107 ua107 => ?_)
    obtain rfl : a107 = (M0.1 102 280).toInt := s_fb eM106 (by omega) (ea107)
    refine y_iconst C dX12_codes_35 ?_
    refine y_iadd C dX12_codes_36 ?_
    refine y_iastH C 48 1181 rfl rfl rfl ak_48 an_48 rfl _ _ hM106 (PM.w hpr rfl rfl) (hs_48_280_280 _ (by omega) (by omega)) dX12_codes_37 (by omega) (by omega) (fun M108 eM108 hM108 => ?_)
    have xM108 := tkm_w (f := gf) (n := gn) eM108 (by decide) (by decide) (by omega)
    have qM108 := po_eq gn gi (M106.1 98 11).toInt (M106.1 98 6).toInt (M108.1 98 11).toInt (M108.1 98 6).toInt (by omega) (by omega) (by omega)
    have pM108 := pi_o eM108 (by decide) (by decide) (by omega)
    have u109a : b01 (APP M0 M108 a1) = 1 := ap_w (n := (M0.1 102 280).toInt) eM106 eM108 (by omega)
    have u109 : b01 (AW M0 M108 a1) = 1 := b01_i (Or.inr (b01_e u109a))
    have zz98_11 : (M108.1 98 11).toInt = (M0.1 98 11).toInt := s_fa eM106 (by decide) (s_fa eM108 (by decide) (rfl)); have zz98_12 : (M108.1 98 12).toInt = (M0.1 98 12).toInt := s_fa eM106 (by decide) (s_fa eM108 (by decide) (rfl)); have zz98_6 : (M108.1 98 6).toInt = (M0.1 98 6).toInt := s_fa eM106 (by decide) (s_fa eM108 (by decide) (rfl)); exact hret _ _ _ dX12_codes_38 ⟨hM108, ((FR.rf.wI eM106 (by decide)).wI eM108 (by decide)), by omega⟩
  · have u110 : b01 (AW M0 M0 a1) = 1 := b01_i (Or.inl (by omega))
    exact hret _ _ _ dX12_codes_7 ⟨hM0, FR.rf, by omega⟩
set_option maxHeartbeats 4000000 in
theorem s1_X12_readAtom {l : Launch} {dC : Nat → ClassId} {dI : Nat → Nat → Nat} {ad : Nat → Nat} {cA : Nat → ClassId} {pr : Nat → Nat → Bool} {Kz : mm_M} {M0 : mm_M} (hM0 : INV pr Kz M0) (hpr : PM pr) (gf : Nat → Int) (gn : Int) (gi : Int) (hp0 : b01 (RIP M0) = 1) (hp1 : b01 (CA M0) = 1) (hp2 : b01 (TKM gf gn M0) = 1) (hp3 : b01 (PO gn gi (M0.1 98 11).toInt (M0.1 98 6).toInt) = 1) (hp4 : b01 (PI M0) = 1) : Cv l 7 yX12_readAtom wsX12_readAtom dC dI ad cA [.ref (ad 98), .int (sI 6)] M0 (fun M' => INV pr Kz M' ∧ FR [98, 102] M0 M' ∧ (b01 (RIP M') = 1) ∧ ((M'.1 98 8).toInt = (M0.1 98 8).toInt) ∧ ((M0.1 98 6).toInt ≤ (M'.1 98 6).toInt) ∧ (b01 (XW M0 M' 0 1 0) = 1) ∧ (b01 (CA M') = 1) ∧ (b01 (PI M') = 1) ∧ (b01 (TKM gf gn M') = 1) ∧ b01 (RR ((atP gf gn true (fun i => (0, 0, i))) gi) (M0.1 98 11).toInt (M0.1 98 12).toInt (M'.1 98 11).toInt (M'.1 98 12).toInt (M'.1 98 6).toInt) = 1) := by
  refine cv_of (cc := cX12_readAtom) (maxL := 2) (lv := [(0, .ref (ad 98)), (1, .int (sI 6))]) (by decide) rfl (Nat.le_of_ble_eq_true rfl) rfl ?_
  intro p e s m args below meth c A Q C hret
  have u101z := xw_0 M0
  have u101l := ri_l (M := M0) (by omega)
  refine j_aload_n C 0 0 dX12_readAtom_0 rfl rfl ?_
  refine y_bipush C dX12_readAtom_1 rfl ?_
  have k102 := tkm_K (f := gf) (n := gn) (M := M0) (by omega)
  have k103 := kd_2 (kd_23 gf gn (M0.1 98 6).toInt) (by omega)
  refine j_callVi C (d := 0) (As := [.int (sI 23)]) (st := []) 98 (s_lt rfl rfl) (s_kc (c := 11) rfl rfl) (by decide) rfl (s1_X12_is hM0 23 (by omega)) gX12_readAtom_X12_is rfl hdX12_is (by decide) (Nat.le_of_ble_eq_true rfl) dX12_readAtom_3 rfl (fun r104 M105 h106 => ?_)
  obtain ⟨a108, rfl, rfl, h107⟩ := h106
  refine y_if_eq C 24 dX12_readAtom_6 (by decide) (by omega) (fun h109 => ?_) (fun h109 => ?_)
  · refine j_aload_n C 0 0 dX12_readAtom_24 rfl rfl ?_
    refine y_getI C 11 _ _ fX12_readAtom_126 rfl rfl ft_11_11 sb_11_11 hM0 dX12_readAtom_25 (fun a110 ea110 la110 ua110 => ?_)
    obtain rfl : a110 = (M0.1 98 11).toInt := ea110
    refine y_if_ne C 66 dX12_readAtom_28 (by decide) (by omega) (fun h112 => ?_) (fun h112 => ?_)
    · refine j_aload_n C 0 0 dX12_readAtom_66 rfl rfl ?_
      refine y_bipush C dX12_readAtom_67 rfl ?_
      have k113 := tkm_K (f := gf) (n := gn) (M := M0) (by omega)
      have k114 := kd_2 (kdk_35 gf gn (M0.1 98 6).toInt) (by omega)
      refine j_callVi C (d := 0) (As := [.int (sI 35)]) (st := []) 98 (s_lt rfl rfl) (s_kc (c := 11) rfl rfl) (by decide) rfl (s1_X12_is hM0 35 (by omega)) gX12_readAtom_X12_is rfl hdX12_is (by decide) (Nat.le_of_ble_eq_true rfl) dX12_readAtom_69 rfl (fun r115 M116 h117 => ?_)
      obtain ⟨a119, rfl, rfl, h118⟩ := h117
      refine y_if_eq C 108 dX12_readAtom_72 (by decide) (by omega) (fun h120 => ?_) (fun h120 => ?_)
      · refine j_aload_n C 0 0 dX12_readAtom_108 rfl rfl ?_
        refine y_iconst C dX12_readAtom_109 ?_
        refine j_callVv C (d := 0) (As := [.int (sI 2)]) (st := []) 98 (s_lt rfl rfl) (s_kc (c := 11) rfl rfl) (by decide) rfl (s1_X12_fails hM0 hpr 2 (by omega) gf gn gi (by omega) (by omega) (by omega) (by omega) (by omega)) gX12_readAtom_X12_fails rfl hdX12_fails (by decide) (Nat.le_of_ble_eq_true rfl) dX12_readAtom_110 rfl (fun M122 h123 => ?_)
        obtain ⟨hM122, fM122, h124⟩ := h123
        have bM122 := tkm_b (f := gf) (n := gn) (M := M122) (by omega)
        have qM122 := po_f gn ((faQ gf gn 2) gi).2.2 (M122.1 98 11).toInt (M122.1 98 6).toInt (by omega)
        have u125f : b01 (XW M0 M122 0 1 0) = 1 := b01_i (Or.inl (by omega))
        have u125a := ca_x (M := M0) (N := M122) (r := 0) (e := 1) (s := 0) (by decide) (by omega) (by omega)
        have u125r := at_4z gf gn true (fun i => (0, 0, i)) gi (M0.1 98 11).toInt (M0.1 98 12).toInt (M0.1 98 6).toInt (M122.1 98 11).toInt (M122.1 98 12).toInt (M122.1 98 6).toInt (by omega) (by omega) (by omega)
        exact hret _ _ _ dX12_readAtom_113 ⟨hM122, (FR.rf.tr fM122 (by decide)), by omega⟩
      · have u126k := ri_k (M := M0) (by omega) (by omega)
        refine j_aload_n C 0 0 dX12_readAtom_75 rfl rfl ?_
        refine j_iload_n C 1 1 dX12_readAtom_76 rfl rfl ?_
        refine j_callVi C (d := 6) (As := [.int (sI 6)]) (st := []) 98 (s_lt rfl rfl) (s_kc (c := 11) rfl rfl) (by decide) rfl (s7_X12_goesIn hM0 hpr gf gn gi (by omega) (by omega) (by omega) (by omega) (by omega) (by omega) (by omega)) gX12_readAtom_X12_goesIn rfl hdX12_goesIn (by decide) (Nat.le_of_ble_eq_true rfl) dX12_readAtom_77 rfl (fun r127 M128 h129 => ?_)
        obtain ⟨a131, rfl, hM128, fM128, h130⟩ := h129
        have bM128 := tkm_b (f := gf) (n := gn) (M := M128) (by omega)
        refine y_if_ne C 84 dX12_readAtom_80 (by decide) (by omega) (fun h132 => ?_) (fun h132 => ?_)
        · exfalso; omega
        · have u133c := xw_c (N := M0) (P := M128) 0 (FR.cell fM128 (by decide)) (by omega)
          have u133f : b01 (XW M0 M128 0 1 0) = 1 := b01_i (Or.inl (by omega))
          have u133a := ca_x (M := M0) (N := M128) (r := 0) (e := 1) (s := 0) (by decide) (by omega) (by omega)
          have u134r := at_3 gf gn (fun i => (0, 0, i)) gi (M0.1 98 11).toInt (M0.1 98 12).toInt (M0.1 98 6).toInt (M128.1 98 11).toInt (M128.1 98 12).toInt (M128.1 98 6).toInt (by omega) (by omega) (by omega) (by omega) (by omega)
          exact hret _ _ _ dX12_readAtom_83 ⟨hM128, (FR.rf.tr fM128 (by decide)), by omega⟩
    · refine j_aload_n C 0 0 dX12_readAtom_31 rfl rfl ?_
      refine j_aload_n C 0 0 dX12_readAtom_32 rfl rfl ?_
      refine y_getI C 11 _ _ fX12_readAtom_108 rfl rfl ft_11_9 sb_11_9 hM0 dX12_readAtom_33 (fun a135 ea135 la135 ua135 => ?_)
      obtain rfl : a135 = (M0.1 98 9).toInt := ea135
      have k137 := tkm_K (f := gf) (n := gn) (M := M0) (by omega)
      have k138 := kd_2 (wo_k gf gn (M0.1 98 6).toInt) (by omega)
      have k139 := wo_c (M0.1 98 9).toInt (kdF (tkF gf gn (M0.1 98 6).toInt))
      refine j_callVi C (d := 0) (As := [.int (sI (M0.1 98 9).toInt)]) (st := []) 98 (s_lt rfl rfl) (s_kc (c := 11) rfl rfl) (by decide) rfl (s1_X12_wordOf hM0 (M0.1 98 9).toInt (by omega)) gX12_readAtom_X12_wordOf rfl hdX12_wordOf (by decide) (Nat.le_of_ble_eq_true rfl) dX12_readAtom_36 rfl (fun r140 M141 h142 => ?_)
      obtain ⟨a144, rfl, rfl, h143⟩ := h142
      obtain rfl : a144 = (woF (M0.1 98 9).toInt) := by omega
      refine y_iconst C dX12_readAtom_39 ?_
      refine y_icmp_eq C 66 dX12_readAtom_40 (by decide) (by omega) (fun h145 => ?_) (fun h145 => ?_)
      · refine j_aload_n C 0 0 dX12_readAtom_66 rfl rfl ?_
        refine y_bipush C dX12_readAtom_67 rfl ?_
        have k146 := tkm_K (f := gf) (n := gn) (M := M0) (by omega)
        have k147 := kd_2 (kdk_35 gf gn (M0.1 98 6).toInt) (by omega)
        refine j_callVi C (d := 0) (As := [.int (sI 35)]) (st := []) 98 (s_lt rfl rfl) (s_kc (c := 11) rfl rfl) (by decide) rfl (s1_X12_is hM0 35 (by omega)) gX12_readAtom_X12_is rfl hdX12_is (by decide) (Nat.le_of_ble_eq_true rfl) dX12_readAtom_69 rfl (fun r148 M149 h150 => ?_)
        obtain ⟨a152, rfl, rfl, h151⟩ := h150
        refine y_if_eq C 108 dX12_readAtom_72 (by decide) (by omega) (fun h153 => ?_) (fun h153 => ?_)
        · refine j_aload_n C 0 0 dX12_readAtom_108 rfl rfl ?_
          refine y_iconst C dX12_readAtom_109 ?_
          refine j_callVv C (d := 0) (As := [.int (sI 2)]) (st := []) 98 (s_lt rfl rfl) (s_kc (c := 11) rfl rfl) (by decide) rfl (s1_X12_fails hM0 hpr 2 (by omega) gf gn gi (by omega) (by omega) (by omega) (by omega) (by omega)) gX12_readAtom_X12_fails rfl hdX12_fails (by decide) (Nat.le_of_ble_eq_true rfl) dX12_readAtom_110 rfl (fun M155 h156 => ?_)
          obtain ⟨hM155, fM155, h157⟩ := h156
          have bM155 := tkm_b (f := gf) (n := gn) (M := M155) (by omega)
          have qM155 := po_f gn ((faQ gf gn 2) gi).2.2 (M155.1 98 11).toInt (M155.1 98 6).toInt (by omega)
          have u158f : b01 (XW M0 M155 0 1 0) = 1 := b01_i (Or.inl (by omega))
          have u158a := ca_x (M := M0) (N := M155) (r := 0) (e := 1) (s := 0) (by decide) (by omega) (by omega)
          have u158r := at_4z gf gn true (fun i => (0, 0, i)) gi (M0.1 98 11).toInt (M0.1 98 12).toInt (M0.1 98 6).toInt (M155.1 98 11).toInt (M155.1 98 12).toInt (M155.1 98 6).toInt (by omega) (by omega) (by omega)
          exact hret _ _ _ dX12_readAtom_113 ⟨hM155, (FR.rf.tr fM155 (by decide)), by omega⟩
        · have u159k := ri_k (M := M0) (by omega) (by omega)
          refine j_aload_n C 0 0 dX12_readAtom_75 rfl rfl ?_
          refine j_iload_n C 1 1 dX12_readAtom_76 rfl rfl ?_
          refine j_callVi C (d := 6) (As := [.int (sI 6)]) (st := []) 98 (s_lt rfl rfl) (s_kc (c := 11) rfl rfl) (by decide) rfl (s7_X12_goesIn hM0 hpr gf gn gi (by omega) (by omega) (by omega) (by omega) (by omega) (by omega) (by omega)) gX12_readAtom_X12_goesIn rfl hdX12_goesIn (by decide) (Nat.le_of_ble_eq_true rfl) dX12_readAtom_77 rfl (fun r160 M161 h162 => ?_)
          obtain ⟨a164, rfl, hM161, fM161, h163⟩ := h162
          have bM161 := tkm_b (f := gf) (n := gn) (M := M161) (by omega)
          refine y_if_ne C 84 dX12_readAtom_80 (by decide) (by omega) (fun h165 => ?_) (fun h165 => ?_)
          · exfalso; omega
          · have u166c := xw_c (N := M0) (P := M161) 0 (FR.cell fM161 (by decide)) (by omega)
            have u166f : b01 (XW M0 M161 0 1 0) = 1 := b01_i (Or.inl (by omega))
            have u166a := ca_x (M := M0) (N := M161) (r := 0) (e := 1) (s := 0) (by decide) (by omega) (by omega)
            have u167r := at_3 gf gn (fun i => (0, 0, i)) gi (M0.1 98 11).toInt (M0.1 98 12).toInt (M0.1 98 6).toInt (M161.1 98 11).toInt (M161.1 98 12).toInt (M161.1 98 6).toInt (by omega) (by omega) (by omega) (by omega) (by omega)
            exact hret _ _ _ dX12_readAtom_83 ⟨hM161, (FR.rf.tr fM161 (by decide)), by omega⟩
      · have u168w := woF_s (M0.1 98 9).toInt
        have u168k := ri_k (M := M0) (by omega) (by omega)
        have u168b := cb_0 (M := M0) (by omega) (by omega)
        refine j_aload_n C 0 0 dX12_readAtom_43 rfl rfl ?_
        refine y_sipush C dX12_readAtom_44 rfl ?_
        refine j_aload_n C 0 0 dX12_readAtom_47 rfl rfl ?_
        refine j_aload_n C 0 0 dX12_readAtom_48 rfl rfl ?_
        refine y_getI C 11 _ _ fX12_readAtom_108 rfl rfl ft_11_9 sb_11_9 hM0 dX12_readAtom_49 (fun a169 ea169 la169 ua169 => ?_)
        obtain rfl : a169 = (M0.1 98 9).toInt := ea169
        have k171 := tkm_K (f := gf) (n := gn) (M := M0) (by omega)
        have k172 := kd_2 (wo_k gf gn (M0.1 98 6).toInt) (by omega)
        have k173 := wo_c (M0.1 98 9).toInt (kdF (tkF gf gn (M0.1 98 6).toInt))
        refine j_callVi C (d := 0) (As := [.int (sI (M0.1 98 9).toInt)]) (st := [.int (sI 1000), .ref (ad 98)]) 98 (s_lt rfl rfl) (s_kc (c := 11) rfl rfl) (by decide) rfl (s1_X12_wordOf hM0 (M0.1 98 9).toInt (by omega)) gX12_readAtom_X12_wordOf rfl hdX12_wordOf (by decide) (Nat.le_of_ble_eq_true rfl) dX12_readAtom_52 rfl (fun r174 M175 h176 => ?_)
        obtain ⟨a178, rfl, rfl, h177⟩ := h176
        obtain rfl : a178 = (woF (M0.1 98 9).toInt) := by omega
        refine y_iadd C dX12_readAtom_55 ?_
        refine j_callVv C (d := 0) (As := [.int (sI (1000 + (woF (M0.1 98 9).toInt)))]) (st := []) 98 (s_lt rfl rfl) (s_kc (c := 11) rfl rfl) (by decide) rfl (s1_X12_codes hM0 hpr (1000 + (woF (M0.1 98 9).toInt)) (by omega) gf gn gi (by omega) (by omega) (by omega) (by omega)) gX12_readAtom_X12_codes rfl hdX12_codes (by decide) (Nat.le_of_ble_eq_true rfl) dX12_readAtom_56 rfl (fun M180 h181 => ?_)
        obtain ⟨hM180, fM180, h182⟩ := h181
        have bM180 := tkm_b (f := gf) (n := gn) (M := M180) (by omega)
        have qM180 := po_eq gn gi (M0.1 98 11).toInt (M0.1 98 6).toInt (M180.1 98 11).toInt (M180.1 98 6).toInt (by omega) (by omega) (by omega)
        have u183x := xw_a (M := M0) (N := M180) (c := (1000 + (woF (M0.1 98 9).toInt))) (r := 0) (e := 1) (FR.cell fM180 (by decide)) (ap_push ⟨(INV.rd hM0 (i := 102) (c := 48) (k := 280) rfl rfl).1, by omega, by omega⟩) (by omega)
        have u183t := xw_t (M := M0) (N := M0) (P := M180) (r1 := 0) (e1 := 0) (s1 := 0) (r2 := 0) (e2 := 1) (s2 := (-1)) 0 1 (-1) (by decide) (by omega) (by omega)
        have u183i := ri_c (M := M0) (N := M180) (FR.cell fM180 (by decide)) (by omega)
        have u183l := ri_l (M := M180) (by omega)
        have u183q6 : (M180.1 98 6).toInt = (M0.1 98 6).toInt := by rw [show M180.1 98 = M0.1 98 from FR.cell fM180 (by decide)]
        have u183q7 : (M180.1 98 7).toInt = (M0.1 98 7).toInt := by rw [show M180.1 98 = M0.1 98 from FR.cell fM180 (by decide)]
        have u183q8 : (M180.1 98 8).toInt = (M0.1 98 8).toInt := by rw [show M180.1 98 = M0.1 98 from FR.cell fM180 (by decide)]
        have u183q9 : (M180.1 98 9).toInt = (M0.1 98 9).toInt := by rw [show M180.1 98 = M0.1 98 from FR.cell fM180 (by decide)]
        have u183q11 : (M180.1 98 11).toInt = (M0.1 98 11).toInt := by rw [show M180.1 98 = M0.1 98 from FR.cell fM180 (by decide)]
        refine j_aload_n C 0 0 dX12_readAtom_59 rfl rfl ?_
        have zz98_7 : (M180.1 98 7).toInt = (M0.1 98 7).toInt := s_fF fM180 (by decide) (rfl)
        have zz98_8 : (M180.1 98 8).toInt = (M0.1 98 8).toInt := s_fF fM180 (by decide) (rfl)
        have k184 := tkm_p (f := gf) (n := gn) (M := M180) (by omega)
        have k185 := tkm_K (f := gf) (n := gn) (M := M180) (by omega)
        refine j_callVv C (d := 5) (As := []) (st := []) 98 (s_lt rfl rfl) (s_kc (c := 11) rfl rfl) (by decide) rfl (s1_X12_next hM180 hpr gf gn (by omega) (by omega) (by omega) (by omega)) gX12_readAtom_X12_next rfl hdX12_next (by decide) (Nat.le_of_ble_eq_true rfl) dX12_readAtom_60 rfl (fun M187 h188 => ?_)
        obtain ⟨hM187, fM187, h189⟩ := h188
        have bM187 := tkm_b (f := gf) (n := gn) (M := M187) (by omega)
        have qM187 := nx_po (f := gf) (n := gn) (i := gi) (M := M180) (M' := M187) (by omega) (by omega) (by omega) (by omega) (by omega)
        have u190c := xw_c (N := M180) (P := M187) 1 (FR.cell fM187 (by decide)) (by omega)
        have u190t := xw_t (M := M0) (N := M180) (P := M187) (r1 := 0) (e1 := 1) (s1 := (-1)) (r2 := 0) (e2 := 0) (s2 := 1) 0 1 0 (by decide) (by omega) (by omega)
        have u190a := ca_x (M := M0) (N := M187) (r := 0) (e := 1) (s := 0) (by decide) (by omega) (by omega)
        refine j_goto C 113 dX12_readAtom_63 (by decide) ?_
        have u191r := at_1 gf gn true (fun i => (0, 0, i)) gi (M0.1 98 11).toInt (M0.1 98 12).toInt (M0.1 98 6).toInt (M187.1 98 11).toInt (M187.1 98 12).toInt (M187.1 98 6).toInt (by omega) (by omega) (by omega) (by omega) (by omega) (by omega)
        exact hret _ _ _ dX12_readAtom_113 ⟨hM187, ((FR.rf.tr fM180 (by decide)).tr fM187 (by decide)), by omega⟩
  · have u192k := ri_k (M := M0) (by omega) (by omega)
    have u192b := cb_0 (M := M0) (by omega) (by omega)
    refine j_aload_n C 0 0 dX12_readAtom_9 rfl rfl ?_
    refine j_aload_n C 0 0 dX12_readAtom_10 rfl rfl ?_
    refine y_getI C 11 _ _ fX12_readAtom_121 rfl rfl ft_11_10 sb_11_10 hM0 dX12_readAtom_11 (fun a193 ea193 la193 ua193 => ?_)
    obtain rfl : a193 = (M0.1 98 10).toInt := ea193
    refine j_callVv C (d := 0) (As := [.int (sI (M0.1 98 10).toInt)]) (st := []) 98 (s_lt rfl rfl) (s_kc (c := 11) rfl rfl) (by decide) rfl (s1_X12_codes hM0 hpr (M0.1 98 10).toInt (by omega) gf gn gi (by omega) (by omega) (by omega) (by omega)) gX12_readAtom_X12_codes rfl hdX12_codes (by decide) (Nat.le_of_ble_eq_true rfl) dX12_readAtom_14 rfl (fun M196 h197 => ?_)
    obtain ⟨hM196, fM196, h198⟩ := h197
    have bM196 := tkm_b (f := gf) (n := gn) (M := M196) (by omega)
    have qM196 := po_eq gn gi (M0.1 98 11).toInt (M0.1 98 6).toInt (M196.1 98 11).toInt (M196.1 98 6).toInt (by omega) (by omega) (by omega)
    have u199x := xw_a (M := M0) (N := M196) (c := (M0.1 98 10).toInt) (r := 0) (e := 1) (FR.cell fM196 (by decide)) (ap_push ⟨(INV.rd hM0 (i := 102) (c := 48) (k := 280) rfl rfl).1, by omega, by omega⟩) (by omega)
    have u199t := xw_t (M := M0) (N := M0) (P := M196) (r1 := 0) (e1 := 0) (s1 := 0) (r2 := 0) (e2 := 1) (s2 := (-1)) 0 1 (-1) (by decide) (by omega) (by omega)
    have u199i := ri_c (M := M0) (N := M196) (FR.cell fM196 (by decide)) (by omega)
    have u199l := ri_l (M := M196) (by omega)
    have u199q6 : (M196.1 98 6).toInt = (M0.1 98 6).toInt := by rw [show M196.1 98 = M0.1 98 from FR.cell fM196 (by decide)]
    have u199q7 : (M196.1 98 7).toInt = (M0.1 98 7).toInt := by rw [show M196.1 98 = M0.1 98 from FR.cell fM196 (by decide)]
    have u199q8 : (M196.1 98 8).toInt = (M0.1 98 8).toInt := by rw [show M196.1 98 = M0.1 98 from FR.cell fM196 (by decide)]
    have u199q9 : (M196.1 98 9).toInt = (M0.1 98 9).toInt := by rw [show M196.1 98 = M0.1 98 from FR.cell fM196 (by decide)]
    have u199q11 : (M196.1 98 11).toInt = (M0.1 98 11).toInt := by rw [show M196.1 98 = M0.1 98 from FR.cell fM196 (by decide)]
    refine j_aload_n C 0 0 dX12_readAtom_17 rfl rfl ?_
    have zz98_7 : (M196.1 98 7).toInt = (M0.1 98 7).toInt := s_fF fM196 (by decide) (rfl)
    have zz98_8 : (M196.1 98 8).toInt = (M0.1 98 8).toInt := s_fF fM196 (by decide) (rfl)
    have k200 := tkm_p (f := gf) (n := gn) (M := M196) (by omega)
    have k201 := tkm_K (f := gf) (n := gn) (M := M196) (by omega)
    refine j_callVv C (d := 5) (As := []) (st := []) 98 (s_lt rfl rfl) (s_kc (c := 11) rfl rfl) (by decide) rfl (s1_X12_next hM196 hpr gf gn (by omega) (by omega) (by omega) (by omega)) gX12_readAtom_X12_next rfl hdX12_next (by decide) (Nat.le_of_ble_eq_true rfl) dX12_readAtom_18 rfl (fun M203 h204 => ?_)
    obtain ⟨hM203, fM203, h205⟩ := h204
    have bM203 := tkm_b (f := gf) (n := gn) (M := M203) (by omega)
    have qM203 := nx_po (f := gf) (n := gn) (i := gi) (M := M196) (M' := M203) (by omega) (by omega) (by omega) (by omega) (by omega)
    have u206c := xw_c (N := M196) (P := M203) 1 (FR.cell fM203 (by decide)) (by omega)
    have u206t := xw_t (M := M0) (N := M196) (P := M203) (r1 := 0) (e1 := 1) (s1 := (-1)) (r2 := 0) (e2 := 0) (s2 := 1) 0 1 0 (by decide) (by omega) (by omega)
    have u206a := ca_x (M := M0) (N := M203) (r := 0) (e := 1) (s := 0) (by decide) (by omega) (by omega)
    refine j_goto C 113 dX12_readAtom_21 (by decide) ?_
    have u207r := at_1 gf gn true (fun i => (0, 0, i)) gi (M0.1 98 11).toInt (M0.1 98 12).toInt (M0.1 98 6).toInt (M203.1 98 11).toInt (M203.1 98 12).toInt (M203.1 98 6).toInt (by omega) (by omega) (by omega) (by omega) (by omega) (by omega)
    exact hret _ _ _ dX12_readAtom_113 ⟨hM203, ((FR.rf.tr fM196 (by decide)).tr fM203 (by decide)), by omega⟩
set_option maxHeartbeats 4000000 in
theorem s1_X12_readTerm {l : Launch} {dC : Nat → ClassId} {dI : Nat → Nat → Nat} {ad : Nat → Nat} {cA : Nat → ClassId} {pr : Nat → Nat → Bool} {Kz : mm_M} {M0 : mm_M} (hM0 : INV pr Kz M0) (hpr : PM pr) (gf : Nat → Int) (gn : Int) (gi : Int) (hp0 : b01 (RIP M0) = 1) (hp1 : b01 (CA M0) = 1) (hp2 : b01 (TKM gf gn M0) = 1) (hp3 : b01 (PO gn gi (M0.1 98 11).toInt (M0.1 98 6).toInt) = 1) (hp4 : b01 (PI M0) = 1) : Cv l 8 yX12_readTerm wsX12_readTerm dC dI ad cA [.ref (ad 98), .int (sI 6)] M0 (fun M' => INV pr Kz M' ∧ FR [98, 102] M0 M' ∧ (b01 (RIP M') = 1) ∧ ((M'.1 98 8).toInt = (M0.1 98 8).toInt) ∧ ((M0.1 98 6).toInt ≤ (M'.1 98 6).toInt) ∧ (b01 (XW M0 M' 0 1 0) = 1) ∧ (b01 (CA M') = 1) ∧ (b01 (PI M') = 1) ∧ (b01 (TKM gf gn M') = 1) ∧ b01 (RR ((teP gf gn true (fun i => (0, 0, i))) gi) (M0.1 98 11).toInt (M0.1 98 12).toInt (M'.1 98 11).toInt (M'.1 98 12).toInt (M'.1 98 6).toInt) = 1) := by
  refine cv_of (cc := cX12_readTerm) (maxL := 2) (lv := [(0, .ref (ad 98)), (1, .int (sI 6))]) (by decide) rfl (Nat.le_of_ble_eq_true rfl) rfl ?_
  intro p e s m args below meth c A Q C hret
  have u101z := xw_0 M0
  have u101l := ri_l (M := M0) (by omega)
  refine j_aload_n C 0 0 dX12_readTerm_0 rfl rfl ?_
  refine j_iload_n C 1 1 dX12_readTerm_1 rfl rfl ?_
  refine j_callVv C (d := 7) (As := [.int (sI 6)]) (st := []) 98 (s_lt rfl rfl) (s_kc (c := 11) rfl rfl) (by decide) rfl (s1_X12_readAtom hM0 hpr gf gn gi (by omega) (by omega) (by omega) (by omega) (by omega)) gX12_readTerm_X12_readAtom rfl hdX12_readAtom (by decide) (Nat.le_of_ble_eq_true rfl) dX12_readTerm_2 rfl (fun M103 h104 => ?_)
  obtain ⟨hM103, fM103, h105⟩ := h104
  have bM103 := tkm_b (f := gf) (n := gn) (M := M103) (by omega)
  have qM103 := po_rr (atP gf gn true (fun i => (0, 0, i))) gn gi (M0.1 98 11).toInt (M0.1 98 12).toInt (M0.1 98 6).toInt (M103.1 98 11).toInt (M103.1 98 12).toInt (M103.1 98 6).toInt (at_g gf gn (fun h => by cases h)) (by omega) (by omega)
  have u106l := ri_l (M := M103) (by omega)
  have u106L := ll_0 (luP gf gn 2042 2042 (atP gf gn true (fun i => (0, 0, i)))) gn ((atP gf gn true (fun i => (0, 0, i))) gi).2.2 (M103.1 98 11).toInt (M103.1 98 12).toInt (M103.1 98 6).toInt (by omega)
  have L132 : ∀ (n130 : Nat), ∀ (M133 : mm_M) (gq134 : Int), ((b01 (RIP M133) = 1) ∧ ((M133.1 98 8).toInt = (M0.1 98 8).toInt) ∧ ((M0.1 98 6).toInt ≤ (M133.1 98 6).toInt) ∧ (b01 (XW M0 M133 0 1 0) = 1) ∧ ((M133.1 98 6).toInt ≤ 900) ∧ (b01 (LL (luP gf gn 2042 2042 (atP gf gn true (fun i => (0, 0, i)))) gn ((atP gf gn true (fun i => (0, 0, i))) gi).2.2 gq134 0 (M103.1 98 11).toInt (M103.1 98 12).toInt (M133.1 98 11).toInt (M133.1 98 12).toInt (M133.1 98 6).toInt) = 1) ∧ (b01 (TKM gf gn M133) = 1) ∧ (b01 (PO gn gq134 (M133.1 98 11).toInt (M133.1 98 6).toInt) = 1) ∧ (b01 (PI M133) = 1) ∧ (900 - (M133.1 98 6).toInt) < (n130 : Int)) → INV pr Kz M133 → FR [98, 102] M0 M133 → jj p l e (cn_R 8) s m args below meth c 0 0 Q 2 dC dI ad cA A M133 5 [(0, .ref (ad 98)), (1, .int (sI 6))] [] := by
    intro n130
    induction n130 with
    | zero =>
      intro M133 gq134 h135 hM133 fM133
      exfalso; omega
    | succ n130 ih131 =>
      intro M133 gq134 h135 hM133 fM133
      have u136l := ri_l (M := M133) (by omega)
      have u136B := tkm_b (f := gf) (n := gn) (M := M133) (by omega)
      refine j_aload_n C 0 0 dX12_readTerm_5 rfl rfl ?_
      refine y_bipush C dX12_readTerm_6 rfl ?_
      have k137 := tkm_K (f := gf) (n := gn) (M := M133) (by omega)
      have k138 := kd_2 (kdk_34 gf gn (M133.1 98 6).toInt) (by omega)
      refine j_callVi C (d := 6) (As := [.int (sI 34)]) (st := []) 98 (s_lt rfl rfl) (s_kc (c := 11) rfl rfl) (by decide) rfl (s1_X12_eats hM133 hpr 34 (by omega) gf gn gq134 (by omega) (by omega) (by omega) (by omega) (by omega)) gX12_readTerm_X12_eats rfl hdX12_eats (by decide) (Nat.le_of_ble_eq_true rfl) dX12_readTerm_8 rfl (fun r139 M140 h141 => ?_)
      obtain ⟨a143, rfl, hM140, fM140, h142⟩ := h141
      have k144 := tk_c gf gn (M140.1 98 6).toInt (M133.1 98 6).toInt
      have bM140 := tkm_b (f := gf) (n := gn) (M := M140) (by omega)
      refine y_if_eq C 29 dX12_readTerm_11 (by decide) (by omega) (fun h145 => ?_) (fun h145 => ?_)
      · have u157c := xw_c (N := M133) (P := M140) 0 (FR.cell fM140 (by decide)) (by omega)
        have u157t := xw_t (M := M0) (N := M133) (P := M140) (r1 := 0) (e1 := 1) (s1 := 0) (r2 := 0) (e2 := 0) (s2 := 0) 0 1 0 (by decide) (by omega) (by omega)
        have u157a := ca_x (M := M0) (N := M140) (r := 0) (e := 1) (s := 0) (by decide) (by omega) (by omega)
        have u157E := ll_e gf gn 2042 2042 (atP gf gn true (fun i => (0, 0, i))) ((atP gf gn true (fun i => (0, 0, i))) gi).2.2 gq134 0 (M103.1 98 11).toInt (M103.1 98 12).toInt (M133.1 98 11).toInt (M133.1 98 12).toInt (M133.1 98 6).toInt (by decide) (at_g gf gn (fun h => by cases h)) (by omega) (by omega)
        have u157S : b01 (RR ((teP gf gn true (fun i => (0, 0, i))) gi) (M0.1 98 11).toInt (M0.1 98 12).toInt (M133.1 98 11).toInt (M133.1 98 12).toInt (M133.1 98 6).toInt) = 1 := rr_sq ((atP gf gn true (fun i => (0, 0, i))) gi) (luP gf gn 2042 2042 (atP gf gn true (fun i => (0, 0, i)))) (M0.1 98 11).toInt (M0.1 98 12).toInt (M103.1 98 11).toInt (M103.1 98 12).toInt (M103.1 98 6).toInt (M133.1 98 11).toInt (M133.1 98 12).toInt (M133.1 98 6).toInt (by omega) (by omega)
        have u157R := rr_eq ((teP gf gn true (fun i => (0, 0, i))) gi) (M0.1 98 11).toInt (M0.1 98 12).toInt (M133.1 98 11).toInt (M133.1 98 12).toInt (M133.1 98 6).toInt (M140.1 98 11).toInt (M140.1 98 12).toInt (M140.1 98 6).toInt (by omega) (by omega) (by omega) (by omega)
        exact hret _ _ _ dX12_readTerm_29 ⟨hM140, ((FR.rf.tr fM133 (by decide)).tr fM140 (by decide)), by omega⟩
      · have u146c := xw_c (N := M133) (P := M140) 1 (FR.cell fM140 (by decide)) (by omega)
        have u146t := xw_t (M := M0) (N := M133) (P := M140) (r1 := 0) (e1 := 1) (s1 := 0) (r2 := 0) (e2 := 0) (s2 := 1) 0 1 1 (by decide) (by omega) (by omega)
        have u146a := ca_x (M := M0) (N := M140) (r := 0) (e := 1) (s := 1) (by decide) (by omega) (by omega)
        have u146l := ri_l (M := M140) (by omega)
        refine j_aload_n C 0 0 dX12_readTerm_14 rfl rfl ?_
        refine j_iload_n C 1 1 dX12_readTerm_15 rfl rfl ?_
        refine j_callVv C (d := 7) (As := [.int (sI 6)]) (st := []) 98 (s_lt rfl rfl) (s_kc (c := 11) rfl rfl) (by decide) rfl (s1_X12_readAtom hM140 hpr gf gn (nxF gf gn gq134) (by omega) (by omega) (by omega) (by omega) (by omega)) gX12_readTerm_X12_readAtom rfl hdX12_readAtom (by decide) (Nat.le_of_ble_eq_true rfl) dX12_readTerm_16 rfl (fun M148 h149 => ?_)
        obtain ⟨hM148, fM148, h150⟩ := h149
        have bM148 := tkm_b (f := gf) (n := gn) (M := M148) (by omega)
        have qM148 := po_rr (atP gf gn true (fun i => (0, 0, i))) gn (nxF gf gn gq134) (M140.1 98 11).toInt (M140.1 98 12).toInt (M140.1 98 6).toInt (M148.1 98 11).toInt (M148.1 98 12).toInt (M148.1 98 6).toInt (at_g gf gn (fun h => by cases h)) (by omega) (by omega)
        have u151t := xw_t (M := M0) (N := M140) (P := M148) (r1 := 0) (e1 := 1) (s1 := 1) (r2 := 0) (e2 := 1) (s2 := 0) 0 2 1 (by decide) (by omega) (by omega)
        have u151l := ri_l (M := M148) (by omega)
        have u151b := cb_x (M := M0) (N := M148) (r := 0) (e := 2) (s := 1) (by decide) (by omega) (by omega) (by omega)
        refine j_aload_n C 0 0 dX12_readTerm_19 rfl rfl ?_
        refine y_sipush C dX12_readTerm_20 rfl ?_
        refine j_callVv C (d := 0) (As := [.int (sI 3002)]) (st := []) 98 (s_lt rfl rfl) (s_kc (c := 11) rfl rfl) (by decide) rfl (s1_X12_codes hM148 hpr 3002 (by omega) gf gn ((atP gf gn true (fun i => (0, 0, i))) (nxF gf gn gq134)).2.2 (by omega) (by omega) (by omega) (by omega)) gX12_readTerm_X12_codes rfl hdX12_codes (by decide) (Nat.le_of_ble_eq_true rfl) dX12_readTerm_23 rfl (fun M153 h154 => ?_)
        obtain ⟨hM153, fM153, h155⟩ := h154
        have bM153 := tkm_b (f := gf) (n := gn) (M := M153) (by omega)
        have qM153 := po_eq gn ((atP gf gn true (fun i => (0, 0, i))) (nxF gf gn gq134)).2.2 (M148.1 98 11).toInt (M148.1 98 6).toInt (M153.1 98 11).toInt (M153.1 98 6).toInt (by omega) (by omega) (by omega)
        refine j_goto C 5 dX12_readTerm_26 (by decide) ?_
        have u156x := xw_a (M := M148) (N := M153) (c := 3002) (r := 2) (e := (-1)) (FR.cell fM153 (by decide)) (ap_bin ⟨(INV.rd hM148 (i := 102) (c := 48) (k := 280) rfl rfl).1, by omega, by omega⟩) (by omega)
        have u156t := xw_t (M := M0) (N := M148) (P := M153) (r1 := 0) (e1 := 2) (s1 := 1) (r2 := 2) (e2 := (-1)) (s2 := (-1)) 0 1 0 (by decide) (by omega) (by omega)
        have u156i := ri_c (M := M148) (N := M153) (FR.cell fM153 (by decide)) (by omega)
        have u156l := ri_l (M := M153) (by omega)
        have u156L := ll_w (luP gf gn 2042 2042 (atP gf gn true (fun i => (0, 0, i)))) gn ((atP gf gn true (fun i => (0, 0, i))) gi).2.2 ((atP gf gn true (fun i => (0, 0, i))) (nxF gf gn gq134)).2.2 (0 + 1) 0 (M103.1 98 11).toInt (M103.1 98 12).toInt (M153.1 98 11).toInt (M153.1 98 12).toInt (M153.1 98 6).toInt (by decide) (ll_s gf gn 2042 2042 (atP gf gn true (fun i => (0, 0, i))) ((atP gf gn true (fun i => (0, 0, i))) gi).2.2 gq134 0 (M103.1 98 11).toInt (M103.1 98 12).toInt (M133.1 98 11).toInt (M133.1 98 12).toInt (M133.1 98 6).toInt (M140.1 98 11).toInt (M140.1 98 12).toInt (M148.1 98 11).toInt (M148.1 98 12).toInt (M148.1 98 6).toInt (M153.1 98 11).toInt (M153.1 98 12).toInt (M153.1 98 6).toInt (by decide) (at_g gf gn (fun h => by cases h)) (by omega) (by omega) (by omega) (by omega) (by omega) (by omega) (by omega) (by omega) (by omega))
        have zz98_8 : (M153.1 98 8).toInt = (M148.1 98 8).toInt := s_fF fM153 (by decide) (rfl); have zz98_6 : (M153.1 98 6).toInt = (M148.1 98 6).toInt := s_fF fM153 (by decide) (rfl); have zz98_12 : (M153.1 98 12).toInt = (M148.1 98 12).toInt := s_fF fM153 (by decide) (rfl); have zz98_11 : (M153.1 98 11).toInt = (M148.1 98 11).toInt := s_fF fM153 (by decide) (rfl); exact ih131 M153 ((atP gf gn true (fun i => (0, 0, i))) (nxF gf gn gq134)).2.2 (by omega) hM153 ((((FR.rf.tr fM133 (by decide)).tr fM140 (by decide)).tr fM148 (by decide)).tr fM153 (by decide))
  exact L132 2010 M103 ((atP gf gn true (fun i => (0, 0, i))) gi).2.2 (by omega) hM103 (FR.rf.tr fM103 (by decide))
set_option maxHeartbeats 4000000 in
theorem s1_X12_readSum {l : Launch} {dC : Nat → ClassId} {dI : Nat → Nat → Nat} {ad : Nat → Nat} {cA : Nat → ClassId} {pr : Nat → Nat → Bool} {Kz : mm_M} {M0 : mm_M} (hM0 : INV pr Kz M0) (hpr : PM pr) (gf : Nat → Int) (gn : Int) (gi : Int) (hp0 : b01 (RIP M0) = 1) (hp1 : b01 (CA M0) = 1) (hp2 : b01 (TKM gf gn M0) = 1) (hp3 : b01 (PO gn gi (M0.1 98 11).toInt (M0.1 98 6).toInt) = 1) (hp4 : b01 (PI M0) = 1) : Cv l 9 yX12_readSum wsX12_readSum dC dI ad cA [.ref (ad 98), .int (sI 6)] M0 (fun M' => INV pr Kz M' ∧ FR [98, 102] M0 M' ∧ (b01 (RIP M') = 1) ∧ ((M'.1 98 8).toInt = (M0.1 98 8).toInt) ∧ ((M0.1 98 6).toInt ≤ (M'.1 98 6).toInt) ∧ (b01 (XW M0 M' 0 1 0) = 1) ∧ (b01 (CA M') = 1) ∧ (b01 (PI M') = 1) ∧ (b01 (TKM gf gn M') = 1) ∧ b01 (RR ((suR gf gn 0) gi) (M0.1 98 11).toInt (M0.1 98 12).toInt (M'.1 98 11).toInt (M'.1 98 12).toInt (M'.1 98 6).toInt) = 1) := by
  refine cv_of (cc := cX12_readSum) (maxL := 3) (lv := [(0, .ref (ad 98)), (1, .int (sI 6))]) (by decide) rfl (Nat.le_of_ble_eq_true rfl) rfl ?_
  intro p e s m args below meth c A Q C hret
  have u101z := xw_0 M0
  have u101l := ri_l (M := M0) (by omega)
  refine j_aload_n C 0 0 dX12_readSum_0 rfl rfl ?_
  refine j_iload_n C 1 1 dX12_readSum_1 rfl rfl ?_
  refine j_callVv C (d := 8) (As := [.int (sI 6)]) (st := []) 98 (s_lt rfl rfl) (s_kc (c := 11) rfl rfl) (by decide) rfl (s1_X12_readTerm hM0 hpr gf gn gi (by omega) (by omega) (by omega) (by omega) (by omega)) gX12_readSum_X12_readTerm rfl hdX12_readTerm (by decide) (Nat.le_of_ble_eq_true rfl) dX12_readSum_2 rfl (fun M103 h104 => ?_)
  obtain ⟨hM103, fM103, h105⟩ := h104
  have bM103 := tkm_b (f := gf) (n := gn) (M := M103) (by omega)
  have qM103 := po_rr (teP gf gn true (fun i => (0, 0, i))) gn gi (M0.1 98 11).toInt (M0.1 98 12).toInt (M0.1 98 6).toInt (M103.1 98 11).toInt (M103.1 98 12).toInt (M103.1 98 6).toInt (te_g gf gn (fun h => by cases h)) (by omega) (by omega)
  have u106l := ri_l (M := M103) (by omega)
  have u106L := ll_0 (luP gf gn 2043 2045 (teP gf gn true (fun i => (0, 0, i)))) gn ((teP gf gn true (fun i => (0, 0, i))) gi).2.2 (M103.1 98 11).toInt (M103.1 98 12).toInt (M103.1 98 6).toInt (by omega)
  have L176 : ∀ (n174 : Nat), ∀ (M177 : mm_M) (gq178 : Int), ((b01 (RIP M177) = 1) ∧ ((M177.1 98 8).toInt = (M0.1 98 8).toInt) ∧ ((M0.1 98 6).toInt ≤ (M177.1 98 6).toInt) ∧ (b01 (XW M0 M177 0 1 0) = 1) ∧ ((M177.1 98 6).toInt ≤ 900) ∧ (b01 (LL (luP gf gn 2043 2045 (teP gf gn true (fun i => (0, 0, i)))) gn ((teP gf gn true (fun i => (0, 0, i))) gi).2.2 gq178 0 (M103.1 98 11).toInt (M103.1 98 12).toInt (M177.1 98 11).toInt (M177.1 98 12).toInt (M177.1 98 6).toInt) = 1) ∧ (b01 (TKM gf gn M177) = 1) ∧ (b01 (PO gn gq178 (M177.1 98 11).toInt (M177.1 98 6).toInt) = 1) ∧ (b01 (PI M177) = 1) ∧ (900 - (M177.1 98 6).toInt) < (n174 : Int)) → INV pr Kz M177 → FR [98, 102] M0 M177 → jj p l e (cn_R 9) s m args below meth c 0 0 Q 3 dC dI ad cA A M177 5 [(0, .ref (ad 98)), (1, .int (sI 6))] [] := by
    intro n174
    induction n174 with
    | zero =>
      intro M177 gq178 h179 hM177 fM177
      exfalso; omega
    | succ n174 ih175 =>
      intro M177 gq178 h179 hM177 fM177
      have u180l := ri_l (M := M177) (by omega)
      have u180B := tkm_b (f := gf) (n := gn) (M := M177) (by omega)
      refine j_aload_n C 0 0 dX12_readSum_5 rfl rfl ?_
      refine y_bipush C dX12_readSum_6 rfl ?_
      have k181 := tkm_K (f := gf) (n := gn) (M := M177) (by omega)
      have k182 := kd_2 (kdk_32 gf gn (M177.1 98 6).toInt) (by omega)
      refine j_callVi C (d := 0) (As := [.int (sI 32)]) (st := []) 98 (s_lt rfl rfl) (s_kc (c := 11) rfl rfl) (by decide) rfl (s1_X12_is hM177 32 (by omega)) gX12_readSum_X12_is rfl hdX12_is (by decide) (Nat.le_of_ble_eq_true rfl) dX12_readSum_8 rfl (fun r183 M184 h185 => ?_)
      obtain ⟨a187, rfl, rfl, h186⟩ := h185
      refine y_if_ne C 23 dX12_readSum_11 (by decide) (by omega) (fun h188 => ?_) (fun h188 => ?_)
      · refine j_aload_n C 0 0 dX12_readSum_23 rfl rfl ?_
        refine y_getI C 11 _ _ fX12_readSum_108 rfl rfl ft_11_9 sb_11_9 hM177 dX12_readSum_24 (fun a189 ea189 la189 ua189 => ?_)
        obtain rfl : a189 = (M177.1 98 9).toInt := ea189
        refine y_bipush C dX12_readSum_27 rfl ?_
        have J193 : ∀ (a192 : Int), (3000 ≤ a192 ∧ a192 ≤ 3001) → jj p l e (cn_R 9) s m args below meth c 0 0 Q 3 dC dI ad cA A M177 41 [(0, .ref (ad 98)), (1, .int (sI 6))] [.int (sI a192)] := by
          intro a192 h194
          refine j_istore_n C 2 [(2, .int (sI a192)), (0, .ref (ad 98)), (1, .int (sI 6))] dX12_readSum_41 rfl (by decide) rfl ?_
          have u195k := ri_k (M := M177) (by omega) (by omega)
          refine j_aload_n C 1 0 dX12_readSum_42 rfl rfl ?_
          have k196 := tkm_p (f := gf) (n := gn) (M := M177) (by omega)
          have k197 := tkm_K (f := gf) (n := gn) (M := M177) (by omega)
          refine j_callVv C (d := 5) (As := []) (st := []) 98 (s_lt rfl rfl) (s_kc (c := 11) rfl rfl) (by decide) rfl (s1_X12_next hM177 hpr gf gn (by omega) (by omega) (by omega) (by omega)) gX12_readSum_X12_next rfl hdX12_next (by decide) (Nat.le_of_ble_eq_true rfl) dX12_readSum_43 rfl (fun M199 h200 => ?_)
          obtain ⟨hM199, fM199, h201⟩ := h200
          have bM199 := tkm_b (f := gf) (n := gn) (M := M199) (by omega)
          have qM199 := nx_po (f := gf) (n := gn) (i := gq178) (M := M177) (M' := M199) (by omega) (by omega) (by omega) (by omega) (by omega)
          have u202c := xw_c (N := M177) (P := M199) 1 (FR.cell fM199 (by decide)) (by omega)
          have u202t := xw_t (M := M0) (N := M177) (P := M199) (r1 := 0) (e1 := 1) (s1 := 0) (r2 := 0) (e2 := 0) (s2 := 1) 0 1 1 (by decide) (by omega) (by omega)
          have u202a := ca_x (M := M0) (N := M199) (r := 0) (e := 1) (s := 1) (by decide) (by omega) (by omega)
          have u202l := ri_l (M := M199) (by omega)
          refine j_aload_n C 1 0 dX12_readSum_46 rfl rfl ?_
          refine j_iload_n C 2 1 dX12_readSum_47 rfl rfl ?_
          refine j_callVv C (d := 8) (As := [.int (sI 6)]) (st := []) 98 (s_lt rfl rfl) (s_kc (c := 11) rfl rfl) (by decide) rfl (s1_X12_readTerm hM199 hpr gf gn (nxF gf gn gq178) (by omega) (by omega) (by omega) (by omega) (by omega)) gX12_readSum_X12_readTerm rfl hdX12_readTerm (by decide) (Nat.le_of_ble_eq_true rfl) dX12_readSum_48 rfl (fun M204 h205 => ?_)
          obtain ⟨hM204, fM204, h206⟩ := h205
          have bM204 := tkm_b (f := gf) (n := gn) (M := M204) (by omega)
          have qM204 := po_rr (teP gf gn true (fun i => (0, 0, i))) gn (nxF gf gn gq178) (M199.1 98 11).toInt (M199.1 98 12).toInt (M199.1 98 6).toInt (M204.1 98 11).toInt (M204.1 98 12).toInt (M204.1 98 6).toInt (te_g gf gn (fun h => by cases h)) (by omega) (by omega)
          have u207t := xw_t (M := M0) (N := M199) (P := M204) (r1 := 0) (e1 := 1) (s1 := 1) (r2 := 0) (e2 := 1) (s2 := 0) 0 2 1 (by decide) (by omega) (by omega)
          have u207l := ri_l (M := M204) (by omega)
          have u207b := cb_x (M := M0) (N := M204) (r := 0) (e := 2) (s := 1) (by decide) (by omega) (by omega) (by omega)
          refine j_aload_n C 1 0 dX12_readSum_51 rfl rfl ?_
          refine j_iload_n C 0 2 dX12_readSum_52 rfl rfl ?_
          refine j_callVv C (d := 0) (As := [.int (sI a192)]) (st := []) 98 (s_lt rfl rfl) (s_kc (c := 11) rfl rfl) (by decide) rfl (s1_X12_codes hM204 hpr a192 (by omega) gf gn ((teP gf gn true (fun i => (0, 0, i))) (nxF gf gn gq178)).2.2 (by omega) (by omega) (by omega) (by omega)) gX12_readSum_X12_codes rfl hdX12_codes (by decide) (Nat.le_of_ble_eq_true rfl) dX12_readSum_53 rfl (fun M209 h210 => ?_)
          obtain ⟨hM209, fM209, h211⟩ := h210
          have bM209 := tkm_b (f := gf) (n := gn) (M := M209) (by omega)
          have qM209 := po_eq gn ((teP gf gn true (fun i => (0, 0, i))) (nxF gf gn gq178)).2.2 (M204.1 98 11).toInt (M204.1 98 6).toInt (M209.1 98 11).toInt (M209.1 98 6).toInt (by omega) (by omega) (by omega)
          refine j_goto C 5 dX12_readSum_56 (by decide) ?_
          have u212x := xw_a (M := M204) (N := M209) (c := a192) (r := 2) (e := (-1)) (FR.cell fM209 (by decide)) (ap_bin ⟨(INV.rd hM204 (i := 102) (c := 48) (k := 280) rfl rfl).1, by omega, by omega⟩) (by omega)
          have u212t := xw_t (M := M0) (N := M204) (P := M209) (r1 := 0) (e1 := 2) (s1 := 1) (r2 := 2) (e2 := (-1)) (s2 := (-1)) 0 1 0 (by decide) (by omega) (by omega)
          have u212i := ri_c (M := M204) (N := M209) (FR.cell fM209 (by decide)) (by omega)
          have u212l := ri_l (M := M209) (by omega)
          have u212L := ll_w (luP gf gn 2043 2045 (teP gf gn true (fun i => (0, 0, i)))) gn ((teP gf gn true (fun i => (0, 0, i))) gi).2.2 ((teP gf gn true (fun i => (0, 0, i))) (nxF gf gn gq178)).2.2 (0 + 1) 0 (M103.1 98 11).toInt (M103.1 98 12).toInt (M209.1 98 11).toInt (M209.1 98 12).toInt (M209.1 98 6).toInt (by decide) (ll_s gf gn 2043 2045 (teP gf gn true (fun i => (0, 0, i))) ((teP gf gn true (fun i => (0, 0, i))) gi).2.2 gq178 0 (M103.1 98 11).toInt (M103.1 98 12).toInt (M177.1 98 11).toInt (M177.1 98 12).toInt (M177.1 98 6).toInt (M199.1 98 11).toInt (M199.1 98 12).toInt (M204.1 98 11).toInt (M204.1 98 12).toInt (M204.1 98 6).toInt (M209.1 98 11).toInt (M209.1 98 12).toInt (M209.1 98 6).toInt (by decide) (te_g gf gn (fun h => by cases h)) (by omega) (by omega) (by omega) (by omega) (by omega) (by omega) (by omega) (by omega) (by omega))
          have zz98_8 : (M209.1 98 8).toInt = (M204.1 98 8).toInt := s_fF fM209 (by decide) (rfl); have zz98_6 : (M209.1 98 6).toInt = (M204.1 98 6).toInt := s_fF fM209 (by decide) (rfl); have zz98_12 : (M209.1 98 12).toInt = (M204.1 98 12).toInt := s_fF fM209 (by decide) (rfl); have zz98_11 : (M209.1 98 11).toInt = (M204.1 98 11).toInt := s_fF fM209 (by decide) (rfl); refine j_lv [1, 2] rfl ?_; exact ih175 M209 ((teP gf gn true (fun i => (0, 0, i))) (nxF gf gn gq178)).2.2 (by omega) hM209 ((((FR.rf.tr fM177 (by decide)).tr fM199 (by decide)).tr fM204 (by decide)).tr fM209 (by decide))
        refine y_icmp_ne C 38 dX12_readSum_29 (by decide) (by omega) (fun h191 => ?_) (fun h191 => ?_)
        · refine y_sipush C dX12_readSum_38 rfl ?_
          exact J193 3001 (by omega)
        · refine y_sipush C dX12_readSum_32 rfl ?_
          refine j_goto C 41 dX12_readSum_35 (by decide) ?_
          exact J193 3000 (by omega)
      · refine j_aload_n C 0 0 dX12_readSum_14 rfl rfl ?_
        refine y_bipush C dX12_readSum_15 rfl ?_
        have k213 := tkm_K (f := gf) (n := gn) (M := M177) (by omega)
        have k214 := kd_2 (kdk_33 gf gn (M177.1 98 6).toInt) (by omega)
        refine j_callVi C (d := 0) (As := [.int (sI 33)]) (st := []) 98 (s_lt rfl rfl) (s_kc (c := 11) rfl rfl) (by decide) rfl (s1_X12_is hM177 33 (by omega)) gX12_readSum_X12_is rfl hdX12_is (by decide) (Nat.le_of_ble_eq_true rfl) dX12_readSum_17 rfl (fun r215 M216 h217 => ?_)
        obtain ⟨a219, rfl, rfl, h218⟩ := h217
        refine y_if_eq C 59 dX12_readSum_20 (by decide) (by omega) (fun h220 => ?_) (fun h220 => ?_)
        · have u245a := ca_x (M := M0) (N := M177) (r := 0) (e := 1) (s := 0) (by decide) (by omega) (by omega)
          have u245E := ll_e gf gn 2043 2045 (teP gf gn true (fun i => (0, 0, i))) ((teP gf gn true (fun i => (0, 0, i))) gi).2.2 gq178 0 (M103.1 98 11).toInt (M103.1 98 12).toInt (M177.1 98 11).toInt (M177.1 98 12).toInt (M177.1 98 6).toInt (by decide) (te_g gf gn (fun h => by cases h)) (by omega) (by omega)
          have u245S : b01 (RR ((suR gf gn 0) gi) (M0.1 98 11).toInt (M0.1 98 12).toInt (M177.1 98 11).toInt (M177.1 98 12).toInt (M177.1 98 6).toInt) = 1 := by rw [su_q0 gf gn]; exact rr_sq ((teP gf gn true (fun i => (0, 0, i))) gi) (luP gf gn 2043 2045 (teP gf gn true (fun i => (0, 0, i)))) (M0.1 98 11).toInt (M0.1 98 12).toInt (M103.1 98 11).toInt (M103.1 98 12).toInt (M103.1 98 6).toInt (M177.1 98 11).toInt (M177.1 98 12).toInt (M177.1 98 6).toInt (by omega) (by omega)
          exact hret _ _ _ dX12_readSum_59 ⟨hM177, (FR.rf.tr fM177 (by decide)), by omega⟩
        · refine j_aload_n C 0 0 dX12_readSum_23 rfl rfl ?_
          refine y_getI C 11 _ _ fX12_readSum_108 rfl rfl ft_11_9 sb_11_9 hM177 dX12_readSum_24 (fun a221 ea221 la221 ua221 => ?_)
          obtain rfl : a221 = (M177.1 98 9).toInt := ea221
          refine y_bipush C dX12_readSum_27 rfl ?_
          have J225 : ∀ (a224 : Int), (3000 ≤ a224 ∧ a224 ≤ 3001) → jj p l e (cn_R 9) s m args below meth c 0 0 Q 3 dC dI ad cA A M177 41 [(0, .ref (ad 98)), (1, .int (sI 6))] [.int (sI a224)] := by
            intro a224 h226
            refine j_istore_n C 2 [(2, .int (sI a224)), (0, .ref (ad 98)), (1, .int (sI 6))] dX12_readSum_41 rfl (by decide) rfl ?_
            have u227k := ri_k (M := M177) (by omega) (by omega)
            refine j_aload_n C 1 0 dX12_readSum_42 rfl rfl ?_
            have k228 := tkm_p (f := gf) (n := gn) (M := M177) (by omega)
            have k229 := tkm_K (f := gf) (n := gn) (M := M177) (by omega)
            refine j_callVv C (d := 5) (As := []) (st := []) 98 (s_lt rfl rfl) (s_kc (c := 11) rfl rfl) (by decide) rfl (s1_X12_next hM177 hpr gf gn (by omega) (by omega) (by omega) (by omega)) gX12_readSum_X12_next rfl hdX12_next (by decide) (Nat.le_of_ble_eq_true rfl) dX12_readSum_43 rfl (fun M231 h232 => ?_)
            obtain ⟨hM231, fM231, h233⟩ := h232
            have bM231 := tkm_b (f := gf) (n := gn) (M := M231) (by omega)
            have qM231 := nx_po (f := gf) (n := gn) (i := gq178) (M := M177) (M' := M231) (by omega) (by omega) (by omega) (by omega) (by omega)
            have u234c := xw_c (N := M177) (P := M231) 1 (FR.cell fM231 (by decide)) (by omega)
            have u234t := xw_t (M := M0) (N := M177) (P := M231) (r1 := 0) (e1 := 1) (s1 := 0) (r2 := 0) (e2 := 0) (s2 := 1) 0 1 1 (by decide) (by omega) (by omega)
            have u234a := ca_x (M := M0) (N := M231) (r := 0) (e := 1) (s := 1) (by decide) (by omega) (by omega)
            have u234l := ri_l (M := M231) (by omega)
            refine j_aload_n C 1 0 dX12_readSum_46 rfl rfl ?_
            refine j_iload_n C 2 1 dX12_readSum_47 rfl rfl ?_
            refine j_callVv C (d := 8) (As := [.int (sI 6)]) (st := []) 98 (s_lt rfl rfl) (s_kc (c := 11) rfl rfl) (by decide) rfl (s1_X12_readTerm hM231 hpr gf gn (nxF gf gn gq178) (by omega) (by omega) (by omega) (by omega) (by omega)) gX12_readSum_X12_readTerm rfl hdX12_readTerm (by decide) (Nat.le_of_ble_eq_true rfl) dX12_readSum_48 rfl (fun M236 h237 => ?_)
            obtain ⟨hM236, fM236, h238⟩ := h237
            have bM236 := tkm_b (f := gf) (n := gn) (M := M236) (by omega)
            have qM236 := po_rr (teP gf gn true (fun i => (0, 0, i))) gn (nxF gf gn gq178) (M231.1 98 11).toInt (M231.1 98 12).toInt (M231.1 98 6).toInt (M236.1 98 11).toInt (M236.1 98 12).toInt (M236.1 98 6).toInt (te_g gf gn (fun h => by cases h)) (by omega) (by omega)
            have u239t := xw_t (M := M0) (N := M231) (P := M236) (r1 := 0) (e1 := 1) (s1 := 1) (r2 := 0) (e2 := 1) (s2 := 0) 0 2 1 (by decide) (by omega) (by omega)
            have u239l := ri_l (M := M236) (by omega)
            have u239b := cb_x (M := M0) (N := M236) (r := 0) (e := 2) (s := 1) (by decide) (by omega) (by omega) (by omega)
            refine j_aload_n C 1 0 dX12_readSum_51 rfl rfl ?_
            refine j_iload_n C 0 2 dX12_readSum_52 rfl rfl ?_
            refine j_callVv C (d := 0) (As := [.int (sI a224)]) (st := []) 98 (s_lt rfl rfl) (s_kc (c := 11) rfl rfl) (by decide) rfl (s1_X12_codes hM236 hpr a224 (by omega) gf gn ((teP gf gn true (fun i => (0, 0, i))) (nxF gf gn gq178)).2.2 (by omega) (by omega) (by omega) (by omega)) gX12_readSum_X12_codes rfl hdX12_codes (by decide) (Nat.le_of_ble_eq_true rfl) dX12_readSum_53 rfl (fun M241 h242 => ?_)
            obtain ⟨hM241, fM241, h243⟩ := h242
            have bM241 := tkm_b (f := gf) (n := gn) (M := M241) (by omega)
            have qM241 := po_eq gn ((teP gf gn true (fun i => (0, 0, i))) (nxF gf gn gq178)).2.2 (M236.1 98 11).toInt (M236.1 98 6).toInt (M241.1 98 11).toInt (M241.1 98 6).toInt (by omega) (by omega) (by omega)
            refine j_goto C 5 dX12_readSum_56 (by decide) ?_
            have u244x := xw_a (M := M236) (N := M241) (c := a224) (r := 2) (e := (-1)) (FR.cell fM241 (by decide)) (ap_bin ⟨(INV.rd hM236 (i := 102) (c := 48) (k := 280) rfl rfl).1, by omega, by omega⟩) (by omega)
            have u244t := xw_t (M := M0) (N := M236) (P := M241) (r1 := 0) (e1 := 2) (s1 := 1) (r2 := 2) (e2 := (-1)) (s2 := (-1)) 0 1 0 (by decide) (by omega) (by omega)
            have u244i := ri_c (M := M236) (N := M241) (FR.cell fM241 (by decide)) (by omega)
            have u244l := ri_l (M := M241) (by omega)
            have u244L := ll_w (luP gf gn 2043 2045 (teP gf gn true (fun i => (0, 0, i)))) gn ((teP gf gn true (fun i => (0, 0, i))) gi).2.2 ((teP gf gn true (fun i => (0, 0, i))) (nxF gf gn gq178)).2.2 (0 + 1) 0 (M103.1 98 11).toInt (M103.1 98 12).toInt (M241.1 98 11).toInt (M241.1 98 12).toInt (M241.1 98 6).toInt (by decide) (ll_s gf gn 2043 2045 (teP gf gn true (fun i => (0, 0, i))) ((teP gf gn true (fun i => (0, 0, i))) gi).2.2 gq178 0 (M103.1 98 11).toInt (M103.1 98 12).toInt (M177.1 98 11).toInt (M177.1 98 12).toInt (M177.1 98 6).toInt (M231.1 98 11).toInt (M231.1 98 12).toInt (M236.1 98 11).toInt (M236.1 98 12).toInt (M236.1 98 6).toInt (M241.1 98 11).toInt (M241.1 98 12).toInt (M241.1 98 6).toInt (by decide) (te_g gf gn (fun h => by cases h)) (by omega) (by omega) (by omega) (by omega) (by omega) (by omega) (by omega) (by omega) (by omega))
            have zz98_8 : (M241.1 98 8).toInt = (M236.1 98 8).toInt := s_fF fM241 (by decide) (rfl); have zz98_6 : (M241.1 98 6).toInt = (M236.1 98 6).toInt := s_fF fM241 (by decide) (rfl); have zz98_12 : (M241.1 98 12).toInt = (M236.1 98 12).toInt := s_fF fM241 (by decide) (rfl); have zz98_11 : (M241.1 98 11).toInt = (M236.1 98 11).toInt := s_fF fM241 (by decide) (rfl); refine j_lv [1, 2] rfl ?_; exact ih175 M241 ((teP gf gn true (fun i => (0, 0, i))) (nxF gf gn gq178)).2.2 (by omega) hM241 ((((FR.rf.tr fM177 (by decide)).tr fM231 (by decide)).tr fM236 (by decide)).tr fM241 (by decide))
          refine y_icmp_ne C 38 dX12_readSum_29 (by decide) (by omega) (fun h223 => ?_) (fun h223 => ?_)
          · refine y_sipush C dX12_readSum_38 rfl ?_
            exact J225 3001 (by omega)
          · refine y_sipush C dX12_readSum_32 rfl ?_
            refine j_goto C 41 dX12_readSum_35 (by decide) ?_
            exact J225 3000 (by omega)
  exact L176 2010 M103 ((teP gf gn true (fun i => (0, 0, i))) gi).2.2 (by omega) hM103 (FR.rf.tr fM103 (by decide))
set_option maxHeartbeats 4000000 in
theorem s2_X12_readAtom {l : Launch} {dC : Nat → ClassId} {dI : Nat → Nat → Nat} {ad : Nat → Nat} {cA : Nat → ClassId} {pr : Nat → Nat → Bool} {Kz : mm_M} {M0 : mm_M} (hM0 : INV pr Kz M0) (hpr : PM pr) (gf : Nat → Int) (gn : Int) (gi : Int) (hp0 : b01 (RIP M0) = 1) (hp1 : b01 (CA M0) = 1) (hp2 : b01 (TKM gf gn M0) = 1) (hp3 : b01 (PO gn gi (M0.1 98 11).toInt (M0.1 98 6).toInt) = 1) (hp4 : b01 (PI M0) = 1) : Cv l 10 yX12_readAtom wsX12_readAtom dC dI ad cA [.ref (ad 98), .int (sI 5)] M0 (fun M' => INV pr Kz M' ∧ FR [98, 102] M0 M' ∧ (b01 (RIP M') = 1) ∧ ((M'.1 98 8).toInt = (M0.1 98 8).toInt) ∧ ((M0.1 98 6).toInt ≤ (M'.1 98 6).toInt) ∧ (b01 (XW M0 M' 0 1 0) = 1) ∧ (b01 (CA M') = 1) ∧ (b01 (PI M') = 1) ∧ (b01 (TKM gf gn M') = 1) ∧ b01 (RR ((atP gf gn false (suR gf gn 0)) gi) (M0.1 98 11).toInt (M0.1 98 12).toInt (M'.1 98 11).toInt (M'.1 98 12).toInt (M'.1 98 6).toInt) = 1) := by
  refine cv_of (cc := cX12_readAtom) (maxL := 2) (lv := [(0, .ref (ad 98)), (1, .int (sI 5))]) (by decide) rfl (Nat.le_of_ble_eq_true rfl) rfl ?_
  intro p e s m args below meth c A Q C hret
  have u101z := xw_0 M0
  have u101l := ri_l (M := M0) (by omega)
  refine j_aload_n C 0 0 dX12_readAtom_0 rfl rfl ?_
  refine y_bipush C dX12_readAtom_1 rfl ?_
  have k102 := tkm_K (f := gf) (n := gn) (M := M0) (by omega)
  have k103 := kd_2 (kd_23 gf gn (M0.1 98 6).toInt) (by omega)
  refine j_callVi C (d := 0) (As := [.int (sI 23)]) (st := []) 98 (s_lt rfl rfl) (s_kc (c := 11) rfl rfl) (by decide) rfl (s1_X12_is hM0 23 (by omega)) gX12_readAtom_X12_is rfl hdX12_is (by decide) (Nat.le_of_ble_eq_true rfl) dX12_readAtom_3 rfl (fun r104 M105 h106 => ?_)
  obtain ⟨a108, rfl, rfl, h107⟩ := h106
  refine y_if_eq C 24 dX12_readAtom_6 (by decide) (by omega) (fun h109 => ?_) (fun h109 => ?_)
  · refine j_aload_n C 0 0 dX12_readAtom_24 rfl rfl ?_
    refine y_getI C 11 _ _ fX12_readAtom_126 rfl rfl ft_11_11 sb_11_11 hM0 dX12_readAtom_25 (fun a110 ea110 la110 ua110 => ?_)
    obtain rfl : a110 = (M0.1 98 11).toInt := ea110
    refine y_if_ne C 66 dX12_readAtom_28 (by decide) (by omega) (fun h112 => ?_) (fun h112 => ?_)
    · refine j_aload_n C 0 0 dX12_readAtom_66 rfl rfl ?_
      refine y_bipush C dX12_readAtom_67 rfl ?_
      have k113 := tkm_K (f := gf) (n := gn) (M := M0) (by omega)
      have k114 := kd_2 (kdk_35 gf gn (M0.1 98 6).toInt) (by omega)
      refine j_callVi C (d := 0) (As := [.int (sI 35)]) (st := []) 98 (s_lt rfl rfl) (s_kc (c := 11) rfl rfl) (by decide) rfl (s1_X12_is hM0 35 (by omega)) gX12_readAtom_X12_is rfl hdX12_is (by decide) (Nat.le_of_ble_eq_true rfl) dX12_readAtom_69 rfl (fun r115 M116 h117 => ?_)
      obtain ⟨a119, rfl, rfl, h118⟩ := h117
      refine y_if_eq C 108 dX12_readAtom_72 (by decide) (by omega) (fun h120 => ?_) (fun h120 => ?_)
      · refine j_aload_n C 0 0 dX12_readAtom_108 rfl rfl ?_
        refine y_iconst C dX12_readAtom_109 ?_
        refine j_callVv C (d := 0) (As := [.int (sI 2)]) (st := []) 98 (s_lt rfl rfl) (s_kc (c := 11) rfl rfl) (by decide) rfl (s1_X12_fails hM0 hpr 2 (by omega) gf gn gi (by omega) (by omega) (by omega) (by omega) (by omega)) gX12_readAtom_X12_fails rfl hdX12_fails (by decide) (Nat.le_of_ble_eq_true rfl) dX12_readAtom_110 rfl (fun M122 h123 => ?_)
        obtain ⟨hM122, fM122, h124⟩ := h123
        have bM122 := tkm_b (f := gf) (n := gn) (M := M122) (by omega)
        have qM122 := po_f gn ((faQ gf gn 2) gi).2.2 (M122.1 98 11).toInt (M122.1 98 6).toInt (by omega)
        have u125f : b01 (XW M0 M122 0 1 0) = 1 := b01_i (Or.inl (by omega))
        have u125a := ca_x (M := M0) (N := M122) (r := 0) (e := 1) (s := 0) (by decide) (by omega) (by omega)
        have u125r := at_4z gf gn false (suR gf gn 0) gi (M0.1 98 11).toInt (M0.1 98 12).toInt (M0.1 98 6).toInt (M122.1 98 11).toInt (M122.1 98 12).toInt (M122.1 98 6).toInt (by omega) (by omega) (by omega)
        exact hret _ _ _ dX12_readAtom_113 ⟨hM122, (FR.rf.tr fM122 (by decide)), by omega⟩
      · have u126k := ri_k (M := M0) (by omega) (by omega)
        refine j_aload_n C 0 0 dX12_readAtom_75 rfl rfl ?_
        refine j_iload_n C 1 1 dX12_readAtom_76 rfl rfl ?_
        refine j_callVi C (d := 6) (As := [.int (sI 5)]) (st := []) 98 (s_lt rfl rfl) (s_kc (c := 11) rfl rfl) (by decide) rfl (s6_X12_goesIn hM0 hpr gf gn gi (by omega) (by omega) (by omega) (by omega) (by omega) (by omega) (by omega)) gX12_readAtom_X12_goesIn rfl hdX12_goesIn (by decide) (Nat.le_of_ble_eq_true rfl) dX12_readAtom_77 rfl (fun r127 M128 h129 => ?_)
        obtain ⟨a131, rfl, hM128, fM128, h130⟩ := h129
        have bM128 := tkm_b (f := gf) (n := gn) (M := M128) (by omega)
        refine y_if_ne C 84 dX12_readAtom_80 (by decide) (by omega) (fun h132 => ?_) (fun h132 => ?_)
        · have u133c := xw_c (N := M0) (P := M128) 1 (FR.cell fM128 (by decide)) (by omega)
          have u133t := xw_t (M := M0) (N := M0) (P := M128) (r1 := 0) (e1 := 0) (s1 := 0) (r2 := 0) (e2 := 0) (s2 := 1) 0 0 1 (by decide) (by omega) (by omega)
          have u133a := ca_x (M := M0) (N := M128) (r := 0) (e := 0) (s := 1) (by decide) (by omega) (by omega)
          have u133l := ri_l (M := M128) (by omega)
          refine j_aload_n C 0 0 dX12_readAtom_84 rfl rfl ?_
          refine j_iload_n C 1 1 dX12_readAtom_85 rfl rfl ?_
          refine y_iconst C dX12_readAtom_86 ?_
          refine y_iadd C dX12_readAtom_87 ?_
          refine j_callVv C (d := 9) (As := [.int (sI (5 + 1))]) (st := []) 98 (s_lt rfl rfl) (s_kc (c := 11) rfl rfl) (by decide) rfl (s1_X12_readSum hM128 hpr gf gn (nxF gf gn gi) (by omega) (by omega) (by omega) (by omega) (by omega)) gX12_readAtom_X12_readSum rfl hdX12_readSum (by decide) (Nat.le_of_ble_eq_true rfl) dX12_readAtom_88 rfl (fun M135 h136 => ?_)
          obtain ⟨hM135, fM135, h137⟩ := h136
          have bM135 := tkm_b (f := gf) (n := gn) (M := M135) (by omega)
          have qM135 := po_rr (suR gf gn 0) gn (nxF gf gn gi) (M128.1 98 11).toInt (M128.1 98 12).toInt (M128.1 98 6).toInt (M135.1 98 11).toInt (M135.1 98 12).toInt (M135.1 98 6).toInt (suR_g gf gn 0) (by omega) (by omega)
          have u138t := xw_t (M := M0) (N := M128) (P := M135) (r1 := 0) (e1 := 0) (s1 := 1) (r2 := 0) (e2 := 1) (s2 := 0) 0 1 1 (by decide) (by omega) (by omega)
          have u138l := ri_l (M := M135) (by omega)
          refine j_aload_n C 0 0 dX12_readAtom_91 rfl rfl ?_
          refine y_bipush C dX12_readAtom_92 rfl ?_
          have k139 := tkm_K (f := gf) (n := gn) (M := M135) (by omega)
          have k140 := kd_2 (kdk_36 gf gn (M135.1 98 6).toInt) (by omega)
          refine j_callVi C (d := 6) (As := [.int (sI 36)]) (st := []) 98 (s_lt rfl rfl) (s_kc (c := 11) rfl rfl) (by decide) rfl (s1_X12_eats hM135 hpr 36 (by omega) gf gn ((suR gf gn 0) (nxF gf gn gi)).2.2 (by omega) (by omega) (by omega) (by omega) (by omega)) gX12_readAtom_X12_eats rfl hdX12_eats (by decide) (Nat.le_of_ble_eq_true rfl) dX12_readAtom_94 rfl (fun r141 M142 h143 => ?_)
          obtain ⟨a145, rfl, hM142, fM142, h144⟩ := h143
          have k146 := tk_c gf gn (M142.1 98 6).toInt (M135.1 98 6).toInt
          have bM142 := tkm_b (f := gf) (n := gn) (M := M142) (by omega)
          have u147c := xw_c (N := M135) (P := M142) 0 (FR.cell fM142 (by decide)) (by omega)
          have u147t := xw_t (M := M0) (N := M135) (P := M142) (r1 := 0) (e1 := 1) (s1 := 1) (r2 := 0) (e2 := 0) (s2 := 0) 0 1 0 (by decide) (by omega) (by omega)
          have u147a := ca_x (M := M0) (N := M142) (r := 0) (e := 1) (s := 0) (by decide) (by omega) (by omega)
          have u147l := ri_l (M := M142) (by omega)
          refine y_if_ne C 113 dX12_readAtom_97 (by decide) (by omega) (fun h148 => ?_) (fun h148 => ?_)
          · have u149x := ex_1 gf gn 2041 ((suR gf gn 0) (nxF gf gn gi)).2.2 (M135.1 98 11).toInt (M135.1 98 12).toInt (M135.1 98 6).toInt (M142.1 98 11).toInt (M142.1 98 12).toInt (M142.1 98 6).toInt (by omega) (by omega) (by omega) (by omega) (by omega) (by omega)
            have u149r := at_2 gf gn (suR gf gn 0) gi (M0.1 98 11).toInt (M0.1 98 12).toInt (M0.1 98 6).toInt (M128.1 98 11).toInt (M128.1 98 12).toInt (M135.1 98 11).toInt (M135.1 98 12).toInt (M135.1 98 6).toInt (M142.1 98 11).toInt (M142.1 98 12).toInt (M142.1 98 6).toInt (by omega) (by omega) (by omega) (by omega) (by omega) (by omega)
            exact hret _ _ _ dX12_readAtom_113 ⟨hM142, (((FR.rf.tr fM128 (by decide)).tr fM135 (by decide)).tr fM142 (by decide)), by omega⟩
          · refine j_aload_n C 0 0 dX12_readAtom_100 rfl rfl ?_
            refine y_iconst C dX12_readAtom_101 ?_
            have p150 := po_eq gn ((suR gf gn 0) (nxF gf gn gi)).2.2 (M135.1 98 11).toInt (M135.1 98 6).toInt (M142.1 98 11).toInt (M142.1 98 6).toInt (by omega) (by omega) (by omega)
            refine j_callVv C (d := 0) (As := [.int (sI 2)]) (st := []) 98 (s_lt rfl rfl) (s_kc (c := 11) rfl rfl) (by decide) rfl (s1_X12_fails hM142 hpr 2 (by omega) gf gn ((suR gf gn 0) (nxF gf gn gi)).2.2 (by omega) (by omega) (by omega) (by omega) (by omega)) gX12_readAtom_X12_fails rfl hdX12_fails (by decide) (Nat.le_of_ble_eq_true rfl) dX12_readAtom_102 rfl (fun M152 h153 => ?_)
            obtain ⟨hM152, fM152, h154⟩ := h153
            have bM152 := tkm_b (f := gf) (n := gn) (M := M152) (by omega)
            have qM152 := po_f gn ((faQ gf gn 2) ((suR gf gn 0) (nxF gf gn gi)).2.2).2.2 (M152.1 98 11).toInt (M152.1 98 6).toInt (by omega)
            have u155f : b01 (XW M0 M152 0 1 0) = 1 := b01_i (Or.inl (by omega))
            have u155a := ca_x (M := M0) (N := M152) (r := 0) (e := 1) (s := 0) (by decide) (by omega) (by omega)
            refine j_goto C 113 dX12_readAtom_105 (by decide) ?_
            have u156x := ex_2z gf gn 2041 ((suR gf gn 0) (nxF gf gn gi)).2.2 (M135.1 98 11).toInt (M135.1 98 12).toInt (M135.1 98 6).toInt (M152.1 98 11).toInt (M152.1 98 12).toInt (M152.1 98 6).toInt (by omega) (by omega) (rr_fr (faQ gf gn 2 ((suR gf gn 0) (nxF gf gn gi)).2.2) (M135.1 98 11).toInt (M135.1 98 12).toInt (M142.1 98 11).toInt (M142.1 98 12).toInt (M152.1 98 11).toInt (M152.1 98 12).toInt (M152.1 98 6).toInt (by omega) (by omega) (by omega))
            have u156r := at_2 gf gn (suR gf gn 0) gi (M0.1 98 11).toInt (M0.1 98 12).toInt (M0.1 98 6).toInt (M128.1 98 11).toInt (M128.1 98 12).toInt (M135.1 98 11).toInt (M135.1 98 12).toInt (M135.1 98 6).toInt (M152.1 98 11).toInt (M152.1 98 12).toInt (M152.1 98 6).toInt (by omega) (by omega) (by omega) (by omega) (by omega) (by omega)
            exact hret _ _ _ dX12_readAtom_113 ⟨hM152, ((((FR.rf.tr fM128 (by decide)).tr fM135 (by decide)).tr fM142 (by decide)).tr fM152 (by decide)), by omega⟩
        · exfalso; omega
    · refine j_aload_n C 0 0 dX12_readAtom_31 rfl rfl ?_
      refine j_aload_n C 0 0 dX12_readAtom_32 rfl rfl ?_
      refine y_getI C 11 _ _ fX12_readAtom_108 rfl rfl ft_11_9 sb_11_9 hM0 dX12_readAtom_33 (fun a157 ea157 la157 ua157 => ?_)
      obtain rfl : a157 = (M0.1 98 9).toInt := ea157
      have k159 := tkm_K (f := gf) (n := gn) (M := M0) (by omega)
      have k160 := kd_2 (wo_k gf gn (M0.1 98 6).toInt) (by omega)
      have k161 := wo_c (M0.1 98 9).toInt (kdF (tkF gf gn (M0.1 98 6).toInt))
      refine j_callVi C (d := 0) (As := [.int (sI (M0.1 98 9).toInt)]) (st := []) 98 (s_lt rfl rfl) (s_kc (c := 11) rfl rfl) (by decide) rfl (s1_X12_wordOf hM0 (M0.1 98 9).toInt (by omega)) gX12_readAtom_X12_wordOf rfl hdX12_wordOf (by decide) (Nat.le_of_ble_eq_true rfl) dX12_readAtom_36 rfl (fun r162 M163 h164 => ?_)
      obtain ⟨a166, rfl, rfl, h165⟩ := h164
      obtain rfl : a166 = (woF (M0.1 98 9).toInt) := by omega
      refine y_iconst C dX12_readAtom_39 ?_
      refine y_icmp_eq C 66 dX12_readAtom_40 (by decide) (by omega) (fun h167 => ?_) (fun h167 => ?_)
      · refine j_aload_n C 0 0 dX12_readAtom_66 rfl rfl ?_
        refine y_bipush C dX12_readAtom_67 rfl ?_
        have k168 := tkm_K (f := gf) (n := gn) (M := M0) (by omega)
        have k169 := kd_2 (kdk_35 gf gn (M0.1 98 6).toInt) (by omega)
        refine j_callVi C (d := 0) (As := [.int (sI 35)]) (st := []) 98 (s_lt rfl rfl) (s_kc (c := 11) rfl rfl) (by decide) rfl (s1_X12_is hM0 35 (by omega)) gX12_readAtom_X12_is rfl hdX12_is (by decide) (Nat.le_of_ble_eq_true rfl) dX12_readAtom_69 rfl (fun r170 M171 h172 => ?_)
        obtain ⟨a174, rfl, rfl, h173⟩ := h172
        refine y_if_eq C 108 dX12_readAtom_72 (by decide) (by omega) (fun h175 => ?_) (fun h175 => ?_)
        · refine j_aload_n C 0 0 dX12_readAtom_108 rfl rfl ?_
          refine y_iconst C dX12_readAtom_109 ?_
          refine j_callVv C (d := 0) (As := [.int (sI 2)]) (st := []) 98 (s_lt rfl rfl) (s_kc (c := 11) rfl rfl) (by decide) rfl (s1_X12_fails hM0 hpr 2 (by omega) gf gn gi (by omega) (by omega) (by omega) (by omega) (by omega)) gX12_readAtom_X12_fails rfl hdX12_fails (by decide) (Nat.le_of_ble_eq_true rfl) dX12_readAtom_110 rfl (fun M177 h178 => ?_)
          obtain ⟨hM177, fM177, h179⟩ := h178
          have bM177 := tkm_b (f := gf) (n := gn) (M := M177) (by omega)
          have qM177 := po_f gn ((faQ gf gn 2) gi).2.2 (M177.1 98 11).toInt (M177.1 98 6).toInt (by omega)
          have u180f : b01 (XW M0 M177 0 1 0) = 1 := b01_i (Or.inl (by omega))
          have u180a := ca_x (M := M0) (N := M177) (r := 0) (e := 1) (s := 0) (by decide) (by omega) (by omega)
          have u180r := at_4z gf gn false (suR gf gn 0) gi (M0.1 98 11).toInt (M0.1 98 12).toInt (M0.1 98 6).toInt (M177.1 98 11).toInt (M177.1 98 12).toInt (M177.1 98 6).toInt (by omega) (by omega) (by omega)
          exact hret _ _ _ dX12_readAtom_113 ⟨hM177, (FR.rf.tr fM177 (by decide)), by omega⟩
        · have u181k := ri_k (M := M0) (by omega) (by omega)
          refine j_aload_n C 0 0 dX12_readAtom_75 rfl rfl ?_
          refine j_iload_n C 1 1 dX12_readAtom_76 rfl rfl ?_
          refine j_callVi C (d := 6) (As := [.int (sI 5)]) (st := []) 98 (s_lt rfl rfl) (s_kc (c := 11) rfl rfl) (by decide) rfl (s6_X12_goesIn hM0 hpr gf gn gi (by omega) (by omega) (by omega) (by omega) (by omega) (by omega) (by omega)) gX12_readAtom_X12_goesIn rfl hdX12_goesIn (by decide) (Nat.le_of_ble_eq_true rfl) dX12_readAtom_77 rfl (fun r182 M183 h184 => ?_)
          obtain ⟨a186, rfl, hM183, fM183, h185⟩ := h184
          have bM183 := tkm_b (f := gf) (n := gn) (M := M183) (by omega)
          refine y_if_ne C 84 dX12_readAtom_80 (by decide) (by omega) (fun h187 => ?_) (fun h187 => ?_)
          · have u188c := xw_c (N := M0) (P := M183) 1 (FR.cell fM183 (by decide)) (by omega)
            have u188t := xw_t (M := M0) (N := M0) (P := M183) (r1 := 0) (e1 := 0) (s1 := 0) (r2 := 0) (e2 := 0) (s2 := 1) 0 0 1 (by decide) (by omega) (by omega)
            have u188a := ca_x (M := M0) (N := M183) (r := 0) (e := 0) (s := 1) (by decide) (by omega) (by omega)
            have u188l := ri_l (M := M183) (by omega)
            refine j_aload_n C 0 0 dX12_readAtom_84 rfl rfl ?_
            refine j_iload_n C 1 1 dX12_readAtom_85 rfl rfl ?_
            refine y_iconst C dX12_readAtom_86 ?_
            refine y_iadd C dX12_readAtom_87 ?_
            refine j_callVv C (d := 9) (As := [.int (sI (5 + 1))]) (st := []) 98 (s_lt rfl rfl) (s_kc (c := 11) rfl rfl) (by decide) rfl (s1_X12_readSum hM183 hpr gf gn (nxF gf gn gi) (by omega) (by omega) (by omega) (by omega) (by omega)) gX12_readAtom_X12_readSum rfl hdX12_readSum (by decide) (Nat.le_of_ble_eq_true rfl) dX12_readAtom_88 rfl (fun M190 h191 => ?_)
            obtain ⟨hM190, fM190, h192⟩ := h191
            have bM190 := tkm_b (f := gf) (n := gn) (M := M190) (by omega)
            have qM190 := po_rr (suR gf gn 0) gn (nxF gf gn gi) (M183.1 98 11).toInt (M183.1 98 12).toInt (M183.1 98 6).toInt (M190.1 98 11).toInt (M190.1 98 12).toInt (M190.1 98 6).toInt (suR_g gf gn 0) (by omega) (by omega)
            have u193t := xw_t (M := M0) (N := M183) (P := M190) (r1 := 0) (e1 := 0) (s1 := 1) (r2 := 0) (e2 := 1) (s2 := 0) 0 1 1 (by decide) (by omega) (by omega)
            have u193l := ri_l (M := M190) (by omega)
            refine j_aload_n C 0 0 dX12_readAtom_91 rfl rfl ?_
            refine y_bipush C dX12_readAtom_92 rfl ?_
            have k194 := tkm_K (f := gf) (n := gn) (M := M190) (by omega)
            have k195 := kd_2 (kdk_36 gf gn (M190.1 98 6).toInt) (by omega)
            refine j_callVi C (d := 6) (As := [.int (sI 36)]) (st := []) 98 (s_lt rfl rfl) (s_kc (c := 11) rfl rfl) (by decide) rfl (s1_X12_eats hM190 hpr 36 (by omega) gf gn ((suR gf gn 0) (nxF gf gn gi)).2.2 (by omega) (by omega) (by omega) (by omega) (by omega)) gX12_readAtom_X12_eats rfl hdX12_eats (by decide) (Nat.le_of_ble_eq_true rfl) dX12_readAtom_94 rfl (fun r196 M197 h198 => ?_)
            obtain ⟨a200, rfl, hM197, fM197, h199⟩ := h198
            have k201 := tk_c gf gn (M197.1 98 6).toInt (M190.1 98 6).toInt
            have bM197 := tkm_b (f := gf) (n := gn) (M := M197) (by omega)
            have u202c := xw_c (N := M190) (P := M197) 0 (FR.cell fM197 (by decide)) (by omega)
            have u202t := xw_t (M := M0) (N := M190) (P := M197) (r1 := 0) (e1 := 1) (s1 := 1) (r2 := 0) (e2 := 0) (s2 := 0) 0 1 0 (by decide) (by omega) (by omega)
            have u202a := ca_x (M := M0) (N := M197) (r := 0) (e := 1) (s := 0) (by decide) (by omega) (by omega)
            have u202l := ri_l (M := M197) (by omega)
            refine y_if_ne C 113 dX12_readAtom_97 (by decide) (by omega) (fun h203 => ?_) (fun h203 => ?_)
            · have u204x := ex_1 gf gn 2041 ((suR gf gn 0) (nxF gf gn gi)).2.2 (M190.1 98 11).toInt (M190.1 98 12).toInt (M190.1 98 6).toInt (M197.1 98 11).toInt (M197.1 98 12).toInt (M197.1 98 6).toInt (by omega) (by omega) (by omega) (by omega) (by omega) (by omega)
              have u204r := at_2 gf gn (suR gf gn 0) gi (M0.1 98 11).toInt (M0.1 98 12).toInt (M0.1 98 6).toInt (M183.1 98 11).toInt (M183.1 98 12).toInt (M190.1 98 11).toInt (M190.1 98 12).toInt (M190.1 98 6).toInt (M197.1 98 11).toInt (M197.1 98 12).toInt (M197.1 98 6).toInt (by omega) (by omega) (by omega) (by omega) (by omega) (by omega)
              exact hret _ _ _ dX12_readAtom_113 ⟨hM197, (((FR.rf.tr fM183 (by decide)).tr fM190 (by decide)).tr fM197 (by decide)), by omega⟩
            · refine j_aload_n C 0 0 dX12_readAtom_100 rfl rfl ?_
              refine y_iconst C dX12_readAtom_101 ?_
              have p205 := po_eq gn ((suR gf gn 0) (nxF gf gn gi)).2.2 (M190.1 98 11).toInt (M190.1 98 6).toInt (M197.1 98 11).toInt (M197.1 98 6).toInt (by omega) (by omega) (by omega)
              refine j_callVv C (d := 0) (As := [.int (sI 2)]) (st := []) 98 (s_lt rfl rfl) (s_kc (c := 11) rfl rfl) (by decide) rfl (s1_X12_fails hM197 hpr 2 (by omega) gf gn ((suR gf gn 0) (nxF gf gn gi)).2.2 (by omega) (by omega) (by omega) (by omega) (by omega)) gX12_readAtom_X12_fails rfl hdX12_fails (by decide) (Nat.le_of_ble_eq_true rfl) dX12_readAtom_102 rfl (fun M207 h208 => ?_)
              obtain ⟨hM207, fM207, h209⟩ := h208
              have bM207 := tkm_b (f := gf) (n := gn) (M := M207) (by omega)
              have qM207 := po_f gn ((faQ gf gn 2) ((suR gf gn 0) (nxF gf gn gi)).2.2).2.2 (M207.1 98 11).toInt (M207.1 98 6).toInt (by omega)
              have u210f : b01 (XW M0 M207 0 1 0) = 1 := b01_i (Or.inl (by omega))
              have u210a := ca_x (M := M0) (N := M207) (r := 0) (e := 1) (s := 0) (by decide) (by omega) (by omega)
              refine j_goto C 113 dX12_readAtom_105 (by decide) ?_
              have u211x := ex_2z gf gn 2041 ((suR gf gn 0) (nxF gf gn gi)).2.2 (M190.1 98 11).toInt (M190.1 98 12).toInt (M190.1 98 6).toInt (M207.1 98 11).toInt (M207.1 98 12).toInt (M207.1 98 6).toInt (by omega) (by omega) (rr_fr (faQ gf gn 2 ((suR gf gn 0) (nxF gf gn gi)).2.2) (M190.1 98 11).toInt (M190.1 98 12).toInt (M197.1 98 11).toInt (M197.1 98 12).toInt (M207.1 98 11).toInt (M207.1 98 12).toInt (M207.1 98 6).toInt (by omega) (by omega) (by omega))
              have u211r := at_2 gf gn (suR gf gn 0) gi (M0.1 98 11).toInt (M0.1 98 12).toInt (M0.1 98 6).toInt (M183.1 98 11).toInt (M183.1 98 12).toInt (M190.1 98 11).toInt (M190.1 98 12).toInt (M190.1 98 6).toInt (M207.1 98 11).toInt (M207.1 98 12).toInt (M207.1 98 6).toInt (by omega) (by omega) (by omega) (by omega) (by omega) (by omega)
              exact hret _ _ _ dX12_readAtom_113 ⟨hM207, ((((FR.rf.tr fM183 (by decide)).tr fM190 (by decide)).tr fM197 (by decide)).tr fM207 (by decide)), by omega⟩
          · exfalso; omega
      · have u212w := woF_s (M0.1 98 9).toInt
        have u212k := ri_k (M := M0) (by omega) (by omega)
        have u212b := cb_0 (M := M0) (by omega) (by omega)
        refine j_aload_n C 0 0 dX12_readAtom_43 rfl rfl ?_
        refine y_sipush C dX12_readAtom_44 rfl ?_
        refine j_aload_n C 0 0 dX12_readAtom_47 rfl rfl ?_
        refine j_aload_n C 0 0 dX12_readAtom_48 rfl rfl ?_
        refine y_getI C 11 _ _ fX12_readAtom_108 rfl rfl ft_11_9 sb_11_9 hM0 dX12_readAtom_49 (fun a213 ea213 la213 ua213 => ?_)
        obtain rfl : a213 = (M0.1 98 9).toInt := ea213
        have k215 := tkm_K (f := gf) (n := gn) (M := M0) (by omega)
        have k216 := kd_2 (wo_k gf gn (M0.1 98 6).toInt) (by omega)
        have k217 := wo_c (M0.1 98 9).toInt (kdF (tkF gf gn (M0.1 98 6).toInt))
        refine j_callVi C (d := 0) (As := [.int (sI (M0.1 98 9).toInt)]) (st := [.int (sI 1000), .ref (ad 98)]) 98 (s_lt rfl rfl) (s_kc (c := 11) rfl rfl) (by decide) rfl (s1_X12_wordOf hM0 (M0.1 98 9).toInt (by omega)) gX12_readAtom_X12_wordOf rfl hdX12_wordOf (by decide) (Nat.le_of_ble_eq_true rfl) dX12_readAtom_52 rfl (fun r218 M219 h220 => ?_)
        obtain ⟨a222, rfl, rfl, h221⟩ := h220
        obtain rfl : a222 = (woF (M0.1 98 9).toInt) := by omega
        refine y_iadd C dX12_readAtom_55 ?_
        refine j_callVv C (d := 0) (As := [.int (sI (1000 + (woF (M0.1 98 9).toInt)))]) (st := []) 98 (s_lt rfl rfl) (s_kc (c := 11) rfl rfl) (by decide) rfl (s1_X12_codes hM0 hpr (1000 + (woF (M0.1 98 9).toInt)) (by omega) gf gn gi (by omega) (by omega) (by omega) (by omega)) gX12_readAtom_X12_codes rfl hdX12_codes (by decide) (Nat.le_of_ble_eq_true rfl) dX12_readAtom_56 rfl (fun M224 h225 => ?_)
        obtain ⟨hM224, fM224, h226⟩ := h225
        have bM224 := tkm_b (f := gf) (n := gn) (M := M224) (by omega)
        have qM224 := po_eq gn gi (M0.1 98 11).toInt (M0.1 98 6).toInt (M224.1 98 11).toInt (M224.1 98 6).toInt (by omega) (by omega) (by omega)
        have u227x := xw_a (M := M0) (N := M224) (c := (1000 + (woF (M0.1 98 9).toInt))) (r := 0) (e := 1) (FR.cell fM224 (by decide)) (ap_push ⟨(INV.rd hM0 (i := 102) (c := 48) (k := 280) rfl rfl).1, by omega, by omega⟩) (by omega)
        have u227t := xw_t (M := M0) (N := M0) (P := M224) (r1 := 0) (e1 := 0) (s1 := 0) (r2 := 0) (e2 := 1) (s2 := (-1)) 0 1 (-1) (by decide) (by omega) (by omega)
        have u227i := ri_c (M := M0) (N := M224) (FR.cell fM224 (by decide)) (by omega)
        have u227l := ri_l (M := M224) (by omega)
        have u227q6 : (M224.1 98 6).toInt = (M0.1 98 6).toInt := by rw [show M224.1 98 = M0.1 98 from FR.cell fM224 (by decide)]
        have u227q7 : (M224.1 98 7).toInt = (M0.1 98 7).toInt := by rw [show M224.1 98 = M0.1 98 from FR.cell fM224 (by decide)]
        have u227q8 : (M224.1 98 8).toInt = (M0.1 98 8).toInt := by rw [show M224.1 98 = M0.1 98 from FR.cell fM224 (by decide)]
        have u227q9 : (M224.1 98 9).toInt = (M0.1 98 9).toInt := by rw [show M224.1 98 = M0.1 98 from FR.cell fM224 (by decide)]
        have u227q11 : (M224.1 98 11).toInt = (M0.1 98 11).toInt := by rw [show M224.1 98 = M0.1 98 from FR.cell fM224 (by decide)]
        refine j_aload_n C 0 0 dX12_readAtom_59 rfl rfl ?_
        have zz98_7 : (M224.1 98 7).toInt = (M0.1 98 7).toInt := s_fF fM224 (by decide) (rfl)
        have zz98_8 : (M224.1 98 8).toInt = (M0.1 98 8).toInt := s_fF fM224 (by decide) (rfl)
        have k228 := tkm_p (f := gf) (n := gn) (M := M224) (by omega)
        have k229 := tkm_K (f := gf) (n := gn) (M := M224) (by omega)
        refine j_callVv C (d := 5) (As := []) (st := []) 98 (s_lt rfl rfl) (s_kc (c := 11) rfl rfl) (by decide) rfl (s1_X12_next hM224 hpr gf gn (by omega) (by omega) (by omega) (by omega)) gX12_readAtom_X12_next rfl hdX12_next (by decide) (Nat.le_of_ble_eq_true rfl) dX12_readAtom_60 rfl (fun M231 h232 => ?_)
        obtain ⟨hM231, fM231, h233⟩ := h232
        have bM231 := tkm_b (f := gf) (n := gn) (M := M231) (by omega)
        have qM231 := nx_po (f := gf) (n := gn) (i := gi) (M := M224) (M' := M231) (by omega) (by omega) (by omega) (by omega) (by omega)
        have u234c := xw_c (N := M224) (P := M231) 1 (FR.cell fM231 (by decide)) (by omega)
        have u234t := xw_t (M := M0) (N := M224) (P := M231) (r1 := 0) (e1 := 1) (s1 := (-1)) (r2 := 0) (e2 := 0) (s2 := 1) 0 1 0 (by decide) (by omega) (by omega)
        have u234a := ca_x (M := M0) (N := M231) (r := 0) (e := 1) (s := 0) (by decide) (by omega) (by omega)
        refine j_goto C 113 dX12_readAtom_63 (by decide) ?_
        have u235r := at_1 gf gn false (suR gf gn 0) gi (M0.1 98 11).toInt (M0.1 98 12).toInt (M0.1 98 6).toInt (M231.1 98 11).toInt (M231.1 98 12).toInt (M231.1 98 6).toInt (by omega) (by omega) (by omega) (by omega) (by omega) (by omega)
        exact hret _ _ _ dX12_readAtom_113 ⟨hM231, ((FR.rf.tr fM224 (by decide)).tr fM231 (by decide)), by omega⟩
  · have u236k := ri_k (M := M0) (by omega) (by omega)
    have u236b := cb_0 (M := M0) (by omega) (by omega)
    refine j_aload_n C 0 0 dX12_readAtom_9 rfl rfl ?_
    refine j_aload_n C 0 0 dX12_readAtom_10 rfl rfl ?_
    refine y_getI C 11 _ _ fX12_readAtom_121 rfl rfl ft_11_10 sb_11_10 hM0 dX12_readAtom_11 (fun a237 ea237 la237 ua237 => ?_)
    obtain rfl : a237 = (M0.1 98 10).toInt := ea237
    refine j_callVv C (d := 0) (As := [.int (sI (M0.1 98 10).toInt)]) (st := []) 98 (s_lt rfl rfl) (s_kc (c := 11) rfl rfl) (by decide) rfl (s1_X12_codes hM0 hpr (M0.1 98 10).toInt (by omega) gf gn gi (by omega) (by omega) (by omega) (by omega)) gX12_readAtom_X12_codes rfl hdX12_codes (by decide) (Nat.le_of_ble_eq_true rfl) dX12_readAtom_14 rfl (fun M240 h241 => ?_)
    obtain ⟨hM240, fM240, h242⟩ := h241
    have bM240 := tkm_b (f := gf) (n := gn) (M := M240) (by omega)
    have qM240 := po_eq gn gi (M0.1 98 11).toInt (M0.1 98 6).toInt (M240.1 98 11).toInt (M240.1 98 6).toInt (by omega) (by omega) (by omega)
    have u243x := xw_a (M := M0) (N := M240) (c := (M0.1 98 10).toInt) (r := 0) (e := 1) (FR.cell fM240 (by decide)) (ap_push ⟨(INV.rd hM0 (i := 102) (c := 48) (k := 280) rfl rfl).1, by omega, by omega⟩) (by omega)
    have u243t := xw_t (M := M0) (N := M0) (P := M240) (r1 := 0) (e1 := 0) (s1 := 0) (r2 := 0) (e2 := 1) (s2 := (-1)) 0 1 (-1) (by decide) (by omega) (by omega)
    have u243i := ri_c (M := M0) (N := M240) (FR.cell fM240 (by decide)) (by omega)
    have u243l := ri_l (M := M240) (by omega)
    have u243q6 : (M240.1 98 6).toInt = (M0.1 98 6).toInt := by rw [show M240.1 98 = M0.1 98 from FR.cell fM240 (by decide)]
    have u243q7 : (M240.1 98 7).toInt = (M0.1 98 7).toInt := by rw [show M240.1 98 = M0.1 98 from FR.cell fM240 (by decide)]
    have u243q8 : (M240.1 98 8).toInt = (M0.1 98 8).toInt := by rw [show M240.1 98 = M0.1 98 from FR.cell fM240 (by decide)]
    have u243q9 : (M240.1 98 9).toInt = (M0.1 98 9).toInt := by rw [show M240.1 98 = M0.1 98 from FR.cell fM240 (by decide)]
    have u243q11 : (M240.1 98 11).toInt = (M0.1 98 11).toInt := by rw [show M240.1 98 = M0.1 98 from FR.cell fM240 (by decide)]
    refine j_aload_n C 0 0 dX12_readAtom_17 rfl rfl ?_
    have zz98_7 : (M240.1 98 7).toInt = (M0.1 98 7).toInt := s_fF fM240 (by decide) (rfl)
    have zz98_8 : (M240.1 98 8).toInt = (M0.1 98 8).toInt := s_fF fM240 (by decide) (rfl)
    have k244 := tkm_p (f := gf) (n := gn) (M := M240) (by omega)
    have k245 := tkm_K (f := gf) (n := gn) (M := M240) (by omega)
    refine j_callVv C (d := 5) (As := []) (st := []) 98 (s_lt rfl rfl) (s_kc (c := 11) rfl rfl) (by decide) rfl (s1_X12_next hM240 hpr gf gn (by omega) (by omega) (by omega) (by omega)) gX12_readAtom_X12_next rfl hdX12_next (by decide) (Nat.le_of_ble_eq_true rfl) dX12_readAtom_18 rfl (fun M247 h248 => ?_)
    obtain ⟨hM247, fM247, h249⟩ := h248
    have bM247 := tkm_b (f := gf) (n := gn) (M := M247) (by omega)
    have qM247 := nx_po (f := gf) (n := gn) (i := gi) (M := M240) (M' := M247) (by omega) (by omega) (by omega) (by omega) (by omega)
    have u250c := xw_c (N := M240) (P := M247) 1 (FR.cell fM247 (by decide)) (by omega)
    have u250t := xw_t (M := M0) (N := M240) (P := M247) (r1 := 0) (e1 := 1) (s1 := (-1)) (r2 := 0) (e2 := 0) (s2 := 1) 0 1 0 (by decide) (by omega) (by omega)
    have u250a := ca_x (M := M0) (N := M247) (r := 0) (e := 1) (s := 0) (by decide) (by omega) (by omega)
    refine j_goto C 113 dX12_readAtom_21 (by decide) ?_
    have u251r := at_1 gf gn false (suR gf gn 0) gi (M0.1 98 11).toInt (M0.1 98 12).toInt (M0.1 98 6).toInt (M247.1 98 11).toInt (M247.1 98 12).toInt (M247.1 98 6).toInt (by omega) (by omega) (by omega) (by omega) (by omega) (by omega)
    exact hret _ _ _ dX12_readAtom_113 ⟨hM247, ((FR.rf.tr fM240 (by decide)).tr fM247 (by decide)), by omega⟩
set_option maxHeartbeats 4000000 in
theorem s2_X12_readTerm {l : Launch} {dC : Nat → ClassId} {dI : Nat → Nat → Nat} {ad : Nat → Nat} {cA : Nat → ClassId} {pr : Nat → Nat → Bool} {Kz : mm_M} {M0 : mm_M} (hM0 : INV pr Kz M0) (hpr : PM pr) (gf : Nat → Int) (gn : Int) (gi : Int) (hp0 : b01 (RIP M0) = 1) (hp1 : b01 (CA M0) = 1) (hp2 : b01 (TKM gf gn M0) = 1) (hp3 : b01 (PO gn gi (M0.1 98 11).toInt (M0.1 98 6).toInt) = 1) (hp4 : b01 (PI M0) = 1) : Cv l 11 yX12_readTerm wsX12_readTerm dC dI ad cA [.ref (ad 98), .int (sI 5)] M0 (fun M' => INV pr Kz M' ∧ FR [98, 102] M0 M' ∧ (b01 (RIP M') = 1) ∧ ((M'.1 98 8).toInt = (M0.1 98 8).toInt) ∧ ((M0.1 98 6).toInt ≤ (M'.1 98 6).toInt) ∧ (b01 (XW M0 M' 0 1 0) = 1) ∧ (b01 (CA M') = 1) ∧ (b01 (PI M') = 1) ∧ (b01 (TKM gf gn M') = 1) ∧ b01 (RR ((teP gf gn false (suR gf gn 0)) gi) (M0.1 98 11).toInt (M0.1 98 12).toInt (M'.1 98 11).toInt (M'.1 98 12).toInt (M'.1 98 6).toInt) = 1) := by
  refine cv_of (cc := cX12_readTerm) (maxL := 2) (lv := [(0, .ref (ad 98)), (1, .int (sI 5))]) (by decide) rfl (Nat.le_of_ble_eq_true rfl) rfl ?_
  intro p e s m args below meth c A Q C hret
  have u101z := xw_0 M0
  have u101l := ri_l (M := M0) (by omega)
  refine j_aload_n C 0 0 dX12_readTerm_0 rfl rfl ?_
  refine j_iload_n C 1 1 dX12_readTerm_1 rfl rfl ?_
  refine j_callVv C (d := 10) (As := [.int (sI 5)]) (st := []) 98 (s_lt rfl rfl) (s_kc (c := 11) rfl rfl) (by decide) rfl (s2_X12_readAtom hM0 hpr gf gn gi (by omega) (by omega) (by omega) (by omega) (by omega)) gX12_readTerm_X12_readAtom rfl hdX12_readAtom (by decide) (Nat.le_of_ble_eq_true rfl) dX12_readTerm_2 rfl (fun M103 h104 => ?_)
  obtain ⟨hM103, fM103, h105⟩ := h104
  have bM103 := tkm_b (f := gf) (n := gn) (M := M103) (by omega)
  have qM103 := po_rr (atP gf gn false (suR gf gn 0)) gn gi (M0.1 98 11).toInt (M0.1 98 12).toInt (M0.1 98 6).toInt (M103.1 98 11).toInt (M103.1 98 12).toInt (M103.1 98 6).toInt (at_g gf gn (fun _ => suR_g gf gn 0)) (by omega) (by omega)
  have u106l := ri_l (M := M103) (by omega)
  have u106L := ll_0 (luP gf gn 2042 2042 (atP gf gn false (suR gf gn 0))) gn ((atP gf gn false (suR gf gn 0)) gi).2.2 (M103.1 98 11).toInt (M103.1 98 12).toInt (M103.1 98 6).toInt (by omega)
  have L132 : ∀ (n130 : Nat), ∀ (M133 : mm_M) (gq134 : Int), ((b01 (RIP M133) = 1) ∧ ((M133.1 98 8).toInt = (M0.1 98 8).toInt) ∧ ((M0.1 98 6).toInt ≤ (M133.1 98 6).toInt) ∧ (b01 (XW M0 M133 0 1 0) = 1) ∧ ((M133.1 98 6).toInt ≤ 900) ∧ (b01 (LL (luP gf gn 2042 2042 (atP gf gn false (suR gf gn 0))) gn ((atP gf gn false (suR gf gn 0)) gi).2.2 gq134 0 (M103.1 98 11).toInt (M103.1 98 12).toInt (M133.1 98 11).toInt (M133.1 98 12).toInt (M133.1 98 6).toInt) = 1) ∧ (b01 (TKM gf gn M133) = 1) ∧ (b01 (PO gn gq134 (M133.1 98 11).toInt (M133.1 98 6).toInt) = 1) ∧ (b01 (PI M133) = 1) ∧ (900 - (M133.1 98 6).toInt) < (n130 : Int)) → INV pr Kz M133 → FR [98, 102] M0 M133 → jj p l e (cn_R 11) s m args below meth c 0 0 Q 2 dC dI ad cA A M133 5 [(0, .ref (ad 98)), (1, .int (sI 5))] [] := by
    intro n130
    induction n130 with
    | zero =>
      intro M133 gq134 h135 hM133 fM133
      exfalso; omega
    | succ n130 ih131 =>
      intro M133 gq134 h135 hM133 fM133
      have u136l := ri_l (M := M133) (by omega)
      have u136B := tkm_b (f := gf) (n := gn) (M := M133) (by omega)
      refine j_aload_n C 0 0 dX12_readTerm_5 rfl rfl ?_
      refine y_bipush C dX12_readTerm_6 rfl ?_
      have k137 := tkm_K (f := gf) (n := gn) (M := M133) (by omega)
      have k138 := kd_2 (kdk_34 gf gn (M133.1 98 6).toInt) (by omega)
      refine j_callVi C (d := 6) (As := [.int (sI 34)]) (st := []) 98 (s_lt rfl rfl) (s_kc (c := 11) rfl rfl) (by decide) rfl (s1_X12_eats hM133 hpr 34 (by omega) gf gn gq134 (by omega) (by omega) (by omega) (by omega) (by omega)) gX12_readTerm_X12_eats rfl hdX12_eats (by decide) (Nat.le_of_ble_eq_true rfl) dX12_readTerm_8 rfl (fun r139 M140 h141 => ?_)
      obtain ⟨a143, rfl, hM140, fM140, h142⟩ := h141
      have k144 := tk_c gf gn (M140.1 98 6).toInt (M133.1 98 6).toInt
      have bM140 := tkm_b (f := gf) (n := gn) (M := M140) (by omega)
      refine y_if_eq C 29 dX12_readTerm_11 (by decide) (by omega) (fun h145 => ?_) (fun h145 => ?_)
      · have u157c := xw_c (N := M133) (P := M140) 0 (FR.cell fM140 (by decide)) (by omega)
        have u157t := xw_t (M := M0) (N := M133) (P := M140) (r1 := 0) (e1 := 1) (s1 := 0) (r2 := 0) (e2 := 0) (s2 := 0) 0 1 0 (by decide) (by omega) (by omega)
        have u157a := ca_x (M := M0) (N := M140) (r := 0) (e := 1) (s := 0) (by decide) (by omega) (by omega)
        have u157E := ll_e gf gn 2042 2042 (atP gf gn false (suR gf gn 0)) ((atP gf gn false (suR gf gn 0)) gi).2.2 gq134 0 (M103.1 98 11).toInt (M103.1 98 12).toInt (M133.1 98 11).toInt (M133.1 98 12).toInt (M133.1 98 6).toInt (by decide) (at_g gf gn (fun _ => suR_g gf gn 0)) (by omega) (by omega)
        have u157S : b01 (RR ((teP gf gn false (suR gf gn 0)) gi) (M0.1 98 11).toInt (M0.1 98 12).toInt (M133.1 98 11).toInt (M133.1 98 12).toInt (M133.1 98 6).toInt) = 1 := rr_sq ((atP gf gn false (suR gf gn 0)) gi) (luP gf gn 2042 2042 (atP gf gn false (suR gf gn 0))) (M0.1 98 11).toInt (M0.1 98 12).toInt (M103.1 98 11).toInt (M103.1 98 12).toInt (M103.1 98 6).toInt (M133.1 98 11).toInt (M133.1 98 12).toInt (M133.1 98 6).toInt (by omega) (by omega)
        have u157R := rr_eq ((teP gf gn false (suR gf gn 0)) gi) (M0.1 98 11).toInt (M0.1 98 12).toInt (M133.1 98 11).toInt (M133.1 98 12).toInt (M133.1 98 6).toInt (M140.1 98 11).toInt (M140.1 98 12).toInt (M140.1 98 6).toInt (by omega) (by omega) (by omega) (by omega)
        exact hret _ _ _ dX12_readTerm_29 ⟨hM140, ((FR.rf.tr fM133 (by decide)).tr fM140 (by decide)), by omega⟩
      · have u146c := xw_c (N := M133) (P := M140) 1 (FR.cell fM140 (by decide)) (by omega)
        have u146t := xw_t (M := M0) (N := M133) (P := M140) (r1 := 0) (e1 := 1) (s1 := 0) (r2 := 0) (e2 := 0) (s2 := 1) 0 1 1 (by decide) (by omega) (by omega)
        have u146a := ca_x (M := M0) (N := M140) (r := 0) (e := 1) (s := 1) (by decide) (by omega) (by omega)
        have u146l := ri_l (M := M140) (by omega)
        refine j_aload_n C 0 0 dX12_readTerm_14 rfl rfl ?_
        refine j_iload_n C 1 1 dX12_readTerm_15 rfl rfl ?_
        refine j_callVv C (d := 10) (As := [.int (sI 5)]) (st := []) 98 (s_lt rfl rfl) (s_kc (c := 11) rfl rfl) (by decide) rfl (s2_X12_readAtom hM140 hpr gf gn (nxF gf gn gq134) (by omega) (by omega) (by omega) (by omega) (by omega)) gX12_readTerm_X12_readAtom rfl hdX12_readAtom (by decide) (Nat.le_of_ble_eq_true rfl) dX12_readTerm_16 rfl (fun M148 h149 => ?_)
        obtain ⟨hM148, fM148, h150⟩ := h149
        have bM148 := tkm_b (f := gf) (n := gn) (M := M148) (by omega)
        have qM148 := po_rr (atP gf gn false (suR gf gn 0)) gn (nxF gf gn gq134) (M140.1 98 11).toInt (M140.1 98 12).toInt (M140.1 98 6).toInt (M148.1 98 11).toInt (M148.1 98 12).toInt (M148.1 98 6).toInt (at_g gf gn (fun _ => suR_g gf gn 0)) (by omega) (by omega)
        have u151t := xw_t (M := M0) (N := M140) (P := M148) (r1 := 0) (e1 := 1) (s1 := 1) (r2 := 0) (e2 := 1) (s2 := 0) 0 2 1 (by decide) (by omega) (by omega)
        have u151l := ri_l (M := M148) (by omega)
        have u151b := cb_x (M := M0) (N := M148) (r := 0) (e := 2) (s := 1) (by decide) (by omega) (by omega) (by omega)
        refine j_aload_n C 0 0 dX12_readTerm_19 rfl rfl ?_
        refine y_sipush C dX12_readTerm_20 rfl ?_
        refine j_callVv C (d := 0) (As := [.int (sI 3002)]) (st := []) 98 (s_lt rfl rfl) (s_kc (c := 11) rfl rfl) (by decide) rfl (s1_X12_codes hM148 hpr 3002 (by omega) gf gn ((atP gf gn false (suR gf gn 0)) (nxF gf gn gq134)).2.2 (by omega) (by omega) (by omega) (by omega)) gX12_readTerm_X12_codes rfl hdX12_codes (by decide) (Nat.le_of_ble_eq_true rfl) dX12_readTerm_23 rfl (fun M153 h154 => ?_)
        obtain ⟨hM153, fM153, h155⟩ := h154
        have bM153 := tkm_b (f := gf) (n := gn) (M := M153) (by omega)
        have qM153 := po_eq gn ((atP gf gn false (suR gf gn 0)) (nxF gf gn gq134)).2.2 (M148.1 98 11).toInt (M148.1 98 6).toInt (M153.1 98 11).toInt (M153.1 98 6).toInt (by omega) (by omega) (by omega)
        refine j_goto C 5 dX12_readTerm_26 (by decide) ?_
        have u156x := xw_a (M := M148) (N := M153) (c := 3002) (r := 2) (e := (-1)) (FR.cell fM153 (by decide)) (ap_bin ⟨(INV.rd hM148 (i := 102) (c := 48) (k := 280) rfl rfl).1, by omega, by omega⟩) (by omega)
        have u156t := xw_t (M := M0) (N := M148) (P := M153) (r1 := 0) (e1 := 2) (s1 := 1) (r2 := 2) (e2 := (-1)) (s2 := (-1)) 0 1 0 (by decide) (by omega) (by omega)
        have u156i := ri_c (M := M148) (N := M153) (FR.cell fM153 (by decide)) (by omega)
        have u156l := ri_l (M := M153) (by omega)
        have u156L := ll_w (luP gf gn 2042 2042 (atP gf gn false (suR gf gn 0))) gn ((atP gf gn false (suR gf gn 0)) gi).2.2 ((atP gf gn false (suR gf gn 0)) (nxF gf gn gq134)).2.2 (0 + 1) 0 (M103.1 98 11).toInt (M103.1 98 12).toInt (M153.1 98 11).toInt (M153.1 98 12).toInt (M153.1 98 6).toInt (by decide) (ll_s gf gn 2042 2042 (atP gf gn false (suR gf gn 0)) ((atP gf gn false (suR gf gn 0)) gi).2.2 gq134 0 (M103.1 98 11).toInt (M103.1 98 12).toInt (M133.1 98 11).toInt (M133.1 98 12).toInt (M133.1 98 6).toInt (M140.1 98 11).toInt (M140.1 98 12).toInt (M148.1 98 11).toInt (M148.1 98 12).toInt (M148.1 98 6).toInt (M153.1 98 11).toInt (M153.1 98 12).toInt (M153.1 98 6).toInt (by decide) (at_g gf gn (fun _ => suR_g gf gn 0)) (by omega) (by omega) (by omega) (by omega) (by omega) (by omega) (by omega) (by omega) (by omega))
        have zz98_8 : (M153.1 98 8).toInt = (M148.1 98 8).toInt := s_fF fM153 (by decide) (rfl); have zz98_6 : (M153.1 98 6).toInt = (M148.1 98 6).toInt := s_fF fM153 (by decide) (rfl); have zz98_12 : (M153.1 98 12).toInt = (M148.1 98 12).toInt := s_fF fM153 (by decide) (rfl); have zz98_11 : (M153.1 98 11).toInt = (M148.1 98 11).toInt := s_fF fM153 (by decide) (rfl); exact ih131 M153 ((atP gf gn false (suR gf gn 0)) (nxF gf gn gq134)).2.2 (by omega) hM153 ((((FR.rf.tr fM133 (by decide)).tr fM140 (by decide)).tr fM148 (by decide)).tr fM153 (by decide))
  exact L132 2010 M103 ((atP gf gn false (suR gf gn 0)) gi).2.2 (by omega) hM103 (FR.rf.tr fM103 (by decide))
set_option maxHeartbeats 4000000 in
theorem s2_X12_readSum {l : Launch} {dC : Nat → ClassId} {dI : Nat → Nat → Nat} {ad : Nat → Nat} {cA : Nat → ClassId} {pr : Nat → Nat → Bool} {Kz : mm_M} {M0 : mm_M} (hM0 : INV pr Kz M0) (hpr : PM pr) (gf : Nat → Int) (gn : Int) (gi : Int) (hp0 : b01 (RIP M0) = 1) (hp1 : b01 (CA M0) = 1) (hp2 : b01 (TKM gf gn M0) = 1) (hp3 : b01 (PO gn gi (M0.1 98 11).toInt (M0.1 98 6).toInt) = 1) (hp4 : b01 (PI M0) = 1) : Cv l 12 yX12_readSum wsX12_readSum dC dI ad cA [.ref (ad 98), .int (sI 5)] M0 (fun M' => INV pr Kz M' ∧ FR [98, 102] M0 M' ∧ (b01 (RIP M') = 1) ∧ ((M'.1 98 8).toInt = (M0.1 98 8).toInt) ∧ ((M0.1 98 6).toInt ≤ (M'.1 98 6).toInt) ∧ (b01 (XW M0 M' 0 1 0) = 1) ∧ (b01 (CA M') = 1) ∧ (b01 (PI M') = 1) ∧ (b01 (TKM gf gn M') = 1) ∧ b01 (RR ((suR gf gn 1) gi) (M0.1 98 11).toInt (M0.1 98 12).toInt (M'.1 98 11).toInt (M'.1 98 12).toInt (M'.1 98 6).toInt) = 1) := by
  refine cv_of (cc := cX12_readSum) (maxL := 3) (lv := [(0, .ref (ad 98)), (1, .int (sI 5))]) (by decide) rfl (Nat.le_of_ble_eq_true rfl) rfl ?_
  intro p e s m args below meth c A Q C hret
  have u101z := xw_0 M0
  have u101l := ri_l (M := M0) (by omega)
  refine j_aload_n C 0 0 dX12_readSum_0 rfl rfl ?_
  refine j_iload_n C 1 1 dX12_readSum_1 rfl rfl ?_
  refine j_callVv C (d := 11) (As := [.int (sI 5)]) (st := []) 98 (s_lt rfl rfl) (s_kc (c := 11) rfl rfl) (by decide) rfl (s2_X12_readTerm hM0 hpr gf gn gi (by omega) (by omega) (by omega) (by omega) (by omega)) gX12_readSum_X12_readTerm rfl hdX12_readTerm (by decide) (Nat.le_of_ble_eq_true rfl) dX12_readSum_2 rfl (fun M103 h104 => ?_)
  obtain ⟨hM103, fM103, h105⟩ := h104
  have bM103 := tkm_b (f := gf) (n := gn) (M := M103) (by omega)
  have qM103 := po_rr (teP gf gn false (suR gf gn 0)) gn gi (M0.1 98 11).toInt (M0.1 98 12).toInt (M0.1 98 6).toInt (M103.1 98 11).toInt (M103.1 98 12).toInt (M103.1 98 6).toInt (te_g gf gn (fun _ => suR_g gf gn 0)) (by omega) (by omega)
  have u106l := ri_l (M := M103) (by omega)
  have u106L := ll_0 (luP gf gn 2043 2045 (teP gf gn false (suR gf gn 0))) gn ((teP gf gn false (suR gf gn 0)) gi).2.2 (M103.1 98 11).toInt (M103.1 98 12).toInt (M103.1 98 6).toInt (by omega)
  have L176 : ∀ (n174 : Nat), ∀ (M177 : mm_M) (gq178 : Int), ((b01 (RIP M177) = 1) ∧ ((M177.1 98 8).toInt = (M0.1 98 8).toInt) ∧ ((M0.1 98 6).toInt ≤ (M177.1 98 6).toInt) ∧ (b01 (XW M0 M177 0 1 0) = 1) ∧ ((M177.1 98 6).toInt ≤ 900) ∧ (b01 (LL (luP gf gn 2043 2045 (teP gf gn false (suR gf gn 0))) gn ((teP gf gn false (suR gf gn 0)) gi).2.2 gq178 0 (M103.1 98 11).toInt (M103.1 98 12).toInt (M177.1 98 11).toInt (M177.1 98 12).toInt (M177.1 98 6).toInt) = 1) ∧ (b01 (TKM gf gn M177) = 1) ∧ (b01 (PO gn gq178 (M177.1 98 11).toInt (M177.1 98 6).toInt) = 1) ∧ (b01 (PI M177) = 1) ∧ (900 - (M177.1 98 6).toInt) < (n174 : Int)) → INV pr Kz M177 → FR [98, 102] M0 M177 → jj p l e (cn_R 12) s m args below meth c 0 0 Q 3 dC dI ad cA A M177 5 [(0, .ref (ad 98)), (1, .int (sI 5))] [] := by
    intro n174
    induction n174 with
    | zero =>
      intro M177 gq178 h179 hM177 fM177
      exfalso; omega
    | succ n174 ih175 =>
      intro M177 gq178 h179 hM177 fM177
      have u180l := ri_l (M := M177) (by omega)
      have u180B := tkm_b (f := gf) (n := gn) (M := M177) (by omega)
      refine j_aload_n C 0 0 dX12_readSum_5 rfl rfl ?_
      refine y_bipush C dX12_readSum_6 rfl ?_
      have k181 := tkm_K (f := gf) (n := gn) (M := M177) (by omega)
      have k182 := kd_2 (kdk_32 gf gn (M177.1 98 6).toInt) (by omega)
      refine j_callVi C (d := 0) (As := [.int (sI 32)]) (st := []) 98 (s_lt rfl rfl) (s_kc (c := 11) rfl rfl) (by decide) rfl (s1_X12_is hM177 32 (by omega)) gX12_readSum_X12_is rfl hdX12_is (by decide) (Nat.le_of_ble_eq_true rfl) dX12_readSum_8 rfl (fun r183 M184 h185 => ?_)
      obtain ⟨a187, rfl, rfl, h186⟩ := h185
      refine y_if_ne C 23 dX12_readSum_11 (by decide) (by omega) (fun h188 => ?_) (fun h188 => ?_)
      · refine j_aload_n C 0 0 dX12_readSum_23 rfl rfl ?_
        refine y_getI C 11 _ _ fX12_readSum_108 rfl rfl ft_11_9 sb_11_9 hM177 dX12_readSum_24 (fun a189 ea189 la189 ua189 => ?_)
        obtain rfl : a189 = (M177.1 98 9).toInt := ea189
        refine y_bipush C dX12_readSum_27 rfl ?_
        have J193 : ∀ (a192 : Int), (3000 ≤ a192 ∧ a192 ≤ 3001) → jj p l e (cn_R 12) s m args below meth c 0 0 Q 3 dC dI ad cA A M177 41 [(0, .ref (ad 98)), (1, .int (sI 5))] [.int (sI a192)] := by
          intro a192 h194
          refine j_istore_n C 2 [(2, .int (sI a192)), (0, .ref (ad 98)), (1, .int (sI 5))] dX12_readSum_41 rfl (by decide) rfl ?_
          have u195k := ri_k (M := M177) (by omega) (by omega)
          refine j_aload_n C 1 0 dX12_readSum_42 rfl rfl ?_
          have k196 := tkm_p (f := gf) (n := gn) (M := M177) (by omega)
          have k197 := tkm_K (f := gf) (n := gn) (M := M177) (by omega)
          refine j_callVv C (d := 5) (As := []) (st := []) 98 (s_lt rfl rfl) (s_kc (c := 11) rfl rfl) (by decide) rfl (s1_X12_next hM177 hpr gf gn (by omega) (by omega) (by omega) (by omega)) gX12_readSum_X12_next rfl hdX12_next (by decide) (Nat.le_of_ble_eq_true rfl) dX12_readSum_43 rfl (fun M199 h200 => ?_)
          obtain ⟨hM199, fM199, h201⟩ := h200
          have bM199 := tkm_b (f := gf) (n := gn) (M := M199) (by omega)
          have qM199 := nx_po (f := gf) (n := gn) (i := gq178) (M := M177) (M' := M199) (by omega) (by omega) (by omega) (by omega) (by omega)
          have u202c := xw_c (N := M177) (P := M199) 1 (FR.cell fM199 (by decide)) (by omega)
          have u202t := xw_t (M := M0) (N := M177) (P := M199) (r1 := 0) (e1 := 1) (s1 := 0) (r2 := 0) (e2 := 0) (s2 := 1) 0 1 1 (by decide) (by omega) (by omega)
          have u202a := ca_x (M := M0) (N := M199) (r := 0) (e := 1) (s := 1) (by decide) (by omega) (by omega)
          have u202l := ri_l (M := M199) (by omega)
          refine j_aload_n C 1 0 dX12_readSum_46 rfl rfl ?_
          refine j_iload_n C 2 1 dX12_readSum_47 rfl rfl ?_
          refine j_callVv C (d := 11) (As := [.int (sI 5)]) (st := []) 98 (s_lt rfl rfl) (s_kc (c := 11) rfl rfl) (by decide) rfl (s2_X12_readTerm hM199 hpr gf gn (nxF gf gn gq178) (by omega) (by omega) (by omega) (by omega) (by omega)) gX12_readSum_X12_readTerm rfl hdX12_readTerm (by decide) (Nat.le_of_ble_eq_true rfl) dX12_readSum_48 rfl (fun M204 h205 => ?_)
          obtain ⟨hM204, fM204, h206⟩ := h205
          have bM204 := tkm_b (f := gf) (n := gn) (M := M204) (by omega)
          have qM204 := po_rr (teP gf gn false (suR gf gn 0)) gn (nxF gf gn gq178) (M199.1 98 11).toInt (M199.1 98 12).toInt (M199.1 98 6).toInt (M204.1 98 11).toInt (M204.1 98 12).toInt (M204.1 98 6).toInt (te_g gf gn (fun _ => suR_g gf gn 0)) (by omega) (by omega)
          have u207t := xw_t (M := M0) (N := M199) (P := M204) (r1 := 0) (e1 := 1) (s1 := 1) (r2 := 0) (e2 := 1) (s2 := 0) 0 2 1 (by decide) (by omega) (by omega)
          have u207l := ri_l (M := M204) (by omega)
          have u207b := cb_x (M := M0) (N := M204) (r := 0) (e := 2) (s := 1) (by decide) (by omega) (by omega) (by omega)
          refine j_aload_n C 1 0 dX12_readSum_51 rfl rfl ?_
          refine j_iload_n C 0 2 dX12_readSum_52 rfl rfl ?_
          refine j_callVv C (d := 0) (As := [.int (sI a192)]) (st := []) 98 (s_lt rfl rfl) (s_kc (c := 11) rfl rfl) (by decide) rfl (s1_X12_codes hM204 hpr a192 (by omega) gf gn ((teP gf gn false (suR gf gn 0)) (nxF gf gn gq178)).2.2 (by omega) (by omega) (by omega) (by omega)) gX12_readSum_X12_codes rfl hdX12_codes (by decide) (Nat.le_of_ble_eq_true rfl) dX12_readSum_53 rfl (fun M209 h210 => ?_)
          obtain ⟨hM209, fM209, h211⟩ := h210
          have bM209 := tkm_b (f := gf) (n := gn) (M := M209) (by omega)
          have qM209 := po_eq gn ((teP gf gn false (suR gf gn 0)) (nxF gf gn gq178)).2.2 (M204.1 98 11).toInt (M204.1 98 6).toInt (M209.1 98 11).toInt (M209.1 98 6).toInt (by omega) (by omega) (by omega)
          refine j_goto C 5 dX12_readSum_56 (by decide) ?_
          have u212x := xw_a (M := M204) (N := M209) (c := a192) (r := 2) (e := (-1)) (FR.cell fM209 (by decide)) (ap_bin ⟨(INV.rd hM204 (i := 102) (c := 48) (k := 280) rfl rfl).1, by omega, by omega⟩) (by omega)
          have u212t := xw_t (M := M0) (N := M204) (P := M209) (r1 := 0) (e1 := 2) (s1 := 1) (r2 := 2) (e2 := (-1)) (s2 := (-1)) 0 1 0 (by decide) (by omega) (by omega)
          have u212i := ri_c (M := M204) (N := M209) (FR.cell fM209 (by decide)) (by omega)
          have u212l := ri_l (M := M209) (by omega)
          have u212L := ll_w (luP gf gn 2043 2045 (teP gf gn false (suR gf gn 0))) gn ((teP gf gn false (suR gf gn 0)) gi).2.2 ((teP gf gn false (suR gf gn 0)) (nxF gf gn gq178)).2.2 (0 + 1) 0 (M103.1 98 11).toInt (M103.1 98 12).toInt (M209.1 98 11).toInt (M209.1 98 12).toInt (M209.1 98 6).toInt (by decide) (ll_s gf gn 2043 2045 (teP gf gn false (suR gf gn 0)) ((teP gf gn false (suR gf gn 0)) gi).2.2 gq178 0 (M103.1 98 11).toInt (M103.1 98 12).toInt (M177.1 98 11).toInt (M177.1 98 12).toInt (M177.1 98 6).toInt (M199.1 98 11).toInt (M199.1 98 12).toInt (M204.1 98 11).toInt (M204.1 98 12).toInt (M204.1 98 6).toInt (M209.1 98 11).toInt (M209.1 98 12).toInt (M209.1 98 6).toInt (by decide) (te_g gf gn (fun _ => suR_g gf gn 0)) (by omega) (by omega) (by omega) (by omega) (by omega) (by omega) (by omega) (by omega) (by omega))
          have zz98_8 : (M209.1 98 8).toInt = (M204.1 98 8).toInt := s_fF fM209 (by decide) (rfl); have zz98_6 : (M209.1 98 6).toInt = (M204.1 98 6).toInt := s_fF fM209 (by decide) (rfl); have zz98_12 : (M209.1 98 12).toInt = (M204.1 98 12).toInt := s_fF fM209 (by decide) (rfl); have zz98_11 : (M209.1 98 11).toInt = (M204.1 98 11).toInt := s_fF fM209 (by decide) (rfl); refine j_lv [1, 2] rfl ?_; exact ih175 M209 ((teP gf gn false (suR gf gn 0)) (nxF gf gn gq178)).2.2 (by omega) hM209 ((((FR.rf.tr fM177 (by decide)).tr fM199 (by decide)).tr fM204 (by decide)).tr fM209 (by decide))
        refine y_icmp_ne C 38 dX12_readSum_29 (by decide) (by omega) (fun h191 => ?_) (fun h191 => ?_)
        · refine y_sipush C dX12_readSum_38 rfl ?_
          exact J193 3001 (by omega)
        · refine y_sipush C dX12_readSum_32 rfl ?_
          refine j_goto C 41 dX12_readSum_35 (by decide) ?_
          exact J193 3000 (by omega)
      · refine j_aload_n C 0 0 dX12_readSum_14 rfl rfl ?_
        refine y_bipush C dX12_readSum_15 rfl ?_
        have k213 := tkm_K (f := gf) (n := gn) (M := M177) (by omega)
        have k214 := kd_2 (kdk_33 gf gn (M177.1 98 6).toInt) (by omega)
        refine j_callVi C (d := 0) (As := [.int (sI 33)]) (st := []) 98 (s_lt rfl rfl) (s_kc (c := 11) rfl rfl) (by decide) rfl (s1_X12_is hM177 33 (by omega)) gX12_readSum_X12_is rfl hdX12_is (by decide) (Nat.le_of_ble_eq_true rfl) dX12_readSum_17 rfl (fun r215 M216 h217 => ?_)
        obtain ⟨a219, rfl, rfl, h218⟩ := h217
        refine y_if_eq C 59 dX12_readSum_20 (by decide) (by omega) (fun h220 => ?_) (fun h220 => ?_)
        · have u245a := ca_x (M := M0) (N := M177) (r := 0) (e := 1) (s := 0) (by decide) (by omega) (by omega)
          have u245E := ll_e gf gn 2043 2045 (teP gf gn false (suR gf gn 0)) ((teP gf gn false (suR gf gn 0)) gi).2.2 gq178 0 (M103.1 98 11).toInt (M103.1 98 12).toInt (M177.1 98 11).toInt (M177.1 98 12).toInt (M177.1 98 6).toInt (by decide) (te_g gf gn (fun _ => suR_g gf gn 0)) (by omega) (by omega)
          have u245S : b01 (RR ((suR gf gn 1) gi) (M0.1 98 11).toInt (M0.1 98 12).toInt (M177.1 98 11).toInt (M177.1 98 12).toInt (M177.1 98 6).toInt) = 1 := by rw [su_q gf gn 0 1 rfl]; exact rr_sq ((teP gf gn false (suR gf gn 0)) gi) (luP gf gn 2043 2045 (teP gf gn false (suR gf gn 0))) (M0.1 98 11).toInt (M0.1 98 12).toInt (M103.1 98 11).toInt (M103.1 98 12).toInt (M103.1 98 6).toInt (M177.1 98 11).toInt (M177.1 98 12).toInt (M177.1 98 6).toInt (by omega) (by omega)
          exact hret _ _ _ dX12_readSum_59 ⟨hM177, (FR.rf.tr fM177 (by decide)), by omega⟩
        · refine j_aload_n C 0 0 dX12_readSum_23 rfl rfl ?_
          refine y_getI C 11 _ _ fX12_readSum_108 rfl rfl ft_11_9 sb_11_9 hM177 dX12_readSum_24 (fun a221 ea221 la221 ua221 => ?_)
          obtain rfl : a221 = (M177.1 98 9).toInt := ea221
          refine y_bipush C dX12_readSum_27 rfl ?_
          have J225 : ∀ (a224 : Int), (3000 ≤ a224 ∧ a224 ≤ 3001) → jj p l e (cn_R 12) s m args below meth c 0 0 Q 3 dC dI ad cA A M177 41 [(0, .ref (ad 98)), (1, .int (sI 5))] [.int (sI a224)] := by
            intro a224 h226
            refine j_istore_n C 2 [(2, .int (sI a224)), (0, .ref (ad 98)), (1, .int (sI 5))] dX12_readSum_41 rfl (by decide) rfl ?_
            have u227k := ri_k (M := M177) (by omega) (by omega)
            refine j_aload_n C 1 0 dX12_readSum_42 rfl rfl ?_
            have k228 := tkm_p (f := gf) (n := gn) (M := M177) (by omega)
            have k229 := tkm_K (f := gf) (n := gn) (M := M177) (by omega)
            refine j_callVv C (d := 5) (As := []) (st := []) 98 (s_lt rfl rfl) (s_kc (c := 11) rfl rfl) (by decide) rfl (s1_X12_next hM177 hpr gf gn (by omega) (by omega) (by omega) (by omega)) gX12_readSum_X12_next rfl hdX12_next (by decide) (Nat.le_of_ble_eq_true rfl) dX12_readSum_43 rfl (fun M231 h232 => ?_)
            obtain ⟨hM231, fM231, h233⟩ := h232
            have bM231 := tkm_b (f := gf) (n := gn) (M := M231) (by omega)
            have qM231 := nx_po (f := gf) (n := gn) (i := gq178) (M := M177) (M' := M231) (by omega) (by omega) (by omega) (by omega) (by omega)
            have u234c := xw_c (N := M177) (P := M231) 1 (FR.cell fM231 (by decide)) (by omega)
            have u234t := xw_t (M := M0) (N := M177) (P := M231) (r1 := 0) (e1 := 1) (s1 := 0) (r2 := 0) (e2 := 0) (s2 := 1) 0 1 1 (by decide) (by omega) (by omega)
            have u234a := ca_x (M := M0) (N := M231) (r := 0) (e := 1) (s := 1) (by decide) (by omega) (by omega)
            have u234l := ri_l (M := M231) (by omega)
            refine j_aload_n C 1 0 dX12_readSum_46 rfl rfl ?_
            refine j_iload_n C 2 1 dX12_readSum_47 rfl rfl ?_
            refine j_callVv C (d := 11) (As := [.int (sI 5)]) (st := []) 98 (s_lt rfl rfl) (s_kc (c := 11) rfl rfl) (by decide) rfl (s2_X12_readTerm hM231 hpr gf gn (nxF gf gn gq178) (by omega) (by omega) (by omega) (by omega) (by omega)) gX12_readSum_X12_readTerm rfl hdX12_readTerm (by decide) (Nat.le_of_ble_eq_true rfl) dX12_readSum_48 rfl (fun M236 h237 => ?_)
            obtain ⟨hM236, fM236, h238⟩ := h237
            have bM236 := tkm_b (f := gf) (n := gn) (M := M236) (by omega)
            have qM236 := po_rr (teP gf gn false (suR gf gn 0)) gn (nxF gf gn gq178) (M231.1 98 11).toInt (M231.1 98 12).toInt (M231.1 98 6).toInt (M236.1 98 11).toInt (M236.1 98 12).toInt (M236.1 98 6).toInt (te_g gf gn (fun _ => suR_g gf gn 0)) (by omega) (by omega)
            have u239t := xw_t (M := M0) (N := M231) (P := M236) (r1 := 0) (e1 := 1) (s1 := 1) (r2 := 0) (e2 := 1) (s2 := 0) 0 2 1 (by decide) (by omega) (by omega)
            have u239l := ri_l (M := M236) (by omega)
            have u239b := cb_x (M := M0) (N := M236) (r := 0) (e := 2) (s := 1) (by decide) (by omega) (by omega) (by omega)
            refine j_aload_n C 1 0 dX12_readSum_51 rfl rfl ?_
            refine j_iload_n C 0 2 dX12_readSum_52 rfl rfl ?_
            refine j_callVv C (d := 0) (As := [.int (sI a224)]) (st := []) 98 (s_lt rfl rfl) (s_kc (c := 11) rfl rfl) (by decide) rfl (s1_X12_codes hM236 hpr a224 (by omega) gf gn ((teP gf gn false (suR gf gn 0)) (nxF gf gn gq178)).2.2 (by omega) (by omega) (by omega) (by omega)) gX12_readSum_X12_codes rfl hdX12_codes (by decide) (Nat.le_of_ble_eq_true rfl) dX12_readSum_53 rfl (fun M241 h242 => ?_)
            obtain ⟨hM241, fM241, h243⟩ := h242
            have bM241 := tkm_b (f := gf) (n := gn) (M := M241) (by omega)
            have qM241 := po_eq gn ((teP gf gn false (suR gf gn 0)) (nxF gf gn gq178)).2.2 (M236.1 98 11).toInt (M236.1 98 6).toInt (M241.1 98 11).toInt (M241.1 98 6).toInt (by omega) (by omega) (by omega)
            refine j_goto C 5 dX12_readSum_56 (by decide) ?_
            have u244x := xw_a (M := M236) (N := M241) (c := a224) (r := 2) (e := (-1)) (FR.cell fM241 (by decide)) (ap_bin ⟨(INV.rd hM236 (i := 102) (c := 48) (k := 280) rfl rfl).1, by omega, by omega⟩) (by omega)
            have u244t := xw_t (M := M0) (N := M236) (P := M241) (r1 := 0) (e1 := 2) (s1 := 1) (r2 := 2) (e2 := (-1)) (s2 := (-1)) 0 1 0 (by decide) (by omega) (by omega)
            have u244i := ri_c (M := M236) (N := M241) (FR.cell fM241 (by decide)) (by omega)
            have u244l := ri_l (M := M241) (by omega)
            have u244L := ll_w (luP gf gn 2043 2045 (teP gf gn false (suR gf gn 0))) gn ((teP gf gn false (suR gf gn 0)) gi).2.2 ((teP gf gn false (suR gf gn 0)) (nxF gf gn gq178)).2.2 (0 + 1) 0 (M103.1 98 11).toInt (M103.1 98 12).toInt (M241.1 98 11).toInt (M241.1 98 12).toInt (M241.1 98 6).toInt (by decide) (ll_s gf gn 2043 2045 (teP gf gn false (suR gf gn 0)) ((teP gf gn false (suR gf gn 0)) gi).2.2 gq178 0 (M103.1 98 11).toInt (M103.1 98 12).toInt (M177.1 98 11).toInt (M177.1 98 12).toInt (M177.1 98 6).toInt (M231.1 98 11).toInt (M231.1 98 12).toInt (M236.1 98 11).toInt (M236.1 98 12).toInt (M236.1 98 6).toInt (M241.1 98 11).toInt (M241.1 98 12).toInt (M241.1 98 6).toInt (by decide) (te_g gf gn (fun _ => suR_g gf gn 0)) (by omega) (by omega) (by omega) (by omega) (by omega) (by omega) (by omega) (by omega) (by omega))
            have zz98_8 : (M241.1 98 8).toInt = (M236.1 98 8).toInt := s_fF fM241 (by decide) (rfl); have zz98_6 : (M241.1 98 6).toInt = (M236.1 98 6).toInt := s_fF fM241 (by decide) (rfl); have zz98_12 : (M241.1 98 12).toInt = (M236.1 98 12).toInt := s_fF fM241 (by decide) (rfl); have zz98_11 : (M241.1 98 11).toInt = (M236.1 98 11).toInt := s_fF fM241 (by decide) (rfl); refine j_lv [1, 2] rfl ?_; exact ih175 M241 ((teP gf gn false (suR gf gn 0)) (nxF gf gn gq178)).2.2 (by omega) hM241 ((((FR.rf.tr fM177 (by decide)).tr fM231 (by decide)).tr fM236 (by decide)).tr fM241 (by decide))
          refine y_icmp_ne C 38 dX12_readSum_29 (by decide) (by omega) (fun h223 => ?_) (fun h223 => ?_)
          · refine y_sipush C dX12_readSum_38 rfl ?_
            exact J225 3001 (by omega)
          · refine y_sipush C dX12_readSum_32 rfl ?_
            refine j_goto C 41 dX12_readSum_35 (by decide) ?_
            exact J225 3000 (by omega)
  exact L176 2010 M103 ((teP gf gn false (suR gf gn 0)) gi).2.2 (by omega) hM103 (FR.rf.tr fM103 (by decide))
set_option maxHeartbeats 4000000 in
theorem s3_X12_readAtom {l : Launch} {dC : Nat → ClassId} {dI : Nat → Nat → Nat} {ad : Nat → Nat} {cA : Nat → ClassId} {pr : Nat → Nat → Bool} {Kz : mm_M} {M0 : mm_M} (hM0 : INV pr Kz M0) (hpr : PM pr) (gf : Nat → Int) (gn : Int) (gi : Int) (hp0 : b01 (RIP M0) = 1) (hp1 : b01 (CA M0) = 1) (hp2 : b01 (TKM gf gn M0) = 1) (hp3 : b01 (PO gn gi (M0.1 98 11).toInt (M0.1 98 6).toInt) = 1) (hp4 : b01 (PI M0) = 1) : Cv l 13 yX12_readAtom wsX12_readAtom dC dI ad cA [.ref (ad 98), .int (sI 4)] M0 (fun M' => INV pr Kz M' ∧ FR [98, 102] M0 M' ∧ (b01 (RIP M') = 1) ∧ ((M'.1 98 8).toInt = (M0.1 98 8).toInt) ∧ ((M0.1 98 6).toInt ≤ (M'.1 98 6).toInt) ∧ (b01 (XW M0 M' 0 1 0) = 1) ∧ (b01 (CA M') = 1) ∧ (b01 (PI M') = 1) ∧ (b01 (TKM gf gn M') = 1) ∧ b01 (RR ((atP gf gn false (suR gf gn 1)) gi) (M0.1 98 11).toInt (M0.1 98 12).toInt (M'.1 98 11).toInt (M'.1 98 12).toInt (M'.1 98 6).toInt) = 1) := by
  refine cv_of (cc := cX12_readAtom) (maxL := 2) (lv := [(0, .ref (ad 98)), (1, .int (sI 4))]) (by decide) rfl (Nat.le_of_ble_eq_true rfl) rfl ?_
  intro p e s m args below meth c A Q C hret
  have u101z := xw_0 M0
  have u101l := ri_l (M := M0) (by omega)
  refine j_aload_n C 0 0 dX12_readAtom_0 rfl rfl ?_
  refine y_bipush C dX12_readAtom_1 rfl ?_
  have k102 := tkm_K (f := gf) (n := gn) (M := M0) (by omega)
  have k103 := kd_2 (kd_23 gf gn (M0.1 98 6).toInt) (by omega)
  refine j_callVi C (d := 0) (As := [.int (sI 23)]) (st := []) 98 (s_lt rfl rfl) (s_kc (c := 11) rfl rfl) (by decide) rfl (s1_X12_is hM0 23 (by omega)) gX12_readAtom_X12_is rfl hdX12_is (by decide) (Nat.le_of_ble_eq_true rfl) dX12_readAtom_3 rfl (fun r104 M105 h106 => ?_)
  obtain ⟨a108, rfl, rfl, h107⟩ := h106
  refine y_if_eq C 24 dX12_readAtom_6 (by decide) (by omega) (fun h109 => ?_) (fun h109 => ?_)
  · refine j_aload_n C 0 0 dX12_readAtom_24 rfl rfl ?_
    refine y_getI C 11 _ _ fX12_readAtom_126 rfl rfl ft_11_11 sb_11_11 hM0 dX12_readAtom_25 (fun a110 ea110 la110 ua110 => ?_)
    obtain rfl : a110 = (M0.1 98 11).toInt := ea110
    refine y_if_ne C 66 dX12_readAtom_28 (by decide) (by omega) (fun h112 => ?_) (fun h112 => ?_)
    · refine j_aload_n C 0 0 dX12_readAtom_66 rfl rfl ?_
      refine y_bipush C dX12_readAtom_67 rfl ?_
      have k113 := tkm_K (f := gf) (n := gn) (M := M0) (by omega)
      have k114 := kd_2 (kdk_35 gf gn (M0.1 98 6).toInt) (by omega)
      refine j_callVi C (d := 0) (As := [.int (sI 35)]) (st := []) 98 (s_lt rfl rfl) (s_kc (c := 11) rfl rfl) (by decide) rfl (s1_X12_is hM0 35 (by omega)) gX12_readAtom_X12_is rfl hdX12_is (by decide) (Nat.le_of_ble_eq_true rfl) dX12_readAtom_69 rfl (fun r115 M116 h117 => ?_)
      obtain ⟨a119, rfl, rfl, h118⟩ := h117
      refine y_if_eq C 108 dX12_readAtom_72 (by decide) (by omega) (fun h120 => ?_) (fun h120 => ?_)
      · refine j_aload_n C 0 0 dX12_readAtom_108 rfl rfl ?_
        refine y_iconst C dX12_readAtom_109 ?_
        refine j_callVv C (d := 0) (As := [.int (sI 2)]) (st := []) 98 (s_lt rfl rfl) (s_kc (c := 11) rfl rfl) (by decide) rfl (s1_X12_fails hM0 hpr 2 (by omega) gf gn gi (by omega) (by omega) (by omega) (by omega) (by omega)) gX12_readAtom_X12_fails rfl hdX12_fails (by decide) (Nat.le_of_ble_eq_true rfl) dX12_readAtom_110 rfl (fun M122 h123 => ?_)
        obtain ⟨hM122, fM122, h124⟩ := h123
        have bM122 := tkm_b (f := gf) (n := gn) (M := M122) (by omega)
        have qM122 := po_f gn ((faQ gf gn 2) gi).2.2 (M122.1 98 11).toInt (M122.1 98 6).toInt (by omega)
        have u125f : b01 (XW M0 M122 0 1 0) = 1 := b01_i (Or.inl (by omega))
        have u125a := ca_x (M := M0) (N := M122) (r := 0) (e := 1) (s := 0) (by decide) (by omega) (by omega)
        have u125r := at_4z gf gn false (suR gf gn 1) gi (M0.1 98 11).toInt (M0.1 98 12).toInt (M0.1 98 6).toInt (M122.1 98 11).toInt (M122.1 98 12).toInt (M122.1 98 6).toInt (by omega) (by omega) (by omega)
        exact hret _ _ _ dX12_readAtom_113 ⟨hM122, (FR.rf.tr fM122 (by decide)), by omega⟩
      · have u126k := ri_k (M := M0) (by omega) (by omega)
        refine j_aload_n C 0 0 dX12_readAtom_75 rfl rfl ?_
        refine j_iload_n C 1 1 dX12_readAtom_76 rfl rfl ?_
        refine j_callVi C (d := 6) (As := [.int (sI 4)]) (st := []) 98 (s_lt rfl rfl) (s_kc (c := 11) rfl rfl) (by decide) rfl (s5_X12_goesIn hM0 hpr gf gn gi (by omega) (by omega) (by omega) (by omega) (by omega) (by omega) (by omega)) gX12_readAtom_X12_goesIn rfl hdX12_goesIn (by decide) (Nat.le_of_ble_eq_true rfl) dX12_readAtom_77 rfl (fun r127 M128 h129 => ?_)
        obtain ⟨a131, rfl, hM128, fM128, h130⟩ := h129
        have bM128 := tkm_b (f := gf) (n := gn) (M := M128) (by omega)
        refine y_if_ne C 84 dX12_readAtom_80 (by decide) (by omega) (fun h132 => ?_) (fun h132 => ?_)
        · have u133c := xw_c (N := M0) (P := M128) 1 (FR.cell fM128 (by decide)) (by omega)
          have u133t := xw_t (M := M0) (N := M0) (P := M128) (r1 := 0) (e1 := 0) (s1 := 0) (r2 := 0) (e2 := 0) (s2 := 1) 0 0 1 (by decide) (by omega) (by omega)
          have u133a := ca_x (M := M0) (N := M128) (r := 0) (e := 0) (s := 1) (by decide) (by omega) (by omega)
          have u133l := ri_l (M := M128) (by omega)
          refine j_aload_n C 0 0 dX12_readAtom_84 rfl rfl ?_
          refine j_iload_n C 1 1 dX12_readAtom_85 rfl rfl ?_
          refine y_iconst C dX12_readAtom_86 ?_
          refine y_iadd C dX12_readAtom_87 ?_
          refine j_callVv C (d := 12) (As := [.int (sI (4 + 1))]) (st := []) 98 (s_lt rfl rfl) (s_kc (c := 11) rfl rfl) (by decide) rfl (s2_X12_readSum hM128 hpr gf gn (nxF gf gn gi) (by omega) (by omega) (by omega) (by omega) (by omega)) gX12_readAtom_X12_readSum rfl hdX12_readSum (by decide) (Nat.le_of_ble_eq_true rfl) dX12_readAtom_88 rfl (fun M135 h136 => ?_)
          obtain ⟨hM135, fM135, h137⟩ := h136
          have bM135 := tkm_b (f := gf) (n := gn) (M := M135) (by omega)
          have qM135 := po_rr (suR gf gn 1) gn (nxF gf gn gi) (M128.1 98 11).toInt (M128.1 98 12).toInt (M128.1 98 6).toInt (M135.1 98 11).toInt (M135.1 98 12).toInt (M135.1 98 6).toInt (suR_g gf gn 1) (by omega) (by omega)
          have u138t := xw_t (M := M0) (N := M128) (P := M135) (r1 := 0) (e1 := 0) (s1 := 1) (r2 := 0) (e2 := 1) (s2 := 0) 0 1 1 (by decide) (by omega) (by omega)
          have u138l := ri_l (M := M135) (by omega)
          refine j_aload_n C 0 0 dX12_readAtom_91 rfl rfl ?_
          refine y_bipush C dX12_readAtom_92 rfl ?_
          have k139 := tkm_K (f := gf) (n := gn) (M := M135) (by omega)
          have k140 := kd_2 (kdk_36 gf gn (M135.1 98 6).toInt) (by omega)
          refine j_callVi C (d := 6) (As := [.int (sI 36)]) (st := []) 98 (s_lt rfl rfl) (s_kc (c := 11) rfl rfl) (by decide) rfl (s1_X12_eats hM135 hpr 36 (by omega) gf gn ((suR gf gn 1) (nxF gf gn gi)).2.2 (by omega) (by omega) (by omega) (by omega) (by omega)) gX12_readAtom_X12_eats rfl hdX12_eats (by decide) (Nat.le_of_ble_eq_true rfl) dX12_readAtom_94 rfl (fun r141 M142 h143 => ?_)
          obtain ⟨a145, rfl, hM142, fM142, h144⟩ := h143
          have k146 := tk_c gf gn (M142.1 98 6).toInt (M135.1 98 6).toInt
          have bM142 := tkm_b (f := gf) (n := gn) (M := M142) (by omega)
          have u147c := xw_c (N := M135) (P := M142) 0 (FR.cell fM142 (by decide)) (by omega)
          have u147t := xw_t (M := M0) (N := M135) (P := M142) (r1 := 0) (e1 := 1) (s1 := 1) (r2 := 0) (e2 := 0) (s2 := 0) 0 1 0 (by decide) (by omega) (by omega)
          have u147a := ca_x (M := M0) (N := M142) (r := 0) (e := 1) (s := 0) (by decide) (by omega) (by omega)
          have u147l := ri_l (M := M142) (by omega)
          refine y_if_ne C 113 dX12_readAtom_97 (by decide) (by omega) (fun h148 => ?_) (fun h148 => ?_)
          · have u149x := ex_1 gf gn 2041 ((suR gf gn 1) (nxF gf gn gi)).2.2 (M135.1 98 11).toInt (M135.1 98 12).toInt (M135.1 98 6).toInt (M142.1 98 11).toInt (M142.1 98 12).toInt (M142.1 98 6).toInt (by omega) (by omega) (by omega) (by omega) (by omega) (by omega)
            have u149r := at_2 gf gn (suR gf gn 1) gi (M0.1 98 11).toInt (M0.1 98 12).toInt (M0.1 98 6).toInt (M128.1 98 11).toInt (M128.1 98 12).toInt (M135.1 98 11).toInt (M135.1 98 12).toInt (M135.1 98 6).toInt (M142.1 98 11).toInt (M142.1 98 12).toInt (M142.1 98 6).toInt (by omega) (by omega) (by omega) (by omega) (by omega) (by omega)
            exact hret _ _ _ dX12_readAtom_113 ⟨hM142, (((FR.rf.tr fM128 (by decide)).tr fM135 (by decide)).tr fM142 (by decide)), by omega⟩
          · refine j_aload_n C 0 0 dX12_readAtom_100 rfl rfl ?_
            refine y_iconst C dX12_readAtom_101 ?_
            have p150 := po_eq gn ((suR gf gn 1) (nxF gf gn gi)).2.2 (M135.1 98 11).toInt (M135.1 98 6).toInt (M142.1 98 11).toInt (M142.1 98 6).toInt (by omega) (by omega) (by omega)
            refine j_callVv C (d := 0) (As := [.int (sI 2)]) (st := []) 98 (s_lt rfl rfl) (s_kc (c := 11) rfl rfl) (by decide) rfl (s1_X12_fails hM142 hpr 2 (by omega) gf gn ((suR gf gn 1) (nxF gf gn gi)).2.2 (by omega) (by omega) (by omega) (by omega) (by omega)) gX12_readAtom_X12_fails rfl hdX12_fails (by decide) (Nat.le_of_ble_eq_true rfl) dX12_readAtom_102 rfl (fun M152 h153 => ?_)
            obtain ⟨hM152, fM152, h154⟩ := h153
            have bM152 := tkm_b (f := gf) (n := gn) (M := M152) (by omega)
            have qM152 := po_f gn ((faQ gf gn 2) ((suR gf gn 1) (nxF gf gn gi)).2.2).2.2 (M152.1 98 11).toInt (M152.1 98 6).toInt (by omega)
            have u155f : b01 (XW M0 M152 0 1 0) = 1 := b01_i (Or.inl (by omega))
            have u155a := ca_x (M := M0) (N := M152) (r := 0) (e := 1) (s := 0) (by decide) (by omega) (by omega)
            refine j_goto C 113 dX12_readAtom_105 (by decide) ?_
            have u156x := ex_2z gf gn 2041 ((suR gf gn 1) (nxF gf gn gi)).2.2 (M135.1 98 11).toInt (M135.1 98 12).toInt (M135.1 98 6).toInt (M152.1 98 11).toInt (M152.1 98 12).toInt (M152.1 98 6).toInt (by omega) (by omega) (rr_fr (faQ gf gn 2 ((suR gf gn 1) (nxF gf gn gi)).2.2) (M135.1 98 11).toInt (M135.1 98 12).toInt (M142.1 98 11).toInt (M142.1 98 12).toInt (M152.1 98 11).toInt (M152.1 98 12).toInt (M152.1 98 6).toInt (by omega) (by omega) (by omega))
            have u156r := at_2 gf gn (suR gf gn 1) gi (M0.1 98 11).toInt (M0.1 98 12).toInt (M0.1 98 6).toInt (M128.1 98 11).toInt (M128.1 98 12).toInt (M135.1 98 11).toInt (M135.1 98 12).toInt (M135.1 98 6).toInt (M152.1 98 11).toInt (M152.1 98 12).toInt (M152.1 98 6).toInt (by omega) (by omega) (by omega) (by omega) (by omega) (by omega)
            exact hret _ _ _ dX12_readAtom_113 ⟨hM152, ((((FR.rf.tr fM128 (by decide)).tr fM135 (by decide)).tr fM142 (by decide)).tr fM152 (by decide)), by omega⟩
        · exfalso; omega
    · refine j_aload_n C 0 0 dX12_readAtom_31 rfl rfl ?_
      refine j_aload_n C 0 0 dX12_readAtom_32 rfl rfl ?_
      refine y_getI C 11 _ _ fX12_readAtom_108 rfl rfl ft_11_9 sb_11_9 hM0 dX12_readAtom_33 (fun a157 ea157 la157 ua157 => ?_)
      obtain rfl : a157 = (M0.1 98 9).toInt := ea157
      have k159 := tkm_K (f := gf) (n := gn) (M := M0) (by omega)
      have k160 := kd_2 (wo_k gf gn (M0.1 98 6).toInt) (by omega)
      have k161 := wo_c (M0.1 98 9).toInt (kdF (tkF gf gn (M0.1 98 6).toInt))
      refine j_callVi C (d := 0) (As := [.int (sI (M0.1 98 9).toInt)]) (st := []) 98 (s_lt rfl rfl) (s_kc (c := 11) rfl rfl) (by decide) rfl (s1_X12_wordOf hM0 (M0.1 98 9).toInt (by omega)) gX12_readAtom_X12_wordOf rfl hdX12_wordOf (by decide) (Nat.le_of_ble_eq_true rfl) dX12_readAtom_36 rfl (fun r162 M163 h164 => ?_)
      obtain ⟨a166, rfl, rfl, h165⟩ := h164
      obtain rfl : a166 = (woF (M0.1 98 9).toInt) := by omega
      refine y_iconst C dX12_readAtom_39 ?_
      refine y_icmp_eq C 66 dX12_readAtom_40 (by decide) (by omega) (fun h167 => ?_) (fun h167 => ?_)
      · refine j_aload_n C 0 0 dX12_readAtom_66 rfl rfl ?_
        refine y_bipush C dX12_readAtom_67 rfl ?_
        have k168 := tkm_K (f := gf) (n := gn) (M := M0) (by omega)
        have k169 := kd_2 (kdk_35 gf gn (M0.1 98 6).toInt) (by omega)
        refine j_callVi C (d := 0) (As := [.int (sI 35)]) (st := []) 98 (s_lt rfl rfl) (s_kc (c := 11) rfl rfl) (by decide) rfl (s1_X12_is hM0 35 (by omega)) gX12_readAtom_X12_is rfl hdX12_is (by decide) (Nat.le_of_ble_eq_true rfl) dX12_readAtom_69 rfl (fun r170 M171 h172 => ?_)
        obtain ⟨a174, rfl, rfl, h173⟩ := h172
        refine y_if_eq C 108 dX12_readAtom_72 (by decide) (by omega) (fun h175 => ?_) (fun h175 => ?_)
        · refine j_aload_n C 0 0 dX12_readAtom_108 rfl rfl ?_
          refine y_iconst C dX12_readAtom_109 ?_
          refine j_callVv C (d := 0) (As := [.int (sI 2)]) (st := []) 98 (s_lt rfl rfl) (s_kc (c := 11) rfl rfl) (by decide) rfl (s1_X12_fails hM0 hpr 2 (by omega) gf gn gi (by omega) (by omega) (by omega) (by omega) (by omega)) gX12_readAtom_X12_fails rfl hdX12_fails (by decide) (Nat.le_of_ble_eq_true rfl) dX12_readAtom_110 rfl (fun M177 h178 => ?_)
          obtain ⟨hM177, fM177, h179⟩ := h178
          have bM177 := tkm_b (f := gf) (n := gn) (M := M177) (by omega)
          have qM177 := po_f gn ((faQ gf gn 2) gi).2.2 (M177.1 98 11).toInt (M177.1 98 6).toInt (by omega)
          have u180f : b01 (XW M0 M177 0 1 0) = 1 := b01_i (Or.inl (by omega))
          have u180a := ca_x (M := M0) (N := M177) (r := 0) (e := 1) (s := 0) (by decide) (by omega) (by omega)
          have u180r := at_4z gf gn false (suR gf gn 1) gi (M0.1 98 11).toInt (M0.1 98 12).toInt (M0.1 98 6).toInt (M177.1 98 11).toInt (M177.1 98 12).toInt (M177.1 98 6).toInt (by omega) (by omega) (by omega)
          exact hret _ _ _ dX12_readAtom_113 ⟨hM177, (FR.rf.tr fM177 (by decide)), by omega⟩
        · have u181k := ri_k (M := M0) (by omega) (by omega)
          refine j_aload_n C 0 0 dX12_readAtom_75 rfl rfl ?_
          refine j_iload_n C 1 1 dX12_readAtom_76 rfl rfl ?_
          refine j_callVi C (d := 6) (As := [.int (sI 4)]) (st := []) 98 (s_lt rfl rfl) (s_kc (c := 11) rfl rfl) (by decide) rfl (s5_X12_goesIn hM0 hpr gf gn gi (by omega) (by omega) (by omega) (by omega) (by omega) (by omega) (by omega)) gX12_readAtom_X12_goesIn rfl hdX12_goesIn (by decide) (Nat.le_of_ble_eq_true rfl) dX12_readAtom_77 rfl (fun r182 M183 h184 => ?_)
          obtain ⟨a186, rfl, hM183, fM183, h185⟩ := h184
          have bM183 := tkm_b (f := gf) (n := gn) (M := M183) (by omega)
          refine y_if_ne C 84 dX12_readAtom_80 (by decide) (by omega) (fun h187 => ?_) (fun h187 => ?_)
          · have u188c := xw_c (N := M0) (P := M183) 1 (FR.cell fM183 (by decide)) (by omega)
            have u188t := xw_t (M := M0) (N := M0) (P := M183) (r1 := 0) (e1 := 0) (s1 := 0) (r2 := 0) (e2 := 0) (s2 := 1) 0 0 1 (by decide) (by omega) (by omega)
            have u188a := ca_x (M := M0) (N := M183) (r := 0) (e := 0) (s := 1) (by decide) (by omega) (by omega)
            have u188l := ri_l (M := M183) (by omega)
            refine j_aload_n C 0 0 dX12_readAtom_84 rfl rfl ?_
            refine j_iload_n C 1 1 dX12_readAtom_85 rfl rfl ?_
            refine y_iconst C dX12_readAtom_86 ?_
            refine y_iadd C dX12_readAtom_87 ?_
            refine j_callVv C (d := 12) (As := [.int (sI (4 + 1))]) (st := []) 98 (s_lt rfl rfl) (s_kc (c := 11) rfl rfl) (by decide) rfl (s2_X12_readSum hM183 hpr gf gn (nxF gf gn gi) (by omega) (by omega) (by omega) (by omega) (by omega)) gX12_readAtom_X12_readSum rfl hdX12_readSum (by decide) (Nat.le_of_ble_eq_true rfl) dX12_readAtom_88 rfl (fun M190 h191 => ?_)
            obtain ⟨hM190, fM190, h192⟩ := h191
            have bM190 := tkm_b (f := gf) (n := gn) (M := M190) (by omega)
            have qM190 := po_rr (suR gf gn 1) gn (nxF gf gn gi) (M183.1 98 11).toInt (M183.1 98 12).toInt (M183.1 98 6).toInt (M190.1 98 11).toInt (M190.1 98 12).toInt (M190.1 98 6).toInt (suR_g gf gn 1) (by omega) (by omega)
            have u193t := xw_t (M := M0) (N := M183) (P := M190) (r1 := 0) (e1 := 0) (s1 := 1) (r2 := 0) (e2 := 1) (s2 := 0) 0 1 1 (by decide) (by omega) (by omega)
            have u193l := ri_l (M := M190) (by omega)
            refine j_aload_n C 0 0 dX12_readAtom_91 rfl rfl ?_
            refine y_bipush C dX12_readAtom_92 rfl ?_
            have k194 := tkm_K (f := gf) (n := gn) (M := M190) (by omega)
            have k195 := kd_2 (kdk_36 gf gn (M190.1 98 6).toInt) (by omega)
            refine j_callVi C (d := 6) (As := [.int (sI 36)]) (st := []) 98 (s_lt rfl rfl) (s_kc (c := 11) rfl rfl) (by decide) rfl (s1_X12_eats hM190 hpr 36 (by omega) gf gn ((suR gf gn 1) (nxF gf gn gi)).2.2 (by omega) (by omega) (by omega) (by omega) (by omega)) gX12_readAtom_X12_eats rfl hdX12_eats (by decide) (Nat.le_of_ble_eq_true rfl) dX12_readAtom_94 rfl (fun r196 M197 h198 => ?_)
            obtain ⟨a200, rfl, hM197, fM197, h199⟩ := h198
            have k201 := tk_c gf gn (M197.1 98 6).toInt (M190.1 98 6).toInt
            have bM197 := tkm_b (f := gf) (n := gn) (M := M197) (by omega)
            have u202c := xw_c (N := M190) (P := M197) 0 (FR.cell fM197 (by decide)) (by omega)
            have u202t := xw_t (M := M0) (N := M190) (P := M197) (r1 := 0) (e1 := 1) (s1 := 1) (r2 := 0) (e2 := 0) (s2 := 0) 0 1 0 (by decide) (by omega) (by omega)
            have u202a := ca_x (M := M0) (N := M197) (r := 0) (e := 1) (s := 0) (by decide) (by omega) (by omega)
            have u202l := ri_l (M := M197) (by omega)
            refine y_if_ne C 113 dX12_readAtom_97 (by decide) (by omega) (fun h203 => ?_) (fun h203 => ?_)
            · have u204x := ex_1 gf gn 2041 ((suR gf gn 1) (nxF gf gn gi)).2.2 (M190.1 98 11).toInt (M190.1 98 12).toInt (M190.1 98 6).toInt (M197.1 98 11).toInt (M197.1 98 12).toInt (M197.1 98 6).toInt (by omega) (by omega) (by omega) (by omega) (by omega) (by omega)
              have u204r := at_2 gf gn (suR gf gn 1) gi (M0.1 98 11).toInt (M0.1 98 12).toInt (M0.1 98 6).toInt (M183.1 98 11).toInt (M183.1 98 12).toInt (M190.1 98 11).toInt (M190.1 98 12).toInt (M190.1 98 6).toInt (M197.1 98 11).toInt (M197.1 98 12).toInt (M197.1 98 6).toInt (by omega) (by omega) (by omega) (by omega) (by omega) (by omega)
              exact hret _ _ _ dX12_readAtom_113 ⟨hM197, (((FR.rf.tr fM183 (by decide)).tr fM190 (by decide)).tr fM197 (by decide)), by omega⟩
            · refine j_aload_n C 0 0 dX12_readAtom_100 rfl rfl ?_
              refine y_iconst C dX12_readAtom_101 ?_
              have p205 := po_eq gn ((suR gf gn 1) (nxF gf gn gi)).2.2 (M190.1 98 11).toInt (M190.1 98 6).toInt (M197.1 98 11).toInt (M197.1 98 6).toInt (by omega) (by omega) (by omega)
              refine j_callVv C (d := 0) (As := [.int (sI 2)]) (st := []) 98 (s_lt rfl rfl) (s_kc (c := 11) rfl rfl) (by decide) rfl (s1_X12_fails hM197 hpr 2 (by omega) gf gn ((suR gf gn 1) (nxF gf gn gi)).2.2 (by omega) (by omega) (by omega) (by omega) (by omega)) gX12_readAtom_X12_fails rfl hdX12_fails (by decide) (Nat.le_of_ble_eq_true rfl) dX12_readAtom_102 rfl (fun M207 h208 => ?_)
              obtain ⟨hM207, fM207, h209⟩ := h208
              have bM207 := tkm_b (f := gf) (n := gn) (M := M207) (by omega)
              have qM207 := po_f gn ((faQ gf gn 2) ((suR gf gn 1) (nxF gf gn gi)).2.2).2.2 (M207.1 98 11).toInt (M207.1 98 6).toInt (by omega)
              have u210f : b01 (XW M0 M207 0 1 0) = 1 := b01_i (Or.inl (by omega))
              have u210a := ca_x (M := M0) (N := M207) (r := 0) (e := 1) (s := 0) (by decide) (by omega) (by omega)
              refine j_goto C 113 dX12_readAtom_105 (by decide) ?_
              have u211x := ex_2z gf gn 2041 ((suR gf gn 1) (nxF gf gn gi)).2.2 (M190.1 98 11).toInt (M190.1 98 12).toInt (M190.1 98 6).toInt (M207.1 98 11).toInt (M207.1 98 12).toInt (M207.1 98 6).toInt (by omega) (by omega) (rr_fr (faQ gf gn 2 ((suR gf gn 1) (nxF gf gn gi)).2.2) (M190.1 98 11).toInt (M190.1 98 12).toInt (M197.1 98 11).toInt (M197.1 98 12).toInt (M207.1 98 11).toInt (M207.1 98 12).toInt (M207.1 98 6).toInt (by omega) (by omega) (by omega))
              have u211r := at_2 gf gn (suR gf gn 1) gi (M0.1 98 11).toInt (M0.1 98 12).toInt (M0.1 98 6).toInt (M183.1 98 11).toInt (M183.1 98 12).toInt (M190.1 98 11).toInt (M190.1 98 12).toInt (M190.1 98 6).toInt (M207.1 98 11).toInt (M207.1 98 12).toInt (M207.1 98 6).toInt (by omega) (by omega) (by omega) (by omega) (by omega) (by omega)
              exact hret _ _ _ dX12_readAtom_113 ⟨hM207, ((((FR.rf.tr fM183 (by decide)).tr fM190 (by decide)).tr fM197 (by decide)).tr fM207 (by decide)), by omega⟩
          · exfalso; omega
      · have u212w := woF_s (M0.1 98 9).toInt
        have u212k := ri_k (M := M0) (by omega) (by omega)
        have u212b := cb_0 (M := M0) (by omega) (by omega)
        refine j_aload_n C 0 0 dX12_readAtom_43 rfl rfl ?_
        refine y_sipush C dX12_readAtom_44 rfl ?_
        refine j_aload_n C 0 0 dX12_readAtom_47 rfl rfl ?_
        refine j_aload_n C 0 0 dX12_readAtom_48 rfl rfl ?_
        refine y_getI C 11 _ _ fX12_readAtom_108 rfl rfl ft_11_9 sb_11_9 hM0 dX12_readAtom_49 (fun a213 ea213 la213 ua213 => ?_)
        obtain rfl : a213 = (M0.1 98 9).toInt := ea213
        have k215 := tkm_K (f := gf) (n := gn) (M := M0) (by omega)
        have k216 := kd_2 (wo_k gf gn (M0.1 98 6).toInt) (by omega)
        have k217 := wo_c (M0.1 98 9).toInt (kdF (tkF gf gn (M0.1 98 6).toInt))
        refine j_callVi C (d := 0) (As := [.int (sI (M0.1 98 9).toInt)]) (st := [.int (sI 1000), .ref (ad 98)]) 98 (s_lt rfl rfl) (s_kc (c := 11) rfl rfl) (by decide) rfl (s1_X12_wordOf hM0 (M0.1 98 9).toInt (by omega)) gX12_readAtom_X12_wordOf rfl hdX12_wordOf (by decide) (Nat.le_of_ble_eq_true rfl) dX12_readAtom_52 rfl (fun r218 M219 h220 => ?_)
        obtain ⟨a222, rfl, rfl, h221⟩ := h220
        obtain rfl : a222 = (woF (M0.1 98 9).toInt) := by omega
        refine y_iadd C dX12_readAtom_55 ?_
        refine j_callVv C (d := 0) (As := [.int (sI (1000 + (woF (M0.1 98 9).toInt)))]) (st := []) 98 (s_lt rfl rfl) (s_kc (c := 11) rfl rfl) (by decide) rfl (s1_X12_codes hM0 hpr (1000 + (woF (M0.1 98 9).toInt)) (by omega) gf gn gi (by omega) (by omega) (by omega) (by omega)) gX12_readAtom_X12_codes rfl hdX12_codes (by decide) (Nat.le_of_ble_eq_true rfl) dX12_readAtom_56 rfl (fun M224 h225 => ?_)
        obtain ⟨hM224, fM224, h226⟩ := h225
        have bM224 := tkm_b (f := gf) (n := gn) (M := M224) (by omega)
        have qM224 := po_eq gn gi (M0.1 98 11).toInt (M0.1 98 6).toInt (M224.1 98 11).toInt (M224.1 98 6).toInt (by omega) (by omega) (by omega)
        have u227x := xw_a (M := M0) (N := M224) (c := (1000 + (woF (M0.1 98 9).toInt))) (r := 0) (e := 1) (FR.cell fM224 (by decide)) (ap_push ⟨(INV.rd hM0 (i := 102) (c := 48) (k := 280) rfl rfl).1, by omega, by omega⟩) (by omega)
        have u227t := xw_t (M := M0) (N := M0) (P := M224) (r1 := 0) (e1 := 0) (s1 := 0) (r2 := 0) (e2 := 1) (s2 := (-1)) 0 1 (-1) (by decide) (by omega) (by omega)
        have u227i := ri_c (M := M0) (N := M224) (FR.cell fM224 (by decide)) (by omega)
        have u227l := ri_l (M := M224) (by omega)
        have u227q6 : (M224.1 98 6).toInt = (M0.1 98 6).toInt := by rw [show M224.1 98 = M0.1 98 from FR.cell fM224 (by decide)]
        have u227q7 : (M224.1 98 7).toInt = (M0.1 98 7).toInt := by rw [show M224.1 98 = M0.1 98 from FR.cell fM224 (by decide)]
        have u227q8 : (M224.1 98 8).toInt = (M0.1 98 8).toInt := by rw [show M224.1 98 = M0.1 98 from FR.cell fM224 (by decide)]
        have u227q9 : (M224.1 98 9).toInt = (M0.1 98 9).toInt := by rw [show M224.1 98 = M0.1 98 from FR.cell fM224 (by decide)]
        have u227q11 : (M224.1 98 11).toInt = (M0.1 98 11).toInt := by rw [show M224.1 98 = M0.1 98 from FR.cell fM224 (by decide)]
        refine j_aload_n C 0 0 dX12_readAtom_59 rfl rfl ?_
        have zz98_7 : (M224.1 98 7).toInt = (M0.1 98 7).toInt := s_fF fM224 (by decide) (rfl)
        have zz98_8 : (M224.1 98 8).toInt = (M0.1 98 8).toInt := s_fF fM224 (by decide) (rfl)
        have k228 := tkm_p (f := gf) (n := gn) (M := M224) (by omega)
        have k229 := tkm_K (f := gf) (n := gn) (M := M224) (by omega)
        refine j_callVv C (d := 5) (As := []) (st := []) 98 (s_lt rfl rfl) (s_kc (c := 11) rfl rfl) (by decide) rfl (s1_X12_next hM224 hpr gf gn (by omega) (by omega) (by omega) (by omega)) gX12_readAtom_X12_next rfl hdX12_next (by decide) (Nat.le_of_ble_eq_true rfl) dX12_readAtom_60 rfl (fun M231 h232 => ?_)
        obtain ⟨hM231, fM231, h233⟩ := h232
        have bM231 := tkm_b (f := gf) (n := gn) (M := M231) (by omega)
        have qM231 := nx_po (f := gf) (n := gn) (i := gi) (M := M224) (M' := M231) (by omega) (by omega) (by omega) (by omega) (by omega)
        have u234c := xw_c (N := M224) (P := M231) 1 (FR.cell fM231 (by decide)) (by omega)
        have u234t := xw_t (M := M0) (N := M224) (P := M231) (r1 := 0) (e1 := 1) (s1 := (-1)) (r2 := 0) (e2 := 0) (s2 := 1) 0 1 0 (by decide) (by omega) (by omega)
        have u234a := ca_x (M := M0) (N := M231) (r := 0) (e := 1) (s := 0) (by decide) (by omega) (by omega)
        refine j_goto C 113 dX12_readAtom_63 (by decide) ?_
        have u235r := at_1 gf gn false (suR gf gn 1) gi (M0.1 98 11).toInt (M0.1 98 12).toInt (M0.1 98 6).toInt (M231.1 98 11).toInt (M231.1 98 12).toInt (M231.1 98 6).toInt (by omega) (by omega) (by omega) (by omega) (by omega) (by omega)
        exact hret _ _ _ dX12_readAtom_113 ⟨hM231, ((FR.rf.tr fM224 (by decide)).tr fM231 (by decide)), by omega⟩
  · have u236k := ri_k (M := M0) (by omega) (by omega)
    have u236b := cb_0 (M := M0) (by omega) (by omega)
    refine j_aload_n C 0 0 dX12_readAtom_9 rfl rfl ?_
    refine j_aload_n C 0 0 dX12_readAtom_10 rfl rfl ?_
    refine y_getI C 11 _ _ fX12_readAtom_121 rfl rfl ft_11_10 sb_11_10 hM0 dX12_readAtom_11 (fun a237 ea237 la237 ua237 => ?_)
    obtain rfl : a237 = (M0.1 98 10).toInt := ea237
    refine j_callVv C (d := 0) (As := [.int (sI (M0.1 98 10).toInt)]) (st := []) 98 (s_lt rfl rfl) (s_kc (c := 11) rfl rfl) (by decide) rfl (s1_X12_codes hM0 hpr (M0.1 98 10).toInt (by omega) gf gn gi (by omega) (by omega) (by omega) (by omega)) gX12_readAtom_X12_codes rfl hdX12_codes (by decide) (Nat.le_of_ble_eq_true rfl) dX12_readAtom_14 rfl (fun M240 h241 => ?_)
    obtain ⟨hM240, fM240, h242⟩ := h241
    have bM240 := tkm_b (f := gf) (n := gn) (M := M240) (by omega)
    have qM240 := po_eq gn gi (M0.1 98 11).toInt (M0.1 98 6).toInt (M240.1 98 11).toInt (M240.1 98 6).toInt (by omega) (by omega) (by omega)
    have u243x := xw_a (M := M0) (N := M240) (c := (M0.1 98 10).toInt) (r := 0) (e := 1) (FR.cell fM240 (by decide)) (ap_push ⟨(INV.rd hM0 (i := 102) (c := 48) (k := 280) rfl rfl).1, by omega, by omega⟩) (by omega)
    have u243t := xw_t (M := M0) (N := M0) (P := M240) (r1 := 0) (e1 := 0) (s1 := 0) (r2 := 0) (e2 := 1) (s2 := (-1)) 0 1 (-1) (by decide) (by omega) (by omega)
    have u243i := ri_c (M := M0) (N := M240) (FR.cell fM240 (by decide)) (by omega)
    have u243l := ri_l (M := M240) (by omega)
    have u243q6 : (M240.1 98 6).toInt = (M0.1 98 6).toInt := by rw [show M240.1 98 = M0.1 98 from FR.cell fM240 (by decide)]
    have u243q7 : (M240.1 98 7).toInt = (M0.1 98 7).toInt := by rw [show M240.1 98 = M0.1 98 from FR.cell fM240 (by decide)]
    have u243q8 : (M240.1 98 8).toInt = (M0.1 98 8).toInt := by rw [show M240.1 98 = M0.1 98 from FR.cell fM240 (by decide)]
    have u243q9 : (M240.1 98 9).toInt = (M0.1 98 9).toInt := by rw [show M240.1 98 = M0.1 98 from FR.cell fM240 (by decide)]
    have u243q11 : (M240.1 98 11).toInt = (M0.1 98 11).toInt := by rw [show M240.1 98 = M0.1 98 from FR.cell fM240 (by decide)]
    refine j_aload_n C 0 0 dX12_readAtom_17 rfl rfl ?_
    have zz98_7 : (M240.1 98 7).toInt = (M0.1 98 7).toInt := s_fF fM240 (by decide) (rfl)
    have zz98_8 : (M240.1 98 8).toInt = (M0.1 98 8).toInt := s_fF fM240 (by decide) (rfl)
    have k244 := tkm_p (f := gf) (n := gn) (M := M240) (by omega)
    have k245 := tkm_K (f := gf) (n := gn) (M := M240) (by omega)
    refine j_callVv C (d := 5) (As := []) (st := []) 98 (s_lt rfl rfl) (s_kc (c := 11) rfl rfl) (by decide) rfl (s1_X12_next hM240 hpr gf gn (by omega) (by omega) (by omega) (by omega)) gX12_readAtom_X12_next rfl hdX12_next (by decide) (Nat.le_of_ble_eq_true rfl) dX12_readAtom_18 rfl (fun M247 h248 => ?_)
    obtain ⟨hM247, fM247, h249⟩ := h248
    have bM247 := tkm_b (f := gf) (n := gn) (M := M247) (by omega)
    have qM247 := nx_po (f := gf) (n := gn) (i := gi) (M := M240) (M' := M247) (by omega) (by omega) (by omega) (by omega) (by omega)
    have u250c := xw_c (N := M240) (P := M247) 1 (FR.cell fM247 (by decide)) (by omega)
    have u250t := xw_t (M := M0) (N := M240) (P := M247) (r1 := 0) (e1 := 1) (s1 := (-1)) (r2 := 0) (e2 := 0) (s2 := 1) 0 1 0 (by decide) (by omega) (by omega)
    have u250a := ca_x (M := M0) (N := M247) (r := 0) (e := 1) (s := 0) (by decide) (by omega) (by omega)
    refine j_goto C 113 dX12_readAtom_21 (by decide) ?_
    have u251r := at_1 gf gn false (suR gf gn 1) gi (M0.1 98 11).toInt (M0.1 98 12).toInt (M0.1 98 6).toInt (M247.1 98 11).toInt (M247.1 98 12).toInt (M247.1 98 6).toInt (by omega) (by omega) (by omega) (by omega) (by omega) (by omega)
    exact hret _ _ _ dX12_readAtom_113 ⟨hM247, ((FR.rf.tr fM240 (by decide)).tr fM247 (by decide)), by omega⟩
set_option maxHeartbeats 4000000 in
theorem s3_X12_readTerm {l : Launch} {dC : Nat → ClassId} {dI : Nat → Nat → Nat} {ad : Nat → Nat} {cA : Nat → ClassId} {pr : Nat → Nat → Bool} {Kz : mm_M} {M0 : mm_M} (hM0 : INV pr Kz M0) (hpr : PM pr) (gf : Nat → Int) (gn : Int) (gi : Int) (hp0 : b01 (RIP M0) = 1) (hp1 : b01 (CA M0) = 1) (hp2 : b01 (TKM gf gn M0) = 1) (hp3 : b01 (PO gn gi (M0.1 98 11).toInt (M0.1 98 6).toInt) = 1) (hp4 : b01 (PI M0) = 1) : Cv l 14 yX12_readTerm wsX12_readTerm dC dI ad cA [.ref (ad 98), .int (sI 4)] M0 (fun M' => INV pr Kz M' ∧ FR [98, 102] M0 M' ∧ (b01 (RIP M') = 1) ∧ ((M'.1 98 8).toInt = (M0.1 98 8).toInt) ∧ ((M0.1 98 6).toInt ≤ (M'.1 98 6).toInt) ∧ (b01 (XW M0 M' 0 1 0) = 1) ∧ (b01 (CA M') = 1) ∧ (b01 (PI M') = 1) ∧ (b01 (TKM gf gn M') = 1) ∧ b01 (RR ((teP gf gn false (suR gf gn 1)) gi) (M0.1 98 11).toInt (M0.1 98 12).toInt (M'.1 98 11).toInt (M'.1 98 12).toInt (M'.1 98 6).toInt) = 1) := by
  refine cv_of (cc := cX12_readTerm) (maxL := 2) (lv := [(0, .ref (ad 98)), (1, .int (sI 4))]) (by decide) rfl (Nat.le_of_ble_eq_true rfl) rfl ?_
  intro p e s m args below meth c A Q C hret
  have u101z := xw_0 M0
  have u101l := ri_l (M := M0) (by omega)
  refine j_aload_n C 0 0 dX12_readTerm_0 rfl rfl ?_
  refine j_iload_n C 1 1 dX12_readTerm_1 rfl rfl ?_
  refine j_callVv C (d := 13) (As := [.int (sI 4)]) (st := []) 98 (s_lt rfl rfl) (s_kc (c := 11) rfl rfl) (by decide) rfl (s3_X12_readAtom hM0 hpr gf gn gi (by omega) (by omega) (by omega) (by omega) (by omega)) gX12_readTerm_X12_readAtom rfl hdX12_readAtom (by decide) (Nat.le_of_ble_eq_true rfl) dX12_readTerm_2 rfl (fun M103 h104 => ?_)
  obtain ⟨hM103, fM103, h105⟩ := h104
  have bM103 := tkm_b (f := gf) (n := gn) (M := M103) (by omega)
  have qM103 := po_rr (atP gf gn false (suR gf gn 1)) gn gi (M0.1 98 11).toInt (M0.1 98 12).toInt (M0.1 98 6).toInt (M103.1 98 11).toInt (M103.1 98 12).toInt (M103.1 98 6).toInt (at_g gf gn (fun _ => suR_g gf gn 1)) (by omega) (by omega)
  have u106l := ri_l (M := M103) (by omega)
  have u106L := ll_0 (luP gf gn 2042 2042 (atP gf gn false (suR gf gn 1))) gn ((atP gf gn false (suR gf gn 1)) gi).2.2 (M103.1 98 11).toInt (M103.1 98 12).toInt (M103.1 98 6).toInt (by omega)
  have L132 : ∀ (n130 : Nat), ∀ (M133 : mm_M) (gq134 : Int), ((b01 (RIP M133) = 1) ∧ ((M133.1 98 8).toInt = (M0.1 98 8).toInt) ∧ ((M0.1 98 6).toInt ≤ (M133.1 98 6).toInt) ∧ (b01 (XW M0 M133 0 1 0) = 1) ∧ ((M133.1 98 6).toInt ≤ 900) ∧ (b01 (LL (luP gf gn 2042 2042 (atP gf gn false (suR gf gn 1))) gn ((atP gf gn false (suR gf gn 1)) gi).2.2 gq134 0 (M103.1 98 11).toInt (M103.1 98 12).toInt (M133.1 98 11).toInt (M133.1 98 12).toInt (M133.1 98 6).toInt) = 1) ∧ (b01 (TKM gf gn M133) = 1) ∧ (b01 (PO gn gq134 (M133.1 98 11).toInt (M133.1 98 6).toInt) = 1) ∧ (b01 (PI M133) = 1) ∧ (900 - (M133.1 98 6).toInt) < (n130 : Int)) → INV pr Kz M133 → FR [98, 102] M0 M133 → jj p l e (cn_R 14) s m args below meth c 0 0 Q 2 dC dI ad cA A M133 5 [(0, .ref (ad 98)), (1, .int (sI 4))] [] := by
    intro n130
    induction n130 with
    | zero =>
      intro M133 gq134 h135 hM133 fM133
      exfalso; omega
    | succ n130 ih131 =>
      intro M133 gq134 h135 hM133 fM133
      have u136l := ri_l (M := M133) (by omega)
      have u136B := tkm_b (f := gf) (n := gn) (M := M133) (by omega)
      refine j_aload_n C 0 0 dX12_readTerm_5 rfl rfl ?_
      refine y_bipush C dX12_readTerm_6 rfl ?_
      have k137 := tkm_K (f := gf) (n := gn) (M := M133) (by omega)
      have k138 := kd_2 (kdk_34 gf gn (M133.1 98 6).toInt) (by omega)
      refine j_callVi C (d := 6) (As := [.int (sI 34)]) (st := []) 98 (s_lt rfl rfl) (s_kc (c := 11) rfl rfl) (by decide) rfl (s1_X12_eats hM133 hpr 34 (by omega) gf gn gq134 (by omega) (by omega) (by omega) (by omega) (by omega)) gX12_readTerm_X12_eats rfl hdX12_eats (by decide) (Nat.le_of_ble_eq_true rfl) dX12_readTerm_8 rfl (fun r139 M140 h141 => ?_)
      obtain ⟨a143, rfl, hM140, fM140, h142⟩ := h141
      have k144 := tk_c gf gn (M140.1 98 6).toInt (M133.1 98 6).toInt
      have bM140 := tkm_b (f := gf) (n := gn) (M := M140) (by omega)
      refine y_if_eq C 29 dX12_readTerm_11 (by decide) (by omega) (fun h145 => ?_) (fun h145 => ?_)
      · have u157c := xw_c (N := M133) (P := M140) 0 (FR.cell fM140 (by decide)) (by omega)
        have u157t := xw_t (M := M0) (N := M133) (P := M140) (r1 := 0) (e1 := 1) (s1 := 0) (r2 := 0) (e2 := 0) (s2 := 0) 0 1 0 (by decide) (by omega) (by omega)
        have u157a := ca_x (M := M0) (N := M140) (r := 0) (e := 1) (s := 0) (by decide) (by omega) (by omega)
        have u157E := ll_e gf gn 2042 2042 (atP gf gn false (suR gf gn 1)) ((atP gf gn false (suR gf gn 1)) gi).2.2 gq134 0 (M103.1 98 11).toInt (M103.1 98 12).toInt (M133.1 98 11).toInt (M133.1 98 12).toInt (M133.1 98 6).toInt (by decide) (at_g gf gn (fun _ => suR_g gf gn 1)) (by omega) (by omega)
        have u157S : b01 (RR ((teP gf gn false (suR gf gn 1)) gi) (M0.1 98 11).toInt (M0.1 98 12).toInt (M133.1 98 11).toInt (M133.1 98 12).toInt (M133.1 98 6).toInt) = 1 := rr_sq ((atP gf gn false (suR gf gn 1)) gi) (luP gf gn 2042 2042 (atP gf gn false (suR gf gn 1))) (M0.1 98 11).toInt (M0.1 98 12).toInt (M103.1 98 11).toInt (M103.1 98 12).toInt (M103.1 98 6).toInt (M133.1 98 11).toInt (M133.1 98 12).toInt (M133.1 98 6).toInt (by omega) (by omega)
        have u157R := rr_eq ((teP gf gn false (suR gf gn 1)) gi) (M0.1 98 11).toInt (M0.1 98 12).toInt (M133.1 98 11).toInt (M133.1 98 12).toInt (M133.1 98 6).toInt (M140.1 98 11).toInt (M140.1 98 12).toInt (M140.1 98 6).toInt (by omega) (by omega) (by omega) (by omega)
        exact hret _ _ _ dX12_readTerm_29 ⟨hM140, ((FR.rf.tr fM133 (by decide)).tr fM140 (by decide)), by omega⟩
      · have u146c := xw_c (N := M133) (P := M140) 1 (FR.cell fM140 (by decide)) (by omega)
        have u146t := xw_t (M := M0) (N := M133) (P := M140) (r1 := 0) (e1 := 1) (s1 := 0) (r2 := 0) (e2 := 0) (s2 := 1) 0 1 1 (by decide) (by omega) (by omega)
        have u146a := ca_x (M := M0) (N := M140) (r := 0) (e := 1) (s := 1) (by decide) (by omega) (by omega)
        have u146l := ri_l (M := M140) (by omega)
        refine j_aload_n C 0 0 dX12_readTerm_14 rfl rfl ?_
        refine j_iload_n C 1 1 dX12_readTerm_15 rfl rfl ?_
        refine j_callVv C (d := 13) (As := [.int (sI 4)]) (st := []) 98 (s_lt rfl rfl) (s_kc (c := 11) rfl rfl) (by decide) rfl (s3_X12_readAtom hM140 hpr gf gn (nxF gf gn gq134) (by omega) (by omega) (by omega) (by omega) (by omega)) gX12_readTerm_X12_readAtom rfl hdX12_readAtom (by decide) (Nat.le_of_ble_eq_true rfl) dX12_readTerm_16 rfl (fun M148 h149 => ?_)
        obtain ⟨hM148, fM148, h150⟩ := h149
        have bM148 := tkm_b (f := gf) (n := gn) (M := M148) (by omega)
        have qM148 := po_rr (atP gf gn false (suR gf gn 1)) gn (nxF gf gn gq134) (M140.1 98 11).toInt (M140.1 98 12).toInt (M140.1 98 6).toInt (M148.1 98 11).toInt (M148.1 98 12).toInt (M148.1 98 6).toInt (at_g gf gn (fun _ => suR_g gf gn 1)) (by omega) (by omega)
        have u151t := xw_t (M := M0) (N := M140) (P := M148) (r1 := 0) (e1 := 1) (s1 := 1) (r2 := 0) (e2 := 1) (s2 := 0) 0 2 1 (by decide) (by omega) (by omega)
        have u151l := ri_l (M := M148) (by omega)
        have u151b := cb_x (M := M0) (N := M148) (r := 0) (e := 2) (s := 1) (by decide) (by omega) (by omega) (by omega)
        refine j_aload_n C 0 0 dX12_readTerm_19 rfl rfl ?_
        refine y_sipush C dX12_readTerm_20 rfl ?_
        refine j_callVv C (d := 0) (As := [.int (sI 3002)]) (st := []) 98 (s_lt rfl rfl) (s_kc (c := 11) rfl rfl) (by decide) rfl (s1_X12_codes hM148 hpr 3002 (by omega) gf gn ((atP gf gn false (suR gf gn 1)) (nxF gf gn gq134)).2.2 (by omega) (by omega) (by omega) (by omega)) gX12_readTerm_X12_codes rfl hdX12_codes (by decide) (Nat.le_of_ble_eq_true rfl) dX12_readTerm_23 rfl (fun M153 h154 => ?_)
        obtain ⟨hM153, fM153, h155⟩ := h154
        have bM153 := tkm_b (f := gf) (n := gn) (M := M153) (by omega)
        have qM153 := po_eq gn ((atP gf gn false (suR gf gn 1)) (nxF gf gn gq134)).2.2 (M148.1 98 11).toInt (M148.1 98 6).toInt (M153.1 98 11).toInt (M153.1 98 6).toInt (by omega) (by omega) (by omega)
        refine j_goto C 5 dX12_readTerm_26 (by decide) ?_
        have u156x := xw_a (M := M148) (N := M153) (c := 3002) (r := 2) (e := (-1)) (FR.cell fM153 (by decide)) (ap_bin ⟨(INV.rd hM148 (i := 102) (c := 48) (k := 280) rfl rfl).1, by omega, by omega⟩) (by omega)
        have u156t := xw_t (M := M0) (N := M148) (P := M153) (r1 := 0) (e1 := 2) (s1 := 1) (r2 := 2) (e2 := (-1)) (s2 := (-1)) 0 1 0 (by decide) (by omega) (by omega)
        have u156i := ri_c (M := M148) (N := M153) (FR.cell fM153 (by decide)) (by omega)
        have u156l := ri_l (M := M153) (by omega)
        have u156L := ll_w (luP gf gn 2042 2042 (atP gf gn false (suR gf gn 1))) gn ((atP gf gn false (suR gf gn 1)) gi).2.2 ((atP gf gn false (suR gf gn 1)) (nxF gf gn gq134)).2.2 (0 + 1) 0 (M103.1 98 11).toInt (M103.1 98 12).toInt (M153.1 98 11).toInt (M153.1 98 12).toInt (M153.1 98 6).toInt (by decide) (ll_s gf gn 2042 2042 (atP gf gn false (suR gf gn 1)) ((atP gf gn false (suR gf gn 1)) gi).2.2 gq134 0 (M103.1 98 11).toInt (M103.1 98 12).toInt (M133.1 98 11).toInt (M133.1 98 12).toInt (M133.1 98 6).toInt (M140.1 98 11).toInt (M140.1 98 12).toInt (M148.1 98 11).toInt (M148.1 98 12).toInt (M148.1 98 6).toInt (M153.1 98 11).toInt (M153.1 98 12).toInt (M153.1 98 6).toInt (by decide) (at_g gf gn (fun _ => suR_g gf gn 1)) (by omega) (by omega) (by omega) (by omega) (by omega) (by omega) (by omega) (by omega) (by omega))
        have zz98_8 : (M153.1 98 8).toInt = (M148.1 98 8).toInt := s_fF fM153 (by decide) (rfl); have zz98_6 : (M153.1 98 6).toInt = (M148.1 98 6).toInt := s_fF fM153 (by decide) (rfl); have zz98_12 : (M153.1 98 12).toInt = (M148.1 98 12).toInt := s_fF fM153 (by decide) (rfl); have zz98_11 : (M153.1 98 11).toInt = (M148.1 98 11).toInt := s_fF fM153 (by decide) (rfl); exact ih131 M153 ((atP gf gn false (suR gf gn 1)) (nxF gf gn gq134)).2.2 (by omega) hM153 ((((FR.rf.tr fM133 (by decide)).tr fM140 (by decide)).tr fM148 (by decide)).tr fM153 (by decide))
  exact L132 2010 M103 ((atP gf gn false (suR gf gn 1)) gi).2.2 (by omega) hM103 (FR.rf.tr fM103 (by decide))
set_option maxHeartbeats 4000000 in
theorem s3_X12_readSum {l : Launch} {dC : Nat → ClassId} {dI : Nat → Nat → Nat} {ad : Nat → Nat} {cA : Nat → ClassId} {pr : Nat → Nat → Bool} {Kz : mm_M} {M0 : mm_M} (hM0 : INV pr Kz M0) (hpr : PM pr) (gf : Nat → Int) (gn : Int) (gi : Int) (hp0 : b01 (RIP M0) = 1) (hp1 : b01 (CA M0) = 1) (hp2 : b01 (TKM gf gn M0) = 1) (hp3 : b01 (PO gn gi (M0.1 98 11).toInt (M0.1 98 6).toInt) = 1) (hp4 : b01 (PI M0) = 1) : Cv l 15 yX12_readSum wsX12_readSum dC dI ad cA [.ref (ad 98), .int (sI 4)] M0 (fun M' => INV pr Kz M' ∧ FR [98, 102] M0 M' ∧ (b01 (RIP M') = 1) ∧ ((M'.1 98 8).toInt = (M0.1 98 8).toInt) ∧ ((M0.1 98 6).toInt ≤ (M'.1 98 6).toInt) ∧ (b01 (XW M0 M' 0 1 0) = 1) ∧ (b01 (CA M') = 1) ∧ (b01 (PI M') = 1) ∧ (b01 (TKM gf gn M') = 1) ∧ b01 (RR ((suR gf gn 2) gi) (M0.1 98 11).toInt (M0.1 98 12).toInt (M'.1 98 11).toInt (M'.1 98 12).toInt (M'.1 98 6).toInt) = 1) := by
  refine cv_of (cc := cX12_readSum) (maxL := 3) (lv := [(0, .ref (ad 98)), (1, .int (sI 4))]) (by decide) rfl (Nat.le_of_ble_eq_true rfl) rfl ?_
  intro p e s m args below meth c A Q C hret
  have u101z := xw_0 M0
  have u101l := ri_l (M := M0) (by omega)
  refine j_aload_n C 0 0 dX12_readSum_0 rfl rfl ?_
  refine j_iload_n C 1 1 dX12_readSum_1 rfl rfl ?_
  refine j_callVv C (d := 14) (As := [.int (sI 4)]) (st := []) 98 (s_lt rfl rfl) (s_kc (c := 11) rfl rfl) (by decide) rfl (s3_X12_readTerm hM0 hpr gf gn gi (by omega) (by omega) (by omega) (by omega) (by omega)) gX12_readSum_X12_readTerm rfl hdX12_readTerm (by decide) (Nat.le_of_ble_eq_true rfl) dX12_readSum_2 rfl (fun M103 h104 => ?_)
  obtain ⟨hM103, fM103, h105⟩ := h104
  have bM103 := tkm_b (f := gf) (n := gn) (M := M103) (by omega)
  have qM103 := po_rr (teP gf gn false (suR gf gn 1)) gn gi (M0.1 98 11).toInt (M0.1 98 12).toInt (M0.1 98 6).toInt (M103.1 98 11).toInt (M103.1 98 12).toInt (M103.1 98 6).toInt (te_g gf gn (fun _ => suR_g gf gn 1)) (by omega) (by omega)
  have u106l := ri_l (M := M103) (by omega)
  have u106L := ll_0 (luP gf gn 2043 2045 (teP gf gn false (suR gf gn 1))) gn ((teP gf gn false (suR gf gn 1)) gi).2.2 (M103.1 98 11).toInt (M103.1 98 12).toInt (M103.1 98 6).toInt (by omega)
  have L176 : ∀ (n174 : Nat), ∀ (M177 : mm_M) (gq178 : Int), ((b01 (RIP M177) = 1) ∧ ((M177.1 98 8).toInt = (M0.1 98 8).toInt) ∧ ((M0.1 98 6).toInt ≤ (M177.1 98 6).toInt) ∧ (b01 (XW M0 M177 0 1 0) = 1) ∧ ((M177.1 98 6).toInt ≤ 900) ∧ (b01 (LL (luP gf gn 2043 2045 (teP gf gn false (suR gf gn 1))) gn ((teP gf gn false (suR gf gn 1)) gi).2.2 gq178 0 (M103.1 98 11).toInt (M103.1 98 12).toInt (M177.1 98 11).toInt (M177.1 98 12).toInt (M177.1 98 6).toInt) = 1) ∧ (b01 (TKM gf gn M177) = 1) ∧ (b01 (PO gn gq178 (M177.1 98 11).toInt (M177.1 98 6).toInt) = 1) ∧ (b01 (PI M177) = 1) ∧ (900 - (M177.1 98 6).toInt) < (n174 : Int)) → INV pr Kz M177 → FR [98, 102] M0 M177 → jj p l e (cn_R 15) s m args below meth c 0 0 Q 3 dC dI ad cA A M177 5 [(0, .ref (ad 98)), (1, .int (sI 4))] [] := by
    intro n174
    induction n174 with
    | zero =>
      intro M177 gq178 h179 hM177 fM177
      exfalso; omega
    | succ n174 ih175 =>
      intro M177 gq178 h179 hM177 fM177
      have u180l := ri_l (M := M177) (by omega)
      have u180B := tkm_b (f := gf) (n := gn) (M := M177) (by omega)
      refine j_aload_n C 0 0 dX12_readSum_5 rfl rfl ?_
      refine y_bipush C dX12_readSum_6 rfl ?_
      have k181 := tkm_K (f := gf) (n := gn) (M := M177) (by omega)
      have k182 := kd_2 (kdk_32 gf gn (M177.1 98 6).toInt) (by omega)
      refine j_callVi C (d := 0) (As := [.int (sI 32)]) (st := []) 98 (s_lt rfl rfl) (s_kc (c := 11) rfl rfl) (by decide) rfl (s1_X12_is hM177 32 (by omega)) gX12_readSum_X12_is rfl hdX12_is (by decide) (Nat.le_of_ble_eq_true rfl) dX12_readSum_8 rfl (fun r183 M184 h185 => ?_)
      obtain ⟨a187, rfl, rfl, h186⟩ := h185
      refine y_if_ne C 23 dX12_readSum_11 (by decide) (by omega) (fun h188 => ?_) (fun h188 => ?_)
      · refine j_aload_n C 0 0 dX12_readSum_23 rfl rfl ?_
        refine y_getI C 11 _ _ fX12_readSum_108 rfl rfl ft_11_9 sb_11_9 hM177 dX12_readSum_24 (fun a189 ea189 la189 ua189 => ?_)
        obtain rfl : a189 = (M177.1 98 9).toInt := ea189
        refine y_bipush C dX12_readSum_27 rfl ?_
        have J193 : ∀ (a192 : Int), (3000 ≤ a192 ∧ a192 ≤ 3001) → jj p l e (cn_R 15) s m args below meth c 0 0 Q 3 dC dI ad cA A M177 41 [(0, .ref (ad 98)), (1, .int (sI 4))] [.int (sI a192)] := by
          intro a192 h194
          refine j_istore_n C 2 [(2, .int (sI a192)), (0, .ref (ad 98)), (1, .int (sI 4))] dX12_readSum_41 rfl (by decide) rfl ?_
          have u195k := ri_k (M := M177) (by omega) (by omega)
          refine j_aload_n C 1 0 dX12_readSum_42 rfl rfl ?_
          have k196 := tkm_p (f := gf) (n := gn) (M := M177) (by omega)
          have k197 := tkm_K (f := gf) (n := gn) (M := M177) (by omega)
          refine j_callVv C (d := 5) (As := []) (st := []) 98 (s_lt rfl rfl) (s_kc (c := 11) rfl rfl) (by decide) rfl (s1_X12_next hM177 hpr gf gn (by omega) (by omega) (by omega) (by omega)) gX12_readSum_X12_next rfl hdX12_next (by decide) (Nat.le_of_ble_eq_true rfl) dX12_readSum_43 rfl (fun M199 h200 => ?_)
          obtain ⟨hM199, fM199, h201⟩ := h200
          have bM199 := tkm_b (f := gf) (n := gn) (M := M199) (by omega)
          have qM199 := nx_po (f := gf) (n := gn) (i := gq178) (M := M177) (M' := M199) (by omega) (by omega) (by omega) (by omega) (by omega)
          have u202c := xw_c (N := M177) (P := M199) 1 (FR.cell fM199 (by decide)) (by omega)
          have u202t := xw_t (M := M0) (N := M177) (P := M199) (r1 := 0) (e1 := 1) (s1 := 0) (r2 := 0) (e2 := 0) (s2 := 1) 0 1 1 (by decide) (by omega) (by omega)
          have u202a := ca_x (M := M0) (N := M199) (r := 0) (e := 1) (s := 1) (by decide) (by omega) (by omega)
          have u202l := ri_l (M := M199) (by omega)
          refine j_aload_n C 1 0 dX12_readSum_46 rfl rfl ?_
          refine j_iload_n C 2 1 dX12_readSum_47 rfl rfl ?_
          refine j_callVv C (d := 14) (As := [.int (sI 4)]) (st := []) 98 (s_lt rfl rfl) (s_kc (c := 11) rfl rfl) (by decide) rfl (s3_X12_readTerm hM199 hpr gf gn (nxF gf gn gq178) (by omega) (by omega) (by omega) (by omega) (by omega)) gX12_readSum_X12_readTerm rfl hdX12_readTerm (by decide) (Nat.le_of_ble_eq_true rfl) dX12_readSum_48 rfl (fun M204 h205 => ?_)
          obtain ⟨hM204, fM204, h206⟩ := h205
          have bM204 := tkm_b (f := gf) (n := gn) (M := M204) (by omega)
          have qM204 := po_rr (teP gf gn false (suR gf gn 1)) gn (nxF gf gn gq178) (M199.1 98 11).toInt (M199.1 98 12).toInt (M199.1 98 6).toInt (M204.1 98 11).toInt (M204.1 98 12).toInt (M204.1 98 6).toInt (te_g gf gn (fun _ => suR_g gf gn 1)) (by omega) (by omega)
          have u207t := xw_t (M := M0) (N := M199) (P := M204) (r1 := 0) (e1 := 1) (s1 := 1) (r2 := 0) (e2 := 1) (s2 := 0) 0 2 1 (by decide) (by omega) (by omega)
          have u207l := ri_l (M := M204) (by omega)
          have u207b := cb_x (M := M0) (N := M204) (r := 0) (e := 2) (s := 1) (by decide) (by omega) (by omega) (by omega)
          refine j_aload_n C 1 0 dX12_readSum_51 rfl rfl ?_
          refine j_iload_n C 0 2 dX12_readSum_52 rfl rfl ?_
          refine j_callVv C (d := 0) (As := [.int (sI a192)]) (st := []) 98 (s_lt rfl rfl) (s_kc (c := 11) rfl rfl) (by decide) rfl (s1_X12_codes hM204 hpr a192 (by omega) gf gn ((teP gf gn false (suR gf gn 1)) (nxF gf gn gq178)).2.2 (by omega) (by omega) (by omega) (by omega)) gX12_readSum_X12_codes rfl hdX12_codes (by decide) (Nat.le_of_ble_eq_true rfl) dX12_readSum_53 rfl (fun M209 h210 => ?_)
          obtain ⟨hM209, fM209, h211⟩ := h210
          have bM209 := tkm_b (f := gf) (n := gn) (M := M209) (by omega)
          have qM209 := po_eq gn ((teP gf gn false (suR gf gn 1)) (nxF gf gn gq178)).2.2 (M204.1 98 11).toInt (M204.1 98 6).toInt (M209.1 98 11).toInt (M209.1 98 6).toInt (by omega) (by omega) (by omega)
          refine j_goto C 5 dX12_readSum_56 (by decide) ?_
          have u212x := xw_a (M := M204) (N := M209) (c := a192) (r := 2) (e := (-1)) (FR.cell fM209 (by decide)) (ap_bin ⟨(INV.rd hM204 (i := 102) (c := 48) (k := 280) rfl rfl).1, by omega, by omega⟩) (by omega)
          have u212t := xw_t (M := M0) (N := M204) (P := M209) (r1 := 0) (e1 := 2) (s1 := 1) (r2 := 2) (e2 := (-1)) (s2 := (-1)) 0 1 0 (by decide) (by omega) (by omega)
          have u212i := ri_c (M := M204) (N := M209) (FR.cell fM209 (by decide)) (by omega)
          have u212l := ri_l (M := M209) (by omega)
          have u212L := ll_w (luP gf gn 2043 2045 (teP gf gn false (suR gf gn 1))) gn ((teP gf gn false (suR gf gn 1)) gi).2.2 ((teP gf gn false (suR gf gn 1)) (nxF gf gn gq178)).2.2 (0 + 1) 0 (M103.1 98 11).toInt (M103.1 98 12).toInt (M209.1 98 11).toInt (M209.1 98 12).toInt (M209.1 98 6).toInt (by decide) (ll_s gf gn 2043 2045 (teP gf gn false (suR gf gn 1)) ((teP gf gn false (suR gf gn 1)) gi).2.2 gq178 0 (M103.1 98 11).toInt (M103.1 98 12).toInt (M177.1 98 11).toInt (M177.1 98 12).toInt (M177.1 98 6).toInt (M199.1 98 11).toInt (M199.1 98 12).toInt (M204.1 98 11).toInt (M204.1 98 12).toInt (M204.1 98 6).toInt (M209.1 98 11).toInt (M209.1 98 12).toInt (M209.1 98 6).toInt (by decide) (te_g gf gn (fun _ => suR_g gf gn 1)) (by omega) (by omega) (by omega) (by omega) (by omega) (by omega) (by omega) (by omega) (by omega))
          have zz98_8 : (M209.1 98 8).toInt = (M204.1 98 8).toInt := s_fF fM209 (by decide) (rfl); have zz98_6 : (M209.1 98 6).toInt = (M204.1 98 6).toInt := s_fF fM209 (by decide) (rfl); have zz98_12 : (M209.1 98 12).toInt = (M204.1 98 12).toInt := s_fF fM209 (by decide) (rfl); have zz98_11 : (M209.1 98 11).toInt = (M204.1 98 11).toInt := s_fF fM209 (by decide) (rfl); refine j_lv [1, 2] rfl ?_; exact ih175 M209 ((teP gf gn false (suR gf gn 1)) (nxF gf gn gq178)).2.2 (by omega) hM209 ((((FR.rf.tr fM177 (by decide)).tr fM199 (by decide)).tr fM204 (by decide)).tr fM209 (by decide))
        refine y_icmp_ne C 38 dX12_readSum_29 (by decide) (by omega) (fun h191 => ?_) (fun h191 => ?_)
        · refine y_sipush C dX12_readSum_38 rfl ?_
          exact J193 3001 (by omega)
        · refine y_sipush C dX12_readSum_32 rfl ?_
          refine j_goto C 41 dX12_readSum_35 (by decide) ?_
          exact J193 3000 (by omega)
      · refine j_aload_n C 0 0 dX12_readSum_14 rfl rfl ?_
        refine y_bipush C dX12_readSum_15 rfl ?_
        have k213 := tkm_K (f := gf) (n := gn) (M := M177) (by omega)
        have k214 := kd_2 (kdk_33 gf gn (M177.1 98 6).toInt) (by omega)
        refine j_callVi C (d := 0) (As := [.int (sI 33)]) (st := []) 98 (s_lt rfl rfl) (s_kc (c := 11) rfl rfl) (by decide) rfl (s1_X12_is hM177 33 (by omega)) gX12_readSum_X12_is rfl hdX12_is (by decide) (Nat.le_of_ble_eq_true rfl) dX12_readSum_17 rfl (fun r215 M216 h217 => ?_)
        obtain ⟨a219, rfl, rfl, h218⟩ := h217
        refine y_if_eq C 59 dX12_readSum_20 (by decide) (by omega) (fun h220 => ?_) (fun h220 => ?_)
        · have u245a := ca_x (M := M0) (N := M177) (r := 0) (e := 1) (s := 0) (by decide) (by omega) (by omega)
          have u245E := ll_e gf gn 2043 2045 (teP gf gn false (suR gf gn 1)) ((teP gf gn false (suR gf gn 1)) gi).2.2 gq178 0 (M103.1 98 11).toInt (M103.1 98 12).toInt (M177.1 98 11).toInt (M177.1 98 12).toInt (M177.1 98 6).toInt (by decide) (te_g gf gn (fun _ => suR_g gf gn 1)) (by omega) (by omega)
          have u245S : b01 (RR ((suR gf gn 2) gi) (M0.1 98 11).toInt (M0.1 98 12).toInt (M177.1 98 11).toInt (M177.1 98 12).toInt (M177.1 98 6).toInt) = 1 := by rw [su_q gf gn 1 2 rfl]; exact rr_sq ((teP gf gn false (suR gf gn 1)) gi) (luP gf gn 2043 2045 (teP gf gn false (suR gf gn 1))) (M0.1 98 11).toInt (M0.1 98 12).toInt (M103.1 98 11).toInt (M103.1 98 12).toInt (M103.1 98 6).toInt (M177.1 98 11).toInt (M177.1 98 12).toInt (M177.1 98 6).toInt (by omega) (by omega)
          exact hret _ _ _ dX12_readSum_59 ⟨hM177, (FR.rf.tr fM177 (by decide)), by omega⟩
        · refine j_aload_n C 0 0 dX12_readSum_23 rfl rfl ?_
          refine y_getI C 11 _ _ fX12_readSum_108 rfl rfl ft_11_9 sb_11_9 hM177 dX12_readSum_24 (fun a221 ea221 la221 ua221 => ?_)
          obtain rfl : a221 = (M177.1 98 9).toInt := ea221
          refine y_bipush C dX12_readSum_27 rfl ?_
          have J225 : ∀ (a224 : Int), (3000 ≤ a224 ∧ a224 ≤ 3001) → jj p l e (cn_R 15) s m args below meth c 0 0 Q 3 dC dI ad cA A M177 41 [(0, .ref (ad 98)), (1, .int (sI 4))] [.int (sI a224)] := by
            intro a224 h226
            refine j_istore_n C 2 [(2, .int (sI a224)), (0, .ref (ad 98)), (1, .int (sI 4))] dX12_readSum_41 rfl (by decide) rfl ?_
            have u227k := ri_k (M := M177) (by omega) (by omega)
            refine j_aload_n C 1 0 dX12_readSum_42 rfl rfl ?_
            have k228 := tkm_p (f := gf) (n := gn) (M := M177) (by omega)
            have k229 := tkm_K (f := gf) (n := gn) (M := M177) (by omega)
            refine j_callVv C (d := 5) (As := []) (st := []) 98 (s_lt rfl rfl) (s_kc (c := 11) rfl rfl) (by decide) rfl (s1_X12_next hM177 hpr gf gn (by omega) (by omega) (by omega) (by omega)) gX12_readSum_X12_next rfl hdX12_next (by decide) (Nat.le_of_ble_eq_true rfl) dX12_readSum_43 rfl (fun M231 h232 => ?_)
            obtain ⟨hM231, fM231, h233⟩ := h232
            have bM231 := tkm_b (f := gf) (n := gn) (M := M231) (by omega)
            have qM231 := nx_po (f := gf) (n := gn) (i := gq178) (M := M177) (M' := M231) (by omega) (by omega) (by omega) (by omega) (by omega)
            have u234c := xw_c (N := M177) (P := M231) 1 (FR.cell fM231 (by decide)) (by omega)
            have u234t := xw_t (M := M0) (N := M177) (P := M231) (r1 := 0) (e1 := 1) (s1 := 0) (r2 := 0) (e2 := 0) (s2 := 1) 0 1 1 (by decide) (by omega) (by omega)
            have u234a := ca_x (M := M0) (N := M231) (r := 0) (e := 1) (s := 1) (by decide) (by omega) (by omega)
            have u234l := ri_l (M := M231) (by omega)
            refine j_aload_n C 1 0 dX12_readSum_46 rfl rfl ?_
            refine j_iload_n C 2 1 dX12_readSum_47 rfl rfl ?_
            refine j_callVv C (d := 14) (As := [.int (sI 4)]) (st := []) 98 (s_lt rfl rfl) (s_kc (c := 11) rfl rfl) (by decide) rfl (s3_X12_readTerm hM231 hpr gf gn (nxF gf gn gq178) (by omega) (by omega) (by omega) (by omega) (by omega)) gX12_readSum_X12_readTerm rfl hdX12_readTerm (by decide) (Nat.le_of_ble_eq_true rfl) dX12_readSum_48 rfl (fun M236 h237 => ?_)
            obtain ⟨hM236, fM236, h238⟩ := h237
            have bM236 := tkm_b (f := gf) (n := gn) (M := M236) (by omega)
            have qM236 := po_rr (teP gf gn false (suR gf gn 1)) gn (nxF gf gn gq178) (M231.1 98 11).toInt (M231.1 98 12).toInt (M231.1 98 6).toInt (M236.1 98 11).toInt (M236.1 98 12).toInt (M236.1 98 6).toInt (te_g gf gn (fun _ => suR_g gf gn 1)) (by omega) (by omega)
            have u239t := xw_t (M := M0) (N := M231) (P := M236) (r1 := 0) (e1 := 1) (s1 := 1) (r2 := 0) (e2 := 1) (s2 := 0) 0 2 1 (by decide) (by omega) (by omega)
            have u239l := ri_l (M := M236) (by omega)
            have u239b := cb_x (M := M0) (N := M236) (r := 0) (e := 2) (s := 1) (by decide) (by omega) (by omega) (by omega)
            refine j_aload_n C 1 0 dX12_readSum_51 rfl rfl ?_
            refine j_iload_n C 0 2 dX12_readSum_52 rfl rfl ?_
            refine j_callVv C (d := 0) (As := [.int (sI a224)]) (st := []) 98 (s_lt rfl rfl) (s_kc (c := 11) rfl rfl) (by decide) rfl (s1_X12_codes hM236 hpr a224 (by omega) gf gn ((teP gf gn false (suR gf gn 1)) (nxF gf gn gq178)).2.2 (by omega) (by omega) (by omega) (by omega)) gX12_readSum_X12_codes rfl hdX12_codes (by decide) (Nat.le_of_ble_eq_true rfl) dX12_readSum_53 rfl (fun M241 h242 => ?_)
            obtain ⟨hM241, fM241, h243⟩ := h242
            have bM241 := tkm_b (f := gf) (n := gn) (M := M241) (by omega)
            have qM241 := po_eq gn ((teP gf gn false (suR gf gn 1)) (nxF gf gn gq178)).2.2 (M236.1 98 11).toInt (M236.1 98 6).toInt (M241.1 98 11).toInt (M241.1 98 6).toInt (by omega) (by omega) (by omega)
            refine j_goto C 5 dX12_readSum_56 (by decide) ?_
            have u244x := xw_a (M := M236) (N := M241) (c := a224) (r := 2) (e := (-1)) (FR.cell fM241 (by decide)) (ap_bin ⟨(INV.rd hM236 (i := 102) (c := 48) (k := 280) rfl rfl).1, by omega, by omega⟩) (by omega)
            have u244t := xw_t (M := M0) (N := M236) (P := M241) (r1 := 0) (e1 := 2) (s1 := 1) (r2 := 2) (e2 := (-1)) (s2 := (-1)) 0 1 0 (by decide) (by omega) (by omega)
            have u244i := ri_c (M := M236) (N := M241) (FR.cell fM241 (by decide)) (by omega)
            have u244l := ri_l (M := M241) (by omega)
            have u244L := ll_w (luP gf gn 2043 2045 (teP gf gn false (suR gf gn 1))) gn ((teP gf gn false (suR gf gn 1)) gi).2.2 ((teP gf gn false (suR gf gn 1)) (nxF gf gn gq178)).2.2 (0 + 1) 0 (M103.1 98 11).toInt (M103.1 98 12).toInt (M241.1 98 11).toInt (M241.1 98 12).toInt (M241.1 98 6).toInt (by decide) (ll_s gf gn 2043 2045 (teP gf gn false (suR gf gn 1)) ((teP gf gn false (suR gf gn 1)) gi).2.2 gq178 0 (M103.1 98 11).toInt (M103.1 98 12).toInt (M177.1 98 11).toInt (M177.1 98 12).toInt (M177.1 98 6).toInt (M231.1 98 11).toInt (M231.1 98 12).toInt (M236.1 98 11).toInt (M236.1 98 12).toInt (M236.1 98 6).toInt (M241.1 98 11).toInt (M241.1 98 12).toInt (M241.1 98 6).toInt (by decide) (te_g gf gn (fun _ => suR_g gf gn 1)) (by omega) (by omega) (by omega) (by omega) (by omega) (by omega) (by omega) (by omega) (by omega))
            have zz98_8 : (M241.1 98 8).toInt = (M236.1 98 8).toInt := s_fF fM241 (by decide) (rfl); have zz98_6 : (M241.1 98 6).toInt = (M236.1 98 6).toInt := s_fF fM241 (by decide) (rfl); have zz98_12 : (M241.1 98 12).toInt = (M236.1 98 12).toInt := s_fF fM241 (by decide) (rfl); have zz98_11 : (M241.1 98 11).toInt = (M236.1 98 11).toInt := s_fF fM241 (by decide) (rfl); refine j_lv [1, 2] rfl ?_; exact ih175 M241 ((teP gf gn false (suR gf gn 1)) (nxF gf gn gq178)).2.2 (by omega) hM241 ((((FR.rf.tr fM177 (by decide)).tr fM231 (by decide)).tr fM236 (by decide)).tr fM241 (by decide))
          refine y_icmp_ne C 38 dX12_readSum_29 (by decide) (by omega) (fun h223 => ?_) (fun h223 => ?_)
          · refine y_sipush C dX12_readSum_38 rfl ?_
            exact J225 3001 (by omega)
          · refine y_sipush C dX12_readSum_32 rfl ?_
            refine j_goto C 41 dX12_readSum_35 (by decide) ?_
            exact J225 3000 (by omega)
  exact L176 2010 M103 ((teP gf gn false (suR gf gn 1)) gi).2.2 (by omega) hM103 (FR.rf.tr fM103 (by decide))
set_option maxHeartbeats 4000000 in
theorem s4_X12_readAtom {l : Launch} {dC : Nat → ClassId} {dI : Nat → Nat → Nat} {ad : Nat → Nat} {cA : Nat → ClassId} {pr : Nat → Nat → Bool} {Kz : mm_M} {M0 : mm_M} (hM0 : INV pr Kz M0) (hpr : PM pr) (gf : Nat → Int) (gn : Int) (gi : Int) (hp0 : b01 (RIP M0) = 1) (hp1 : b01 (CA M0) = 1) (hp2 : b01 (TKM gf gn M0) = 1) (hp3 : b01 (PO gn gi (M0.1 98 11).toInt (M0.1 98 6).toInt) = 1) (hp4 : b01 (PI M0) = 1) : Cv l 16 yX12_readAtom wsX12_readAtom dC dI ad cA [.ref (ad 98), .int (sI 3)] M0 (fun M' => INV pr Kz M' ∧ FR [98, 102] M0 M' ∧ (b01 (RIP M') = 1) ∧ ((M'.1 98 8).toInt = (M0.1 98 8).toInt) ∧ ((M0.1 98 6).toInt ≤ (M'.1 98 6).toInt) ∧ (b01 (XW M0 M' 0 1 0) = 1) ∧ (b01 (CA M') = 1) ∧ (b01 (PI M') = 1) ∧ (b01 (TKM gf gn M') = 1) ∧ b01 (RR ((atP gf gn false (suR gf gn 2)) gi) (M0.1 98 11).toInt (M0.1 98 12).toInt (M'.1 98 11).toInt (M'.1 98 12).toInt (M'.1 98 6).toInt) = 1) := by
  refine cv_of (cc := cX12_readAtom) (maxL := 2) (lv := [(0, .ref (ad 98)), (1, .int (sI 3))]) (by decide) rfl (Nat.le_of_ble_eq_true rfl) rfl ?_
  intro p e s m args below meth c A Q C hret
  have u101z := xw_0 M0
  have u101l := ri_l (M := M0) (by omega)
  refine j_aload_n C 0 0 dX12_readAtom_0 rfl rfl ?_
  refine y_bipush C dX12_readAtom_1 rfl ?_
  have k102 := tkm_K (f := gf) (n := gn) (M := M0) (by omega)
  have k103 := kd_2 (kd_23 gf gn (M0.1 98 6).toInt) (by omega)
  refine j_callVi C (d := 0) (As := [.int (sI 23)]) (st := []) 98 (s_lt rfl rfl) (s_kc (c := 11) rfl rfl) (by decide) rfl (s1_X12_is hM0 23 (by omega)) gX12_readAtom_X12_is rfl hdX12_is (by decide) (Nat.le_of_ble_eq_true rfl) dX12_readAtom_3 rfl (fun r104 M105 h106 => ?_)
  obtain ⟨a108, rfl, rfl, h107⟩ := h106
  refine y_if_eq C 24 dX12_readAtom_6 (by decide) (by omega) (fun h109 => ?_) (fun h109 => ?_)
  · refine j_aload_n C 0 0 dX12_readAtom_24 rfl rfl ?_
    refine y_getI C 11 _ _ fX12_readAtom_126 rfl rfl ft_11_11 sb_11_11 hM0 dX12_readAtom_25 (fun a110 ea110 la110 ua110 => ?_)
    obtain rfl : a110 = (M0.1 98 11).toInt := ea110
    refine y_if_ne C 66 dX12_readAtom_28 (by decide) (by omega) (fun h112 => ?_) (fun h112 => ?_)
    · refine j_aload_n C 0 0 dX12_readAtom_66 rfl rfl ?_
      refine y_bipush C dX12_readAtom_67 rfl ?_
      have k113 := tkm_K (f := gf) (n := gn) (M := M0) (by omega)
      have k114 := kd_2 (kdk_35 gf gn (M0.1 98 6).toInt) (by omega)
      refine j_callVi C (d := 0) (As := [.int (sI 35)]) (st := []) 98 (s_lt rfl rfl) (s_kc (c := 11) rfl rfl) (by decide) rfl (s1_X12_is hM0 35 (by omega)) gX12_readAtom_X12_is rfl hdX12_is (by decide) (Nat.le_of_ble_eq_true rfl) dX12_readAtom_69 rfl (fun r115 M116 h117 => ?_)
      obtain ⟨a119, rfl, rfl, h118⟩ := h117
      refine y_if_eq C 108 dX12_readAtom_72 (by decide) (by omega) (fun h120 => ?_) (fun h120 => ?_)
      · refine j_aload_n C 0 0 dX12_readAtom_108 rfl rfl ?_
        refine y_iconst C dX12_readAtom_109 ?_
        refine j_callVv C (d := 0) (As := [.int (sI 2)]) (st := []) 98 (s_lt rfl rfl) (s_kc (c := 11) rfl rfl) (by decide) rfl (s1_X12_fails hM0 hpr 2 (by omega) gf gn gi (by omega) (by omega) (by omega) (by omega) (by omega)) gX12_readAtom_X12_fails rfl hdX12_fails (by decide) (Nat.le_of_ble_eq_true rfl) dX12_readAtom_110 rfl (fun M122 h123 => ?_)
        obtain ⟨hM122, fM122, h124⟩ := h123
        have bM122 := tkm_b (f := gf) (n := gn) (M := M122) (by omega)
        have qM122 := po_f gn ((faQ gf gn 2) gi).2.2 (M122.1 98 11).toInt (M122.1 98 6).toInt (by omega)
        have u125f : b01 (XW M0 M122 0 1 0) = 1 := b01_i (Or.inl (by omega))
        have u125a := ca_x (M := M0) (N := M122) (r := 0) (e := 1) (s := 0) (by decide) (by omega) (by omega)
        have u125r := at_4z gf gn false (suR gf gn 2) gi (M0.1 98 11).toInt (M0.1 98 12).toInt (M0.1 98 6).toInt (M122.1 98 11).toInt (M122.1 98 12).toInt (M122.1 98 6).toInt (by omega) (by omega) (by omega)
        exact hret _ _ _ dX12_readAtom_113 ⟨hM122, (FR.rf.tr fM122 (by decide)), by omega⟩
      · have u126k := ri_k (M := M0) (by omega) (by omega)
        refine j_aload_n C 0 0 dX12_readAtom_75 rfl rfl ?_
        refine j_iload_n C 1 1 dX12_readAtom_76 rfl rfl ?_
        refine j_callVi C (d := 6) (As := [.int (sI 3)]) (st := []) 98 (s_lt rfl rfl) (s_kc (c := 11) rfl rfl) (by decide) rfl (s4_X12_goesIn hM0 hpr gf gn gi (by omega) (by omega) (by omega) (by omega) (by omega) (by omega) (by omega)) gX12_readAtom_X12_goesIn rfl hdX12_goesIn (by decide) (Nat.le_of_ble_eq_true rfl) dX12_readAtom_77 rfl (fun r127 M128 h129 => ?_)
        obtain ⟨a131, rfl, hM128, fM128, h130⟩ := h129
        have bM128 := tkm_b (f := gf) (n := gn) (M := M128) (by omega)
        refine y_if_ne C 84 dX12_readAtom_80 (by decide) (by omega) (fun h132 => ?_) (fun h132 => ?_)
        · have u133c := xw_c (N := M0) (P := M128) 1 (FR.cell fM128 (by decide)) (by omega)
          have u133t := xw_t (M := M0) (N := M0) (P := M128) (r1 := 0) (e1 := 0) (s1 := 0) (r2 := 0) (e2 := 0) (s2 := 1) 0 0 1 (by decide) (by omega) (by omega)
          have u133a := ca_x (M := M0) (N := M128) (r := 0) (e := 0) (s := 1) (by decide) (by omega) (by omega)
          have u133l := ri_l (M := M128) (by omega)
          refine j_aload_n C 0 0 dX12_readAtom_84 rfl rfl ?_
          refine j_iload_n C 1 1 dX12_readAtom_85 rfl rfl ?_
          refine y_iconst C dX12_readAtom_86 ?_
          refine y_iadd C dX12_readAtom_87 ?_
          refine j_callVv C (d := 15) (As := [.int (sI (3 + 1))]) (st := []) 98 (s_lt rfl rfl) (s_kc (c := 11) rfl rfl) (by decide) rfl (s3_X12_readSum hM128 hpr gf gn (nxF gf gn gi) (by omega) (by omega) (by omega) (by omega) (by omega)) gX12_readAtom_X12_readSum rfl hdX12_readSum (by decide) (Nat.le_of_ble_eq_true rfl) dX12_readAtom_88 rfl (fun M135 h136 => ?_)
          obtain ⟨hM135, fM135, h137⟩ := h136
          have bM135 := tkm_b (f := gf) (n := gn) (M := M135) (by omega)
          have qM135 := po_rr (suR gf gn 2) gn (nxF gf gn gi) (M128.1 98 11).toInt (M128.1 98 12).toInt (M128.1 98 6).toInt (M135.1 98 11).toInt (M135.1 98 12).toInt (M135.1 98 6).toInt (suR_g gf gn 2) (by omega) (by omega)
          have u138t := xw_t (M := M0) (N := M128) (P := M135) (r1 := 0) (e1 := 0) (s1 := 1) (r2 := 0) (e2 := 1) (s2 := 0) 0 1 1 (by decide) (by omega) (by omega)
          have u138l := ri_l (M := M135) (by omega)
          refine j_aload_n C 0 0 dX12_readAtom_91 rfl rfl ?_
          refine y_bipush C dX12_readAtom_92 rfl ?_
          have k139 := tkm_K (f := gf) (n := gn) (M := M135) (by omega)
          have k140 := kd_2 (kdk_36 gf gn (M135.1 98 6).toInt) (by omega)
          refine j_callVi C (d := 6) (As := [.int (sI 36)]) (st := []) 98 (s_lt rfl rfl) (s_kc (c := 11) rfl rfl) (by decide) rfl (s1_X12_eats hM135 hpr 36 (by omega) gf gn ((suR gf gn 2) (nxF gf gn gi)).2.2 (by omega) (by omega) (by omega) (by omega) (by omega)) gX12_readAtom_X12_eats rfl hdX12_eats (by decide) (Nat.le_of_ble_eq_true rfl) dX12_readAtom_94 rfl (fun r141 M142 h143 => ?_)
          obtain ⟨a145, rfl, hM142, fM142, h144⟩ := h143
          have k146 := tk_c gf gn (M142.1 98 6).toInt (M135.1 98 6).toInt
          have bM142 := tkm_b (f := gf) (n := gn) (M := M142) (by omega)
          have u147c := xw_c (N := M135) (P := M142) 0 (FR.cell fM142 (by decide)) (by omega)
          have u147t := xw_t (M := M0) (N := M135) (P := M142) (r1 := 0) (e1 := 1) (s1 := 1) (r2 := 0) (e2 := 0) (s2 := 0) 0 1 0 (by decide) (by omega) (by omega)
          have u147a := ca_x (M := M0) (N := M142) (r := 0) (e := 1) (s := 0) (by decide) (by omega) (by omega)
          have u147l := ri_l (M := M142) (by omega)
          refine y_if_ne C 113 dX12_readAtom_97 (by decide) (by omega) (fun h148 => ?_) (fun h148 => ?_)
          · have u149x := ex_1 gf gn 2041 ((suR gf gn 2) (nxF gf gn gi)).2.2 (M135.1 98 11).toInt (M135.1 98 12).toInt (M135.1 98 6).toInt (M142.1 98 11).toInt (M142.1 98 12).toInt (M142.1 98 6).toInt (by omega) (by omega) (by omega) (by omega) (by omega) (by omega)
            have u149r := at_2 gf gn (suR gf gn 2) gi (M0.1 98 11).toInt (M0.1 98 12).toInt (M0.1 98 6).toInt (M128.1 98 11).toInt (M128.1 98 12).toInt (M135.1 98 11).toInt (M135.1 98 12).toInt (M135.1 98 6).toInt (M142.1 98 11).toInt (M142.1 98 12).toInt (M142.1 98 6).toInt (by omega) (by omega) (by omega) (by omega) (by omega) (by omega)
            exact hret _ _ _ dX12_readAtom_113 ⟨hM142, (((FR.rf.tr fM128 (by decide)).tr fM135 (by decide)).tr fM142 (by decide)), by omega⟩
          · refine j_aload_n C 0 0 dX12_readAtom_100 rfl rfl ?_
            refine y_iconst C dX12_readAtom_101 ?_
            have p150 := po_eq gn ((suR gf gn 2) (nxF gf gn gi)).2.2 (M135.1 98 11).toInt (M135.1 98 6).toInt (M142.1 98 11).toInt (M142.1 98 6).toInt (by omega) (by omega) (by omega)
            refine j_callVv C (d := 0) (As := [.int (sI 2)]) (st := []) 98 (s_lt rfl rfl) (s_kc (c := 11) rfl rfl) (by decide) rfl (s1_X12_fails hM142 hpr 2 (by omega) gf gn ((suR gf gn 2) (nxF gf gn gi)).2.2 (by omega) (by omega) (by omega) (by omega) (by omega)) gX12_readAtom_X12_fails rfl hdX12_fails (by decide) (Nat.le_of_ble_eq_true rfl) dX12_readAtom_102 rfl (fun M152 h153 => ?_)
            obtain ⟨hM152, fM152, h154⟩ := h153
            have bM152 := tkm_b (f := gf) (n := gn) (M := M152) (by omega)
            have qM152 := po_f gn ((faQ gf gn 2) ((suR gf gn 2) (nxF gf gn gi)).2.2).2.2 (M152.1 98 11).toInt (M152.1 98 6).toInt (by omega)
            have u155f : b01 (XW M0 M152 0 1 0) = 1 := b01_i (Or.inl (by omega))
            have u155a := ca_x (M := M0) (N := M152) (r := 0) (e := 1) (s := 0) (by decide) (by omega) (by omega)
            refine j_goto C 113 dX12_readAtom_105 (by decide) ?_
            have u156x := ex_2z gf gn 2041 ((suR gf gn 2) (nxF gf gn gi)).2.2 (M135.1 98 11).toInt (M135.1 98 12).toInt (M135.1 98 6).toInt (M152.1 98 11).toInt (M152.1 98 12).toInt (M152.1 98 6).toInt (by omega) (by omega) (rr_fr (faQ gf gn 2 ((suR gf gn 2) (nxF gf gn gi)).2.2) (M135.1 98 11).toInt (M135.1 98 12).toInt (M142.1 98 11).toInt (M142.1 98 12).toInt (M152.1 98 11).toInt (M152.1 98 12).toInt (M152.1 98 6).toInt (by omega) (by omega) (by omega))
            have u156r := at_2 gf gn (suR gf gn 2) gi (M0.1 98 11).toInt (M0.1 98 12).toInt (M0.1 98 6).toInt (M128.1 98 11).toInt (M128.1 98 12).toInt (M135.1 98 11).toInt (M135.1 98 12).toInt (M135.1 98 6).toInt (M152.1 98 11).toInt (M152.1 98 12).toInt (M152.1 98 6).toInt (by omega) (by omega) (by omega) (by omega) (by omega) (by omega)
            exact hret _ _ _ dX12_readAtom_113 ⟨hM152, ((((FR.rf.tr fM128 (by decide)).tr fM135 (by decide)).tr fM142 (by decide)).tr fM152 (by decide)), by omega⟩
        · exfalso; omega
    · refine j_aload_n C 0 0 dX12_readAtom_31 rfl rfl ?_
      refine j_aload_n C 0 0 dX12_readAtom_32 rfl rfl ?_
      refine y_getI C 11 _ _ fX12_readAtom_108 rfl rfl ft_11_9 sb_11_9 hM0 dX12_readAtom_33 (fun a157 ea157 la157 ua157 => ?_)
      obtain rfl : a157 = (M0.1 98 9).toInt := ea157
      have k159 := tkm_K (f := gf) (n := gn) (M := M0) (by omega)
      have k160 := kd_2 (wo_k gf gn (M0.1 98 6).toInt) (by omega)
      have k161 := wo_c (M0.1 98 9).toInt (kdF (tkF gf gn (M0.1 98 6).toInt))
      refine j_callVi C (d := 0) (As := [.int (sI (M0.1 98 9).toInt)]) (st := []) 98 (s_lt rfl rfl) (s_kc (c := 11) rfl rfl) (by decide) rfl (s1_X12_wordOf hM0 (M0.1 98 9).toInt (by omega)) gX12_readAtom_X12_wordOf rfl hdX12_wordOf (by decide) (Nat.le_of_ble_eq_true rfl) dX12_readAtom_36 rfl (fun r162 M163 h164 => ?_)
      obtain ⟨a166, rfl, rfl, h165⟩ := h164
      obtain rfl : a166 = (woF (M0.1 98 9).toInt) := by omega
      refine y_iconst C dX12_readAtom_39 ?_
      refine y_icmp_eq C 66 dX12_readAtom_40 (by decide) (by omega) (fun h167 => ?_) (fun h167 => ?_)
      · refine j_aload_n C 0 0 dX12_readAtom_66 rfl rfl ?_
        refine y_bipush C dX12_readAtom_67 rfl ?_
        have k168 := tkm_K (f := gf) (n := gn) (M := M0) (by omega)
        have k169 := kd_2 (kdk_35 gf gn (M0.1 98 6).toInt) (by omega)
        refine j_callVi C (d := 0) (As := [.int (sI 35)]) (st := []) 98 (s_lt rfl rfl) (s_kc (c := 11) rfl rfl) (by decide) rfl (s1_X12_is hM0 35 (by omega)) gX12_readAtom_X12_is rfl hdX12_is (by decide) (Nat.le_of_ble_eq_true rfl) dX12_readAtom_69 rfl (fun r170 M171 h172 => ?_)
        obtain ⟨a174, rfl, rfl, h173⟩ := h172
        refine y_if_eq C 108 dX12_readAtom_72 (by decide) (by omega) (fun h175 => ?_) (fun h175 => ?_)
        · refine j_aload_n C 0 0 dX12_readAtom_108 rfl rfl ?_
          refine y_iconst C dX12_readAtom_109 ?_
          refine j_callVv C (d := 0) (As := [.int (sI 2)]) (st := []) 98 (s_lt rfl rfl) (s_kc (c := 11) rfl rfl) (by decide) rfl (s1_X12_fails hM0 hpr 2 (by omega) gf gn gi (by omega) (by omega) (by omega) (by omega) (by omega)) gX12_readAtom_X12_fails rfl hdX12_fails (by decide) (Nat.le_of_ble_eq_true rfl) dX12_readAtom_110 rfl (fun M177 h178 => ?_)
          obtain ⟨hM177, fM177, h179⟩ := h178
          have bM177 := tkm_b (f := gf) (n := gn) (M := M177) (by omega)
          have qM177 := po_f gn ((faQ gf gn 2) gi).2.2 (M177.1 98 11).toInt (M177.1 98 6).toInt (by omega)
          have u180f : b01 (XW M0 M177 0 1 0) = 1 := b01_i (Or.inl (by omega))
          have u180a := ca_x (M := M0) (N := M177) (r := 0) (e := 1) (s := 0) (by decide) (by omega) (by omega)
          have u180r := at_4z gf gn false (suR gf gn 2) gi (M0.1 98 11).toInt (M0.1 98 12).toInt (M0.1 98 6).toInt (M177.1 98 11).toInt (M177.1 98 12).toInt (M177.1 98 6).toInt (by omega) (by omega) (by omega)
          exact hret _ _ _ dX12_readAtom_113 ⟨hM177, (FR.rf.tr fM177 (by decide)), by omega⟩
        · have u181k := ri_k (M := M0) (by omega) (by omega)
          refine j_aload_n C 0 0 dX12_readAtom_75 rfl rfl ?_
          refine j_iload_n C 1 1 dX12_readAtom_76 rfl rfl ?_
          refine j_callVi C (d := 6) (As := [.int (sI 3)]) (st := []) 98 (s_lt rfl rfl) (s_kc (c := 11) rfl rfl) (by decide) rfl (s4_X12_goesIn hM0 hpr gf gn gi (by omega) (by omega) (by omega) (by omega) (by omega) (by omega) (by omega)) gX12_readAtom_X12_goesIn rfl hdX12_goesIn (by decide) (Nat.le_of_ble_eq_true rfl) dX12_readAtom_77 rfl (fun r182 M183 h184 => ?_)
          obtain ⟨a186, rfl, hM183, fM183, h185⟩ := h184
          have bM183 := tkm_b (f := gf) (n := gn) (M := M183) (by omega)
          refine y_if_ne C 84 dX12_readAtom_80 (by decide) (by omega) (fun h187 => ?_) (fun h187 => ?_)
          · have u188c := xw_c (N := M0) (P := M183) 1 (FR.cell fM183 (by decide)) (by omega)
            have u188t := xw_t (M := M0) (N := M0) (P := M183) (r1 := 0) (e1 := 0) (s1 := 0) (r2 := 0) (e2 := 0) (s2 := 1) 0 0 1 (by decide) (by omega) (by omega)
            have u188a := ca_x (M := M0) (N := M183) (r := 0) (e := 0) (s := 1) (by decide) (by omega) (by omega)
            have u188l := ri_l (M := M183) (by omega)
            refine j_aload_n C 0 0 dX12_readAtom_84 rfl rfl ?_
            refine j_iload_n C 1 1 dX12_readAtom_85 rfl rfl ?_
            refine y_iconst C dX12_readAtom_86 ?_
            refine y_iadd C dX12_readAtom_87 ?_
            refine j_callVv C (d := 15) (As := [.int (sI (3 + 1))]) (st := []) 98 (s_lt rfl rfl) (s_kc (c := 11) rfl rfl) (by decide) rfl (s3_X12_readSum hM183 hpr gf gn (nxF gf gn gi) (by omega) (by omega) (by omega) (by omega) (by omega)) gX12_readAtom_X12_readSum rfl hdX12_readSum (by decide) (Nat.le_of_ble_eq_true rfl) dX12_readAtom_88 rfl (fun M190 h191 => ?_)
            obtain ⟨hM190, fM190, h192⟩ := h191
            have bM190 := tkm_b (f := gf) (n := gn) (M := M190) (by omega)
            have qM190 := po_rr (suR gf gn 2) gn (nxF gf gn gi) (M183.1 98 11).toInt (M183.1 98 12).toInt (M183.1 98 6).toInt (M190.1 98 11).toInt (M190.1 98 12).toInt (M190.1 98 6).toInt (suR_g gf gn 2) (by omega) (by omega)
            have u193t := xw_t (M := M0) (N := M183) (P := M190) (r1 := 0) (e1 := 0) (s1 := 1) (r2 := 0) (e2 := 1) (s2 := 0) 0 1 1 (by decide) (by omega) (by omega)
            have u193l := ri_l (M := M190) (by omega)
            refine j_aload_n C 0 0 dX12_readAtom_91 rfl rfl ?_
            refine y_bipush C dX12_readAtom_92 rfl ?_
            have k194 := tkm_K (f := gf) (n := gn) (M := M190) (by omega)
            have k195 := kd_2 (kdk_36 gf gn (M190.1 98 6).toInt) (by omega)
            refine j_callVi C (d := 6) (As := [.int (sI 36)]) (st := []) 98 (s_lt rfl rfl) (s_kc (c := 11) rfl rfl) (by decide) rfl (s1_X12_eats hM190 hpr 36 (by omega) gf gn ((suR gf gn 2) (nxF gf gn gi)).2.2 (by omega) (by omega) (by omega) (by omega) (by omega)) gX12_readAtom_X12_eats rfl hdX12_eats (by decide) (Nat.le_of_ble_eq_true rfl) dX12_readAtom_94 rfl (fun r196 M197 h198 => ?_)
            obtain ⟨a200, rfl, hM197, fM197, h199⟩ := h198
            have k201 := tk_c gf gn (M197.1 98 6).toInt (M190.1 98 6).toInt
            have bM197 := tkm_b (f := gf) (n := gn) (M := M197) (by omega)
            have u202c := xw_c (N := M190) (P := M197) 0 (FR.cell fM197 (by decide)) (by omega)
            have u202t := xw_t (M := M0) (N := M190) (P := M197) (r1 := 0) (e1 := 1) (s1 := 1) (r2 := 0) (e2 := 0) (s2 := 0) 0 1 0 (by decide) (by omega) (by omega)
            have u202a := ca_x (M := M0) (N := M197) (r := 0) (e := 1) (s := 0) (by decide) (by omega) (by omega)
            have u202l := ri_l (M := M197) (by omega)
            refine y_if_ne C 113 dX12_readAtom_97 (by decide) (by omega) (fun h203 => ?_) (fun h203 => ?_)
            · have u204x := ex_1 gf gn 2041 ((suR gf gn 2) (nxF gf gn gi)).2.2 (M190.1 98 11).toInt (M190.1 98 12).toInt (M190.1 98 6).toInt (M197.1 98 11).toInt (M197.1 98 12).toInt (M197.1 98 6).toInt (by omega) (by omega) (by omega) (by omega) (by omega) (by omega)
              have u204r := at_2 gf gn (suR gf gn 2) gi (M0.1 98 11).toInt (M0.1 98 12).toInt (M0.1 98 6).toInt (M183.1 98 11).toInt (M183.1 98 12).toInt (M190.1 98 11).toInt (M190.1 98 12).toInt (M190.1 98 6).toInt (M197.1 98 11).toInt (M197.1 98 12).toInt (M197.1 98 6).toInt (by omega) (by omega) (by omega) (by omega) (by omega) (by omega)
              exact hret _ _ _ dX12_readAtom_113 ⟨hM197, (((FR.rf.tr fM183 (by decide)).tr fM190 (by decide)).tr fM197 (by decide)), by omega⟩
            · refine j_aload_n C 0 0 dX12_readAtom_100 rfl rfl ?_
              refine y_iconst C dX12_readAtom_101 ?_
              have p205 := po_eq gn ((suR gf gn 2) (nxF gf gn gi)).2.2 (M190.1 98 11).toInt (M190.1 98 6).toInt (M197.1 98 11).toInt (M197.1 98 6).toInt (by omega) (by omega) (by omega)
              refine j_callVv C (d := 0) (As := [.int (sI 2)]) (st := []) 98 (s_lt rfl rfl) (s_kc (c := 11) rfl rfl) (by decide) rfl (s1_X12_fails hM197 hpr 2 (by omega) gf gn ((suR gf gn 2) (nxF gf gn gi)).2.2 (by omega) (by omega) (by omega) (by omega) (by omega)) gX12_readAtom_X12_fails rfl hdX12_fails (by decide) (Nat.le_of_ble_eq_true rfl) dX12_readAtom_102 rfl (fun M207 h208 => ?_)
              obtain ⟨hM207, fM207, h209⟩ := h208
              have bM207 := tkm_b (f := gf) (n := gn) (M := M207) (by omega)
              have qM207 := po_f gn ((faQ gf gn 2) ((suR gf gn 2) (nxF gf gn gi)).2.2).2.2 (M207.1 98 11).toInt (M207.1 98 6).toInt (by omega)
              have u210f : b01 (XW M0 M207 0 1 0) = 1 := b01_i (Or.inl (by omega))
              have u210a := ca_x (M := M0) (N := M207) (r := 0) (e := 1) (s := 0) (by decide) (by omega) (by omega)
              refine j_goto C 113 dX12_readAtom_105 (by decide) ?_
              have u211x := ex_2z gf gn 2041 ((suR gf gn 2) (nxF gf gn gi)).2.2 (M190.1 98 11).toInt (M190.1 98 12).toInt (M190.1 98 6).toInt (M207.1 98 11).toInt (M207.1 98 12).toInt (M207.1 98 6).toInt (by omega) (by omega) (rr_fr (faQ gf gn 2 ((suR gf gn 2) (nxF gf gn gi)).2.2) (M190.1 98 11).toInt (M190.1 98 12).toInt (M197.1 98 11).toInt (M197.1 98 12).toInt (M207.1 98 11).toInt (M207.1 98 12).toInt (M207.1 98 6).toInt (by omega) (by omega) (by omega))
              have u211r := at_2 gf gn (suR gf gn 2) gi (M0.1 98 11).toInt (M0.1 98 12).toInt (M0.1 98 6).toInt (M183.1 98 11).toInt (M183.1 98 12).toInt (M190.1 98 11).toInt (M190.1 98 12).toInt (M190.1 98 6).toInt (M207.1 98 11).toInt (M207.1 98 12).toInt (M207.1 98 6).toInt (by omega) (by omega) (by omega) (by omega) (by omega) (by omega)
              exact hret _ _ _ dX12_readAtom_113 ⟨hM207, ((((FR.rf.tr fM183 (by decide)).tr fM190 (by decide)).tr fM197 (by decide)).tr fM207 (by decide)), by omega⟩
          · exfalso; omega
      · have u212w := woF_s (M0.1 98 9).toInt
        have u212k := ri_k (M := M0) (by omega) (by omega)
        have u212b := cb_0 (M := M0) (by omega) (by omega)
        refine j_aload_n C 0 0 dX12_readAtom_43 rfl rfl ?_
        refine y_sipush C dX12_readAtom_44 rfl ?_
        refine j_aload_n C 0 0 dX12_readAtom_47 rfl rfl ?_
        refine j_aload_n C 0 0 dX12_readAtom_48 rfl rfl ?_
        refine y_getI C 11 _ _ fX12_readAtom_108 rfl rfl ft_11_9 sb_11_9 hM0 dX12_readAtom_49 (fun a213 ea213 la213 ua213 => ?_)
        obtain rfl : a213 = (M0.1 98 9).toInt := ea213
        have k215 := tkm_K (f := gf) (n := gn) (M := M0) (by omega)
        have k216 := kd_2 (wo_k gf gn (M0.1 98 6).toInt) (by omega)
        have k217 := wo_c (M0.1 98 9).toInt (kdF (tkF gf gn (M0.1 98 6).toInt))
        refine j_callVi C (d := 0) (As := [.int (sI (M0.1 98 9).toInt)]) (st := [.int (sI 1000), .ref (ad 98)]) 98 (s_lt rfl rfl) (s_kc (c := 11) rfl rfl) (by decide) rfl (s1_X12_wordOf hM0 (M0.1 98 9).toInt (by omega)) gX12_readAtom_X12_wordOf rfl hdX12_wordOf (by decide) (Nat.le_of_ble_eq_true rfl) dX12_readAtom_52 rfl (fun r218 M219 h220 => ?_)
        obtain ⟨a222, rfl, rfl, h221⟩ := h220
        obtain rfl : a222 = (woF (M0.1 98 9).toInt) := by omega
        refine y_iadd C dX12_readAtom_55 ?_
        refine j_callVv C (d := 0) (As := [.int (sI (1000 + (woF (M0.1 98 9).toInt)))]) (st := []) 98 (s_lt rfl rfl) (s_kc (c := 11) rfl rfl) (by decide) rfl (s1_X12_codes hM0 hpr (1000 + (woF (M0.1 98 9).toInt)) (by omega) gf gn gi (by omega) (by omega) (by omega) (by omega)) gX12_readAtom_X12_codes rfl hdX12_codes (by decide) (Nat.le_of_ble_eq_true rfl) dX12_readAtom_56 rfl (fun M224 h225 => ?_)
        obtain ⟨hM224, fM224, h226⟩ := h225
        have bM224 := tkm_b (f := gf) (n := gn) (M := M224) (by omega)
        have qM224 := po_eq gn gi (M0.1 98 11).toInt (M0.1 98 6).toInt (M224.1 98 11).toInt (M224.1 98 6).toInt (by omega) (by omega) (by omega)
        have u227x := xw_a (M := M0) (N := M224) (c := (1000 + (woF (M0.1 98 9).toInt))) (r := 0) (e := 1) (FR.cell fM224 (by decide)) (ap_push ⟨(INV.rd hM0 (i := 102) (c := 48) (k := 280) rfl rfl).1, by omega, by omega⟩) (by omega)
        have u227t := xw_t (M := M0) (N := M0) (P := M224) (r1 := 0) (e1 := 0) (s1 := 0) (r2 := 0) (e2 := 1) (s2 := (-1)) 0 1 (-1) (by decide) (by omega) (by omega)
        have u227i := ri_c (M := M0) (N := M224) (FR.cell fM224 (by decide)) (by omega)
        have u227l := ri_l (M := M224) (by omega)
        have u227q6 : (M224.1 98 6).toInt = (M0.1 98 6).toInt := by rw [show M224.1 98 = M0.1 98 from FR.cell fM224 (by decide)]
        have u227q7 : (M224.1 98 7).toInt = (M0.1 98 7).toInt := by rw [show M224.1 98 = M0.1 98 from FR.cell fM224 (by decide)]
        have u227q8 : (M224.1 98 8).toInt = (M0.1 98 8).toInt := by rw [show M224.1 98 = M0.1 98 from FR.cell fM224 (by decide)]
        have u227q9 : (M224.1 98 9).toInt = (M0.1 98 9).toInt := by rw [show M224.1 98 = M0.1 98 from FR.cell fM224 (by decide)]
        have u227q11 : (M224.1 98 11).toInt = (M0.1 98 11).toInt := by rw [show M224.1 98 = M0.1 98 from FR.cell fM224 (by decide)]
        refine j_aload_n C 0 0 dX12_readAtom_59 rfl rfl ?_
        have zz98_7 : (M224.1 98 7).toInt = (M0.1 98 7).toInt := s_fF fM224 (by decide) (rfl)
        have zz98_8 : (M224.1 98 8).toInt = (M0.1 98 8).toInt := s_fF fM224 (by decide) (rfl)
        have k228 := tkm_p (f := gf) (n := gn) (M := M224) (by omega)
        have k229 := tkm_K (f := gf) (n := gn) (M := M224) (by omega)
        refine j_callVv C (d := 5) (As := []) (st := []) 98 (s_lt rfl rfl) (s_kc (c := 11) rfl rfl) (by decide) rfl (s1_X12_next hM224 hpr gf gn (by omega) (by omega) (by omega) (by omega)) gX12_readAtom_X12_next rfl hdX12_next (by decide) (Nat.le_of_ble_eq_true rfl) dX12_readAtom_60 rfl (fun M231 h232 => ?_)
        obtain ⟨hM231, fM231, h233⟩ := h232
        have bM231 := tkm_b (f := gf) (n := gn) (M := M231) (by omega)
        have qM231 := nx_po (f := gf) (n := gn) (i := gi) (M := M224) (M' := M231) (by omega) (by omega) (by omega) (by omega) (by omega)
        have u234c := xw_c (N := M224) (P := M231) 1 (FR.cell fM231 (by decide)) (by omega)
        have u234t := xw_t (M := M0) (N := M224) (P := M231) (r1 := 0) (e1 := 1) (s1 := (-1)) (r2 := 0) (e2 := 0) (s2 := 1) 0 1 0 (by decide) (by omega) (by omega)
        have u234a := ca_x (M := M0) (N := M231) (r := 0) (e := 1) (s := 0) (by decide) (by omega) (by omega)
        refine j_goto C 113 dX12_readAtom_63 (by decide) ?_
        have u235r := at_1 gf gn false (suR gf gn 2) gi (M0.1 98 11).toInt (M0.1 98 12).toInt (M0.1 98 6).toInt (M231.1 98 11).toInt (M231.1 98 12).toInt (M231.1 98 6).toInt (by omega) (by omega) (by omega) (by omega) (by omega) (by omega)
        exact hret _ _ _ dX12_readAtom_113 ⟨hM231, ((FR.rf.tr fM224 (by decide)).tr fM231 (by decide)), by omega⟩
  · have u236k := ri_k (M := M0) (by omega) (by omega)
    have u236b := cb_0 (M := M0) (by omega) (by omega)
    refine j_aload_n C 0 0 dX12_readAtom_9 rfl rfl ?_
    refine j_aload_n C 0 0 dX12_readAtom_10 rfl rfl ?_
    refine y_getI C 11 _ _ fX12_readAtom_121 rfl rfl ft_11_10 sb_11_10 hM0 dX12_readAtom_11 (fun a237 ea237 la237 ua237 => ?_)
    obtain rfl : a237 = (M0.1 98 10).toInt := ea237
    refine j_callVv C (d := 0) (As := [.int (sI (M0.1 98 10).toInt)]) (st := []) 98 (s_lt rfl rfl) (s_kc (c := 11) rfl rfl) (by decide) rfl (s1_X12_codes hM0 hpr (M0.1 98 10).toInt (by omega) gf gn gi (by omega) (by omega) (by omega) (by omega)) gX12_readAtom_X12_codes rfl hdX12_codes (by decide) (Nat.le_of_ble_eq_true rfl) dX12_readAtom_14 rfl (fun M240 h241 => ?_)
    obtain ⟨hM240, fM240, h242⟩ := h241
    have bM240 := tkm_b (f := gf) (n := gn) (M := M240) (by omega)
    have qM240 := po_eq gn gi (M0.1 98 11).toInt (M0.1 98 6).toInt (M240.1 98 11).toInt (M240.1 98 6).toInt (by omega) (by omega) (by omega)
    have u243x := xw_a (M := M0) (N := M240) (c := (M0.1 98 10).toInt) (r := 0) (e := 1) (FR.cell fM240 (by decide)) (ap_push ⟨(INV.rd hM0 (i := 102) (c := 48) (k := 280) rfl rfl).1, by omega, by omega⟩) (by omega)
    have u243t := xw_t (M := M0) (N := M0) (P := M240) (r1 := 0) (e1 := 0) (s1 := 0) (r2 := 0) (e2 := 1) (s2 := (-1)) 0 1 (-1) (by decide) (by omega) (by omega)
    have u243i := ri_c (M := M0) (N := M240) (FR.cell fM240 (by decide)) (by omega)
    have u243l := ri_l (M := M240) (by omega)
    have u243q6 : (M240.1 98 6).toInt = (M0.1 98 6).toInt := by rw [show M240.1 98 = M0.1 98 from FR.cell fM240 (by decide)]
    have u243q7 : (M240.1 98 7).toInt = (M0.1 98 7).toInt := by rw [show M240.1 98 = M0.1 98 from FR.cell fM240 (by decide)]
    have u243q8 : (M240.1 98 8).toInt = (M0.1 98 8).toInt := by rw [show M240.1 98 = M0.1 98 from FR.cell fM240 (by decide)]
    have u243q9 : (M240.1 98 9).toInt = (M0.1 98 9).toInt := by rw [show M240.1 98 = M0.1 98 from FR.cell fM240 (by decide)]
    have u243q11 : (M240.1 98 11).toInt = (M0.1 98 11).toInt := by rw [show M240.1 98 = M0.1 98 from FR.cell fM240 (by decide)]
    refine j_aload_n C 0 0 dX12_readAtom_17 rfl rfl ?_
    have zz98_7 : (M240.1 98 7).toInt = (M0.1 98 7).toInt := s_fF fM240 (by decide) (rfl)
    have zz98_8 : (M240.1 98 8).toInt = (M0.1 98 8).toInt := s_fF fM240 (by decide) (rfl)
    have k244 := tkm_p (f := gf) (n := gn) (M := M240) (by omega)
    have k245 := tkm_K (f := gf) (n := gn) (M := M240) (by omega)
    refine j_callVv C (d := 5) (As := []) (st := []) 98 (s_lt rfl rfl) (s_kc (c := 11) rfl rfl) (by decide) rfl (s1_X12_next hM240 hpr gf gn (by omega) (by omega) (by omega) (by omega)) gX12_readAtom_X12_next rfl hdX12_next (by decide) (Nat.le_of_ble_eq_true rfl) dX12_readAtom_18 rfl (fun M247 h248 => ?_)
    obtain ⟨hM247, fM247, h249⟩ := h248
    have bM247 := tkm_b (f := gf) (n := gn) (M := M247) (by omega)
    have qM247 := nx_po (f := gf) (n := gn) (i := gi) (M := M240) (M' := M247) (by omega) (by omega) (by omega) (by omega) (by omega)
    have u250c := xw_c (N := M240) (P := M247) 1 (FR.cell fM247 (by decide)) (by omega)
    have u250t := xw_t (M := M0) (N := M240) (P := M247) (r1 := 0) (e1 := 1) (s1 := (-1)) (r2 := 0) (e2 := 0) (s2 := 1) 0 1 0 (by decide) (by omega) (by omega)
    have u250a := ca_x (M := M0) (N := M247) (r := 0) (e := 1) (s := 0) (by decide) (by omega) (by omega)
    refine j_goto C 113 dX12_readAtom_21 (by decide) ?_
    have u251r := at_1 gf gn false (suR gf gn 2) gi (M0.1 98 11).toInt (M0.1 98 12).toInt (M0.1 98 6).toInt (M247.1 98 11).toInt (M247.1 98 12).toInt (M247.1 98 6).toInt (by omega) (by omega) (by omega) (by omega) (by omega) (by omega)
    exact hret _ _ _ dX12_readAtom_113 ⟨hM247, ((FR.rf.tr fM240 (by decide)).tr fM247 (by decide)), by omega⟩
set_option maxHeartbeats 4000000 in
theorem s4_X12_readTerm {l : Launch} {dC : Nat → ClassId} {dI : Nat → Nat → Nat} {ad : Nat → Nat} {cA : Nat → ClassId} {pr : Nat → Nat → Bool} {Kz : mm_M} {M0 : mm_M} (hM0 : INV pr Kz M0) (hpr : PM pr) (gf : Nat → Int) (gn : Int) (gi : Int) (hp0 : b01 (RIP M0) = 1) (hp1 : b01 (CA M0) = 1) (hp2 : b01 (TKM gf gn M0) = 1) (hp3 : b01 (PO gn gi (M0.1 98 11).toInt (M0.1 98 6).toInt) = 1) (hp4 : b01 (PI M0) = 1) : Cv l 17 yX12_readTerm wsX12_readTerm dC dI ad cA [.ref (ad 98), .int (sI 3)] M0 (fun M' => INV pr Kz M' ∧ FR [98, 102] M0 M' ∧ (b01 (RIP M') = 1) ∧ ((M'.1 98 8).toInt = (M0.1 98 8).toInt) ∧ ((M0.1 98 6).toInt ≤ (M'.1 98 6).toInt) ∧ (b01 (XW M0 M' 0 1 0) = 1) ∧ (b01 (CA M') = 1) ∧ (b01 (PI M') = 1) ∧ (b01 (TKM gf gn M') = 1) ∧ b01 (RR ((teP gf gn false (suR gf gn 2)) gi) (M0.1 98 11).toInt (M0.1 98 12).toInt (M'.1 98 11).toInt (M'.1 98 12).toInt (M'.1 98 6).toInt) = 1) := by
  refine cv_of (cc := cX12_readTerm) (maxL := 2) (lv := [(0, .ref (ad 98)), (1, .int (sI 3))]) (by decide) rfl (Nat.le_of_ble_eq_true rfl) rfl ?_
  intro p e s m args below meth c A Q C hret
  have u101z := xw_0 M0
  have u101l := ri_l (M := M0) (by omega)
  refine j_aload_n C 0 0 dX12_readTerm_0 rfl rfl ?_
  refine j_iload_n C 1 1 dX12_readTerm_1 rfl rfl ?_
  refine j_callVv C (d := 16) (As := [.int (sI 3)]) (st := []) 98 (s_lt rfl rfl) (s_kc (c := 11) rfl rfl) (by decide) rfl (s4_X12_readAtom hM0 hpr gf gn gi (by omega) (by omega) (by omega) (by omega) (by omega)) gX12_readTerm_X12_readAtom rfl hdX12_readAtom (by decide) (Nat.le_of_ble_eq_true rfl) dX12_readTerm_2 rfl (fun M103 h104 => ?_)
  obtain ⟨hM103, fM103, h105⟩ := h104
  have bM103 := tkm_b (f := gf) (n := gn) (M := M103) (by omega)
  have qM103 := po_rr (atP gf gn false (suR gf gn 2)) gn gi (M0.1 98 11).toInt (M0.1 98 12).toInt (M0.1 98 6).toInt (M103.1 98 11).toInt (M103.1 98 12).toInt (M103.1 98 6).toInt (at_g gf gn (fun _ => suR_g gf gn 2)) (by omega) (by omega)
  have u106l := ri_l (M := M103) (by omega)
  have u106L := ll_0 (luP gf gn 2042 2042 (atP gf gn false (suR gf gn 2))) gn ((atP gf gn false (suR gf gn 2)) gi).2.2 (M103.1 98 11).toInt (M103.1 98 12).toInt (M103.1 98 6).toInt (by omega)
  have L132 : ∀ (n130 : Nat), ∀ (M133 : mm_M) (gq134 : Int), ((b01 (RIP M133) = 1) ∧ ((M133.1 98 8).toInt = (M0.1 98 8).toInt) ∧ ((M0.1 98 6).toInt ≤ (M133.1 98 6).toInt) ∧ (b01 (XW M0 M133 0 1 0) = 1) ∧ ((M133.1 98 6).toInt ≤ 900) ∧ (b01 (LL (luP gf gn 2042 2042 (atP gf gn false (suR gf gn 2))) gn ((atP gf gn false (suR gf gn 2)) gi).2.2 gq134 0 (M103.1 98 11).toInt (M103.1 98 12).toInt (M133.1 98 11).toInt (M133.1 98 12).toInt (M133.1 98 6).toInt) = 1) ∧ (b01 (TKM gf gn M133) = 1) ∧ (b01 (PO gn gq134 (M133.1 98 11).toInt (M133.1 98 6).toInt) = 1) ∧ (b01 (PI M133) = 1) ∧ (900 - (M133.1 98 6).toInt) < (n130 : Int)) → INV pr Kz M133 → FR [98, 102] M0 M133 → jj p l e (cn_R 17) s m args below meth c 0 0 Q 2 dC dI ad cA A M133 5 [(0, .ref (ad 98)), (1, .int (sI 3))] [] := by
    intro n130
    induction n130 with
    | zero =>
      intro M133 gq134 h135 hM133 fM133
      exfalso; omega
    | succ n130 ih131 =>
      intro M133 gq134 h135 hM133 fM133
      have u136l := ri_l (M := M133) (by omega)
      have u136B := tkm_b (f := gf) (n := gn) (M := M133) (by omega)
      refine j_aload_n C 0 0 dX12_readTerm_5 rfl rfl ?_
      refine y_bipush C dX12_readTerm_6 rfl ?_
      have k137 := tkm_K (f := gf) (n := gn) (M := M133) (by omega)
      have k138 := kd_2 (kdk_34 gf gn (M133.1 98 6).toInt) (by omega)
      refine j_callVi C (d := 6) (As := [.int (sI 34)]) (st := []) 98 (s_lt rfl rfl) (s_kc (c := 11) rfl rfl) (by decide) rfl (s1_X12_eats hM133 hpr 34 (by omega) gf gn gq134 (by omega) (by omega) (by omega) (by omega) (by omega)) gX12_readTerm_X12_eats rfl hdX12_eats (by decide) (Nat.le_of_ble_eq_true rfl) dX12_readTerm_8 rfl (fun r139 M140 h141 => ?_)
      obtain ⟨a143, rfl, hM140, fM140, h142⟩ := h141
      have k144 := tk_c gf gn (M140.1 98 6).toInt (M133.1 98 6).toInt
      have bM140 := tkm_b (f := gf) (n := gn) (M := M140) (by omega)
      refine y_if_eq C 29 dX12_readTerm_11 (by decide) (by omega) (fun h145 => ?_) (fun h145 => ?_)
      · have u157c := xw_c (N := M133) (P := M140) 0 (FR.cell fM140 (by decide)) (by omega)
        have u157t := xw_t (M := M0) (N := M133) (P := M140) (r1 := 0) (e1 := 1) (s1 := 0) (r2 := 0) (e2 := 0) (s2 := 0) 0 1 0 (by decide) (by omega) (by omega)
        have u157a := ca_x (M := M0) (N := M140) (r := 0) (e := 1) (s := 0) (by decide) (by omega) (by omega)
        have u157E := ll_e gf gn 2042 2042 (atP gf gn false (suR gf gn 2)) ((atP gf gn false (suR gf gn 2)) gi).2.2 gq134 0 (M103.1 98 11).toInt (M103.1 98 12).toInt (M133.1 98 11).toInt (M133.1 98 12).toInt (M133.1 98 6).toInt (by decide) (at_g gf gn (fun _ => suR_g gf gn 2)) (by omega) (by omega)
        have u157S : b01 (RR ((teP gf gn false (suR gf gn 2)) gi) (M0.1 98 11).toInt (M0.1 98 12).toInt (M133.1 98 11).toInt (M133.1 98 12).toInt (M133.1 98 6).toInt) = 1 := rr_sq ((atP gf gn false (suR gf gn 2)) gi) (luP gf gn 2042 2042 (atP gf gn false (suR gf gn 2))) (M0.1 98 11).toInt (M0.1 98 12).toInt (M103.1 98 11).toInt (M103.1 98 12).toInt (M103.1 98 6).toInt (M133.1 98 11).toInt (M133.1 98 12).toInt (M133.1 98 6).toInt (by omega) (by omega)
        have u157R := rr_eq ((teP gf gn false (suR gf gn 2)) gi) (M0.1 98 11).toInt (M0.1 98 12).toInt (M133.1 98 11).toInt (M133.1 98 12).toInt (M133.1 98 6).toInt (M140.1 98 11).toInt (M140.1 98 12).toInt (M140.1 98 6).toInt (by omega) (by omega) (by omega) (by omega)
        exact hret _ _ _ dX12_readTerm_29 ⟨hM140, ((FR.rf.tr fM133 (by decide)).tr fM140 (by decide)), by omega⟩
      · have u146c := xw_c (N := M133) (P := M140) 1 (FR.cell fM140 (by decide)) (by omega)
        have u146t := xw_t (M := M0) (N := M133) (P := M140) (r1 := 0) (e1 := 1) (s1 := 0) (r2 := 0) (e2 := 0) (s2 := 1) 0 1 1 (by decide) (by omega) (by omega)
        have u146a := ca_x (M := M0) (N := M140) (r := 0) (e := 1) (s := 1) (by decide) (by omega) (by omega)
        have u146l := ri_l (M := M140) (by omega)
        refine j_aload_n C 0 0 dX12_readTerm_14 rfl rfl ?_
        refine j_iload_n C 1 1 dX12_readTerm_15 rfl rfl ?_
        refine j_callVv C (d := 16) (As := [.int (sI 3)]) (st := []) 98 (s_lt rfl rfl) (s_kc (c := 11) rfl rfl) (by decide) rfl (s4_X12_readAtom hM140 hpr gf gn (nxF gf gn gq134) (by omega) (by omega) (by omega) (by omega) (by omega)) gX12_readTerm_X12_readAtom rfl hdX12_readAtom (by decide) (Nat.le_of_ble_eq_true rfl) dX12_readTerm_16 rfl (fun M148 h149 => ?_)
        obtain ⟨hM148, fM148, h150⟩ := h149
        have bM148 := tkm_b (f := gf) (n := gn) (M := M148) (by omega)
        have qM148 := po_rr (atP gf gn false (suR gf gn 2)) gn (nxF gf gn gq134) (M140.1 98 11).toInt (M140.1 98 12).toInt (M140.1 98 6).toInt (M148.1 98 11).toInt (M148.1 98 12).toInt (M148.1 98 6).toInt (at_g gf gn (fun _ => suR_g gf gn 2)) (by omega) (by omega)
        have u151t := xw_t (M := M0) (N := M140) (P := M148) (r1 := 0) (e1 := 1) (s1 := 1) (r2 := 0) (e2 := 1) (s2 := 0) 0 2 1 (by decide) (by omega) (by omega)
        have u151l := ri_l (M := M148) (by omega)
        have u151b := cb_x (M := M0) (N := M148) (r := 0) (e := 2) (s := 1) (by decide) (by omega) (by omega) (by omega)
        refine j_aload_n C 0 0 dX12_readTerm_19 rfl rfl ?_
        refine y_sipush C dX12_readTerm_20 rfl ?_
        refine j_callVv C (d := 0) (As := [.int (sI 3002)]) (st := []) 98 (s_lt rfl rfl) (s_kc (c := 11) rfl rfl) (by decide) rfl (s1_X12_codes hM148 hpr 3002 (by omega) gf gn ((atP gf gn false (suR gf gn 2)) (nxF gf gn gq134)).2.2 (by omega) (by omega) (by omega) (by omega)) gX12_readTerm_X12_codes rfl hdX12_codes (by decide) (Nat.le_of_ble_eq_true rfl) dX12_readTerm_23 rfl (fun M153 h154 => ?_)
        obtain ⟨hM153, fM153, h155⟩ := h154
        have bM153 := tkm_b (f := gf) (n := gn) (M := M153) (by omega)
        have qM153 := po_eq gn ((atP gf gn false (suR gf gn 2)) (nxF gf gn gq134)).2.2 (M148.1 98 11).toInt (M148.1 98 6).toInt (M153.1 98 11).toInt (M153.1 98 6).toInt (by omega) (by omega) (by omega)
        refine j_goto C 5 dX12_readTerm_26 (by decide) ?_
        have u156x := xw_a (M := M148) (N := M153) (c := 3002) (r := 2) (e := (-1)) (FR.cell fM153 (by decide)) (ap_bin ⟨(INV.rd hM148 (i := 102) (c := 48) (k := 280) rfl rfl).1, by omega, by omega⟩) (by omega)
        have u156t := xw_t (M := M0) (N := M148) (P := M153) (r1 := 0) (e1 := 2) (s1 := 1) (r2 := 2) (e2 := (-1)) (s2 := (-1)) 0 1 0 (by decide) (by omega) (by omega)
        have u156i := ri_c (M := M148) (N := M153) (FR.cell fM153 (by decide)) (by omega)
        have u156l := ri_l (M := M153) (by omega)
        have u156L := ll_w (luP gf gn 2042 2042 (atP gf gn false (suR gf gn 2))) gn ((atP gf gn false (suR gf gn 2)) gi).2.2 ((atP gf gn false (suR gf gn 2)) (nxF gf gn gq134)).2.2 (0 + 1) 0 (M103.1 98 11).toInt (M103.1 98 12).toInt (M153.1 98 11).toInt (M153.1 98 12).toInt (M153.1 98 6).toInt (by decide) (ll_s gf gn 2042 2042 (atP gf gn false (suR gf gn 2)) ((atP gf gn false (suR gf gn 2)) gi).2.2 gq134 0 (M103.1 98 11).toInt (M103.1 98 12).toInt (M133.1 98 11).toInt (M133.1 98 12).toInt (M133.1 98 6).toInt (M140.1 98 11).toInt (M140.1 98 12).toInt (M148.1 98 11).toInt (M148.1 98 12).toInt (M148.1 98 6).toInt (M153.1 98 11).toInt (M153.1 98 12).toInt (M153.1 98 6).toInt (by decide) (at_g gf gn (fun _ => suR_g gf gn 2)) (by omega) (by omega) (by omega) (by omega) (by omega) (by omega) (by omega) (by omega) (by omega))
        have zz98_8 : (M153.1 98 8).toInt = (M148.1 98 8).toInt := s_fF fM153 (by decide) (rfl); have zz98_6 : (M153.1 98 6).toInt = (M148.1 98 6).toInt := s_fF fM153 (by decide) (rfl); have zz98_12 : (M153.1 98 12).toInt = (M148.1 98 12).toInt := s_fF fM153 (by decide) (rfl); have zz98_11 : (M153.1 98 11).toInt = (M148.1 98 11).toInt := s_fF fM153 (by decide) (rfl); exact ih131 M153 ((atP gf gn false (suR gf gn 2)) (nxF gf gn gq134)).2.2 (by omega) hM153 ((((FR.rf.tr fM133 (by decide)).tr fM140 (by decide)).tr fM148 (by decide)).tr fM153 (by decide))
  exact L132 2010 M103 ((atP gf gn false (suR gf gn 2)) gi).2.2 (by omega) hM103 (FR.rf.tr fM103 (by decide))
set_option maxHeartbeats 4000000 in
theorem s4_X12_readSum {l : Launch} {dC : Nat → ClassId} {dI : Nat → Nat → Nat} {ad : Nat → Nat} {cA : Nat → ClassId} {pr : Nat → Nat → Bool} {Kz : mm_M} {M0 : mm_M} (hM0 : INV pr Kz M0) (hpr : PM pr) (gf : Nat → Int) (gn : Int) (gi : Int) (hp0 : b01 (RIP M0) = 1) (hp1 : b01 (CA M0) = 1) (hp2 : b01 (TKM gf gn M0) = 1) (hp3 : b01 (PO gn gi (M0.1 98 11).toInt (M0.1 98 6).toInt) = 1) (hp4 : b01 (PI M0) = 1) : Cv l 18 yX12_readSum wsX12_readSum dC dI ad cA [.ref (ad 98), .int (sI 3)] M0 (fun M' => INV pr Kz M' ∧ FR [98, 102] M0 M' ∧ (b01 (RIP M') = 1) ∧ ((M'.1 98 8).toInt = (M0.1 98 8).toInt) ∧ ((M0.1 98 6).toInt ≤ (M'.1 98 6).toInt) ∧ (b01 (XW M0 M' 0 1 0) = 1) ∧ (b01 (CA M') = 1) ∧ (b01 (PI M') = 1) ∧ (b01 (TKM gf gn M') = 1) ∧ b01 (RR ((suR gf gn 3) gi) (M0.1 98 11).toInt (M0.1 98 12).toInt (M'.1 98 11).toInt (M'.1 98 12).toInt (M'.1 98 6).toInt) = 1) := by
  refine cv_of (cc := cX12_readSum) (maxL := 3) (lv := [(0, .ref (ad 98)), (1, .int (sI 3))]) (by decide) rfl (Nat.le_of_ble_eq_true rfl) rfl ?_
  intro p e s m args below meth c A Q C hret
  have u101z := xw_0 M0
  have u101l := ri_l (M := M0) (by omega)
  refine j_aload_n C 0 0 dX12_readSum_0 rfl rfl ?_
  refine j_iload_n C 1 1 dX12_readSum_1 rfl rfl ?_
  refine j_callVv C (d := 17) (As := [.int (sI 3)]) (st := []) 98 (s_lt rfl rfl) (s_kc (c := 11) rfl rfl) (by decide) rfl (s4_X12_readTerm hM0 hpr gf gn gi (by omega) (by omega) (by omega) (by omega) (by omega)) gX12_readSum_X12_readTerm rfl hdX12_readTerm (by decide) (Nat.le_of_ble_eq_true rfl) dX12_readSum_2 rfl (fun M103 h104 => ?_)
  obtain ⟨hM103, fM103, h105⟩ := h104
  have bM103 := tkm_b (f := gf) (n := gn) (M := M103) (by omega)
  have qM103 := po_rr (teP gf gn false (suR gf gn 2)) gn gi (M0.1 98 11).toInt (M0.1 98 12).toInt (M0.1 98 6).toInt (M103.1 98 11).toInt (M103.1 98 12).toInt (M103.1 98 6).toInt (te_g gf gn (fun _ => suR_g gf gn 2)) (by omega) (by omega)
  have u106l := ri_l (M := M103) (by omega)
  have u106L := ll_0 (luP gf gn 2043 2045 (teP gf gn false (suR gf gn 2))) gn ((teP gf gn false (suR gf gn 2)) gi).2.2 (M103.1 98 11).toInt (M103.1 98 12).toInt (M103.1 98 6).toInt (by omega)
  have L176 : ∀ (n174 : Nat), ∀ (M177 : mm_M) (gq178 : Int), ((b01 (RIP M177) = 1) ∧ ((M177.1 98 8).toInt = (M0.1 98 8).toInt) ∧ ((M0.1 98 6).toInt ≤ (M177.1 98 6).toInt) ∧ (b01 (XW M0 M177 0 1 0) = 1) ∧ ((M177.1 98 6).toInt ≤ 900) ∧ (b01 (LL (luP gf gn 2043 2045 (teP gf gn false (suR gf gn 2))) gn ((teP gf gn false (suR gf gn 2)) gi).2.2 gq178 0 (M103.1 98 11).toInt (M103.1 98 12).toInt (M177.1 98 11).toInt (M177.1 98 12).toInt (M177.1 98 6).toInt) = 1) ∧ (b01 (TKM gf gn M177) = 1) ∧ (b01 (PO gn gq178 (M177.1 98 11).toInt (M177.1 98 6).toInt) = 1) ∧ (b01 (PI M177) = 1) ∧ (900 - (M177.1 98 6).toInt) < (n174 : Int)) → INV pr Kz M177 → FR [98, 102] M0 M177 → jj p l e (cn_R 18) s m args below meth c 0 0 Q 3 dC dI ad cA A M177 5 [(0, .ref (ad 98)), (1, .int (sI 3))] [] := by
    intro n174
    induction n174 with
    | zero =>
      intro M177 gq178 h179 hM177 fM177
      exfalso; omega
    | succ n174 ih175 =>
      intro M177 gq178 h179 hM177 fM177
      have u180l := ri_l (M := M177) (by omega)
      have u180B := tkm_b (f := gf) (n := gn) (M := M177) (by omega)
      refine j_aload_n C 0 0 dX12_readSum_5 rfl rfl ?_
      refine y_bipush C dX12_readSum_6 rfl ?_
      have k181 := tkm_K (f := gf) (n := gn) (M := M177) (by omega)
      have k182 := kd_2 (kdk_32 gf gn (M177.1 98 6).toInt) (by omega)
      refine j_callVi C (d := 0) (As := [.int (sI 32)]) (st := []) 98 (s_lt rfl rfl) (s_kc (c := 11) rfl rfl) (by decide) rfl (s1_X12_is hM177 32 (by omega)) gX12_readSum_X12_is rfl hdX12_is (by decide) (Nat.le_of_ble_eq_true rfl) dX12_readSum_8 rfl (fun r183 M184 h185 => ?_)
      obtain ⟨a187, rfl, rfl, h186⟩ := h185
      refine y_if_ne C 23 dX12_readSum_11 (by decide) (by omega) (fun h188 => ?_) (fun h188 => ?_)
      · refine j_aload_n C 0 0 dX12_readSum_23 rfl rfl ?_
        refine y_getI C 11 _ _ fX12_readSum_108 rfl rfl ft_11_9 sb_11_9 hM177 dX12_readSum_24 (fun a189 ea189 la189 ua189 => ?_)
        obtain rfl : a189 = (M177.1 98 9).toInt := ea189
        refine y_bipush C dX12_readSum_27 rfl ?_
        have J193 : ∀ (a192 : Int), (3000 ≤ a192 ∧ a192 ≤ 3001) → jj p l e (cn_R 18) s m args below meth c 0 0 Q 3 dC dI ad cA A M177 41 [(0, .ref (ad 98)), (1, .int (sI 3))] [.int (sI a192)] := by
          intro a192 h194
          refine j_istore_n C 2 [(2, .int (sI a192)), (0, .ref (ad 98)), (1, .int (sI 3))] dX12_readSum_41 rfl (by decide) rfl ?_
          have u195k := ri_k (M := M177) (by omega) (by omega)
          refine j_aload_n C 1 0 dX12_readSum_42 rfl rfl ?_
          have k196 := tkm_p (f := gf) (n := gn) (M := M177) (by omega)
          have k197 := tkm_K (f := gf) (n := gn) (M := M177) (by omega)
          refine j_callVv C (d := 5) (As := []) (st := []) 98 (s_lt rfl rfl) (s_kc (c := 11) rfl rfl) (by decide) rfl (s1_X12_next hM177 hpr gf gn (by omega) (by omega) (by omega) (by omega)) gX12_readSum_X12_next rfl hdX12_next (by decide) (Nat.le_of_ble_eq_true rfl) dX12_readSum_43 rfl (fun M199 h200 => ?_)
          obtain ⟨hM199, fM199, h201⟩ := h200
          have bM199 := tkm_b (f := gf) (n := gn) (M := M199) (by omega)
          have qM199 := nx_po (f := gf) (n := gn) (i := gq178) (M := M177) (M' := M199) (by omega) (by omega) (by omega) (by omega) (by omega)
          have u202c := xw_c (N := M177) (P := M199) 1 (FR.cell fM199 (by decide)) (by omega)
          have u202t := xw_t (M := M0) (N := M177) (P := M199) (r1 := 0) (e1 := 1) (s1 := 0) (r2 := 0) (e2 := 0) (s2 := 1) 0 1 1 (by decide) (by omega) (by omega)
          have u202a := ca_x (M := M0) (N := M199) (r := 0) (e := 1) (s := 1) (by decide) (by omega) (by omega)
          have u202l := ri_l (M := M199) (by omega)
          refine j_aload_n C 1 0 dX12_readSum_46 rfl rfl ?_
          refine j_iload_n C 2 1 dX12_readSum_47 rfl rfl ?_
          refine j_callVv C (d := 17) (As := [.int (sI 3)]) (st := []) 98 (s_lt rfl rfl) (s_kc (c := 11) rfl rfl) (by decide) rfl (s4_X12_readTerm hM199 hpr gf gn (nxF gf gn gq178) (by omega) (by omega) (by omega) (by omega) (by omega)) gX12_readSum_X12_readTerm rfl hdX12_readTerm (by decide) (Nat.le_of_ble_eq_true rfl) dX12_readSum_48 rfl (fun M204 h205 => ?_)
          obtain ⟨hM204, fM204, h206⟩ := h205
          have bM204 := tkm_b (f := gf) (n := gn) (M := M204) (by omega)
          have qM204 := po_rr (teP gf gn false (suR gf gn 2)) gn (nxF gf gn gq178) (M199.1 98 11).toInt (M199.1 98 12).toInt (M199.1 98 6).toInt (M204.1 98 11).toInt (M204.1 98 12).toInt (M204.1 98 6).toInt (te_g gf gn (fun _ => suR_g gf gn 2)) (by omega) (by omega)
          have u207t := xw_t (M := M0) (N := M199) (P := M204) (r1 := 0) (e1 := 1) (s1 := 1) (r2 := 0) (e2 := 1) (s2 := 0) 0 2 1 (by decide) (by omega) (by omega)
          have u207l := ri_l (M := M204) (by omega)
          have u207b := cb_x (M := M0) (N := M204) (r := 0) (e := 2) (s := 1) (by decide) (by omega) (by omega) (by omega)
          refine j_aload_n C 1 0 dX12_readSum_51 rfl rfl ?_
          refine j_iload_n C 0 2 dX12_readSum_52 rfl rfl ?_
          refine j_callVv C (d := 0) (As := [.int (sI a192)]) (st := []) 98 (s_lt rfl rfl) (s_kc (c := 11) rfl rfl) (by decide) rfl (s1_X12_codes hM204 hpr a192 (by omega) gf gn ((teP gf gn false (suR gf gn 2)) (nxF gf gn gq178)).2.2 (by omega) (by omega) (by omega) (by omega)) gX12_readSum_X12_codes rfl hdX12_codes (by decide) (Nat.le_of_ble_eq_true rfl) dX12_readSum_53 rfl (fun M209 h210 => ?_)
          obtain ⟨hM209, fM209, h211⟩ := h210
          have bM209 := tkm_b (f := gf) (n := gn) (M := M209) (by omega)
          have qM209 := po_eq gn ((teP gf gn false (suR gf gn 2)) (nxF gf gn gq178)).2.2 (M204.1 98 11).toInt (M204.1 98 6).toInt (M209.1 98 11).toInt (M209.1 98 6).toInt (by omega) (by omega) (by omega)
          refine j_goto C 5 dX12_readSum_56 (by decide) ?_
          have u212x := xw_a (M := M204) (N := M209) (c := a192) (r := 2) (e := (-1)) (FR.cell fM209 (by decide)) (ap_bin ⟨(INV.rd hM204 (i := 102) (c := 48) (k := 280) rfl rfl).1, by omega, by omega⟩) (by omega)
          have u212t := xw_t (M := M0) (N := M204) (P := M209) (r1 := 0) (e1 := 2) (s1 := 1) (r2 := 2) (e2 := (-1)) (s2 := (-1)) 0 1 0 (by decide) (by omega) (by omega)
          have u212i := ri_c (M := M204) (N := M209) (FR.cell fM209 (by decide)) (by omega)
          have u212l := ri_l (M := M209) (by omega)
          have u212L := ll_w (luP gf gn 2043 2045 (teP gf gn false (suR gf gn 2))) gn ((teP gf gn false (suR gf gn 2)) gi).2.2 ((teP gf gn false (suR gf gn 2)) (nxF gf gn gq178)).2.2 (0 + 1) 0 (M103.1 98 11).toInt (M103.1 98 12).toInt (M209.1 98 11).toInt (M209.1 98 12).toInt (M209.1 98 6).toInt (by decide) (ll_s gf gn 2043 2045 (teP gf gn false (suR gf gn 2)) ((teP gf gn false (suR gf gn 2)) gi).2.2 gq178 0 (M103.1 98 11).toInt (M103.1 98 12).toInt (M177.1 98 11).toInt (M177.1 98 12).toInt (M177.1 98 6).toInt (M199.1 98 11).toInt (M199.1 98 12).toInt (M204.1 98 11).toInt (M204.1 98 12).toInt (M204.1 98 6).toInt (M209.1 98 11).toInt (M209.1 98 12).toInt (M209.1 98 6).toInt (by decide) (te_g gf gn (fun _ => suR_g gf gn 2)) (by omega) (by omega) (by omega) (by omega) (by omega) (by omega) (by omega) (by omega) (by omega))
          have zz98_8 : (M209.1 98 8).toInt = (M204.1 98 8).toInt := s_fF fM209 (by decide) (rfl); have zz98_6 : (M209.1 98 6).toInt = (M204.1 98 6).toInt := s_fF fM209 (by decide) (rfl); have zz98_12 : (M209.1 98 12).toInt = (M204.1 98 12).toInt := s_fF fM209 (by decide) (rfl); have zz98_11 : (M209.1 98 11).toInt = (M204.1 98 11).toInt := s_fF fM209 (by decide) (rfl); refine j_lv [1, 2] rfl ?_; exact ih175 M209 ((teP gf gn false (suR gf gn 2)) (nxF gf gn gq178)).2.2 (by omega) hM209 ((((FR.rf.tr fM177 (by decide)).tr fM199 (by decide)).tr fM204 (by decide)).tr fM209 (by decide))
        refine y_icmp_ne C 38 dX12_readSum_29 (by decide) (by omega) (fun h191 => ?_) (fun h191 => ?_)
        · refine y_sipush C dX12_readSum_38 rfl ?_
          exact J193 3001 (by omega)
        · refine y_sipush C dX12_readSum_32 rfl ?_
          refine j_goto C 41 dX12_readSum_35 (by decide) ?_
          exact J193 3000 (by omega)
      · refine j_aload_n C 0 0 dX12_readSum_14 rfl rfl ?_
        refine y_bipush C dX12_readSum_15 rfl ?_
        have k213 := tkm_K (f := gf) (n := gn) (M := M177) (by omega)
        have k214 := kd_2 (kdk_33 gf gn (M177.1 98 6).toInt) (by omega)
        refine j_callVi C (d := 0) (As := [.int (sI 33)]) (st := []) 98 (s_lt rfl rfl) (s_kc (c := 11) rfl rfl) (by decide) rfl (s1_X12_is hM177 33 (by omega)) gX12_readSum_X12_is rfl hdX12_is (by decide) (Nat.le_of_ble_eq_true rfl) dX12_readSum_17 rfl (fun r215 M216 h217 => ?_)
        obtain ⟨a219, rfl, rfl, h218⟩ := h217
        refine y_if_eq C 59 dX12_readSum_20 (by decide) (by omega) (fun h220 => ?_) (fun h220 => ?_)
        · have u245a := ca_x (M := M0) (N := M177) (r := 0) (e := 1) (s := 0) (by decide) (by omega) (by omega)
          have u245E := ll_e gf gn 2043 2045 (teP gf gn false (suR gf gn 2)) ((teP gf gn false (suR gf gn 2)) gi).2.2 gq178 0 (M103.1 98 11).toInt (M103.1 98 12).toInt (M177.1 98 11).toInt (M177.1 98 12).toInt (M177.1 98 6).toInt (by decide) (te_g gf gn (fun _ => suR_g gf gn 2)) (by omega) (by omega)
          have u245S : b01 (RR ((suR gf gn 3) gi) (M0.1 98 11).toInt (M0.1 98 12).toInt (M177.1 98 11).toInt (M177.1 98 12).toInt (M177.1 98 6).toInt) = 1 := by rw [su_q gf gn 2 3 rfl]; exact rr_sq ((teP gf gn false (suR gf gn 2)) gi) (luP gf gn 2043 2045 (teP gf gn false (suR gf gn 2))) (M0.1 98 11).toInt (M0.1 98 12).toInt (M103.1 98 11).toInt (M103.1 98 12).toInt (M103.1 98 6).toInt (M177.1 98 11).toInt (M177.1 98 12).toInt (M177.1 98 6).toInt (by omega) (by omega)
          exact hret _ _ _ dX12_readSum_59 ⟨hM177, (FR.rf.tr fM177 (by decide)), by omega⟩
        · refine j_aload_n C 0 0 dX12_readSum_23 rfl rfl ?_
          refine y_getI C 11 _ _ fX12_readSum_108 rfl rfl ft_11_9 sb_11_9 hM177 dX12_readSum_24 (fun a221 ea221 la221 ua221 => ?_)
          obtain rfl : a221 = (M177.1 98 9).toInt := ea221
          refine y_bipush C dX12_readSum_27 rfl ?_
          have J225 : ∀ (a224 : Int), (3000 ≤ a224 ∧ a224 ≤ 3001) → jj p l e (cn_R 18) s m args below meth c 0 0 Q 3 dC dI ad cA A M177 41 [(0, .ref (ad 98)), (1, .int (sI 3))] [.int (sI a224)] := by
            intro a224 h226
            refine j_istore_n C 2 [(2, .int (sI a224)), (0, .ref (ad 98)), (1, .int (sI 3))] dX12_readSum_41 rfl (by decide) rfl ?_
            have u227k := ri_k (M := M177) (by omega) (by omega)
            refine j_aload_n C 1 0 dX12_readSum_42 rfl rfl ?_
            have k228 := tkm_p (f := gf) (n := gn) (M := M177) (by omega)
            have k229 := tkm_K (f := gf) (n := gn) (M := M177) (by omega)
            refine j_callVv C (d := 5) (As := []) (st := []) 98 (s_lt rfl rfl) (s_kc (c := 11) rfl rfl) (by decide) rfl (s1_X12_next hM177 hpr gf gn (by omega) (by omega) (by omega) (by omega)) gX12_readSum_X12_next rfl hdX12_next (by decide) (Nat.le_of_ble_eq_true rfl) dX12_readSum_43 rfl (fun M231 h232 => ?_)
            obtain ⟨hM231, fM231, h233⟩ := h232
            have bM231 := tkm_b (f := gf) (n := gn) (M := M231) (by omega)
            have qM231 := nx_po (f := gf) (n := gn) (i := gq178) (M := M177) (M' := M231) (by omega) (by omega) (by omega) (by omega) (by omega)
            have u234c := xw_c (N := M177) (P := M231) 1 (FR.cell fM231 (by decide)) (by omega)
            have u234t := xw_t (M := M0) (N := M177) (P := M231) (r1 := 0) (e1 := 1) (s1 := 0) (r2 := 0) (e2 := 0) (s2 := 1) 0 1 1 (by decide) (by omega) (by omega)
            have u234a := ca_x (M := M0) (N := M231) (r := 0) (e := 1) (s := 1) (by decide) (by omega) (by omega)
            have u234l := ri_l (M := M231) (by omega)
            refine j_aload_n C 1 0 dX12_readSum_46 rfl rfl ?_
            refine j_iload_n C 2 1 dX12_readSum_47 rfl rfl ?_
            refine j_callVv C (d := 17) (As := [.int (sI 3)]) (st := []) 98 (s_lt rfl rfl) (s_kc (c := 11) rfl rfl) (by decide) rfl (s4_X12_readTerm hM231 hpr gf gn (nxF gf gn gq178) (by omega) (by omega) (by omega) (by omega) (by omega)) gX12_readSum_X12_readTerm rfl hdX12_readTerm (by decide) (Nat.le_of_ble_eq_true rfl) dX12_readSum_48 rfl (fun M236 h237 => ?_)
            obtain ⟨hM236, fM236, h238⟩ := h237
            have bM236 := tkm_b (f := gf) (n := gn) (M := M236) (by omega)
            have qM236 := po_rr (teP gf gn false (suR gf gn 2)) gn (nxF gf gn gq178) (M231.1 98 11).toInt (M231.1 98 12).toInt (M231.1 98 6).toInt (M236.1 98 11).toInt (M236.1 98 12).toInt (M236.1 98 6).toInt (te_g gf gn (fun _ => suR_g gf gn 2)) (by omega) (by omega)
            have u239t := xw_t (M := M0) (N := M231) (P := M236) (r1 := 0) (e1 := 1) (s1 := 1) (r2 := 0) (e2 := 1) (s2 := 0) 0 2 1 (by decide) (by omega) (by omega)
            have u239l := ri_l (M := M236) (by omega)
            have u239b := cb_x (M := M0) (N := M236) (r := 0) (e := 2) (s := 1) (by decide) (by omega) (by omega) (by omega)
            refine j_aload_n C 1 0 dX12_readSum_51 rfl rfl ?_
            refine j_iload_n C 0 2 dX12_readSum_52 rfl rfl ?_
            refine j_callVv C (d := 0) (As := [.int (sI a224)]) (st := []) 98 (s_lt rfl rfl) (s_kc (c := 11) rfl rfl) (by decide) rfl (s1_X12_codes hM236 hpr a224 (by omega) gf gn ((teP gf gn false (suR gf gn 2)) (nxF gf gn gq178)).2.2 (by omega) (by omega) (by omega) (by omega)) gX12_readSum_X12_codes rfl hdX12_codes (by decide) (Nat.le_of_ble_eq_true rfl) dX12_readSum_53 rfl (fun M241 h242 => ?_)
            obtain ⟨hM241, fM241, h243⟩ := h242
            have bM241 := tkm_b (f := gf) (n := gn) (M := M241) (by omega)
            have qM241 := po_eq gn ((teP gf gn false (suR gf gn 2)) (nxF gf gn gq178)).2.2 (M236.1 98 11).toInt (M236.1 98 6).toInt (M241.1 98 11).toInt (M241.1 98 6).toInt (by omega) (by omega) (by omega)
            refine j_goto C 5 dX12_readSum_56 (by decide) ?_
            have u244x := xw_a (M := M236) (N := M241) (c := a224) (r := 2) (e := (-1)) (FR.cell fM241 (by decide)) (ap_bin ⟨(INV.rd hM236 (i := 102) (c := 48) (k := 280) rfl rfl).1, by omega, by omega⟩) (by omega)
            have u244t := xw_t (M := M0) (N := M236) (P := M241) (r1 := 0) (e1 := 2) (s1 := 1) (r2 := 2) (e2 := (-1)) (s2 := (-1)) 0 1 0 (by decide) (by omega) (by omega)
            have u244i := ri_c (M := M236) (N := M241) (FR.cell fM241 (by decide)) (by omega)
            have u244l := ri_l (M := M241) (by omega)
            have u244L := ll_w (luP gf gn 2043 2045 (teP gf gn false (suR gf gn 2))) gn ((teP gf gn false (suR gf gn 2)) gi).2.2 ((teP gf gn false (suR gf gn 2)) (nxF gf gn gq178)).2.2 (0 + 1) 0 (M103.1 98 11).toInt (M103.1 98 12).toInt (M241.1 98 11).toInt (M241.1 98 12).toInt (M241.1 98 6).toInt (by decide) (ll_s gf gn 2043 2045 (teP gf gn false (suR gf gn 2)) ((teP gf gn false (suR gf gn 2)) gi).2.2 gq178 0 (M103.1 98 11).toInt (M103.1 98 12).toInt (M177.1 98 11).toInt (M177.1 98 12).toInt (M177.1 98 6).toInt (M231.1 98 11).toInt (M231.1 98 12).toInt (M236.1 98 11).toInt (M236.1 98 12).toInt (M236.1 98 6).toInt (M241.1 98 11).toInt (M241.1 98 12).toInt (M241.1 98 6).toInt (by decide) (te_g gf gn (fun _ => suR_g gf gn 2)) (by omega) (by omega) (by omega) (by omega) (by omega) (by omega) (by omega) (by omega) (by omega))
            have zz98_8 : (M241.1 98 8).toInt = (M236.1 98 8).toInt := s_fF fM241 (by decide) (rfl); have zz98_6 : (M241.1 98 6).toInt = (M236.1 98 6).toInt := s_fF fM241 (by decide) (rfl); have zz98_12 : (M241.1 98 12).toInt = (M236.1 98 12).toInt := s_fF fM241 (by decide) (rfl); have zz98_11 : (M241.1 98 11).toInt = (M236.1 98 11).toInt := s_fF fM241 (by decide) (rfl); refine j_lv [1, 2] rfl ?_; exact ih175 M241 ((teP gf gn false (suR gf gn 2)) (nxF gf gn gq178)).2.2 (by omega) hM241 ((((FR.rf.tr fM177 (by decide)).tr fM231 (by decide)).tr fM236 (by decide)).tr fM241 (by decide))
          refine y_icmp_ne C 38 dX12_readSum_29 (by decide) (by omega) (fun h223 => ?_) (fun h223 => ?_)
          · refine y_sipush C dX12_readSum_38 rfl ?_
            exact J225 3001 (by omega)
          · refine y_sipush C dX12_readSum_32 rfl ?_
            refine j_goto C 41 dX12_readSum_35 (by decide) ?_
            exact J225 3000 (by omega)
  exact L176 2010 M103 ((teP gf gn false (suR gf gn 2)) gi).2.2 (by omega) hM103 (FR.rf.tr fM103 (by decide))
set_option maxHeartbeats 4000000 in
theorem s5_X12_readAtom {l : Launch} {dC : Nat → ClassId} {dI : Nat → Nat → Nat} {ad : Nat → Nat} {cA : Nat → ClassId} {pr : Nat → Nat → Bool} {Kz : mm_M} {M0 : mm_M} (hM0 : INV pr Kz M0) (hpr : PM pr) (gf : Nat → Int) (gn : Int) (gi : Int) (hp0 : b01 (RIP M0) = 1) (hp1 : b01 (CA M0) = 1) (hp2 : b01 (TKM gf gn M0) = 1) (hp3 : b01 (PO gn gi (M0.1 98 11).toInt (M0.1 98 6).toInt) = 1) (hp4 : b01 (PI M0) = 1) : Cv l 19 yX12_readAtom wsX12_readAtom dC dI ad cA [.ref (ad 98), .int (sI 2)] M0 (fun M' => INV pr Kz M' ∧ FR [98, 102] M0 M' ∧ (b01 (RIP M') = 1) ∧ ((M'.1 98 8).toInt = (M0.1 98 8).toInt) ∧ ((M0.1 98 6).toInt ≤ (M'.1 98 6).toInt) ∧ (b01 (XW M0 M' 0 1 0) = 1) ∧ (b01 (CA M') = 1) ∧ (b01 (PI M') = 1) ∧ (b01 (TKM gf gn M') = 1) ∧ b01 (RR ((atP gf gn false (suR gf gn 3)) gi) (M0.1 98 11).toInt (M0.1 98 12).toInt (M'.1 98 11).toInt (M'.1 98 12).toInt (M'.1 98 6).toInt) = 1) := by
  refine cv_of (cc := cX12_readAtom) (maxL := 2) (lv := [(0, .ref (ad 98)), (1, .int (sI 2))]) (by decide) rfl (Nat.le_of_ble_eq_true rfl) rfl ?_
  intro p e s m args below meth c A Q C hret
  have u101z := xw_0 M0
  have u101l := ri_l (M := M0) (by omega)
  refine j_aload_n C 0 0 dX12_readAtom_0 rfl rfl ?_
  refine y_bipush C dX12_readAtom_1 rfl ?_
  have k102 := tkm_K (f := gf) (n := gn) (M := M0) (by omega)
  have k103 := kd_2 (kd_23 gf gn (M0.1 98 6).toInt) (by omega)
  refine j_callVi C (d := 0) (As := [.int (sI 23)]) (st := []) 98 (s_lt rfl rfl) (s_kc (c := 11) rfl rfl) (by decide) rfl (s1_X12_is hM0 23 (by omega)) gX12_readAtom_X12_is rfl hdX12_is (by decide) (Nat.le_of_ble_eq_true rfl) dX12_readAtom_3 rfl (fun r104 M105 h106 => ?_)
  obtain ⟨a108, rfl, rfl, h107⟩ := h106
  refine y_if_eq C 24 dX12_readAtom_6 (by decide) (by omega) (fun h109 => ?_) (fun h109 => ?_)
  · refine j_aload_n C 0 0 dX12_readAtom_24 rfl rfl ?_
    refine y_getI C 11 _ _ fX12_readAtom_126 rfl rfl ft_11_11 sb_11_11 hM0 dX12_readAtom_25 (fun a110 ea110 la110 ua110 => ?_)
    obtain rfl : a110 = (M0.1 98 11).toInt := ea110
    refine y_if_ne C 66 dX12_readAtom_28 (by decide) (by omega) (fun h112 => ?_) (fun h112 => ?_)
    · refine j_aload_n C 0 0 dX12_readAtom_66 rfl rfl ?_
      refine y_bipush C dX12_readAtom_67 rfl ?_
      have k113 := tkm_K (f := gf) (n := gn) (M := M0) (by omega)
      have k114 := kd_2 (kdk_35 gf gn (M0.1 98 6).toInt) (by omega)
      refine j_callVi C (d := 0) (As := [.int (sI 35)]) (st := []) 98 (s_lt rfl rfl) (s_kc (c := 11) rfl rfl) (by decide) rfl (s1_X12_is hM0 35 (by omega)) gX12_readAtom_X12_is rfl hdX12_is (by decide) (Nat.le_of_ble_eq_true rfl) dX12_readAtom_69 rfl (fun r115 M116 h117 => ?_)
      obtain ⟨a119, rfl, rfl, h118⟩ := h117
      refine y_if_eq C 108 dX12_readAtom_72 (by decide) (by omega) (fun h120 => ?_) (fun h120 => ?_)
      · refine j_aload_n C 0 0 dX12_readAtom_108 rfl rfl ?_
        refine y_iconst C dX12_readAtom_109 ?_
        refine j_callVv C (d := 0) (As := [.int (sI 2)]) (st := []) 98 (s_lt rfl rfl) (s_kc (c := 11) rfl rfl) (by decide) rfl (s1_X12_fails hM0 hpr 2 (by omega) gf gn gi (by omega) (by omega) (by omega) (by omega) (by omega)) gX12_readAtom_X12_fails rfl hdX12_fails (by decide) (Nat.le_of_ble_eq_true rfl) dX12_readAtom_110 rfl (fun M122 h123 => ?_)
        obtain ⟨hM122, fM122, h124⟩ := h123
        have bM122 := tkm_b (f := gf) (n := gn) (M := M122) (by omega)
        have qM122 := po_f gn ((faQ gf gn 2) gi).2.2 (M122.1 98 11).toInt (M122.1 98 6).toInt (by omega)
        have u125f : b01 (XW M0 M122 0 1 0) = 1 := b01_i (Or.inl (by omega))
        have u125a := ca_x (M := M0) (N := M122) (r := 0) (e := 1) (s := 0) (by decide) (by omega) (by omega)
        have u125r := at_4z gf gn false (suR gf gn 3) gi (M0.1 98 11).toInt (M0.1 98 12).toInt (M0.1 98 6).toInt (M122.1 98 11).toInt (M122.1 98 12).toInt (M122.1 98 6).toInt (by omega) (by omega) (by omega)
        exact hret _ _ _ dX12_readAtom_113 ⟨hM122, (FR.rf.tr fM122 (by decide)), by omega⟩
      · have u126k := ri_k (M := M0) (by omega) (by omega)
        refine j_aload_n C 0 0 dX12_readAtom_75 rfl rfl ?_
        refine j_iload_n C 1 1 dX12_readAtom_76 rfl rfl ?_
        refine j_callVi C (d := 6) (As := [.int (sI 2)]) (st := []) 98 (s_lt rfl rfl) (s_kc (c := 11) rfl rfl) (by decide) rfl (s3_X12_goesIn hM0 hpr gf gn gi (by omega) (by omega) (by omega) (by omega) (by omega) (by omega) (by omega)) gX12_readAtom_X12_goesIn rfl hdX12_goesIn (by decide) (Nat.le_of_ble_eq_true rfl) dX12_readAtom_77 rfl (fun r127 M128 h129 => ?_)
        obtain ⟨a131, rfl, hM128, fM128, h130⟩ := h129
        have bM128 := tkm_b (f := gf) (n := gn) (M := M128) (by omega)
        refine y_if_ne C 84 dX12_readAtom_80 (by decide) (by omega) (fun h132 => ?_) (fun h132 => ?_)
        · have u133c := xw_c (N := M0) (P := M128) 1 (FR.cell fM128 (by decide)) (by omega)
          have u133t := xw_t (M := M0) (N := M0) (P := M128) (r1 := 0) (e1 := 0) (s1 := 0) (r2 := 0) (e2 := 0) (s2 := 1) 0 0 1 (by decide) (by omega) (by omega)
          have u133a := ca_x (M := M0) (N := M128) (r := 0) (e := 0) (s := 1) (by decide) (by omega) (by omega)
          have u133l := ri_l (M := M128) (by omega)
          refine j_aload_n C 0 0 dX12_readAtom_84 rfl rfl ?_
          refine j_iload_n C 1 1 dX12_readAtom_85 rfl rfl ?_
          refine y_iconst C dX12_readAtom_86 ?_
          refine y_iadd C dX12_readAtom_87 ?_
          refine j_callVv C (d := 18) (As := [.int (sI (2 + 1))]) (st := []) 98 (s_lt rfl rfl) (s_kc (c := 11) rfl rfl) (by decide) rfl (s4_X12_readSum hM128 hpr gf gn (nxF gf gn gi) (by omega) (by omega) (by omega) (by omega) (by omega)) gX12_readAtom_X12_readSum rfl hdX12_readSum (by decide) (Nat.le_of_ble_eq_true rfl) dX12_readAtom_88 rfl (fun M135 h136 => ?_)
          obtain ⟨hM135, fM135, h137⟩ := h136
          have bM135 := tkm_b (f := gf) (n := gn) (M := M135) (by omega)
          have qM135 := po_rr (suR gf gn 3) gn (nxF gf gn gi) (M128.1 98 11).toInt (M128.1 98 12).toInt (M128.1 98 6).toInt (M135.1 98 11).toInt (M135.1 98 12).toInt (M135.1 98 6).toInt (suR_g gf gn 3) (by omega) (by omega)
          have u138t := xw_t (M := M0) (N := M128) (P := M135) (r1 := 0) (e1 := 0) (s1 := 1) (r2 := 0) (e2 := 1) (s2 := 0) 0 1 1 (by decide) (by omega) (by omega)
          have u138l := ri_l (M := M135) (by omega)
          refine j_aload_n C 0 0 dX12_readAtom_91 rfl rfl ?_
          refine y_bipush C dX12_readAtom_92 rfl ?_
          have k139 := tkm_K (f := gf) (n := gn) (M := M135) (by omega)
          have k140 := kd_2 (kdk_36 gf gn (M135.1 98 6).toInt) (by omega)
          refine j_callVi C (d := 6) (As := [.int (sI 36)]) (st := []) 98 (s_lt rfl rfl) (s_kc (c := 11) rfl rfl) (by decide) rfl (s1_X12_eats hM135 hpr 36 (by omega) gf gn ((suR gf gn 3) (nxF gf gn gi)).2.2 (by omega) (by omega) (by omega) (by omega) (by omega)) gX12_readAtom_X12_eats rfl hdX12_eats (by decide) (Nat.le_of_ble_eq_true rfl) dX12_readAtom_94 rfl (fun r141 M142 h143 => ?_)
          obtain ⟨a145, rfl, hM142, fM142, h144⟩ := h143
          have k146 := tk_c gf gn (M142.1 98 6).toInt (M135.1 98 6).toInt
          have bM142 := tkm_b (f := gf) (n := gn) (M := M142) (by omega)
          have u147c := xw_c (N := M135) (P := M142) 0 (FR.cell fM142 (by decide)) (by omega)
          have u147t := xw_t (M := M0) (N := M135) (P := M142) (r1 := 0) (e1 := 1) (s1 := 1) (r2 := 0) (e2 := 0) (s2 := 0) 0 1 0 (by decide) (by omega) (by omega)
          have u147a := ca_x (M := M0) (N := M142) (r := 0) (e := 1) (s := 0) (by decide) (by omega) (by omega)
          have u147l := ri_l (M := M142) (by omega)
          refine y_if_ne C 113 dX12_readAtom_97 (by decide) (by omega) (fun h148 => ?_) (fun h148 => ?_)
          · have u149x := ex_1 gf gn 2041 ((suR gf gn 3) (nxF gf gn gi)).2.2 (M135.1 98 11).toInt (M135.1 98 12).toInt (M135.1 98 6).toInt (M142.1 98 11).toInt (M142.1 98 12).toInt (M142.1 98 6).toInt (by omega) (by omega) (by omega) (by omega) (by omega) (by omega)
            have u149r := at_2 gf gn (suR gf gn 3) gi (M0.1 98 11).toInt (M0.1 98 12).toInt (M0.1 98 6).toInt (M128.1 98 11).toInt (M128.1 98 12).toInt (M135.1 98 11).toInt (M135.1 98 12).toInt (M135.1 98 6).toInt (M142.1 98 11).toInt (M142.1 98 12).toInt (M142.1 98 6).toInt (by omega) (by omega) (by omega) (by omega) (by omega) (by omega)
            exact hret _ _ _ dX12_readAtom_113 ⟨hM142, (((FR.rf.tr fM128 (by decide)).tr fM135 (by decide)).tr fM142 (by decide)), by omega⟩
          · refine j_aload_n C 0 0 dX12_readAtom_100 rfl rfl ?_
            refine y_iconst C dX12_readAtom_101 ?_
            have p150 := po_eq gn ((suR gf gn 3) (nxF gf gn gi)).2.2 (M135.1 98 11).toInt (M135.1 98 6).toInt (M142.1 98 11).toInt (M142.1 98 6).toInt (by omega) (by omega) (by omega)
            refine j_callVv C (d := 0) (As := [.int (sI 2)]) (st := []) 98 (s_lt rfl rfl) (s_kc (c := 11) rfl rfl) (by decide) rfl (s1_X12_fails hM142 hpr 2 (by omega) gf gn ((suR gf gn 3) (nxF gf gn gi)).2.2 (by omega) (by omega) (by omega) (by omega) (by omega)) gX12_readAtom_X12_fails rfl hdX12_fails (by decide) (Nat.le_of_ble_eq_true rfl) dX12_readAtom_102 rfl (fun M152 h153 => ?_)
            obtain ⟨hM152, fM152, h154⟩ := h153
            have bM152 := tkm_b (f := gf) (n := gn) (M := M152) (by omega)
            have qM152 := po_f gn ((faQ gf gn 2) ((suR gf gn 3) (nxF gf gn gi)).2.2).2.2 (M152.1 98 11).toInt (M152.1 98 6).toInt (by omega)
            have u155f : b01 (XW M0 M152 0 1 0) = 1 := b01_i (Or.inl (by omega))
            have u155a := ca_x (M := M0) (N := M152) (r := 0) (e := 1) (s := 0) (by decide) (by omega) (by omega)
            refine j_goto C 113 dX12_readAtom_105 (by decide) ?_
            have u156x := ex_2z gf gn 2041 ((suR gf gn 3) (nxF gf gn gi)).2.2 (M135.1 98 11).toInt (M135.1 98 12).toInt (M135.1 98 6).toInt (M152.1 98 11).toInt (M152.1 98 12).toInt (M152.1 98 6).toInt (by omega) (by omega) (rr_fr (faQ gf gn 2 ((suR gf gn 3) (nxF gf gn gi)).2.2) (M135.1 98 11).toInt (M135.1 98 12).toInt (M142.1 98 11).toInt (M142.1 98 12).toInt (M152.1 98 11).toInt (M152.1 98 12).toInt (M152.1 98 6).toInt (by omega) (by omega) (by omega))
            have u156r := at_2 gf gn (suR gf gn 3) gi (M0.1 98 11).toInt (M0.1 98 12).toInt (M0.1 98 6).toInt (M128.1 98 11).toInt (M128.1 98 12).toInt (M135.1 98 11).toInt (M135.1 98 12).toInt (M135.1 98 6).toInt (M152.1 98 11).toInt (M152.1 98 12).toInt (M152.1 98 6).toInt (by omega) (by omega) (by omega) (by omega) (by omega) (by omega)
            exact hret _ _ _ dX12_readAtom_113 ⟨hM152, ((((FR.rf.tr fM128 (by decide)).tr fM135 (by decide)).tr fM142 (by decide)).tr fM152 (by decide)), by omega⟩
        · exfalso; omega
    · refine j_aload_n C 0 0 dX12_readAtom_31 rfl rfl ?_
      refine j_aload_n C 0 0 dX12_readAtom_32 rfl rfl ?_
      refine y_getI C 11 _ _ fX12_readAtom_108 rfl rfl ft_11_9 sb_11_9 hM0 dX12_readAtom_33 (fun a157 ea157 la157 ua157 => ?_)
      obtain rfl : a157 = (M0.1 98 9).toInt := ea157
      have k159 := tkm_K (f := gf) (n := gn) (M := M0) (by omega)
      have k160 := kd_2 (wo_k gf gn (M0.1 98 6).toInt) (by omega)
      have k161 := wo_c (M0.1 98 9).toInt (kdF (tkF gf gn (M0.1 98 6).toInt))
      refine j_callVi C (d := 0) (As := [.int (sI (M0.1 98 9).toInt)]) (st := []) 98 (s_lt rfl rfl) (s_kc (c := 11) rfl rfl) (by decide) rfl (s1_X12_wordOf hM0 (M0.1 98 9).toInt (by omega)) gX12_readAtom_X12_wordOf rfl hdX12_wordOf (by decide) (Nat.le_of_ble_eq_true rfl) dX12_readAtom_36 rfl (fun r162 M163 h164 => ?_)
      obtain ⟨a166, rfl, rfl, h165⟩ := h164
      obtain rfl : a166 = (woF (M0.1 98 9).toInt) := by omega
      refine y_iconst C dX12_readAtom_39 ?_
      refine y_icmp_eq C 66 dX12_readAtom_40 (by decide) (by omega) (fun h167 => ?_) (fun h167 => ?_)
      · refine j_aload_n C 0 0 dX12_readAtom_66 rfl rfl ?_
        refine y_bipush C dX12_readAtom_67 rfl ?_
        have k168 := tkm_K (f := gf) (n := gn) (M := M0) (by omega)
        have k169 := kd_2 (kdk_35 gf gn (M0.1 98 6).toInt) (by omega)
        refine j_callVi C (d := 0) (As := [.int (sI 35)]) (st := []) 98 (s_lt rfl rfl) (s_kc (c := 11) rfl rfl) (by decide) rfl (s1_X12_is hM0 35 (by omega)) gX12_readAtom_X12_is rfl hdX12_is (by decide) (Nat.le_of_ble_eq_true rfl) dX12_readAtom_69 rfl (fun r170 M171 h172 => ?_)
        obtain ⟨a174, rfl, rfl, h173⟩ := h172
        refine y_if_eq C 108 dX12_readAtom_72 (by decide) (by omega) (fun h175 => ?_) (fun h175 => ?_)
        · refine j_aload_n C 0 0 dX12_readAtom_108 rfl rfl ?_
          refine y_iconst C dX12_readAtom_109 ?_
          refine j_callVv C (d := 0) (As := [.int (sI 2)]) (st := []) 98 (s_lt rfl rfl) (s_kc (c := 11) rfl rfl) (by decide) rfl (s1_X12_fails hM0 hpr 2 (by omega) gf gn gi (by omega) (by omega) (by omega) (by omega) (by omega)) gX12_readAtom_X12_fails rfl hdX12_fails (by decide) (Nat.le_of_ble_eq_true rfl) dX12_readAtom_110 rfl (fun M177 h178 => ?_)
          obtain ⟨hM177, fM177, h179⟩ := h178
          have bM177 := tkm_b (f := gf) (n := gn) (M := M177) (by omega)
          have qM177 := po_f gn ((faQ gf gn 2) gi).2.2 (M177.1 98 11).toInt (M177.1 98 6).toInt (by omega)
          have u180f : b01 (XW M0 M177 0 1 0) = 1 := b01_i (Or.inl (by omega))
          have u180a := ca_x (M := M0) (N := M177) (r := 0) (e := 1) (s := 0) (by decide) (by omega) (by omega)
          have u180r := at_4z gf gn false (suR gf gn 3) gi (M0.1 98 11).toInt (M0.1 98 12).toInt (M0.1 98 6).toInt (M177.1 98 11).toInt (M177.1 98 12).toInt (M177.1 98 6).toInt (by omega) (by omega) (by omega)
          exact hret _ _ _ dX12_readAtom_113 ⟨hM177, (FR.rf.tr fM177 (by decide)), by omega⟩
        · have u181k := ri_k (M := M0) (by omega) (by omega)
          refine j_aload_n C 0 0 dX12_readAtom_75 rfl rfl ?_
          refine j_iload_n C 1 1 dX12_readAtom_76 rfl rfl ?_
          refine j_callVi C (d := 6) (As := [.int (sI 2)]) (st := []) 98 (s_lt rfl rfl) (s_kc (c := 11) rfl rfl) (by decide) rfl (s3_X12_goesIn hM0 hpr gf gn gi (by omega) (by omega) (by omega) (by omega) (by omega) (by omega) (by omega)) gX12_readAtom_X12_goesIn rfl hdX12_goesIn (by decide) (Nat.le_of_ble_eq_true rfl) dX12_readAtom_77 rfl (fun r182 M183 h184 => ?_)
          obtain ⟨a186, rfl, hM183, fM183, h185⟩ := h184
          have bM183 := tkm_b (f := gf) (n := gn) (M := M183) (by omega)
          refine y_if_ne C 84 dX12_readAtom_80 (by decide) (by omega) (fun h187 => ?_) (fun h187 => ?_)
          · have u188c := xw_c (N := M0) (P := M183) 1 (FR.cell fM183 (by decide)) (by omega)
            have u188t := xw_t (M := M0) (N := M0) (P := M183) (r1 := 0) (e1 := 0) (s1 := 0) (r2 := 0) (e2 := 0) (s2 := 1) 0 0 1 (by decide) (by omega) (by omega)
            have u188a := ca_x (M := M0) (N := M183) (r := 0) (e := 0) (s := 1) (by decide) (by omega) (by omega)
            have u188l := ri_l (M := M183) (by omega)
            refine j_aload_n C 0 0 dX12_readAtom_84 rfl rfl ?_
            refine j_iload_n C 1 1 dX12_readAtom_85 rfl rfl ?_
            refine y_iconst C dX12_readAtom_86 ?_
            refine y_iadd C dX12_readAtom_87 ?_
            refine j_callVv C (d := 18) (As := [.int (sI (2 + 1))]) (st := []) 98 (s_lt rfl rfl) (s_kc (c := 11) rfl rfl) (by decide) rfl (s4_X12_readSum hM183 hpr gf gn (nxF gf gn gi) (by omega) (by omega) (by omega) (by omega) (by omega)) gX12_readAtom_X12_readSum rfl hdX12_readSum (by decide) (Nat.le_of_ble_eq_true rfl) dX12_readAtom_88 rfl (fun M190 h191 => ?_)
            obtain ⟨hM190, fM190, h192⟩ := h191
            have bM190 := tkm_b (f := gf) (n := gn) (M := M190) (by omega)
            have qM190 := po_rr (suR gf gn 3) gn (nxF gf gn gi) (M183.1 98 11).toInt (M183.1 98 12).toInt (M183.1 98 6).toInt (M190.1 98 11).toInt (M190.1 98 12).toInt (M190.1 98 6).toInt (suR_g gf gn 3) (by omega) (by omega)
            have u193t := xw_t (M := M0) (N := M183) (P := M190) (r1 := 0) (e1 := 0) (s1 := 1) (r2 := 0) (e2 := 1) (s2 := 0) 0 1 1 (by decide) (by omega) (by omega)
            have u193l := ri_l (M := M190) (by omega)
            refine j_aload_n C 0 0 dX12_readAtom_91 rfl rfl ?_
            refine y_bipush C dX12_readAtom_92 rfl ?_
            have k194 := tkm_K (f := gf) (n := gn) (M := M190) (by omega)
            have k195 := kd_2 (kdk_36 gf gn (M190.1 98 6).toInt) (by omega)
            refine j_callVi C (d := 6) (As := [.int (sI 36)]) (st := []) 98 (s_lt rfl rfl) (s_kc (c := 11) rfl rfl) (by decide) rfl (s1_X12_eats hM190 hpr 36 (by omega) gf gn ((suR gf gn 3) (nxF gf gn gi)).2.2 (by omega) (by omega) (by omega) (by omega) (by omega)) gX12_readAtom_X12_eats rfl hdX12_eats (by decide) (Nat.le_of_ble_eq_true rfl) dX12_readAtom_94 rfl (fun r196 M197 h198 => ?_)
            obtain ⟨a200, rfl, hM197, fM197, h199⟩ := h198
            have k201 := tk_c gf gn (M197.1 98 6).toInt (M190.1 98 6).toInt
            have bM197 := tkm_b (f := gf) (n := gn) (M := M197) (by omega)
            have u202c := xw_c (N := M190) (P := M197) 0 (FR.cell fM197 (by decide)) (by omega)
            have u202t := xw_t (M := M0) (N := M190) (P := M197) (r1 := 0) (e1 := 1) (s1 := 1) (r2 := 0) (e2 := 0) (s2 := 0) 0 1 0 (by decide) (by omega) (by omega)
            have u202a := ca_x (M := M0) (N := M197) (r := 0) (e := 1) (s := 0) (by decide) (by omega) (by omega)
            have u202l := ri_l (M := M197) (by omega)
            refine y_if_ne C 113 dX12_readAtom_97 (by decide) (by omega) (fun h203 => ?_) (fun h203 => ?_)
            · have u204x := ex_1 gf gn 2041 ((suR gf gn 3) (nxF gf gn gi)).2.2 (M190.1 98 11).toInt (M190.1 98 12).toInt (M190.1 98 6).toInt (M197.1 98 11).toInt (M197.1 98 12).toInt (M197.1 98 6).toInt (by omega) (by omega) (by omega) (by omega) (by omega) (by omega)
              have u204r := at_2 gf gn (suR gf gn 3) gi (M0.1 98 11).toInt (M0.1 98 12).toInt (M0.1 98 6).toInt (M183.1 98 11).toInt (M183.1 98 12).toInt (M190.1 98 11).toInt (M190.1 98 12).toInt (M190.1 98 6).toInt (M197.1 98 11).toInt (M197.1 98 12).toInt (M197.1 98 6).toInt (by omega) (by omega) (by omega) (by omega) (by omega) (by omega)
              exact hret _ _ _ dX12_readAtom_113 ⟨hM197, (((FR.rf.tr fM183 (by decide)).tr fM190 (by decide)).tr fM197 (by decide)), by omega⟩
            · refine j_aload_n C 0 0 dX12_readAtom_100 rfl rfl ?_
              refine y_iconst C dX12_readAtom_101 ?_
              have p205 := po_eq gn ((suR gf gn 3) (nxF gf gn gi)).2.2 (M190.1 98 11).toInt (M190.1 98 6).toInt (M197.1 98 11).toInt (M197.1 98 6).toInt (by omega) (by omega) (by omega)
              refine j_callVv C (d := 0) (As := [.int (sI 2)]) (st := []) 98 (s_lt rfl rfl) (s_kc (c := 11) rfl rfl) (by decide) rfl (s1_X12_fails hM197 hpr 2 (by omega) gf gn ((suR gf gn 3) (nxF gf gn gi)).2.2 (by omega) (by omega) (by omega) (by omega) (by omega)) gX12_readAtom_X12_fails rfl hdX12_fails (by decide) (Nat.le_of_ble_eq_true rfl) dX12_readAtom_102 rfl (fun M207 h208 => ?_)
              obtain ⟨hM207, fM207, h209⟩ := h208
              have bM207 := tkm_b (f := gf) (n := gn) (M := M207) (by omega)
              have qM207 := po_f gn ((faQ gf gn 2) ((suR gf gn 3) (nxF gf gn gi)).2.2).2.2 (M207.1 98 11).toInt (M207.1 98 6).toInt (by omega)
              have u210f : b01 (XW M0 M207 0 1 0) = 1 := b01_i (Or.inl (by omega))
              have u210a := ca_x (M := M0) (N := M207) (r := 0) (e := 1) (s := 0) (by decide) (by omega) (by omega)
              refine j_goto C 113 dX12_readAtom_105 (by decide) ?_
              have u211x := ex_2z gf gn 2041 ((suR gf gn 3) (nxF gf gn gi)).2.2 (M190.1 98 11).toInt (M190.1 98 12).toInt (M190.1 98 6).toInt (M207.1 98 11).toInt (M207.1 98 12).toInt (M207.1 98 6).toInt (by omega) (by omega) (rr_fr (faQ gf gn 2 ((suR gf gn 3) (nxF gf gn gi)).2.2) (M190.1 98 11).toInt (M190.1 98 12).toInt (M197.1 98 11).toInt (M197.1 98 12).toInt (M207.1 98 11).toInt (M207.1 98 12).toInt (M207.1 98 6).toInt (by omega) (by omega) (by omega))
              have u211r := at_2 gf gn (suR gf gn 3) gi (M0.1 98 11).toInt (M0.1 98 12).toInt (M0.1 98 6).toInt (M183.1 98 11).toInt (M183.1 98 12).toInt (M190.1 98 11).toInt (M190.1 98 12).toInt (M190.1 98 6).toInt (M207.1 98 11).toInt (M207.1 98 12).toInt (M207.1 98 6).toInt (by omega) (by omega) (by omega) (by omega) (by omega) (by omega)
              exact hret _ _ _ dX12_readAtom_113 ⟨hM207, ((((FR.rf.tr fM183 (by decide)).tr fM190 (by decide)).tr fM197 (by decide)).tr fM207 (by decide)), by omega⟩
          · exfalso; omega
      · have u212w := woF_s (M0.1 98 9).toInt
        have u212k := ri_k (M := M0) (by omega) (by omega)
        have u212b := cb_0 (M := M0) (by omega) (by omega)
        refine j_aload_n C 0 0 dX12_readAtom_43 rfl rfl ?_
        refine y_sipush C dX12_readAtom_44 rfl ?_
        refine j_aload_n C 0 0 dX12_readAtom_47 rfl rfl ?_
        refine j_aload_n C 0 0 dX12_readAtom_48 rfl rfl ?_
        refine y_getI C 11 _ _ fX12_readAtom_108 rfl rfl ft_11_9 sb_11_9 hM0 dX12_readAtom_49 (fun a213 ea213 la213 ua213 => ?_)
        obtain rfl : a213 = (M0.1 98 9).toInt := ea213
        have k215 := tkm_K (f := gf) (n := gn) (M := M0) (by omega)
        have k216 := kd_2 (wo_k gf gn (M0.1 98 6).toInt) (by omega)
        have k217 := wo_c (M0.1 98 9).toInt (kdF (tkF gf gn (M0.1 98 6).toInt))
        refine j_callVi C (d := 0) (As := [.int (sI (M0.1 98 9).toInt)]) (st := [.int (sI 1000), .ref (ad 98)]) 98 (s_lt rfl rfl) (s_kc (c := 11) rfl rfl) (by decide) rfl (s1_X12_wordOf hM0 (M0.1 98 9).toInt (by omega)) gX12_readAtom_X12_wordOf rfl hdX12_wordOf (by decide) (Nat.le_of_ble_eq_true rfl) dX12_readAtom_52 rfl (fun r218 M219 h220 => ?_)
        obtain ⟨a222, rfl, rfl, h221⟩ := h220
        obtain rfl : a222 = (woF (M0.1 98 9).toInt) := by omega
        refine y_iadd C dX12_readAtom_55 ?_
        refine j_callVv C (d := 0) (As := [.int (sI (1000 + (woF (M0.1 98 9).toInt)))]) (st := []) 98 (s_lt rfl rfl) (s_kc (c := 11) rfl rfl) (by decide) rfl (s1_X12_codes hM0 hpr (1000 + (woF (M0.1 98 9).toInt)) (by omega) gf gn gi (by omega) (by omega) (by omega) (by omega)) gX12_readAtom_X12_codes rfl hdX12_codes (by decide) (Nat.le_of_ble_eq_true rfl) dX12_readAtom_56 rfl (fun M224 h225 => ?_)
        obtain ⟨hM224, fM224, h226⟩ := h225
        have bM224 := tkm_b (f := gf) (n := gn) (M := M224) (by omega)
        have qM224 := po_eq gn gi (M0.1 98 11).toInt (M0.1 98 6).toInt (M224.1 98 11).toInt (M224.1 98 6).toInt (by omega) (by omega) (by omega)
        have u227x := xw_a (M := M0) (N := M224) (c := (1000 + (woF (M0.1 98 9).toInt))) (r := 0) (e := 1) (FR.cell fM224 (by decide)) (ap_push ⟨(INV.rd hM0 (i := 102) (c := 48) (k := 280) rfl rfl).1, by omega, by omega⟩) (by omega)
        have u227t := xw_t (M := M0) (N := M0) (P := M224) (r1 := 0) (e1 := 0) (s1 := 0) (r2 := 0) (e2 := 1) (s2 := (-1)) 0 1 (-1) (by decide) (by omega) (by omega)
        have u227i := ri_c (M := M0) (N := M224) (FR.cell fM224 (by decide)) (by omega)
        have u227l := ri_l (M := M224) (by omega)
        have u227q6 : (M224.1 98 6).toInt = (M0.1 98 6).toInt := by rw [show M224.1 98 = M0.1 98 from FR.cell fM224 (by decide)]
        have u227q7 : (M224.1 98 7).toInt = (M0.1 98 7).toInt := by rw [show M224.1 98 = M0.1 98 from FR.cell fM224 (by decide)]
        have u227q8 : (M224.1 98 8).toInt = (M0.1 98 8).toInt := by rw [show M224.1 98 = M0.1 98 from FR.cell fM224 (by decide)]
        have u227q9 : (M224.1 98 9).toInt = (M0.1 98 9).toInt := by rw [show M224.1 98 = M0.1 98 from FR.cell fM224 (by decide)]
        have u227q11 : (M224.1 98 11).toInt = (M0.1 98 11).toInt := by rw [show M224.1 98 = M0.1 98 from FR.cell fM224 (by decide)]
        refine j_aload_n C 0 0 dX12_readAtom_59 rfl rfl ?_
        have zz98_7 : (M224.1 98 7).toInt = (M0.1 98 7).toInt := s_fF fM224 (by decide) (rfl)
        have zz98_8 : (M224.1 98 8).toInt = (M0.1 98 8).toInt := s_fF fM224 (by decide) (rfl)
        have k228 := tkm_p (f := gf) (n := gn) (M := M224) (by omega)
        have k229 := tkm_K (f := gf) (n := gn) (M := M224) (by omega)
        refine j_callVv C (d := 5) (As := []) (st := []) 98 (s_lt rfl rfl) (s_kc (c := 11) rfl rfl) (by decide) rfl (s1_X12_next hM224 hpr gf gn (by omega) (by omega) (by omega) (by omega)) gX12_readAtom_X12_next rfl hdX12_next (by decide) (Nat.le_of_ble_eq_true rfl) dX12_readAtom_60 rfl (fun M231 h232 => ?_)
        obtain ⟨hM231, fM231, h233⟩ := h232
        have bM231 := tkm_b (f := gf) (n := gn) (M := M231) (by omega)
        have qM231 := nx_po (f := gf) (n := gn) (i := gi) (M := M224) (M' := M231) (by omega) (by omega) (by omega) (by omega) (by omega)
        have u234c := xw_c (N := M224) (P := M231) 1 (FR.cell fM231 (by decide)) (by omega)
        have u234t := xw_t (M := M0) (N := M224) (P := M231) (r1 := 0) (e1 := 1) (s1 := (-1)) (r2 := 0) (e2 := 0) (s2 := 1) 0 1 0 (by decide) (by omega) (by omega)
        have u234a := ca_x (M := M0) (N := M231) (r := 0) (e := 1) (s := 0) (by decide) (by omega) (by omega)
        refine j_goto C 113 dX12_readAtom_63 (by decide) ?_
        have u235r := at_1 gf gn false (suR gf gn 3) gi (M0.1 98 11).toInt (M0.1 98 12).toInt (M0.1 98 6).toInt (M231.1 98 11).toInt (M231.1 98 12).toInt (M231.1 98 6).toInt (by omega) (by omega) (by omega) (by omega) (by omega) (by omega)
        exact hret _ _ _ dX12_readAtom_113 ⟨hM231, ((FR.rf.tr fM224 (by decide)).tr fM231 (by decide)), by omega⟩
  · have u236k := ri_k (M := M0) (by omega) (by omega)
    have u236b := cb_0 (M := M0) (by omega) (by omega)
    refine j_aload_n C 0 0 dX12_readAtom_9 rfl rfl ?_
    refine j_aload_n C 0 0 dX12_readAtom_10 rfl rfl ?_
    refine y_getI C 11 _ _ fX12_readAtom_121 rfl rfl ft_11_10 sb_11_10 hM0 dX12_readAtom_11 (fun a237 ea237 la237 ua237 => ?_)
    obtain rfl : a237 = (M0.1 98 10).toInt := ea237
    refine j_callVv C (d := 0) (As := [.int (sI (M0.1 98 10).toInt)]) (st := []) 98 (s_lt rfl rfl) (s_kc (c := 11) rfl rfl) (by decide) rfl (s1_X12_codes hM0 hpr (M0.1 98 10).toInt (by omega) gf gn gi (by omega) (by omega) (by omega) (by omega)) gX12_readAtom_X12_codes rfl hdX12_codes (by decide) (Nat.le_of_ble_eq_true rfl) dX12_readAtom_14 rfl (fun M240 h241 => ?_)
    obtain ⟨hM240, fM240, h242⟩ := h241
    have bM240 := tkm_b (f := gf) (n := gn) (M := M240) (by omega)
    have qM240 := po_eq gn gi (M0.1 98 11).toInt (M0.1 98 6).toInt (M240.1 98 11).toInt (M240.1 98 6).toInt (by omega) (by omega) (by omega)
    have u243x := xw_a (M := M0) (N := M240) (c := (M0.1 98 10).toInt) (r := 0) (e := 1) (FR.cell fM240 (by decide)) (ap_push ⟨(INV.rd hM0 (i := 102) (c := 48) (k := 280) rfl rfl).1, by omega, by omega⟩) (by omega)
    have u243t := xw_t (M := M0) (N := M0) (P := M240) (r1 := 0) (e1 := 0) (s1 := 0) (r2 := 0) (e2 := 1) (s2 := (-1)) 0 1 (-1) (by decide) (by omega) (by omega)
    have u243i := ri_c (M := M0) (N := M240) (FR.cell fM240 (by decide)) (by omega)
    have u243l := ri_l (M := M240) (by omega)
    have u243q6 : (M240.1 98 6).toInt = (M0.1 98 6).toInt := by rw [show M240.1 98 = M0.1 98 from FR.cell fM240 (by decide)]
    have u243q7 : (M240.1 98 7).toInt = (M0.1 98 7).toInt := by rw [show M240.1 98 = M0.1 98 from FR.cell fM240 (by decide)]
    have u243q8 : (M240.1 98 8).toInt = (M0.1 98 8).toInt := by rw [show M240.1 98 = M0.1 98 from FR.cell fM240 (by decide)]
    have u243q9 : (M240.1 98 9).toInt = (M0.1 98 9).toInt := by rw [show M240.1 98 = M0.1 98 from FR.cell fM240 (by decide)]
    have u243q11 : (M240.1 98 11).toInt = (M0.1 98 11).toInt := by rw [show M240.1 98 = M0.1 98 from FR.cell fM240 (by decide)]
    refine j_aload_n C 0 0 dX12_readAtom_17 rfl rfl ?_
    have zz98_7 : (M240.1 98 7).toInt = (M0.1 98 7).toInt := s_fF fM240 (by decide) (rfl)
    have zz98_8 : (M240.1 98 8).toInt = (M0.1 98 8).toInt := s_fF fM240 (by decide) (rfl)
    have k244 := tkm_p (f := gf) (n := gn) (M := M240) (by omega)
    have k245 := tkm_K (f := gf) (n := gn) (M := M240) (by omega)
    refine j_callVv C (d := 5) (As := []) (st := []) 98 (s_lt rfl rfl) (s_kc (c := 11) rfl rfl) (by decide) rfl (s1_X12_next hM240 hpr gf gn (by omega) (by omega) (by omega) (by omega)) gX12_readAtom_X12_next rfl hdX12_next (by decide) (Nat.le_of_ble_eq_true rfl) dX12_readAtom_18 rfl (fun M247 h248 => ?_)
    obtain ⟨hM247, fM247, h249⟩ := h248
    have bM247 := tkm_b (f := gf) (n := gn) (M := M247) (by omega)
    have qM247 := nx_po (f := gf) (n := gn) (i := gi) (M := M240) (M' := M247) (by omega) (by omega) (by omega) (by omega) (by omega)
    have u250c := xw_c (N := M240) (P := M247) 1 (FR.cell fM247 (by decide)) (by omega)
    have u250t := xw_t (M := M0) (N := M240) (P := M247) (r1 := 0) (e1 := 1) (s1 := (-1)) (r2 := 0) (e2 := 0) (s2 := 1) 0 1 0 (by decide) (by omega) (by omega)
    have u250a := ca_x (M := M0) (N := M247) (r := 0) (e := 1) (s := 0) (by decide) (by omega) (by omega)
    refine j_goto C 113 dX12_readAtom_21 (by decide) ?_
    have u251r := at_1 gf gn false (suR gf gn 3) gi (M0.1 98 11).toInt (M0.1 98 12).toInt (M0.1 98 6).toInt (M247.1 98 11).toInt (M247.1 98 12).toInt (M247.1 98 6).toInt (by omega) (by omega) (by omega) (by omega) (by omega) (by omega)
    exact hret _ _ _ dX12_readAtom_113 ⟨hM247, ((FR.rf.tr fM240 (by decide)).tr fM247 (by decide)), by omega⟩
set_option maxHeartbeats 4000000 in
theorem s5_X12_readTerm {l : Launch} {dC : Nat → ClassId} {dI : Nat → Nat → Nat} {ad : Nat → Nat} {cA : Nat → ClassId} {pr : Nat → Nat → Bool} {Kz : mm_M} {M0 : mm_M} (hM0 : INV pr Kz M0) (hpr : PM pr) (gf : Nat → Int) (gn : Int) (gi : Int) (hp0 : b01 (RIP M0) = 1) (hp1 : b01 (CA M0) = 1) (hp2 : b01 (TKM gf gn M0) = 1) (hp3 : b01 (PO gn gi (M0.1 98 11).toInt (M0.1 98 6).toInt) = 1) (hp4 : b01 (PI M0) = 1) : Cv l 20 yX12_readTerm wsX12_readTerm dC dI ad cA [.ref (ad 98), .int (sI 2)] M0 (fun M' => INV pr Kz M' ∧ FR [98, 102] M0 M' ∧ (b01 (RIP M') = 1) ∧ ((M'.1 98 8).toInt = (M0.1 98 8).toInt) ∧ ((M0.1 98 6).toInt ≤ (M'.1 98 6).toInt) ∧ (b01 (XW M0 M' 0 1 0) = 1) ∧ (b01 (CA M') = 1) ∧ (b01 (PI M') = 1) ∧ (b01 (TKM gf gn M') = 1) ∧ b01 (RR ((teP gf gn false (suR gf gn 3)) gi) (M0.1 98 11).toInt (M0.1 98 12).toInt (M'.1 98 11).toInt (M'.1 98 12).toInt (M'.1 98 6).toInt) = 1) := by
  refine cv_of (cc := cX12_readTerm) (maxL := 2) (lv := [(0, .ref (ad 98)), (1, .int (sI 2))]) (by decide) rfl (Nat.le_of_ble_eq_true rfl) rfl ?_
  intro p e s m args below meth c A Q C hret
  have u101z := xw_0 M0
  have u101l := ri_l (M := M0) (by omega)
  refine j_aload_n C 0 0 dX12_readTerm_0 rfl rfl ?_
  refine j_iload_n C 1 1 dX12_readTerm_1 rfl rfl ?_
  refine j_callVv C (d := 19) (As := [.int (sI 2)]) (st := []) 98 (s_lt rfl rfl) (s_kc (c := 11) rfl rfl) (by decide) rfl (s5_X12_readAtom hM0 hpr gf gn gi (by omega) (by omega) (by omega) (by omega) (by omega)) gX12_readTerm_X12_readAtom rfl hdX12_readAtom (by decide) (Nat.le_of_ble_eq_true rfl) dX12_readTerm_2 rfl (fun M103 h104 => ?_)
  obtain ⟨hM103, fM103, h105⟩ := h104
  have bM103 := tkm_b (f := gf) (n := gn) (M := M103) (by omega)
  have qM103 := po_rr (atP gf gn false (suR gf gn 3)) gn gi (M0.1 98 11).toInt (M0.1 98 12).toInt (M0.1 98 6).toInt (M103.1 98 11).toInt (M103.1 98 12).toInt (M103.1 98 6).toInt (at_g gf gn (fun _ => suR_g gf gn 3)) (by omega) (by omega)
  have u106l := ri_l (M := M103) (by omega)
  have u106L := ll_0 (luP gf gn 2042 2042 (atP gf gn false (suR gf gn 3))) gn ((atP gf gn false (suR gf gn 3)) gi).2.2 (M103.1 98 11).toInt (M103.1 98 12).toInt (M103.1 98 6).toInt (by omega)
  have L132 : ∀ (n130 : Nat), ∀ (M133 : mm_M) (gq134 : Int), ((b01 (RIP M133) = 1) ∧ ((M133.1 98 8).toInt = (M0.1 98 8).toInt) ∧ ((M0.1 98 6).toInt ≤ (M133.1 98 6).toInt) ∧ (b01 (XW M0 M133 0 1 0) = 1) ∧ ((M133.1 98 6).toInt ≤ 900) ∧ (b01 (LL (luP gf gn 2042 2042 (atP gf gn false (suR gf gn 3))) gn ((atP gf gn false (suR gf gn 3)) gi).2.2 gq134 0 (M103.1 98 11).toInt (M103.1 98 12).toInt (M133.1 98 11).toInt (M133.1 98 12).toInt (M133.1 98 6).toInt) = 1) ∧ (b01 (TKM gf gn M133) = 1) ∧ (b01 (PO gn gq134 (M133.1 98 11).toInt (M133.1 98 6).toInt) = 1) ∧ (b01 (PI M133) = 1) ∧ (900 - (M133.1 98 6).toInt) < (n130 : Int)) → INV pr Kz M133 → FR [98, 102] M0 M133 → jj p l e (cn_R 20) s m args below meth c 0 0 Q 2 dC dI ad cA A M133 5 [(0, .ref (ad 98)), (1, .int (sI 2))] [] := by
    intro n130
    induction n130 with
    | zero =>
      intro M133 gq134 h135 hM133 fM133
      exfalso; omega
    | succ n130 ih131 =>
      intro M133 gq134 h135 hM133 fM133
      have u136l := ri_l (M := M133) (by omega)
      have u136B := tkm_b (f := gf) (n := gn) (M := M133) (by omega)
      refine j_aload_n C 0 0 dX12_readTerm_5 rfl rfl ?_
      refine y_bipush C dX12_readTerm_6 rfl ?_
      have k137 := tkm_K (f := gf) (n := gn) (M := M133) (by omega)
      have k138 := kd_2 (kdk_34 gf gn (M133.1 98 6).toInt) (by omega)
      refine j_callVi C (d := 6) (As := [.int (sI 34)]) (st := []) 98 (s_lt rfl rfl) (s_kc (c := 11) rfl rfl) (by decide) rfl (s1_X12_eats hM133 hpr 34 (by omega) gf gn gq134 (by omega) (by omega) (by omega) (by omega) (by omega)) gX12_readTerm_X12_eats rfl hdX12_eats (by decide) (Nat.le_of_ble_eq_true rfl) dX12_readTerm_8 rfl (fun r139 M140 h141 => ?_)
      obtain ⟨a143, rfl, hM140, fM140, h142⟩ := h141
      have k144 := tk_c gf gn (M140.1 98 6).toInt (M133.1 98 6).toInt
      have bM140 := tkm_b (f := gf) (n := gn) (M := M140) (by omega)
      refine y_if_eq C 29 dX12_readTerm_11 (by decide) (by omega) (fun h145 => ?_) (fun h145 => ?_)
      · have u157c := xw_c (N := M133) (P := M140) 0 (FR.cell fM140 (by decide)) (by omega)
        have u157t := xw_t (M := M0) (N := M133) (P := M140) (r1 := 0) (e1 := 1) (s1 := 0) (r2 := 0) (e2 := 0) (s2 := 0) 0 1 0 (by decide) (by omega) (by omega)
        have u157a := ca_x (M := M0) (N := M140) (r := 0) (e := 1) (s := 0) (by decide) (by omega) (by omega)
        have u157E := ll_e gf gn 2042 2042 (atP gf gn false (suR gf gn 3)) ((atP gf gn false (suR gf gn 3)) gi).2.2 gq134 0 (M103.1 98 11).toInt (M103.1 98 12).toInt (M133.1 98 11).toInt (M133.1 98 12).toInt (M133.1 98 6).toInt (by decide) (at_g gf gn (fun _ => suR_g gf gn 3)) (by omega) (by omega)
        have u157S : b01 (RR ((teP gf gn false (suR gf gn 3)) gi) (M0.1 98 11).toInt (M0.1 98 12).toInt (M133.1 98 11).toInt (M133.1 98 12).toInt (M133.1 98 6).toInt) = 1 := rr_sq ((atP gf gn false (suR gf gn 3)) gi) (luP gf gn 2042 2042 (atP gf gn false (suR gf gn 3))) (M0.1 98 11).toInt (M0.1 98 12).toInt (M103.1 98 11).toInt (M103.1 98 12).toInt (M103.1 98 6).toInt (M133.1 98 11).toInt (M133.1 98 12).toInt (M133.1 98 6).toInt (by omega) (by omega)
        have u157R := rr_eq ((teP gf gn false (suR gf gn 3)) gi) (M0.1 98 11).toInt (M0.1 98 12).toInt (M133.1 98 11).toInt (M133.1 98 12).toInt (M133.1 98 6).toInt (M140.1 98 11).toInt (M140.1 98 12).toInt (M140.1 98 6).toInt (by omega) (by omega) (by omega) (by omega)
        exact hret _ _ _ dX12_readTerm_29 ⟨hM140, ((FR.rf.tr fM133 (by decide)).tr fM140 (by decide)), by omega⟩
      · have u146c := xw_c (N := M133) (P := M140) 1 (FR.cell fM140 (by decide)) (by omega)
        have u146t := xw_t (M := M0) (N := M133) (P := M140) (r1 := 0) (e1 := 1) (s1 := 0) (r2 := 0) (e2 := 0) (s2 := 1) 0 1 1 (by decide) (by omega) (by omega)
        have u146a := ca_x (M := M0) (N := M140) (r := 0) (e := 1) (s := 1) (by decide) (by omega) (by omega)
        have u146l := ri_l (M := M140) (by omega)
        refine j_aload_n C 0 0 dX12_readTerm_14 rfl rfl ?_
        refine j_iload_n C 1 1 dX12_readTerm_15 rfl rfl ?_
        refine j_callVv C (d := 19) (As := [.int (sI 2)]) (st := []) 98 (s_lt rfl rfl) (s_kc (c := 11) rfl rfl) (by decide) rfl (s5_X12_readAtom hM140 hpr gf gn (nxF gf gn gq134) (by omega) (by omega) (by omega) (by omega) (by omega)) gX12_readTerm_X12_readAtom rfl hdX12_readAtom (by decide) (Nat.le_of_ble_eq_true rfl) dX12_readTerm_16 rfl (fun M148 h149 => ?_)
        obtain ⟨hM148, fM148, h150⟩ := h149
        have bM148 := tkm_b (f := gf) (n := gn) (M := M148) (by omega)
        have qM148 := po_rr (atP gf gn false (suR gf gn 3)) gn (nxF gf gn gq134) (M140.1 98 11).toInt (M140.1 98 12).toInt (M140.1 98 6).toInt (M148.1 98 11).toInt (M148.1 98 12).toInt (M148.1 98 6).toInt (at_g gf gn (fun _ => suR_g gf gn 3)) (by omega) (by omega)
        have u151t := xw_t (M := M0) (N := M140) (P := M148) (r1 := 0) (e1 := 1) (s1 := 1) (r2 := 0) (e2 := 1) (s2 := 0) 0 2 1 (by decide) (by omega) (by omega)
        have u151l := ri_l (M := M148) (by omega)
        have u151b := cb_x (M := M0) (N := M148) (r := 0) (e := 2) (s := 1) (by decide) (by omega) (by omega) (by omega)
        refine j_aload_n C 0 0 dX12_readTerm_19 rfl rfl ?_
        refine y_sipush C dX12_readTerm_20 rfl ?_
        refine j_callVv C (d := 0) (As := [.int (sI 3002)]) (st := []) 98 (s_lt rfl rfl) (s_kc (c := 11) rfl rfl) (by decide) rfl (s1_X12_codes hM148 hpr 3002 (by omega) gf gn ((atP gf gn false (suR gf gn 3)) (nxF gf gn gq134)).2.2 (by omega) (by omega) (by omega) (by omega)) gX12_readTerm_X12_codes rfl hdX12_codes (by decide) (Nat.le_of_ble_eq_true rfl) dX12_readTerm_23 rfl (fun M153 h154 => ?_)
        obtain ⟨hM153, fM153, h155⟩ := h154
        have bM153 := tkm_b (f := gf) (n := gn) (M := M153) (by omega)
        have qM153 := po_eq gn ((atP gf gn false (suR gf gn 3)) (nxF gf gn gq134)).2.2 (M148.1 98 11).toInt (M148.1 98 6).toInt (M153.1 98 11).toInt (M153.1 98 6).toInt (by omega) (by omega) (by omega)
        refine j_goto C 5 dX12_readTerm_26 (by decide) ?_
        have u156x := xw_a (M := M148) (N := M153) (c := 3002) (r := 2) (e := (-1)) (FR.cell fM153 (by decide)) (ap_bin ⟨(INV.rd hM148 (i := 102) (c := 48) (k := 280) rfl rfl).1, by omega, by omega⟩) (by omega)
        have u156t := xw_t (M := M0) (N := M148) (P := M153) (r1 := 0) (e1 := 2) (s1 := 1) (r2 := 2) (e2 := (-1)) (s2 := (-1)) 0 1 0 (by decide) (by omega) (by omega)
        have u156i := ri_c (M := M148) (N := M153) (FR.cell fM153 (by decide)) (by omega)
        have u156l := ri_l (M := M153) (by omega)
        have u156L := ll_w (luP gf gn 2042 2042 (atP gf gn false (suR gf gn 3))) gn ((atP gf gn false (suR gf gn 3)) gi).2.2 ((atP gf gn false (suR gf gn 3)) (nxF gf gn gq134)).2.2 (0 + 1) 0 (M103.1 98 11).toInt (M103.1 98 12).toInt (M153.1 98 11).toInt (M153.1 98 12).toInt (M153.1 98 6).toInt (by decide) (ll_s gf gn 2042 2042 (atP gf gn false (suR gf gn 3)) ((atP gf gn false (suR gf gn 3)) gi).2.2 gq134 0 (M103.1 98 11).toInt (M103.1 98 12).toInt (M133.1 98 11).toInt (M133.1 98 12).toInt (M133.1 98 6).toInt (M140.1 98 11).toInt (M140.1 98 12).toInt (M148.1 98 11).toInt (M148.1 98 12).toInt (M148.1 98 6).toInt (M153.1 98 11).toInt (M153.1 98 12).toInt (M153.1 98 6).toInt (by decide) (at_g gf gn (fun _ => suR_g gf gn 3)) (by omega) (by omega) (by omega) (by omega) (by omega) (by omega) (by omega) (by omega) (by omega))
        have zz98_8 : (M153.1 98 8).toInt = (M148.1 98 8).toInt := s_fF fM153 (by decide) (rfl); have zz98_6 : (M153.1 98 6).toInt = (M148.1 98 6).toInt := s_fF fM153 (by decide) (rfl); have zz98_12 : (M153.1 98 12).toInt = (M148.1 98 12).toInt := s_fF fM153 (by decide) (rfl); have zz98_11 : (M153.1 98 11).toInt = (M148.1 98 11).toInt := s_fF fM153 (by decide) (rfl); exact ih131 M153 ((atP gf gn false (suR gf gn 3)) (nxF gf gn gq134)).2.2 (by omega) hM153 ((((FR.rf.tr fM133 (by decide)).tr fM140 (by decide)).tr fM148 (by decide)).tr fM153 (by decide))
  exact L132 2010 M103 ((atP gf gn false (suR gf gn 3)) gi).2.2 (by omega) hM103 (FR.rf.tr fM103 (by decide))
set_option maxHeartbeats 4000000 in
theorem s5_X12_readSum {l : Launch} {dC : Nat → ClassId} {dI : Nat → Nat → Nat} {ad : Nat → Nat} {cA : Nat → ClassId} {pr : Nat → Nat → Bool} {Kz : mm_M} {M0 : mm_M} (hM0 : INV pr Kz M0) (hpr : PM pr) (gf : Nat → Int) (gn : Int) (gi : Int) (hp0 : b01 (RIP M0) = 1) (hp1 : b01 (CA M0) = 1) (hp2 : b01 (TKM gf gn M0) = 1) (hp3 : b01 (PO gn gi (M0.1 98 11).toInt (M0.1 98 6).toInt) = 1) (hp4 : b01 (PI M0) = 1) : Cv l 21 yX12_readSum wsX12_readSum dC dI ad cA [.ref (ad 98), .int (sI 2)] M0 (fun M' => INV pr Kz M' ∧ FR [98, 102] M0 M' ∧ (b01 (RIP M') = 1) ∧ ((M'.1 98 8).toInt = (M0.1 98 8).toInt) ∧ ((M0.1 98 6).toInt ≤ (M'.1 98 6).toInt) ∧ (b01 (XW M0 M' 0 1 0) = 1) ∧ (b01 (CA M') = 1) ∧ (b01 (PI M') = 1) ∧ (b01 (TKM gf gn M') = 1) ∧ b01 (RR ((suR gf gn 4) gi) (M0.1 98 11).toInt (M0.1 98 12).toInt (M'.1 98 11).toInt (M'.1 98 12).toInt (M'.1 98 6).toInt) = 1) := by
  refine cv_of (cc := cX12_readSum) (maxL := 3) (lv := [(0, .ref (ad 98)), (1, .int (sI 2))]) (by decide) rfl (Nat.le_of_ble_eq_true rfl) rfl ?_
  intro p e s m args below meth c A Q C hret
  have u101z := xw_0 M0
  have u101l := ri_l (M := M0) (by omega)
  refine j_aload_n C 0 0 dX12_readSum_0 rfl rfl ?_
  refine j_iload_n C 1 1 dX12_readSum_1 rfl rfl ?_
  refine j_callVv C (d := 20) (As := [.int (sI 2)]) (st := []) 98 (s_lt rfl rfl) (s_kc (c := 11) rfl rfl) (by decide) rfl (s5_X12_readTerm hM0 hpr gf gn gi (by omega) (by omega) (by omega) (by omega) (by omega)) gX12_readSum_X12_readTerm rfl hdX12_readTerm (by decide) (Nat.le_of_ble_eq_true rfl) dX12_readSum_2 rfl (fun M103 h104 => ?_)
  obtain ⟨hM103, fM103, h105⟩ := h104
  have bM103 := tkm_b (f := gf) (n := gn) (M := M103) (by omega)
  have qM103 := po_rr (teP gf gn false (suR gf gn 3)) gn gi (M0.1 98 11).toInt (M0.1 98 12).toInt (M0.1 98 6).toInt (M103.1 98 11).toInt (M103.1 98 12).toInt (M103.1 98 6).toInt (te_g gf gn (fun _ => suR_g gf gn 3)) (by omega) (by omega)
  have u106l := ri_l (M := M103) (by omega)
  have u106L := ll_0 (luP gf gn 2043 2045 (teP gf gn false (suR gf gn 3))) gn ((teP gf gn false (suR gf gn 3)) gi).2.2 (M103.1 98 11).toInt (M103.1 98 12).toInt (M103.1 98 6).toInt (by omega)
  have L176 : ∀ (n174 : Nat), ∀ (M177 : mm_M) (gq178 : Int), ((b01 (RIP M177) = 1) ∧ ((M177.1 98 8).toInt = (M0.1 98 8).toInt) ∧ ((M0.1 98 6).toInt ≤ (M177.1 98 6).toInt) ∧ (b01 (XW M0 M177 0 1 0) = 1) ∧ ((M177.1 98 6).toInt ≤ 900) ∧ (b01 (LL (luP gf gn 2043 2045 (teP gf gn false (suR gf gn 3))) gn ((teP gf gn false (suR gf gn 3)) gi).2.2 gq178 0 (M103.1 98 11).toInt (M103.1 98 12).toInt (M177.1 98 11).toInt (M177.1 98 12).toInt (M177.1 98 6).toInt) = 1) ∧ (b01 (TKM gf gn M177) = 1) ∧ (b01 (PO gn gq178 (M177.1 98 11).toInt (M177.1 98 6).toInt) = 1) ∧ (b01 (PI M177) = 1) ∧ (900 - (M177.1 98 6).toInt) < (n174 : Int)) → INV pr Kz M177 → FR [98, 102] M0 M177 → jj p l e (cn_R 21) s m args below meth c 0 0 Q 3 dC dI ad cA A M177 5 [(0, .ref (ad 98)), (1, .int (sI 2))] [] := by
    intro n174
    induction n174 with
    | zero =>
      intro M177 gq178 h179 hM177 fM177
      exfalso; omega
    | succ n174 ih175 =>
      intro M177 gq178 h179 hM177 fM177
      have u180l := ri_l (M := M177) (by omega)
      have u180B := tkm_b (f := gf) (n := gn) (M := M177) (by omega)
      refine j_aload_n C 0 0 dX12_readSum_5 rfl rfl ?_
      refine y_bipush C dX12_readSum_6 rfl ?_
      have k181 := tkm_K (f := gf) (n := gn) (M := M177) (by omega)
      have k182 := kd_2 (kdk_32 gf gn (M177.1 98 6).toInt) (by omega)
      refine j_callVi C (d := 0) (As := [.int (sI 32)]) (st := []) 98 (s_lt rfl rfl) (s_kc (c := 11) rfl rfl) (by decide) rfl (s1_X12_is hM177 32 (by omega)) gX12_readSum_X12_is rfl hdX12_is (by decide) (Nat.le_of_ble_eq_true rfl) dX12_readSum_8 rfl (fun r183 M184 h185 => ?_)
      obtain ⟨a187, rfl, rfl, h186⟩ := h185
      refine y_if_ne C 23 dX12_readSum_11 (by decide) (by omega) (fun h188 => ?_) (fun h188 => ?_)
      · refine j_aload_n C 0 0 dX12_readSum_23 rfl rfl ?_
        refine y_getI C 11 _ _ fX12_readSum_108 rfl rfl ft_11_9 sb_11_9 hM177 dX12_readSum_24 (fun a189 ea189 la189 ua189 => ?_)
        obtain rfl : a189 = (M177.1 98 9).toInt := ea189
        refine y_bipush C dX12_readSum_27 rfl ?_
        have J193 : ∀ (a192 : Int), (3000 ≤ a192 ∧ a192 ≤ 3001) → jj p l e (cn_R 21) s m args below meth c 0 0 Q 3 dC dI ad cA A M177 41 [(0, .ref (ad 98)), (1, .int (sI 2))] [.int (sI a192)] := by
          intro a192 h194
          refine j_istore_n C 2 [(2, .int (sI a192)), (0, .ref (ad 98)), (1, .int (sI 2))] dX12_readSum_41 rfl (by decide) rfl ?_
          have u195k := ri_k (M := M177) (by omega) (by omega)
          refine j_aload_n C 1 0 dX12_readSum_42 rfl rfl ?_
          have k196 := tkm_p (f := gf) (n := gn) (M := M177) (by omega)
          have k197 := tkm_K (f := gf) (n := gn) (M := M177) (by omega)
          refine j_callVv C (d := 5) (As := []) (st := []) 98 (s_lt rfl rfl) (s_kc (c := 11) rfl rfl) (by decide) rfl (s1_X12_next hM177 hpr gf gn (by omega) (by omega) (by omega) (by omega)) gX12_readSum_X12_next rfl hdX12_next (by decide) (Nat.le_of_ble_eq_true rfl) dX12_readSum_43 rfl (fun M199 h200 => ?_)
          obtain ⟨hM199, fM199, h201⟩ := h200
          have bM199 := tkm_b (f := gf) (n := gn) (M := M199) (by omega)
          have qM199 := nx_po (f := gf) (n := gn) (i := gq178) (M := M177) (M' := M199) (by omega) (by omega) (by omega) (by omega) (by omega)
          have u202c := xw_c (N := M177) (P := M199) 1 (FR.cell fM199 (by decide)) (by omega)
          have u202t := xw_t (M := M0) (N := M177) (P := M199) (r1 := 0) (e1 := 1) (s1 := 0) (r2 := 0) (e2 := 0) (s2 := 1) 0 1 1 (by decide) (by omega) (by omega)
          have u202a := ca_x (M := M0) (N := M199) (r := 0) (e := 1) (s := 1) (by decide) (by omega) (by omega)
          have u202l := ri_l (M := M199) (by omega)
          refine j_aload_n C 1 0 dX12_readSum_46 rfl rfl ?_
          refine j_iload_n C 2 1 dX12_readSum_47 rfl rfl ?_
          refine j_callVv C (d := 20) (As := [.int (sI 2)]) (st := []) 98 (s_lt rfl rfl) (s_kc (c := 11) rfl rfl) (by decide) rfl (s5_X12_readTerm hM199 hpr gf gn (nxF gf gn gq178) (by omega) (by omega) (by omega) (by omega) (by omega)) gX12_readSum_X12_readTerm rfl hdX12_readTerm (by decide) (Nat.le_of_ble_eq_true rfl) dX12_readSum_48 rfl (fun M204 h205 => ?_)
          obtain ⟨hM204, fM204, h206⟩ := h205
          have bM204 := tkm_b (f := gf) (n := gn) (M := M204) (by omega)
          have qM204 := po_rr (teP gf gn false (suR gf gn 3)) gn (nxF gf gn gq178) (M199.1 98 11).toInt (M199.1 98 12).toInt (M199.1 98 6).toInt (M204.1 98 11).toInt (M204.1 98 12).toInt (M204.1 98 6).toInt (te_g gf gn (fun _ => suR_g gf gn 3)) (by omega) (by omega)
          have u207t := xw_t (M := M0) (N := M199) (P := M204) (r1 := 0) (e1 := 1) (s1 := 1) (r2 := 0) (e2 := 1) (s2 := 0) 0 2 1 (by decide) (by omega) (by omega)
          have u207l := ri_l (M := M204) (by omega)
          have u207b := cb_x (M := M0) (N := M204) (r := 0) (e := 2) (s := 1) (by decide) (by omega) (by omega) (by omega)
          refine j_aload_n C 1 0 dX12_readSum_51 rfl rfl ?_
          refine j_iload_n C 0 2 dX12_readSum_52 rfl rfl ?_
          refine j_callVv C (d := 0) (As := [.int (sI a192)]) (st := []) 98 (s_lt rfl rfl) (s_kc (c := 11) rfl rfl) (by decide) rfl (s1_X12_codes hM204 hpr a192 (by omega) gf gn ((teP gf gn false (suR gf gn 3)) (nxF gf gn gq178)).2.2 (by omega) (by omega) (by omega) (by omega)) gX12_readSum_X12_codes rfl hdX12_codes (by decide) (Nat.le_of_ble_eq_true rfl) dX12_readSum_53 rfl (fun M209 h210 => ?_)
          obtain ⟨hM209, fM209, h211⟩ := h210
          have bM209 := tkm_b (f := gf) (n := gn) (M := M209) (by omega)
          have qM209 := po_eq gn ((teP gf gn false (suR gf gn 3)) (nxF gf gn gq178)).2.2 (M204.1 98 11).toInt (M204.1 98 6).toInt (M209.1 98 11).toInt (M209.1 98 6).toInt (by omega) (by omega) (by omega)
          refine j_goto C 5 dX12_readSum_56 (by decide) ?_
          have u212x := xw_a (M := M204) (N := M209) (c := a192) (r := 2) (e := (-1)) (FR.cell fM209 (by decide)) (ap_bin ⟨(INV.rd hM204 (i := 102) (c := 48) (k := 280) rfl rfl).1, by omega, by omega⟩) (by omega)
          have u212t := xw_t (M := M0) (N := M204) (P := M209) (r1 := 0) (e1 := 2) (s1 := 1) (r2 := 2) (e2 := (-1)) (s2 := (-1)) 0 1 0 (by decide) (by omega) (by omega)
          have u212i := ri_c (M := M204) (N := M209) (FR.cell fM209 (by decide)) (by omega)
          have u212l := ri_l (M := M209) (by omega)
          have u212L := ll_w (luP gf gn 2043 2045 (teP gf gn false (suR gf gn 3))) gn ((teP gf gn false (suR gf gn 3)) gi).2.2 ((teP gf gn false (suR gf gn 3)) (nxF gf gn gq178)).2.2 (0 + 1) 0 (M103.1 98 11).toInt (M103.1 98 12).toInt (M209.1 98 11).toInt (M209.1 98 12).toInt (M209.1 98 6).toInt (by decide) (ll_s gf gn 2043 2045 (teP gf gn false (suR gf gn 3)) ((teP gf gn false (suR gf gn 3)) gi).2.2 gq178 0 (M103.1 98 11).toInt (M103.1 98 12).toInt (M177.1 98 11).toInt (M177.1 98 12).toInt (M177.1 98 6).toInt (M199.1 98 11).toInt (M199.1 98 12).toInt (M204.1 98 11).toInt (M204.1 98 12).toInt (M204.1 98 6).toInt (M209.1 98 11).toInt (M209.1 98 12).toInt (M209.1 98 6).toInt (by decide) (te_g gf gn (fun _ => suR_g gf gn 3)) (by omega) (by omega) (by omega) (by omega) (by omega) (by omega) (by omega) (by omega) (by omega))
          have zz98_8 : (M209.1 98 8).toInt = (M204.1 98 8).toInt := s_fF fM209 (by decide) (rfl); have zz98_6 : (M209.1 98 6).toInt = (M204.1 98 6).toInt := s_fF fM209 (by decide) (rfl); have zz98_12 : (M209.1 98 12).toInt = (M204.1 98 12).toInt := s_fF fM209 (by decide) (rfl); have zz98_11 : (M209.1 98 11).toInt = (M204.1 98 11).toInt := s_fF fM209 (by decide) (rfl); refine j_lv [1, 2] rfl ?_; exact ih175 M209 ((teP gf gn false (suR gf gn 3)) (nxF gf gn gq178)).2.2 (by omega) hM209 ((((FR.rf.tr fM177 (by decide)).tr fM199 (by decide)).tr fM204 (by decide)).tr fM209 (by decide))
        refine y_icmp_ne C 38 dX12_readSum_29 (by decide) (by omega) (fun h191 => ?_) (fun h191 => ?_)
        · refine y_sipush C dX12_readSum_38 rfl ?_
          exact J193 3001 (by omega)
        · refine y_sipush C dX12_readSum_32 rfl ?_
          refine j_goto C 41 dX12_readSum_35 (by decide) ?_
          exact J193 3000 (by omega)
      · refine j_aload_n C 0 0 dX12_readSum_14 rfl rfl ?_
        refine y_bipush C dX12_readSum_15 rfl ?_
        have k213 := tkm_K (f := gf) (n := gn) (M := M177) (by omega)
        have k214 := kd_2 (kdk_33 gf gn (M177.1 98 6).toInt) (by omega)
        refine j_callVi C (d := 0) (As := [.int (sI 33)]) (st := []) 98 (s_lt rfl rfl) (s_kc (c := 11) rfl rfl) (by decide) rfl (s1_X12_is hM177 33 (by omega)) gX12_readSum_X12_is rfl hdX12_is (by decide) (Nat.le_of_ble_eq_true rfl) dX12_readSum_17 rfl (fun r215 M216 h217 => ?_)
        obtain ⟨a219, rfl, rfl, h218⟩ := h217
        refine y_if_eq C 59 dX12_readSum_20 (by decide) (by omega) (fun h220 => ?_) (fun h220 => ?_)
        · have u245a := ca_x (M := M0) (N := M177) (r := 0) (e := 1) (s := 0) (by decide) (by omega) (by omega)
          have u245E := ll_e gf gn 2043 2045 (teP gf gn false (suR gf gn 3)) ((teP gf gn false (suR gf gn 3)) gi).2.2 gq178 0 (M103.1 98 11).toInt (M103.1 98 12).toInt (M177.1 98 11).toInt (M177.1 98 12).toInt (M177.1 98 6).toInt (by decide) (te_g gf gn (fun _ => suR_g gf gn 3)) (by omega) (by omega)
          have u245S : b01 (RR ((suR gf gn 4) gi) (M0.1 98 11).toInt (M0.1 98 12).toInt (M177.1 98 11).toInt (M177.1 98 12).toInt (M177.1 98 6).toInt) = 1 := by rw [su_q gf gn 3 4 rfl]; exact rr_sq ((teP gf gn false (suR gf gn 3)) gi) (luP gf gn 2043 2045 (teP gf gn false (suR gf gn 3))) (M0.1 98 11).toInt (M0.1 98 12).toInt (M103.1 98 11).toInt (M103.1 98 12).toInt (M103.1 98 6).toInt (M177.1 98 11).toInt (M177.1 98 12).toInt (M177.1 98 6).toInt (by omega) (by omega)
          exact hret _ _ _ dX12_readSum_59 ⟨hM177, (FR.rf.tr fM177 (by decide)), by omega⟩
        · refine j_aload_n C 0 0 dX12_readSum_23 rfl rfl ?_
          refine y_getI C 11 _ _ fX12_readSum_108 rfl rfl ft_11_9 sb_11_9 hM177 dX12_readSum_24 (fun a221 ea221 la221 ua221 => ?_)
          obtain rfl : a221 = (M177.1 98 9).toInt := ea221
          refine y_bipush C dX12_readSum_27 rfl ?_
          have J225 : ∀ (a224 : Int), (3000 ≤ a224 ∧ a224 ≤ 3001) → jj p l e (cn_R 21) s m args below meth c 0 0 Q 3 dC dI ad cA A M177 41 [(0, .ref (ad 98)), (1, .int (sI 2))] [.int (sI a224)] := by
            intro a224 h226
            refine j_istore_n C 2 [(2, .int (sI a224)), (0, .ref (ad 98)), (1, .int (sI 2))] dX12_readSum_41 rfl (by decide) rfl ?_
            have u227k := ri_k (M := M177) (by omega) (by omega)
            refine j_aload_n C 1 0 dX12_readSum_42 rfl rfl ?_
            have k228 := tkm_p (f := gf) (n := gn) (M := M177) (by omega)
            have k229 := tkm_K (f := gf) (n := gn) (M := M177) (by omega)
            refine j_callVv C (d := 5) (As := []) (st := []) 98 (s_lt rfl rfl) (s_kc (c := 11) rfl rfl) (by decide) rfl (s1_X12_next hM177 hpr gf gn (by omega) (by omega) (by omega) (by omega)) gX12_readSum_X12_next rfl hdX12_next (by decide) (Nat.le_of_ble_eq_true rfl) dX12_readSum_43 rfl (fun M231 h232 => ?_)
            obtain ⟨hM231, fM231, h233⟩ := h232
            have bM231 := tkm_b (f := gf) (n := gn) (M := M231) (by omega)
            have qM231 := nx_po (f := gf) (n := gn) (i := gq178) (M := M177) (M' := M231) (by omega) (by omega) (by omega) (by omega) (by omega)
            have u234c := xw_c (N := M177) (P := M231) 1 (FR.cell fM231 (by decide)) (by omega)
            have u234t := xw_t (M := M0) (N := M177) (P := M231) (r1 := 0) (e1 := 1) (s1 := 0) (r2 := 0) (e2 := 0) (s2 := 1) 0 1 1 (by decide) (by omega) (by omega)
            have u234a := ca_x (M := M0) (N := M231) (r := 0) (e := 1) (s := 1) (by decide) (by omega) (by omega)
            have u234l := ri_l (M := M231) (by omega)
            refine j_aload_n C 1 0 dX12_readSum_46 rfl rfl ?_
            refine j_iload_n C 2 1 dX12_readSum_47 rfl rfl ?_
            refine j_callVv C (d := 20) (As := [.int (sI 2)]) (st := []) 98 (s_lt rfl rfl) (s_kc (c := 11) rfl rfl) (by decide) rfl (s5_X12_readTerm hM231 hpr gf gn (nxF gf gn gq178) (by omega) (by omega) (by omega) (by omega) (by omega)) gX12_readSum_X12_readTerm rfl hdX12_readTerm (by decide) (Nat.le_of_ble_eq_true rfl) dX12_readSum_48 rfl (fun M236 h237 => ?_)
            obtain ⟨hM236, fM236, h238⟩ := h237
            have bM236 := tkm_b (f := gf) (n := gn) (M := M236) (by omega)
            have qM236 := po_rr (teP gf gn false (suR gf gn 3)) gn (nxF gf gn gq178) (M231.1 98 11).toInt (M231.1 98 12).toInt (M231.1 98 6).toInt (M236.1 98 11).toInt (M236.1 98 12).toInt (M236.1 98 6).toInt (te_g gf gn (fun _ => suR_g gf gn 3)) (by omega) (by omega)
            have u239t := xw_t (M := M0) (N := M231) (P := M236) (r1 := 0) (e1 := 1) (s1 := 1) (r2 := 0) (e2 := 1) (s2 := 0) 0 2 1 (by decide) (by omega) (by omega)
            have u239l := ri_l (M := M236) (by omega)
            have u239b := cb_x (M := M0) (N := M236) (r := 0) (e := 2) (s := 1) (by decide) (by omega) (by omega) (by omega)
            refine j_aload_n C 1 0 dX12_readSum_51 rfl rfl ?_
            refine j_iload_n C 0 2 dX12_readSum_52 rfl rfl ?_
            refine j_callVv C (d := 0) (As := [.int (sI a224)]) (st := []) 98 (s_lt rfl rfl) (s_kc (c := 11) rfl rfl) (by decide) rfl (s1_X12_codes hM236 hpr a224 (by omega) gf gn ((teP gf gn false (suR gf gn 3)) (nxF gf gn gq178)).2.2 (by omega) (by omega) (by omega) (by omega)) gX12_readSum_X12_codes rfl hdX12_codes (by decide) (Nat.le_of_ble_eq_true rfl) dX12_readSum_53 rfl (fun M241 h242 => ?_)
            obtain ⟨hM241, fM241, h243⟩ := h242
            have bM241 := tkm_b (f := gf) (n := gn) (M := M241) (by omega)
            have qM241 := po_eq gn ((teP gf gn false (suR gf gn 3)) (nxF gf gn gq178)).2.2 (M236.1 98 11).toInt (M236.1 98 6).toInt (M241.1 98 11).toInt (M241.1 98 6).toInt (by omega) (by omega) (by omega)
            refine j_goto C 5 dX12_readSum_56 (by decide) ?_
            have u244x := xw_a (M := M236) (N := M241) (c := a224) (r := 2) (e := (-1)) (FR.cell fM241 (by decide)) (ap_bin ⟨(INV.rd hM236 (i := 102) (c := 48) (k := 280) rfl rfl).1, by omega, by omega⟩) (by omega)
            have u244t := xw_t (M := M0) (N := M236) (P := M241) (r1 := 0) (e1 := 2) (s1 := 1) (r2 := 2) (e2 := (-1)) (s2 := (-1)) 0 1 0 (by decide) (by omega) (by omega)
            have u244i := ri_c (M := M236) (N := M241) (FR.cell fM241 (by decide)) (by omega)
            have u244l := ri_l (M := M241) (by omega)
            have u244L := ll_w (luP gf gn 2043 2045 (teP gf gn false (suR gf gn 3))) gn ((teP gf gn false (suR gf gn 3)) gi).2.2 ((teP gf gn false (suR gf gn 3)) (nxF gf gn gq178)).2.2 (0 + 1) 0 (M103.1 98 11).toInt (M103.1 98 12).toInt (M241.1 98 11).toInt (M241.1 98 12).toInt (M241.1 98 6).toInt (by decide) (ll_s gf gn 2043 2045 (teP gf gn false (suR gf gn 3)) ((teP gf gn false (suR gf gn 3)) gi).2.2 gq178 0 (M103.1 98 11).toInt (M103.1 98 12).toInt (M177.1 98 11).toInt (M177.1 98 12).toInt (M177.1 98 6).toInt (M231.1 98 11).toInt (M231.1 98 12).toInt (M236.1 98 11).toInt (M236.1 98 12).toInt (M236.1 98 6).toInt (M241.1 98 11).toInt (M241.1 98 12).toInt (M241.1 98 6).toInt (by decide) (te_g gf gn (fun _ => suR_g gf gn 3)) (by omega) (by omega) (by omega) (by omega) (by omega) (by omega) (by omega) (by omega) (by omega))
            have zz98_8 : (M241.1 98 8).toInt = (M236.1 98 8).toInt := s_fF fM241 (by decide) (rfl); have zz98_6 : (M241.1 98 6).toInt = (M236.1 98 6).toInt := s_fF fM241 (by decide) (rfl); have zz98_12 : (M241.1 98 12).toInt = (M236.1 98 12).toInt := s_fF fM241 (by decide) (rfl); have zz98_11 : (M241.1 98 11).toInt = (M236.1 98 11).toInt := s_fF fM241 (by decide) (rfl); refine j_lv [1, 2] rfl ?_; exact ih175 M241 ((teP gf gn false (suR gf gn 3)) (nxF gf gn gq178)).2.2 (by omega) hM241 ((((FR.rf.tr fM177 (by decide)).tr fM231 (by decide)).tr fM236 (by decide)).tr fM241 (by decide))
          refine y_icmp_ne C 38 dX12_readSum_29 (by decide) (by omega) (fun h223 => ?_) (fun h223 => ?_)
          · refine y_sipush C dX12_readSum_38 rfl ?_
            exact J225 3001 (by omega)
          · refine y_sipush C dX12_readSum_32 rfl ?_
            refine j_goto C 41 dX12_readSum_35 (by decide) ?_
            exact J225 3000 (by omega)
  exact L176 2010 M103 ((teP gf gn false (suR gf gn 3)) gi).2.2 (by omega) hM103 (FR.rf.tr fM103 (by decide))
set_option maxHeartbeats 4000000 in
theorem s6_X12_readAtom {l : Launch} {dC : Nat → ClassId} {dI : Nat → Nat → Nat} {ad : Nat → Nat} {cA : Nat → ClassId} {pr : Nat → Nat → Bool} {Kz : mm_M} {M0 : mm_M} (hM0 : INV pr Kz M0) (hpr : PM pr) (gf : Nat → Int) (gn : Int) (gi : Int) (hp0 : b01 (RIP M0) = 1) (hp1 : b01 (CA M0) = 1) (hp2 : b01 (TKM gf gn M0) = 1) (hp3 : b01 (PO gn gi (M0.1 98 11).toInt (M0.1 98 6).toInt) = 1) (hp4 : b01 (PI M0) = 1) : Cv l 22 yX12_readAtom wsX12_readAtom dC dI ad cA [.ref (ad 98), .int (sI 1)] M0 (fun M' => INV pr Kz M' ∧ FR [98, 102] M0 M' ∧ (b01 (RIP M') = 1) ∧ ((M'.1 98 8).toInt = (M0.1 98 8).toInt) ∧ ((M0.1 98 6).toInt ≤ (M'.1 98 6).toInt) ∧ (b01 (XW M0 M' 0 1 0) = 1) ∧ (b01 (CA M') = 1) ∧ (b01 (PI M') = 1) ∧ (b01 (TKM gf gn M') = 1) ∧ b01 (RR ((atP gf gn false (suR gf gn 4)) gi) (M0.1 98 11).toInt (M0.1 98 12).toInt (M'.1 98 11).toInt (M'.1 98 12).toInt (M'.1 98 6).toInt) = 1) := by
  refine cv_of (cc := cX12_readAtom) (maxL := 2) (lv := [(0, .ref (ad 98)), (1, .int (sI 1))]) (by decide) rfl (Nat.le_of_ble_eq_true rfl) rfl ?_
  intro p e s m args below meth c A Q C hret
  have u101z := xw_0 M0
  have u101l := ri_l (M := M0) (by omega)
  refine j_aload_n C 0 0 dX12_readAtom_0 rfl rfl ?_
  refine y_bipush C dX12_readAtom_1 rfl ?_
  have k102 := tkm_K (f := gf) (n := gn) (M := M0) (by omega)
  have k103 := kd_2 (kd_23 gf gn (M0.1 98 6).toInt) (by omega)
  refine j_callVi C (d := 0) (As := [.int (sI 23)]) (st := []) 98 (s_lt rfl rfl) (s_kc (c := 11) rfl rfl) (by decide) rfl (s1_X12_is hM0 23 (by omega)) gX12_readAtom_X12_is rfl hdX12_is (by decide) (Nat.le_of_ble_eq_true rfl) dX12_readAtom_3 rfl (fun r104 M105 h106 => ?_)
  obtain ⟨a108, rfl, rfl, h107⟩ := h106
  refine y_if_eq C 24 dX12_readAtom_6 (by decide) (by omega) (fun h109 => ?_) (fun h109 => ?_)
  · refine j_aload_n C 0 0 dX12_readAtom_24 rfl rfl ?_
    refine y_getI C 11 _ _ fX12_readAtom_126 rfl rfl ft_11_11 sb_11_11 hM0 dX12_readAtom_25 (fun a110 ea110 la110 ua110 => ?_)
    obtain rfl : a110 = (M0.1 98 11).toInt := ea110
    refine y_if_ne C 66 dX12_readAtom_28 (by decide) (by omega) (fun h112 => ?_) (fun h112 => ?_)
    · refine j_aload_n C 0 0 dX12_readAtom_66 rfl rfl ?_
      refine y_bipush C dX12_readAtom_67 rfl ?_
      have k113 := tkm_K (f := gf) (n := gn) (M := M0) (by omega)
      have k114 := kd_2 (kdk_35 gf gn (M0.1 98 6).toInt) (by omega)
      refine j_callVi C (d := 0) (As := [.int (sI 35)]) (st := []) 98 (s_lt rfl rfl) (s_kc (c := 11) rfl rfl) (by decide) rfl (s1_X12_is hM0 35 (by omega)) gX12_readAtom_X12_is rfl hdX12_is (by decide) (Nat.le_of_ble_eq_true rfl) dX12_readAtom_69 rfl (fun r115 M116 h117 => ?_)
      obtain ⟨a119, rfl, rfl, h118⟩ := h117
      refine y_if_eq C 108 dX12_readAtom_72 (by decide) (by omega) (fun h120 => ?_) (fun h120 => ?_)
      · refine j_aload_n C 0 0 dX12_readAtom_108 rfl rfl ?_
        refine y_iconst C dX12_readAtom_109 ?_
        refine j_callVv C (d := 0) (As := [.int (sI 2)]) (st := []) 98 (s_lt rfl rfl) (s_kc (c := 11) rfl rfl) (by decide) rfl (s1_X12_fails hM0 hpr 2 (by omega) gf gn gi (by omega) (by omega) (by omega) (by omega) (by omega)) gX12_readAtom_X12_fails rfl hdX12_fails (by decide) (Nat.le_of_ble_eq_true rfl) dX12_readAtom_110 rfl (fun M122 h123 => ?_)
        obtain ⟨hM122, fM122, h124⟩ := h123
        have bM122 := tkm_b (f := gf) (n := gn) (M := M122) (by omega)
        have qM122 := po_f gn ((faQ gf gn 2) gi).2.2 (M122.1 98 11).toInt (M122.1 98 6).toInt (by omega)
        have u125f : b01 (XW M0 M122 0 1 0) = 1 := b01_i (Or.inl (by omega))
        have u125a := ca_x (M := M0) (N := M122) (r := 0) (e := 1) (s := 0) (by decide) (by omega) (by omega)
        have u125r := at_4z gf gn false (suR gf gn 4) gi (M0.1 98 11).toInt (M0.1 98 12).toInt (M0.1 98 6).toInt (M122.1 98 11).toInt (M122.1 98 12).toInt (M122.1 98 6).toInt (by omega) (by omega) (by omega)
        exact hret _ _ _ dX12_readAtom_113 ⟨hM122, (FR.rf.tr fM122 (by decide)), by omega⟩
      · have u126k := ri_k (M := M0) (by omega) (by omega)
        refine j_aload_n C 0 0 dX12_readAtom_75 rfl rfl ?_
        refine j_iload_n C 1 1 dX12_readAtom_76 rfl rfl ?_
        refine j_callVi C (d := 6) (As := [.int (sI 1)]) (st := []) 98 (s_lt rfl rfl) (s_kc (c := 11) rfl rfl) (by decide) rfl (s2_X12_goesIn hM0 hpr gf gn gi (by omega) (by omega) (by omega) (by omega) (by omega) (by omega) (by omega)) gX12_readAtom_X12_goesIn rfl hdX12_goesIn (by decide) (Nat.le_of_ble_eq_true rfl) dX12_readAtom_77 rfl (fun r127 M128 h129 => ?_)
        obtain ⟨a131, rfl, hM128, fM128, h130⟩ := h129
        have bM128 := tkm_b (f := gf) (n := gn) (M := M128) (by omega)
        refine y_if_ne C 84 dX12_readAtom_80 (by decide) (by omega) (fun h132 => ?_) (fun h132 => ?_)
        · have u133c := xw_c (N := M0) (P := M128) 1 (FR.cell fM128 (by decide)) (by omega)
          have u133t := xw_t (M := M0) (N := M0) (P := M128) (r1 := 0) (e1 := 0) (s1 := 0) (r2 := 0) (e2 := 0) (s2 := 1) 0 0 1 (by decide) (by omega) (by omega)
          have u133a := ca_x (M := M0) (N := M128) (r := 0) (e := 0) (s := 1) (by decide) (by omega) (by omega)
          have u133l := ri_l (M := M128) (by omega)
          refine j_aload_n C 0 0 dX12_readAtom_84 rfl rfl ?_
          refine j_iload_n C 1 1 dX12_readAtom_85 rfl rfl ?_
          refine y_iconst C dX12_readAtom_86 ?_
          refine y_iadd C dX12_readAtom_87 ?_
          refine j_callVv C (d := 21) (As := [.int (sI (1 + 1))]) (st := []) 98 (s_lt rfl rfl) (s_kc (c := 11) rfl rfl) (by decide) rfl (s5_X12_readSum hM128 hpr gf gn (nxF gf gn gi) (by omega) (by omega) (by omega) (by omega) (by omega)) gX12_readAtom_X12_readSum rfl hdX12_readSum (by decide) (Nat.le_of_ble_eq_true rfl) dX12_readAtom_88 rfl (fun M135 h136 => ?_)
          obtain ⟨hM135, fM135, h137⟩ := h136
          have bM135 := tkm_b (f := gf) (n := gn) (M := M135) (by omega)
          have qM135 := po_rr (suR gf gn 4) gn (nxF gf gn gi) (M128.1 98 11).toInt (M128.1 98 12).toInt (M128.1 98 6).toInt (M135.1 98 11).toInt (M135.1 98 12).toInt (M135.1 98 6).toInt (suR_g gf gn 4) (by omega) (by omega)
          have u138t := xw_t (M := M0) (N := M128) (P := M135) (r1 := 0) (e1 := 0) (s1 := 1) (r2 := 0) (e2 := 1) (s2 := 0) 0 1 1 (by decide) (by omega) (by omega)
          have u138l := ri_l (M := M135) (by omega)
          refine j_aload_n C 0 0 dX12_readAtom_91 rfl rfl ?_
          refine y_bipush C dX12_readAtom_92 rfl ?_
          have k139 := tkm_K (f := gf) (n := gn) (M := M135) (by omega)
          have k140 := kd_2 (kdk_36 gf gn (M135.1 98 6).toInt) (by omega)
          refine j_callVi C (d := 6) (As := [.int (sI 36)]) (st := []) 98 (s_lt rfl rfl) (s_kc (c := 11) rfl rfl) (by decide) rfl (s1_X12_eats hM135 hpr 36 (by omega) gf gn ((suR gf gn 4) (nxF gf gn gi)).2.2 (by omega) (by omega) (by omega) (by omega) (by omega)) gX12_readAtom_X12_eats rfl hdX12_eats (by decide) (Nat.le_of_ble_eq_true rfl) dX12_readAtom_94 rfl (fun r141 M142 h143 => ?_)
          obtain ⟨a145, rfl, hM142, fM142, h144⟩ := h143
          have k146 := tk_c gf gn (M142.1 98 6).toInt (M135.1 98 6).toInt
          have bM142 := tkm_b (f := gf) (n := gn) (M := M142) (by omega)
          have u147c := xw_c (N := M135) (P := M142) 0 (FR.cell fM142 (by decide)) (by omega)
          have u147t := xw_t (M := M0) (N := M135) (P := M142) (r1 := 0) (e1 := 1) (s1 := 1) (r2 := 0) (e2 := 0) (s2 := 0) 0 1 0 (by decide) (by omega) (by omega)
          have u147a := ca_x (M := M0) (N := M142) (r := 0) (e := 1) (s := 0) (by decide) (by omega) (by omega)
          have u147l := ri_l (M := M142) (by omega)
          refine y_if_ne C 113 dX12_readAtom_97 (by decide) (by omega) (fun h148 => ?_) (fun h148 => ?_)
          · have u149x := ex_1 gf gn 2041 ((suR gf gn 4) (nxF gf gn gi)).2.2 (M135.1 98 11).toInt (M135.1 98 12).toInt (M135.1 98 6).toInt (M142.1 98 11).toInt (M142.1 98 12).toInt (M142.1 98 6).toInt (by omega) (by omega) (by omega) (by omega) (by omega) (by omega)
            have u149r := at_2 gf gn (suR gf gn 4) gi (M0.1 98 11).toInt (M0.1 98 12).toInt (M0.1 98 6).toInt (M128.1 98 11).toInt (M128.1 98 12).toInt (M135.1 98 11).toInt (M135.1 98 12).toInt (M135.1 98 6).toInt (M142.1 98 11).toInt (M142.1 98 12).toInt (M142.1 98 6).toInt (by omega) (by omega) (by omega) (by omega) (by omega) (by omega)
            exact hret _ _ _ dX12_readAtom_113 ⟨hM142, (((FR.rf.tr fM128 (by decide)).tr fM135 (by decide)).tr fM142 (by decide)), by omega⟩
          · refine j_aload_n C 0 0 dX12_readAtom_100 rfl rfl ?_
            refine y_iconst C dX12_readAtom_101 ?_
            have p150 := po_eq gn ((suR gf gn 4) (nxF gf gn gi)).2.2 (M135.1 98 11).toInt (M135.1 98 6).toInt (M142.1 98 11).toInt (M142.1 98 6).toInt (by omega) (by omega) (by omega)
            refine j_callVv C (d := 0) (As := [.int (sI 2)]) (st := []) 98 (s_lt rfl rfl) (s_kc (c := 11) rfl rfl) (by decide) rfl (s1_X12_fails hM142 hpr 2 (by omega) gf gn ((suR gf gn 4) (nxF gf gn gi)).2.2 (by omega) (by omega) (by omega) (by omega) (by omega)) gX12_readAtom_X12_fails rfl hdX12_fails (by decide) (Nat.le_of_ble_eq_true rfl) dX12_readAtom_102 rfl (fun M152 h153 => ?_)
            obtain ⟨hM152, fM152, h154⟩ := h153
            have bM152 := tkm_b (f := gf) (n := gn) (M := M152) (by omega)
            have qM152 := po_f gn ((faQ gf gn 2) ((suR gf gn 4) (nxF gf gn gi)).2.2).2.2 (M152.1 98 11).toInt (M152.1 98 6).toInt (by omega)
            have u155f : b01 (XW M0 M152 0 1 0) = 1 := b01_i (Or.inl (by omega))
            have u155a := ca_x (M := M0) (N := M152) (r := 0) (e := 1) (s := 0) (by decide) (by omega) (by omega)
            refine j_goto C 113 dX12_readAtom_105 (by decide) ?_
            have u156x := ex_2z gf gn 2041 ((suR gf gn 4) (nxF gf gn gi)).2.2 (M135.1 98 11).toInt (M135.1 98 12).toInt (M135.1 98 6).toInt (M152.1 98 11).toInt (M152.1 98 12).toInt (M152.1 98 6).toInt (by omega) (by omega) (rr_fr (faQ gf gn 2 ((suR gf gn 4) (nxF gf gn gi)).2.2) (M135.1 98 11).toInt (M135.1 98 12).toInt (M142.1 98 11).toInt (M142.1 98 12).toInt (M152.1 98 11).toInt (M152.1 98 12).toInt (M152.1 98 6).toInt (by omega) (by omega) (by omega))
            have u156r := at_2 gf gn (suR gf gn 4) gi (M0.1 98 11).toInt (M0.1 98 12).toInt (M0.1 98 6).toInt (M128.1 98 11).toInt (M128.1 98 12).toInt (M135.1 98 11).toInt (M135.1 98 12).toInt (M135.1 98 6).toInt (M152.1 98 11).toInt (M152.1 98 12).toInt (M152.1 98 6).toInt (by omega) (by omega) (by omega) (by omega) (by omega) (by omega)
            exact hret _ _ _ dX12_readAtom_113 ⟨hM152, ((((FR.rf.tr fM128 (by decide)).tr fM135 (by decide)).tr fM142 (by decide)).tr fM152 (by decide)), by omega⟩
        · exfalso; omega
    · refine j_aload_n C 0 0 dX12_readAtom_31 rfl rfl ?_
      refine j_aload_n C 0 0 dX12_readAtom_32 rfl rfl ?_
      refine y_getI C 11 _ _ fX12_readAtom_108 rfl rfl ft_11_9 sb_11_9 hM0 dX12_readAtom_33 (fun a157 ea157 la157 ua157 => ?_)
      obtain rfl : a157 = (M0.1 98 9).toInt := ea157
      have k159 := tkm_K (f := gf) (n := gn) (M := M0) (by omega)
      have k160 := kd_2 (wo_k gf gn (M0.1 98 6).toInt) (by omega)
      have k161 := wo_c (M0.1 98 9).toInt (kdF (tkF gf gn (M0.1 98 6).toInt))
      refine j_callVi C (d := 0) (As := [.int (sI (M0.1 98 9).toInt)]) (st := []) 98 (s_lt rfl rfl) (s_kc (c := 11) rfl rfl) (by decide) rfl (s1_X12_wordOf hM0 (M0.1 98 9).toInt (by omega)) gX12_readAtom_X12_wordOf rfl hdX12_wordOf (by decide) (Nat.le_of_ble_eq_true rfl) dX12_readAtom_36 rfl (fun r162 M163 h164 => ?_)
      obtain ⟨a166, rfl, rfl, h165⟩ := h164
      obtain rfl : a166 = (woF (M0.1 98 9).toInt) := by omega
      refine y_iconst C dX12_readAtom_39 ?_
      refine y_icmp_eq C 66 dX12_readAtom_40 (by decide) (by omega) (fun h167 => ?_) (fun h167 => ?_)
      · refine j_aload_n C 0 0 dX12_readAtom_66 rfl rfl ?_
        refine y_bipush C dX12_readAtom_67 rfl ?_
        have k168 := tkm_K (f := gf) (n := gn) (M := M0) (by omega)
        have k169 := kd_2 (kdk_35 gf gn (M0.1 98 6).toInt) (by omega)
        refine j_callVi C (d := 0) (As := [.int (sI 35)]) (st := []) 98 (s_lt rfl rfl) (s_kc (c := 11) rfl rfl) (by decide) rfl (s1_X12_is hM0 35 (by omega)) gX12_readAtom_X12_is rfl hdX12_is (by decide) (Nat.le_of_ble_eq_true rfl) dX12_readAtom_69 rfl (fun r170 M171 h172 => ?_)
        obtain ⟨a174, rfl, rfl, h173⟩ := h172
        refine y_if_eq C 108 dX12_readAtom_72 (by decide) (by omega) (fun h175 => ?_) (fun h175 => ?_)
        · refine j_aload_n C 0 0 dX12_readAtom_108 rfl rfl ?_
          refine y_iconst C dX12_readAtom_109 ?_
          refine j_callVv C (d := 0) (As := [.int (sI 2)]) (st := []) 98 (s_lt rfl rfl) (s_kc (c := 11) rfl rfl) (by decide) rfl (s1_X12_fails hM0 hpr 2 (by omega) gf gn gi (by omega) (by omega) (by omega) (by omega) (by omega)) gX12_readAtom_X12_fails rfl hdX12_fails (by decide) (Nat.le_of_ble_eq_true rfl) dX12_readAtom_110 rfl (fun M177 h178 => ?_)
          obtain ⟨hM177, fM177, h179⟩ := h178
          have bM177 := tkm_b (f := gf) (n := gn) (M := M177) (by omega)
          have qM177 := po_f gn ((faQ gf gn 2) gi).2.2 (M177.1 98 11).toInt (M177.1 98 6).toInt (by omega)
          have u180f : b01 (XW M0 M177 0 1 0) = 1 := b01_i (Or.inl (by omega))
          have u180a := ca_x (M := M0) (N := M177) (r := 0) (e := 1) (s := 0) (by decide) (by omega) (by omega)
          have u180r := at_4z gf gn false (suR gf gn 4) gi (M0.1 98 11).toInt (M0.1 98 12).toInt (M0.1 98 6).toInt (M177.1 98 11).toInt (M177.1 98 12).toInt (M177.1 98 6).toInt (by omega) (by omega) (by omega)
          exact hret _ _ _ dX12_readAtom_113 ⟨hM177, (FR.rf.tr fM177 (by decide)), by omega⟩
        · have u181k := ri_k (M := M0) (by omega) (by omega)
          refine j_aload_n C 0 0 dX12_readAtom_75 rfl rfl ?_
          refine j_iload_n C 1 1 dX12_readAtom_76 rfl rfl ?_
          refine j_callVi C (d := 6) (As := [.int (sI 1)]) (st := []) 98 (s_lt rfl rfl) (s_kc (c := 11) rfl rfl) (by decide) rfl (s2_X12_goesIn hM0 hpr gf gn gi (by omega) (by omega) (by omega) (by omega) (by omega) (by omega) (by omega)) gX12_readAtom_X12_goesIn rfl hdX12_goesIn (by decide) (Nat.le_of_ble_eq_true rfl) dX12_readAtom_77 rfl (fun r182 M183 h184 => ?_)
          obtain ⟨a186, rfl, hM183, fM183, h185⟩ := h184
          have bM183 := tkm_b (f := gf) (n := gn) (M := M183) (by omega)
          refine y_if_ne C 84 dX12_readAtom_80 (by decide) (by omega) (fun h187 => ?_) (fun h187 => ?_)
          · have u188c := xw_c (N := M0) (P := M183) 1 (FR.cell fM183 (by decide)) (by omega)
            have u188t := xw_t (M := M0) (N := M0) (P := M183) (r1 := 0) (e1 := 0) (s1 := 0) (r2 := 0) (e2 := 0) (s2 := 1) 0 0 1 (by decide) (by omega) (by omega)
            have u188a := ca_x (M := M0) (N := M183) (r := 0) (e := 0) (s := 1) (by decide) (by omega) (by omega)
            have u188l := ri_l (M := M183) (by omega)
            refine j_aload_n C 0 0 dX12_readAtom_84 rfl rfl ?_
            refine j_iload_n C 1 1 dX12_readAtom_85 rfl rfl ?_
            refine y_iconst C dX12_readAtom_86 ?_
            refine y_iadd C dX12_readAtom_87 ?_
            refine j_callVv C (d := 21) (As := [.int (sI (1 + 1))]) (st := []) 98 (s_lt rfl rfl) (s_kc (c := 11) rfl rfl) (by decide) rfl (s5_X12_readSum hM183 hpr gf gn (nxF gf gn gi) (by omega) (by omega) (by omega) (by omega) (by omega)) gX12_readAtom_X12_readSum rfl hdX12_readSum (by decide) (Nat.le_of_ble_eq_true rfl) dX12_readAtom_88 rfl (fun M190 h191 => ?_)
            obtain ⟨hM190, fM190, h192⟩ := h191
            have bM190 := tkm_b (f := gf) (n := gn) (M := M190) (by omega)
            have qM190 := po_rr (suR gf gn 4) gn (nxF gf gn gi) (M183.1 98 11).toInt (M183.1 98 12).toInt (M183.1 98 6).toInt (M190.1 98 11).toInt (M190.1 98 12).toInt (M190.1 98 6).toInt (suR_g gf gn 4) (by omega) (by omega)
            have u193t := xw_t (M := M0) (N := M183) (P := M190) (r1 := 0) (e1 := 0) (s1 := 1) (r2 := 0) (e2 := 1) (s2 := 0) 0 1 1 (by decide) (by omega) (by omega)
            have u193l := ri_l (M := M190) (by omega)
            refine j_aload_n C 0 0 dX12_readAtom_91 rfl rfl ?_
            refine y_bipush C dX12_readAtom_92 rfl ?_
            have k194 := tkm_K (f := gf) (n := gn) (M := M190) (by omega)
            have k195 := kd_2 (kdk_36 gf gn (M190.1 98 6).toInt) (by omega)
            refine j_callVi C (d := 6) (As := [.int (sI 36)]) (st := []) 98 (s_lt rfl rfl) (s_kc (c := 11) rfl rfl) (by decide) rfl (s1_X12_eats hM190 hpr 36 (by omega) gf gn ((suR gf gn 4) (nxF gf gn gi)).2.2 (by omega) (by omega) (by omega) (by omega) (by omega)) gX12_readAtom_X12_eats rfl hdX12_eats (by decide) (Nat.le_of_ble_eq_true rfl) dX12_readAtom_94 rfl (fun r196 M197 h198 => ?_)
            obtain ⟨a200, rfl, hM197, fM197, h199⟩ := h198
            have k201 := tk_c gf gn (M197.1 98 6).toInt (M190.1 98 6).toInt
            have bM197 := tkm_b (f := gf) (n := gn) (M := M197) (by omega)
            have u202c := xw_c (N := M190) (P := M197) 0 (FR.cell fM197 (by decide)) (by omega)
            have u202t := xw_t (M := M0) (N := M190) (P := M197) (r1 := 0) (e1 := 1) (s1 := 1) (r2 := 0) (e2 := 0) (s2 := 0) 0 1 0 (by decide) (by omega) (by omega)
            have u202a := ca_x (M := M0) (N := M197) (r := 0) (e := 1) (s := 0) (by decide) (by omega) (by omega)
            have u202l := ri_l (M := M197) (by omega)
            refine y_if_ne C 113 dX12_readAtom_97 (by decide) (by omega) (fun h203 => ?_) (fun h203 => ?_)
            · have u204x := ex_1 gf gn 2041 ((suR gf gn 4) (nxF gf gn gi)).2.2 (M190.1 98 11).toInt (M190.1 98 12).toInt (M190.1 98 6).toInt (M197.1 98 11).toInt (M197.1 98 12).toInt (M197.1 98 6).toInt (by omega) (by omega) (by omega) (by omega) (by omega) (by omega)
              have u204r := at_2 gf gn (suR gf gn 4) gi (M0.1 98 11).toInt (M0.1 98 12).toInt (M0.1 98 6).toInt (M183.1 98 11).toInt (M183.1 98 12).toInt (M190.1 98 11).toInt (M190.1 98 12).toInt (M190.1 98 6).toInt (M197.1 98 11).toInt (M197.1 98 12).toInt (M197.1 98 6).toInt (by omega) (by omega) (by omega) (by omega) (by omega) (by omega)
              exact hret _ _ _ dX12_readAtom_113 ⟨hM197, (((FR.rf.tr fM183 (by decide)).tr fM190 (by decide)).tr fM197 (by decide)), by omega⟩
            · refine j_aload_n C 0 0 dX12_readAtom_100 rfl rfl ?_
              refine y_iconst C dX12_readAtom_101 ?_
              have p205 := po_eq gn ((suR gf gn 4) (nxF gf gn gi)).2.2 (M190.1 98 11).toInt (M190.1 98 6).toInt (M197.1 98 11).toInt (M197.1 98 6).toInt (by omega) (by omega) (by omega)
              refine j_callVv C (d := 0) (As := [.int (sI 2)]) (st := []) 98 (s_lt rfl rfl) (s_kc (c := 11) rfl rfl) (by decide) rfl (s1_X12_fails hM197 hpr 2 (by omega) gf gn ((suR gf gn 4) (nxF gf gn gi)).2.2 (by omega) (by omega) (by omega) (by omega) (by omega)) gX12_readAtom_X12_fails rfl hdX12_fails (by decide) (Nat.le_of_ble_eq_true rfl) dX12_readAtom_102 rfl (fun M207 h208 => ?_)
              obtain ⟨hM207, fM207, h209⟩ := h208
              have bM207 := tkm_b (f := gf) (n := gn) (M := M207) (by omega)
              have qM207 := po_f gn ((faQ gf gn 2) ((suR gf gn 4) (nxF gf gn gi)).2.2).2.2 (M207.1 98 11).toInt (M207.1 98 6).toInt (by omega)
              have u210f : b01 (XW M0 M207 0 1 0) = 1 := b01_i (Or.inl (by omega))
              have u210a := ca_x (M := M0) (N := M207) (r := 0) (e := 1) (s := 0) (by decide) (by omega) (by omega)
              refine j_goto C 113 dX12_readAtom_105 (by decide) ?_
              have u211x := ex_2z gf gn 2041 ((suR gf gn 4) (nxF gf gn gi)).2.2 (M190.1 98 11).toInt (M190.1 98 12).toInt (M190.1 98 6).toInt (M207.1 98 11).toInt (M207.1 98 12).toInt (M207.1 98 6).toInt (by omega) (by omega) (rr_fr (faQ gf gn 2 ((suR gf gn 4) (nxF gf gn gi)).2.2) (M190.1 98 11).toInt (M190.1 98 12).toInt (M197.1 98 11).toInt (M197.1 98 12).toInt (M207.1 98 11).toInt (M207.1 98 12).toInt (M207.1 98 6).toInt (by omega) (by omega) (by omega))
              have u211r := at_2 gf gn (suR gf gn 4) gi (M0.1 98 11).toInt (M0.1 98 12).toInt (M0.1 98 6).toInt (M183.1 98 11).toInt (M183.1 98 12).toInt (M190.1 98 11).toInt (M190.1 98 12).toInt (M190.1 98 6).toInt (M207.1 98 11).toInt (M207.1 98 12).toInt (M207.1 98 6).toInt (by omega) (by omega) (by omega) (by omega) (by omega) (by omega)
              exact hret _ _ _ dX12_readAtom_113 ⟨hM207, ((((FR.rf.tr fM183 (by decide)).tr fM190 (by decide)).tr fM197 (by decide)).tr fM207 (by decide)), by omega⟩
          · exfalso; omega
      · have u212w := woF_s (M0.1 98 9).toInt
        have u212k := ri_k (M := M0) (by omega) (by omega)
        have u212b := cb_0 (M := M0) (by omega) (by omega)
        refine j_aload_n C 0 0 dX12_readAtom_43 rfl rfl ?_
        refine y_sipush C dX12_readAtom_44 rfl ?_
        refine j_aload_n C 0 0 dX12_readAtom_47 rfl rfl ?_
        refine j_aload_n C 0 0 dX12_readAtom_48 rfl rfl ?_
        refine y_getI C 11 _ _ fX12_readAtom_108 rfl rfl ft_11_9 sb_11_9 hM0 dX12_readAtom_49 (fun a213 ea213 la213 ua213 => ?_)
        obtain rfl : a213 = (M0.1 98 9).toInt := ea213
        have k215 := tkm_K (f := gf) (n := gn) (M := M0) (by omega)
        have k216 := kd_2 (wo_k gf gn (M0.1 98 6).toInt) (by omega)
        have k217 := wo_c (M0.1 98 9).toInt (kdF (tkF gf gn (M0.1 98 6).toInt))
        refine j_callVi C (d := 0) (As := [.int (sI (M0.1 98 9).toInt)]) (st := [.int (sI 1000), .ref (ad 98)]) 98 (s_lt rfl rfl) (s_kc (c := 11) rfl rfl) (by decide) rfl (s1_X12_wordOf hM0 (M0.1 98 9).toInt (by omega)) gX12_readAtom_X12_wordOf rfl hdX12_wordOf (by decide) (Nat.le_of_ble_eq_true rfl) dX12_readAtom_52 rfl (fun r218 M219 h220 => ?_)
        obtain ⟨a222, rfl, rfl, h221⟩ := h220
        obtain rfl : a222 = (woF (M0.1 98 9).toInt) := by omega
        refine y_iadd C dX12_readAtom_55 ?_
        refine j_callVv C (d := 0) (As := [.int (sI (1000 + (woF (M0.1 98 9).toInt)))]) (st := []) 98 (s_lt rfl rfl) (s_kc (c := 11) rfl rfl) (by decide) rfl (s1_X12_codes hM0 hpr (1000 + (woF (M0.1 98 9).toInt)) (by omega) gf gn gi (by omega) (by omega) (by omega) (by omega)) gX12_readAtom_X12_codes rfl hdX12_codes (by decide) (Nat.le_of_ble_eq_true rfl) dX12_readAtom_56 rfl (fun M224 h225 => ?_)
        obtain ⟨hM224, fM224, h226⟩ := h225
        have bM224 := tkm_b (f := gf) (n := gn) (M := M224) (by omega)
        have qM224 := po_eq gn gi (M0.1 98 11).toInt (M0.1 98 6).toInt (M224.1 98 11).toInt (M224.1 98 6).toInt (by omega) (by omega) (by omega)
        have u227x := xw_a (M := M0) (N := M224) (c := (1000 + (woF (M0.1 98 9).toInt))) (r := 0) (e := 1) (FR.cell fM224 (by decide)) (ap_push ⟨(INV.rd hM0 (i := 102) (c := 48) (k := 280) rfl rfl).1, by omega, by omega⟩) (by omega)
        have u227t := xw_t (M := M0) (N := M0) (P := M224) (r1 := 0) (e1 := 0) (s1 := 0) (r2 := 0) (e2 := 1) (s2 := (-1)) 0 1 (-1) (by decide) (by omega) (by omega)
        have u227i := ri_c (M := M0) (N := M224) (FR.cell fM224 (by decide)) (by omega)
        have u227l := ri_l (M := M224) (by omega)
        have u227q6 : (M224.1 98 6).toInt = (M0.1 98 6).toInt := by rw [show M224.1 98 = M0.1 98 from FR.cell fM224 (by decide)]
        have u227q7 : (M224.1 98 7).toInt = (M0.1 98 7).toInt := by rw [show M224.1 98 = M0.1 98 from FR.cell fM224 (by decide)]
        have u227q8 : (M224.1 98 8).toInt = (M0.1 98 8).toInt := by rw [show M224.1 98 = M0.1 98 from FR.cell fM224 (by decide)]
        have u227q9 : (M224.1 98 9).toInt = (M0.1 98 9).toInt := by rw [show M224.1 98 = M0.1 98 from FR.cell fM224 (by decide)]
        have u227q11 : (M224.1 98 11).toInt = (M0.1 98 11).toInt := by rw [show M224.1 98 = M0.1 98 from FR.cell fM224 (by decide)]
        refine j_aload_n C 0 0 dX12_readAtom_59 rfl rfl ?_
        have zz98_7 : (M224.1 98 7).toInt = (M0.1 98 7).toInt := s_fF fM224 (by decide) (rfl)
        have zz98_8 : (M224.1 98 8).toInt = (M0.1 98 8).toInt := s_fF fM224 (by decide) (rfl)
        have k228 := tkm_p (f := gf) (n := gn) (M := M224) (by omega)
        have k229 := tkm_K (f := gf) (n := gn) (M := M224) (by omega)
        refine j_callVv C (d := 5) (As := []) (st := []) 98 (s_lt rfl rfl) (s_kc (c := 11) rfl rfl) (by decide) rfl (s1_X12_next hM224 hpr gf gn (by omega) (by omega) (by omega) (by omega)) gX12_readAtom_X12_next rfl hdX12_next (by decide) (Nat.le_of_ble_eq_true rfl) dX12_readAtom_60 rfl (fun M231 h232 => ?_)
        obtain ⟨hM231, fM231, h233⟩ := h232
        have bM231 := tkm_b (f := gf) (n := gn) (M := M231) (by omega)
        have qM231 := nx_po (f := gf) (n := gn) (i := gi) (M := M224) (M' := M231) (by omega) (by omega) (by omega) (by omega) (by omega)
        have u234c := xw_c (N := M224) (P := M231) 1 (FR.cell fM231 (by decide)) (by omega)
        have u234t := xw_t (M := M0) (N := M224) (P := M231) (r1 := 0) (e1 := 1) (s1 := (-1)) (r2 := 0) (e2 := 0) (s2 := 1) 0 1 0 (by decide) (by omega) (by omega)
        have u234a := ca_x (M := M0) (N := M231) (r := 0) (e := 1) (s := 0) (by decide) (by omega) (by omega)
        refine j_goto C 113 dX12_readAtom_63 (by decide) ?_
        have u235r := at_1 gf gn false (suR gf gn 4) gi (M0.1 98 11).toInt (M0.1 98 12).toInt (M0.1 98 6).toInt (M231.1 98 11).toInt (M231.1 98 12).toInt (M231.1 98 6).toInt (by omega) (by omega) (by omega) (by omega) (by omega) (by omega)
        exact hret _ _ _ dX12_readAtom_113 ⟨hM231, ((FR.rf.tr fM224 (by decide)).tr fM231 (by decide)), by omega⟩
  · have u236k := ri_k (M := M0) (by omega) (by omega)
    have u236b := cb_0 (M := M0) (by omega) (by omega)
    refine j_aload_n C 0 0 dX12_readAtom_9 rfl rfl ?_
    refine j_aload_n C 0 0 dX12_readAtom_10 rfl rfl ?_
    refine y_getI C 11 _ _ fX12_readAtom_121 rfl rfl ft_11_10 sb_11_10 hM0 dX12_readAtom_11 (fun a237 ea237 la237 ua237 => ?_)
    obtain rfl : a237 = (M0.1 98 10).toInt := ea237
    refine j_callVv C (d := 0) (As := [.int (sI (M0.1 98 10).toInt)]) (st := []) 98 (s_lt rfl rfl) (s_kc (c := 11) rfl rfl) (by decide) rfl (s1_X12_codes hM0 hpr (M0.1 98 10).toInt (by omega) gf gn gi (by omega) (by omega) (by omega) (by omega)) gX12_readAtom_X12_codes rfl hdX12_codes (by decide) (Nat.le_of_ble_eq_true rfl) dX12_readAtom_14 rfl (fun M240 h241 => ?_)
    obtain ⟨hM240, fM240, h242⟩ := h241
    have bM240 := tkm_b (f := gf) (n := gn) (M := M240) (by omega)
    have qM240 := po_eq gn gi (M0.1 98 11).toInt (M0.1 98 6).toInt (M240.1 98 11).toInt (M240.1 98 6).toInt (by omega) (by omega) (by omega)
    have u243x := xw_a (M := M0) (N := M240) (c := (M0.1 98 10).toInt) (r := 0) (e := 1) (FR.cell fM240 (by decide)) (ap_push ⟨(INV.rd hM0 (i := 102) (c := 48) (k := 280) rfl rfl).1, by omega, by omega⟩) (by omega)
    have u243t := xw_t (M := M0) (N := M0) (P := M240) (r1 := 0) (e1 := 0) (s1 := 0) (r2 := 0) (e2 := 1) (s2 := (-1)) 0 1 (-1) (by decide) (by omega) (by omega)
    have u243i := ri_c (M := M0) (N := M240) (FR.cell fM240 (by decide)) (by omega)
    have u243l := ri_l (M := M240) (by omega)
    have u243q6 : (M240.1 98 6).toInt = (M0.1 98 6).toInt := by rw [show M240.1 98 = M0.1 98 from FR.cell fM240 (by decide)]
    have u243q7 : (M240.1 98 7).toInt = (M0.1 98 7).toInt := by rw [show M240.1 98 = M0.1 98 from FR.cell fM240 (by decide)]
    have u243q8 : (M240.1 98 8).toInt = (M0.1 98 8).toInt := by rw [show M240.1 98 = M0.1 98 from FR.cell fM240 (by decide)]
    have u243q9 : (M240.1 98 9).toInt = (M0.1 98 9).toInt := by rw [show M240.1 98 = M0.1 98 from FR.cell fM240 (by decide)]
    have u243q11 : (M240.1 98 11).toInt = (M0.1 98 11).toInt := by rw [show M240.1 98 = M0.1 98 from FR.cell fM240 (by decide)]
    refine j_aload_n C 0 0 dX12_readAtom_17 rfl rfl ?_
    have zz98_7 : (M240.1 98 7).toInt = (M0.1 98 7).toInt := s_fF fM240 (by decide) (rfl)
    have zz98_8 : (M240.1 98 8).toInt = (M0.1 98 8).toInt := s_fF fM240 (by decide) (rfl)
    have k244 := tkm_p (f := gf) (n := gn) (M := M240) (by omega)
    have k245 := tkm_K (f := gf) (n := gn) (M := M240) (by omega)
    refine j_callVv C (d := 5) (As := []) (st := []) 98 (s_lt rfl rfl) (s_kc (c := 11) rfl rfl) (by decide) rfl (s1_X12_next hM240 hpr gf gn (by omega) (by omega) (by omega) (by omega)) gX12_readAtom_X12_next rfl hdX12_next (by decide) (Nat.le_of_ble_eq_true rfl) dX12_readAtom_18 rfl (fun M247 h248 => ?_)
    obtain ⟨hM247, fM247, h249⟩ := h248
    have bM247 := tkm_b (f := gf) (n := gn) (M := M247) (by omega)
    have qM247 := nx_po (f := gf) (n := gn) (i := gi) (M := M240) (M' := M247) (by omega) (by omega) (by omega) (by omega) (by omega)
    have u250c := xw_c (N := M240) (P := M247) 1 (FR.cell fM247 (by decide)) (by omega)
    have u250t := xw_t (M := M0) (N := M240) (P := M247) (r1 := 0) (e1 := 1) (s1 := (-1)) (r2 := 0) (e2 := 0) (s2 := 1) 0 1 0 (by decide) (by omega) (by omega)
    have u250a := ca_x (M := M0) (N := M247) (r := 0) (e := 1) (s := 0) (by decide) (by omega) (by omega)
    refine j_goto C 113 dX12_readAtom_21 (by decide) ?_
    have u251r := at_1 gf gn false (suR gf gn 4) gi (M0.1 98 11).toInt (M0.1 98 12).toInt (M0.1 98 6).toInt (M247.1 98 11).toInt (M247.1 98 12).toInt (M247.1 98 6).toInt (by omega) (by omega) (by omega) (by omega) (by omega) (by omega)
    exact hret _ _ _ dX12_readAtom_113 ⟨hM247, ((FR.rf.tr fM240 (by decide)).tr fM247 (by decide)), by omega⟩
