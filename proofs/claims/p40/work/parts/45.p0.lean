set_option maxHeartbeats 4000000 in
theorem s1_X12_see {l : Launch} {dC : Nat → ClassId} {dI : Nat → Nat → Nat} {ad : Nat → Nat} {cA : Nat → ClassId} {pr : Nat → Nat → Bool} {Kz : mm_M} {M0 : mm_M} (hM0 : INV pr Kz M0) (a1 : Int) (ha1 : -2147483648 ≤ a1 ∧ a1 ≤ 2147483647) (hp0 : 0 ≤ a1 ∧ a1 ≤ 900) : Ci l 0 yX12_see wsX12_see dC dI ad cA [.ref (ad 98), .int (sI a1)] M0 (fun r M' => ∃ a : Int, r = sI a ∧ M0 = M' ∧ (-1) ≤ a ∧ a ≤ 255 ∧ (a1 < (M0.1 98 8).toInt ∧ a = (M0.1 101 (a1).toNat).toInt ∨ ¬ a1 < (M0.1 98 8).toInt ∧ a = -1)) := by
  refine ci_of (cc := cX12_see) (maxL := 2) (ty := .int) (lv := [(0, .ref (ad 98)), (1, .int (sI a1))]) (by decide) rfl (fun r M' hp => rfl) (Nat.le_of_ble_eq_true rfl) rfl ?_
  intro p e s m args below meth c A Q C hret
  refine j_iload_n C 1 1 dX12_see_0 rfl rfl ?_
  refine j_aload_n C 0 0 dX12_see_1 rfl rfl ?_
  refine y_getI C 11 _ _ fX12_see_83 rfl rfl ft_11_8 sb_11_8 hM0 dX12_see_2 (fun a101 ea101 la101 ua101 => ?_)
  obtain rfl : a101 = (M0.1 98 8).toInt := ea101
  refine y_icmp_ge C 17 dX12_see_5 (by decide) (by omega) (fun h103 => ?_) (fun h103 => ?_)
  · refine y_iconst C dX12_see_17 ?_
    exact hret _ _ _ _ dX12_see_18 ⟨(-1), rfl, rfl, by omega⟩
  · refine j_aload_n C 0 0 dX12_see_8 rfl rfl ?_
    refine y_getC C 11 101 fX12_see_21 rfl rfl ft_11_3 sm_11_3 rfl hM0 dX12_see_9 ?_
    refine j_iload_n C 1 1 dX12_see_12 rfl rfl ?_
    refine y_iald C 47 900 _ _ rfl rfl rfl ak_47 an_47 rfl (sb_47 _) hM0 dX12_see_13 (by omega) (fun a104 ea104 la104 ua104 => ?_)
    obtain rfl : a104 = (M0.1 101 (a1).toNat).toInt := ea104
    refine j_goto C 18 dX12_see_14 (by decide) ?_
    exact hret _ _ _ _ dX12_see_18 ⟨(M0.1 101 (a1).toNat).toInt, rfl, rfl, by omega⟩
set_option maxHeartbeats 4000000 in
theorem s1_X12_isSmall {l : Launch} {dC : Nat → ClassId} {dI : Nat → Nat → Nat} {ad : Nat → Nat} {cA : Nat → ClassId} {pr : Nat → Nat → Bool} {Kz : mm_M} {M0 : mm_M} (hM0 : INV pr Kz M0) (a0 : Int) (ha0 : -2147483648 ≤ a0 ∧ a0 ≤ 2147483647) : Ci l 0 yX12_isSmall wsX12_isSmall dC dI ad cA [.int (sI a0)] M0 (fun r M' => ∃ a : Int, r = sI a ∧ M0 = M' ∧ 0 ≤ a ∧ a ≤ 1 ∧ ((a0 < 97 ∧ a = 0) ∨ (97 ≤ a0 ∧ 122 < a0 ∧ a = 0) ∨ (97 ≤ a0 ∧ a0 ≤ 122 ∧ a = 1))) := by
  refine ci_of (cc := cX12_isSmall) (maxL := 1) (ty := .boolean) (lv := [(0, .int (sI a0))]) (by decide) rfl (fun r M' hp => by obtain ⟨a, rfl, -, h⟩ := hp; rcases (show a = 0 ∨ a = 1 by omega) with rfl | rfl <;> rfl) (Nat.le_of_ble_eq_true rfl) rfl ?_
  intro p e s m args below meth c A Q C hret
  refine j_iload_n C 0 0 dX12_isSmall_0 rfl rfl ?_
  refine y_bipush C dX12_isSmall_1 rfl ?_
  refine y_icmp_lt C 16 dX12_isSmall_3 (by decide) (by omega) (fun h101 => ?_) (fun h101 => ?_)
  · refine y_iconst C dX12_isSmall_16 ?_
    exact hret _ _ _ _ dX12_isSmall_17 ⟨0, rfl, rfl, by omega⟩
  · refine j_iload_n C 0 0 dX12_isSmall_6 rfl rfl ?_
    refine y_bipush C dX12_isSmall_7 rfl ?_
    refine y_icmp_gt C 16 dX12_isSmall_9 (by decide) (by omega) (fun h102 => ?_) (fun h102 => ?_)
    · refine y_iconst C dX12_isSmall_16 ?_
      exact hret _ _ _ _ dX12_isSmall_17 ⟨0, rfl, rfl, by omega⟩
    · refine y_iconst C dX12_isSmall_12 ?_
      refine j_goto C 17 dX12_isSmall_13 (by decide) ?_
      exact hret _ _ _ _ dX12_isSmall_17 ⟨1, rfl, rfl, by omega⟩
set_option maxHeartbeats 4000000 in
theorem s1_X12_isDigit {l : Launch} {dC : Nat → ClassId} {dI : Nat → Nat → Nat} {ad : Nat → Nat} {cA : Nat → ClassId} {pr : Nat → Nat → Bool} {Kz : mm_M} {M0 : mm_M} (hM0 : INV pr Kz M0) (a0 : Int) (ha0 : -2147483648 ≤ a0 ∧ a0 ≤ 2147483647) : Ci l 0 yX12_isDigit wsX12_isDigit dC dI ad cA [.int (sI a0)] M0 (fun r M' => ∃ a : Int, r = sI a ∧ M0 = M' ∧ 0 ≤ a ∧ a ≤ 1 ∧ ((a0 < 48 ∧ a = 0) ∨ (48 ≤ a0 ∧ 57 < a0 ∧ a = 0) ∨ (48 ≤ a0 ∧ a0 ≤ 57 ∧ a = 1))) := by
  refine ci_of (cc := cX12_isDigit) (maxL := 1) (ty := .boolean) (lv := [(0, .int (sI a0))]) (by decide) rfl (fun r M' hp => by obtain ⟨a, rfl, -, h⟩ := hp; rcases (show a = 0 ∨ a = 1 by omega) with rfl | rfl <;> rfl) (Nat.le_of_ble_eq_true rfl) rfl ?_
  intro p e s m args below meth c A Q C hret
  refine j_iload_n C 0 0 dX12_isDigit_0 rfl rfl ?_
  refine y_bipush C dX12_isDigit_1 rfl ?_
  refine y_icmp_lt C 16 dX12_isDigit_3 (by decide) (by omega) (fun h101 => ?_) (fun h101 => ?_)
  · refine y_iconst C dX12_isDigit_16 ?_
    exact hret _ _ _ _ dX12_isDigit_17 ⟨0, rfl, rfl, by omega⟩
  · refine j_iload_n C 0 0 dX12_isDigit_6 rfl rfl ?_
    refine y_bipush C dX12_isDigit_7 rfl ?_
    refine y_icmp_gt C 16 dX12_isDigit_9 (by decide) (by omega) (fun h102 => ?_) (fun h102 => ?_)
    · refine y_iconst C dX12_isDigit_16 ?_
      exact hret _ _ _ _ dX12_isDigit_17 ⟨0, rfl, rfl, by omega⟩
    · refine y_iconst C dX12_isDigit_12 ?_
      refine j_goto C 17 dX12_isDigit_13 (by decide) ?_
      exact hret _ _ _ _ dX12_isDigit_17 ⟨1, rfl, rfl, by omega⟩
set_option maxHeartbeats 4000000 in
theorem s2_J0_coder_7d493 {l : Launch} {dC : Nat → ClassId} {dI : Nat → Nat → Nat} {ad : Nat → Nat} {cA : Nat → ClassId} {pr : Nat → Nat → Bool} {Kz : mm_M} {M0 : mm_M} (hM0 : INV pr Kz M0)  : Ci l 0 yJ0_coder_7d493 wsJ0_coder_7d493 dC dI ad cA [.ref (dI 1000 3)] M0 (fun r M' => ∃ a : Int, r = sI a ∧ M0 = M' ∧ 0 ≤ a ∧ a ≤ 0 ∧ ((a = 0))) := by
  refine ci_of (cc := cJ0_coder_7d493) (maxL := 1) (ty := .byte) (lv := [(0, .ref (dI 1000 3))]) (by decide) rfl (fun r M' hp => by obtain ⟨a, rfl, -, h⟩ := hp; exact nar_byte (by omega)) (Nat.le_of_ble_eq_true rfl) rfl ?_
  intro p e s m args below meth c A Q C hret
  refine j_getsC C fJ0_coder_7d493_38 dJ0_coder_7d493_0 ?_
  refine y_if_eq C 13 dJ0_coder_7d493_3 (by decide) (by omega) (fun h101 => ?_) (fun h101 => ?_)
  · exfalso; omega
  · refine j_aload_n C 0 0 dJ0_coder_7d493_6 rfl rfl ?_
    refine j_strC C (by decide) fJ0_coder_7d493_15 dJ0_coder_7d493_7 ?_
    refine j_goto C 14 dJ0_coder_7d493_10 (by decide) ?_
    exact hret _ _ _ _ dJ0_coder_7d493_14 ⟨0, rfl, rfl, by omega⟩
set_option maxHeartbeats 4000000 in
theorem s2_J0_length_8abf5 {l : Launch} {dC : Nat → ClassId} {dI : Nat → Nat → Nat} {ad : Nat → Nat} {cA : Nat → ClassId} {pr : Nat → Nat → Bool} {Kz : mm_M} {M0 : mm_M} (hM0 : INV pr Kz M0)  : Ci l 1 yJ0_length_8abf5 wsJ0_length_8abf5 dC dI ad cA [.ref (dI 1000 3)] M0 (fun r M' => ∃ a : Int, r = sI a ∧ M0 = M' ∧ 0 ≤ a ∧ a ≤ 12 ∧ ((0 ≤ a ∧ a ≤ 12))) := by
  refine ci_of (cc := cJ0_length_8abf5) (maxL := 1) (ty := .int) (lv := [(0, .ref (dI 1000 3))]) (by decide) rfl (fun r M' hp => rfl) (Nat.le_of_ble_eq_true rfl) rfl ?_
  intro p e s m args below meth c A Q C hret
  refine j_aload_n C 0 0 dJ0_length_8abf5_0 rfl rfl ?_
  refine j_strV C (by decide) fJ0_length_8abf5_9 dJ0_length_8abf5_1 ?_
  refine j_strL C 12 (by decide) rfl dJ0_length_8abf5_4 ?_
  refine j_aload_n C 0 0 dJ0_length_8abf5_5 rfl rfl ?_
  refine j_callSS C (d := 0) (As := []) (st := [.int (sI 12)]) 3 (by decide) (s2_J0_coder_7d493 hM0) gJ0_length_8abf5_J0_coder_7d493 rfl hdJ0_coder_7d493 (by decide) (Nat.le_of_ble_eq_true rfl) dJ0_length_8abf5_6 rfl (fun r101 M102 h103 => ?_)
  obtain ⟨a105, rfl, rfl, h104⟩ := h103
  refine e_ishrP C dJ0_length_8abf5_9 (by omega) (fun lb106 ub106 => ?_)
  exact hret _ _ _ _ dJ0_length_8abf5_10 ⟨(shrI 12 a105), rfl, rfl, by omega⟩
set_option maxHeartbeats 4000000 in
theorem s3_J0_isLatin1_aae02 {l : Launch} {dC : Nat → ClassId} {dI : Nat → Nat → Nat} {ad : Nat → Nat} {cA : Nat → ClassId} {pr : Nat → Nat → Bool} {Kz : mm_M} {M0 : mm_M} (hM0 : INV pr Kz M0)  : Ci l 0 yJ0_isLatin1_aae02 wsJ0_isLatin1_aae02 dC dI ad cA [.ref (dI 1000 3)] M0 (fun r M' => ∃ a : Int, r = sI a ∧ M0 = M' ∧ 1 ≤ a ∧ a ≤ 1 ∧ ((a = 1))) := by
  refine ci_of (cc := cJ0_isLatin1_aae02) (maxL := 1) (ty := .boolean) (lv := [(0, .ref (dI 1000 3))]) (by decide) rfl (fun r M' hp => by obtain ⟨a, rfl, -, h⟩ := hp; rcases (show a = 0 ∨ a = 1 by omega) with rfl | rfl <;> rfl) (Nat.le_of_ble_eq_true rfl) rfl ?_
  intro p e s m args below meth c A Q C hret
  refine j_getsC C fJ0_isLatin1_aae02_38 dJ0_isLatin1_aae02_0 ?_
  refine y_if_eq C 17 dJ0_isLatin1_aae02_3 (by decide) (by omega) (fun h101 => ?_) (fun h101 => ?_)
  · exfalso; omega
  · refine j_aload_n C 0 0 dJ0_isLatin1_aae02_6 rfl rfl ?_
    refine j_strC C (by decide) fJ0_isLatin1_aae02_15 dJ0_isLatin1_aae02_7 ?_
    refine y_if_ne C 17 dJ0_isLatin1_aae02_10 (by decide) (by omega) (fun h102 => ?_) (fun h102 => ?_)
    · exfalso; omega
    · refine y_iconst C dJ0_isLatin1_aae02_13 ?_
      refine j_goto C 18 dJ0_isLatin1_aae02_14 (by decide) ?_
      exact hret _ _ _ _ dJ0_isLatin1_aae02_18 ⟨1, rfl, rfl, by omega⟩
set_option maxHeartbeats 4000000 in
theorem s3_J3_checkIndex_8e157 {l : Launch} {dC : Nat → ClassId} {dI : Nat → Nat → Nat} {ad : Nat → Nat} {cA : Nat → ClassId} {pr : Nat → Nat → Bool} {Kz : mm_M} {M0 : mm_M} (hM0 : INV pr Kz M0) (a0 : Int) (ha0 : -2147483648 ≤ a0 ∧ a0 ≤ 2147483647) (a1 : Int) (ha1 : -2147483648 ≤ a1 ∧ a1 ≤ 2147483647) (hp0 : a0 < a1) (hp1 : 0 ≤ a0 ∧ a0 ≤ 2147483647) : Ci l 0 yJ3_checkIndex_8e157 wsJ3_checkIndex_8e157 dC dI ad cA [.int (sI a0), .int (sI a1), .null] M0 (fun r M' => ∃ a : Int, r = sI a ∧ M0 = M' ∧ 0 ≤ a ∧ a ≤ 2147483646 ∧ ((a0 < a1 ∧ 0 ≤ a0 ∧ a0 < a1 ∧ a = a0))) := by
  refine ci_of (cc := cJ3_checkIndex_8e157) (maxL := 3) (ty := .int) (lv := [(0, .int (sI a0)), (1, .int (sI a1)), (2, .null)]) (by decide) rfl (fun r M' hp => rfl) (Nat.le_of_ble_eq_true rfl) rfl ?_
  intro p e s m args below meth c A Q C hret
  refine j_iload_n C 0 0 dJ3_checkIndex_8e157_0 rfl rfl ?_
  refine y_if_lt C 9 dJ3_checkIndex_8e157_1 (by decide) (by omega) (fun h101 => ?_) (fun h101 => ?_)
  · exfalso; omega
  · refine j_iload_n C 0 0 dJ3_checkIndex_8e157_4 rfl rfl ?_
    refine j_iload_n C 1 1 dJ3_checkIndex_8e157_5 rfl rfl ?_
    refine y_icmp_lt C 16 dJ3_checkIndex_8e157_6 (by decide) (by omega) (fun h102 => ?_) (fun h102 => ?_)
    · refine j_iload_n C 0 0 dJ3_checkIndex_8e157_16 rfl rfl ?_
      exact hret _ _ _ _ dJ3_checkIndex_8e157_17 ⟨a0, rfl, rfl, by omega⟩
    · exfalso; omega
set_option maxHeartbeats 4000000 in
theorem s4_J3_checkIndex_8e157 {l : Launch} {dC : Nat → ClassId} {dI : Nat → Nat → Nat} {ad : Nat → Nat} {cA : Nat → ClassId} {pr : Nat → Nat → Bool} {Kz : mm_M} {M0 : mm_M} (hM0 : INV pr Kz M0) (a0 : Int) (ha0 : -2147483648 ≤ a0 ∧ a0 ≤ 2147483647) (a1 : Int) (ha1 : -2147483648 ≤ a1 ∧ a1 ≤ 2147483647) (t2 : Nat) (hp0 : a0 < a1) (hp1 : 0 ≤ a0 ∧ a0 ≤ 2147483647) : Ci l 0 yJ3_checkIndex_8e157 wsJ3_checkIndex_8e157 dC dI ad cA [.int (sI a0), .int (sI a1), .ref t2] M0 (fun r M' => ∃ a : Int, r = sI a ∧ M0 = M' ∧ 0 ≤ a ∧ a ≤ 2147483646 ∧ ((a0 < a1 ∧ 0 ≤ a0 ∧ a0 < a1 ∧ a = a0))) := by
  refine ci_of (cc := cJ3_checkIndex_8e157) (maxL := 3) (ty := .int) (lv := [(0, .int (sI a0)), (1, .int (sI a1)), (2, .ref t2)]) (by decide) rfl (fun r M' hp => rfl) (Nat.le_of_ble_eq_true rfl) rfl ?_
  intro p e s m args below meth c A Q C hret
  refine j_iload_n C 0 0 dJ3_checkIndex_8e157_0 rfl rfl ?_
  refine y_if_lt C 9 dJ3_checkIndex_8e157_1 (by decide) (by omega) (fun h101 => ?_) (fun h101 => ?_)
  · exfalso; omega
  · refine j_iload_n C 0 0 dJ3_checkIndex_8e157_4 rfl rfl ?_
    refine j_iload_n C 1 1 dJ3_checkIndex_8e157_5 rfl rfl ?_
    refine y_icmp_lt C 16 dJ3_checkIndex_8e157_6 (by decide) (by omega) (fun h102 => ?_) (fun h102 => ?_)
    · refine j_iload_n C 0 0 dJ3_checkIndex_8e157_16 rfl rfl ?_
      exact hret _ _ _ _ dJ3_checkIndex_8e157_17 ⟨a0, rfl, rfl, by omega⟩
    · exfalso; omega
set_option maxHeartbeats 4000000 in
theorem s2_J0_checkIndex_df160 {l : Launch} {dC : Nat → ClassId} {dI : Nat → Nat → Nat} {ad : Nat → Nat} {cA : Nat → ClassId} {pr : Nat → Nat → Bool} {Kz : mm_M} {M0 : mm_M} (hM0 : INV pr Kz M0) (a0 : Int) (ha0 : -2147483648 ≤ a0 ∧ a0 ≤ 2147483647) (a1 : Int) (ha1 : -2147483648 ≤ a1 ∧ a1 ≤ 2147483647) (hp0 : a0 < a1) (hp1 : 0 ≤ a0 ∧ a0 ≤ 2147483647) : Cv l 1 yJ0_checkIndex_df160 wsJ0_checkIndex_df160 dC dI ad cA [.int (sI a0), .int (sI a1)] M0 (fun M' => M0 = M') := by
  refine cv_of (cc := cJ0_checkIndex_df160) (maxL := 2) (lv := [(0, .int (sI a0)), (1, .int (sI a1))]) (by decide) rfl (Nat.le_of_ble_eq_true rfl) rfl ?_
  intro p e s m args below meth c A Q C hret
  refine j_iload_n C 0 0 dJ0_checkIndex_df160_0 rfl rfl ?_
  refine j_iload_n C 1 1 dJ0_checkIndex_df160_1 rfl rfl ?_
  refine j_getsF C fJ0_checkIndex_df160_1053 dJ0_checkIndex_df160_2 ?_ (fun t101 => ?_)
  · refine j_callSi C (d := 0) (As := [.int (sI a0), .int (sI a1), .null]) (st := []) (s3_J3_checkIndex_8e157 hM0 a0 (by omega) a1 (by omega) (by omega) (by omega)) gJ0_checkIndex_df160_J3_checkIndex_8e157 rfl hdJ3_checkIndex_8e157s (by decide) (Nat.le_of_ble_eq_true rfl) dJ0_checkIndex_df160_5 rfl (fun r102 M103 h104 => ?_)
    obtain ⟨a106, rfl, rfl, h105⟩ := h104
    refine j_pop C dJ0_checkIndex_df160_8 rfl ?_
    exact hret _ _ _ dJ0_checkIndex_df160_9 rfl
  · refine j_callSi C (d := 0) (As := [.int (sI a0), .int (sI a1), .ref t101]) (st := []) (s4_J3_checkIndex_8e157 hM0 a0 (by omega) a1 (by omega) t101 (by omega) (by omega)) gJ0_checkIndex_df160_J3_checkIndex_8e157 rfl hdJ3_checkIndex_8e157s (by decide) (Nat.le_of_ble_eq_true rfl) dJ0_checkIndex_df160_5 rfl (fun r107 M108 h109 => ?_)
    obtain ⟨a111, rfl, rfl, h110⟩ := h109
    refine j_pop C dJ0_checkIndex_df160_8 rfl ?_
    exact hret _ _ _ dJ0_checkIndex_df160_9 rfl
set_option maxHeartbeats 4000000 in
theorem s2_J0_charAt_5068e {l : Launch} {dC : Nat → ClassId} {dI : Nat → Nat → Nat} {ad : Nat → Nat} {cA : Nat → ClassId} {pr : Nat → Nat → Bool} {Kz : mm_M} {M0 : mm_M} (hM0 : INV pr Kz M0) (a1 : Int) (ha1 : -2147483648 ≤ a1 ∧ a1 ≤ 2147483647) (hp0 : 0 ≤ a1 ∧ a1 ≤ 11) : Ci l 3 yJ0_charAt_5068e wsJ0_charAt_5068e dC dI ad cA [.ref (dI 1000 3), .int (sI a1)] M0 (fun r M' => ∃ a : Int, r = sI a ∧ M0 = M' ∧ 0 ≤ a ∧ a ≤ 127 ∧ ((0 ≤ a ∧ a ≤ 127))) := by
  refine ci_of (cc := cJ0_charAt_5068e) (maxL := 2) (ty := .char) (lv := [(0, .ref (dI 1000 3)), (1, .int (sI a1))]) (by decide) rfl (fun r M' hp => by obtain ⟨a, rfl, -, h⟩ := hp; exact nar_char (by omega)) (Nat.le_of_ble_eq_true rfl) rfl ?_
  intro p e s m args below meth c A Q C hret
  refine j_aload_n C 0 0 dJ0_charAt_5068e_0 rfl rfl ?_
  refine j_callSS C (d := 0) (As := []) (st := []) 3 (by decide) (s3_J0_isLatin1_aae02 hM0) gJ0_charAt_5068e_J0_isLatin1_aae02 rfl hdJ0_isLatin1_aae02 (by decide) (Nat.le_of_ble_eq_true rfl) dJ0_charAt_5068e_1 rfl (fun r101 M102 h103 => ?_)
  obtain ⟨a105, rfl, rfl, h104⟩ := h103
  refine y_if_eq C 16 dJ0_charAt_5068e_4 (by decide) (by omega) (fun h106 => ?_) (fun h106 => ?_)
  · exfalso; omega
  · refine j_aload_n C 0 0 dJ0_charAt_5068e_7 rfl rfl ?_
    refine j_strV C (by decide) fJ0_charAt_5068e_9 dJ0_charAt_5068e_8 ?_
    refine j_iload_n C 1 1 dJ0_charAt_5068e_11 rfl rfl ?_
    refine j_callSi C (d := 2) (As := [.ref (dI 1001 3), .int (sI a1)]) (st := []) (h_J1_charAt_3 (fun a b h => s1_J0_checkIndex_df160 hM0 a (by omega) b (by omega) (by omega) (by omega)) a1 (by omega)) gJ0_charAt_5068e_J1_charAt_3b067 rfl hdJ1_charAt_3b067s (by decide) (Nat.le_of_ble_eq_true rfl) dJ0_charAt_5068e_12 rfl (fun r107 M108 h109 => ?_)
    obtain ⟨a111, rfl, rfl, h110⟩ := h109
    exact hret _ _ _ _ dJ0_charAt_5068e_15 ⟨a111, rfl, rfl, by omega⟩
set_option maxHeartbeats 4000000 in
theorem s3_J0_coder_7d493 {l : Launch} {dC : Nat → ClassId} {dI : Nat → Nat → Nat} {ad : Nat → Nat} {cA : Nat → ClassId} {pr : Nat → Nat → Bool} {Kz : mm_M} {M0 : mm_M} (hM0 : INV pr Kz M0)  : Ci l 0 yJ0_coder_7d493 wsJ0_coder_7d493 dC dI ad cA [.ref (dI 1000 2)] M0 (fun r M' => ∃ a : Int, r = sI a ∧ M0 = M' ∧ 0 ≤ a ∧ a ≤ 0 ∧ ((a = 0))) := by
  refine ci_of (cc := cJ0_coder_7d493) (maxL := 1) (ty := .byte) (lv := [(0, .ref (dI 1000 2))]) (by decide) rfl (fun r M' hp => by obtain ⟨a, rfl, -, h⟩ := hp; exact nar_byte (by omega)) (Nat.le_of_ble_eq_true rfl) rfl ?_
  intro p e s m args below meth c A Q C hret
  refine j_getsC C fJ0_coder_7d493_38 dJ0_coder_7d493_0 ?_
  refine y_if_eq C 13 dJ0_coder_7d493_3 (by decide) (by omega) (fun h101 => ?_) (fun h101 => ?_)
  · exfalso; omega
  · refine j_aload_n C 0 0 dJ0_coder_7d493_6 rfl rfl ?_
    refine j_strC C (by decide) fJ0_coder_7d493_15 dJ0_coder_7d493_7 ?_
    refine j_goto C 14 dJ0_coder_7d493_10 (by decide) ?_
    exact hret _ _ _ _ dJ0_coder_7d493_14 ⟨0, rfl, rfl, by omega⟩
set_option maxHeartbeats 4000000 in
theorem s3_J0_length_8abf5 {l : Launch} {dC : Nat → ClassId} {dI : Nat → Nat → Nat} {ad : Nat → Nat} {cA : Nat → ClassId} {pr : Nat → Nat → Bool} {Kz : mm_M} {M0 : mm_M} (hM0 : INV pr Kz M0)  : Ci l 1 yJ0_length_8abf5 wsJ0_length_8abf5 dC dI ad cA [.ref (dI 1000 2)] M0 (fun r M' => ∃ a : Int, r = sI a ∧ M0 = M' ∧ 0 ≤ a ∧ a ≤ 88 ∧ ((0 ≤ a ∧ a ≤ 88))) := by
  refine ci_of (cc := cJ0_length_8abf5) (maxL := 1) (ty := .int) (lv := [(0, .ref (dI 1000 2))]) (by decide) rfl (fun r M' hp => rfl) (Nat.le_of_ble_eq_true rfl) rfl ?_
  intro p e s m args below meth c A Q C hret
  refine j_aload_n C 0 0 dJ0_length_8abf5_0 rfl rfl ?_
  refine j_strV C (by decide) fJ0_length_8abf5_9 dJ0_length_8abf5_1 ?_
  refine j_strL C 88 (by decide) rfl dJ0_length_8abf5_4 ?_
  refine j_aload_n C 0 0 dJ0_length_8abf5_5 rfl rfl ?_
  refine j_callSS C (d := 0) (As := []) (st := [.int (sI 88)]) 2 (by decide) (s3_J0_coder_7d493 hM0) gJ0_length_8abf5_J0_coder_7d493 rfl hdJ0_coder_7d493 (by decide) (Nat.le_of_ble_eq_true rfl) dJ0_length_8abf5_6 rfl (fun r101 M102 h103 => ?_)
  obtain ⟨a105, rfl, rfl, h104⟩ := h103
  refine e_ishrP C dJ0_length_8abf5_9 (by omega) (fun lb106 ub106 => ?_)
  exact hret _ _ _ _ dJ0_length_8abf5_10 ⟨(shrI 88 a105), rfl, rfl, by omega⟩
set_option maxHeartbeats 4000000 in
theorem s4_J0_isLatin1_aae02 {l : Launch} {dC : Nat → ClassId} {dI : Nat → Nat → Nat} {ad : Nat → Nat} {cA : Nat → ClassId} {pr : Nat → Nat → Bool} {Kz : mm_M} {M0 : mm_M} (hM0 : INV pr Kz M0)  : Ci l 0 yJ0_isLatin1_aae02 wsJ0_isLatin1_aae02 dC dI ad cA [.ref (dI 1000 2)] M0 (fun r M' => ∃ a : Int, r = sI a ∧ M0 = M' ∧ 1 ≤ a ∧ a ≤ 1 ∧ ((a = 1))) := by
  refine ci_of (cc := cJ0_isLatin1_aae02) (maxL := 1) (ty := .boolean) (lv := [(0, .ref (dI 1000 2))]) (by decide) rfl (fun r M' hp => by obtain ⟨a, rfl, -, h⟩ := hp; rcases (show a = 0 ∨ a = 1 by omega) with rfl | rfl <;> rfl) (Nat.le_of_ble_eq_true rfl) rfl ?_
  intro p e s m args below meth c A Q C hret
  refine j_getsC C fJ0_isLatin1_aae02_38 dJ0_isLatin1_aae02_0 ?_
  refine y_if_eq C 17 dJ0_isLatin1_aae02_3 (by decide) (by omega) (fun h101 => ?_) (fun h101 => ?_)
  · exfalso; omega
  · refine j_aload_n C 0 0 dJ0_isLatin1_aae02_6 rfl rfl ?_
    refine j_strC C (by decide) fJ0_isLatin1_aae02_15 dJ0_isLatin1_aae02_7 ?_
    refine y_if_ne C 17 dJ0_isLatin1_aae02_10 (by decide) (by omega) (fun h102 => ?_) (fun h102 => ?_)
    · exfalso; omega
    · refine y_iconst C dJ0_isLatin1_aae02_13 ?_
      refine j_goto C 18 dJ0_isLatin1_aae02_14 (by decide) ?_
      exact hret _ _ _ _ dJ0_isLatin1_aae02_18 ⟨1, rfl, rfl, by omega⟩
set_option maxHeartbeats 4000000 in
theorem s3_J0_charAt_5068e {l : Launch} {dC : Nat → ClassId} {dI : Nat → Nat → Nat} {ad : Nat → Nat} {cA : Nat → ClassId} {pr : Nat → Nat → Bool} {Kz : mm_M} {M0 : mm_M} (hM0 : INV pr Kz M0) (a1 : Int) (ha1 : -2147483648 ≤ a1 ∧ a1 ≤ 2147483647) (hp0 : 0 ≤ a1 ∧ a1 ≤ 87) : Ci l 3 yJ0_charAt_5068e wsJ0_charAt_5068e dC dI ad cA [.ref (dI 1000 2), .int (sI a1)] M0 (fun r M' => ∃ a : Int, r = sI a ∧ M0 = M' ∧ 0 ≤ a ∧ a ≤ 127 ∧ (a = 32 ∨ a1 + 1 < 88)) := by
  refine ci_of (cc := cJ0_charAt_5068e) (maxL := 2) (ty := .char) (lv := [(0, .ref (dI 1000 2)), (1, .int (sI a1))]) (by decide) rfl (fun r M' hp => by obtain ⟨a, rfl, -, h⟩ := hp; exact nar_char (by omega)) (Nat.le_of_ble_eq_true rfl) rfl ?_
  intro p e s m args below meth c A Q C hret
  refine j_aload_n C 0 0 dJ0_charAt_5068e_0 rfl rfl ?_
  refine j_callSS C (d := 0) (As := []) (st := []) 2 (by decide) (s4_J0_isLatin1_aae02 hM0) gJ0_charAt_5068e_J0_isLatin1_aae02 rfl hdJ0_isLatin1_aae02 (by decide) (Nat.le_of_ble_eq_true rfl) dJ0_charAt_5068e_1 rfl (fun r101 M102 h103 => ?_)
  obtain ⟨a105, rfl, rfl, h104⟩ := h103
  refine y_if_eq C 16 dJ0_charAt_5068e_4 (by decide) (by omega) (fun h106 => ?_) (fun h106 => ?_)
  · exfalso; omega
  · refine j_aload_n C 0 0 dJ0_charAt_5068e_7 rfl rfl ?_
    refine j_strV C (by decide) fJ0_charAt_5068e_9 dJ0_charAt_5068e_8 ?_
    refine j_iload_n C 1 1 dJ0_charAt_5068e_11 rfl rfl ?_
    refine j_callSi C (d := 2) (As := [.ref (dI 1001 2), .int (sI a1)]) (st := []) (h_J1_charAt_2 (fun a b h => s1_J0_checkIndex_df160 hM0 a (by omega) b (by omega) (by omega) (by omega)) a1 (by omega)) gJ0_charAt_5068e_J1_charAt_3b067 rfl hdJ1_charAt_3b067s (by decide) (Nat.le_of_ble_eq_true rfl) dJ0_charAt_5068e_12 rfl (fun r107 M108 h109 => ?_)
    obtain ⟨a111, rfl, rfl, h110⟩ := h109
    exact hret _ _ _ _ dJ0_charAt_5068e_15 ⟨a111, rfl, rfl, by omega⟩
set_option maxHeartbeats 4000000 in
theorem s1_X12_keyAt {l : Launch} {dC : Nat → ClassId} {dI : Nat → Nat → Nat} {ad : Nat → Nat} {cA : Nat → ClassId} {pr : Nat → Nat → Bool} {Kz : mm_M} {M0 : mm_M} (hM0 : INV pr Kz M0)  : Ci l 4 yX12_keyAt wsX12_keyAt dC dI ad cA [.ref (ad 98)] M0 (fun r M' => ∃ a : Int, r = sI a ∧ M0 = M' ∧ 0 ≤ a ∧ a ≤ 2147483647) := by
  refine ci_of (cc := cX12_keyAt) (maxL := 4) (ty := .int) (lv := [(0, .ref (ad 98))]) (by decide) rfl (fun r M' hp => rfl) (Nat.le_of_ble_eq_true rfl) rfl ?_
  intro p e s m args below meth c A Q C hret
  refine y_iconst C dX12_keyAt_0 ?_
  refine j_istore_n C 1 [(1, .int (sI 0)), (0, .ref (ad 98))] dX12_keyAt_1 rfl (by decide) rfl ?_
  refine y_iconst C dX12_keyAt_2 ?_
  refine j_istore_n C 2 [(2, .int (sI 1)), (1, .int (sI 0)), (0, .ref (ad 98))] dX12_keyAt_3 rfl (by decide) rfl ?_
  have L33136 : ∀ (n33134 : Nat), ∀ (a33137 : Int) (a33138 : Int), (0 ≤ a33137 ∧ a33137 ≤ 2147483647 ∧ 1 ≤ a33138 ∧ a33138 ≤ 2147483647 ∧ (9223372036854775807 - a33137) < (n33134 : Int)) → jj p l e (cn_R 4) s m args below meth c 0 0 Q 4 dC dI ad cA A M0 4 [(0, .ref (ad 98)), (1, .int (sI a33137)), (2, .int (sI a33138))] [] := by
    intro n33134
    induction n33134 with
    | zero =>
      intro a33137 a33138 h33139
      exfalso; omega
    | succ n33134 ih33135 =>
      intro a33137 a33138 h33139
      refine j_iload_n C 2 2 dX12_keyAt_4 rfl rfl ?_
      refine j_ldcS C 2 (by decide) rfl rfl dX12_keyAt_5 ?_
      refine j_callSS C (d := 1) (As := []) (st := [.int (sI a33138)]) 2 (by decide) (s3_J0_length_8abf5 hM0) gX12_keyAt_J0_length_8abf5 rfl hdJ0_length_8abf5 (by decide) (Nat.le_of_ble_eq_true rfl) dX12_keyAt_7 rfl (fun r33140 M33141 h33142 => ?_)
      obtain ⟨a33144, rfl, rfl, h33143⟩ := h33142
      refine y_icmp_ge C 123 dX12_keyAt_10 (by decide) (by omega) (fun h33145 => ?_) (fun h33145 => ?_)
      · refine y_bipush C dX12_keyAt_123 rfl ?_
        exact hret _ _ _ _ dX12_keyAt_125 ⟨22, rfl, rfl, by omega⟩
      · refine y_iconst C dX12_keyAt_13 ?_
        refine j_istore_n C 3 [(3, .int (sI 0)), (0, .ref (ad 98)), (1, .int (sI a33137)), (2, .int (sI a33138))] dX12_keyAt_14 rfl (by decide) rfl ?_
        have X33802 : ∀ (a33801 : Int), (0 ≤ a33801 ∧ a33801 ≤ 900) → jj p l e (cn_R 4) s m args below meth c 0 0 Q 4 dC dI ad cA A M0 69 [(0, .ref (ad 98)), (1, .int (sI a33137)), (2, .int (sI a33138)), (3, .int (sI a33801))] [] := by
          intro a33801 h33803
          refine j_ldcS C 2 (by decide) rfl rfl dX12_keyAt_69 ?_
          refine j_iload_n C 2 2 dX12_keyAt_71 rfl rfl ?_
          refine j_iload_n C 3 3 dX12_keyAt_72 rfl rfl ?_
          refine y_iadd C dX12_keyAt_73 ?_
          refine j_callSS C (d := 3) (As := [.int (sI (a33138 + a33801))]) (st := []) 2 (by decide) (s3_J0_charAt_5068e hM0 (a33138 + a33801) (by omega) (by omega)) gX12_keyAt_J0_charAt_5068e rfl hdJ0_charAt_5068e (by decide) (Nat.le_of_ble_eq_true rfl) dX12_keyAt_74 rfl (fun r33804 M33805 h33806 => ?_)
          obtain ⟨a33808, rfl, rfl, h33807⟩ := h33806
          refine y_bipush C dX12_keyAt_77 rfl ?_
          refine y_icmp_ne C 97 dX12_keyAt_79 (by decide) (by omega) (fun h33809 => ?_) (fun h33809 => ?_)
          · have L33931 : ∀ (n33929 : Nat), ∀ (a33932 : Int), (1 ≤ a33932 ∧ a33932 ≤ 2147483647 ∧ (9223372036854775807 - a33932) < (n33929 : Int)) → jj p l e (cn_R 4) s m args below meth c 0 0 Q 4 dC dI ad cA A M0 97 [(0, .ref (ad 98)), (1, .int (sI a33137)), (2, .int (sI a33932))] [] := by
              intro n33929
              induction n33929 with
              | zero =>
                intro a33932 h33933
                exfalso; omega
              | succ n33929 ih33930 =>
                intro a33932 h33933
                refine j_ldcS C 2 (by decide) rfl rfl dX12_keyAt_97 ?_
                refine j_iload_n C 2 2 dX12_keyAt_99 rfl rfl ?_
                refine j_callSS C (d := 3) (As := [.int (sI a33932)]) (st := []) 2 (by decide) (s3_J0_charAt_5068e hM0 a33932 (by omega) (by omega)) gX12_keyAt_J0_charAt_5068e rfl hdJ0_charAt_5068e (by decide) (Nat.le_of_ble_eq_true rfl) dX12_keyAt_100 rfl (fun r33934 M33935 h33936 => ?_)
                obtain ⟨a33938, rfl, rfl, h33937⟩ := h33936
                refine y_bipush C dX12_keyAt_103 rfl ?_
                refine y_icmp_eq C 114 dX12_keyAt_105 (by decide) (by omega) (fun h33939 => ?_) (fun h33939 => ?_)
                · refine y_iinc C 2 [(2, .int (sI (a33932 + 1))), (0, .ref (ad 98)), (1, .int (sI a33137))] dX12_keyAt_114 rfl (by decide) rfl ?_
                  refine y_iinc C 2 [(1, .int (sI (a33137 + 1))), (2, .int (sI (a33932 + 1))), (0, .ref (ad 98))] dX12_keyAt_117 rfl (by decide) rfl ?_
                  refine j_goto C 4 dX12_keyAt_120 (by decide) ?_
                  refine j_lv [2, 0, 1] rfl ?_; exact ih33135 (a33137 + 1) (a33932 + 1) (by omega)
                · refine y_iinc C 2 [(2, .int (sI (a33932 + 1))), (0, .ref (ad 98)), (1, .int (sI a33137))] dX12_keyAt_108 rfl (by decide) rfl ?_
                  refine j_goto C 97 dX12_keyAt_111 (by decide) ?_
                  refine j_lv [1, 2, 0] rfl ?_; exact ih33930 (a33932 + 1) (by omega)
            refine j_lv [0, 1, 2] rfl ?_; exact L33931 2010 a33138 (by omega)
          · refine j_aload_n C 0 0 dX12_keyAt_82 rfl rfl ?_
            refine y_getI C 11 _ _ fX12_keyAt_98 rfl rfl ft_11_6 sb_11_6 hM0 dX12_keyAt_83 (fun a33940 ea33940 la33940 ua33940 => ?_)
            obtain rfl : a33940 = (M0.1 98 6).toInt := ea33940
            refine j_iload_n C 3 3 dX12_keyAt_86 rfl rfl ?_
            refine y_iadd C dX12_keyAt_87 ?_
            refine j_aload_n C 0 0 dX12_keyAt_88 rfl rfl ?_
            refine y_getI C 11 _ _ fX12_keyAt_101 rfl rfl ft_11_7 sb_11_7 hM0 dX12_keyAt_89 (fun a33942 ea33942 la33942 ua33942 => ?_)
            obtain rfl : a33942 = (M0.1 98 7).toInt := ea33942
            refine y_icmp_ne C 97 dX12_keyAt_92 (by decide) (by omega) (fun h33944 => ?_) (fun h33944 => ?_)
            · have L34066 : ∀ (n34064 : Nat), ∀ (a34067 : Int), (1 ≤ a34067 ∧ a34067 ≤ 2147483647 ∧ (9223372036854775807 - a34067) < (n34064 : Int)) → jj p l e (cn_R 4) s m args below meth c 0 0 Q 4 dC dI ad cA A M0 97 [(0, .ref (ad 98)), (1, .int (sI a33137)), (2, .int (sI a34067))] [] := by
                intro n34064
                induction n34064 with
                | zero =>
                  intro a34067 h34068
                  exfalso; omega
                | succ n34064 ih34065 =>
                  intro a34067 h34068
                  refine j_ldcS C 2 (by decide) rfl rfl dX12_keyAt_97 ?_
                  refine j_iload_n C 2 2 dX12_keyAt_99 rfl rfl ?_
                  refine j_callSS C (d := 3) (As := [.int (sI a34067)]) (st := []) 2 (by decide) (s3_J0_charAt_5068e hM0 a34067 (by omega) (by omega)) gX12_keyAt_J0_charAt_5068e rfl hdJ0_charAt_5068e (by decide) (Nat.le_of_ble_eq_true rfl) dX12_keyAt_100 rfl (fun r34069 M34070 h34071 => ?_)
                  obtain ⟨a34073, rfl, rfl, h34072⟩ := h34071
                  refine y_bipush C dX12_keyAt_103 rfl ?_
                  refine y_icmp_eq C 114 dX12_keyAt_105 (by decide) (by omega) (fun h34074 => ?_) (fun h34074 => ?_)
                  · refine y_iinc C 2 [(2, .int (sI (a34067 + 1))), (0, .ref (ad 98)), (1, .int (sI a33137))] dX12_keyAt_114 rfl (by decide) rfl ?_
                    refine y_iinc C 2 [(1, .int (sI (a33137 + 1))), (2, .int (sI (a34067 + 1))), (0, .ref (ad 98))] dX12_keyAt_117 rfl (by decide) rfl ?_
                    refine j_goto C 4 dX12_keyAt_120 (by decide) ?_
                    refine j_lv [2, 0, 1] rfl ?_; exact ih33135 (a33137 + 1) (a34067 + 1) (by omega)
                  · refine y_iinc C 2 [(2, .int (sI (a34067 + 1))), (0, .ref (ad 98)), (1, .int (sI a33137))] dX12_keyAt_108 rfl (by decide) rfl ?_
                    refine j_goto C 97 dX12_keyAt_111 (by decide) ?_
                    refine j_lv [1, 2, 0] rfl ?_; exact ih34065 (a34067 + 1) (by omega)
              refine j_lv [0, 1, 2] rfl ?_; exact L34066 2010 a33138 (by omega)
            · refine j_iload_n C 1 1 dX12_keyAt_95 rfl rfl ?_
              exact hret _ _ _ _ dX12_keyAt_96 ⟨a33137, rfl, rfl, by omega⟩
        have L33778 : ∀ (n33776 : Nat), ∀ (a33779 : Int), (0 ≤ a33779 ∧ a33779 ≤ 900 ∧ (900 - a33779) < (n33776 : Int)) → jj p l e (cn_R 4) s m args below meth c 0 0 Q 4 dC dI ad cA A M0 15 [(0, .ref (ad 98)), (1, .int (sI a33137)), (2, .int (sI a33138)), (3, .int (sI a33779))] [] := by
          intro n33776
          induction n33776 with
          | zero =>
            intro a33779 h33780
            exfalso; omega
          | succ n33776 ih33777 =>
            intro a33779 h33780
            refine j_ldcS C 2 (by decide) rfl rfl dX12_keyAt_15 ?_
            refine j_iload_n C 2 2 dX12_keyAt_17 rfl rfl ?_
            refine j_iload_n C 3 3 dX12_keyAt_18 rfl rfl ?_
            refine y_iadd C dX12_keyAt_19 ?_
            refine j_callSS C (d := 3) (As := [.int (sI (a33138 + a33779))]) (st := []) 2 (by decide) (s3_J0_charAt_5068e hM0 (a33138 + a33779) (by omega) (by omega)) gX12_keyAt_J0_charAt_5068e rfl hdJ0_charAt_5068e (by decide) (Nat.le_of_ble_eq_true rfl) dX12_keyAt_20 rfl (fun r33781 M33782 h33783 => ?_)
            obtain ⟨a33785, rfl, rfl, h33784⟩ := h33783
            refine y_bipush C dX12_keyAt_23 rfl ?_
            refine y_icmp_eq C 69 dX12_keyAt_25 (by decide) (by omega) (fun h33786 => ?_) (fun h33786 => ?_)
            · exact X33802 a33779 (by omega)
            · refine j_aload_n C 0 0 dX12_keyAt_28 rfl rfl ?_
              refine y_getI C 11 _ _ fX12_keyAt_98 rfl rfl ft_11_6 sb_11_6 hM0 dX12_keyAt_29 (fun a33787 ea33787 la33787 ua33787 => ?_)
              obtain rfl : a33787 = (M0.1 98 6).toInt := ea33787
              refine j_iload_n C 3 3 dX12_keyAt_32 rfl rfl ?_
              refine y_iadd C dX12_keyAt_33 ?_
              refine j_aload_n C 0 0 dX12_keyAt_34 rfl rfl ?_
              refine y_getI C 11 _ _ fX12_keyAt_101 rfl rfl ft_11_7 sb_11_7 hM0 dX12_keyAt_35 (fun a33789 ea33789 la33789 ua33789 => ?_)
              obtain rfl : a33789 = (M0.1 98 7).toInt := ea33789
              refine y_icmp_ge C 69 dX12_keyAt_38 (by decide) (by omega) (fun h33791 => ?_) (fun h33791 => ?_)
              · exact X33802 a33779 (by omega)
              · refine j_aload_n C 0 0 dX12_keyAt_41 rfl rfl ?_
                refine y_getC C 11 101 fX12_keyAt_21 rfl rfl ft_11_3 sm_11_3 rfl hM0 dX12_keyAt_42 ?_
                refine j_aload_n C 0 0 dX12_keyAt_45 rfl rfl ?_
                refine y_getI C 11 _ _ fX12_keyAt_98 rfl rfl ft_11_6 sb_11_6 hM0 dX12_keyAt_46 (fun a33792 ea33792 la33792 ua33792 => ?_)
                obtain rfl : a33792 = (M0.1 98 6).toInt := ea33792
                refine j_iload_n C 3 3 dX12_keyAt_49 rfl rfl ?_
                refine y_iadd C dX12_keyAt_50 ?_
                refine y_iald C 47 900 _ _ rfl rfl rfl ak_47 an_47 rfl (sb_47 _) hM0 dX12_keyAt_51 (by omega) (fun a33794 ea33794 la33794 ua33794 => ?_)
                obtain rfl : a33794 = (M0.1 101 (((M0.1 98 6).toInt + a33779)).toNat).toInt := ea33794
                refine j_ldcS C 2 (by decide) rfl rfl dX12_keyAt_52 ?_
                refine j_iload_n C 2 2 dX12_keyAt_54 rfl rfl ?_
                refine j_iload_n C 3 3 dX12_keyAt_55 rfl rfl ?_
                refine y_iadd C dX12_keyAt_56 ?_
                refine j_callSS C (d := 3) (As := [.int (sI (a33138 + a33779))]) (st := [.int (sI (M0.1 101 (((M0.1 98 6).toInt + a33779)).toNat).toInt)]) 2 (by decide) (s3_J0_charAt_5068e hM0 (a33138 + a33779) (by omega) (by omega)) gX12_keyAt_J0_charAt_5068e rfl hdJ0_charAt_5068e (by decide) (Nat.le_of_ble_eq_true rfl) dX12_keyAt_57 rfl (fun r33795 M33796 h33797 => ?_)
                obtain ⟨a33799, rfl, rfl, h33798⟩ := h33797
                refine y_icmp_ne C 69 dX12_keyAt_60 (by decide) (by omega) (fun h33800 => ?_) (fun h33800 => ?_)
                · exact X33802 a33779 (by omega)
                · refine y_iinc C 3 [(3, .int (sI (a33779 + 1))), (0, .ref (ad 98)), (1, .int (sI a33137)), (2, .int (sI a33138))] dX12_keyAt_63 rfl (by decide) rfl ?_
                  refine j_goto C 15 dX12_keyAt_66 (by decide) ?_
                  refine j_lv [1, 2, 3, 0] rfl ?_; exact ih33777 (a33779 + 1) (by omega)
        refine j_lv [1, 2, 3, 0] rfl ?_; exact L33778 2010 0 (by omega)
  refine j_lv [2, 1, 0] rfl ?_; exact L33136 4294967306 0 1 (by omega)
set_option maxHeartbeats 4000000 in
theorem s1_X12_next {l : Launch} {dC : Nat → ClassId} {dI : Nat → Nat → Nat} {ad : Nat → Nat} {cA : Nat → ClassId} {pr : Nat → Nat → Bool} {Kz : mm_M} {M0 : mm_M} (hM0 : INV pr Kz M0) (hpr : PM pr)  (hp0 : (M0.1 98 7).toInt ≤ (M0.1 98 8).toInt) (hp1 : (M0.1 98 8).toInt ≤ 900) (hp2 : b01 (PI M0) = 1) : Cv l 5 yX12_next wsX12_next dC dI ad cA [.ref (ad 98)] M0 (fun M' => INV pr Kz M' ∧ FR [98] M0 M' ∧ ((M'.1 98 6).toInt ≤ (M'.1 98 7).toInt ∧ (M'.1 98 7).toInt ≤ (M'.1 98 8).toInt ∧ (M'.1 98 8).toInt ≤ 900 ∧ ((M'.1 98 9).toInt = 24 ∨ (M'.1 98 6).toInt < (M'.1 98 7).toInt)) ∧ ((M'.1 98 8).toInt = (M0.1 98 8).toInt) ∧ ((M0.1 98 7).toInt ≤ (M'.1 98 6).toInt) ∧ ((M'.1 98 11).toInt = (M0.1 98 11).toInt) ∧ (b01 (PI M') = 1)) := by
  refine cv_of (cc := cX12_next) (maxL := 2) (lv := [(0, .ref (ad 98))]) (by decide) rfl (Nat.le_of_ble_eq_true rfl) rfl ?_
  intro p e s m args below meth c A Q C hret
  refine j_aload_n C 0 0 dX12_next_0 rfl rfl ?_
  refine j_aload_n C 0 0 dX12_next_1 rfl rfl ?_
  refine y_getI C 11 _ _ fX12_next_101 rfl rfl ft_11_7 sb_11_7 hM0 dX12_next_2 (fun a101 ea101 la101 ua101 => ?_)
  obtain rfl : a101 = (M0.1 98 7).toInt := ea101
  refine y_putI C 11 _ _ qX12_next_98 rfl rfl ft_11_6 sb_11_6 hM0 (PM.w hpr rfl rfl) dX12_next_5 (by omega) (fun M103 eM103 hM103 => ?_)
  have pM103 := pi_o eM103 (by decide) (by decide) (by omega)
  have L129 : ∀ (n127 : Nat), ∀ (M130 : mm_M), (((M130.1 98 8).toInt = (M0.1 98 8).toInt) ∧ ((M130.1 98 11).toInt = (M0.1 98 11).toInt) ∧ ((M0.1 98 7).toInt ≤ (M130.1 98 6).toInt) ∧ ((M130.1 98 6).toInt ≤ (M130.1 98 8).toInt) ∧ ((M130.1 98 8).toInt ≤ 900) ∧ (b01 (PI M130) = 1) ∧ (900 - (M130.1 98 6).toInt) < (n127 : Int)) → INV pr Kz M130 → FR [98] M0 M130 → jj p l e (cn_R 5) s m args below meth c 0 0 Q 2 dC dI ad cA A M130 8 [(0, .ref (ad 98))] [] := by
    intro n127
    induction n127 with
    | zero =>
      intro M130 h131 hM130 fM130
      exfalso; omega
    | succ n127 ih128 =>
      intro M130 h131 hM130 fM130
      refine j_aload_n C 0 0 dX12_next_8 rfl rfl ?_
      refine j_aload_n C 0 0 dX12_next_9 rfl rfl ?_
      refine y_getI C 11 _ _ fX12_next_98 rfl rfl ft_11_6 sb_11_6 hM130 dX12_next_10 (fun a132 ea132 la132 ua132 => ?_)
      obtain rfl : a132 = (M130.1 98 6).toInt := ea132
      refine j_callVi C (d := 0) (As := [.int (sI (M130.1 98 6).toInt)]) (st := []) 98 (s_lt rfl rfl) (s_kc (c := 11) rfl rfl) (by decide) rfl (s1_X12_see hM130 (M130.1 98 6).toInt (by omega) (by omega)) gX12_next_X12_see rfl hdX12_see (by decide) (Nat.le_of_ble_eq_true rfl) dX12_next_13 rfl (fun r134 M135 h136 => ?_)
      obtain ⟨a138, rfl, rfl, h137⟩ := h136
      refine y_bipush C dX12_next_16 rfl ?_
      refine y_icmp_eq C 34 dX12_next_18 (by decide) (by omega) (fun h139 => ?_) (fun h139 => ?_)
      · refine j_aload_n C 0 0 dX12_next_34 rfl rfl ?_
        refine j_dup C dX12_next_35 rfl ?_
        refine y_getI C 11 _ _ fX12_next_98 rfl rfl ft_11_6 sb_11_6 hM130 dX12_next_36 (fun a140 ea140 la140 ua140 => ?_)
        obtain rfl : a140 = (M130.1 98 6).toInt := ea140
        refine y_iconst C dX12_next_39 ?_
        refine y_iadd C dX12_next_40 ?_
        refine y_putI C 11 _ _ qX12_next_98 rfl rfl ft_11_6 sb_11_6 hM130 (PM.w hpr rfl rfl) dX12_next_41 (by omega) (fun M142 eM142 hM142 => ?_)
        have pM142 := pi_o eM142 (by decide) (by decide) (by omega)
        refine j_goto C 8 dX12_next_44 (by decide) ?_
        have zz98_8 : (M142.1 98 8).toInt = (M130.1 98 8).toInt := s_fb eM142 (by decide) (rfl); have zz98_6 := (Eq.trans (rfl : (M142.1 98 6).toInt = (M142.1 98 6).toInt) (s_wr eM142 (by omega))); have zz98_11 : (M142.1 98 11).toInt = (M130.1 98 11).toInt := s_fb eM142 (by decide) (rfl); exact ih128 M142 (by omega) hM142 ((FR.rf.tr fM130 (by decide)).wI eM142 (by decide))
      · refine j_aload_n C 0 0 dX12_next_21 rfl rfl ?_
        refine j_aload_n C 0 0 dX12_next_22 rfl rfl ?_
        refine y_getI C 11 _ _ fX12_next_98 rfl rfl ft_11_6 sb_11_6 hM130 dX12_next_23 (fun a143 ea143 la143 ua143 => ?_)
        obtain rfl : a143 = (M130.1 98 6).toInt := ea143
        refine j_callVi C (d := 0) (As := [.int (sI (M130.1 98 6).toInt)]) (st := []) 98 (s_lt rfl rfl) (s_kc (c := 11) rfl rfl) (by decide) rfl (s1_X12_see hM130 (M130.1 98 6).toInt (by omega) (by omega)) gX12_next_X12_see rfl hdX12_see (by decide) (Nat.le_of_ble_eq_true rfl) dX12_next_26 rfl (fun r145 M146 h147 => ?_)
        obtain ⟨a149, rfl, rfl, h148⟩ := h147
        refine y_bipush C dX12_next_29 rfl ?_
        refine y_icmp_ne C 47 dX12_next_31 (by decide) (by omega) (fun h150 => ?_) (fun h150 => ?_)
        · refine j_aload_n C 0 0 dX12_next_47 rfl rfl ?_
          refine j_aload_n C 0 0 dX12_next_48 rfl rfl ?_
          refine y_getI C 11 _ _ fX12_next_98 rfl rfl ft_11_6 sb_11_6 hM130 dX12_next_49 (fun a154 ea154 la154 ua154 => ?_)
          obtain rfl : a154 = (M130.1 98 6).toInt := ea154
          refine y_putI C 11 _ _ qX12_next_101 rfl rfl ft_11_7 sb_11_7 hM130 (PM.w hpr rfl rfl) dX12_next_52 (by omega) (fun M156 eM156 hM156 => ?_)
          have pM156 := pi_o eM156 (by decide) (by decide) (by omega)
          refine j_aload_n C 0 0 dX12_next_55 rfl rfl ?_
          refine y_getI C 11 _ _ fX12_next_98 rfl rfl ft_11_6 sb_11_6 hM156 dX12_next_56 (fun a157 ea157 la157 ua157 => ?_)
          obtain rfl : a157 = (M130.1 98 6).toInt := s_fb eM156 (by decide) (ea157)
          refine j_aload_n C 0 0 dX12_next_59 rfl rfl ?_
          refine y_getI C 11 _ _ fX12_next_83 rfl rfl ft_11_8 sb_11_8 hM156 dX12_next_60 (fun a159 ea159 la159 ua159 => ?_)
          obtain rfl : a159 = (M130.1 98 8).toInt := s_fb eM156 (by decide) (ea159)
          refine y_icmp_lt C 75 dX12_next_63 (by decide) (by omega) (fun h161 => ?_) (fun h161 => ?_)
          · refine j_aload_n C 0 0 dX12_next_75 rfl rfl ?_
            refine j_aload_n C 0 0 dX12_next_76 rfl rfl ?_
            refine y_getI C 11 _ _ fX12_next_98 rfl rfl ft_11_6 sb_11_6 hM156 dX12_next_77 (fun a162 ea162 la162 ua162 => ?_)
            obtain rfl : a162 = (M130.1 98 6).toInt := s_fb eM156 (by decide) (ea162)
            refine j_callVi C (d := 0) (As := [.int (sI (M130.1 98 6).toInt)]) (st := []) 98 (s_lt rfl rfl) (s_kc (c := 11) rfl rfl) (by decide) rfl (s1_X12_see hM156 (M130.1 98 6).toInt (by omega) (by omega)) gX12_next_X12_see rfl hdX12_see (by decide) (Nat.le_of_ble_eq_true rfl) dX12_next_80 rfl (fun r164 M165 h166 => ?_)
            obtain ⟨a168, rfl, rfl, h167⟩ := h166
            refine j_callSi C (d := 0) (As := [.int (sI a168)]) (st := []) (s1_X12_isSmall hM156 a168 (by omega)) gX12_next_X12_isSmall rfl hdX12_isSmalls (by decide) (Nat.le_of_ble_eq_true rfl) dX12_next_83 rfl (fun r169 M170 h171 => ?_)
            obtain ⟨a173, rfl, rfl, h172⟩ := h171
            refine y_if_eq C 127 dX12_next_86 (by decide) (by omega) (fun h174 => ?_) (fun h174 => ?_)
            · refine j_aload_n C 0 0 dX12_next_127 rfl rfl ?_
              refine j_aload_n C 0 0 dX12_next_128 rfl rfl ?_
              refine y_getI C 11 _ _ fX12_next_98 rfl rfl ft_11_6 sb_11_6 hM156 dX12_next_129 (fun a175 ea175 la175 ua175 => ?_)
              obtain rfl : a175 = (M130.1 98 6).toInt := s_fb eM156 (by decide) (ea175)
              refine j_callVi C (d := 0) (As := [.int (sI (M130.1 98 6).toInt)]) (st := []) 98 (s_lt rfl rfl) (s_kc (c := 11) rfl rfl) (by decide) rfl (s1_X12_see hM156 (M130.1 98 6).toInt (by omega) (by omega)) gX12_next_X12_see rfl hdX12_see (by decide) (Nat.le_of_ble_eq_true rfl) dX12_next_132 rfl (fun r177 M178 h179 => ?_)
              obtain ⟨a181, rfl, rfl, h180⟩ := h179
              refine j_callSi C (d := 0) (As := [.int (sI a181)]) (st := []) (s1_X12_isDigit hM156 a181 (by omega)) gX12_next_X12_isDigit rfl hdX12_isDigits (by decide) (Nat.le_of_ble_eq_true rfl) dX12_next_135 rfl (fun r182 M183 h184 => ?_)
              obtain ⟨a186, rfl, rfl, h185⟩ := h184
              refine y_if_eq C 236 dX12_next_138 (by decide) (by omega) (fun h187 => ?_) (fun h187 => ?_)
              · refine j_aload_n C 0 0 dX12_next_236 rfl rfl ?_
                refine j_dup C dX12_next_237 rfl ?_
                refine y_getI C 11 _ _ fX12_next_101 rfl rfl ft_11_7 sb_11_7 hM156 dX12_next_238 (fun a188 ea188 la188 ua188 => ?_)
                obtain rfl : a188 = (M130.1 98 6).toInt := (ea188).trans (s_wr eM156 (by omega))
                refine y_iconst C dX12_next_241 ?_
                refine y_iadd C dX12_next_242 ?_
                refine y_putI C 11 _ _ qX12_next_101 rfl rfl ft_11_7 sb_11_7 hM156 (PM.w hpr rfl rfl) dX12_next_243 (by omega) (fun M190 eM190 hM190 => ?_)
                have pM190 := pi_o eM190 (by decide) (by decide) (by omega)
                refine j_aload_n C 0 0 dX12_next_246 rfl rfl ?_
                refine y_bipush C dX12_next_247 rfl ?_
                refine y_putIF C 11 qX12_next_108 rfl rfl ft_11_9 sb_11_9 hM190 (PM.w hpr rfl rfl) dX12_next_249 (fun M191 eM191 hM191 => ?_)
                have pM191 := pi_o eM191 (by decide) (by decide) (by omega)
                refine y_iconst C dX12_next_252 ?_
                refine j_istore_n C 1 [(1, .int (sI 0)), (0, .ref (ad 98))] dX12_next_253 rfl (by decide) rfl ?_
                have L216 : ∀ (n214 : Nat), ∀ (a217 : Int) (M218 : mm_M), (0 ≤ a217 ∧ a217 ≤ 12 ∧ ((M218.1 98 8).toInt = (M0.1 98 8).toInt) ∧ ((M218.1 98 11).toInt = (M0.1 98 11).toInt) ∧ ((M0.1 98 7).toInt ≤ (M218.1 98 6).toInt) ∧ ((M218.1 98 6).toInt ≤ (M218.1 98 8).toInt) ∧ ((M218.1 98 8).toInt ≤ 900) ∧ ((M218.1 98 7).toInt ≤ (M218.1 98 8).toInt) ∧ ((M218.1 98 6).toInt < (M218.1 98 7).toInt) ∧ (b01 (PI M218) = 1) ∧ (12 - a217) < (n214 : Int)) → INV pr Kz M218 → FR [98] M0 M218 → jj p l e (cn_R 5) s m args below meth c 0 0 Q 2 dC dI ad cA A M218 254 [(0, .ref (ad 98)), (1, .int (sI a217))] [] := by
                  intro n214
                  induction n214 with
                  | zero =>
                    intro a217 M218 h219 hM218 fM218
                    exfalso; omega
                  | succ n214 ih215 =>
                    intro a217 M218 h219 hM218 fM218
                    refine j_iload_n C 1 1 dX12_next_254 rfl rfl ?_
                    refine j_ldcS C 3 (by decide) rfl rfl dX12_next_255 ?_
                    refine j_callSS C (d := 1) (As := []) (st := [.int (sI a217)]) 3 (by decide) (s2_J0_length_8abf5 hM218) gX12_next_J0_length_8abf5 rfl hdJ0_length_8abf5 (by decide) (Nat.le_of_ble_eq_true rfl) dX12_next_257 rfl (fun r220 M221 h222 => ?_)
                    obtain ⟨a224, rfl, rfl, h223⟩ := h222
                    refine y_icmp_ge C 294 dX12_next_260 (by decide) (by omega) (fun h225 => ?_) (fun h225 => ?_)
                    · exact hret _ _ _ dX12_next_294 ⟨hM218, (FR.rf.tr fM218 (by decide)), by omega⟩
                    · refine j_aload_n C 0 0 dX12_next_263 rfl rfl ?_
                      refine j_aload_n C 0 0 dX12_next_264 rfl rfl ?_
                      refine y_getI C 11 _ _ fX12_next_98 rfl rfl ft_11_6 sb_11_6 hM218 dX12_next_265 (fun a226 ea226 la226 ua226 => ?_)
                      obtain rfl : a226 = (M218.1 98 6).toInt := ea226
                      refine j_callVi C (d := 0) (As := [.int (sI (M218.1 98 6).toInt)]) (st := []) 98 (s_lt rfl rfl) (s_kc (c := 11) rfl rfl) (by decide) rfl (s1_X12_see hM218 (M218.1 98 6).toInt (by omega) (by omega)) gX12_next_X12_see rfl hdX12_see (by decide) (Nat.le_of_ble_eq_true rfl) dX12_next_268 rfl (fun r228 M229 h230 => ?_)
                      obtain ⟨a232, rfl, rfl, h231⟩ := h230
                      refine j_ldcS C 3 (by decide) rfl rfl dX12_next_271 ?_
                      refine j_iload_n C 1 1 dX12_next_273 rfl rfl ?_
                      refine j_callSS C (d := 3) (As := [.int (sI a217)]) (st := [.int (sI a232)]) 3 (by decide) (s2_J0_charAt_5068e hM218 a217 (by omega) (by omega)) gX12_next_J0_charAt_5068e rfl hdJ0_charAt_5068e (by decide) (Nat.le_of_ble_eq_true rfl) dX12_next_274 rfl (fun r233 M234 h235 => ?_)
                      obtain ⟨a237, rfl, rfl, h236⟩ := h235
                      refine y_icmp_ne C 288 dX12_next_277 (by decide) (by omega) (fun h238 => ?_) (fun h238 => ?_)
                      · refine y_iinc C 1 [(1, .int (sI (a217 + 1))), (0, .ref (ad 98))] dX12_next_288 rfl (by decide) rfl ?_
                        refine j_goto C 254 dX12_next_291 (by decide) ?_
                        refine j_lv [1, 0] rfl ?_; exact ih215 (a217 + 1) M218 (by omega) hM218 (FR.rf.tr fM218 (by decide))
                      · refine j_aload_n C 0 0 dX12_next_280 rfl rfl ?_
                        refine y_bipush C dX12_next_281 rfl ?_
                        refine j_iload_n C 1 1 dX12_next_283 rfl rfl ?_
                        refine y_iadd C dX12_next_284 ?_
                        refine y_putIF C 11 qX12_next_108 rfl rfl ft_11_9 sb_11_9 hM218 (PM.w hpr rfl rfl) dX12_next_285 (fun M239 eM239 hM239 => ?_)
                        have pM239 := pi_o eM239 (by decide) (by decide) (by omega)
                        refine y_iinc C 1 [(1, .int (sI (a217 + 1))), (0, .ref (ad 98))] dX12_next_288 rfl (by decide) rfl ?_
                        refine j_goto C 254 dX12_next_291 (by decide) ?_
                        have zz98_8 : (M239.1 98 8).toInt = (M218.1 98 8).toInt := s_fb eM239 (by decide) (rfl); have zz98_7 : (M239.1 98 7).toInt = (M218.1 98 7).toInt := s_fb eM239 (by decide) (rfl); have zz98_6 : (M239.1 98 6).toInt = (M218.1 98 6).toInt := s_fb eM239 (by decide) (rfl); have zz98_11 : (M239.1 98 11).toInt = (M218.1 98 11).toInt := s_fb eM239 (by decide) (rfl); refine j_lv [1, 0] rfl ?_; exact ih215 (a217 + 1) M239 (by omega) hM239 ((FR.rf.tr fM218 (by decide)).wI eM239 (by decide))
                have zz98_8 : (M191.1 98 8).toInt = (M130.1 98 8).toInt := s_fb eM156 (by decide) (s_fb eM190 (by decide) (s_fb eM191 (by decide) (rfl))); have zz98_7 := (Eq.trans (s_fb eM191 (by decide) (rfl) : (M191.1 98 7).toInt = (M190.1 98 7).toInt) (s_wr eM190 (by omega))); have zz98_6 : (M191.1 98 6).toInt = (M130.1 98 6).toInt := s_fb eM156 (by decide) (s_fb eM190 (by decide) (s_fb eM191 (by decide) (rfl))); have zz98_11 : (M191.1 98 11).toInt = (M130.1 98 11).toInt := s_fb eM156 (by decide) (s_fb eM190 (by decide) (s_fb eM191 (by decide) (rfl))); refine j_lv [1, 0] rfl ?_; exact L216 2010 0 M191 (by omega) hM191 ((((FR.rf.tr fM130 (by decide)).wI eM156 (by decide)).wI eM190 (by decide)).wI eM191 (by decide))
              · refine j_aload_n C 0 0 dX12_next_141 rfl rfl ?_
                refine y_iconst C dX12_next_142 ?_
                refine y_putI C 11 _ _ qX12_next_121 rfl rfl ft_11_10 sb_11_10 hM156 (PM.w hpr rfl rfl) dX12_next_143 (by omega) (fun M240 eM240 hM240 => ?_)
                have pM240 := pi_o eM240 (by decide) (by decide) (by omega)
                have u241a : (M156.1 98 7).toInt = (M130.1 98 6).toInt := s_wr eM156 (by omega)
                have u241b : (M240.1 98 7).toInt = (M156.1 98 7).toInt := by rw [eM240]; exact congrArg Int32.toInt (u2_b (i := 98) (k := 10) (a := 98) (b := 7) M156.1 _ (by decide))
                have u241c : (M240.1 101 ((M240.1 98 7).toInt).toNat).toInt = (M156.1 101 ((M130.1 98 6).toInt).toNat).toInt := by rw [u241b, u241a, wI_cell eM240 (show (101 : Nat) ≠ 98 by decide)]
                have L281 : ∀ (n279 : Nat), ∀ (M282 : mm_M), (((M282.1 98 8).toInt = (M0.1 98 8).toInt) ∧ ((M282.1 98 11).toInt = (M0.1 98 11).toInt) ∧ ((M0.1 98 7).toInt ≤ (M282.1 98 6).toInt) ∧ ((M282.1 98 6).toInt ≤ (M282.1 98 8).toInt) ∧ ((M282.1 98 8).toInt ≤ 900) ∧ ((M282.1 98 7).toInt ≤ (M282.1 98 8).toInt) ∧ ((M282.1 98 6).toInt < (M282.1 98 7).toInt ∨ (M282.1 98 7).toInt = (M282.1 98 6).toInt ∧ (M282.1 98 7).toInt < (M282.1 98 8).toInt ∧ 48 ≤ (M282.1 101 (M282.1 98 7).toInt.toNat).toInt ∧ (M282.1 101 (M282.1 98 7).toInt.toNat).toInt ≤ 57) ∧ ((M282.1 98 7).toInt = (M282.1 98 6).toInt ∧ (M282.1 98 10).toInt = 0 ∨ (M282.1 98 7).toInt = (M282.1 98 6).toInt + 1 ∧ (M282.1 98 10).toInt ≤ 9 ∨ (M282.1 98 7).toInt = (M282.1 98 6).toInt + 2 ∧ (M282.1 98 10).toInt ≤ 99 ∨ (M282.1 98 6).toInt + 3 ≤ (M282.1 98 7).toInt) ∧ (b01 (PI M282) = 1) ∧ (900 - (M282.1 98 7).toInt) < (n279 : Int)) → INV pr Kz M282 → FR [98] M0 M282 → jj p l e (cn_R 5) s m args below meth c 0 0 Q 2 dC dI ad cA A M282 146 [(0, .ref (ad 98))] [] := by
                  intro n279
                  induction n279 with
                  | zero =>
                    intro M282 h283 hM282 fM282
                    exfalso; omega
                  | succ n279 ih280 =>
                    intro M282 h283 hM282 fM282
                    refine j_aload_n C 0 0 dX12_next_146 rfl rfl ?_
                    refine j_aload_n C 0 0 dX12_next_147 rfl rfl ?_
                    refine y_getI C 11 _ _ fX12_next_101 rfl rfl ft_11_7 sb_11_7 hM282 dX12_next_148 (fun a284 ea284 la284 ua284 => ?_)
                    obtain rfl : a284 = (M282.1 98 7).toInt := ea284
                    refine j_callVi C (d := 0) (As := [.int (sI (M282.1 98 7).toInt)]) (st := []) 98 (s_lt rfl rfl) (s_kc (c := 11) rfl rfl) (by decide) rfl (s1_X12_see hM282 (M282.1 98 7).toInt (by omega) (by omega)) gX12_next_X12_see rfl hdX12_see (by decide) (Nat.le_of_ble_eq_true rfl) dX12_next_151 rfl (fun r286 M287 h288 => ?_)
                    obtain ⟨a290, rfl, rfl, h289⟩ := h288
                    refine j_callSi C (d := 0) (As := [.int (sI a290)]) (st := []) (s1_X12_isDigit hM282 a290 (by omega)) gX12_next_X12_isDigit rfl hdX12_isDigits (by decide) (Nat.le_of_ble_eq_true rfl) dX12_next_154 rfl (fun r291 M292 h293 => ?_)
                    obtain ⟨a295, rfl, rfl, h294⟩ := h293
                    refine y_if_eq C 209 dX12_next_157 (by decide) (by omega) (fun h296 => ?_) (fun h296 => ?_)
                    · refine j_aload_n C 0 0 dX12_next_209 rfl rfl ?_
                      refine j_aload_n C 0 0 dX12_next_210 rfl rfl ?_
                      refine y_getI C 11 _ _ fX12_next_101 rfl rfl ft_11_7 sb_11_7 hM282 dX12_next_211 (fun a320 ea320 la320 ua320 => ?_)
                      obtain rfl : a320 = (M282.1 98 7).toInt := ea320
                      refine j_aload_n C 0 0 dX12_next_214 rfl rfl ?_
                      refine y_getI C 11 _ _ fX12_next_98 rfl rfl ft_11_6 sb_11_6 hM282 dX12_next_215 (fun a322 ea322 la322 ua322 => ?_)
                      obtain rfl : a322 = (M282.1 98 6).toInt := ea322
                      refine y_isub C dX12_next_218 ?_
                      refine y_iconst C dX12_next_219 ?_
                      refine y_icmp_le C 228 dX12_next_220 (by decide) (by omega) (fun h324 => ?_) (fun h324 => ?_)
                      · refine y_bipush C dX12_next_228 rfl ?_
                        refine y_putIF C 11 qX12_next_108 rfl rfl ft_11_9 sb_11_9 hM282 (PM.w hpr rfl rfl) dX12_next_230 (fun M325 eM325 hM325 => ?_)
                        have pM325 := pi_o eM325 (by decide) (by decide) (by omega)
                        refine j_goto C 294 dX12_next_233 (by decide) ?_
                        have zz98_11 : (M325.1 98 11).toInt = (M282.1 98 11).toInt := s_fb eM325 (by decide) (rfl); have zz98_6 : (M325.1 98 6).toInt = (M282.1 98 6).toInt := s_fb eM325 (by decide) (rfl); have zz98_7 : (M325.1 98 7).toInt = (M282.1 98 7).toInt := s_fb eM325 (by decide) (rfl); have zz98_8 : (M325.1 98 8).toInt = (M282.1 98 8).toInt := s_fb eM325 (by decide) (rfl); have zz98_9 := (Eq.trans (rfl : (M325.1 98 9).toInt = (M325.1 98 9).toInt) (s_wr eM325 (by omega))); exact hret _ _ _ dX12_next_294 ⟨hM325, ((FR.rf.tr fM282 (by decide)).wI eM325 (by decide)), by omega⟩
                      · refine y_bipush C dX12_next_223 rfl ?_
                        refine j_goto C 230 dX12_next_225 (by decide) ?_
                        refine y_putIF C 11 qX12_next_108 rfl rfl ft_11_9 sb_11_9 hM282 (PM.w hpr rfl rfl) dX12_next_230 (fun M326 eM326 hM326 => ?_)
                        have pM326 := pi_o eM326 (by decide) (by decide) (by omega)
                        refine j_goto C 294 dX12_next_233 (by decide) ?_
                        have zz98_11 : (M326.1 98 11).toInt = (M282.1 98 11).toInt := s_fb eM326 (by decide) (rfl); have zz98_6 : (M326.1 98 6).toInt = (M282.1 98 6).toInt := s_fb eM326 (by decide) (rfl); have zz98_7 : (M326.1 98 7).toInt = (M282.1 98 7).toInt := s_fb eM326 (by decide) (rfl); have zz98_8 : (M326.1 98 8).toInt = (M282.1 98 8).toInt := s_fb eM326 (by decide) (rfl); have zz98_9 := (Eq.trans (rfl : (M326.1 98 9).toInt = (M326.1 98 9).toInt) (s_wr eM326 (by omega))); exact hret _ _ _ dX12_next_294 ⟨hM326, ((FR.rf.tr fM282 (by decide)).wI eM326 (by decide)), by omega⟩
                    · refine j_aload_n C 0 0 dX12_next_160 rfl rfl ?_
                      refine y_getI C 11 _ _ fX12_next_101 rfl rfl ft_11_7 sb_11_7 hM282 dX12_next_161 (fun a297 ea297 la297 ua297 => ?_)
                      obtain rfl : a297 = (M282.1 98 7).toInt := ea297
                      refine j_aload_n C 0 0 dX12_next_164 rfl rfl ?_
                      refine y_getI C 11 _ _ fX12_next_98 rfl rfl ft_11_6 sb_11_6 hM282 dX12_next_165 (fun a299 ea299 la299 ua299 => ?_)
                      obtain rfl : a299 = (M282.1 98 6).toInt := ea299
                      refine y_isub C dX12_next_168 ?_
                      refine y_iconst C dX12_next_169 ?_
                      refine y_icmp_ge C 196 dX12_next_170 (by decide) (by omega) (fun h301 => ?_) (fun h301 => ?_)
                      · refine j_aload_n C 0 0 dX12_next_196 rfl rfl ?_
                        refine j_dup C dX12_next_197 rfl ?_
                        refine y_getI C 11 _ _ fX12_next_101 rfl rfl ft_11_7 sb_11_7 hM282 dX12_next_198 (fun a302 ea302 la302 ua302 => ?_)
                        obtain rfl : a302 = (M282.1 98 7).toInt := ea302
                        refine y_iconst C dX12_next_201 ?_
                        refine y_iadd C dX12_next_202 ?_
                        refine y_putI C 11 _ _ qX12_next_101 rfl rfl ft_11_7 sb_11_7 hM282 (PM.w hpr rfl rfl) dX12_next_203 (by omega) (fun M304 eM304 hM304 => ?_)
                        have pM304 := pi_o eM304 (by decide) (by decide) (by omega)
                        refine j_goto C 146 dX12_next_206 (by decide) ?_
                        have zz98_8 : (M304.1 98 8).toInt = (M282.1 98 8).toInt := s_fb eM304 (by decide) (rfl); have zz98_7 := (Eq.trans (rfl : (M304.1 98 7).toInt = (M304.1 98 7).toInt) (s_wr eM304 (by omega))); have zz98_6 : (M304.1 98 6).toInt = (M282.1 98 6).toInt := s_fb eM304 (by decide) (rfl); have zz98_11 : (M304.1 98 11).toInt = (M282.1 98 11).toInt := s_fb eM304 (by decide) (rfl); have zz98_10 : (M304.1 98 10).toInt = (M282.1 98 10).toInt := s_fb eM304 (by decide) (rfl); exact ih280 M304 (by omega) hM304 ((FR.rf.tr fM282 (by decide)).wI eM304 (by decide))
                      · refine j_aload_n C 0 0 dX12_next_173 rfl rfl ?_
                        refine y_bipush C dX12_next_174 rfl ?_
                        refine j_aload_n C 0 0 dX12_next_176 rfl rfl ?_
                        refine y_getI C 11 _ _ fX12_next_121 rfl rfl ft_11_10 sb_11_10 hM282 dX12_next_177 (fun a306 ea306 la306 ua306 => ?_)
                        obtain rfl : a306 = (M282.1 98 10).toInt := ea306
                        refine y_imul C dX12_next_180 ?_
                        refine j_aload_n C 0 0 dX12_next_181 rfl rfl ?_
                        refine j_aload_n C 0 0 dX12_next_182 rfl rfl ?_
                        refine y_getI C 11 _ _ fX12_next_101 rfl rfl ft_11_7 sb_11_7 hM282 dX12_next_183 (fun a308 ea308 la308 ua308 => ?_)
                        obtain rfl : a308 = (M282.1 98 7).toInt := ea308
                        refine j_callVi C (d := 0) (As := [.int (sI (M282.1 98 7).toInt)]) (st := [.int (sI (10 * (M282.1 98 10).toInt)), .ref (ad 98)]) 98 (s_lt rfl rfl) (s_kc (c := 11) rfl rfl) (by decide) rfl (s1_X12_see hM282 (M282.1 98 7).toInt (by omega) (by omega)) gX12_next_X12_see rfl hdX12_see (by decide) (Nat.le_of_ble_eq_true rfl) dX12_next_186 rfl (fun r310 M311 h312 => ?_)
                        obtain ⟨a314, rfl, rfl, h313⟩ := h312
                        refine y_iadd C dX12_next_189 ?_
                        refine y_bipush C dX12_next_190 rfl ?_
                        refine y_isub C dX12_next_192 ?_
                        refine y_putI C 11 _ _ qX12_next_121 rfl rfl ft_11_10 sb_11_10 hM282 (PM.w hpr rfl rfl) dX12_next_193 (by omega) (fun M315 eM315 hM315 => ?_)
                        have pM315 := pi_o eM315 (by decide) (by decide) (by omega)
                        refine j_aload_n C 0 0 dX12_next_196 rfl rfl ?_
                        refine j_dup C dX12_next_197 rfl ?_
                        refine y_getI C 11 _ _ fX12_next_101 rfl rfl ft_11_7 sb_11_7 hM315 dX12_next_198 (fun a316 ea316 la316 ua316 => ?_)
                        obtain rfl : a316 = (M282.1 98 7).toInt := s_fb eM315 (by decide) (ea316)
                        refine y_iconst C dX12_next_201 ?_
                        refine y_iadd C dX12_next_202 ?_
                        refine y_putI C 11 _ _ qX12_next_101 rfl rfl ft_11_7 sb_11_7 hM315 (PM.w hpr rfl rfl) dX12_next_203 (by omega) (fun M318 eM318 hM318 => ?_)
                        have pM318 := pi_o eM318 (by decide) (by decide) (by omega)
                        refine j_goto C 146 dX12_next_206 (by decide) ?_
                        have zz98_8 : (M318.1 98 8).toInt = (M282.1 98 8).toInt := s_fb eM315 (by decide) (s_fb eM318 (by decide) (rfl)); have zz98_7 := (Eq.trans (rfl : (M318.1 98 7).toInt = (M318.1 98 7).toInt) (s_wr eM318 (by omega))); have zz98_6 : (M318.1 98 6).toInt = (M282.1 98 6).toInt := s_fb eM315 (by decide) (s_fb eM318 (by decide) (rfl)); have zz98_11 : (M318.1 98 11).toInt = (M282.1 98 11).toInt := s_fb eM315 (by decide) (s_fb eM318 (by decide) (rfl)); have zz98_10 := (Eq.trans (s_fb eM318 (by decide) (rfl) : (M318.1 98 10).toInt = (M315.1 98 10).toInt) (s_wr eM315 (by omega))); exact ih280 M318 (by omega) hM318 (((FR.rf.tr fM282 (by decide)).wI eM315 (by decide)).wI eM318 (by decide))
                have zz98_8 : (M240.1 98 8).toInt = (M130.1 98 8).toInt := s_fb eM156 (by decide) (s_fb eM240 (by decide) (rfl)); have zz98_7 := (Eq.trans (s_fb eM240 (by decide) (rfl) : (M240.1 98 7).toInt = (M156.1 98 7).toInt) (s_wr eM156 (by omega))); have zz98_6 : (M240.1 98 6).toInt = (M130.1 98 6).toInt := s_fb eM156 (by decide) (s_fb eM240 (by decide) (rfl)); have zz98_11 : (M240.1 98 11).toInt = (M130.1 98 11).toInt := s_fb eM156 (by decide) (s_fb eM240 (by decide) (rfl)); have zz98_10 := (Eq.trans (rfl : (M240.1 98 10).toInt = (M240.1 98 10).toInt) (s_wr eM240 (by omega))); exact L281 2010 M240 (by omega) hM240 (((FR.rf.tr fM130 (by decide)).wI eM156 (by decide)).wI eM240 (by decide))
            · have u327a : (M156.1 98 7).toInt = (M130.1 98 6).toInt := s_wr eM156 (by omega)
              have u327b : (M156.1 98 7).toInt = (M156.1 98 7).toInt := rfl
              have u327c : (M156.1 101 ((M156.1 98 7).toInt).toNat).toInt = (M156.1 101 ((M130.1 98 6).toInt).toNat).toInt := by rw [u327b, u327a]
              have L348 : ∀ (n346 : Nat), ∀ (M349 : mm_M), (((M349.1 98 8).toInt = (M0.1 98 8).toInt) ∧ ((M349.1 98 11).toInt = (M0.1 98 11).toInt) ∧ ((M0.1 98 7).toInt ≤ (M349.1 98 6).toInt) ∧ ((M349.1 98 6).toInt ≤ (M349.1 98 8).toInt) ∧ ((M349.1 98 8).toInt ≤ 900) ∧ ((M349.1 98 7).toInt ≤ (M349.1 98 8).toInt) ∧ ((M349.1 98 6).toInt < (M349.1 98 7).toInt ∨ (M349.1 98 7).toInt = (M349.1 98 6).toInt ∧ (M349.1 98 7).toInt < (M349.1 98 8).toInt ∧ 97 ≤ (M349.1 101 (M349.1 98 7).toInt.toNat).toInt ∧ (M349.1 101 (M349.1 98 7).toInt.toNat).toInt ≤ 122) ∧ (b01 (PI M349) = 1) ∧ (900 - (M349.1 98 7).toInt) < (n346 : Int)) → INV pr Kz M349 → FR [98] M0 M349 → jj p l e (cn_R 5) s m args below meth c 0 0 Q 2 dC dI ad cA A M349 89 [(0, .ref (ad 98))] [] := by
                intro n346
                induction n346 with
                | zero =>
                  intro M349 h350 hM349 fM349
                  exfalso; omega
                | succ n346 ih347 =>
                  intro M349 h350 hM349 fM349
                  refine j_aload_n C 0 0 dX12_next_89 rfl rfl ?_
                  refine j_aload_n C 0 0 dX12_next_90 rfl rfl ?_
                  refine y_getI C 11 _ _ fX12_next_101 rfl rfl ft_11_7 sb_11_7 hM349 dX12_next_91 (fun a351 ea351 la351 ua351 => ?_)
                  obtain rfl : a351 = (M349.1 98 7).toInt := ea351
                  refine j_callVi C (d := 0) (As := [.int (sI (M349.1 98 7).toInt)]) (st := []) 98 (s_lt rfl rfl) (s_kc (c := 11) rfl rfl) (by decide) rfl (s1_X12_see hM349 (M349.1 98 7).toInt (by omega) (by omega)) gX12_next_X12_see rfl hdX12_see (by decide) (Nat.le_of_ble_eq_true rfl) dX12_next_94 rfl (fun r353 M354 h355 => ?_)
                  obtain ⟨a357, rfl, rfl, h356⟩ := h355
                  refine j_callSi C (d := 0) (As := [.int (sI a357)]) (st := []) (s1_X12_isSmall hM349 a357 (by omega)) gX12_next_X12_isSmall rfl hdX12_isSmalls (by decide) (Nat.le_of_ble_eq_true rfl) dX12_next_97 rfl (fun r358 M359 h360 => ?_)
                  obtain ⟨a362, rfl, rfl, h361⟩ := h360
                  refine y_if_eq C 116 dX12_next_100 (by decide) (by omega) (fun h363 => ?_) (fun h363 => ?_)
                  · refine j_aload_n C 0 0 dX12_next_116 rfl rfl ?_
                    refine j_aload_n C 0 0 dX12_next_117 rfl rfl ?_
                    refine j_callVi C (d := 4) (As := []) (st := [.ref (ad 98)]) 98 (s_lt rfl rfl) (s_kc (c := 11) rfl rfl) (by decide) rfl (s1_X12_keyAt hM349) gX12_next_X12_keyAt rfl hdX12_keyAt (by decide) (Nat.le_of_ble_eq_true rfl) dX12_next_118 rfl (fun r368 M369 h370 => ?_)
                    obtain ⟨a372, rfl, rfl, h371⟩ := h370
                    refine y_putIF C 11 qX12_next_108 rfl rfl ft_11_9 sb_11_9 hM349 (PM.w hpr rfl rfl) dX12_next_121 (fun M373 eM373 hM373 => ?_)
                    have pM373 := pi_o eM373 (by decide) (by decide) (by omega)
                    refine j_goto C 294 dX12_next_124 (by decide) ?_
                    have zz98_11 : (M373.1 98 11).toInt = (M349.1 98 11).toInt := s_fb eM373 (by decide) (rfl); have zz98_6 : (M373.1 98 6).toInt = (M349.1 98 6).toInt := s_fb eM373 (by decide) (rfl); have zz98_7 : (M373.1 98 7).toInt = (M349.1 98 7).toInt := s_fb eM373 (by decide) (rfl); have zz98_8 : (M373.1 98 8).toInt = (M349.1 98 8).toInt := s_fb eM373 (by decide) (rfl); have zz98_9 := (Eq.trans (rfl : (M373.1 98 9).toInt = (M373.1 98 9).toInt) (s_wr eM373 (by omega))); exact hret _ _ _ dX12_next_294 ⟨hM373, ((FR.rf.tr fM349 (by decide)).wI eM373 (by decide)), by omega⟩
                  · refine j_aload_n C 0 0 dX12_next_103 rfl rfl ?_
                    refine j_dup C dX12_next_104 rfl ?_
                    refine y_getI C 11 _ _ fX12_next_101 rfl rfl ft_11_7 sb_11_7 hM349 dX12_next_105 (fun a364 ea364 la364 ua364 => ?_)
                    obtain rfl : a364 = (M349.1 98 7).toInt := ea364
                    refine y_iconst C dX12_next_108 ?_
                    refine y_iadd C dX12_next_109 ?_
                    refine y_putI C 11 _ _ qX12_next_101 rfl rfl ft_11_7 sb_11_7 hM349 (PM.w hpr rfl rfl) dX12_next_110 (by omega) (fun M366 eM366 hM366 => ?_)
                    have pM366 := pi_o eM366 (by decide) (by decide) (by omega)
                    refine j_goto C 89 dX12_next_113 (by decide) ?_
                    have zz98_8 : (M366.1 98 8).toInt = (M349.1 98 8).toInt := s_fb eM366 (by decide) (rfl); have zz98_7 := (Eq.trans (rfl : (M366.1 98 7).toInt = (M366.1 98 7).toInt) (s_wr eM366 (by omega))); have zz98_6 : (M366.1 98 6).toInt = (M349.1 98 6).toInt := s_fb eM366 (by decide) (rfl); have zz98_11 : (M366.1 98 11).toInt = (M349.1 98 11).toInt := s_fb eM366 (by decide) (rfl); exact ih347 M366 (by omega) hM366 ((FR.rf.tr fM349 (by decide)).wI eM366 (by decide))
              have zz98_8 : (M156.1 98 8).toInt = (M130.1 98 8).toInt := s_fb eM156 (by decide) (rfl); have zz98_7 := (Eq.trans (rfl : (M156.1 98 7).toInt = (M156.1 98 7).toInt) (s_wr eM156 (by omega))); have zz98_6 : (M156.1 98 6).toInt = (M130.1 98 6).toInt := s_fb eM156 (by decide) (rfl); have zz98_11 : (M156.1 98 11).toInt = (M130.1 98 11).toInt := s_fb eM156 (by decide) (rfl); exact L348 2010 M156 (by omega) hM156 ((FR.rf.tr fM130 (by decide)).wI eM156 (by decide))
          · refine j_aload_n C 0 0 dX12_next_66 rfl rfl ?_
            refine y_bipush C dX12_next_67 rfl ?_
            refine y_putIF C 11 qX12_next_108 rfl rfl ft_11_9 sb_11_9 hM156 (PM.w hpr rfl rfl) dX12_next_69 (fun M374 eM374 hM374 => ?_)
            have pM374 := pi_o eM374 (by decide) (by decide) (by omega)
            refine j_goto C 294 dX12_next_72 (by decide) ?_
            have zz98_11 : (M374.1 98 11).toInt = (M130.1 98 11).toInt := s_fb eM156 (by decide) (s_fb eM374 (by decide) (rfl)); have zz98_6 : (M374.1 98 6).toInt = (M130.1 98 6).toInt := s_fb eM156 (by decide) (s_fb eM374 (by decide) (rfl)); have zz98_7 := (Eq.trans (s_fb eM374 (by decide) (rfl) : (M374.1 98 7).toInt = (M156.1 98 7).toInt) (s_wr eM156 (by omega))); have zz98_8 : (M374.1 98 8).toInt = (M130.1 98 8).toInt := s_fb eM156 (by decide) (s_fb eM374 (by decide) (rfl)); have zz98_9 := (Eq.trans (rfl : (M374.1 98 9).toInt = (M374.1 98 9).toInt) (s_wr eM374 (by omega))); exact hret _ _ _ dX12_next_294 ⟨hM374, (((FR.rf.tr fM130 (by decide)).wI eM156 (by decide)).wI eM374 (by decide)), by omega⟩
        · refine j_aload_n C 0 0 dX12_next_34 rfl rfl ?_
          refine j_dup C dX12_next_35 rfl ?_
          refine y_getI C 11 _ _ fX12_next_98 rfl rfl ft_11_6 sb_11_6 hM130 dX12_next_36 (fun a151 ea151 la151 ua151 => ?_)
          obtain rfl : a151 = (M130.1 98 6).toInt := ea151
          refine y_iconst C dX12_next_39 ?_
          refine y_iadd C dX12_next_40 ?_
          refine y_putI C 11 _ _ qX12_next_98 rfl rfl ft_11_6 sb_11_6 hM130 (PM.w hpr rfl rfl) dX12_next_41 (by omega) (fun M153 eM153 hM153 => ?_)
          have pM153 := pi_o eM153 (by decide) (by decide) (by omega)
          refine j_goto C 8 dX12_next_44 (by decide) ?_
          have zz98_8 : (M153.1 98 8).toInt = (M130.1 98 8).toInt := s_fb eM153 (by decide) (rfl); have zz98_6 := (Eq.trans (rfl : (M153.1 98 6).toInt = (M153.1 98 6).toInt) (s_wr eM153 (by omega))); have zz98_11 : (M153.1 98 11).toInt = (M130.1 98 11).toInt := s_fb eM153 (by decide) (rfl); exact ih128 M153 (by omega) hM153 ((FR.rf.tr fM130 (by decide)).wI eM153 (by decide))
  have zz98_8 : (M103.1 98 8).toInt = (M0.1 98 8).toInt := s_fb eM103 (by decide) (rfl); have zz98_6 := (Eq.trans (rfl : (M103.1 98 6).toInt = (M103.1 98 6).toInt) (s_wr eM103 (by omega))); have zz98_11 : (M103.1 98 11).toInt = (M0.1 98 11).toInt := s_fb eM103 (by decide) (rfl); exact L129 2010 M103 (by omega) hM103 (FR.rf.wI eM103 (by decide))
set_option maxHeartbeats 4000000 in
theorem s1_X12_is {l : Launch} {dC : Nat → ClassId} {dI : Nat → Nat → Nat} {ad : Nat → Nat} {cA : Nat → ClassId} {pr : Nat → Nat → Bool} {Kz : mm_M} {M0 : mm_M} (hM0 : INV pr Kz M0) (a1 : Int) (ha1 : -2147483648 ≤ a1 ∧ a1 ≤ 2147483647) : Ci l 0 yX12_is wsX12_is dC dI ad cA [.ref (ad 98), .int (sI a1)] M0 (fun r M' => ∃ a : Int, r = sI a ∧ M0 = M' ∧ 0 ≤ a ∧ a ≤ 1 ∧ ((¬ (M0.1 98 11).toInt = 0 ∧ a = 0) ∨ (0 ≤ (M0.1 98 11).toInt ∧ (M0.1 98 11).toInt ≤ 0 ∧ (M0.1 98 11).toInt = 0 ∧ ¬ (M0.1 98 9).toInt = a1 ∧ a = 0) ∨ (0 ≤ (M0.1 98 11).toInt ∧ (M0.1 98 11).toInt ≤ 0 ∧ (M0.1 98 11).toInt = 0 ∧ (M0.1 98 9).toInt = a1 ∧ a = 1))) := by
  refine ci_of (cc := cX12_is) (maxL := 2) (ty := .boolean) (lv := [(0, .ref (ad 98)), (1, .int (sI a1))]) (by decide) rfl (fun r M' hp => by obtain ⟨a, rfl, -, h⟩ := hp; rcases (show a = 0 ∨ a = 1 by omega) with rfl | rfl <;> rfl) (Nat.le_of_ble_eq_true rfl) rfl ?_
  intro p e s m args below meth c A Q C hret
  refine j_aload_n C 0 0 dX12_is_0 rfl rfl ?_
  refine y_getI C 11 _ _ fX12_is_126 rfl rfl ft_11_11 sb_11_11 hM0 dX12_is_1 (fun a101 ea101 la101 ua101 => ?_)
  obtain rfl : a101 = (M0.1 98 11).toInt := ea101
  refine y_if_ne C 19 dX12_is_4 (by decide) (by omega) (fun h103 => ?_) (fun h103 => ?_)
  · refine y_iconst C dX12_is_19 ?_
    exact hret _ _ _ _ dX12_is_20 ⟨0, rfl, rfl, by omega⟩
  · refine j_aload_n C 0 0 dX12_is_7 rfl rfl ?_
    refine y_getI C 11 _ _ fX12_is_108 rfl rfl ft_11_9 sb_11_9 hM0 dX12_is_8 (fun a104 ea104 la104 ua104 => ?_)
    obtain rfl : a104 = (M0.1 98 9).toInt := ea104
    refine j_iload_n C 1 1 dX12_is_11 rfl rfl ?_
    refine y_icmp_ne C 19 dX12_is_12 (by decide) (by omega) (fun h106 => ?_) (fun h106 => ?_)
    · refine y_iconst C dX12_is_19 ?_
      exact hret _ _ _ _ dX12_is_20 ⟨0, rfl, rfl, by omega⟩
    · refine y_iconst C dX12_is_15 ?_
      refine j_goto C 20 dX12_is_16 (by decide) ?_
      exact hret _ _ _ _ dX12_is_20 ⟨1, rfl, rfl, by omega⟩
set_option maxHeartbeats 4000000 in
theorem s1_X12_eats {l : Launch} {dC : Nat → ClassId} {dI : Nat → Nat → Nat} {ad : Nat → Nat} {cA : Nat → ClassId} {pr : Nat → Nat → Bool} {Kz : mm_M} {M0 : mm_M} (hM0 : INV pr Kz M0) (hpr : PM pr) (a1 : Int) (ha1 : -2147483648 ≤ a1 ∧ a1 ≤ 2147483647) (hp0 : (M0.1 98 6).toInt ≤ (M0.1 98 7).toInt ∧ (M0.1 98 7).toInt ≤ (M0.1 98 8).toInt ∧ (M0.1 98 8).toInt ≤ 900 ∧ ((M0.1 98 9).toInt = 24 ∨ (M0.1 98 6).toInt < (M0.1 98 7).toInt)) (hp1 : ¬ a1 = 24) (hp2 : b01 (PI M0) = 1) : Ci l 6 yX12_eats wsX12_eats dC dI ad cA [.ref (ad 98), .int (sI a1)] M0 (fun r M' => ∃ a : Int, r = sI a ∧ INV pr Kz M' ∧ FR [98] M0 M' ∧ 0 ≤ a ∧ a ≤ 1 ∧ ((M'.1 98 6).toInt ≤ (M'.1 98 7).toInt ∧ (M'.1 98 7).toInt ≤ (M'.1 98 8).toInt ∧ (M'.1 98 8).toInt ≤ 900 ∧ ((M'.1 98 9).toInt = 24 ∨ (M'.1 98 6).toInt < (M'.1 98 7).toInt)) ∧ ((M'.1 98 8).toInt = (M0.1 98 8).toInt) ∧ (a = 0 ∧ (M'.1 98 6).toInt = (M0.1 98 6).toInt ∧ (M'.1 98 7).toInt = (M0.1 98 7).toInt ∧ (M'.1 98 9).toInt = (M0.1 98 9).toInt ∧ (M'.1 98 10).toInt = (M0.1 98 10).toInt ∧ (M'.1 98 11).toInt = (M0.1 98 11).toInt ∨ a = 1 ∧ (M0.1 98 11).toInt = 0 ∧ (M0.1 98 9).toInt = a1 ∧ (M'.1 98 11).toInt = 0 ∧ (M0.1 98 6).toInt + 1 ≤ (M'.1 98 6).toInt) ∧ (b01 (PI M') = 1)) := by
  refine ci_of (cc := cX12_eats) (maxL := 2) (ty := .boolean) (lv := [(0, .ref (ad 98)), (1, .int (sI a1))]) (by decide) rfl (fun r M' hp => by obtain ⟨a, rfl, -, h⟩ := hp; rcases (show a = 0 ∨ a = 1 by omega) with rfl | rfl <;> rfl) (Nat.le_of_ble_eq_true rfl) rfl ?_
  intro p e s m args below meth c A Q C hret
  refine j_aload_n C 0 0 dX12_eats_0 rfl rfl ?_
  refine j_iload_n C 1 1 dX12_eats_1 rfl rfl ?_
  refine j_callVi C (d := 0) (As := [.int (sI a1)]) (st := []) 98 (s_lt rfl rfl) (s_kc (c := 11) rfl rfl) (by decide) rfl (s1_X12_is hM0 a1 (by omega)) gX12_eats_X12_is rfl hdX12_is (by decide) (Nat.le_of_ble_eq_true rfl) dX12_eats_2 rfl (fun r101 M102 h103 => ?_)
  obtain ⟨a105, rfl, rfl, h104⟩ := h103
  refine y_if_ne C 10 dX12_eats_5 (by decide) (by omega) (fun h106 => ?_) (fun h106 => ?_)
  · refine j_aload_n C 0 0 dX12_eats_10 rfl rfl ?_
    refine j_callVv C (d := 5) (As := []) (st := []) 98 (s_lt rfl rfl) (s_kc (c := 11) rfl rfl) (by decide) rfl (s1_X12_next hM0 hpr (by omega) (by omega) (by omega)) gX12_eats_X12_next rfl hdX12_next (by decide) (Nat.le_of_ble_eq_true rfl) dX12_eats_11 rfl (fun M108 h109 => ?_)
    obtain ⟨hM108, fM108, h110⟩ := h109
    refine y_iconst C dX12_eats_14 ?_
    exact hret _ _ _ _ dX12_eats_15 ⟨1, rfl, hM108, (FR.rf.tr fM108 (by decide)), by omega⟩
  · refine y_iconst C dX12_eats_8 ?_
    exact hret _ _ _ _ dX12_eats_9 ⟨0, rfl, hM0, FR.rf, by omega⟩
set_option maxHeartbeats 4000000 in
theorem s1_X12_fails {l : Launch} {dC : Nat → ClassId} {dI : Nat → Nat → Nat} {ad : Nat → Nat} {cA : Nat → ClassId} {pr : Nat → Nat → Bool} {Kz : mm_M} {M0 : mm_M} (hM0 : INV pr Kz M0) (hpr : PM pr) (a1 : Int) (ha1 : -2147483648 ≤ a1 ∧ a1 ≤ 2147483647) (hp0 : 2 ≤ a1 ∧ a1 ≤ 4) (hp1 : b01 (PI M0) = 1) : Cv l 0 yX12_fails wsX12_fails dC dI ad cA [.ref (ad 98), .int (sI a1)] M0 (fun M' => INV pr Kz M' ∧ FR [98] M0 M' ∧ (¬ (M'.1 98 11).toInt = 0) ∧ ((M'.1 98 6).toInt = (M0.1 98 6).toInt ∧ (M'.1 98 7).toInt = (M0.1 98 7).toInt ∧ (M'.1 98 8).toInt = (M0.1 98 8).toInt ∧ (M'.1 98 9).toInt = (M0.1 98 9).toInt ∧ (M'.1 98 10).toInt = (M0.1 98 10).toInt) ∧ (b01 (PI M') = 1)) := by
  refine cv_of (cc := cX12_fails) (maxL := 2) (lv := [(0, .ref (ad 98)), (1, .int (sI a1))]) (by decide) rfl (Nat.le_of_ble_eq_true rfl) rfl ?_
  intro p e s m args below meth c A Q C hret
  refine j_aload_n C 0 0 dX12_fails_0 rfl rfl ?_
  refine y_getI C 11 _ _ fX12_fails_126 rfl rfl ft_11_11 sb_11_11 hM0 dX12_fails_1 (fun a101 ea101 la101 ua101 => ?_)
  obtain rfl : a101 = (M0.1 98 11).toInt := ea101
  refine y_if_eq C 8 dX12_fails_4 (by decide) (by omega) (fun h103 => ?_) (fun h103 => ?_)
  · refine j_aload_n C 0 0 dX12_fails_8 rfl rfl ?_
    refine j_aload_n C 0 0 dX12_fails_9 rfl rfl ?_
    refine y_getI C 11 _ _ fX12_fails_108 rfl rfl ft_11_9 sb_11_9 hM0 dX12_fails_10 (fun a104 ea104 la104 ua104 => ?_)
    obtain rfl : a104 = (M0.1 98 9).toInt := ea104
    refine y_bipush C dX12_fails_13 rfl ?_
    refine y_icmp_ne C 22 dX12_fails_15 (by decide) (by omega) (fun h106 => ?_) (fun h106 => ?_)
    · refine j_iload_n C 1 1 dX12_fails_22 rfl rfl ?_
      refine y_putIF C 11 qX12_fails_126 rfl rfl ft_11_11 sb_11_11 hM0 (PM.w hpr rfl rfl) dX12_fails_23 (fun M107 eM107 hM107 => ?_)
      have pM107 := pi_o eM107 (by decide) (by decide) (by omega)
      refine j_aload_n C 0 0 dX12_fails_26 rfl rfl ?_
      refine j_aload_n C 0 0 dX12_fails_27 rfl rfl ?_
      refine y_getI C 11 _ _ fX12_fails_98 rfl rfl ft_11_6 sb_11_6 hM107 dX12_fails_28 (fun a108 ea108 la108 ua108 => ?_)
      obtain rfl : a108 = (M0.1 98 6).toInt := s_fb eM107 (by decide) (ea108)
      refine y_putIF C 11 qX12_fails_129 rfl rfl ft_11_12 sb_11_12 hM107 (PM.w hpr rfl rfl) dX12_fails_31 (fun M110 eM110 hM110 => ?_)
      have pM110 := pi_o eM110 (by decide) (by decide) (by omega)
      have zz98_10 : (M110.1 98 10).toInt = (M0.1 98 10).toInt := s_fb eM107 (by decide) (s_fb eM110 (by decide) (rfl)); have zz98_11 := (Eq.trans (s_fb eM110 (by decide) (rfl) : (M110.1 98 11).toInt = (M107.1 98 11).toInt) (s_wr eM107 (by omega))); have zz98_6 : (M110.1 98 6).toInt = (M0.1 98 6).toInt := s_fb eM107 (by decide) (s_fb eM110 (by decide) (rfl)); have zz98_7 : (M110.1 98 7).toInt = (M0.1 98 7).toInt := s_fb eM107 (by decide) (s_fb eM110 (by decide) (rfl)); have zz98_8 : (M110.1 98 8).toInt = (M0.1 98 8).toInt := s_fb eM107 (by decide) (s_fb eM110 (by decide) (rfl)); have zz98_9 : (M110.1 98 9).toInt = (M0.1 98 9).toInt := s_fb eM107 (by decide) (s_fb eM110 (by decide) (rfl)); exact hret _ _ _ dX12_fails_34 ⟨hM110, ((FR.rf.wI eM107 (by decide)).wI eM110 (by decide)), by omega⟩
    · refine y_iconst C dX12_fails_18 ?_
      refine j_goto C 23 dX12_fails_19 (by decide) ?_
      refine y_putIF C 11 qX12_fails_126 rfl rfl ft_11_11 sb_11_11 hM0 (PM.w hpr rfl rfl) dX12_fails_23 (fun M111 eM111 hM111 => ?_)
      have pM111 := pi_o eM111 (by decide) (by decide) (by omega)
      refine j_aload_n C 0 0 dX12_fails_26 rfl rfl ?_
      refine j_aload_n C 0 0 dX12_fails_27 rfl rfl ?_
      refine y_getI C 11 _ _ fX12_fails_98 rfl rfl ft_11_6 sb_11_6 hM111 dX12_fails_28 (fun a112 ea112 la112 ua112 => ?_)
      obtain rfl : a112 = (M0.1 98 6).toInt := s_fb eM111 (by decide) (ea112)
      refine y_putIF C 11 qX12_fails_129 rfl rfl ft_11_12 sb_11_12 hM111 (PM.w hpr rfl rfl) dX12_fails_31 (fun M114 eM114 hM114 => ?_)
      have pM114 := pi_o eM114 (by decide) (by decide) (by omega)
      have zz98_10 : (M114.1 98 10).toInt = (M0.1 98 10).toInt := s_fb eM111 (by decide) (s_fb eM114 (by decide) (rfl)); have zz98_11 := (Eq.trans (s_fb eM114 (by decide) (rfl) : (M114.1 98 11).toInt = (M111.1 98 11).toInt) (s_wr eM111 (by omega))); have zz98_6 : (M114.1 98 6).toInt = (M0.1 98 6).toInt := s_fb eM111 (by decide) (s_fb eM114 (by decide) (rfl)); have zz98_7 : (M114.1 98 7).toInt = (M0.1 98 7).toInt := s_fb eM111 (by decide) (s_fb eM114 (by decide) (rfl)); have zz98_8 : (M114.1 98 8).toInt = (M0.1 98 8).toInt := s_fb eM111 (by decide) (s_fb eM114 (by decide) (rfl)); have zz98_9 : (M114.1 98 9).toInt = (M0.1 98 9).toInt := s_fb eM111 (by decide) (s_fb eM114 (by decide) (rfl)); exact hret _ _ _ dX12_fails_34 ⟨hM114, ((FR.rf.wI eM111 (by decide)).wI eM114 (by decide)), by omega⟩
  · exact hret _ _ _ dX12_fails_7 ⟨hM0, FR.rf, by omega⟩
set_option maxHeartbeats 4000000 in
theorem s1_X12_takes {l : Launch} {dC : Nat → ClassId} {dI : Nat → Nat → Nat} {ad : Nat → Nat} {cA : Nat → ClassId} {pr : Nat → Nat → Bool} {Kz : mm_M} {M0 : mm_M} (hM0 : INV pr Kz M0) (hpr : PM pr) (a1 : Int) (ha1 : -2147483648 ≤ a1 ∧ a1 ≤ 2147483647) (a2 : Int) (ha2 : -2147483648 ≤ a2 ∧ a2 ≤ 2147483647) (hp0 : (M0.1 98 6).toInt ≤ (M0.1 98 7).toInt ∧ (M0.1 98 7).toInt ≤ (M0.1 98 8).toInt ∧ (M0.1 98 8).toInt ≤ 900 ∧ ((M0.1 98 9).toInt = 24 ∨ (M0.1 98 6).toInt < (M0.1 98 7).toInt)) (hp1 : 0 ≤ a1 ∧ a1 ≤ 1) (hp2 : 9 ≤ a2 ∧ a2 ≤ 999) (hp3 : b01 (PI M0) = 1) : Ci l 6 yX12_takes wsX12_takes dC dI ad cA [.ref (ad 98), .int (sI a1), .int (sI a2)] M0 (fun r M' => ∃ a : Int, r = sI a ∧ INV pr Kz M' ∧ FR [98] M0 M' ∧ 0 ≤ a ∧ a ≤ 999 ∧ ((M'.1 98 6).toInt ≤ (M'.1 98 7).toInt ∧ (M'.1 98 7).toInt ≤ (M'.1 98 8).toInt ∧ (M'.1 98 8).toInt ≤ 900 ∧ ((M'.1 98 9).toInt = 24 ∨ (M'.1 98 6).toInt < (M'.1 98 7).toInt)) ∧ ((M'.1 98 8).toInt = (M0.1 98 8).toInt) ∧ ((M0.1 98 6).toInt ≤ (M'.1 98 6).toInt) ∧ (¬ (M'.1 98 11).toInt = 0 ∨ (M0.1 98 11).toInt = 0 ∧ a1 ≤ a ∧ a ≤ a2 ∧ (M0.1 98 6).toInt + 1 ≤ (M'.1 98 6).toInt) ∧ (b01 (PI M') = 1)) := by
  refine ci_of (cc := cX12_takes) (maxL := 4) (ty := .int) (lv := [(0, .ref (ad 98)), (1, .int (sI a1)), (2, .int (sI a2))]) (by decide) rfl (fun r M' hp => rfl) (Nat.le_of_ble_eq_true rfl) rfl ?_
  intro p e s m args below meth c A Q C hret
  refine j_aload_n C 0 0 dX12_takes_0 rfl rfl ?_
  refine y_bipush C dX12_takes_1 rfl ?_
  refine j_callVi C (d := 0) (As := [.int (sI 23)]) (st := []) 98 (s_lt rfl rfl) (s_kc (c := 11) rfl rfl) (by decide) rfl (s1_X12_is hM0 23 (by omega)) gX12_takes_X12_is rfl hdX12_is (by decide) (Nat.le_of_ble_eq_true rfl) dX12_takes_3 rfl (fun r101 M102 h103 => ?_)
  obtain ⟨a105, rfl, rfl, h104⟩ := h103
  refine y_if_ne C 17 dX12_takes_6 (by decide) (by omega) (fun h106 => ?_) (fun h106 => ?_)
  · refine j_aload_n C 0 0 dX12_takes_17 rfl rfl ?_
    refine y_getI C 11 _ _ fX12_takes_121 rfl rfl ft_11_10 sb_11_10 hM0 dX12_takes_18 (fun a107 ea107 la107 ua107 => ?_)
    obtain rfl : a107 = (M0.1 98 10).toInt := ea107
    refine y_i2l C dX12_takes_21 (by omega) ?_
    refine j_iload_n C 1 1 dX12_takes_22 rfl rfl ?_
    refine y_i2l C dX12_takes_23 (by omega) ?_
    refine j_iload_n C 2 2 dX12_takes_24 rfl rfl ?_
    refine y_i2l C dX12_takes_25 (by omega) ?_
    refine j_callSi C (d := 0) (As := [.long (sJ (M0.1 98 10).toInt), .long (sJ a1), .long (sJ a2)]) (st := []) (s1_X12_within hM0 (M0.1 98 10).toInt (by omega) a1 (by omega) a2 (by omega)) gX12_takes_X12_within rfl hdX12_withins (by decide) (Nat.le_of_ble_eq_true rfl) dX12_takes_26 rfl (fun r109 M110 h111 => ?_)
    obtain ⟨a113, rfl, rfl, h112⟩ := h111
    refine y_if_ne C 37 dX12_takes_29 (by decide) (by omega) (fun h114 => ?_) (fun h114 => ?_)
    · refine j_aload_n C 0 0 dX12_takes_37 rfl rfl ?_
      refine y_getI C 11 _ _ fX12_takes_121 rfl rfl ft_11_10 sb_11_10 hM0 dX12_takes_38 (fun a115 ea115 la115 ua115 => ?_)
      obtain rfl : a115 = (M0.1 98 10).toInt := ea115
      refine j_istore_n C 3 [(3, .int (sI (M0.1 98 10).toInt)), (0, .ref (ad 98)), (1, .int (sI a1)), (2, .int (sI a2))] dX12_takes_41 rfl (by decide) rfl ?_
      refine j_aload_n C 1 0 dX12_takes_42 rfl rfl ?_
      refine y_getI C 11 _ _ fX12_takes_126 rfl rfl ft_11_11 sb_11_11 hM0 dX12_takes_43 (fun a117 ea117 la117 ua117 => ?_)
      obtain rfl : a117 = (M0.1 98 11).toInt := ea117
      refine y_if_ne C 53 dX12_takes_46 (by decide) (by omega) (fun h119 => ?_) (fun h119 => ?_)
      · refine j_iload_n C 0 3 dX12_takes_53 rfl rfl ?_
        exact hret _ _ _ _ dX12_takes_54 ⟨(M0.1 98 10).toInt, rfl, hM0, FR.rf, by omega⟩
      · refine j_aload_n C 1 0 dX12_takes_49 rfl rfl ?_
        refine j_callVv C (d := 5) (As := []) (st := []) 98 (s_lt rfl rfl) (s_kc (c := 11) rfl rfl) (by decide) rfl (s1_X12_next hM0 hpr (by omega) (by omega) (by omega)) gX12_takes_X12_next rfl hdX12_next (by decide) (Nat.le_of_ble_eq_true rfl) dX12_takes_50 rfl (fun M121 h122 => ?_)
        obtain ⟨hM121, fM121, h123⟩ := h122
        refine j_iload_n C 0 3 dX12_takes_53 rfl rfl ?_
        exact hret _ _ _ _ dX12_takes_54 ⟨(M0.1 98 10).toInt, rfl, hM121, (FR.rf.tr fM121 (by decide)), by omega⟩
    · refine j_aload_n C 0 0 dX12_takes_32 rfl rfl ?_
      refine y_iconst C dX12_takes_33 ?_
      refine j_callVv C (d := 0) (As := [.int (sI 3)]) (st := []) 98 (s_lt rfl rfl) (s_kc (c := 11) rfl rfl) (by decide) rfl (s1_X12_fails hM0 hpr 3 (by omega) (by omega) (by omega)) gX12_takes_X12_fails rfl hdX12_fails (by decide) (Nat.le_of_ble_eq_true rfl) dX12_takes_34 rfl (fun M125 h126 => ?_)
      obtain ⟨hM125, fM125, h127⟩ := h126
      refine j_aload_n C 0 0 dX12_takes_37 rfl rfl ?_
      refine y_getI C 11 _ _ fX12_takes_121 rfl rfl ft_11_10 sb_11_10 hM125 dX12_takes_38 (fun a128 ea128 la128 ua128 => ?_)
      obtain rfl : a128 = (M125.1 98 10).toInt := ea128
      refine j_istore_n C 3 [(3, .int (sI (M125.1 98 10).toInt)), (0, .ref (ad 98)), (1, .int (sI a1)), (2, .int (sI a2))] dX12_takes_41 rfl (by decide) rfl ?_
      refine j_aload_n C 1 0 dX12_takes_42 rfl rfl ?_
      refine y_getI C 11 _ _ fX12_takes_126 rfl rfl ft_11_11 sb_11_11 hM125 dX12_takes_43 (fun a130 ea130 la130 ua130 => ?_)
      obtain rfl : a130 = (M125.1 98 11).toInt := ea130
      refine y_if_ne C 53 dX12_takes_46 (by decide) (by omega) (fun h132 => ?_) (fun h132 => ?_)
      · refine j_iload_n C 0 3 dX12_takes_53 rfl rfl ?_
        exact hret _ _ _ _ dX12_takes_54 ⟨(M125.1 98 10).toInt, rfl, hM125, (FR.rf.tr fM125 (by decide)), by omega⟩
      · refine j_aload_n C 1 0 dX12_takes_49 rfl rfl ?_
        refine j_callVv C (d := 5) (As := []) (st := []) 98 (s_lt rfl rfl) (s_kc (c := 11) rfl rfl) (by decide) rfl (s1_X12_next hM125 hpr (by omega) (by omega) (by omega)) gX12_takes_X12_next rfl hdX12_next (by decide) (Nat.le_of_ble_eq_true rfl) dX12_takes_50 rfl (fun M134 h135 => ?_)
        obtain ⟨hM134, fM134, h136⟩ := h135
        refine j_iload_n C 0 3 dX12_takes_53 rfl rfl ?_
        exact hret _ _ _ _ dX12_takes_54 ⟨(M125.1 98 10).toInt, rfl, hM134, ((FR.rf.tr fM125 (by decide)).tr fM134 (by decide)), by omega⟩
  · refine j_aload_n C 0 0 dX12_takes_9 rfl rfl ?_
    refine y_iconst C dX12_takes_10 ?_
    refine j_callVv C (d := 0) (As := [.int (sI 2)]) (st := []) 98 (s_lt rfl rfl) (s_kc (c := 11) rfl rfl) (by decide) rfl (s1_X12_fails hM0 hpr 2 (by omega) (by omega) (by omega)) gX12_takes_X12_fails rfl hdX12_fails (by decide) (Nat.le_of_ble_eq_true rfl) dX12_takes_11 rfl (fun M138 h139 => ?_)
    obtain ⟨hM138, fM138, h140⟩ := h139
    refine j_goto C 37 dX12_takes_14 (by decide) ?_
    refine j_aload_n C 0 0 dX12_takes_37 rfl rfl ?_
    refine y_getI C 11 _ _ fX12_takes_121 rfl rfl ft_11_10 sb_11_10 hM138 dX12_takes_38 (fun a141 ea141 la141 ua141 => ?_)
    obtain rfl : a141 = (M138.1 98 10).toInt := ea141
    refine j_istore_n C 3 [(3, .int (sI (M138.1 98 10).toInt)), (0, .ref (ad 98)), (1, .int (sI a1)), (2, .int (sI a2))] dX12_takes_41 rfl (by decide) rfl ?_
    refine j_aload_n C 1 0 dX12_takes_42 rfl rfl ?_
    refine y_getI C 11 _ _ fX12_takes_126 rfl rfl ft_11_11 sb_11_11 hM138 dX12_takes_43 (fun a143 ea143 la143 ua143 => ?_)
    obtain rfl : a143 = (M138.1 98 11).toInt := ea143
    refine y_if_ne C 53 dX12_takes_46 (by decide) (by omega) (fun h145 => ?_) (fun h145 => ?_)
    · refine j_iload_n C 0 3 dX12_takes_53 rfl rfl ?_
      exact hret _ _ _ _ dX12_takes_54 ⟨(M138.1 98 10).toInt, rfl, hM138, (FR.rf.tr fM138 (by decide)), by omega⟩
    · refine j_aload_n C 1 0 dX12_takes_49 rfl rfl ?_
      refine j_callVv C (d := 5) (As := []) (st := []) 98 (s_lt rfl rfl) (s_kc (c := 11) rfl rfl) (by decide) rfl (s1_X12_next hM138 hpr (by omega) (by omega) (by omega)) gX12_takes_X12_next rfl hdX12_next (by decide) (Nat.le_of_ble_eq_true rfl) dX12_takes_50 rfl (fun M147 h148 => ?_)
      obtain ⟨hM147, fM147, h149⟩ := h148
      refine j_iload_n C 0 3 dX12_takes_53 rfl rfl ?_
      exact hret _ _ _ _ dX12_takes_54 ⟨(M138.1 98 10).toInt, rfl, hM147, ((FR.rf.tr fM138 (by decide)).tr fM147 (by decide)), by omega⟩
set_option maxHeartbeats 4000000 in
theorem s1_X12_codes {l : Launch} {dC : Nat → ClassId} {dI : Nat → Nat → Nat} {ad : Nat → Nat} {cA : Nat → ClassId} {pr : Nat → Nat → Bool} {Kz : mm_M} {M0 : mm_M} (hM0 : INV pr Kz M0) (hpr : PM pr) (a1 : Int) (ha1 : -2147483648 ≤ a1 ∧ a1 ≤ 2147483647) (hp0 : ¬ (M0.1 98 11).toInt = 0 ∨ (M0.1 102 280).toInt ≤ 899) (hp1 : b01 (PI M0) = 1) : Cv l 0 yX12_codes wsX12_codes dC dI ad cA [.ref (ad 98), .int (sI a1)] M0 (fun M' => INV pr Kz M' ∧ FR [102] M0 M' ∧ (¬ (M0.1 98 11).toInt = 0 ∨ (M'.1 102 280).toInt = (M0.1 102 280).toInt + 1 ∧ b01 (APP M0 M' a1) = 1) ∧ (b01 (PI M') = 1)) := by
  refine cv_of (cc := cX12_codes) (maxL := 2) (lv := [(0, .ref (ad 98)), (1, .int (sI a1))]) (by decide) rfl (Nat.le_of_ble_eq_true rfl) rfl ?_
  intro p e s m args below meth c A Q C hret
  refine j_aload_n C 0 0 dX12_codes_0 rfl rfl ?_
  refine y_getI C 11 _ _ fX12_codes_126 rfl rfl ft_11_11 sb_11_11 hM0 dX12_codes_1 (fun a101 ea101 la101 ua101 => ?_)
  obtain rfl : a101 = (M0.1 98 11).toInt := ea101
  refine y_if_eq C 8 dX12_codes_4 (by decide) (by omega) (fun h103 => ?_) (fun h103 => ?_)
  · refine j_aload_n C 0 0 dX12_codes_8 rfl rfl ?_
    refine y_getC C 11 102 fX12_codes_24 rfl rfl ft_11_4 sm_11_4 rfl hM0 dX12_codes_9 ?_
    refine y_sipush C dX12_codes_12 rfl ?_
    refine j_aload_n C 0 0 dX12_codes_15 rfl rfl ?_
    refine y_getC C 11 102 fX12_codes_24 rfl rfl ft_11_4 sm_11_4 rfl hM0 dX12_codes_16 ?_
    refine y_sipush C dX12_codes_19 rfl ?_
    refine y_ialdH C 48 1181 rfl rfl rfl ak_48 an_48 rfl _ _ hM0 (hr_48_280_280 _ (by omega) (by omega)) dX12_codes_22 (by omega) (fun a104 ea104 la104 ua104 => ?_)
    obtain rfl : a104 = (M0.1 102 280).toInt := ea104
    refine y_iadd C dX12_codes_23 ?_
    refine j_iload_n C 1 1 dX12_codes_24 rfl rfl ?_
    refine y_iastR C 48 1181 rfl rfl rfl ak_48 an_48 rfl hM0 (PM.w hpr rfl rfl) dX12_codes_25 (by omega) (by omega) (b48_c (281 + (M0.1 102 280).toInt).toNat a1 (by omega)) (fun M105 eM105 hM105 => ?_)
    have pM105 := pi_o eM105 (by decide) (by decide) (by omega)
    refine j_aload_n C 0 0 dX12_codes_26 rfl rfl ?_
    refine y_getC C 11 102 fX12_codes_24 rfl rfl ft_11_4 sm_11_4 rfl hM105 dX12_codes_27 ?_
    refine y_sipush C dX12_codes_30 rfl ?_
    refine j_dup2 C dX12_codes_33 rfl rfl ?_
    refine y_ialdH C 48 1181 rfl rfl rfl ak_48 an_48 rfl _ _ hM105 (hr_48_280_280 _ (by omega) (by omega)) dX12_codes_34 (by omega) (fun a106 ea106 la106 ua106 => ?_)
    obtain rfl : a106 = (M105.1 102 280).toInt := ea106
    refine y_iconst C dX12_codes_35 ?_
    refine y_iadd C dX12_codes_36 ?_
    refine y_iastH C 48 1181 rfl rfl rfl ak_48 an_48 rfl _ _ hM105 (PM.w hpr rfl rfl) (hs_48_280_280 _ (by omega) (by omega)) dX12_codes_37 (by omega) (by omega) (fun M107 eM107 hM107 => ?_)
    have pM107 := pi_o eM107 (by decide) (by decide) (by omega)
    have u108 : b01 (APP M0 M107 a1) = 1 := ap_w (n := (M0.1 102 280).toInt) eM105 eM107 (by omega)
    have zz102_280 : (M107.1 102 280).toInt = ((M105.1 102 280).toInt + 1) := (Eq.trans (rfl : (M107.1 102 280).toInt = (M107.1 102 280).toInt) (s_wr eM107 (by omega))); exact hret _ _ _ dX12_codes_38 ⟨hM107, ((FR.rf.wI eM105 (by decide)).wI eM107 (by decide)), by omega⟩
  · exact hret _ _ _ dX12_codes_7 ⟨hM0, FR.rf, by omega⟩
set_option maxHeartbeats 4000000 in
theorem s1_X12_goesIn {l : Launch} {dC : Nat → ClassId} {dI : Nat → Nat → Nat} {ad : Nat → Nat} {cA : Nat → ClassId} {pr : Nat → Nat → Bool} {Kz : mm_M} {M0 : mm_M} (hM0 : INV pr Kz M0) (hpr : PM pr)  (hp0 : (M0.1 98 6).toInt ≤ (M0.1 98 7).toInt ∧ (M0.1 98 7).toInt ≤ (M0.1 98 8).toInt ∧ (M0.1 98 8).toInt ≤ 900 ∧ ((M0.1 98 9).toInt = 24 ∨ (M0.1 98 6).toInt < (M0.1 98 7).toInt)) (hp1 : b01 (PI M0) = 1) : Ci l 6 yX12_goesIn wsX12_goesIn dC dI ad cA [.ref (ad 98), .int (sI 0)] M0 (fun r M' => ∃ a : Int, r = sI a ∧ INV pr Kz M' ∧ FR [98] M0 M' ∧ 0 ≤ a ∧ a ≤ 1 ∧ ((M'.1 98 6).toInt ≤ (M'.1 98 7).toInt ∧ (M'.1 98 7).toInt ≤ (M'.1 98 8).toInt ∧ (M'.1 98 8).toInt ≤ 900 ∧ ((M'.1 98 9).toInt = 24 ∨ (M'.1 98 6).toInt < (M'.1 98 7).toInt)) ∧ ((M'.1 98 8).toInt = (M0.1 98 8).toInt) ∧ ((M0.1 98 6).toInt ≤ (M'.1 98 6).toInt) ∧ (a = 0 ∧ ¬ (M'.1 98 11).toInt = 0 ∨ a = 1 ∧ (M'.1 98 11).toInt = 0 ∧ (M0.1 98 11).toInt = 0 ∧ (M0.1 98 7).toInt ≤ (M'.1 98 6).toInt) ∧ (b01 (PI M') = 1)) := by
  refine ci_of (cc := cX12_goesIn) (maxL := 2) (ty := .boolean) (lv := [(0, .ref (ad 98)), (1, .int (sI 0))]) (by decide) rfl (fun r M' hp => by obtain ⟨a, rfl, -, h⟩ := hp; rcases (show a = 0 ∨ a = 1 by omega) with rfl | rfl <;> rfl) (Nat.le_of_ble_eq_true rfl) rfl ?_
  intro p e s m args below meth c A Q C hret
  refine j_iload_n C 1 1 dX12_goesIn_0 rfl rfl ?_
  refine y_bipush C dX12_goesIn_1 rfl ?_
  refine y_icmp_ne C 11 dX12_goesIn_3 (by decide) (by omega) (fun h101 => ?_) (fun h101 => ?_)
  · refine j_aload_n C 0 0 dX12_goesIn_11 rfl rfl ?_
    refine y_getI C 11 _ _ fX12_goesIn_126 rfl rfl ft_11_11 sb_11_11 hM0 dX12_goesIn_12 (fun a102 ea102 la102 ua102 => ?_)
    obtain rfl : a102 = (M0.1 98 11).toInt := ea102
    refine y_if_ne C 22 dX12_goesIn_15 (by decide) (by omega) (fun h104 => ?_) (fun h104 => ?_)
    · refine j_aload_n C 0 0 dX12_goesIn_22 rfl rfl ?_
      refine y_getI C 11 _ _ fX12_goesIn_126 rfl rfl ft_11_11 sb_11_11 hM0 dX12_goesIn_23 (fun a105 ea105 la105 ua105 => ?_)
      obtain rfl : a105 = (M0.1 98 11).toInt := ea105
      refine y_if_ne C 33 dX12_goesIn_26 (by decide) (by omega) (fun h107 => ?_) (fun h107 => ?_)
      · refine y_iconst C dX12_goesIn_33 ?_
        exact hret _ _ _ _ dX12_goesIn_34 ⟨0, rfl, hM0, FR.rf, by omega⟩
      · exfalso; omega
    · refine j_aload_n C 0 0 dX12_goesIn_18 rfl rfl ?_
      refine j_callVv C (d := 5) (As := []) (st := []) 98 (s_lt rfl rfl) (s_kc (c := 11) rfl rfl) (by decide) rfl (s1_X12_next hM0 hpr (by omega) (by omega) (by omega)) gX12_goesIn_X12_next rfl hdX12_next (by decide) (Nat.le_of_ble_eq_true rfl) dX12_goesIn_19 rfl (fun M109 h110 => ?_)
      obtain ⟨hM109, fM109, h111⟩ := h110
      refine j_aload_n C 0 0 dX12_goesIn_22 rfl rfl ?_
      refine y_getI C 11 _ _ fX12_goesIn_126 rfl rfl ft_11_11 sb_11_11 hM109 dX12_goesIn_23 (fun a112 ea112 la112 ua112 => ?_)
      obtain rfl : a112 = (M109.1 98 11).toInt := ea112
      refine y_if_ne C 33 dX12_goesIn_26 (by decide) (by omega) (fun h114 => ?_) (fun h114 => ?_)
      · refine y_iconst C dX12_goesIn_33 ?_
        exact hret _ _ _ _ dX12_goesIn_34 ⟨0, rfl, hM109, (FR.rf.tr fM109 (by decide)), by omega⟩
      · refine y_iconst C dX12_goesIn_29 ?_
        refine j_goto C 34 dX12_goesIn_30 (by decide) ?_
        exact hret _ _ _ _ dX12_goesIn_34 ⟨1, rfl, hM109, (FR.rf.tr fM109 (by decide)), by omega⟩
  · refine j_aload_n C 0 0 dX12_goesIn_6 rfl rfl ?_
    refine y_iconst C dX12_goesIn_7 ?_
    refine j_callVv C (d := 0) (As := [.int (sI 4)]) (st := []) 98 (s_lt rfl rfl) (s_kc (c := 11) rfl rfl) (by decide) rfl (s1_X12_fails hM0 hpr 4 (by omega) (by omega) (by omega)) gX12_goesIn_X12_fails rfl hdX12_fails (by decide) (Nat.le_of_ble_eq_true rfl) dX12_goesIn_8 rfl (fun M116 h117 => ?_)
    obtain ⟨hM116, fM116, h118⟩ := h117
    refine j_aload_n C 0 0 dX12_goesIn_11 rfl rfl ?_
    refine y_getI C 11 _ _ fX12_goesIn_126 rfl rfl ft_11_11 sb_11_11 hM116 dX12_goesIn_12 (fun a119 ea119 la119 ua119 => ?_)
    obtain rfl : a119 = (M116.1 98 11).toInt := ea119
    refine y_if_ne C 22 dX12_goesIn_15 (by decide) (by omega) (fun h121 => ?_) (fun h121 => ?_)
    · refine j_aload_n C 0 0 dX12_goesIn_22 rfl rfl ?_
      refine y_getI C 11 _ _ fX12_goesIn_126 rfl rfl ft_11_11 sb_11_11 hM116 dX12_goesIn_23 (fun a122 ea122 la122 ua122 => ?_)
      obtain rfl : a122 = (M116.1 98 11).toInt := ea122
      refine y_if_ne C 33 dX12_goesIn_26 (by decide) (by omega) (fun h124 => ?_) (fun h124 => ?_)
      · refine y_iconst C dX12_goesIn_33 ?_
        exact hret _ _ _ _ dX12_goesIn_34 ⟨0, rfl, hM116, (FR.rf.tr fM116 (by decide)), by omega⟩
      · exfalso; omega
    · refine j_aload_n C 0 0 dX12_goesIn_18 rfl rfl ?_
      refine j_callVv C (d := 5) (As := []) (st := []) 98 (s_lt rfl rfl) (s_kc (c := 11) rfl rfl) (by decide) rfl (s1_X12_next hM116 hpr (by omega) (by omega) (by omega)) gX12_goesIn_X12_next rfl hdX12_next (by decide) (Nat.le_of_ble_eq_true rfl) dX12_goesIn_19 rfl (fun M126 h127 => ?_)
      obtain ⟨hM126, fM126, h128⟩ := h127
      refine j_aload_n C 0 0 dX12_goesIn_22 rfl rfl ?_
      refine y_getI C 11 _ _ fX12_goesIn_126 rfl rfl ft_11_11 sb_11_11 hM126 dX12_goesIn_23 (fun a129 ea129 la129 ua129 => ?_)
      obtain rfl : a129 = (M126.1 98 11).toInt := ea129
      refine y_if_ne C 33 dX12_goesIn_26 (by decide) (by omega) (fun h131 => ?_) (fun h131 => ?_)
      · refine y_iconst C dX12_goesIn_33 ?_
        exact hret _ _ _ _ dX12_goesIn_34 ⟨0, rfl, hM126, ((FR.rf.tr fM116 (by decide)).tr fM126 (by decide)), by omega⟩
      · refine y_iconst C dX12_goesIn_29 ?_
        refine j_goto C 34 dX12_goesIn_30 (by decide) ?_
        exact hret _ _ _ _ dX12_goesIn_34 ⟨1, rfl, hM126, ((FR.rf.tr fM116 (by decide)).tr fM126 (by decide)), by omega⟩
set_option maxHeartbeats 4000000 in
theorem s2_X12_goesIn {l : Launch} {dC : Nat → ClassId} {dI : Nat → Nat → Nat} {ad : Nat → Nat} {cA : Nat → ClassId} {pr : Nat → Nat → Bool} {Kz : mm_M} {M0 : mm_M} (hM0 : INV pr Kz M0) (hpr : PM pr)  (hp0 : (M0.1 98 6).toInt ≤ (M0.1 98 7).toInt ∧ (M0.1 98 7).toInt ≤ (M0.1 98 8).toInt ∧ (M0.1 98 8).toInt ≤ 900 ∧ ((M0.1 98 9).toInt = 24 ∨ (M0.1 98 6).toInt < (M0.1 98 7).toInt)) (hp1 : b01 (PI M0) = 1) : Ci l 6 yX12_goesIn wsX12_goesIn dC dI ad cA [.ref (ad 98), .int (sI 1)] M0 (fun r M' => ∃ a : Int, r = sI a ∧ INV pr Kz M' ∧ FR [98] M0 M' ∧ 0 ≤ a ∧ a ≤ 1 ∧ ((M'.1 98 6).toInt ≤ (M'.1 98 7).toInt ∧ (M'.1 98 7).toInt ≤ (M'.1 98 8).toInt ∧ (M'.1 98 8).toInt ≤ 900 ∧ ((M'.1 98 9).toInt = 24 ∨ (M'.1 98 6).toInt < (M'.1 98 7).toInt)) ∧ ((M'.1 98 8).toInt = (M0.1 98 8).toInt) ∧ ((M0.1 98 6).toInt ≤ (M'.1 98 6).toInt) ∧ (a = 0 ∧ ¬ (M'.1 98 11).toInt = 0 ∨ a = 1 ∧ (M'.1 98 11).toInt = 0 ∧ (M0.1 98 11).toInt = 0 ∧ (M0.1 98 7).toInt ≤ (M'.1 98 6).toInt) ∧ (b01 (PI M') = 1)) := by
  refine ci_of (cc := cX12_goesIn) (maxL := 2) (ty := .boolean) (lv := [(0, .ref (ad 98)), (1, .int (sI 1))]) (by decide) rfl (fun r M' hp => by obtain ⟨a, rfl, -, h⟩ := hp; rcases (show a = 0 ∨ a = 1 by omega) with rfl | rfl <;> rfl) (Nat.le_of_ble_eq_true rfl) rfl ?_
  intro p e s m args below meth c A Q C hret
  refine j_iload_n C 1 1 dX12_goesIn_0 rfl rfl ?_
  refine y_bipush C dX12_goesIn_1 rfl ?_
  refine y_icmp_ne C 11 dX12_goesIn_3 (by decide) (by omega) (fun h101 => ?_) (fun h101 => ?_)
  · refine j_aload_n C 0 0 dX12_goesIn_11 rfl rfl ?_
    refine y_getI C 11 _ _ fX12_goesIn_126 rfl rfl ft_11_11 sb_11_11 hM0 dX12_goesIn_12 (fun a102 ea102 la102 ua102 => ?_)
    obtain rfl : a102 = (M0.1 98 11).toInt := ea102
    refine y_if_ne C 22 dX12_goesIn_15 (by decide) (by omega) (fun h104 => ?_) (fun h104 => ?_)
    · refine j_aload_n C 0 0 dX12_goesIn_22 rfl rfl ?_
      refine y_getI C 11 _ _ fX12_goesIn_126 rfl rfl ft_11_11 sb_11_11 hM0 dX12_goesIn_23 (fun a105 ea105 la105 ua105 => ?_)
      obtain rfl : a105 = (M0.1 98 11).toInt := ea105
      refine y_if_ne C 33 dX12_goesIn_26 (by decide) (by omega) (fun h107 => ?_) (fun h107 => ?_)
      · refine y_iconst C dX12_goesIn_33 ?_
        exact hret _ _ _ _ dX12_goesIn_34 ⟨0, rfl, hM0, FR.rf, by omega⟩
      · exfalso; omega
    · refine j_aload_n C 0 0 dX12_goesIn_18 rfl rfl ?_
      refine j_callVv C (d := 5) (As := []) (st := []) 98 (s_lt rfl rfl) (s_kc (c := 11) rfl rfl) (by decide) rfl (s1_X12_next hM0 hpr (by omega) (by omega) (by omega)) gX12_goesIn_X12_next rfl hdX12_next (by decide) (Nat.le_of_ble_eq_true rfl) dX12_goesIn_19 rfl (fun M109 h110 => ?_)
      obtain ⟨hM109, fM109, h111⟩ := h110
      refine j_aload_n C 0 0 dX12_goesIn_22 rfl rfl ?_
      refine y_getI C 11 _ _ fX12_goesIn_126 rfl rfl ft_11_11 sb_11_11 hM109 dX12_goesIn_23 (fun a112 ea112 la112 ua112 => ?_)
      obtain rfl : a112 = (M109.1 98 11).toInt := ea112
      refine y_if_ne C 33 dX12_goesIn_26 (by decide) (by omega) (fun h114 => ?_) (fun h114 => ?_)
      · refine y_iconst C dX12_goesIn_33 ?_
        exact hret _ _ _ _ dX12_goesIn_34 ⟨0, rfl, hM109, (FR.rf.tr fM109 (by decide)), by omega⟩
      · refine y_iconst C dX12_goesIn_29 ?_
        refine j_goto C 34 dX12_goesIn_30 (by decide) ?_
        exact hret _ _ _ _ dX12_goesIn_34 ⟨1, rfl, hM109, (FR.rf.tr fM109 (by decide)), by omega⟩
  · refine j_aload_n C 0 0 dX12_goesIn_6 rfl rfl ?_
    refine y_iconst C dX12_goesIn_7 ?_
    refine j_callVv C (d := 0) (As := [.int (sI 4)]) (st := []) 98 (s_lt rfl rfl) (s_kc (c := 11) rfl rfl) (by decide) rfl (s1_X12_fails hM0 hpr 4 (by omega) (by omega) (by omega)) gX12_goesIn_X12_fails rfl hdX12_fails (by decide) (Nat.le_of_ble_eq_true rfl) dX12_goesIn_8 rfl (fun M116 h117 => ?_)
    obtain ⟨hM116, fM116, h118⟩ := h117
    refine j_aload_n C 0 0 dX12_goesIn_11 rfl rfl ?_
    refine y_getI C 11 _ _ fX12_goesIn_126 rfl rfl ft_11_11 sb_11_11 hM116 dX12_goesIn_12 (fun a119 ea119 la119 ua119 => ?_)
    obtain rfl : a119 = (M116.1 98 11).toInt := ea119
    refine y_if_ne C 22 dX12_goesIn_15 (by decide) (by omega) (fun h121 => ?_) (fun h121 => ?_)
    · refine j_aload_n C 0 0 dX12_goesIn_22 rfl rfl ?_
      refine y_getI C 11 _ _ fX12_goesIn_126 rfl rfl ft_11_11 sb_11_11 hM116 dX12_goesIn_23 (fun a122 ea122 la122 ua122 => ?_)
      obtain rfl : a122 = (M116.1 98 11).toInt := ea122
      refine y_if_ne C 33 dX12_goesIn_26 (by decide) (by omega) (fun h124 => ?_) (fun h124 => ?_)
      · refine y_iconst C dX12_goesIn_33 ?_
        exact hret _ _ _ _ dX12_goesIn_34 ⟨0, rfl, hM116, (FR.rf.tr fM116 (by decide)), by omega⟩
      · exfalso; omega
    · refine j_aload_n C 0 0 dX12_goesIn_18 rfl rfl ?_
      refine j_callVv C (d := 5) (As := []) (st := []) 98 (s_lt rfl rfl) (s_kc (c := 11) rfl rfl) (by decide) rfl (s1_X12_next hM116 hpr (by omega) (by omega) (by omega)) gX12_goesIn_X12_next rfl hdX12_next (by decide) (Nat.le_of_ble_eq_true rfl) dX12_goesIn_19 rfl (fun M126 h127 => ?_)
      obtain ⟨hM126, fM126, h128⟩ := h127
      refine j_aload_n C 0 0 dX12_goesIn_22 rfl rfl ?_
      refine y_getI C 11 _ _ fX12_goesIn_126 rfl rfl ft_11_11 sb_11_11 hM126 dX12_goesIn_23 (fun a129 ea129 la129 ua129 => ?_)
      obtain rfl : a129 = (M126.1 98 11).toInt := ea129
      refine y_if_ne C 33 dX12_goesIn_26 (by decide) (by omega) (fun h131 => ?_) (fun h131 => ?_)
      · refine y_iconst C dX12_goesIn_33 ?_
        exact hret _ _ _ _ dX12_goesIn_34 ⟨0, rfl, hM126, ((FR.rf.tr fM116 (by decide)).tr fM126 (by decide)), by omega⟩
      · refine y_iconst C dX12_goesIn_29 ?_
        refine j_goto C 34 dX12_goesIn_30 (by decide) ?_
        exact hret _ _ _ _ dX12_goesIn_34 ⟨1, rfl, hM126, ((FR.rf.tr fM116 (by decide)).tr fM126 (by decide)), by omega⟩
set_option maxHeartbeats 4000000 in
theorem s3_X12_goesIn {l : Launch} {dC : Nat → ClassId} {dI : Nat → Nat → Nat} {ad : Nat → Nat} {cA : Nat → ClassId} {pr : Nat → Nat → Bool} {Kz : mm_M} {M0 : mm_M} (hM0 : INV pr Kz M0) (hpr : PM pr)  (hp0 : (M0.1 98 6).toInt ≤ (M0.1 98 7).toInt ∧ (M0.1 98 7).toInt ≤ (M0.1 98 8).toInt ∧ (M0.1 98 8).toInt ≤ 900 ∧ ((M0.1 98 9).toInt = 24 ∨ (M0.1 98 6).toInt < (M0.1 98 7).toInt)) (hp1 : b01 (PI M0) = 1) : Ci l 6 yX12_goesIn wsX12_goesIn dC dI ad cA [.ref (ad 98), .int (sI 2)] M0 (fun r M' => ∃ a : Int, r = sI a ∧ INV pr Kz M' ∧ FR [98] M0 M' ∧ 0 ≤ a ∧ a ≤ 1 ∧ ((M'.1 98 6).toInt ≤ (M'.1 98 7).toInt ∧ (M'.1 98 7).toInt ≤ (M'.1 98 8).toInt ∧ (M'.1 98 8).toInt ≤ 900 ∧ ((M'.1 98 9).toInt = 24 ∨ (M'.1 98 6).toInt < (M'.1 98 7).toInt)) ∧ ((M'.1 98 8).toInt = (M0.1 98 8).toInt) ∧ ((M0.1 98 6).toInt ≤ (M'.1 98 6).toInt) ∧ (a = 0 ∧ ¬ (M'.1 98 11).toInt = 0 ∨ a = 1 ∧ (M'.1 98 11).toInt = 0 ∧ (M0.1 98 11).toInt = 0 ∧ (M0.1 98 7).toInt ≤ (M'.1 98 6).toInt) ∧ (b01 (PI M') = 1)) := by
  refine ci_of (cc := cX12_goesIn) (maxL := 2) (ty := .boolean) (lv := [(0, .ref (ad 98)), (1, .int (sI 2))]) (by decide) rfl (fun r M' hp => by obtain ⟨a, rfl, -, h⟩ := hp; rcases (show a = 0 ∨ a = 1 by omega) with rfl | rfl <;> rfl) (Nat.le_of_ble_eq_true rfl) rfl ?_
  intro p e s m args below meth c A Q C hret
  refine j_iload_n C 1 1 dX12_goesIn_0 rfl rfl ?_
  refine y_bipush C dX12_goesIn_1 rfl ?_
  refine y_icmp_ne C 11 dX12_goesIn_3 (by decide) (by omega) (fun h101 => ?_) (fun h101 => ?_)
  · refine j_aload_n C 0 0 dX12_goesIn_11 rfl rfl ?_
    refine y_getI C 11 _ _ fX12_goesIn_126 rfl rfl ft_11_11 sb_11_11 hM0 dX12_goesIn_12 (fun a102 ea102 la102 ua102 => ?_)
    obtain rfl : a102 = (M0.1 98 11).toInt := ea102
    refine y_if_ne C 22 dX12_goesIn_15 (by decide) (by omega) (fun h104 => ?_) (fun h104 => ?_)
    · refine j_aload_n C 0 0 dX12_goesIn_22 rfl rfl ?_
      refine y_getI C 11 _ _ fX12_goesIn_126 rfl rfl ft_11_11 sb_11_11 hM0 dX12_goesIn_23 (fun a105 ea105 la105 ua105 => ?_)
      obtain rfl : a105 = (M0.1 98 11).toInt := ea105
      refine y_if_ne C 33 dX12_goesIn_26 (by decide) (by omega) (fun h107 => ?_) (fun h107 => ?_)
      · refine y_iconst C dX12_goesIn_33 ?_
        exact hret _ _ _ _ dX12_goesIn_34 ⟨0, rfl, hM0, FR.rf, by omega⟩
      · exfalso; omega
    · refine j_aload_n C 0 0 dX12_goesIn_18 rfl rfl ?_
      refine j_callVv C (d := 5) (As := []) (st := []) 98 (s_lt rfl rfl) (s_kc (c := 11) rfl rfl) (by decide) rfl (s1_X12_next hM0 hpr (by omega) (by omega) (by omega)) gX12_goesIn_X12_next rfl hdX12_next (by decide) (Nat.le_of_ble_eq_true rfl) dX12_goesIn_19 rfl (fun M109 h110 => ?_)
      obtain ⟨hM109, fM109, h111⟩ := h110
      refine j_aload_n C 0 0 dX12_goesIn_22 rfl rfl ?_
      refine y_getI C 11 _ _ fX12_goesIn_126 rfl rfl ft_11_11 sb_11_11 hM109 dX12_goesIn_23 (fun a112 ea112 la112 ua112 => ?_)
      obtain rfl : a112 = (M109.1 98 11).toInt := ea112
      refine y_if_ne C 33 dX12_goesIn_26 (by decide) (by omega) (fun h114 => ?_) (fun h114 => ?_)
      · refine y_iconst C dX12_goesIn_33 ?_
        exact hret _ _ _ _ dX12_goesIn_34 ⟨0, rfl, hM109, (FR.rf.tr fM109 (by decide)), by omega⟩
      · refine y_iconst C dX12_goesIn_29 ?_
        refine j_goto C 34 dX12_goesIn_30 (by decide) ?_
        exact hret _ _ _ _ dX12_goesIn_34 ⟨1, rfl, hM109, (FR.rf.tr fM109 (by decide)), by omega⟩
  · refine j_aload_n C 0 0 dX12_goesIn_6 rfl rfl ?_
    refine y_iconst C dX12_goesIn_7 ?_
    refine j_callVv C (d := 0) (As := [.int (sI 4)]) (st := []) 98 (s_lt rfl rfl) (s_kc (c := 11) rfl rfl) (by decide) rfl (s1_X12_fails hM0 hpr 4 (by omega) (by omega) (by omega)) gX12_goesIn_X12_fails rfl hdX12_fails (by decide) (Nat.le_of_ble_eq_true rfl) dX12_goesIn_8 rfl (fun M116 h117 => ?_)
    obtain ⟨hM116, fM116, h118⟩ := h117
    refine j_aload_n C 0 0 dX12_goesIn_11 rfl rfl ?_
    refine y_getI C 11 _ _ fX12_goesIn_126 rfl rfl ft_11_11 sb_11_11 hM116 dX12_goesIn_12 (fun a119 ea119 la119 ua119 => ?_)
    obtain rfl : a119 = (M116.1 98 11).toInt := ea119
    refine y_if_ne C 22 dX12_goesIn_15 (by decide) (by omega) (fun h121 => ?_) (fun h121 => ?_)
    · refine j_aload_n C 0 0 dX12_goesIn_22 rfl rfl ?_
      refine y_getI C 11 _ _ fX12_goesIn_126 rfl rfl ft_11_11 sb_11_11 hM116 dX12_goesIn_23 (fun a122 ea122 la122 ua122 => ?_)
      obtain rfl : a122 = (M116.1 98 11).toInt := ea122
      refine y_if_ne C 33 dX12_goesIn_26 (by decide) (by omega) (fun h124 => ?_) (fun h124 => ?_)
      · refine y_iconst C dX12_goesIn_33 ?_
        exact hret _ _ _ _ dX12_goesIn_34 ⟨0, rfl, hM116, (FR.rf.tr fM116 (by decide)), by omega⟩
      · exfalso; omega
    · refine j_aload_n C 0 0 dX12_goesIn_18 rfl rfl ?_
      refine j_callVv C (d := 5) (As := []) (st := []) 98 (s_lt rfl rfl) (s_kc (c := 11) rfl rfl) (by decide) rfl (s1_X12_next hM116 hpr (by omega) (by omega) (by omega)) gX12_goesIn_X12_next rfl hdX12_next (by decide) (Nat.le_of_ble_eq_true rfl) dX12_goesIn_19 rfl (fun M126 h127 => ?_)
      obtain ⟨hM126, fM126, h128⟩ := h127
      refine j_aload_n C 0 0 dX12_goesIn_22 rfl rfl ?_
      refine y_getI C 11 _ _ fX12_goesIn_126 rfl rfl ft_11_11 sb_11_11 hM126 dX12_goesIn_23 (fun a129 ea129 la129 ua129 => ?_)
      obtain rfl : a129 = (M126.1 98 11).toInt := ea129
      refine y_if_ne C 33 dX12_goesIn_26 (by decide) (by omega) (fun h131 => ?_) (fun h131 => ?_)
      · refine y_iconst C dX12_goesIn_33 ?_
        exact hret _ _ _ _ dX12_goesIn_34 ⟨0, rfl, hM126, ((FR.rf.tr fM116 (by decide)).tr fM126 (by decide)), by omega⟩
      · refine y_iconst C dX12_goesIn_29 ?_
        refine j_goto C 34 dX12_goesIn_30 (by decide) ?_
        exact hret _ _ _ _ dX12_goesIn_34 ⟨1, rfl, hM126, ((FR.rf.tr fM116 (by decide)).tr fM126 (by decide)), by omega⟩
set_option maxHeartbeats 4000000 in
theorem s4_X12_goesIn {l : Launch} {dC : Nat → ClassId} {dI : Nat → Nat → Nat} {ad : Nat → Nat} {cA : Nat → ClassId} {pr : Nat → Nat → Bool} {Kz : mm_M} {M0 : mm_M} (hM0 : INV pr Kz M0) (hpr : PM pr)  (hp0 : (M0.1 98 6).toInt ≤ (M0.1 98 7).toInt ∧ (M0.1 98 7).toInt ≤ (M0.1 98 8).toInt ∧ (M0.1 98 8).toInt ≤ 900 ∧ ((M0.1 98 9).toInt = 24 ∨ (M0.1 98 6).toInt < (M0.1 98 7).toInt)) (hp1 : b01 (PI M0) = 1) : Ci l 6 yX12_goesIn wsX12_goesIn dC dI ad cA [.ref (ad 98), .int (sI 3)] M0 (fun r M' => ∃ a : Int, r = sI a ∧ INV pr Kz M' ∧ FR [98] M0 M' ∧ 0 ≤ a ∧ a ≤ 1 ∧ ((M'.1 98 6).toInt ≤ (M'.1 98 7).toInt ∧ (M'.1 98 7).toInt ≤ (M'.1 98 8).toInt ∧ (M'.1 98 8).toInt ≤ 900 ∧ ((M'.1 98 9).toInt = 24 ∨ (M'.1 98 6).toInt < (M'.1 98 7).toInt)) ∧ ((M'.1 98 8).toInt = (M0.1 98 8).toInt) ∧ ((M0.1 98 6).toInt ≤ (M'.1 98 6).toInt) ∧ (a = 0 ∧ ¬ (M'.1 98 11).toInt = 0 ∨ a = 1 ∧ (M'.1 98 11).toInt = 0 ∧ (M0.1 98 11).toInt = 0 ∧ (M0.1 98 7).toInt ≤ (M'.1 98 6).toInt) ∧ (b01 (PI M') = 1)) := by
  refine ci_of (cc := cX12_goesIn) (maxL := 2) (ty := .boolean) (lv := [(0, .ref (ad 98)), (1, .int (sI 3))]) (by decide) rfl (fun r M' hp => by obtain ⟨a, rfl, -, h⟩ := hp; rcases (show a = 0 ∨ a = 1 by omega) with rfl | rfl <;> rfl) (Nat.le_of_ble_eq_true rfl) rfl ?_
  intro p e s m args below meth c A Q C hret
  refine j_iload_n C 1 1 dX12_goesIn_0 rfl rfl ?_
  refine y_bipush C dX12_goesIn_1 rfl ?_
  refine y_icmp_ne C 11 dX12_goesIn_3 (by decide) (by omega) (fun h101 => ?_) (fun h101 => ?_)
  · refine j_aload_n C 0 0 dX12_goesIn_11 rfl rfl ?_
    refine y_getI C 11 _ _ fX12_goesIn_126 rfl rfl ft_11_11 sb_11_11 hM0 dX12_goesIn_12 (fun a102 ea102 la102 ua102 => ?_)
    obtain rfl : a102 = (M0.1 98 11).toInt := ea102
    refine y_if_ne C 22 dX12_goesIn_15 (by decide) (by omega) (fun h104 => ?_) (fun h104 => ?_)
    · refine j_aload_n C 0 0 dX12_goesIn_22 rfl rfl ?_
      refine y_getI C 11 _ _ fX12_goesIn_126 rfl rfl ft_11_11 sb_11_11 hM0 dX12_goesIn_23 (fun a105 ea105 la105 ua105 => ?_)
      obtain rfl : a105 = (M0.1 98 11).toInt := ea105
      refine y_if_ne C 33 dX12_goesIn_26 (by decide) (by omega) (fun h107 => ?_) (fun h107 => ?_)
      · refine y_iconst C dX12_goesIn_33 ?_
        exact hret _ _ _ _ dX12_goesIn_34 ⟨0, rfl, hM0, FR.rf, by omega⟩
      · exfalso; omega
    · refine j_aload_n C 0 0 dX12_goesIn_18 rfl rfl ?_
      refine j_callVv C (d := 5) (As := []) (st := []) 98 (s_lt rfl rfl) (s_kc (c := 11) rfl rfl) (by decide) rfl (s1_X12_next hM0 hpr (by omega) (by omega) (by omega)) gX12_goesIn_X12_next rfl hdX12_next (by decide) (Nat.le_of_ble_eq_true rfl) dX12_goesIn_19 rfl (fun M109 h110 => ?_)
      obtain ⟨hM109, fM109, h111⟩ := h110
      refine j_aload_n C 0 0 dX12_goesIn_22 rfl rfl ?_
      refine y_getI C 11 _ _ fX12_goesIn_126 rfl rfl ft_11_11 sb_11_11 hM109 dX12_goesIn_23 (fun a112 ea112 la112 ua112 => ?_)
      obtain rfl : a112 = (M109.1 98 11).toInt := ea112
      refine y_if_ne C 33 dX12_goesIn_26 (by decide) (by omega) (fun h114 => ?_) (fun h114 => ?_)
      · refine y_iconst C dX12_goesIn_33 ?_
        exact hret _ _ _ _ dX12_goesIn_34 ⟨0, rfl, hM109, (FR.rf.tr fM109 (by decide)), by omega⟩
      · refine y_iconst C dX12_goesIn_29 ?_
        refine j_goto C 34 dX12_goesIn_30 (by decide) ?_
        exact hret _ _ _ _ dX12_goesIn_34 ⟨1, rfl, hM109, (FR.rf.tr fM109 (by decide)), by omega⟩
  · refine j_aload_n C 0 0 dX12_goesIn_6 rfl rfl ?_
    refine y_iconst C dX12_goesIn_7 ?_
    refine j_callVv C (d := 0) (As := [.int (sI 4)]) (st := []) 98 (s_lt rfl rfl) (s_kc (c := 11) rfl rfl) (by decide) rfl (s1_X12_fails hM0 hpr 4 (by omega) (by omega) (by omega)) gX12_goesIn_X12_fails rfl hdX12_fails (by decide) (Nat.le_of_ble_eq_true rfl) dX12_goesIn_8 rfl (fun M116 h117 => ?_)
    obtain ⟨hM116, fM116, h118⟩ := h117
    refine j_aload_n C 0 0 dX12_goesIn_11 rfl rfl ?_
    refine y_getI C 11 _ _ fX12_goesIn_126 rfl rfl ft_11_11 sb_11_11 hM116 dX12_goesIn_12 (fun a119 ea119 la119 ua119 => ?_)
    obtain rfl : a119 = (M116.1 98 11).toInt := ea119
    refine y_if_ne C 22 dX12_goesIn_15 (by decide) (by omega) (fun h121 => ?_) (fun h121 => ?_)
    · refine j_aload_n C 0 0 dX12_goesIn_22 rfl rfl ?_
      refine y_getI C 11 _ _ fX12_goesIn_126 rfl rfl ft_11_11 sb_11_11 hM116 dX12_goesIn_23 (fun a122 ea122 la122 ua122 => ?_)
      obtain rfl : a122 = (M116.1 98 11).toInt := ea122
      refine y_if_ne C 33 dX12_goesIn_26 (by decide) (by omega) (fun h124 => ?_) (fun h124 => ?_)
      · refine y_iconst C dX12_goesIn_33 ?_
        exact hret _ _ _ _ dX12_goesIn_34 ⟨0, rfl, hM116, (FR.rf.tr fM116 (by decide)), by omega⟩
      · exfalso; omega
    · refine j_aload_n C 0 0 dX12_goesIn_18 rfl rfl ?_
      refine j_callVv C (d := 5) (As := []) (st := []) 98 (s_lt rfl rfl) (s_kc (c := 11) rfl rfl) (by decide) rfl (s1_X12_next hM116 hpr (by omega) (by omega) (by omega)) gX12_goesIn_X12_next rfl hdX12_next (by decide) (Nat.le_of_ble_eq_true rfl) dX12_goesIn_19 rfl (fun M126 h127 => ?_)
      obtain ⟨hM126, fM126, h128⟩ := h127
      refine j_aload_n C 0 0 dX12_goesIn_22 rfl rfl ?_
      refine y_getI C 11 _ _ fX12_goesIn_126 rfl rfl ft_11_11 sb_11_11 hM126 dX12_goesIn_23 (fun a129 ea129 la129 ua129 => ?_)
      obtain rfl : a129 = (M126.1 98 11).toInt := ea129
      refine y_if_ne C 33 dX12_goesIn_26 (by decide) (by omega) (fun h131 => ?_) (fun h131 => ?_)
      · refine y_iconst C dX12_goesIn_33 ?_
        exact hret _ _ _ _ dX12_goesIn_34 ⟨0, rfl, hM126, ((FR.rf.tr fM116 (by decide)).tr fM126 (by decide)), by omega⟩
      · refine y_iconst C dX12_goesIn_29 ?_
        refine j_goto C 34 dX12_goesIn_30 (by decide) ?_
        exact hret _ _ _ _ dX12_goesIn_34 ⟨1, rfl, hM126, ((FR.rf.tr fM116 (by decide)).tr fM126 (by decide)), by omega⟩
set_option maxHeartbeats 4000000 in
theorem s5_X12_goesIn {l : Launch} {dC : Nat → ClassId} {dI : Nat → Nat → Nat} {ad : Nat → Nat} {cA : Nat → ClassId} {pr : Nat → Nat → Bool} {Kz : mm_M} {M0 : mm_M} (hM0 : INV pr Kz M0) (hpr : PM pr)  (hp0 : (M0.1 98 6).toInt ≤ (M0.1 98 7).toInt ∧ (M0.1 98 7).toInt ≤ (M0.1 98 8).toInt ∧ (M0.1 98 8).toInt ≤ 900 ∧ ((M0.1 98 9).toInt = 24 ∨ (M0.1 98 6).toInt < (M0.1 98 7).toInt)) (hp1 : b01 (PI M0) = 1) : Ci l 6 yX12_goesIn wsX12_goesIn dC dI ad cA [.ref (ad 98), .int (sI 4)] M0 (fun r M' => ∃ a : Int, r = sI a ∧ INV pr Kz M' ∧ FR [98] M0 M' ∧ 0 ≤ a ∧ a ≤ 1 ∧ ((M'.1 98 6).toInt ≤ (M'.1 98 7).toInt ∧ (M'.1 98 7).toInt ≤ (M'.1 98 8).toInt ∧ (M'.1 98 8).toInt ≤ 900 ∧ ((M'.1 98 9).toInt = 24 ∨ (M'.1 98 6).toInt < (M'.1 98 7).toInt)) ∧ ((M'.1 98 8).toInt = (M0.1 98 8).toInt) ∧ ((M0.1 98 6).toInt ≤ (M'.1 98 6).toInt) ∧ (a = 0 ∧ ¬ (M'.1 98 11).toInt = 0 ∨ a = 1 ∧ (M'.1 98 11).toInt = 0 ∧ (M0.1 98 11).toInt = 0 ∧ (M0.1 98 7).toInt ≤ (M'.1 98 6).toInt) ∧ (b01 (PI M') = 1)) := by
  refine ci_of (cc := cX12_goesIn) (maxL := 2) (ty := .boolean) (lv := [(0, .ref (ad 98)), (1, .int (sI 4))]) (by decide) rfl (fun r M' hp => by obtain ⟨a, rfl, -, h⟩ := hp; rcases (show a = 0 ∨ a = 1 by omega) with rfl | rfl <;> rfl) (Nat.le_of_ble_eq_true rfl) rfl ?_
  intro p e s m args below meth c A Q C hret
  refine j_iload_n C 1 1 dX12_goesIn_0 rfl rfl ?_
  refine y_bipush C dX12_goesIn_1 rfl ?_
  refine y_icmp_ne C 11 dX12_goesIn_3 (by decide) (by omega) (fun h101 => ?_) (fun h101 => ?_)
  · refine j_aload_n C 0 0 dX12_goesIn_11 rfl rfl ?_
    refine y_getI C 11 _ _ fX12_goesIn_126 rfl rfl ft_11_11 sb_11_11 hM0 dX12_goesIn_12 (fun a102 ea102 la102 ua102 => ?_)
    obtain rfl : a102 = (M0.1 98 11).toInt := ea102
    refine y_if_ne C 22 dX12_goesIn_15 (by decide) (by omega) (fun h104 => ?_) (fun h104 => ?_)
    · refine j_aload_n C 0 0 dX12_goesIn_22 rfl rfl ?_
      refine y_getI C 11 _ _ fX12_goesIn_126 rfl rfl ft_11_11 sb_11_11 hM0 dX12_goesIn_23 (fun a105 ea105 la105 ua105 => ?_)
      obtain rfl : a105 = (M0.1 98 11).toInt := ea105
      refine y_if_ne C 33 dX12_goesIn_26 (by decide) (by omega) (fun h107 => ?_) (fun h107 => ?_)
      · refine y_iconst C dX12_goesIn_33 ?_
        exact hret _ _ _ _ dX12_goesIn_34 ⟨0, rfl, hM0, FR.rf, by omega⟩
      · exfalso; omega
    · refine j_aload_n C 0 0 dX12_goesIn_18 rfl rfl ?_
      refine j_callVv C (d := 5) (As := []) (st := []) 98 (s_lt rfl rfl) (s_kc (c := 11) rfl rfl) (by decide) rfl (s1_X12_next hM0 hpr (by omega) (by omega) (by omega)) gX12_goesIn_X12_next rfl hdX12_next (by decide) (Nat.le_of_ble_eq_true rfl) dX12_goesIn_19 rfl (fun M109 h110 => ?_)
      obtain ⟨hM109, fM109, h111⟩ := h110
      refine j_aload_n C 0 0 dX12_goesIn_22 rfl rfl ?_
      refine y_getI C 11 _ _ fX12_goesIn_126 rfl rfl ft_11_11 sb_11_11 hM109 dX12_goesIn_23 (fun a112 ea112 la112 ua112 => ?_)
      obtain rfl : a112 = (M109.1 98 11).toInt := ea112
      refine y_if_ne C 33 dX12_goesIn_26 (by decide) (by omega) (fun h114 => ?_) (fun h114 => ?_)
      · refine y_iconst C dX12_goesIn_33 ?_
        exact hret _ _ _ _ dX12_goesIn_34 ⟨0, rfl, hM109, (FR.rf.tr fM109 (by decide)), by omega⟩
      · refine y_iconst C dX12_goesIn_29 ?_
        refine j_goto C 34 dX12_goesIn_30 (by decide) ?_
        exact hret _ _ _ _ dX12_goesIn_34 ⟨1, rfl, hM109, (FR.rf.tr fM109 (by decide)), by omega⟩
  · refine j_aload_n C 0 0 dX12_goesIn_6 rfl rfl ?_
    refine y_iconst C dX12_goesIn_7 ?_
    refine j_callVv C (d := 0) (As := [.int (sI 4)]) (st := []) 98 (s_lt rfl rfl) (s_kc (c := 11) rfl rfl) (by decide) rfl (s1_X12_fails hM0 hpr 4 (by omega) (by omega) (by omega)) gX12_goesIn_X12_fails rfl hdX12_fails (by decide) (Nat.le_of_ble_eq_true rfl) dX12_goesIn_8 rfl (fun M116 h117 => ?_)
    obtain ⟨hM116, fM116, h118⟩ := h117
    refine j_aload_n C 0 0 dX12_goesIn_11 rfl rfl ?_
    refine y_getI C 11 _ _ fX12_goesIn_126 rfl rfl ft_11_11 sb_11_11 hM116 dX12_goesIn_12 (fun a119 ea119 la119 ua119 => ?_)
    obtain rfl : a119 = (M116.1 98 11).toInt := ea119
    refine y_if_ne C 22 dX12_goesIn_15 (by decide) (by omega) (fun h121 => ?_) (fun h121 => ?_)
    · refine j_aload_n C 0 0 dX12_goesIn_22 rfl rfl ?_
      refine y_getI C 11 _ _ fX12_goesIn_126 rfl rfl ft_11_11 sb_11_11 hM116 dX12_goesIn_23 (fun a122 ea122 la122 ua122 => ?_)
      obtain rfl : a122 = (M116.1 98 11).toInt := ea122
      refine y_if_ne C 33 dX12_goesIn_26 (by decide) (by omega) (fun h124 => ?_) (fun h124 => ?_)
      · refine y_iconst C dX12_goesIn_33 ?_
        exact hret _ _ _ _ dX12_goesIn_34 ⟨0, rfl, hM116, (FR.rf.tr fM116 (by decide)), by omega⟩
      · exfalso; omega
    · refine j_aload_n C 0 0 dX12_goesIn_18 rfl rfl ?_
      refine j_callVv C (d := 5) (As := []) (st := []) 98 (s_lt rfl rfl) (s_kc (c := 11) rfl rfl) (by decide) rfl (s1_X12_next hM116 hpr (by omega) (by omega) (by omega)) gX12_goesIn_X12_next rfl hdX12_next (by decide) (Nat.le_of_ble_eq_true rfl) dX12_goesIn_19 rfl (fun M126 h127 => ?_)
      obtain ⟨hM126, fM126, h128⟩ := h127
      refine j_aload_n C 0 0 dX12_goesIn_22 rfl rfl ?_
      refine y_getI C 11 _ _ fX12_goesIn_126 rfl rfl ft_11_11 sb_11_11 hM126 dX12_goesIn_23 (fun a129 ea129 la129 ua129 => ?_)
      obtain rfl : a129 = (M126.1 98 11).toInt := ea129
      refine y_if_ne C 33 dX12_goesIn_26 (by decide) (by omega) (fun h131 => ?_) (fun h131 => ?_)
      · refine y_iconst C dX12_goesIn_33 ?_
        exact hret _ _ _ _ dX12_goesIn_34 ⟨0, rfl, hM126, ((FR.rf.tr fM116 (by decide)).tr fM126 (by decide)), by omega⟩
      · refine y_iconst C dX12_goesIn_29 ?_
        refine j_goto C 34 dX12_goesIn_30 (by decide) ?_
        exact hret _ _ _ _ dX12_goesIn_34 ⟨1, rfl, hM126, ((FR.rf.tr fM116 (by decide)).tr fM126 (by decide)), by omega⟩
set_option maxHeartbeats 4000000 in
theorem s6_X12_goesIn {l : Launch} {dC : Nat → ClassId} {dI : Nat → Nat → Nat} {ad : Nat → Nat} {cA : Nat → ClassId} {pr : Nat → Nat → Bool} {Kz : mm_M} {M0 : mm_M} (hM0 : INV pr Kz M0) (hpr : PM pr)  (hp0 : (M0.1 98 6).toInt ≤ (M0.1 98 7).toInt ∧ (M0.1 98 7).toInt ≤ (M0.1 98 8).toInt ∧ (M0.1 98 8).toInt ≤ 900 ∧ ((M0.1 98 9).toInt = 24 ∨ (M0.1 98 6).toInt < (M0.1 98 7).toInt)) (hp1 : b01 (PI M0) = 1) : Ci l 6 yX12_goesIn wsX12_goesIn dC dI ad cA [.ref (ad 98), .int (sI 5)] M0 (fun r M' => ∃ a : Int, r = sI a ∧ INV pr Kz M' ∧ FR [98] M0 M' ∧ 0 ≤ a ∧ a ≤ 1 ∧ ((M'.1 98 6).toInt ≤ (M'.1 98 7).toInt ∧ (M'.1 98 7).toInt ≤ (M'.1 98 8).toInt ∧ (M'.1 98 8).toInt ≤ 900 ∧ ((M'.1 98 9).toInt = 24 ∨ (M'.1 98 6).toInt < (M'.1 98 7).toInt)) ∧ ((M'.1 98 8).toInt = (M0.1 98 8).toInt) ∧ ((M0.1 98 6).toInt ≤ (M'.1 98 6).toInt) ∧ (a = 0 ∧ ¬ (M'.1 98 11).toInt = 0 ∨ a = 1 ∧ (M'.1 98 11).toInt = 0 ∧ (M0.1 98 11).toInt = 0 ∧ (M0.1 98 7).toInt ≤ (M'.1 98 6).toInt) ∧ (b01 (PI M') = 1)) := by
  refine ci_of (cc := cX12_goesIn) (maxL := 2) (ty := .boolean) (lv := [(0, .ref (ad 98)), (1, .int (sI 5))]) (by decide) rfl (fun r M' hp => by obtain ⟨a, rfl, -, h⟩ := hp; rcases (show a = 0 ∨ a = 1 by omega) with rfl | rfl <;> rfl) (Nat.le_of_ble_eq_true rfl) rfl ?_
  intro p e s m args below meth c A Q C hret
  refine j_iload_n C 1 1 dX12_goesIn_0 rfl rfl ?_
  refine y_bipush C dX12_goesIn_1 rfl ?_
  refine y_icmp_ne C 11 dX12_goesIn_3 (by decide) (by omega) (fun h101 => ?_) (fun h101 => ?_)
  · refine j_aload_n C 0 0 dX12_goesIn_11 rfl rfl ?_
    refine y_getI C 11 _ _ fX12_goesIn_126 rfl rfl ft_11_11 sb_11_11 hM0 dX12_goesIn_12 (fun a102 ea102 la102 ua102 => ?_)
    obtain rfl : a102 = (M0.1 98 11).toInt := ea102
    refine y_if_ne C 22 dX12_goesIn_15 (by decide) (by omega) (fun h104 => ?_) (fun h104 => ?_)
    · refine j_aload_n C 0 0 dX12_goesIn_22 rfl rfl ?_
      refine y_getI C 11 _ _ fX12_goesIn_126 rfl rfl ft_11_11 sb_11_11 hM0 dX12_goesIn_23 (fun a105 ea105 la105 ua105 => ?_)
      obtain rfl : a105 = (M0.1 98 11).toInt := ea105
      refine y_if_ne C 33 dX12_goesIn_26 (by decide) (by omega) (fun h107 => ?_) (fun h107 => ?_)
      · refine y_iconst C dX12_goesIn_33 ?_
        exact hret _ _ _ _ dX12_goesIn_34 ⟨0, rfl, hM0, FR.rf, by omega⟩
      · exfalso; omega
    · refine j_aload_n C 0 0 dX12_goesIn_18 rfl rfl ?_
      refine j_callVv C (d := 5) (As := []) (st := []) 98 (s_lt rfl rfl) (s_kc (c := 11) rfl rfl) (by decide) rfl (s1_X12_next hM0 hpr (by omega) (by omega) (by omega)) gX12_goesIn_X12_next rfl hdX12_next (by decide) (Nat.le_of_ble_eq_true rfl) dX12_goesIn_19 rfl (fun M109 h110 => ?_)
      obtain ⟨hM109, fM109, h111⟩ := h110
      refine j_aload_n C 0 0 dX12_goesIn_22 rfl rfl ?_
      refine y_getI C 11 _ _ fX12_goesIn_126 rfl rfl ft_11_11 sb_11_11 hM109 dX12_goesIn_23 (fun a112 ea112 la112 ua112 => ?_)
      obtain rfl : a112 = (M109.1 98 11).toInt := ea112
      refine y_if_ne C 33 dX12_goesIn_26 (by decide) (by omega) (fun h114 => ?_) (fun h114 => ?_)
      · refine y_iconst C dX12_goesIn_33 ?_
        exact hret _ _ _ _ dX12_goesIn_34 ⟨0, rfl, hM109, (FR.rf.tr fM109 (by decide)), by omega⟩
      · refine y_iconst C dX12_goesIn_29 ?_
        refine j_goto C 34 dX12_goesIn_30 (by decide) ?_
        exact hret _ _ _ _ dX12_goesIn_34 ⟨1, rfl, hM109, (FR.rf.tr fM109 (by decide)), by omega⟩
  · refine j_aload_n C 0 0 dX12_goesIn_6 rfl rfl ?_
    refine y_iconst C dX12_goesIn_7 ?_
    refine j_callVv C (d := 0) (As := [.int (sI 4)]) (st := []) 98 (s_lt rfl rfl) (s_kc (c := 11) rfl rfl) (by decide) rfl (s1_X12_fails hM0 hpr 4 (by omega) (by omega) (by omega)) gX12_goesIn_X12_fails rfl hdX12_fails (by decide) (Nat.le_of_ble_eq_true rfl) dX12_goesIn_8 rfl (fun M116 h117 => ?_)
    obtain ⟨hM116, fM116, h118⟩ := h117
    refine j_aload_n C 0 0 dX12_goesIn_11 rfl rfl ?_
    refine y_getI C 11 _ _ fX12_goesIn_126 rfl rfl ft_11_11 sb_11_11 hM116 dX12_goesIn_12 (fun a119 ea119 la119 ua119 => ?_)
    obtain rfl : a119 = (M116.1 98 11).toInt := ea119
    refine y_if_ne C 22 dX12_goesIn_15 (by decide) (by omega) (fun h121 => ?_) (fun h121 => ?_)
    · refine j_aload_n C 0 0 dX12_goesIn_22 rfl rfl ?_
      refine y_getI C 11 _ _ fX12_goesIn_126 rfl rfl ft_11_11 sb_11_11 hM116 dX12_goesIn_23 (fun a122 ea122 la122 ua122 => ?_)
      obtain rfl : a122 = (M116.1 98 11).toInt := ea122
      refine y_if_ne C 33 dX12_goesIn_26 (by decide) (by omega) (fun h124 => ?_) (fun h124 => ?_)
      · refine y_iconst C dX12_goesIn_33 ?_
        exact hret _ _ _ _ dX12_goesIn_34 ⟨0, rfl, hM116, (FR.rf.tr fM116 (by decide)), by omega⟩
      · exfalso; omega
    · refine j_aload_n C 0 0 dX12_goesIn_18 rfl rfl ?_
      refine j_callVv C (d := 5) (As := []) (st := []) 98 (s_lt rfl rfl) (s_kc (c := 11) rfl rfl) (by decide) rfl (s1_X12_next hM116 hpr (by omega) (by omega) (by omega)) gX12_goesIn_X12_next rfl hdX12_next (by decide) (Nat.le_of_ble_eq_true rfl) dX12_goesIn_19 rfl (fun M126 h127 => ?_)
      obtain ⟨hM126, fM126, h128⟩ := h127
      refine j_aload_n C 0 0 dX12_goesIn_22 rfl rfl ?_
      refine y_getI C 11 _ _ fX12_goesIn_126 rfl rfl ft_11_11 sb_11_11 hM126 dX12_goesIn_23 (fun a129 ea129 la129 ua129 => ?_)
      obtain rfl : a129 = (M126.1 98 11).toInt := ea129
      refine y_if_ne C 33 dX12_goesIn_26 (by decide) (by omega) (fun h131 => ?_) (fun h131 => ?_)
      · refine y_iconst C dX12_goesIn_33 ?_
        exact hret _ _ _ _ dX12_goesIn_34 ⟨0, rfl, hM126, ((FR.rf.tr fM116 (by decide)).tr fM126 (by decide)), by omega⟩
      · refine y_iconst C dX12_goesIn_29 ?_
        refine j_goto C 34 dX12_goesIn_30 (by decide) ?_
        exact hret _ _ _ _ dX12_goesIn_34 ⟨1, rfl, hM126, ((FR.rf.tr fM116 (by decide)).tr fM126 (by decide)), by omega⟩
set_option maxHeartbeats 4000000 in
theorem s7_X12_goesIn {l : Launch} {dC : Nat → ClassId} {dI : Nat → Nat → Nat} {ad : Nat → Nat} {cA : Nat → ClassId} {pr : Nat → Nat → Bool} {Kz : mm_M} {M0 : mm_M} (hM0 : INV pr Kz M0) (hpr : PM pr)  (hp0 : (M0.1 98 6).toInt ≤ (M0.1 98 7).toInt ∧ (M0.1 98 7).toInt ≤ (M0.1 98 8).toInt ∧ (M0.1 98 8).toInt ≤ 900 ∧ ((M0.1 98 9).toInt = 24 ∨ (M0.1 98 6).toInt < (M0.1 98 7).toInt)) (hp1 : b01 (PI M0) = 1) : Ci l 6 yX12_goesIn wsX12_goesIn dC dI ad cA [.ref (ad 98), .int (sI 6)] M0 (fun r M' => ∃ a : Int, r = sI a ∧ INV pr Kz M' ∧ FR [98] M0 M' ∧ 0 ≤ a ∧ a ≤ 0 ∧ ((M'.1 98 6).toInt ≤ (M'.1 98 7).toInt ∧ (M'.1 98 7).toInt ≤ (M'.1 98 8).toInt ∧ (M'.1 98 8).toInt ≤ 900 ∧ ((M'.1 98 9).toInt = 24 ∨ (M'.1 98 6).toInt < (M'.1 98 7).toInt)) ∧ ((M'.1 98 8).toInt = (M0.1 98 8).toInt) ∧ ((M0.1 98 6).toInt ≤ (M'.1 98 6).toInt) ∧ (a = 0 ∧ ¬ (M'.1 98 11).toInt = 0 ∨ a = 1 ∧ (M'.1 98 11).toInt = 0 ∧ (M0.1 98 11).toInt = 0 ∧ (M0.1 98 7).toInt ≤ (M'.1 98 6).toInt) ∧ (b01 (PI M') = 1)) := by
  refine ci_of (cc := cX12_goesIn) (maxL := 2) (ty := .boolean) (lv := [(0, .ref (ad 98)), (1, .int (sI 6))]) (by decide) rfl (fun r M' hp => by obtain ⟨a, rfl, -, h⟩ := hp; rcases (show a = 0 ∨ a = 1 by omega) with rfl | rfl <;> rfl) (Nat.le_of_ble_eq_true rfl) rfl ?_
  intro p e s m args below meth c A Q C hret
  refine j_iload_n C 1 1 dX12_goesIn_0 rfl rfl ?_
  refine y_bipush C dX12_goesIn_1 rfl ?_
  refine y_icmp_ne C 11 dX12_goesIn_3 (by decide) (by omega) (fun h101 => ?_) (fun h101 => ?_)
  · exfalso; omega
  · refine j_aload_n C 0 0 dX12_goesIn_6 rfl rfl ?_
    refine y_iconst C dX12_goesIn_7 ?_
    refine j_callVv C (d := 0) (As := [.int (sI 4)]) (st := []) 98 (s_lt rfl rfl) (s_kc (c := 11) rfl rfl) (by decide) rfl (s1_X12_fails hM0 hpr 4 (by omega) (by omega) (by omega)) gX12_goesIn_X12_fails rfl hdX12_fails (by decide) (Nat.le_of_ble_eq_true rfl) dX12_goesIn_8 rfl (fun M103 h104 => ?_)
    obtain ⟨hM103, fM103, h105⟩ := h104
    refine j_aload_n C 0 0 dX12_goesIn_11 rfl rfl ?_
    refine y_getI C 11 _ _ fX12_goesIn_126 rfl rfl ft_11_11 sb_11_11 hM103 dX12_goesIn_12 (fun a106 ea106 la106 ua106 => ?_)
    obtain rfl : a106 = (M103.1 98 11).toInt := ea106
    refine y_if_ne C 22 dX12_goesIn_15 (by decide) (by omega) (fun h108 => ?_) (fun h108 => ?_)
    · refine j_aload_n C 0 0 dX12_goesIn_22 rfl rfl ?_
      refine y_getI C 11 _ _ fX12_goesIn_126 rfl rfl ft_11_11 sb_11_11 hM103 dX12_goesIn_23 (fun a109 ea109 la109 ua109 => ?_)
      obtain rfl : a109 = (M103.1 98 11).toInt := ea109
      refine y_if_ne C 33 dX12_goesIn_26 (by decide) (by omega) (fun h111 => ?_) (fun h111 => ?_)
      · refine y_iconst C dX12_goesIn_33 ?_
        exact hret _ _ _ _ dX12_goesIn_34 ⟨0, rfl, hM103, (FR.rf.tr fM103 (by decide)), by omega⟩
      · exfalso; omega
    · refine j_aload_n C 0 0 dX12_goesIn_18 rfl rfl ?_
      refine j_callVv C (d := 5) (As := []) (st := []) 98 (s_lt rfl rfl) (s_kc (c := 11) rfl rfl) (by decide) rfl (s1_X12_next hM103 hpr (by omega) (by omega) (by omega)) gX12_goesIn_X12_next rfl hdX12_next (by decide) (Nat.le_of_ble_eq_true rfl) dX12_goesIn_19 rfl (fun M113 h114 => ?_)
      obtain ⟨hM113, fM113, h115⟩ := h114
      refine j_aload_n C 0 0 dX12_goesIn_22 rfl rfl ?_
      refine y_getI C 11 _ _ fX12_goesIn_126 rfl rfl ft_11_11 sb_11_11 hM113 dX12_goesIn_23 (fun a116 ea116 la116 ua116 => ?_)
      obtain rfl : a116 = (M113.1 98 11).toInt := ea116
      refine y_if_ne C 33 dX12_goesIn_26 (by decide) (by omega) (fun h118 => ?_) (fun h118 => ?_)
      · refine y_iconst C dX12_goesIn_33 ?_
        exact hret _ _ _ _ dX12_goesIn_34 ⟨0, rfl, hM113, ((FR.rf.tr fM103 (by decide)).tr fM113 (by decide)), by omega⟩
      · refine y_iconst C dX12_goesIn_29 ?_
        refine j_goto C 34 dX12_goesIn_30 (by decide) ?_
        exact hret _ _ _ _ dX12_goesIn_34 ⟨1, rfl, hM113, ((FR.rf.tr fM103 (by decide)).tr fM113 (by decide)), by omega⟩
set_option maxHeartbeats 4000000 in
theorem s1_X12_wordOf {l : Launch} {dC : Nat → ClassId} {dI : Nat → Nat → Nat} {ad : Nat → Nat} {cA : Nat → ClassId} {pr : Nat → Nat → Bool} {Kz : mm_M} {M0 : mm_M} (hM0 : INV pr Kz M0) (a1 : Int) (ha1 : -2147483648 ≤ a1 ∧ a1 ≤ 2147483647) : Ci l 0 yX12_wordOf wsX12_wordOf dC dI ad cA [.ref (ad 98), .int (sI a1)] M0 (fun r M' => ∃ a : Int, r = sI a ∧ M0 = M' ∧ (-1) ≤ a ∧ a ≤ 7 ∧ (a = (woF a1))) := by
  refine ci_of (cc := cX12_wordOf) (maxL := 2) (ty := .int) (lv := [(0, .ref (ad 98)), (1, .int (sI a1))]) (by decide) rfl (fun r M' hp => rfl) (Nat.le_of_ble_eq_true rfl) rfl ?_
  intro p e s m args below meth c A Q C hret
  refine j_iload_n C 1 1 dX12_wordOf_0 rfl rfl ?_
  rcases (show (a1 < 1 ∨ 13 < a1) ∨ a1 = 1 ∨ a1 = 2 ∨ a1 = 3 ∨ a1 = 4 ∨ a1 = 5 ∨ a1 = 6 ∨ a1 = 7 ∨ a1 = 8 ∨ a1 = 9 ∨ a1 = 10 ∨ a1 = 11 ∨ a1 = 12 ∨ a1 = 13 by omega) with h101 | h101 | h101 | h101 | h101 | h101 | h101 | h101 | h101 | h101 | h101 | h101 | h101 | h101
  · refine y_tabO C 86 dX12_wordOf_1 (by decide) (by omega) ?_
    refine y_iconst C dX12_wordOf_86 ?_
    have u102 := woF_s a1
    exact hret _ _ _ _ dX12_wordOf_87 ⟨(-1), rfl, rfl, by omega⟩
  · refine y_tabI C (off := 73) 74 1 dX12_wordOf_1 (by decide) rfl (by decide) h101 ?_
    refine y_iconst C dX12_wordOf_74 ?_
    have u103 := woF_s a1
    exact hret _ _ _ _ dX12_wordOf_75 ⟨3, rfl, rfl, by omega⟩
  · refine y_tabI C (off := 75) 76 2 dX12_wordOf_1 (by decide) rfl (by decide) h101 ?_
    refine y_iconst C dX12_wordOf_76 ?_
    have u104 := woF_s a1
    exact hret _ _ _ _ dX12_wordOf_77 ⟨4, rfl, rfl, by omega⟩
  · refine y_tabI C (off := 77) 78 3 dX12_wordOf_1 (by decide) rfl (by decide) h101 ?_
    refine y_iconst C dX12_wordOf_78 ?_
    have u105 := woF_s a1
    exact hret _ _ _ _ dX12_wordOf_79 ⟨5, rfl, rfl, by omega⟩
  · refine y_tabI C (off := 82) 83 4 dX12_wordOf_1 (by decide) rfl (by decide) h101 ?_
    refine y_bipush C dX12_wordOf_83 rfl ?_
    have u106 := woF_s a1
    exact hret _ _ _ _ dX12_wordOf_85 ⟨7, rfl, rfl, by omega⟩
  · refine y_tabI C (off := 85) 86 5 dX12_wordOf_1 (by decide) rfl (by decide) h101 ?_
    refine y_iconst C dX12_wordOf_86 ?_
    have u107 := woF_s a1
    exact hret _ _ _ _ dX12_wordOf_87 ⟨(-1), rfl, rfl, by omega⟩
  · refine y_tabI C (off := 85) 86 6 dX12_wordOf_1 (by decide) rfl (by decide) h101 ?_
    refine y_iconst C dX12_wordOf_86 ?_
    have u108 := woF_s a1
    exact hret _ _ _ _ dX12_wordOf_87 ⟨(-1), rfl, rfl, by omega⟩
  · refine y_tabI C (off := 69) 70 7 dX12_wordOf_1 (by decide) rfl (by decide) h101 ?_
    refine y_iconst C dX12_wordOf_70 ?_
    have u109 := woF_s a1
    exact hret _ _ _ _ dX12_wordOf_71 ⟨1, rfl, rfl, by omega⟩
  · refine y_tabI C (off := 71) 72 8 dX12_wordOf_1 (by decide) rfl (by decide) h101 ?_
    refine y_iconst C dX12_wordOf_72 ?_
    have u110 := woF_s a1
    exact hret _ _ _ _ dX12_wordOf_73 ⟨2, rfl, rfl, by omega⟩
  · refine y_tabI C (off := 85) 86 9 dX12_wordOf_1 (by decide) rfl (by decide) h101 ?_
    refine y_iconst C dX12_wordOf_86 ?_
    have u111 := woF_s a1
    exact hret _ _ _ _ dX12_wordOf_87 ⟨(-1), rfl, rfl, by omega⟩
  · refine y_tabI C (off := 85) 86 10 dX12_wordOf_1 (by decide) rfl (by decide) h101 ?_
    refine y_iconst C dX12_wordOf_86 ?_
    have u112 := woF_s a1
    exact hret _ _ _ _ dX12_wordOf_87 ⟨(-1), rfl, rfl, by omega⟩
  · refine y_tabI C (off := 85) 86 11 dX12_wordOf_1 (by decide) rfl (by decide) h101 ?_
    refine y_iconst C dX12_wordOf_86 ?_
    have u113 := woF_s a1
    exact hret _ _ _ _ dX12_wordOf_87 ⟨(-1), rfl, rfl, by omega⟩
  · refine y_tabI C (off := 67) 68 12 dX12_wordOf_1 (by decide) rfl (by decide) h101 ?_
    refine y_iconst C dX12_wordOf_68 ?_
    have u114 := woF_s a1
    exact hret _ _ _ _ dX12_wordOf_69 ⟨0, rfl, rfl, by omega⟩
  · refine y_tabI C (off := 79) 80 13 dX12_wordOf_1 (by decide) rfl (by decide) h101 ?_
    refine y_bipush C dX12_wordOf_80 rfl ?_
    have u115 := woF_s a1
    exact hret _ _ _ _ dX12_wordOf_82 ⟨6, rfl, rfl, by omega⟩
set_option maxHeartbeats 4000000 in
theorem s1_X12_readAtom {l : Launch} {dC : Nat → ClassId} {dI : Nat → Nat → Nat} {ad : Nat → Nat} {cA : Nat → ClassId} {pr : Nat → Nat → Bool} {Kz : mm_M} {M0 : mm_M} (hM0 : INV pr Kz M0) (hpr : PM pr)  (hp0 : (M0.1 98 6).toInt ≤ (M0.1 98 7).toInt ∧ (M0.1 98 7).toInt ≤ (M0.1 98 8).toInt ∧ (M0.1 98 8).toInt ≤ 900 ∧ ((M0.1 98 9).toInt = 24 ∨ (M0.1 98 6).toInt < (M0.1 98 7).toInt)) (hp1 : ¬ (M0.1 98 11).toInt = 0 ∨ (M0.1 102 280).toInt ≤ (M0.1 98 6).toInt) (hp2 : 0 ≤ (M0.1 102 280).toInt) (hp3 : b01 (PI M0) = 1) : Cv l 7 yX12_readAtom wsX12_readAtom dC dI ad cA [.ref (ad 98), .int (sI 6)] M0 (fun M' => INV pr Kz M' ∧ FR [98, 102] M0 M' ∧ ((M'.1 98 6).toInt ≤ (M'.1 98 7).toInt ∧ (M'.1 98 7).toInt ≤ (M'.1 98 8).toInt ∧ (M'.1 98 8).toInt ≤ 900 ∧ ((M'.1 98 9).toInt = 24 ∨ (M'.1 98 6).toInt < (M'.1 98 7).toInt)) ∧ ((M'.1 98 8).toInt = (M0.1 98 8).toInt) ∧ ((M0.1 98 6).toInt ≤ (M'.1 98 6).toInt) ∧ (0 ≤ (M'.1 102 280).toInt) ∧ (¬ (M'.1 98 11).toInt = 0 ∨ (M0.1 98 11).toInt = 0 ∧ (M'.1 102 280).toInt - (M'.1 98 6).toInt + 0 ≤ (M0.1 102 280).toInt - (M0.1 98 6).toInt ∧ (M0.1 102 280).toInt ≤ (M'.1 102 280).toInt ∧ b01 (EXT M0 M' 0 1) = 1) ∧ (b01 (PI M') = 1)) := by
  refine cv_of (cc := cX12_readAtom) (maxL := 2) (lv := [(0, .ref (ad 98)), (1, .int (sI 6))]) (by decide) rfl (Nat.le_of_ble_eq_true rfl) rfl ?_
  intro p e s m args below meth c A Q C hret
  have u101z := ex_0 M0
  have u101n := INV.rd hM0 (i := 102) (c := 48) (k := 280) rfl rfl
  refine j_aload_n C 0 0 dX12_readAtom_0 rfl rfl ?_
  refine y_bipush C dX12_readAtom_1 rfl ?_
  refine j_callVi C (d := 0) (As := [.int (sI 23)]) (st := []) 98 (s_lt rfl rfl) (s_kc (c := 11) rfl rfl) (by decide) rfl (s1_X12_is hM0 23 (by omega)) gX12_readAtom_X12_is rfl hdX12_is (by decide) (Nat.le_of_ble_eq_true rfl) dX12_readAtom_3 rfl (fun r102 M103 h104 => ?_)
  obtain ⟨a106, rfl, rfl, h105⟩ := h104
  refine y_if_eq C 24 dX12_readAtom_6 (by decide) (by omega) (fun h107 => ?_) (fun h107 => ?_)
  · refine j_aload_n C 0 0 dX12_readAtom_24 rfl rfl ?_
    refine y_getI C 11 _ _ fX12_readAtom_126 rfl rfl ft_11_11 sb_11_11 hM0 dX12_readAtom_25 (fun a108 ea108 la108 ua108 => ?_)
    obtain rfl : a108 = (M0.1 98 11).toInt := ea108
    refine y_if_ne C 66 dX12_readAtom_28 (by decide) (by omega) (fun h110 => ?_) (fun h110 => ?_)
    · refine j_aload_n C 0 0 dX12_readAtom_66 rfl rfl ?_
      refine y_bipush C dX12_readAtom_67 rfl ?_
      refine j_callVi C (d := 0) (As := [.int (sI 35)]) (st := []) 98 (s_lt rfl rfl) (s_kc (c := 11) rfl rfl) (by decide) rfl (s1_X12_is hM0 35 (by omega)) gX12_readAtom_X12_is rfl hdX12_is (by decide) (Nat.le_of_ble_eq_true rfl) dX12_readAtom_69 rfl (fun r111 M112 h113 => ?_)
      obtain ⟨a115, rfl, rfl, h114⟩ := h113
      refine y_if_eq C 108 dX12_readAtom_72 (by decide) (by omega) (fun h116 => ?_) (fun h116 => ?_)
      · refine j_aload_n C 0 0 dX12_readAtom_108 rfl rfl ?_
        refine y_iconst C dX12_readAtom_109 ?_
        refine j_callVv C (d := 0) (As := [.int (sI 2)]) (st := []) 98 (s_lt rfl rfl) (s_kc (c := 11) rfl rfl) (by decide) rfl (s1_X12_fails hM0 hpr 2 (by omega) (by omega) (by omega)) gX12_readAtom_X12_fails rfl hdX12_fails (by decide) (Nat.le_of_ble_eq_true rfl) dX12_readAtom_110 rfl (fun M118 h119 => ?_)
        obtain ⟨hM118, fM118, h120⟩ := h119
        have u121c := fun h => ex_c (M := M0) (N := M0) (P := M118) (r := 0) (e := 1) (FR.cell fM118 (by decide)) h
        have u121d := fun h => ex_c (M := M0) (N := M0) (P := M118) (r := 0) (e := 0) (FR.cell fM118 (by decide)) h
        have u121n := INV.rd hM118 (i := 102) (c := 48) (k := 280) rfl rfl
        have zz102_280 : (M118.1 102 280).toInt = (M0.1 102 280).toInt := s_fF fM118 (by decide) (rfl); exact hret _ _ _ dX12_readAtom_113 ⟨hM118, (FR.rf.tr fM118 (by decide)), by omega⟩
      · refine j_aload_n C 0 0 dX12_readAtom_75 rfl rfl ?_
        refine j_iload_n C 1 1 dX12_readAtom_76 rfl rfl ?_
        refine j_callVi C (d := 6) (As := [.int (sI 6)]) (st := []) 98 (s_lt rfl rfl) (s_kc (c := 11) rfl rfl) (by decide) rfl (s7_X12_goesIn hM0 hpr (by omega) (by omega)) gX12_readAtom_X12_goesIn rfl hdX12_goesIn (by decide) (Nat.le_of_ble_eq_true rfl) dX12_readAtom_77 rfl (fun r122 M123 h124 => ?_)
        obtain ⟨a126, rfl, hM123, fM123, h125⟩ := h124
        have u127c := fun h => ex_c (M := M0) (N := M0) (P := M123) (r := 0) (e := 0) (FR.cell fM123 (by decide)) h
        have u127n := INV.rd hM123 (i := 102) (c := 48) (k := 280) rfl rfl
        refine y_if_ne C 84 dX12_readAtom_80 (by decide) (by omega) (fun h128 => ?_) (fun h128 => ?_)
        · exfalso; omega
        · have u129c := fun h => ex_c (M := M0) (N := M0) (P := M123) (r := 0) (e := 1) (FR.cell fM123 (by decide)) h
          have u129d := fun h => ex_c (M := M0) (N := M0) (P := M123) (r := 0) (e := 0) (FR.cell fM123 (by decide)) h
          have u129n := INV.rd hM123 (i := 102) (c := 48) (k := 280) rfl rfl
          have zz102_280 : (M123.1 102 280).toInt = (M0.1 102 280).toInt := s_fF fM123 (by decide) (rfl); exact hret _ _ _ dX12_readAtom_83 ⟨hM123, (FR.rf.tr fM123 (by decide)), by omega⟩
    · refine j_aload_n C 0 0 dX12_readAtom_31 rfl rfl ?_
      refine j_aload_n C 0 0 dX12_readAtom_32 rfl rfl ?_
      refine y_getI C 11 _ _ fX12_readAtom_108 rfl rfl ft_11_9 sb_11_9 hM0 dX12_readAtom_33 (fun a130 ea130 la130 ua130 => ?_)
      obtain rfl : a130 = (M0.1 98 9).toInt := ea130
      refine j_callVi C (d := 0) (As := [.int (sI (M0.1 98 9).toInt)]) (st := []) 98 (s_lt rfl rfl) (s_kc (c := 11) rfl rfl) (by decide) rfl (s1_X12_wordOf hM0 (M0.1 98 9).toInt (by omega)) gX12_readAtom_X12_wordOf rfl hdX12_wordOf (by decide) (Nat.le_of_ble_eq_true rfl) dX12_readAtom_36 rfl (fun r132 M133 h134 => ?_)
      obtain ⟨a136, rfl, rfl, h135⟩ := h134
      obtain rfl : a136 = (woF (M0.1 98 9).toInt) := by omega
      refine y_iconst C dX12_readAtom_39 ?_
      refine y_icmp_eq C 66 dX12_readAtom_40 (by decide) (by omega) (fun h137 => ?_) (fun h137 => ?_)
      · refine j_aload_n C 0 0 dX12_readAtom_66 rfl rfl ?_
        refine y_bipush C dX12_readAtom_67 rfl ?_
        refine j_callVi C (d := 0) (As := [.int (sI 35)]) (st := []) 98 (s_lt rfl rfl) (s_kc (c := 11) rfl rfl) (by decide) rfl (s1_X12_is hM0 35 (by omega)) gX12_readAtom_X12_is rfl hdX12_is (by decide) (Nat.le_of_ble_eq_true rfl) dX12_readAtom_69 rfl (fun r138 M139 h140 => ?_)
        obtain ⟨a142, rfl, rfl, h141⟩ := h140
        refine y_if_eq C 108 dX12_readAtom_72 (by decide) (by omega) (fun h143 => ?_) (fun h143 => ?_)
        · refine j_aload_n C 0 0 dX12_readAtom_108 rfl rfl ?_
          refine y_iconst C dX12_readAtom_109 ?_
          refine j_callVv C (d := 0) (As := [.int (sI 2)]) (st := []) 98 (s_lt rfl rfl) (s_kc (c := 11) rfl rfl) (by decide) rfl (s1_X12_fails hM0 hpr 2 (by omega) (by omega) (by omega)) gX12_readAtom_X12_fails rfl hdX12_fails (by decide) (Nat.le_of_ble_eq_true rfl) dX12_readAtom_110 rfl (fun M145 h146 => ?_)
          obtain ⟨hM145, fM145, h147⟩ := h146
          have u148c := fun h => ex_c (M := M0) (N := M0) (P := M145) (r := 0) (e := 1) (FR.cell fM145 (by decide)) h
          have u148d := fun h => ex_c (M := M0) (N := M0) (P := M145) (r := 0) (e := 0) (FR.cell fM145 (by decide)) h
          have u148n := INV.rd hM145 (i := 102) (c := 48) (k := 280) rfl rfl
          have zz102_280 : (M145.1 102 280).toInt = (M0.1 102 280).toInt := s_fF fM145 (by decide) (rfl); exact hret _ _ _ dX12_readAtom_113 ⟨hM145, (FR.rf.tr fM145 (by decide)), by omega⟩
        · refine j_aload_n C 0 0 dX12_readAtom_75 rfl rfl ?_
          refine j_iload_n C 1 1 dX12_readAtom_76 rfl rfl ?_
          refine j_callVi C (d := 6) (As := [.int (sI 6)]) (st := []) 98 (s_lt rfl rfl) (s_kc (c := 11) rfl rfl) (by decide) rfl (s7_X12_goesIn hM0 hpr (by omega) (by omega)) gX12_readAtom_X12_goesIn rfl hdX12_goesIn (by decide) (Nat.le_of_ble_eq_true rfl) dX12_readAtom_77 rfl (fun r149 M150 h151 => ?_)
          obtain ⟨a153, rfl, hM150, fM150, h152⟩ := h151
          have u154c := fun h => ex_c (M := M0) (N := M0) (P := M150) (r := 0) (e := 0) (FR.cell fM150 (by decide)) h
          have u154n := INV.rd hM150 (i := 102) (c := 48) (k := 280) rfl rfl
          refine y_if_ne C 84 dX12_readAtom_80 (by decide) (by omega) (fun h155 => ?_) (fun h155 => ?_)
          · exfalso; omega
          · have u156c := fun h => ex_c (M := M0) (N := M0) (P := M150) (r := 0) (e := 1) (FR.cell fM150 (by decide)) h
            have u156d := fun h => ex_c (M := M0) (N := M0) (P := M150) (r := 0) (e := 0) (FR.cell fM150 (by decide)) h
            have u156n := INV.rd hM150 (i := 102) (c := 48) (k := 280) rfl rfl
            have zz102_280 : (M150.1 102 280).toInt = (M0.1 102 280).toInt := s_fF fM150 (by decide) (rfl); exact hret _ _ _ dX12_readAtom_83 ⟨hM150, (FR.rf.tr fM150 (by decide)), by omega⟩
      · refine j_aload_n C 0 0 dX12_readAtom_43 rfl rfl ?_
        refine y_sipush C dX12_readAtom_44 rfl ?_
        refine j_aload_n C 0 0 dX12_readAtom_47 rfl rfl ?_
        refine j_aload_n C 0 0 dX12_readAtom_48 rfl rfl ?_
        refine y_getI C 11 _ _ fX12_readAtom_108 rfl rfl ft_11_9 sb_11_9 hM0 dX12_readAtom_49 (fun a157 ea157 la157 ua157 => ?_)
        obtain rfl : a157 = (M0.1 98 9).toInt := ea157
        refine j_callVi C (d := 0) (As := [.int (sI (M0.1 98 9).toInt)]) (st := [.int (sI 1000), .ref (ad 98)]) 98 (s_lt rfl rfl) (s_kc (c := 11) rfl rfl) (by decide) rfl (s1_X12_wordOf hM0 (M0.1 98 9).toInt (by omega)) gX12_readAtom_X12_wordOf rfl hdX12_wordOf (by decide) (Nat.le_of_ble_eq_true rfl) dX12_readAtom_52 rfl (fun r159 M160 h161 => ?_)
        obtain ⟨a163, rfl, rfl, h162⟩ := h161
        obtain rfl : a163 = (woF (M0.1 98 9).toInt) := by omega
        refine y_iadd C dX12_readAtom_55 ?_
        refine j_callVv C (d := 0) (As := [.int (sI (1000 + (woF (M0.1 98 9).toInt)))]) (st := []) 98 (s_lt rfl rfl) (s_kc (c := 11) rfl rfl) (by decide) rfl (s1_X12_codes hM0 hpr (1000 + (woF (M0.1 98 9).toInt)) (by omega) (by omega) (by omega)) gX12_readAtom_X12_codes rfl hdX12_codes (by decide) (Nat.le_of_ble_eq_true rfl) dX12_readAtom_56 rfl (fun M165 h166 => ?_)
        obtain ⟨hM165, fM165, h167⟩ := h166
        have u168n := INV.rd hM165 (i := 102) (c := 48) (k := 280) rfl rfl
        have u168p := fun h => ap_push (M := M0) (N := M165) (c := (1000 + (woF (M0.1 98 9).toInt))) (by omega) h
        have u168t := fun h1 h2 => ex_tr (M := M0) (N := M0) (P := M165) (r1 := 0) (e1 := 0) (r2 := 0) (e2 := 1) (r := 0) (e := 1) (by decide) h1 h2
        refine j_aload_n C 0 0 dX12_readAtom_59 rfl rfl ?_
        refine j_callVv C (d := 5) (As := []) (st := []) 98 (s_lt rfl rfl) (s_kc (c := 11) rfl rfl) (by decide) rfl (s1_X12_next hM165 hpr (by omega) (by omega) (by omega)) gX12_readAtom_X12_next rfl hdX12_next (by decide) (Nat.le_of_ble_eq_true rfl) dX12_readAtom_60 rfl (fun M170 h171 => ?_)
        obtain ⟨hM170, fM170, h172⟩ := h171
        refine j_goto C 113 dX12_readAtom_63 (by decide) ?_
        have u173c := fun h => ex_c (M := M0) (N := M165) (P := M170) (r := 0) (e := 1) (FR.cell fM170 (by decide)) h
        have u173d := fun h => ex_c (M := M0) (N := M165) (P := M170) (r := 0) (e := 0) (FR.cell fM170 (by decide)) h
        have u173n := INV.rd hM170 (i := 102) (c := 48) (k := 280) rfl rfl
        have zz102_280 : (M170.1 102 280).toInt = (M165.1 102 280).toInt := s_fF fM170 (by decide) (rfl); exact hret _ _ _ dX12_readAtom_113 ⟨hM170, ((FR.rf.tr fM165 (by decide)).tr fM170 (by decide)), by omega⟩
  · refine j_aload_n C 0 0 dX12_readAtom_9 rfl rfl ?_
    refine j_aload_n C 0 0 dX12_readAtom_10 rfl rfl ?_
    refine y_getI C 11 _ _ fX12_readAtom_121 rfl rfl ft_11_10 sb_11_10 hM0 dX12_readAtom_11 (fun a174 ea174 la174 ua174 => ?_)
    obtain rfl : a174 = (M0.1 98 10).toInt := ea174
    refine j_callVv C (d := 0) (As := [.int (sI (M0.1 98 10).toInt)]) (st := []) 98 (s_lt rfl rfl) (s_kc (c := 11) rfl rfl) (by decide) rfl (s1_X12_codes hM0 hpr (M0.1 98 10).toInt (by omega) (by omega) (by omega)) gX12_readAtom_X12_codes rfl hdX12_codes (by decide) (Nat.le_of_ble_eq_true rfl) dX12_readAtom_14 rfl (fun M177 h178 => ?_)
    obtain ⟨hM177, fM177, h179⟩ := h178
    have u180n := INV.rd hM177 (i := 102) (c := 48) (k := 280) rfl rfl
    have u180p := fun h => ap_push (M := M0) (N := M177) (c := (M0.1 98 10).toInt) (by omega) h
    have u180t := fun h1 h2 => ex_tr (M := M0) (N := M0) (P := M177) (r1 := 0) (e1 := 0) (r2 := 0) (e2 := 1) (r := 0) (e := 1) (by decide) h1 h2
    refine j_aload_n C 0 0 dX12_readAtom_17 rfl rfl ?_
    refine j_callVv C (d := 5) (As := []) (st := []) 98 (s_lt rfl rfl) (s_kc (c := 11) rfl rfl) (by decide) rfl (s1_X12_next hM177 hpr (by omega) (by omega) (by omega)) gX12_readAtom_X12_next rfl hdX12_next (by decide) (Nat.le_of_ble_eq_true rfl) dX12_readAtom_18 rfl (fun M182 h183 => ?_)
    obtain ⟨hM182, fM182, h184⟩ := h183
    refine j_goto C 113 dX12_readAtom_21 (by decide) ?_
    have u185c := fun h => ex_c (M := M0) (N := M177) (P := M182) (r := 0) (e := 1) (FR.cell fM182 (by decide)) h
    have u185d := fun h => ex_c (M := M0) (N := M177) (P := M182) (r := 0) (e := 0) (FR.cell fM182 (by decide)) h
    have u185n := INV.rd hM182 (i := 102) (c := 48) (k := 280) rfl rfl
    have zz102_280 : (M182.1 102 280).toInt = (M177.1 102 280).toInt := s_fF fM182 (by decide) (rfl); exact hret _ _ _ dX12_readAtom_113 ⟨hM182, ((FR.rf.tr fM177 (by decide)).tr fM182 (by decide)), by omega⟩
set_option maxHeartbeats 4000000 in
theorem s1_X12_readTerm {l : Launch} {dC : Nat → ClassId} {dI : Nat → Nat → Nat} {ad : Nat → Nat} {cA : Nat → ClassId} {pr : Nat → Nat → Bool} {Kz : mm_M} {M0 : mm_M} (hM0 : INV pr Kz M0) (hpr : PM pr)  (hp0 : (M0.1 98 6).toInt ≤ (M0.1 98 7).toInt ∧ (M0.1 98 7).toInt ≤ (M0.1 98 8).toInt ∧ (M0.1 98 8).toInt ≤ 900 ∧ ((M0.1 98 9).toInt = 24 ∨ (M0.1 98 6).toInt < (M0.1 98 7).toInt)) (hp1 : ¬ (M0.1 98 11).toInt = 0 ∨ (M0.1 102 280).toInt ≤ (M0.1 98 6).toInt) (hp2 : 0 ≤ (M0.1 102 280).toInt) (hp3 : b01 (PI M0) = 1) : Cv l 8 yX12_readTerm wsX12_readTerm dC dI ad cA [.ref (ad 98), .int (sI 6)] M0 (fun M' => INV pr Kz M' ∧ FR [98, 102] M0 M' ∧ ((M'.1 98 6).toInt ≤ (M'.1 98 7).toInt ∧ (M'.1 98 7).toInt ≤ (M'.1 98 8).toInt ∧ (M'.1 98 8).toInt ≤ 900 ∧ ((M'.1 98 9).toInt = 24 ∨ (M'.1 98 6).toInt < (M'.1 98 7).toInt)) ∧ ((M'.1 98 8).toInt = (M0.1 98 8).toInt) ∧ ((M0.1 98 6).toInt ≤ (M'.1 98 6).toInt) ∧ (0 ≤ (M'.1 102 280).toInt) ∧ (¬ (M'.1 98 11).toInt = 0 ∨ (M0.1 98 11).toInt = 0 ∧ (M'.1 102 280).toInt - (M'.1 98 6).toInt + 0 ≤ (M0.1 102 280).toInt - (M0.1 98 6).toInt ∧ (M0.1 102 280).toInt ≤ (M'.1 102 280).toInt ∧ b01 (EXT M0 M' 0 1) = 1) ∧ (b01 (PI M') = 1)) := by
  refine cv_of (cc := cX12_readTerm) (maxL := 2) (lv := [(0, .ref (ad 98)), (1, .int (sI 6))]) (by decide) rfl (Nat.le_of_ble_eq_true rfl) rfl ?_
  intro p e s m args below meth c A Q C hret
  have u101z := ex_0 M0
  have u101n := INV.rd hM0 (i := 102) (c := 48) (k := 280) rfl rfl
  refine j_aload_n C 0 0 dX12_readTerm_0 rfl rfl ?_
  refine j_iload_n C 1 1 dX12_readTerm_1 rfl rfl ?_
  refine j_callVv C (d := 7) (As := [.int (sI 6)]) (st := []) 98 (s_lt rfl rfl) (s_kc (c := 11) rfl rfl) (by decide) rfl (s1_X12_readAtom hM0 hpr (by omega) (by omega) (by omega) (by omega)) gX12_readTerm_X12_readAtom rfl hdX12_readAtom (by decide) (Nat.le_of_ble_eq_true rfl) dX12_readTerm_2 rfl (fun M103 h104 => ?_)
  obtain ⟨hM103, fM103, h105⟩ := h104
  have u106t := fun h1 h2 => ex_tr (M := M0) (N := M0) (P := M103) (r1 := 0) (e1 := 0) (r2 := 0) (e2 := 1) (r := 0) (e := 1) (by decide) h1 h2
  have u106n := INV.rd hM103 (i := 102) (c := 48) (k := 280) rfl rfl
  have L127 : ∀ (n125 : Nat), ∀ (M128 : mm_M), (((M128.1 98 6).toInt ≤ (M128.1 98 7).toInt ∧ (M128.1 98 7).toInt ≤ (M128.1 98 8).toInt ∧ (M128.1 98 8).toInt ≤ 900 ∧ ((M128.1 98 9).toInt = 24 ∨ (M128.1 98 6).toInt < (M128.1 98 7).toInt)) ∧ ((M128.1 98 8).toInt = (M0.1 98 8).toInt) ∧ ((M0.1 98 6).toInt ≤ (M128.1 98 6).toInt) ∧ (0 ≤ (M128.1 102 280).toInt) ∧ (¬ (M128.1 98 11).toInt = 0 ∨ (M0.1 98 11).toInt = 0 ∧ (M128.1 102 280).toInt - (M128.1 98 6).toInt + 0 ≤ (M0.1 102 280).toInt - (M0.1 98 6).toInt ∧ (M0.1 102 280).toInt ≤ (M128.1 102 280).toInt ∧ b01 (EXT M0 M128 0 1) = 1) ∧ (b01 (PI M128) = 1) ∧ (900 - (M128.1 98 6).toInt) < (n125 : Int)) → INV pr Kz M128 → FR [98, 102] M0 M128 → jj p l e (cn_R 8) s m args below meth c 0 0 Q 2 dC dI ad cA A M128 5 [(0, .ref (ad 98)), (1, .int (sI 6))] [] := by
    intro n125
    induction n125 with
    | zero =>
      intro M128 h129 hM128 fM128
      exfalso; omega
    | succ n125 ih126 =>
      intro M128 h129 hM128 fM128
      refine j_aload_n C 0 0 dX12_readTerm_5 rfl rfl ?_
      refine y_bipush C dX12_readTerm_6 rfl ?_
      refine j_callVi C (d := 6) (As := [.int (sI 34)]) (st := []) 98 (s_lt rfl rfl) (s_kc (c := 11) rfl rfl) (by decide) rfl (s1_X12_eats hM128 hpr 34 (by omega) (by omega) (by omega) (by omega)) gX12_readTerm_X12_eats rfl hdX12_eats (by decide) (Nat.le_of_ble_eq_true rfl) dX12_readTerm_8 rfl (fun r130 M131 h132 => ?_)
      obtain ⟨a134, rfl, hM131, fM131, h133⟩ := h132
      have u135c := fun h => ex_c (M := M0) (N := M128) (P := M131) (r := 0) (e := 1) (FR.cell fM131 (by decide)) h
      have u135n := INV.rd hM131 (i := 102) (c := 48) (k := 280) rfl rfl
      refine y_if_eq C 29 dX12_readTerm_11 (by decide) (by omega) (fun h136 => ?_) (fun h136 => ?_)
      · have u147c := fun h => ex_c (M := M0) (N := M128) (P := M131) (r := 0) (e := 1) (FR.cell fM131 (by decide)) h
        have u147d := fun h => ex_c (M := M0) (N := M128) (P := M131) (r := 0) (e := 0) (FR.cell fM131 (by decide)) h
        have u147n := INV.rd hM131 (i := 102) (c := 48) (k := 280) rfl rfl
        have zz102_280 : (M131.1 102 280).toInt = (M128.1 102 280).toInt := s_fF fM131 (by decide) (rfl); exact hret _ _ _ dX12_readTerm_29 ⟨hM131, ((FR.rf.tr fM128 (by decide)).tr fM131 (by decide)), by omega⟩
      · refine j_aload_n C 0 0 dX12_readTerm_14 rfl rfl ?_
        refine j_iload_n C 1 1 dX12_readTerm_15 rfl rfl ?_
        refine j_callVv C (d := 7) (As := [.int (sI 6)]) (st := []) 98 (s_lt rfl rfl) (s_kc (c := 11) rfl rfl) (by decide) rfl (s1_X12_readAtom hM131 hpr (by omega) (by omega) (by omega) (by omega)) gX12_readTerm_X12_readAtom rfl hdX12_readAtom (by decide) (Nat.le_of_ble_eq_true rfl) dX12_readTerm_16 rfl (fun M138 h139 => ?_)
        obtain ⟨hM138, fM138, h140⟩ := h139
        have u141t := fun h1 h2 => ex_tr (M := M0) (N := M131) (P := M138) (r1 := 0) (e1 := 1) (r2 := 0) (e2 := 1) (r := 0) (e := 2) (by decide) h1 h2
        have u141n := INV.rd hM138 (i := 102) (c := 48) (k := 280) rfl rfl
        refine j_aload_n C 0 0 dX12_readTerm_19 rfl rfl ?_
        refine y_sipush C dX12_readTerm_20 rfl ?_
        refine j_callVv C (d := 0) (As := [.int (sI 3002)]) (st := []) 98 (s_lt rfl rfl) (s_kc (c := 11) rfl rfl) (by decide) rfl (s1_X12_codes hM138 hpr 3002 (by omega) (by omega) (by omega)) gX12_readTerm_X12_codes rfl hdX12_codes (by decide) (Nat.le_of_ble_eq_true rfl) dX12_readTerm_23 rfl (fun M143 h144 => ?_)
        obtain ⟨hM143, fM143, h145⟩ := h144
        refine j_goto C 5 dX12_readTerm_26 (by decide) ?_
        have u146n := INV.rd hM143 (i := 102) (c := 48) (k := 280) rfl rfl
        have u146p := fun h => ap_bin (M := M138) (N := M143) (c := 3002) (by omega) h
        have u146t := fun h1 h2 => ex_tr (M := M0) (N := M138) (P := M143) (r1 := 0) (e1 := 2) (r2 := 2) (e2 := (-1)) (r := 0) (e := 1) (by decide) h1 h2
        have zz98_9 : (M143.1 98 9).toInt = (M138.1 98 9).toInt := s_fF fM143 (by decide) (rfl); have zz98_8 : (M143.1 98 8).toInt = (M138.1 98 8).toInt := s_fF fM143 (by decide) (rfl); have zz98_7 : (M143.1 98 7).toInt = (M138.1 98 7).toInt := s_fF fM143 (by decide) (rfl); have zz98_6 : (M143.1 98 6).toInt = (M138.1 98 6).toInt := s_fF fM143 (by decide) (rfl); have zz98_11 : (M143.1 98 11).toInt = (M138.1 98 11).toInt := s_fF fM143 (by decide) (rfl); exact ih126 M143 (by omega) hM143 ((((FR.rf.tr fM128 (by decide)).tr fM131 (by decide)).tr fM138 (by decide)).tr fM143 (by decide))
  exact L127 2010 M103 (by omega) hM103 (FR.rf.tr fM103 (by decide))
set_option maxHeartbeats 4000000 in
theorem s1_X12_readSum {l : Launch} {dC : Nat → ClassId} {dI : Nat → Nat → Nat} {ad : Nat → Nat} {cA : Nat → ClassId} {pr : Nat → Nat → Bool} {Kz : mm_M} {M0 : mm_M} (hM0 : INV pr Kz M0) (hpr : PM pr)  (hp0 : (M0.1 98 6).toInt ≤ (M0.1 98 7).toInt ∧ (M0.1 98 7).toInt ≤ (M0.1 98 8).toInt ∧ (M0.1 98 8).toInt ≤ 900 ∧ ((M0.1 98 9).toInt = 24 ∨ (M0.1 98 6).toInt < (M0.1 98 7).toInt)) (hp1 : ¬ (M0.1 98 11).toInt = 0 ∨ (M0.1 102 280).toInt ≤ (M0.1 98 6).toInt) (hp2 : 0 ≤ (M0.1 102 280).toInt) (hp3 : b01 (PI M0) = 1) : Cv l 9 yX12_readSum wsX12_readSum dC dI ad cA [.ref (ad 98), .int (sI 6)] M0 (fun M' => INV pr Kz M' ∧ FR [98, 102] M0 M' ∧ ((M'.1 98 6).toInt ≤ (M'.1 98 7).toInt ∧ (M'.1 98 7).toInt ≤ (M'.1 98 8).toInt ∧ (M'.1 98 8).toInt ≤ 900 ∧ ((M'.1 98 9).toInt = 24 ∨ (M'.1 98 6).toInt < (M'.1 98 7).toInt)) ∧ ((M'.1 98 8).toInt = (M0.1 98 8).toInt) ∧ ((M0.1 98 6).toInt ≤ (M'.1 98 6).toInt) ∧ (0 ≤ (M'.1 102 280).toInt) ∧ (¬ (M'.1 98 11).toInt = 0 ∨ (M0.1 98 11).toInt = 0 ∧ (M'.1 102 280).toInt - (M'.1 98 6).toInt + 0 ≤ (M0.1 102 280).toInt - (M0.1 98 6).toInt ∧ (M0.1 102 280).toInt ≤ (M'.1 102 280).toInt ∧ b01 (EXT M0 M' 0 1) = 1) ∧ (b01 (PI M') = 1)) := by
  refine cv_of (cc := cX12_readSum) (maxL := 3) (lv := [(0, .ref (ad 98)), (1, .int (sI 6))]) (by decide) rfl (Nat.le_of_ble_eq_true rfl) rfl ?_
  intro p e s m args below meth c A Q C hret
  have u101z := ex_0 M0
  have u101n := INV.rd hM0 (i := 102) (c := 48) (k := 280) rfl rfl
  refine j_aload_n C 0 0 dX12_readSum_0 rfl rfl ?_
  refine j_iload_n C 1 1 dX12_readSum_1 rfl rfl ?_
  refine j_callVv C (d := 8) (As := [.int (sI 6)]) (st := []) 98 (s_lt rfl rfl) (s_kc (c := 11) rfl rfl) (by decide) rfl (s1_X12_readTerm hM0 hpr (by omega) (by omega) (by omega) (by omega)) gX12_readSum_X12_readTerm rfl hdX12_readTerm (by decide) (Nat.le_of_ble_eq_true rfl) dX12_readSum_2 rfl (fun M103 h104 => ?_)
  obtain ⟨hM103, fM103, h105⟩ := h104
  have u106t := fun h1 h2 => ex_tr (M := M0) (N := M0) (P := M103) (r1 := 0) (e1 := 0) (r2 := 0) (e2 := 1) (r := 0) (e := 1) (by decide) h1 h2
  have u106n := INV.rd hM103 (i := 102) (c := 48) (k := 280) rfl rfl
  have L164 : ∀ (n162 : Nat), ∀ (M165 : mm_M), (((M165.1 98 6).toInt ≤ (M165.1 98 7).toInt ∧ (M165.1 98 7).toInt ≤ (M165.1 98 8).toInt ∧ (M165.1 98 8).toInt ≤ 900 ∧ ((M165.1 98 9).toInt = 24 ∨ (M165.1 98 6).toInt < (M165.1 98 7).toInt)) ∧ ((M165.1 98 8).toInt = (M0.1 98 8).toInt) ∧ ((M0.1 98 6).toInt ≤ (M165.1 98 6).toInt) ∧ (0 ≤ (M165.1 102 280).toInt) ∧ (¬ (M165.1 98 11).toInt = 0 ∨ (M0.1 98 11).toInt = 0 ∧ (M165.1 102 280).toInt - (M165.1 98 6).toInt + 0 ≤ (M0.1 102 280).toInt - (M0.1 98 6).toInt ∧ (M0.1 102 280).toInt ≤ (M165.1 102 280).toInt ∧ b01 (EXT M0 M165 0 1) = 1) ∧ (b01 (PI M165) = 1) ∧ (900 - (M165.1 98 6).toInt) < (n162 : Int)) → INV pr Kz M165 → FR [98, 102] M0 M165 → jj p l e (cn_R 9) s m args below meth c 0 0 Q 3 dC dI ad cA A M165 5 [(0, .ref (ad 98)), (1, .int (sI 6))] [] := by
    intro n162
    induction n162 with
    | zero =>
      intro M165 h166 hM165 fM165
      exfalso; omega
    | succ n162 ih163 =>
      intro M165 h166 hM165 fM165
      refine j_aload_n C 0 0 dX12_readSum_5 rfl rfl ?_
      refine y_bipush C dX12_readSum_6 rfl ?_
      refine j_callVi C (d := 0) (As := [.int (sI 32)]) (st := []) 98 (s_lt rfl rfl) (s_kc (c := 11) rfl rfl) (by decide) rfl (s1_X12_is hM165 32 (by omega)) gX12_readSum_X12_is rfl hdX12_is (by decide) (Nat.le_of_ble_eq_true rfl) dX12_readSum_8 rfl (fun r167 M168 h169 => ?_)
      obtain ⟨a171, rfl, rfl, h170⟩ := h169
      refine y_if_ne C 23 dX12_readSum_11 (by decide) (by omega) (fun h172 => ?_) (fun h172 => ?_)
      · refine j_aload_n C 0 0 dX12_readSum_23 rfl rfl ?_
        refine y_getI C 11 _ _ fX12_readSum_108 rfl rfl ft_11_9 sb_11_9 hM165 dX12_readSum_24 (fun a173 ea173 la173 ua173 => ?_)
        obtain rfl : a173 = (M165.1 98 9).toInt := ea173
        refine y_bipush C dX12_readSum_27 rfl ?_
        have J177 : ∀ (a176 : Int), (3000 ≤ a176 ∧ a176 ≤ 3001) → jj p l e (cn_R 9) s m args below meth c 0 0 Q 3 dC dI ad cA A M165 41 [(0, .ref (ad 98)), (1, .int (sI 6))] [.int (sI a176)] := by
          intro a176 h178
          refine j_istore_n C 2 [(2, .int (sI a176)), (0, .ref (ad 98)), (1, .int (sI 6))] dX12_readSum_41 rfl (by decide) rfl ?_
          refine j_aload_n C 1 0 dX12_readSum_42 rfl rfl ?_
          refine j_callVv C (d := 5) (As := []) (st := []) 98 (s_lt rfl rfl) (s_kc (c := 11) rfl rfl) (by decide) rfl (s1_X12_next hM165 hpr (by omega) (by omega) (by omega)) gX12_readSum_X12_next rfl hdX12_next (by decide) (Nat.le_of_ble_eq_true rfl) dX12_readSum_43 rfl (fun M180 h181 => ?_)
          obtain ⟨hM180, fM180, h182⟩ := h181
          have u183c := fun h => ex_c (M := M0) (N := M165) (P := M180) (r := 0) (e := 1) (FR.cell fM180 (by decide)) h
          have u183n := INV.rd hM180 (i := 102) (c := 48) (k := 280) rfl rfl
          refine j_aload_n C 1 0 dX12_readSum_46 rfl rfl ?_
          refine j_iload_n C 2 1 dX12_readSum_47 rfl rfl ?_
          refine j_callVv C (d := 8) (As := [.int (sI 6)]) (st := []) 98 (s_lt rfl rfl) (s_kc (c := 11) rfl rfl) (by decide) rfl (s1_X12_readTerm hM180 hpr (by omega) (by omega) (by omega) (by omega)) gX12_readSum_X12_readTerm rfl hdX12_readTerm (by decide) (Nat.le_of_ble_eq_true rfl) dX12_readSum_48 rfl (fun M185 h186 => ?_)
          obtain ⟨hM185, fM185, h187⟩ := h186
          have u188t := fun h1 h2 => ex_tr (M := M0) (N := M180) (P := M185) (r1 := 0) (e1 := 1) (r2 := 0) (e2 := 1) (r := 0) (e := 2) (by decide) h1 h2
          have u188n := INV.rd hM185 (i := 102) (c := 48) (k := 280) rfl rfl
          refine j_aload_n C 1 0 dX12_readSum_51 rfl rfl ?_
          refine j_iload_n C 0 2 dX12_readSum_52 rfl rfl ?_
          refine j_callVv C (d := 0) (As := [.int (sI a176)]) (st := []) 98 (s_lt rfl rfl) (s_kc (c := 11) rfl rfl) (by decide) rfl (s1_X12_codes hM185 hpr a176 (by omega) (by omega) (by omega)) gX12_readSum_X12_codes rfl hdX12_codes (by decide) (Nat.le_of_ble_eq_true rfl) dX12_readSum_53 rfl (fun M190 h191 => ?_)
          obtain ⟨hM190, fM190, h192⟩ := h191
          refine j_goto C 5 dX12_readSum_56 (by decide) ?_
          have u193n := INV.rd hM190 (i := 102) (c := 48) (k := 280) rfl rfl
          have u193p := fun h => ap_bin (M := M185) (N := M190) (c := a176) (by omega) h
          have u193t := fun h1 h2 => ex_tr (M := M0) (N := M185) (P := M190) (r1 := 0) (e1 := 2) (r2 := 2) (e2 := (-1)) (r := 0) (e := 1) (by decide) h1 h2
          have zz98_9 : (M190.1 98 9).toInt = (M185.1 98 9).toInt := s_fF fM190 (by decide) (rfl); have zz98_8 : (M190.1 98 8).toInt = (M185.1 98 8).toInt := s_fF fM190 (by decide) (rfl); have zz98_7 : (M190.1 98 7).toInt = (M185.1 98 7).toInt := s_fF fM190 (by decide) (rfl); have zz98_6 : (M190.1 98 6).toInt = (M185.1 98 6).toInt := s_fF fM190 (by decide) (rfl); have zz98_11 : (M190.1 98 11).toInt = (M185.1 98 11).toInt := s_fF fM190 (by decide) (rfl); refine j_lv [1, 2] rfl ?_; exact ih163 M190 (by omega) hM190 ((((FR.rf.tr fM165 (by decide)).tr fM180 (by decide)).tr fM185 (by decide)).tr fM190 (by decide))
        refine y_icmp_ne C 38 dX12_readSum_29 (by decide) (by omega) (fun h175 => ?_) (fun h175 => ?_)
        · refine y_sipush C dX12_readSum_38 rfl ?_
          exact J177 3001 (by omega)
        · refine y_sipush C dX12_readSum_32 rfl ?_
          refine j_goto C 41 dX12_readSum_35 (by decide) ?_
          exact J177 3000 (by omega)
      · refine j_aload_n C 0 0 dX12_readSum_14 rfl rfl ?_
        refine y_bipush C dX12_readSum_15 rfl ?_
        refine j_callVi C (d := 0) (As := [.int (sI 33)]) (st := []) 98 (s_lt rfl rfl) (s_kc (c := 11) rfl rfl) (by decide) rfl (s1_X12_is hM165 33 (by omega)) gX12_readSum_X12_is rfl hdX12_is (by decide) (Nat.le_of_ble_eq_true rfl) dX12_readSum_17 rfl (fun r194 M195 h196 => ?_)
        obtain ⟨a198, rfl, rfl, h197⟩ := h196
        refine y_if_eq C 59 dX12_readSum_20 (by decide) (by omega) (fun h199 => ?_) (fun h199 => ?_)
        · have u221n := INV.rd hM165 (i := 102) (c := 48) (k := 280) rfl rfl
          exact hret _ _ _ dX12_readSum_59 ⟨hM165, (FR.rf.tr fM165 (by decide)), by omega⟩
        · refine j_aload_n C 0 0 dX12_readSum_23 rfl rfl ?_
          refine y_getI C 11 _ _ fX12_readSum_108 rfl rfl ft_11_9 sb_11_9 hM165 dX12_readSum_24 (fun a200 ea200 la200 ua200 => ?_)
          obtain rfl : a200 = (M165.1 98 9).toInt := ea200
          refine y_bipush C dX12_readSum_27 rfl ?_
          have J204 : ∀ (a203 : Int), (3000 ≤ a203 ∧ a203 ≤ 3001) → jj p l e (cn_R 9) s m args below meth c 0 0 Q 3 dC dI ad cA A M165 41 [(0, .ref (ad 98)), (1, .int (sI 6))] [.int (sI a203)] := by
            intro a203 h205
            refine j_istore_n C 2 [(2, .int (sI a203)), (0, .ref (ad 98)), (1, .int (sI 6))] dX12_readSum_41 rfl (by decide) rfl ?_
            refine j_aload_n C 1 0 dX12_readSum_42 rfl rfl ?_
            refine j_callVv C (d := 5) (As := []) (st := []) 98 (s_lt rfl rfl) (s_kc (c := 11) rfl rfl) (by decide) rfl (s1_X12_next hM165 hpr (by omega) (by omega) (by omega)) gX12_readSum_X12_next rfl hdX12_next (by decide) (Nat.le_of_ble_eq_true rfl) dX12_readSum_43 rfl (fun M207 h208 => ?_)
            obtain ⟨hM207, fM207, h209⟩ := h208
            have u210c := fun h => ex_c (M := M0) (N := M165) (P := M207) (r := 0) (e := 1) (FR.cell fM207 (by decide)) h
            have u210n := INV.rd hM207 (i := 102) (c := 48) (k := 280) rfl rfl
            refine j_aload_n C 1 0 dX12_readSum_46 rfl rfl ?_
            refine j_iload_n C 2 1 dX12_readSum_47 rfl rfl ?_
            refine j_callVv C (d := 8) (As := [.int (sI 6)]) (st := []) 98 (s_lt rfl rfl) (s_kc (c := 11) rfl rfl) (by decide) rfl (s1_X12_readTerm hM207 hpr (by omega) (by omega) (by omega) (by omega)) gX12_readSum_X12_readTerm rfl hdX12_readTerm (by decide) (Nat.le_of_ble_eq_true rfl) dX12_readSum_48 rfl (fun M212 h213 => ?_)
            obtain ⟨hM212, fM212, h214⟩ := h213
            have u215t := fun h1 h2 => ex_tr (M := M0) (N := M207) (P := M212) (r1 := 0) (e1 := 1) (r2 := 0) (e2 := 1) (r := 0) (e := 2) (by decide) h1 h2
            have u215n := INV.rd hM212 (i := 102) (c := 48) (k := 280) rfl rfl
            refine j_aload_n C 1 0 dX12_readSum_51 rfl rfl ?_
            refine j_iload_n C 0 2 dX12_readSum_52 rfl rfl ?_
            refine j_callVv C (d := 0) (As := [.int (sI a203)]) (st := []) 98 (s_lt rfl rfl) (s_kc (c := 11) rfl rfl) (by decide) rfl (s1_X12_codes hM212 hpr a203 (by omega) (by omega) (by omega)) gX12_readSum_X12_codes rfl hdX12_codes (by decide) (Nat.le_of_ble_eq_true rfl) dX12_readSum_53 rfl (fun M217 h218 => ?_)
            obtain ⟨hM217, fM217, h219⟩ := h218
            refine j_goto C 5 dX12_readSum_56 (by decide) ?_
            have u220n := INV.rd hM217 (i := 102) (c := 48) (k := 280) rfl rfl
            have u220p := fun h => ap_bin (M := M212) (N := M217) (c := a203) (by omega) h
            have u220t := fun h1 h2 => ex_tr (M := M0) (N := M212) (P := M217) (r1 := 0) (e1 := 2) (r2 := 2) (e2 := (-1)) (r := 0) (e := 1) (by decide) h1 h2
            have zz98_9 : (M217.1 98 9).toInt = (M212.1 98 9).toInt := s_fF fM217 (by decide) (rfl); have zz98_8 : (M217.1 98 8).toInt = (M212.1 98 8).toInt := s_fF fM217 (by decide) (rfl); have zz98_7 : (M217.1 98 7).toInt = (M212.1 98 7).toInt := s_fF fM217 (by decide) (rfl); have zz98_6 : (M217.1 98 6).toInt = (M212.1 98 6).toInt := s_fF fM217 (by decide) (rfl); have zz98_11 : (M217.1 98 11).toInt = (M212.1 98 11).toInt := s_fF fM217 (by decide) (rfl); refine j_lv [1, 2] rfl ?_; exact ih163 M217 (by omega) hM217 ((((FR.rf.tr fM165 (by decide)).tr fM207 (by decide)).tr fM212 (by decide)).tr fM217 (by decide))
          refine y_icmp_ne C 38 dX12_readSum_29 (by decide) (by omega) (fun h202 => ?_) (fun h202 => ?_)
          · refine y_sipush C dX12_readSum_38 rfl ?_
            exact J204 3001 (by omega)
          · refine y_sipush C dX12_readSum_32 rfl ?_
            refine j_goto C 41 dX12_readSum_35 (by decide) ?_
            exact J204 3000 (by omega)
  exact L164 2010 M103 (by omega) hM103 (FR.rf.tr fM103 (by decide))
set_option maxHeartbeats 4000000 in
theorem s2_X12_readAtom {l : Launch} {dC : Nat → ClassId} {dI : Nat → Nat → Nat} {ad : Nat → Nat} {cA : Nat → ClassId} {pr : Nat → Nat → Bool} {Kz : mm_M} {M0 : mm_M} (hM0 : INV pr Kz M0) (hpr : PM pr)  (hp0 : (M0.1 98 6).toInt ≤ (M0.1 98 7).toInt ∧ (M0.1 98 7).toInt ≤ (M0.1 98 8).toInt ∧ (M0.1 98 8).toInt ≤ 900 ∧ ((M0.1 98 9).toInt = 24 ∨ (M0.1 98 6).toInt < (M0.1 98 7).toInt)) (hp1 : ¬ (M0.1 98 11).toInt = 0 ∨ (M0.1 102 280).toInt ≤ (M0.1 98 6).toInt) (hp2 : 0 ≤ (M0.1 102 280).toInt) (hp3 : b01 (PI M0) = 1) : Cv l 10 yX12_readAtom wsX12_readAtom dC dI ad cA [.ref (ad 98), .int (sI 5)] M0 (fun M' => INV pr Kz M' ∧ FR [98, 102] M0 M' ∧ ((M'.1 98 6).toInt ≤ (M'.1 98 7).toInt ∧ (M'.1 98 7).toInt ≤ (M'.1 98 8).toInt ∧ (M'.1 98 8).toInt ≤ 900 ∧ ((M'.1 98 9).toInt = 24 ∨ (M'.1 98 6).toInt < (M'.1 98 7).toInt)) ∧ ((M'.1 98 8).toInt = (M0.1 98 8).toInt) ∧ ((M0.1 98 6).toInt ≤ (M'.1 98 6).toInt) ∧ (0 ≤ (M'.1 102 280).toInt) ∧ (¬ (M'.1 98 11).toInt = 0 ∨ (M0.1 98 11).toInt = 0 ∧ (M'.1 102 280).toInt - (M'.1 98 6).toInt + 0 ≤ (M0.1 102 280).toInt - (M0.1 98 6).toInt ∧ (M0.1 102 280).toInt ≤ (M'.1 102 280).toInt ∧ b01 (EXT M0 M' 0 1) = 1) ∧ (b01 (PI M') = 1)) := by
  refine cv_of (cc := cX12_readAtom) (maxL := 2) (lv := [(0, .ref (ad 98)), (1, .int (sI 5))]) (by decide) rfl (Nat.le_of_ble_eq_true rfl) rfl ?_
  intro p e s m args below meth c A Q C hret
  have u101z := ex_0 M0
  have u101n := INV.rd hM0 (i := 102) (c := 48) (k := 280) rfl rfl
  refine j_aload_n C 0 0 dX12_readAtom_0 rfl rfl ?_
  refine y_bipush C dX12_readAtom_1 rfl ?_
  refine j_callVi C (d := 0) (As := [.int (sI 23)]) (st := []) 98 (s_lt rfl rfl) (s_kc (c := 11) rfl rfl) (by decide) rfl (s1_X12_is hM0 23 (by omega)) gX12_readAtom_X12_is rfl hdX12_is (by decide) (Nat.le_of_ble_eq_true rfl) dX12_readAtom_3 rfl (fun r102 M103 h104 => ?_)
  obtain ⟨a106, rfl, rfl, h105⟩ := h104
  refine y_if_eq C 24 dX12_readAtom_6 (by decide) (by omega) (fun h107 => ?_) (fun h107 => ?_)
  · refine j_aload_n C 0 0 dX12_readAtom_24 rfl rfl ?_
    refine y_getI C 11 _ _ fX12_readAtom_126 rfl rfl ft_11_11 sb_11_11 hM0 dX12_readAtom_25 (fun a108 ea108 la108 ua108 => ?_)
    obtain rfl : a108 = (M0.1 98 11).toInt := ea108
    refine y_if_ne C 66 dX12_readAtom_28 (by decide) (by omega) (fun h110 => ?_) (fun h110 => ?_)
    · refine j_aload_n C 0 0 dX12_readAtom_66 rfl rfl ?_
      refine y_bipush C dX12_readAtom_67 rfl ?_
      refine j_callVi C (d := 0) (As := [.int (sI 35)]) (st := []) 98 (s_lt rfl rfl) (s_kc (c := 11) rfl rfl) (by decide) rfl (s1_X12_is hM0 35 (by omega)) gX12_readAtom_X12_is rfl hdX12_is (by decide) (Nat.le_of_ble_eq_true rfl) dX12_readAtom_69 rfl (fun r111 M112 h113 => ?_)
      obtain ⟨a115, rfl, rfl, h114⟩ := h113
      refine y_if_eq C 108 dX12_readAtom_72 (by decide) (by omega) (fun h116 => ?_) (fun h116 => ?_)
      · refine j_aload_n C 0 0 dX12_readAtom_108 rfl rfl ?_
        refine y_iconst C dX12_readAtom_109 ?_
        refine j_callVv C (d := 0) (As := [.int (sI 2)]) (st := []) 98 (s_lt rfl rfl) (s_kc (c := 11) rfl rfl) (by decide) rfl (s1_X12_fails hM0 hpr 2 (by omega) (by omega) (by omega)) gX12_readAtom_X12_fails rfl hdX12_fails (by decide) (Nat.le_of_ble_eq_true rfl) dX12_readAtom_110 rfl (fun M118 h119 => ?_)
        obtain ⟨hM118, fM118, h120⟩ := h119
        have u121c := fun h => ex_c (M := M0) (N := M0) (P := M118) (r := 0) (e := 1) (FR.cell fM118 (by decide)) h
        have u121d := fun h => ex_c (M := M0) (N := M0) (P := M118) (r := 0) (e := 0) (FR.cell fM118 (by decide)) h
        have u121n := INV.rd hM118 (i := 102) (c := 48) (k := 280) rfl rfl
        have zz102_280 : (M118.1 102 280).toInt = (M0.1 102 280).toInt := s_fF fM118 (by decide) (rfl); exact hret _ _ _ dX12_readAtom_113 ⟨hM118, (FR.rf.tr fM118 (by decide)), by omega⟩
      · refine j_aload_n C 0 0 dX12_readAtom_75 rfl rfl ?_
        refine j_iload_n C 1 1 dX12_readAtom_76 rfl rfl ?_
        refine j_callVi C (d := 6) (As := [.int (sI 5)]) (st := []) 98 (s_lt rfl rfl) (s_kc (c := 11) rfl rfl) (by decide) rfl (s6_X12_goesIn hM0 hpr (by omega) (by omega)) gX12_readAtom_X12_goesIn rfl hdX12_goesIn (by decide) (Nat.le_of_ble_eq_true rfl) dX12_readAtom_77 rfl (fun r122 M123 h124 => ?_)
        obtain ⟨a126, rfl, hM123, fM123, h125⟩ := h124
        have u127c := fun h => ex_c (M := M0) (N := M0) (P := M123) (r := 0) (e := 0) (FR.cell fM123 (by decide)) h
        have u127n := INV.rd hM123 (i := 102) (c := 48) (k := 280) rfl rfl
        refine y_if_ne C 84 dX12_readAtom_80 (by decide) (by omega) (fun h128 => ?_) (fun h128 => ?_)
        · refine j_aload_n C 0 0 dX12_readAtom_84 rfl rfl ?_
          refine j_iload_n C 1 1 dX12_readAtom_85 rfl rfl ?_
          refine y_iconst C dX12_readAtom_86 ?_
          refine y_iadd C dX12_readAtom_87 ?_
          refine j_callVv C (d := 9) (As := [.int (sI (5 + 1))]) (st := []) 98 (s_lt rfl rfl) (s_kc (c := 11) rfl rfl) (by decide) rfl (s1_X12_readSum hM123 hpr (by omega) (by omega) (by omega) (by omega)) gX12_readAtom_X12_readSum rfl hdX12_readSum (by decide) (Nat.le_of_ble_eq_true rfl) dX12_readAtom_88 rfl (fun M130 h131 => ?_)
          obtain ⟨hM130, fM130, h132⟩ := h131
          have u133t := fun h1 h2 => ex_tr (M := M0) (N := M123) (P := M130) (r1 := 0) (e1 := 0) (r2 := 0) (e2 := 1) (r := 0) (e := 1) (by decide) h1 h2
          have u133n := INV.rd hM130 (i := 102) (c := 48) (k := 280) rfl rfl
          refine j_aload_n C 0 0 dX12_readAtom_91 rfl rfl ?_
          refine y_bipush C dX12_readAtom_92 rfl ?_
          refine j_callVi C (d := 6) (As := [.int (sI 36)]) (st := []) 98 (s_lt rfl rfl) (s_kc (c := 11) rfl rfl) (by decide) rfl (s1_X12_eats hM130 hpr 36 (by omega) (by omega) (by omega) (by omega)) gX12_readAtom_X12_eats rfl hdX12_eats (by decide) (Nat.le_of_ble_eq_true rfl) dX12_readAtom_94 rfl (fun r134 M135 h136 => ?_)
          obtain ⟨a138, rfl, hM135, fM135, h137⟩ := h136
          have u139c := fun h => ex_c (M := M0) (N := M130) (P := M135) (r := 0) (e := 1) (FR.cell fM135 (by decide)) h
          have u139n := INV.rd hM135 (i := 102) (c := 48) (k := 280) rfl rfl
          refine y_if_ne C 113 dX12_readAtom_97 (by decide) (by omega) (fun h140 => ?_) (fun h140 => ?_)
          · have u141c := fun h => ex_c (M := M0) (N := M130) (P := M135) (r := 0) (e := 1) (FR.cell fM135 (by decide)) h
            have u141d := fun h => ex_c (M := M0) (N := M130) (P := M135) (r := 0) (e := 0) (FR.cell fM135 (by decide)) h
            have u141n := INV.rd hM135 (i := 102) (c := 48) (k := 280) rfl rfl
            have zz102_280 : (M135.1 102 280).toInt = (M130.1 102 280).toInt := s_fF fM135 (by decide) (rfl); exact hret _ _ _ dX12_readAtom_113 ⟨hM135, (((FR.rf.tr fM123 (by decide)).tr fM130 (by decide)).tr fM135 (by decide)), by omega⟩
          · refine j_aload_n C 0 0 dX12_readAtom_100 rfl rfl ?_
            refine y_iconst C dX12_readAtom_101 ?_
            refine j_callVv C (d := 0) (As := [.int (sI 2)]) (st := []) 98 (s_lt rfl rfl) (s_kc (c := 11) rfl rfl) (by decide) rfl (s1_X12_fails hM135 hpr 2 (by omega) (by omega) (by omega)) gX12_readAtom_X12_fails rfl hdX12_fails (by decide) (Nat.le_of_ble_eq_true rfl) dX12_readAtom_102 rfl (fun M143 h144 => ?_)
            obtain ⟨hM143, fM143, h145⟩ := h144
            refine j_goto C 113 dX12_readAtom_105 (by decide) ?_
            have u146c := fun h => ex_c (M := M0) (N := M135) (P := M143) (r := 0) (e := 1) (FR.cell fM143 (by decide)) h
            have u146d := fun h => ex_c (M := M0) (N := M135) (P := M143) (r := 0) (e := 0) (FR.cell fM143 (by decide)) h
            have u146n := INV.rd hM143 (i := 102) (c := 48) (k := 280) rfl rfl
            have zz102_280 : (M143.1 102 280).toInt = (M130.1 102 280).toInt := s_fF fM135 (by decide) (s_fF fM143 (by decide) (rfl)); exact hret _ _ _ dX12_readAtom_113 ⟨hM143, ((((FR.rf.tr fM123 (by decide)).tr fM130 (by decide)).tr fM135 (by decide)).tr fM143 (by decide)), by omega⟩
        · have u147c := fun h => ex_c (M := M0) (N := M0) (P := M123) (r := 0) (e := 1) (FR.cell fM123 (by decide)) h
          have u147d := fun h => ex_c (M := M0) (N := M0) (P := M123) (r := 0) (e := 0) (FR.cell fM123 (by decide)) h
          have u147n := INV.rd hM123 (i := 102) (c := 48) (k := 280) rfl rfl
          have zz102_280 : (M123.1 102 280).toInt = (M0.1 102 280).toInt := s_fF fM123 (by decide) (rfl); exact hret _ _ _ dX12_readAtom_83 ⟨hM123, (FR.rf.tr fM123 (by decide)), by omega⟩
    · refine j_aload_n C 0 0 dX12_readAtom_31 rfl rfl ?_
      refine j_aload_n C 0 0 dX12_readAtom_32 rfl rfl ?_
      refine y_getI C 11 _ _ fX12_readAtom_108 rfl rfl ft_11_9 sb_11_9 hM0 dX12_readAtom_33 (fun a148 ea148 la148 ua148 => ?_)
      obtain rfl : a148 = (M0.1 98 9).toInt := ea148
      refine j_callVi C (d := 0) (As := [.int (sI (M0.1 98 9).toInt)]) (st := []) 98 (s_lt rfl rfl) (s_kc (c := 11) rfl rfl) (by decide) rfl (s1_X12_wordOf hM0 (M0.1 98 9).toInt (by omega)) gX12_readAtom_X12_wordOf rfl hdX12_wordOf (by decide) (Nat.le_of_ble_eq_true rfl) dX12_readAtom_36 rfl (fun r150 M151 h152 => ?_)
      obtain ⟨a154, rfl, rfl, h153⟩ := h152
      obtain rfl : a154 = (woF (M0.1 98 9).toInt) := by omega
      refine y_iconst C dX12_readAtom_39 ?_
      refine y_icmp_eq C 66 dX12_readAtom_40 (by decide) (by omega) (fun h155 => ?_) (fun h155 => ?_)
      · refine j_aload_n C 0 0 dX12_readAtom_66 rfl rfl ?_
        refine y_bipush C dX12_readAtom_67 rfl ?_
        refine j_callVi C (d := 0) (As := [.int (sI 35)]) (st := []) 98 (s_lt rfl rfl) (s_kc (c := 11) rfl rfl) (by decide) rfl (s1_X12_is hM0 35 (by omega)) gX12_readAtom_X12_is rfl hdX12_is (by decide) (Nat.le_of_ble_eq_true rfl) dX12_readAtom_69 rfl (fun r156 M157 h158 => ?_)
        obtain ⟨a160, rfl, rfl, h159⟩ := h158
        refine y_if_eq C 108 dX12_readAtom_72 (by decide) (by omega) (fun h161 => ?_) (fun h161 => ?_)
        · refine j_aload_n C 0 0 dX12_readAtom_108 rfl rfl ?_
          refine y_iconst C dX12_readAtom_109 ?_
          refine j_callVv C (d := 0) (As := [.int (sI 2)]) (st := []) 98 (s_lt rfl rfl) (s_kc (c := 11) rfl rfl) (by decide) rfl (s1_X12_fails hM0 hpr 2 (by omega) (by omega) (by omega)) gX12_readAtom_X12_fails rfl hdX12_fails (by decide) (Nat.le_of_ble_eq_true rfl) dX12_readAtom_110 rfl (fun M163 h164 => ?_)
          obtain ⟨hM163, fM163, h165⟩ := h164
          have u166c := fun h => ex_c (M := M0) (N := M0) (P := M163) (r := 0) (e := 1) (FR.cell fM163 (by decide)) h
          have u166d := fun h => ex_c (M := M0) (N := M0) (P := M163) (r := 0) (e := 0) (FR.cell fM163 (by decide)) h
          have u166n := INV.rd hM163 (i := 102) (c := 48) (k := 280) rfl rfl
          have zz102_280 : (M163.1 102 280).toInt = (M0.1 102 280).toInt := s_fF fM163 (by decide) (rfl); exact hret _ _ _ dX12_readAtom_113 ⟨hM163, (FR.rf.tr fM163 (by decide)), by omega⟩
        · refine j_aload_n C 0 0 dX12_readAtom_75 rfl rfl ?_
          refine j_iload_n C 1 1 dX12_readAtom_76 rfl rfl ?_
          refine j_callVi C (d := 6) (As := [.int (sI 5)]) (st := []) 98 (s_lt rfl rfl) (s_kc (c := 11) rfl rfl) (by decide) rfl (s6_X12_goesIn hM0 hpr (by omega) (by omega)) gX12_readAtom_X12_goesIn rfl hdX12_goesIn (by decide) (Nat.le_of_ble_eq_true rfl) dX12_readAtom_77 rfl (fun r167 M168 h169 => ?_)
          obtain ⟨a171, rfl, hM168, fM168, h170⟩ := h169
          have u172c := fun h => ex_c (M := M0) (N := M0) (P := M168) (r := 0) (e := 0) (FR.cell fM168 (by decide)) h
          have u172n := INV.rd hM168 (i := 102) (c := 48) (k := 280) rfl rfl
          refine y_if_ne C 84 dX12_readAtom_80 (by decide) (by omega) (fun h173 => ?_) (fun h173 => ?_)
          · refine j_aload_n C 0 0 dX12_readAtom_84 rfl rfl ?_
            refine j_iload_n C 1 1 dX12_readAtom_85 rfl rfl ?_
            refine y_iconst C dX12_readAtom_86 ?_
            refine y_iadd C dX12_readAtom_87 ?_
            refine j_callVv C (d := 9) (As := [.int (sI (5 + 1))]) (st := []) 98 (s_lt rfl rfl) (s_kc (c := 11) rfl rfl) (by decide) rfl (s1_X12_readSum hM168 hpr (by omega) (by omega) (by omega) (by omega)) gX12_readAtom_X12_readSum rfl hdX12_readSum (by decide) (Nat.le_of_ble_eq_true rfl) dX12_readAtom_88 rfl (fun M175 h176 => ?_)
            obtain ⟨hM175, fM175, h177⟩ := h176
            have u178t := fun h1 h2 => ex_tr (M := M0) (N := M168) (P := M175) (r1 := 0) (e1 := 0) (r2 := 0) (e2 := 1) (r := 0) (e := 1) (by decide) h1 h2
            have u178n := INV.rd hM175 (i := 102) (c := 48) (k := 280) rfl rfl
            refine j_aload_n C 0 0 dX12_readAtom_91 rfl rfl ?_
            refine y_bipush C dX12_readAtom_92 rfl ?_
            refine j_callVi C (d := 6) (As := [.int (sI 36)]) (st := []) 98 (s_lt rfl rfl) (s_kc (c := 11) rfl rfl) (by decide) rfl (s1_X12_eats hM175 hpr 36 (by omega) (by omega) (by omega) (by omega)) gX12_readAtom_X12_eats rfl hdX12_eats (by decide) (Nat.le_of_ble_eq_true rfl) dX12_readAtom_94 rfl (fun r179 M180 h181 => ?_)
            obtain ⟨a183, rfl, hM180, fM180, h182⟩ := h181
            have u184c := fun h => ex_c (M := M0) (N := M175) (P := M180) (r := 0) (e := 1) (FR.cell fM180 (by decide)) h
            have u184n := INV.rd hM180 (i := 102) (c := 48) (k := 280) rfl rfl
            refine y_if_ne C 113 dX12_readAtom_97 (by decide) (by omega) (fun h185 => ?_) (fun h185 => ?_)
            · have u186c := fun h => ex_c (M := M0) (N := M175) (P := M180) (r := 0) (e := 1) (FR.cell fM180 (by decide)) h
              have u186d := fun h => ex_c (M := M0) (N := M175) (P := M180) (r := 0) (e := 0) (FR.cell fM180 (by decide)) h
              have u186n := INV.rd hM180 (i := 102) (c := 48) (k := 280) rfl rfl
              have zz102_280 : (M180.1 102 280).toInt = (M175.1 102 280).toInt := s_fF fM180 (by decide) (rfl); exact hret _ _ _ dX12_readAtom_113 ⟨hM180, (((FR.rf.tr fM168 (by decide)).tr fM175 (by decide)).tr fM180 (by decide)), by omega⟩
            · refine j_aload_n C 0 0 dX12_readAtom_100 rfl rfl ?_
              refine y_iconst C dX12_readAtom_101 ?_
              refine j_callVv C (d := 0) (As := [.int (sI 2)]) (st := []) 98 (s_lt rfl rfl) (s_kc (c := 11) rfl rfl) (by decide) rfl (s1_X12_fails hM180 hpr 2 (by omega) (by omega) (by omega)) gX12_readAtom_X12_fails rfl hdX12_fails (by decide) (Nat.le_of_ble_eq_true rfl) dX12_readAtom_102 rfl (fun M188 h189 => ?_)
              obtain ⟨hM188, fM188, h190⟩ := h189
              refine j_goto C 113 dX12_readAtom_105 (by decide) ?_
              have u191c := fun h => ex_c (M := M0) (N := M180) (P := M188) (r := 0) (e := 1) (FR.cell fM188 (by decide)) h
              have u191d := fun h => ex_c (M := M0) (N := M180) (P := M188) (r := 0) (e := 0) (FR.cell fM188 (by decide)) h
              have u191n := INV.rd hM188 (i := 102) (c := 48) (k := 280) rfl rfl
              have zz102_280 : (M188.1 102 280).toInt = (M175.1 102 280).toInt := s_fF fM180 (by decide) (s_fF fM188 (by decide) (rfl)); exact hret _ _ _ dX12_readAtom_113 ⟨hM188, ((((FR.rf.tr fM168 (by decide)).tr fM175 (by decide)).tr fM180 (by decide)).tr fM188 (by decide)), by omega⟩
          · have u192c := fun h => ex_c (M := M0) (N := M0) (P := M168) (r := 0) (e := 1) (FR.cell fM168 (by decide)) h
            have u192d := fun h => ex_c (M := M0) (N := M0) (P := M168) (r := 0) (e := 0) (FR.cell fM168 (by decide)) h
            have u192n := INV.rd hM168 (i := 102) (c := 48) (k := 280) rfl rfl
            have zz102_280 : (M168.1 102 280).toInt = (M0.1 102 280).toInt := s_fF fM168 (by decide) (rfl); exact hret _ _ _ dX12_readAtom_83 ⟨hM168, (FR.rf.tr fM168 (by decide)), by omega⟩
      · refine j_aload_n C 0 0 dX12_readAtom_43 rfl rfl ?_
        refine y_sipush C dX12_readAtom_44 rfl ?_
        refine j_aload_n C 0 0 dX12_readAtom_47 rfl rfl ?_
        refine j_aload_n C 0 0 dX12_readAtom_48 rfl rfl ?_
        refine y_getI C 11 _ _ fX12_readAtom_108 rfl rfl ft_11_9 sb_11_9 hM0 dX12_readAtom_49 (fun a193 ea193 la193 ua193 => ?_)
        obtain rfl : a193 = (M0.1 98 9).toInt := ea193
        refine j_callVi C (d := 0) (As := [.int (sI (M0.1 98 9).toInt)]) (st := [.int (sI 1000), .ref (ad 98)]) 98 (s_lt rfl rfl) (s_kc (c := 11) rfl rfl) (by decide) rfl (s1_X12_wordOf hM0 (M0.1 98 9).toInt (by omega)) gX12_readAtom_X12_wordOf rfl hdX12_wordOf (by decide) (Nat.le_of_ble_eq_true rfl) dX12_readAtom_52 rfl (fun r195 M196 h197 => ?_)
        obtain ⟨a199, rfl, rfl, h198⟩ := h197
        obtain rfl : a199 = (woF (M0.1 98 9).toInt) := by omega
        refine y_iadd C dX12_readAtom_55 ?_
        refine j_callVv C (d := 0) (As := [.int (sI (1000 + (woF (M0.1 98 9).toInt)))]) (st := []) 98 (s_lt rfl rfl) (s_kc (c := 11) rfl rfl) (by decide) rfl (s1_X12_codes hM0 hpr (1000 + (woF (M0.1 98 9).toInt)) (by omega) (by omega) (by omega)) gX12_readAtom_X12_codes rfl hdX12_codes (by decide) (Nat.le_of_ble_eq_true rfl) dX12_readAtom_56 rfl (fun M201 h202 => ?_)
        obtain ⟨hM201, fM201, h203⟩ := h202
        have u204n := INV.rd hM201 (i := 102) (c := 48) (k := 280) rfl rfl
        have u204p := fun h => ap_push (M := M0) (N := M201) (c := (1000 + (woF (M0.1 98 9).toInt))) (by omega) h
        have u204t := fun h1 h2 => ex_tr (M := M0) (N := M0) (P := M201) (r1 := 0) (e1 := 0) (r2 := 0) (e2 := 1) (r := 0) (e := 1) (by decide) h1 h2
        refine j_aload_n C 0 0 dX12_readAtom_59 rfl rfl ?_
        refine j_callVv C (d := 5) (As := []) (st := []) 98 (s_lt rfl rfl) (s_kc (c := 11) rfl rfl) (by decide) rfl (s1_X12_next hM201 hpr (by omega) (by omega) (by omega)) gX12_readAtom_X12_next rfl hdX12_next (by decide) (Nat.le_of_ble_eq_true rfl) dX12_readAtom_60 rfl (fun M206 h207 => ?_)
        obtain ⟨hM206, fM206, h208⟩ := h207
        refine j_goto C 113 dX12_readAtom_63 (by decide) ?_
        have u209c := fun h => ex_c (M := M0) (N := M201) (P := M206) (r := 0) (e := 1) (FR.cell fM206 (by decide)) h
        have u209d := fun h => ex_c (M := M0) (N := M201) (P := M206) (r := 0) (e := 0) (FR.cell fM206 (by decide)) h
        have u209n := INV.rd hM206 (i := 102) (c := 48) (k := 280) rfl rfl
        have zz102_280 : (M206.1 102 280).toInt = (M201.1 102 280).toInt := s_fF fM206 (by decide) (rfl); exact hret _ _ _ dX12_readAtom_113 ⟨hM206, ((FR.rf.tr fM201 (by decide)).tr fM206 (by decide)), by omega⟩
  · refine j_aload_n C 0 0 dX12_readAtom_9 rfl rfl ?_
    refine j_aload_n C 0 0 dX12_readAtom_10 rfl rfl ?_
    refine y_getI C 11 _ _ fX12_readAtom_121 rfl rfl ft_11_10 sb_11_10 hM0 dX12_readAtom_11 (fun a210 ea210 la210 ua210 => ?_)
    obtain rfl : a210 = (M0.1 98 10).toInt := ea210
    refine j_callVv C (d := 0) (As := [.int (sI (M0.1 98 10).toInt)]) (st := []) 98 (s_lt rfl rfl) (s_kc (c := 11) rfl rfl) (by decide) rfl (s1_X12_codes hM0 hpr (M0.1 98 10).toInt (by omega) (by omega) (by omega)) gX12_readAtom_X12_codes rfl hdX12_codes (by decide) (Nat.le_of_ble_eq_true rfl) dX12_readAtom_14 rfl (fun M213 h214 => ?_)
    obtain ⟨hM213, fM213, h215⟩ := h214
    have u216n := INV.rd hM213 (i := 102) (c := 48) (k := 280) rfl rfl
    have u216p := fun h => ap_push (M := M0) (N := M213) (c := (M0.1 98 10).toInt) (by omega) h
    have u216t := fun h1 h2 => ex_tr (M := M0) (N := M0) (P := M213) (r1 := 0) (e1 := 0) (r2 := 0) (e2 := 1) (r := 0) (e := 1) (by decide) h1 h2
    refine j_aload_n C 0 0 dX12_readAtom_17 rfl rfl ?_
    refine j_callVv C (d := 5) (As := []) (st := []) 98 (s_lt rfl rfl) (s_kc (c := 11) rfl rfl) (by decide) rfl (s1_X12_next hM213 hpr (by omega) (by omega) (by omega)) gX12_readAtom_X12_next rfl hdX12_next (by decide) (Nat.le_of_ble_eq_true rfl) dX12_readAtom_18 rfl (fun M218 h219 => ?_)
    obtain ⟨hM218, fM218, h220⟩ := h219
    refine j_goto C 113 dX12_readAtom_21 (by decide) ?_
    have u221c := fun h => ex_c (M := M0) (N := M213) (P := M218) (r := 0) (e := 1) (FR.cell fM218 (by decide)) h
    have u221d := fun h => ex_c (M := M0) (N := M213) (P := M218) (r := 0) (e := 0) (FR.cell fM218 (by decide)) h
    have u221n := INV.rd hM218 (i := 102) (c := 48) (k := 280) rfl rfl
    have zz102_280 : (M218.1 102 280).toInt = (M213.1 102 280).toInt := s_fF fM218 (by decide) (rfl); exact hret _ _ _ dX12_readAtom_113 ⟨hM218, ((FR.rf.tr fM213 (by decide)).tr fM218 (by decide)), by omega⟩
set_option maxHeartbeats 4000000 in
theorem s2_X12_readTerm {l : Launch} {dC : Nat → ClassId} {dI : Nat → Nat → Nat} {ad : Nat → Nat} {cA : Nat → ClassId} {pr : Nat → Nat → Bool} {Kz : mm_M} {M0 : mm_M} (hM0 : INV pr Kz M0) (hpr : PM pr)  (hp0 : (M0.1 98 6).toInt ≤ (M0.1 98 7).toInt ∧ (M0.1 98 7).toInt ≤ (M0.1 98 8).toInt ∧ (M0.1 98 8).toInt ≤ 900 ∧ ((M0.1 98 9).toInt = 24 ∨ (M0.1 98 6).toInt < (M0.1 98 7).toInt)) (hp1 : ¬ (M0.1 98 11).toInt = 0 ∨ (M0.1 102 280).toInt ≤ (M0.1 98 6).toInt) (hp2 : 0 ≤ (M0.1 102 280).toInt) (hp3 : b01 (PI M0) = 1) : Cv l 11 yX12_readTerm wsX12_readTerm dC dI ad cA [.ref (ad 98), .int (sI 5)] M0 (fun M' => INV pr Kz M' ∧ FR [98, 102] M0 M' ∧ ((M'.1 98 6).toInt ≤ (M'.1 98 7).toInt ∧ (M'.1 98 7).toInt ≤ (M'.1 98 8).toInt ∧ (M'.1 98 8).toInt ≤ 900 ∧ ((M'.1 98 9).toInt = 24 ∨ (M'.1 98 6).toInt < (M'.1 98 7).toInt)) ∧ ((M'.1 98 8).toInt = (M0.1 98 8).toInt) ∧ ((M0.1 98 6).toInt ≤ (M'.1 98 6).toInt) ∧ (0 ≤ (M'.1 102 280).toInt) ∧ (¬ (M'.1 98 11).toInt = 0 ∨ (M0.1 98 11).toInt = 0 ∧ (M'.1 102 280).toInt - (M'.1 98 6).toInt + 0 ≤ (M0.1 102 280).toInt - (M0.1 98 6).toInt ∧ (M0.1 102 280).toInt ≤ (M'.1 102 280).toInt ∧ b01 (EXT M0 M' 0 1) = 1) ∧ (b01 (PI M') = 1)) := by
  refine cv_of (cc := cX12_readTerm) (maxL := 2) (lv := [(0, .ref (ad 98)), (1, .int (sI 5))]) (by decide) rfl (Nat.le_of_ble_eq_true rfl) rfl ?_
  intro p e s m args below meth c A Q C hret
  have u101z := ex_0 M0
  have u101n := INV.rd hM0 (i := 102) (c := 48) (k := 280) rfl rfl
  refine j_aload_n C 0 0 dX12_readTerm_0 rfl rfl ?_
  refine j_iload_n C 1 1 dX12_readTerm_1 rfl rfl ?_
  refine j_callVv C (d := 10) (As := [.int (sI 5)]) (st := []) 98 (s_lt rfl rfl) (s_kc (c := 11) rfl rfl) (by decide) rfl (s2_X12_readAtom hM0 hpr (by omega) (by omega) (by omega) (by omega)) gX12_readTerm_X12_readAtom rfl hdX12_readAtom (by decide) (Nat.le_of_ble_eq_true rfl) dX12_readTerm_2 rfl (fun M103 h104 => ?_)
  obtain ⟨hM103, fM103, h105⟩ := h104
  have u106t := fun h1 h2 => ex_tr (M := M0) (N := M0) (P := M103) (r1 := 0) (e1 := 0) (r2 := 0) (e2 := 1) (r := 0) (e := 1) (by decide) h1 h2
  have u106n := INV.rd hM103 (i := 102) (c := 48) (k := 280) rfl rfl
  have L127 : ∀ (n125 : Nat), ∀ (M128 : mm_M), (((M128.1 98 6).toInt ≤ (M128.1 98 7).toInt ∧ (M128.1 98 7).toInt ≤ (M128.1 98 8).toInt ∧ (M128.1 98 8).toInt ≤ 900 ∧ ((M128.1 98 9).toInt = 24 ∨ (M128.1 98 6).toInt < (M128.1 98 7).toInt)) ∧ ((M128.1 98 8).toInt = (M0.1 98 8).toInt) ∧ ((M0.1 98 6).toInt ≤ (M128.1 98 6).toInt) ∧ (0 ≤ (M128.1 102 280).toInt) ∧ (¬ (M128.1 98 11).toInt = 0 ∨ (M0.1 98 11).toInt = 0 ∧ (M128.1 102 280).toInt - (M128.1 98 6).toInt + 0 ≤ (M0.1 102 280).toInt - (M0.1 98 6).toInt ∧ (M0.1 102 280).toInt ≤ (M128.1 102 280).toInt ∧ b01 (EXT M0 M128 0 1) = 1) ∧ (b01 (PI M128) = 1) ∧ (900 - (M128.1 98 6).toInt) < (n125 : Int)) → INV pr Kz M128 → FR [98, 102] M0 M128 → jj p l e (cn_R 11) s m args below meth c 0 0 Q 2 dC dI ad cA A M128 5 [(0, .ref (ad 98)), (1, .int (sI 5))] [] := by
    intro n125
    induction n125 with
    | zero =>
      intro M128 h129 hM128 fM128
      exfalso; omega
    | succ n125 ih126 =>
      intro M128 h129 hM128 fM128
      refine j_aload_n C 0 0 dX12_readTerm_5 rfl rfl ?_
      refine y_bipush C dX12_readTerm_6 rfl ?_
      refine j_callVi C (d := 6) (As := [.int (sI 34)]) (st := []) 98 (s_lt rfl rfl) (s_kc (c := 11) rfl rfl) (by decide) rfl (s1_X12_eats hM128 hpr 34 (by omega) (by omega) (by omega) (by omega)) gX12_readTerm_X12_eats rfl hdX12_eats (by decide) (Nat.le_of_ble_eq_true rfl) dX12_readTerm_8 rfl (fun r130 M131 h132 => ?_)
      obtain ⟨a134, rfl, hM131, fM131, h133⟩ := h132
      have u135c := fun h => ex_c (M := M0) (N := M128) (P := M131) (r := 0) (e := 1) (FR.cell fM131 (by decide)) h
      have u135n := INV.rd hM131 (i := 102) (c := 48) (k := 280) rfl rfl
      refine y_if_eq C 29 dX12_readTerm_11 (by decide) (by omega) (fun h136 => ?_) (fun h136 => ?_)
      · have u147c := fun h => ex_c (M := M0) (N := M128) (P := M131) (r := 0) (e := 1) (FR.cell fM131 (by decide)) h
        have u147d := fun h => ex_c (M := M0) (N := M128) (P := M131) (r := 0) (e := 0) (FR.cell fM131 (by decide)) h
        have u147n := INV.rd hM131 (i := 102) (c := 48) (k := 280) rfl rfl
        have zz102_280 : (M131.1 102 280).toInt = (M128.1 102 280).toInt := s_fF fM131 (by decide) (rfl); exact hret _ _ _ dX12_readTerm_29 ⟨hM131, ((FR.rf.tr fM128 (by decide)).tr fM131 (by decide)), by omega⟩
      · refine j_aload_n C 0 0 dX12_readTerm_14 rfl rfl ?_
        refine j_iload_n C 1 1 dX12_readTerm_15 rfl rfl ?_
        refine j_callVv C (d := 10) (As := [.int (sI 5)]) (st := []) 98 (s_lt rfl rfl) (s_kc (c := 11) rfl rfl) (by decide) rfl (s2_X12_readAtom hM131 hpr (by omega) (by omega) (by omega) (by omega)) gX12_readTerm_X12_readAtom rfl hdX12_readAtom (by decide) (Nat.le_of_ble_eq_true rfl) dX12_readTerm_16 rfl (fun M138 h139 => ?_)
        obtain ⟨hM138, fM138, h140⟩ := h139
        have u141t := fun h1 h2 => ex_tr (M := M0) (N := M131) (P := M138) (r1 := 0) (e1 := 1) (r2 := 0) (e2 := 1) (r := 0) (e := 2) (by decide) h1 h2
        have u141n := INV.rd hM138 (i := 102) (c := 48) (k := 280) rfl rfl
        refine j_aload_n C 0 0 dX12_readTerm_19 rfl rfl ?_
        refine y_sipush C dX12_readTerm_20 rfl ?_
        refine j_callVv C (d := 0) (As := [.int (sI 3002)]) (st := []) 98 (s_lt rfl rfl) (s_kc (c := 11) rfl rfl) (by decide) rfl (s1_X12_codes hM138 hpr 3002 (by omega) (by omega) (by omega)) gX12_readTerm_X12_codes rfl hdX12_codes (by decide) (Nat.le_of_ble_eq_true rfl) dX12_readTerm_23 rfl (fun M143 h144 => ?_)
        obtain ⟨hM143, fM143, h145⟩ := h144
        refine j_goto C 5 dX12_readTerm_26 (by decide) ?_
        have u146n := INV.rd hM143 (i := 102) (c := 48) (k := 280) rfl rfl
        have u146p := fun h => ap_bin (M := M138) (N := M143) (c := 3002) (by omega) h
        have u146t := fun h1 h2 => ex_tr (M := M0) (N := M138) (P := M143) (r1 := 0) (e1 := 2) (r2 := 2) (e2 := (-1)) (r := 0) (e := 1) (by decide) h1 h2
        have zz98_9 : (M143.1 98 9).toInt = (M138.1 98 9).toInt := s_fF fM143 (by decide) (rfl); have zz98_8 : (M143.1 98 8).toInt = (M138.1 98 8).toInt := s_fF fM143 (by decide) (rfl); have zz98_7 : (M143.1 98 7).toInt = (M138.1 98 7).toInt := s_fF fM143 (by decide) (rfl); have zz98_6 : (M143.1 98 6).toInt = (M138.1 98 6).toInt := s_fF fM143 (by decide) (rfl); have zz98_11 : (M143.1 98 11).toInt = (M138.1 98 11).toInt := s_fF fM143 (by decide) (rfl); exact ih126 M143 (by omega) hM143 ((((FR.rf.tr fM128 (by decide)).tr fM131 (by decide)).tr fM138 (by decide)).tr fM143 (by decide))
  exact L127 2010 M103 (by omega) hM103 (FR.rf.tr fM103 (by decide))
set_option maxHeartbeats 4000000 in
theorem s2_X12_readSum {l : Launch} {dC : Nat → ClassId} {dI : Nat → Nat → Nat} {ad : Nat → Nat} {cA : Nat → ClassId} {pr : Nat → Nat → Bool} {Kz : mm_M} {M0 : mm_M} (hM0 : INV pr Kz M0) (hpr : PM pr)  (hp0 : (M0.1 98 6).toInt ≤ (M0.1 98 7).toInt ∧ (M0.1 98 7).toInt ≤ (M0.1 98 8).toInt ∧ (M0.1 98 8).toInt ≤ 900 ∧ ((M0.1 98 9).toInt = 24 ∨ (M0.1 98 6).toInt < (M0.1 98 7).toInt)) (hp1 : ¬ (M0.1 98 11).toInt = 0 ∨ (M0.1 102 280).toInt ≤ (M0.1 98 6).toInt) (hp2 : 0 ≤ (M0.1 102 280).toInt) (hp3 : b01 (PI M0) = 1) : Cv l 12 yX12_readSum wsX12_readSum dC dI ad cA [.ref (ad 98), .int (sI 5)] M0 (fun M' => INV pr Kz M' ∧ FR [98, 102] M0 M' ∧ ((M'.1 98 6).toInt ≤ (M'.1 98 7).toInt ∧ (M'.1 98 7).toInt ≤ (M'.1 98 8).toInt ∧ (M'.1 98 8).toInt ≤ 900 ∧ ((M'.1 98 9).toInt = 24 ∨ (M'.1 98 6).toInt < (M'.1 98 7).toInt)) ∧ ((M'.1 98 8).toInt = (M0.1 98 8).toInt) ∧ ((M0.1 98 6).toInt ≤ (M'.1 98 6).toInt) ∧ (0 ≤ (M'.1 102 280).toInt) ∧ (¬ (M'.1 98 11).toInt = 0 ∨ (M0.1 98 11).toInt = 0 ∧ (M'.1 102 280).toInt - (M'.1 98 6).toInt + 0 ≤ (M0.1 102 280).toInt - (M0.1 98 6).toInt ∧ (M0.1 102 280).toInt ≤ (M'.1 102 280).toInt ∧ b01 (EXT M0 M' 0 1) = 1) ∧ (b01 (PI M') = 1)) := by
  refine cv_of (cc := cX12_readSum) (maxL := 3) (lv := [(0, .ref (ad 98)), (1, .int (sI 5))]) (by decide) rfl (Nat.le_of_ble_eq_true rfl) rfl ?_
  intro p e s m args below meth c A Q C hret
  have u101z := ex_0 M0
  have u101n := INV.rd hM0 (i := 102) (c := 48) (k := 280) rfl rfl
  refine j_aload_n C 0 0 dX12_readSum_0 rfl rfl ?_
  refine j_iload_n C 1 1 dX12_readSum_1 rfl rfl ?_
  refine j_callVv C (d := 11) (As := [.int (sI 5)]) (st := []) 98 (s_lt rfl rfl) (s_kc (c := 11) rfl rfl) (by decide) rfl (s2_X12_readTerm hM0 hpr (by omega) (by omega) (by omega) (by omega)) gX12_readSum_X12_readTerm rfl hdX12_readTerm (by decide) (Nat.le_of_ble_eq_true rfl) dX12_readSum_2 rfl (fun M103 h104 => ?_)
  obtain ⟨hM103, fM103, h105⟩ := h104
  have u106t := fun h1 h2 => ex_tr (M := M0) (N := M0) (P := M103) (r1 := 0) (e1 := 0) (r2 := 0) (e2 := 1) (r := 0) (e := 1) (by decide) h1 h2
  have u106n := INV.rd hM103 (i := 102) (c := 48) (k := 280) rfl rfl
  have L164 : ∀ (n162 : Nat), ∀ (M165 : mm_M), (((M165.1 98 6).toInt ≤ (M165.1 98 7).toInt ∧ (M165.1 98 7).toInt ≤ (M165.1 98 8).toInt ∧ (M165.1 98 8).toInt ≤ 900 ∧ ((M165.1 98 9).toInt = 24 ∨ (M165.1 98 6).toInt < (M165.1 98 7).toInt)) ∧ ((M165.1 98 8).toInt = (M0.1 98 8).toInt) ∧ ((M0.1 98 6).toInt ≤ (M165.1 98 6).toInt) ∧ (0 ≤ (M165.1 102 280).toInt) ∧ (¬ (M165.1 98 11).toInt = 0 ∨ (M0.1 98 11).toInt = 0 ∧ (M165.1 102 280).toInt - (M165.1 98 6).toInt + 0 ≤ (M0.1 102 280).toInt - (M0.1 98 6).toInt ∧ (M0.1 102 280).toInt ≤ (M165.1 102 280).toInt ∧ b01 (EXT M0 M165 0 1) = 1) ∧ (b01 (PI M165) = 1) ∧ (900 - (M165.1 98 6).toInt) < (n162 : Int)) → INV pr Kz M165 → FR [98, 102] M0 M165 → jj p l e (cn_R 12) s m args below meth c 0 0 Q 3 dC dI ad cA A M165 5 [(0, .ref (ad 98)), (1, .int (sI 5))] [] := by
    intro n162
    induction n162 with
    | zero =>
      intro M165 h166 hM165 fM165
      exfalso; omega
    | succ n162 ih163 =>
      intro M165 h166 hM165 fM165
      refine j_aload_n C 0 0 dX12_readSum_5 rfl rfl ?_
      refine y_bipush C dX12_readSum_6 rfl ?_
      refine j_callVi C (d := 0) (As := [.int (sI 32)]) (st := []) 98 (s_lt rfl rfl) (s_kc (c := 11) rfl rfl) (by decide) rfl (s1_X12_is hM165 32 (by omega)) gX12_readSum_X12_is rfl hdX12_is (by decide) (Nat.le_of_ble_eq_true rfl) dX12_readSum_8 rfl (fun r167 M168 h169 => ?_)
      obtain ⟨a171, rfl, rfl, h170⟩ := h169
      refine y_if_ne C 23 dX12_readSum_11 (by decide) (by omega) (fun h172 => ?_) (fun h172 => ?_)
      · refine j_aload_n C 0 0 dX12_readSum_23 rfl rfl ?_
        refine y_getI C 11 _ _ fX12_readSum_108 rfl rfl ft_11_9 sb_11_9 hM165 dX12_readSum_24 (fun a173 ea173 la173 ua173 => ?_)
        obtain rfl : a173 = (M165.1 98 9).toInt := ea173
        refine y_bipush C dX12_readSum_27 rfl ?_
        have J177 : ∀ (a176 : Int), (3000 ≤ a176 ∧ a176 ≤ 3001) → jj p l e (cn_R 12) s m args below meth c 0 0 Q 3 dC dI ad cA A M165 41 [(0, .ref (ad 98)), (1, .int (sI 5))] [.int (sI a176)] := by
          intro a176 h178
          refine j_istore_n C 2 [(2, .int (sI a176)), (0, .ref (ad 98)), (1, .int (sI 5))] dX12_readSum_41 rfl (by decide) rfl ?_
          refine j_aload_n C 1 0 dX12_readSum_42 rfl rfl ?_
          refine j_callVv C (d := 5) (As := []) (st := []) 98 (s_lt rfl rfl) (s_kc (c := 11) rfl rfl) (by decide) rfl (s1_X12_next hM165 hpr (by omega) (by omega) (by omega)) gX12_readSum_X12_next rfl hdX12_next (by decide) (Nat.le_of_ble_eq_true rfl) dX12_readSum_43 rfl (fun M180 h181 => ?_)
          obtain ⟨hM180, fM180, h182⟩ := h181
          have u183c := fun h => ex_c (M := M0) (N := M165) (P := M180) (r := 0) (e := 1) (FR.cell fM180 (by decide)) h
          have u183n := INV.rd hM180 (i := 102) (c := 48) (k := 280) rfl rfl
          refine j_aload_n C 1 0 dX12_readSum_46 rfl rfl ?_
          refine j_iload_n C 2 1 dX12_readSum_47 rfl rfl ?_
          refine j_callVv C (d := 11) (As := [.int (sI 5)]) (st := []) 98 (s_lt rfl rfl) (s_kc (c := 11) rfl rfl) (by decide) rfl (s2_X12_readTerm hM180 hpr (by omega) (by omega) (by omega) (by omega)) gX12_readSum_X12_readTerm rfl hdX12_readTerm (by decide) (Nat.le_of_ble_eq_true rfl) dX12_readSum_48 rfl (fun M185 h186 => ?_)
          obtain ⟨hM185, fM185, h187⟩ := h186
          have u188t := fun h1 h2 => ex_tr (M := M0) (N := M180) (P := M185) (r1 := 0) (e1 := 1) (r2 := 0) (e2 := 1) (r := 0) (e := 2) (by decide) h1 h2
          have u188n := INV.rd hM185 (i := 102) (c := 48) (k := 280) rfl rfl
          refine j_aload_n C 1 0 dX12_readSum_51 rfl rfl ?_
          refine j_iload_n C 0 2 dX12_readSum_52 rfl rfl ?_
          refine j_callVv C (d := 0) (As := [.int (sI a176)]) (st := []) 98 (s_lt rfl rfl) (s_kc (c := 11) rfl rfl) (by decide) rfl (s1_X12_codes hM185 hpr a176 (by omega) (by omega) (by omega)) gX12_readSum_X12_codes rfl hdX12_codes (by decide) (Nat.le_of_ble_eq_true rfl) dX12_readSum_53 rfl (fun M190 h191 => ?_)
          obtain ⟨hM190, fM190, h192⟩ := h191
          refine j_goto C 5 dX12_readSum_56 (by decide) ?_
          have u193n := INV.rd hM190 (i := 102) (c := 48) (k := 280) rfl rfl
          have u193p := fun h => ap_bin (M := M185) (N := M190) (c := a176) (by omega) h
          have u193t := fun h1 h2 => ex_tr (M := M0) (N := M185) (P := M190) (r1 := 0) (e1 := 2) (r2 := 2) (e2 := (-1)) (r := 0) (e := 1) (by decide) h1 h2
          have zz98_9 : (M190.1 98 9).toInt = (M185.1 98 9).toInt := s_fF fM190 (by decide) (rfl); have zz98_8 : (M190.1 98 8).toInt = (M185.1 98 8).toInt := s_fF fM190 (by decide) (rfl); have zz98_7 : (M190.1 98 7).toInt = (M185.1 98 7).toInt := s_fF fM190 (by decide) (rfl); have zz98_6 : (M190.1 98 6).toInt = (M185.1 98 6).toInt := s_fF fM190 (by decide) (rfl); have zz98_11 : (M190.1 98 11).toInt = (M185.1 98 11).toInt := s_fF fM190 (by decide) (rfl); refine j_lv [1, 2] rfl ?_; exact ih163 M190 (by omega) hM190 ((((FR.rf.tr fM165 (by decide)).tr fM180 (by decide)).tr fM185 (by decide)).tr fM190 (by decide))
        refine y_icmp_ne C 38 dX12_readSum_29 (by decide) (by omega) (fun h175 => ?_) (fun h175 => ?_)
        · refine y_sipush C dX12_readSum_38 rfl ?_
          exact J177 3001 (by omega)
        · refine y_sipush C dX12_readSum_32 rfl ?_
          refine j_goto C 41 dX12_readSum_35 (by decide) ?_
          exact J177 3000 (by omega)
      · refine j_aload_n C 0 0 dX12_readSum_14 rfl rfl ?_
        refine y_bipush C dX12_readSum_15 rfl ?_
        refine j_callVi C (d := 0) (As := [.int (sI 33)]) (st := []) 98 (s_lt rfl rfl) (s_kc (c := 11) rfl rfl) (by decide) rfl (s1_X12_is hM165 33 (by omega)) gX12_readSum_X12_is rfl hdX12_is (by decide) (Nat.le_of_ble_eq_true rfl) dX12_readSum_17 rfl (fun r194 M195 h196 => ?_)
        obtain ⟨a198, rfl, rfl, h197⟩ := h196
        refine y_if_eq C 59 dX12_readSum_20 (by decide) (by omega) (fun h199 => ?_) (fun h199 => ?_)
        · have u221n := INV.rd hM165 (i := 102) (c := 48) (k := 280) rfl rfl
          exact hret _ _ _ dX12_readSum_59 ⟨hM165, (FR.rf.tr fM165 (by decide)), by omega⟩
        · refine j_aload_n C 0 0 dX12_readSum_23 rfl rfl ?_
          refine y_getI C 11 _ _ fX12_readSum_108 rfl rfl ft_11_9 sb_11_9 hM165 dX12_readSum_24 (fun a200 ea200 la200 ua200 => ?_)
          obtain rfl : a200 = (M165.1 98 9).toInt := ea200
          refine y_bipush C dX12_readSum_27 rfl ?_
          have J204 : ∀ (a203 : Int), (3000 ≤ a203 ∧ a203 ≤ 3001) → jj p l e (cn_R 12) s m args below meth c 0 0 Q 3 dC dI ad cA A M165 41 [(0, .ref (ad 98)), (1, .int (sI 5))] [.int (sI a203)] := by
            intro a203 h205
            refine j_istore_n C 2 [(2, .int (sI a203)), (0, .ref (ad 98)), (1, .int (sI 5))] dX12_readSum_41 rfl (by decide) rfl ?_
            refine j_aload_n C 1 0 dX12_readSum_42 rfl rfl ?_
            refine j_callVv C (d := 5) (As := []) (st := []) 98 (s_lt rfl rfl) (s_kc (c := 11) rfl rfl) (by decide) rfl (s1_X12_next hM165 hpr (by omega) (by omega) (by omega)) gX12_readSum_X12_next rfl hdX12_next (by decide) (Nat.le_of_ble_eq_true rfl) dX12_readSum_43 rfl (fun M207 h208 => ?_)
            obtain ⟨hM207, fM207, h209⟩ := h208
            have u210c := fun h => ex_c (M := M0) (N := M165) (P := M207) (r := 0) (e := 1) (FR.cell fM207 (by decide)) h
            have u210n := INV.rd hM207 (i := 102) (c := 48) (k := 280) rfl rfl
            refine j_aload_n C 1 0 dX12_readSum_46 rfl rfl ?_
            refine j_iload_n C 2 1 dX12_readSum_47 rfl rfl ?_
            refine j_callVv C (d := 11) (As := [.int (sI 5)]) (st := []) 98 (s_lt rfl rfl) (s_kc (c := 11) rfl rfl) (by decide) rfl (s2_X12_readTerm hM207 hpr (by omega) (by omega) (by omega) (by omega)) gX12_readSum_X12_readTerm rfl hdX12_readTerm (by decide) (Nat.le_of_ble_eq_true rfl) dX12_readSum_48 rfl (fun M212 h213 => ?_)
            obtain ⟨hM212, fM212, h214⟩ := h213
            have u215t := fun h1 h2 => ex_tr (M := M0) (N := M207) (P := M212) (r1 := 0) (e1 := 1) (r2 := 0) (e2 := 1) (r := 0) (e := 2) (by decide) h1 h2
            have u215n := INV.rd hM212 (i := 102) (c := 48) (k := 280) rfl rfl
            refine j_aload_n C 1 0 dX12_readSum_51 rfl rfl ?_
            refine j_iload_n C 0 2 dX12_readSum_52 rfl rfl ?_
            refine j_callVv C (d := 0) (As := [.int (sI a203)]) (st := []) 98 (s_lt rfl rfl) (s_kc (c := 11) rfl rfl) (by decide) rfl (s1_X12_codes hM212 hpr a203 (by omega) (by omega) (by omega)) gX12_readSum_X12_codes rfl hdX12_codes (by decide) (Nat.le_of_ble_eq_true rfl) dX12_readSum_53 rfl (fun M217 h218 => ?_)
            obtain ⟨hM217, fM217, h219⟩ := h218
            refine j_goto C 5 dX12_readSum_56 (by decide) ?_
            have u220n := INV.rd hM217 (i := 102) (c := 48) (k := 280) rfl rfl
            have u220p := fun h => ap_bin (M := M212) (N := M217) (c := a203) (by omega) h
            have u220t := fun h1 h2 => ex_tr (M := M0) (N := M212) (P := M217) (r1 := 0) (e1 := 2) (r2 := 2) (e2 := (-1)) (r := 0) (e := 1) (by decide) h1 h2
            have zz98_9 : (M217.1 98 9).toInt = (M212.1 98 9).toInt := s_fF fM217 (by decide) (rfl); have zz98_8 : (M217.1 98 8).toInt = (M212.1 98 8).toInt := s_fF fM217 (by decide) (rfl); have zz98_7 : (M217.1 98 7).toInt = (M212.1 98 7).toInt := s_fF fM217 (by decide) (rfl); have zz98_6 : (M217.1 98 6).toInt = (M212.1 98 6).toInt := s_fF fM217 (by decide) (rfl); have zz98_11 : (M217.1 98 11).toInt = (M212.1 98 11).toInt := s_fF fM217 (by decide) (rfl); refine j_lv [1, 2] rfl ?_; exact ih163 M217 (by omega) hM217 ((((FR.rf.tr fM165 (by decide)).tr fM207 (by decide)).tr fM212 (by decide)).tr fM217 (by decide))
          refine y_icmp_ne C 38 dX12_readSum_29 (by decide) (by omega) (fun h202 => ?_) (fun h202 => ?_)
          · refine y_sipush C dX12_readSum_38 rfl ?_
            exact J204 3001 (by omega)
          · refine y_sipush C dX12_readSum_32 rfl ?_
            refine j_goto C 41 dX12_readSum_35 (by decide) ?_
            exact J204 3000 (by omega)
  exact L164 2010 M103 (by omega) hM103 (FR.rf.tr fM103 (by decide))
set_option maxHeartbeats 4000000 in
theorem s3_X12_readAtom {l : Launch} {dC : Nat → ClassId} {dI : Nat → Nat → Nat} {ad : Nat → Nat} {cA : Nat → ClassId} {pr : Nat → Nat → Bool} {Kz : mm_M} {M0 : mm_M} (hM0 : INV pr Kz M0) (hpr : PM pr)  (hp0 : (M0.1 98 6).toInt ≤ (M0.1 98 7).toInt ∧ (M0.1 98 7).toInt ≤ (M0.1 98 8).toInt ∧ (M0.1 98 8).toInt ≤ 900 ∧ ((M0.1 98 9).toInt = 24 ∨ (M0.1 98 6).toInt < (M0.1 98 7).toInt)) (hp1 : ¬ (M0.1 98 11).toInt = 0 ∨ (M0.1 102 280).toInt ≤ (M0.1 98 6).toInt) (hp2 : 0 ≤ (M0.1 102 280).toInt) (hp3 : b01 (PI M0) = 1) : Cv l 13 yX12_readAtom wsX12_readAtom dC dI ad cA [.ref (ad 98), .int (sI 4)] M0 (fun M' => INV pr Kz M' ∧ FR [98, 102] M0 M' ∧ ((M'.1 98 6).toInt ≤ (M'.1 98 7).toInt ∧ (M'.1 98 7).toInt ≤ (M'.1 98 8).toInt ∧ (M'.1 98 8).toInt ≤ 900 ∧ ((M'.1 98 9).toInt = 24 ∨ (M'.1 98 6).toInt < (M'.1 98 7).toInt)) ∧ ((M'.1 98 8).toInt = (M0.1 98 8).toInt) ∧ ((M0.1 98 6).toInt ≤ (M'.1 98 6).toInt) ∧ (0 ≤ (M'.1 102 280).toInt) ∧ (¬ (M'.1 98 11).toInt = 0 ∨ (M0.1 98 11).toInt = 0 ∧ (M'.1 102 280).toInt - (M'.1 98 6).toInt + 0 ≤ (M0.1 102 280).toInt - (M0.1 98 6).toInt ∧ (M0.1 102 280).toInt ≤ (M'.1 102 280).toInt ∧ b01 (EXT M0 M' 0 1) = 1) ∧ (b01 (PI M') = 1)) := by
  refine cv_of (cc := cX12_readAtom) (maxL := 2) (lv := [(0, .ref (ad 98)), (1, .int (sI 4))]) (by decide) rfl (Nat.le_of_ble_eq_true rfl) rfl ?_
  intro p e s m args below meth c A Q C hret
  have u101z := ex_0 M0
  have u101n := INV.rd hM0 (i := 102) (c := 48) (k := 280) rfl rfl
  refine j_aload_n C 0 0 dX12_readAtom_0 rfl rfl ?_
  refine y_bipush C dX12_readAtom_1 rfl ?_
  refine j_callVi C (d := 0) (As := [.int (sI 23)]) (st := []) 98 (s_lt rfl rfl) (s_kc (c := 11) rfl rfl) (by decide) rfl (s1_X12_is hM0 23 (by omega)) gX12_readAtom_X12_is rfl hdX12_is (by decide) (Nat.le_of_ble_eq_true rfl) dX12_readAtom_3 rfl (fun r102 M103 h104 => ?_)
  obtain ⟨a106, rfl, rfl, h105⟩ := h104
  refine y_if_eq C 24 dX12_readAtom_6 (by decide) (by omega) (fun h107 => ?_) (fun h107 => ?_)
  · refine j_aload_n C 0 0 dX12_readAtom_24 rfl rfl ?_
    refine y_getI C 11 _ _ fX12_readAtom_126 rfl rfl ft_11_11 sb_11_11 hM0 dX12_readAtom_25 (fun a108 ea108 la108 ua108 => ?_)
    obtain rfl : a108 = (M0.1 98 11).toInt := ea108
    refine y_if_ne C 66 dX12_readAtom_28 (by decide) (by omega) (fun h110 => ?_) (fun h110 => ?_)
    · refine j_aload_n C 0 0 dX12_readAtom_66 rfl rfl ?_
      refine y_bipush C dX12_readAtom_67 rfl ?_
      refine j_callVi C (d := 0) (As := [.int (sI 35)]) (st := []) 98 (s_lt rfl rfl) (s_kc (c := 11) rfl rfl) (by decide) rfl (s1_X12_is hM0 35 (by omega)) gX12_readAtom_X12_is rfl hdX12_is (by decide) (Nat.le_of_ble_eq_true rfl) dX12_readAtom_69 rfl (fun r111 M112 h113 => ?_)
      obtain ⟨a115, rfl, rfl, h114⟩ := h113
      refine y_if_eq C 108 dX12_readAtom_72 (by decide) (by omega) (fun h116 => ?_) (fun h116 => ?_)
      · refine j_aload_n C 0 0 dX12_readAtom_108 rfl rfl ?_
        refine y_iconst C dX12_readAtom_109 ?_
        refine j_callVv C (d := 0) (As := [.int (sI 2)]) (st := []) 98 (s_lt rfl rfl) (s_kc (c := 11) rfl rfl) (by decide) rfl (s1_X12_fails hM0 hpr 2 (by omega) (by omega) (by omega)) gX12_readAtom_X12_fails rfl hdX12_fails (by decide) (Nat.le_of_ble_eq_true rfl) dX12_readAtom_110 rfl (fun M118 h119 => ?_)
        obtain ⟨hM118, fM118, h120⟩ := h119
        have u121c := fun h => ex_c (M := M0) (N := M0) (P := M118) (r := 0) (e := 1) (FR.cell fM118 (by decide)) h
        have u121d := fun h => ex_c (M := M0) (N := M0) (P := M118) (r := 0) (e := 0) (FR.cell fM118 (by decide)) h
        have u121n := INV.rd hM118 (i := 102) (c := 48) (k := 280) rfl rfl
        have zz102_280 : (M118.1 102 280).toInt = (M0.1 102 280).toInt := s_fF fM118 (by decide) (rfl); exact hret _ _ _ dX12_readAtom_113 ⟨hM118, (FR.rf.tr fM118 (by decide)), by omega⟩
      · refine j_aload_n C 0 0 dX12_readAtom_75 rfl rfl ?_
        refine j_iload_n C 1 1 dX12_readAtom_76 rfl rfl ?_
        refine j_callVi C (d := 6) (As := [.int (sI 4)]) (st := []) 98 (s_lt rfl rfl) (s_kc (c := 11) rfl rfl) (by decide) rfl (s5_X12_goesIn hM0 hpr (by omega) (by omega)) gX12_readAtom_X12_goesIn rfl hdX12_goesIn (by decide) (Nat.le_of_ble_eq_true rfl) dX12_readAtom_77 rfl (fun r122 M123 h124 => ?_)
        obtain ⟨a126, rfl, hM123, fM123, h125⟩ := h124
        have u127c := fun h => ex_c (M := M0) (N := M0) (P := M123) (r := 0) (e := 0) (FR.cell fM123 (by decide)) h
        have u127n := INV.rd hM123 (i := 102) (c := 48) (k := 280) rfl rfl
        refine y_if_ne C 84 dX12_readAtom_80 (by decide) (by omega) (fun h128 => ?_) (fun h128 => ?_)
        · refine j_aload_n C 0 0 dX12_readAtom_84 rfl rfl ?_
          refine j_iload_n C 1 1 dX12_readAtom_85 rfl rfl ?_
          refine y_iconst C dX12_readAtom_86 ?_
          refine y_iadd C dX12_readAtom_87 ?_
          refine j_callVv C (d := 12) (As := [.int (sI (4 + 1))]) (st := []) 98 (s_lt rfl rfl) (s_kc (c := 11) rfl rfl) (by decide) rfl (s2_X12_readSum hM123 hpr (by omega) (by omega) (by omega) (by omega)) gX12_readAtom_X12_readSum rfl hdX12_readSum (by decide) (Nat.le_of_ble_eq_true rfl) dX12_readAtom_88 rfl (fun M130 h131 => ?_)
          obtain ⟨hM130, fM130, h132⟩ := h131
          have u133t := fun h1 h2 => ex_tr (M := M0) (N := M123) (P := M130) (r1 := 0) (e1 := 0) (r2 := 0) (e2 := 1) (r := 0) (e := 1) (by decide) h1 h2
          have u133n := INV.rd hM130 (i := 102) (c := 48) (k := 280) rfl rfl
          refine j_aload_n C 0 0 dX12_readAtom_91 rfl rfl ?_
          refine y_bipush C dX12_readAtom_92 rfl ?_
          refine j_callVi C (d := 6) (As := [.int (sI 36)]) (st := []) 98 (s_lt rfl rfl) (s_kc (c := 11) rfl rfl) (by decide) rfl (s1_X12_eats hM130 hpr 36 (by omega) (by omega) (by omega) (by omega)) gX12_readAtom_X12_eats rfl hdX12_eats (by decide) (Nat.le_of_ble_eq_true rfl) dX12_readAtom_94 rfl (fun r134 M135 h136 => ?_)
          obtain ⟨a138, rfl, hM135, fM135, h137⟩ := h136
          have u139c := fun h => ex_c (M := M0) (N := M130) (P := M135) (r := 0) (e := 1) (FR.cell fM135 (by decide)) h
          have u139n := INV.rd hM135 (i := 102) (c := 48) (k := 280) rfl rfl
          refine y_if_ne C 113 dX12_readAtom_97 (by decide) (by omega) (fun h140 => ?_) (fun h140 => ?_)
          · have u141c := fun h => ex_c (M := M0) (N := M130) (P := M135) (r := 0) (e := 1) (FR.cell fM135 (by decide)) h
            have u141d := fun h => ex_c (M := M0) (N := M130) (P := M135) (r := 0) (e := 0) (FR.cell fM135 (by decide)) h
            have u141n := INV.rd hM135 (i := 102) (c := 48) (k := 280) rfl rfl
            have zz102_280 : (M135.1 102 280).toInt = (M130.1 102 280).toInt := s_fF fM135 (by decide) (rfl); exact hret _ _ _ dX12_readAtom_113 ⟨hM135, (((FR.rf.tr fM123 (by decide)).tr fM130 (by decide)).tr fM135 (by decide)), by omega⟩
          · refine j_aload_n C 0 0 dX12_readAtom_100 rfl rfl ?_
            refine y_iconst C dX12_readAtom_101 ?_
            refine j_callVv C (d := 0) (As := [.int (sI 2)]) (st := []) 98 (s_lt rfl rfl) (s_kc (c := 11) rfl rfl) (by decide) rfl (s1_X12_fails hM135 hpr 2 (by omega) (by omega) (by omega)) gX12_readAtom_X12_fails rfl hdX12_fails (by decide) (Nat.le_of_ble_eq_true rfl) dX12_readAtom_102 rfl (fun M143 h144 => ?_)
            obtain ⟨hM143, fM143, h145⟩ := h144
            refine j_goto C 113 dX12_readAtom_105 (by decide) ?_
            have u146c := fun h => ex_c (M := M0) (N := M135) (P := M143) (r := 0) (e := 1) (FR.cell fM143 (by decide)) h
            have u146d := fun h => ex_c (M := M0) (N := M135) (P := M143) (r := 0) (e := 0) (FR.cell fM143 (by decide)) h
            have u146n := INV.rd hM143 (i := 102) (c := 48) (k := 280) rfl rfl
            have zz102_280 : (M143.1 102 280).toInt = (M130.1 102 280).toInt := s_fF fM135 (by decide) (s_fF fM143 (by decide) (rfl)); exact hret _ _ _ dX12_readAtom_113 ⟨hM143, ((((FR.rf.tr fM123 (by decide)).tr fM130 (by decide)).tr fM135 (by decide)).tr fM143 (by decide)), by omega⟩
        · have u147c := fun h => ex_c (M := M0) (N := M0) (P := M123) (r := 0) (e := 1) (FR.cell fM123 (by decide)) h
          have u147d := fun h => ex_c (M := M0) (N := M0) (P := M123) (r := 0) (e := 0) (FR.cell fM123 (by decide)) h
          have u147n := INV.rd hM123 (i := 102) (c := 48) (k := 280) rfl rfl
          have zz102_280 : (M123.1 102 280).toInt = (M0.1 102 280).toInt := s_fF fM123 (by decide) (rfl); exact hret _ _ _ dX12_readAtom_83 ⟨hM123, (FR.rf.tr fM123 (by decide)), by omega⟩
    · refine j_aload_n C 0 0 dX12_readAtom_31 rfl rfl ?_
      refine j_aload_n C 0 0 dX12_readAtom_32 rfl rfl ?_
      refine y_getI C 11 _ _ fX12_readAtom_108 rfl rfl ft_11_9 sb_11_9 hM0 dX12_readAtom_33 (fun a148 ea148 la148 ua148 => ?_)
      obtain rfl : a148 = (M0.1 98 9).toInt := ea148
      refine j_callVi C (d := 0) (As := [.int (sI (M0.1 98 9).toInt)]) (st := []) 98 (s_lt rfl rfl) (s_kc (c := 11) rfl rfl) (by decide) rfl (s1_X12_wordOf hM0 (M0.1 98 9).toInt (by omega)) gX12_readAtom_X12_wordOf rfl hdX12_wordOf (by decide) (Nat.le_of_ble_eq_true rfl) dX12_readAtom_36 rfl (fun r150 M151 h152 => ?_)
      obtain ⟨a154, rfl, rfl, h153⟩ := h152
      obtain rfl : a154 = (woF (M0.1 98 9).toInt) := by omega
      refine y_iconst C dX12_readAtom_39 ?_
      refine y_icmp_eq C 66 dX12_readAtom_40 (by decide) (by omega) (fun h155 => ?_) (fun h155 => ?_)
      · refine j_aload_n C 0 0 dX12_readAtom_66 rfl rfl ?_
        refine y_bipush C dX12_readAtom_67 rfl ?_
        refine j_callVi C (d := 0) (As := [.int (sI 35)]) (st := []) 98 (s_lt rfl rfl) (s_kc (c := 11) rfl rfl) (by decide) rfl (s1_X12_is hM0 35 (by omega)) gX12_readAtom_X12_is rfl hdX12_is (by decide) (Nat.le_of_ble_eq_true rfl) dX12_readAtom_69 rfl (fun r156 M157 h158 => ?_)
        obtain ⟨a160, rfl, rfl, h159⟩ := h158
        refine y_if_eq C 108 dX12_readAtom_72 (by decide) (by omega) (fun h161 => ?_) (fun h161 => ?_)
        · refine j_aload_n C 0 0 dX12_readAtom_108 rfl rfl ?_
          refine y_iconst C dX12_readAtom_109 ?_
          refine j_callVv C (d := 0) (As := [.int (sI 2)]) (st := []) 98 (s_lt rfl rfl) (s_kc (c := 11) rfl rfl) (by decide) rfl (s1_X12_fails hM0 hpr 2 (by omega) (by omega) (by omega)) gX12_readAtom_X12_fails rfl hdX12_fails (by decide) (Nat.le_of_ble_eq_true rfl) dX12_readAtom_110 rfl (fun M163 h164 => ?_)
          obtain ⟨hM163, fM163, h165⟩ := h164
          have u166c := fun h => ex_c (M := M0) (N := M0) (P := M163) (r := 0) (e := 1) (FR.cell fM163 (by decide)) h
          have u166d := fun h => ex_c (M := M0) (N := M0) (P := M163) (r := 0) (e := 0) (FR.cell fM163 (by decide)) h
          have u166n := INV.rd hM163 (i := 102) (c := 48) (k := 280) rfl rfl
          have zz102_280 : (M163.1 102 280).toInt = (M0.1 102 280).toInt := s_fF fM163 (by decide) (rfl); exact hret _ _ _ dX12_readAtom_113 ⟨hM163, (FR.rf.tr fM163 (by decide)), by omega⟩
        · refine j_aload_n C 0 0 dX12_readAtom_75 rfl rfl ?_
          refine j_iload_n C 1 1 dX12_readAtom_76 rfl rfl ?_
          refine j_callVi C (d := 6) (As := [.int (sI 4)]) (st := []) 98 (s_lt rfl rfl) (s_kc (c := 11) rfl rfl) (by decide) rfl (s5_X12_goesIn hM0 hpr (by omega) (by omega)) gX12_readAtom_X12_goesIn rfl hdX12_goesIn (by decide) (Nat.le_of_ble_eq_true rfl) dX12_readAtom_77 rfl (fun r167 M168 h169 => ?_)
          obtain ⟨a171, rfl, hM168, fM168, h170⟩ := h169
          have u172c := fun h => ex_c (M := M0) (N := M0) (P := M168) (r := 0) (e := 0) (FR.cell fM168 (by decide)) h
          have u172n := INV.rd hM168 (i := 102) (c := 48) (k := 280) rfl rfl
          refine y_if_ne C 84 dX12_readAtom_80 (by decide) (by omega) (fun h173 => ?_) (fun h173 => ?_)
          · refine j_aload_n C 0 0 dX12_readAtom_84 rfl rfl ?_
            refine j_iload_n C 1 1 dX12_readAtom_85 rfl rfl ?_
            refine y_iconst C dX12_readAtom_86 ?_
            refine y_iadd C dX12_readAtom_87 ?_
            refine j_callVv C (d := 12) (As := [.int (sI (4 + 1))]) (st := []) 98 (s_lt rfl rfl) (s_kc (c := 11) rfl rfl) (by decide) rfl (s2_X12_readSum hM168 hpr (by omega) (by omega) (by omega) (by omega)) gX12_readAtom_X12_readSum rfl hdX12_readSum (by decide) (Nat.le_of_ble_eq_true rfl) dX12_readAtom_88 rfl (fun M175 h176 => ?_)
            obtain ⟨hM175, fM175, h177⟩ := h176
            have u178t := fun h1 h2 => ex_tr (M := M0) (N := M168) (P := M175) (r1 := 0) (e1 := 0) (r2 := 0) (e2 := 1) (r := 0) (e := 1) (by decide) h1 h2
            have u178n := INV.rd hM175 (i := 102) (c := 48) (k := 280) rfl rfl
            refine j_aload_n C 0 0 dX12_readAtom_91 rfl rfl ?_
            refine y_bipush C dX12_readAtom_92 rfl ?_
            refine j_callVi C (d := 6) (As := [.int (sI 36)]) (st := []) 98 (s_lt rfl rfl) (s_kc (c := 11) rfl rfl) (by decide) rfl (s1_X12_eats hM175 hpr 36 (by omega) (by omega) (by omega) (by omega)) gX12_readAtom_X12_eats rfl hdX12_eats (by decide) (Nat.le_of_ble_eq_true rfl) dX12_readAtom_94 rfl (fun r179 M180 h181 => ?_)
            obtain ⟨a183, rfl, hM180, fM180, h182⟩ := h181
            have u184c := fun h => ex_c (M := M0) (N := M175) (P := M180) (r := 0) (e := 1) (FR.cell fM180 (by decide)) h
            have u184n := INV.rd hM180 (i := 102) (c := 48) (k := 280) rfl rfl
            refine y_if_ne C 113 dX12_readAtom_97 (by decide) (by omega) (fun h185 => ?_) (fun h185 => ?_)
            · have u186c := fun h => ex_c (M := M0) (N := M175) (P := M180) (r := 0) (e := 1) (FR.cell fM180 (by decide)) h
              have u186d := fun h => ex_c (M := M0) (N := M175) (P := M180) (r := 0) (e := 0) (FR.cell fM180 (by decide)) h
              have u186n := INV.rd hM180 (i := 102) (c := 48) (k := 280) rfl rfl
              have zz102_280 : (M180.1 102 280).toInt = (M175.1 102 280).toInt := s_fF fM180 (by decide) (rfl); exact hret _ _ _ dX12_readAtom_113 ⟨hM180, (((FR.rf.tr fM168 (by decide)).tr fM175 (by decide)).tr fM180 (by decide)), by omega⟩
            · refine j_aload_n C 0 0 dX12_readAtom_100 rfl rfl ?_
              refine y_iconst C dX12_readAtom_101 ?_
              refine j_callVv C (d := 0) (As := [.int (sI 2)]) (st := []) 98 (s_lt rfl rfl) (s_kc (c := 11) rfl rfl) (by decide) rfl (s1_X12_fails hM180 hpr 2 (by omega) (by omega) (by omega)) gX12_readAtom_X12_fails rfl hdX12_fails (by decide) (Nat.le_of_ble_eq_true rfl) dX12_readAtom_102 rfl (fun M188 h189 => ?_)
              obtain ⟨hM188, fM188, h190⟩ := h189
              refine j_goto C 113 dX12_readAtom_105 (by decide) ?_
              have u191c := fun h => ex_c (M := M0) (N := M180) (P := M188) (r := 0) (e := 1) (FR.cell fM188 (by decide)) h
              have u191d := fun h => ex_c (M := M0) (N := M180) (P := M188) (r := 0) (e := 0) (FR.cell fM188 (by decide)) h
              have u191n := INV.rd hM188 (i := 102) (c := 48) (k := 280) rfl rfl
              have zz102_280 : (M188.1 102 280).toInt = (M175.1 102 280).toInt := s_fF fM180 (by decide) (s_fF fM188 (by decide) (rfl)); exact hret _ _ _ dX12_readAtom_113 ⟨hM188, ((((FR.rf.tr fM168 (by decide)).tr fM175 (by decide)).tr fM180 (by decide)).tr fM188 (by decide)), by omega⟩
          · have u192c := fun h => ex_c (M := M0) (N := M0) (P := M168) (r := 0) (e := 1) (FR.cell fM168 (by decide)) h
            have u192d := fun h => ex_c (M := M0) (N := M0) (P := M168) (r := 0) (e := 0) (FR.cell fM168 (by decide)) h
            have u192n := INV.rd hM168 (i := 102) (c := 48) (k := 280) rfl rfl
            have zz102_280 : (M168.1 102 280).toInt = (M0.1 102 280).toInt := s_fF fM168 (by decide) (rfl); exact hret _ _ _ dX12_readAtom_83 ⟨hM168, (FR.rf.tr fM168 (by decide)), by omega⟩
      · refine j_aload_n C 0 0 dX12_readAtom_43 rfl rfl ?_
        refine y_sipush C dX12_readAtom_44 rfl ?_
        refine j_aload_n C 0 0 dX12_readAtom_47 rfl rfl ?_
        refine j_aload_n C 0 0 dX12_readAtom_48 rfl rfl ?_
        refine y_getI C 11 _ _ fX12_readAtom_108 rfl rfl ft_11_9 sb_11_9 hM0 dX12_readAtom_49 (fun a193 ea193 la193 ua193 => ?_)
        obtain rfl : a193 = (M0.1 98 9).toInt := ea193
        refine j_callVi C (d := 0) (As := [.int (sI (M0.1 98 9).toInt)]) (st := [.int (sI 1000), .ref (ad 98)]) 98 (s_lt rfl rfl) (s_kc (c := 11) rfl rfl) (by decide) rfl (s1_X12_wordOf hM0 (M0.1 98 9).toInt (by omega)) gX12_readAtom_X12_wordOf rfl hdX12_wordOf (by decide) (Nat.le_of_ble_eq_true rfl) dX12_readAtom_52 rfl (fun r195 M196 h197 => ?_)
        obtain ⟨a199, rfl, rfl, h198⟩ := h197
        obtain rfl : a199 = (woF (M0.1 98 9).toInt) := by omega
        refine y_iadd C dX12_readAtom_55 ?_
        refine j_callVv C (d := 0) (As := [.int (sI (1000 + (woF (M0.1 98 9).toInt)))]) (st := []) 98 (s_lt rfl rfl) (s_kc (c := 11) rfl rfl) (by decide) rfl (s1_X12_codes hM0 hpr (1000 + (woF (M0.1 98 9).toInt)) (by omega) (by omega) (by omega)) gX12_readAtom_X12_codes rfl hdX12_codes (by decide) (Nat.le_of_ble_eq_true rfl) dX12_readAtom_56 rfl (fun M201 h202 => ?_)
        obtain ⟨hM201, fM201, h203⟩ := h202
        have u204n := INV.rd hM201 (i := 102) (c := 48) (k := 280) rfl rfl
        have u204p := fun h => ap_push (M := M0) (N := M201) (c := (1000 + (woF (M0.1 98 9).toInt))) (by omega) h
        have u204t := fun h1 h2 => ex_tr (M := M0) (N := M0) (P := M201) (r1 := 0) (e1 := 0) (r2 := 0) (e2 := 1) (r := 0) (e := 1) (by decide) h1 h2
        refine j_aload_n C 0 0 dX12_readAtom_59 rfl rfl ?_
        refine j_callVv C (d := 5) (As := []) (st := []) 98 (s_lt rfl rfl) (s_kc (c := 11) rfl rfl) (by decide) rfl (s1_X12_next hM201 hpr (by omega) (by omega) (by omega)) gX12_readAtom_X12_next rfl hdX12_next (by decide) (Nat.le_of_ble_eq_true rfl) dX12_readAtom_60 rfl (fun M206 h207 => ?_)
        obtain ⟨hM206, fM206, h208⟩ := h207
        refine j_goto C 113 dX12_readAtom_63 (by decide) ?_
        have u209c := fun h => ex_c (M := M0) (N := M201) (P := M206) (r := 0) (e := 1) (FR.cell fM206 (by decide)) h
        have u209d := fun h => ex_c (M := M0) (N := M201) (P := M206) (r := 0) (e := 0) (FR.cell fM206 (by decide)) h
        have u209n := INV.rd hM206 (i := 102) (c := 48) (k := 280) rfl rfl
        have zz102_280 : (M206.1 102 280).toInt = (M201.1 102 280).toInt := s_fF fM206 (by decide) (rfl); exact hret _ _ _ dX12_readAtom_113 ⟨hM206, ((FR.rf.tr fM201 (by decide)).tr fM206 (by decide)), by omega⟩
  · refine j_aload_n C 0 0 dX12_readAtom_9 rfl rfl ?_
    refine j_aload_n C 0 0 dX12_readAtom_10 rfl rfl ?_
    refine y_getI C 11 _ _ fX12_readAtom_121 rfl rfl ft_11_10 sb_11_10 hM0 dX12_readAtom_11 (fun a210 ea210 la210 ua210 => ?_)
    obtain rfl : a210 = (M0.1 98 10).toInt := ea210
    refine j_callVv C (d := 0) (As := [.int (sI (M0.1 98 10).toInt)]) (st := []) 98 (s_lt rfl rfl) (s_kc (c := 11) rfl rfl) (by decide) rfl (s1_X12_codes hM0 hpr (M0.1 98 10).toInt (by omega) (by omega) (by omega)) gX12_readAtom_X12_codes rfl hdX12_codes (by decide) (Nat.le_of_ble_eq_true rfl) dX12_readAtom_14 rfl (fun M213 h214 => ?_)
    obtain ⟨hM213, fM213, h215⟩ := h214
    have u216n := INV.rd hM213 (i := 102) (c := 48) (k := 280) rfl rfl
    have u216p := fun h => ap_push (M := M0) (N := M213) (c := (M0.1 98 10).toInt) (by omega) h
    have u216t := fun h1 h2 => ex_tr (M := M0) (N := M0) (P := M213) (r1 := 0) (e1 := 0) (r2 := 0) (e2 := 1) (r := 0) (e := 1) (by decide) h1 h2
    refine j_aload_n C 0 0 dX12_readAtom_17 rfl rfl ?_
    refine j_callVv C (d := 5) (As := []) (st := []) 98 (s_lt rfl rfl) (s_kc (c := 11) rfl rfl) (by decide) rfl (s1_X12_next hM213 hpr (by omega) (by omega) (by omega)) gX12_readAtom_X12_next rfl hdX12_next (by decide) (Nat.le_of_ble_eq_true rfl) dX12_readAtom_18 rfl (fun M218 h219 => ?_)
    obtain ⟨hM218, fM218, h220⟩ := h219
    refine j_goto C 113 dX12_readAtom_21 (by decide) ?_
    have u221c := fun h => ex_c (M := M0) (N := M213) (P := M218) (r := 0) (e := 1) (FR.cell fM218 (by decide)) h
    have u221d := fun h => ex_c (M := M0) (N := M213) (P := M218) (r := 0) (e := 0) (FR.cell fM218 (by decide)) h
    have u221n := INV.rd hM218 (i := 102) (c := 48) (k := 280) rfl rfl
    have zz102_280 : (M218.1 102 280).toInt = (M213.1 102 280).toInt := s_fF fM218 (by decide) (rfl); exact hret _ _ _ dX12_readAtom_113 ⟨hM218, ((FR.rf.tr fM213 (by decide)).tr fM218 (by decide)), by omega⟩
set_option maxHeartbeats 4000000 in
theorem s3_X12_readTerm {l : Launch} {dC : Nat → ClassId} {dI : Nat → Nat → Nat} {ad : Nat → Nat} {cA : Nat → ClassId} {pr : Nat → Nat → Bool} {Kz : mm_M} {M0 : mm_M} (hM0 : INV pr Kz M0) (hpr : PM pr)  (hp0 : (M0.1 98 6).toInt ≤ (M0.1 98 7).toInt ∧ (M0.1 98 7).toInt ≤ (M0.1 98 8).toInt ∧ (M0.1 98 8).toInt ≤ 900 ∧ ((M0.1 98 9).toInt = 24 ∨ (M0.1 98 6).toInt < (M0.1 98 7).toInt)) (hp1 : ¬ (M0.1 98 11).toInt = 0 ∨ (M0.1 102 280).toInt ≤ (M0.1 98 6).toInt) (hp2 : 0 ≤ (M0.1 102 280).toInt) (hp3 : b01 (PI M0) = 1) : Cv l 14 yX12_readTerm wsX12_readTerm dC dI ad cA [.ref (ad 98), .int (sI 4)] M0 (fun M' => INV pr Kz M' ∧ FR [98, 102] M0 M' ∧ ((M'.1 98 6).toInt ≤ (M'.1 98 7).toInt ∧ (M'.1 98 7).toInt ≤ (M'.1 98 8).toInt ∧ (M'.1 98 8).toInt ≤ 900 ∧ ((M'.1 98 9).toInt = 24 ∨ (M'.1 98 6).toInt < (M'.1 98 7).toInt)) ∧ ((M'.1 98 8).toInt = (M0.1 98 8).toInt) ∧ ((M0.1 98 6).toInt ≤ (M'.1 98 6).toInt) ∧ (0 ≤ (M'.1 102 280).toInt) ∧ (¬ (M'.1 98 11).toInt = 0 ∨ (M0.1 98 11).toInt = 0 ∧ (M'.1 102 280).toInt - (M'.1 98 6).toInt + 0 ≤ (M0.1 102 280).toInt - (M0.1 98 6).toInt ∧ (M0.1 102 280).toInt ≤ (M'.1 102 280).toInt ∧ b01 (EXT M0 M' 0 1) = 1) ∧ (b01 (PI M') = 1)) := by
  refine cv_of (cc := cX12_readTerm) (maxL := 2) (lv := [(0, .ref (ad 98)), (1, .int (sI 4))]) (by decide) rfl (Nat.le_of_ble_eq_true rfl) rfl ?_
  intro p e s m args below meth c A Q C hret
  have u101z := ex_0 M0
  have u101n := INV.rd hM0 (i := 102) (c := 48) (k := 280) rfl rfl
  refine j_aload_n C 0 0 dX12_readTerm_0 rfl rfl ?_
  refine j_iload_n C 1 1 dX12_readTerm_1 rfl rfl ?_
  refine j_callVv C (d := 13) (As := [.int (sI 4)]) (st := []) 98 (s_lt rfl rfl) (s_kc (c := 11) rfl rfl) (by decide) rfl (s3_X12_readAtom hM0 hpr (by omega) (by omega) (by omega) (by omega)) gX12_readTerm_X12_readAtom rfl hdX12_readAtom (by decide) (Nat.le_of_ble_eq_true rfl) dX12_readTerm_2 rfl (fun M103 h104 => ?_)
  obtain ⟨hM103, fM103, h105⟩ := h104
  have u106t := fun h1 h2 => ex_tr (M := M0) (N := M0) (P := M103) (r1 := 0) (e1 := 0) (r2 := 0) (e2 := 1) (r := 0) (e := 1) (by decide) h1 h2
  have u106n := INV.rd hM103 (i := 102) (c := 48) (k := 280) rfl rfl
  have L127 : ∀ (n125 : Nat), ∀ (M128 : mm_M), (((M128.1 98 6).toInt ≤ (M128.1 98 7).toInt ∧ (M128.1 98 7).toInt ≤ (M128.1 98 8).toInt ∧ (M128.1 98 8).toInt ≤ 900 ∧ ((M128.1 98 9).toInt = 24 ∨ (M128.1 98 6).toInt < (M128.1 98 7).toInt)) ∧ ((M128.1 98 8).toInt = (M0.1 98 8).toInt) ∧ ((M0.1 98 6).toInt ≤ (M128.1 98 6).toInt) ∧ (0 ≤ (M128.1 102 280).toInt) ∧ (¬ (M128.1 98 11).toInt = 0 ∨ (M0.1 98 11).toInt = 0 ∧ (M128.1 102 280).toInt - (M128.1 98 6).toInt + 0 ≤ (M0.1 102 280).toInt - (M0.1 98 6).toInt ∧ (M0.1 102 280).toInt ≤ (M128.1 102 280).toInt ∧ b01 (EXT M0 M128 0 1) = 1) ∧ (b01 (PI M128) = 1) ∧ (900 - (M128.1 98 6).toInt) < (n125 : Int)) → INV pr Kz M128 → FR [98, 102] M0 M128 → jj p l e (cn_R 14) s m args below meth c 0 0 Q 2 dC dI ad cA A M128 5 [(0, .ref (ad 98)), (1, .int (sI 4))] [] := by
    intro n125
    induction n125 with
    | zero =>
      intro M128 h129 hM128 fM128
      exfalso; omega
    | succ n125 ih126 =>
      intro M128 h129 hM128 fM128
      refine j_aload_n C 0 0 dX12_readTerm_5 rfl rfl ?_
      refine y_bipush C dX12_readTerm_6 rfl ?_
      refine j_callVi C (d := 6) (As := [.int (sI 34)]) (st := []) 98 (s_lt rfl rfl) (s_kc (c := 11) rfl rfl) (by decide) rfl (s1_X12_eats hM128 hpr 34 (by omega) (by omega) (by omega) (by omega)) gX12_readTerm_X12_eats rfl hdX12_eats (by decide) (Nat.le_of_ble_eq_true rfl) dX12_readTerm_8 rfl (fun r130 M131 h132 => ?_)
      obtain ⟨a134, rfl, hM131, fM131, h133⟩ := h132
      have u135c := fun h => ex_c (M := M0) (N := M128) (P := M131) (r := 0) (e := 1) (FR.cell fM131 (by decide)) h
      have u135n := INV.rd hM131 (i := 102) (c := 48) (k := 280) rfl rfl
      refine y_if_eq C 29 dX12_readTerm_11 (by decide) (by omega) (fun h136 => ?_) (fun h136 => ?_)
      · have u147c := fun h => ex_c (M := M0) (N := M128) (P := M131) (r := 0) (e := 1) (FR.cell fM131 (by decide)) h
        have u147d := fun h => ex_c (M := M0) (N := M128) (P := M131) (r := 0) (e := 0) (FR.cell fM131 (by decide)) h
        have u147n := INV.rd hM131 (i := 102) (c := 48) (k := 280) rfl rfl
        have zz102_280 : (M131.1 102 280).toInt = (M128.1 102 280).toInt := s_fF fM131 (by decide) (rfl); exact hret _ _ _ dX12_readTerm_29 ⟨hM131, ((FR.rf.tr fM128 (by decide)).tr fM131 (by decide)), by omega⟩
      · refine j_aload_n C 0 0 dX12_readTerm_14 rfl rfl ?_
        refine j_iload_n C 1 1 dX12_readTerm_15 rfl rfl ?_
        refine j_callVv C (d := 13) (As := [.int (sI 4)]) (st := []) 98 (s_lt rfl rfl) (s_kc (c := 11) rfl rfl) (by decide) rfl (s3_X12_readAtom hM131 hpr (by omega) (by omega) (by omega) (by omega)) gX12_readTerm_X12_readAtom rfl hdX12_readAtom (by decide) (Nat.le_of_ble_eq_true rfl) dX12_readTerm_16 rfl (fun M138 h139 => ?_)
        obtain ⟨hM138, fM138, h140⟩ := h139
        have u141t := fun h1 h2 => ex_tr (M := M0) (N := M131) (P := M138) (r1 := 0) (e1 := 1) (r2 := 0) (e2 := 1) (r := 0) (e := 2) (by decide) h1 h2
        have u141n := INV.rd hM138 (i := 102) (c := 48) (k := 280) rfl rfl
        refine j_aload_n C 0 0 dX12_readTerm_19 rfl rfl ?_
        refine y_sipush C dX12_readTerm_20 rfl ?_
        refine j_callVv C (d := 0) (As := [.int (sI 3002)]) (st := []) 98 (s_lt rfl rfl) (s_kc (c := 11) rfl rfl) (by decide) rfl (s1_X12_codes hM138 hpr 3002 (by omega) (by omega) (by omega)) gX12_readTerm_X12_codes rfl hdX12_codes (by decide) (Nat.le_of_ble_eq_true rfl) dX12_readTerm_23 rfl (fun M143 h144 => ?_)
        obtain ⟨hM143, fM143, h145⟩ := h144
        refine j_goto C 5 dX12_readTerm_26 (by decide) ?_
        have u146n := INV.rd hM143 (i := 102) (c := 48) (k := 280) rfl rfl
        have u146p := fun h => ap_bin (M := M138) (N := M143) (c := 3002) (by omega) h
        have u146t := fun h1 h2 => ex_tr (M := M0) (N := M138) (P := M143) (r1 := 0) (e1 := 2) (r2 := 2) (e2 := (-1)) (r := 0) (e := 1) (by decide) h1 h2
        have zz98_9 : (M143.1 98 9).toInt = (M138.1 98 9).toInt := s_fF fM143 (by decide) (rfl); have zz98_8 : (M143.1 98 8).toInt = (M138.1 98 8).toInt := s_fF fM143 (by decide) (rfl); have zz98_7 : (M143.1 98 7).toInt = (M138.1 98 7).toInt := s_fF fM143 (by decide) (rfl); have zz98_6 : (M143.1 98 6).toInt = (M138.1 98 6).toInt := s_fF fM143 (by decide) (rfl); have zz98_11 : (M143.1 98 11).toInt = (M138.1 98 11).toInt := s_fF fM143 (by decide) (rfl); exact ih126 M143 (by omega) hM143 ((((FR.rf.tr fM128 (by decide)).tr fM131 (by decide)).tr fM138 (by decide)).tr fM143 (by decide))
  exact L127 2010 M103 (by omega) hM103 (FR.rf.tr fM103 (by decide))
set_option maxHeartbeats 4000000 in
theorem s3_X12_readSum {l : Launch} {dC : Nat → ClassId} {dI : Nat → Nat → Nat} {ad : Nat → Nat} {cA : Nat → ClassId} {pr : Nat → Nat → Bool} {Kz : mm_M} {M0 : mm_M} (hM0 : INV pr Kz M0) (hpr : PM pr)  (hp0 : (M0.1 98 6).toInt ≤ (M0.1 98 7).toInt ∧ (M0.1 98 7).toInt ≤ (M0.1 98 8).toInt ∧ (M0.1 98 8).toInt ≤ 900 ∧ ((M0.1 98 9).toInt = 24 ∨ (M0.1 98 6).toInt < (M0.1 98 7).toInt)) (hp1 : ¬ (M0.1 98 11).toInt = 0 ∨ (M0.1 102 280).toInt ≤ (M0.1 98 6).toInt) (hp2 : 0 ≤ (M0.1 102 280).toInt) (hp3 : b01 (PI M0) = 1) : Cv l 15 yX12_readSum wsX12_readSum dC dI ad cA [.ref (ad 98), .int (sI 4)] M0 (fun M' => INV pr Kz M' ∧ FR [98, 102] M0 M' ∧ ((M'.1 98 6).toInt ≤ (M'.1 98 7).toInt ∧ (M'.1 98 7).toInt ≤ (M'.1 98 8).toInt ∧ (M'.1 98 8).toInt ≤ 900 ∧ ((M'.1 98 9).toInt = 24 ∨ (M'.1 98 6).toInt < (M'.1 98 7).toInt)) ∧ ((M'.1 98 8).toInt = (M0.1 98 8).toInt) ∧ ((M0.1 98 6).toInt ≤ (M'.1 98 6).toInt) ∧ (0 ≤ (M'.1 102 280).toInt) ∧ (¬ (M'.1 98 11).toInt = 0 ∨ (M0.1 98 11).toInt = 0 ∧ (M'.1 102 280).toInt - (M'.1 98 6).toInt + 0 ≤ (M0.1 102 280).toInt - (M0.1 98 6).toInt ∧ (M0.1 102 280).toInt ≤ (M'.1 102 280).toInt ∧ b01 (EXT M0 M' 0 1) = 1) ∧ (b01 (PI M') = 1)) := by
  refine cv_of (cc := cX12_readSum) (maxL := 3) (lv := [(0, .ref (ad 98)), (1, .int (sI 4))]) (by decide) rfl (Nat.le_of_ble_eq_true rfl) rfl ?_
  intro p e s m args below meth c A Q C hret
  have u101z := ex_0 M0
  have u101n := INV.rd hM0 (i := 102) (c := 48) (k := 280) rfl rfl
  refine j_aload_n C 0 0 dX12_readSum_0 rfl rfl ?_
  refine j_iload_n C 1 1 dX12_readSum_1 rfl rfl ?_
  refine j_callVv C (d := 14) (As := [.int (sI 4)]) (st := []) 98 (s_lt rfl rfl) (s_kc (c := 11) rfl rfl) (by decide) rfl (s3_X12_readTerm hM0 hpr (by omega) (by omega) (by omega) (by omega)) gX12_readSum_X12_readTerm rfl hdX12_readTerm (by decide) (Nat.le_of_ble_eq_true rfl) dX12_readSum_2 rfl (fun M103 h104 => ?_)
  obtain ⟨hM103, fM103, h105⟩ := h104
  have u106t := fun h1 h2 => ex_tr (M := M0) (N := M0) (P := M103) (r1 := 0) (e1 := 0) (r2 := 0) (e2 := 1) (r := 0) (e := 1) (by decide) h1 h2
  have u106n := INV.rd hM103 (i := 102) (c := 48) (k := 280) rfl rfl
  have L164 : ∀ (n162 : Nat), ∀ (M165 : mm_M), (((M165.1 98 6).toInt ≤ (M165.1 98 7).toInt ∧ (M165.1 98 7).toInt ≤ (M165.1 98 8).toInt ∧ (M165.1 98 8).toInt ≤ 900 ∧ ((M165.1 98 9).toInt = 24 ∨ (M165.1 98 6).toInt < (M165.1 98 7).toInt)) ∧ ((M165.1 98 8).toInt = (M0.1 98 8).toInt) ∧ ((M0.1 98 6).toInt ≤ (M165.1 98 6).toInt) ∧ (0 ≤ (M165.1 102 280).toInt) ∧ (¬ (M165.1 98 11).toInt = 0 ∨ (M0.1 98 11).toInt = 0 ∧ (M165.1 102 280).toInt - (M165.1 98 6).toInt + 0 ≤ (M0.1 102 280).toInt - (M0.1 98 6).toInt ∧ (M0.1 102 280).toInt ≤ (M165.1 102 280).toInt ∧ b01 (EXT M0 M165 0 1) = 1) ∧ (b01 (PI M165) = 1) ∧ (900 - (M165.1 98 6).toInt) < (n162 : Int)) → INV pr Kz M165 → FR [98, 102] M0 M165 → jj p l e (cn_R 15) s m args below meth c 0 0 Q 3 dC dI ad cA A M165 5 [(0, .ref (ad 98)), (1, .int (sI 4))] [] := by
    intro n162
    induction n162 with
    | zero =>
      intro M165 h166 hM165 fM165
      exfalso; omega
    | succ n162 ih163 =>
      intro M165 h166 hM165 fM165
      refine j_aload_n C 0 0 dX12_readSum_5 rfl rfl ?_
      refine y_bipush C dX12_readSum_6 rfl ?_
      refine j_callVi C (d := 0) (As := [.int (sI 32)]) (st := []) 98 (s_lt rfl rfl) (s_kc (c := 11) rfl rfl) (by decide) rfl (s1_X12_is hM165 32 (by omega)) gX12_readSum_X12_is rfl hdX12_is (by decide) (Nat.le_of_ble_eq_true rfl) dX12_readSum_8 rfl (fun r167 M168 h169 => ?_)
      obtain ⟨a171, rfl, rfl, h170⟩ := h169
      refine y_if_ne C 23 dX12_readSum_11 (by decide) (by omega) (fun h172 => ?_) (fun h172 => ?_)
      · refine j_aload_n C 0 0 dX12_readSum_23 rfl rfl ?_
        refine y_getI C 11 _ _ fX12_readSum_108 rfl rfl ft_11_9 sb_11_9 hM165 dX12_readSum_24 (fun a173 ea173 la173 ua173 => ?_)
        obtain rfl : a173 = (M165.1 98 9).toInt := ea173
        refine y_bipush C dX12_readSum_27 rfl ?_
        have J177 : ∀ (a176 : Int), (3000 ≤ a176 ∧ a176 ≤ 3001) → jj p l e (cn_R 15) s m args below meth c 0 0 Q 3 dC dI ad cA A M165 41 [(0, .ref (ad 98)), (1, .int (sI 4))] [.int (sI a176)] := by
          intro a176 h178
          refine j_istore_n C 2 [(2, .int (sI a176)), (0, .ref (ad 98)), (1, .int (sI 4))] dX12_readSum_41 rfl (by decide) rfl ?_
          refine j_aload_n C 1 0 dX12_readSum_42 rfl rfl ?_
          refine j_callVv C (d := 5) (As := []) (st := []) 98 (s_lt rfl rfl) (s_kc (c := 11) rfl rfl) (by decide) rfl (s1_X12_next hM165 hpr (by omega) (by omega) (by omega)) gX12_readSum_X12_next rfl hdX12_next (by decide) (Nat.le_of_ble_eq_true rfl) dX12_readSum_43 rfl (fun M180 h181 => ?_)
          obtain ⟨hM180, fM180, h182⟩ := h181
          have u183c := fun h => ex_c (M := M0) (N := M165) (P := M180) (r := 0) (e := 1) (FR.cell fM180 (by decide)) h
          have u183n := INV.rd hM180 (i := 102) (c := 48) (k := 280) rfl rfl
          refine j_aload_n C 1 0 dX12_readSum_46 rfl rfl ?_
          refine j_iload_n C 2 1 dX12_readSum_47 rfl rfl ?_
          refine j_callVv C (d := 14) (As := [.int (sI 4)]) (st := []) 98 (s_lt rfl rfl) (s_kc (c := 11) rfl rfl) (by decide) rfl (s3_X12_readTerm hM180 hpr (by omega) (by omega) (by omega) (by omega)) gX12_readSum_X12_readTerm rfl hdX12_readTerm (by decide) (Nat.le_of_ble_eq_true rfl) dX12_readSum_48 rfl (fun M185 h186 => ?_)
          obtain ⟨hM185, fM185, h187⟩ := h186
          have u188t := fun h1 h2 => ex_tr (M := M0) (N := M180) (P := M185) (r1 := 0) (e1 := 1) (r2 := 0) (e2 := 1) (r := 0) (e := 2) (by decide) h1 h2
          have u188n := INV.rd hM185 (i := 102) (c := 48) (k := 280) rfl rfl
          refine j_aload_n C 1 0 dX12_readSum_51 rfl rfl ?_
          refine j_iload_n C 0 2 dX12_readSum_52 rfl rfl ?_
          refine j_callVv C (d := 0) (As := [.int (sI a176)]) (st := []) 98 (s_lt rfl rfl) (s_kc (c := 11) rfl rfl) (by decide) rfl (s1_X12_codes hM185 hpr a176 (by omega) (by omega) (by omega)) gX12_readSum_X12_codes rfl hdX12_codes (by decide) (Nat.le_of_ble_eq_true rfl) dX12_readSum_53 rfl (fun M190 h191 => ?_)
          obtain ⟨hM190, fM190, h192⟩ := h191
          refine j_goto C 5 dX12_readSum_56 (by decide) ?_
          have u193n := INV.rd hM190 (i := 102) (c := 48) (k := 280) rfl rfl
          have u193p := fun h => ap_bin (M := M185) (N := M190) (c := a176) (by omega) h
          have u193t := fun h1 h2 => ex_tr (M := M0) (N := M185) (P := M190) (r1 := 0) (e1 := 2) (r2 := 2) (e2 := (-1)) (r := 0) (e := 1) (by decide) h1 h2
          have zz98_9 : (M190.1 98 9).toInt = (M185.1 98 9).toInt := s_fF fM190 (by decide) (rfl); have zz98_8 : (M190.1 98 8).toInt = (M185.1 98 8).toInt := s_fF fM190 (by decide) (rfl); have zz98_7 : (M190.1 98 7).toInt = (M185.1 98 7).toInt := s_fF fM190 (by decide) (rfl); have zz98_6 : (M190.1 98 6).toInt = (M185.1 98 6).toInt := s_fF fM190 (by decide) (rfl); have zz98_11 : (M190.1 98 11).toInt = (M185.1 98 11).toInt := s_fF fM190 (by decide) (rfl); refine j_lv [1, 2] rfl ?_; exact ih163 M190 (by omega) hM190 ((((FR.rf.tr fM165 (by decide)).tr fM180 (by decide)).tr fM185 (by decide)).tr fM190 (by decide))
        refine y_icmp_ne C 38 dX12_readSum_29 (by decide) (by omega) (fun h175 => ?_) (fun h175 => ?_)
        · refine y_sipush C dX12_readSum_38 rfl ?_
          exact J177 3001 (by omega)
        · refine y_sipush C dX12_readSum_32 rfl ?_
          refine j_goto C 41 dX12_readSum_35 (by decide) ?_
          exact J177 3000 (by omega)
      · refine j_aload_n C 0 0 dX12_readSum_14 rfl rfl ?_
        refine y_bipush C dX12_readSum_15 rfl ?_
        refine j_callVi C (d := 0) (As := [.int (sI 33)]) (st := []) 98 (s_lt rfl rfl) (s_kc (c := 11) rfl rfl) (by decide) rfl (s1_X12_is hM165 33 (by omega)) gX12_readSum_X12_is rfl hdX12_is (by decide) (Nat.le_of_ble_eq_true rfl) dX12_readSum_17 rfl (fun r194 M195 h196 => ?_)
        obtain ⟨a198, rfl, rfl, h197⟩ := h196
        refine y_if_eq C 59 dX12_readSum_20 (by decide) (by omega) (fun h199 => ?_) (fun h199 => ?_)
        · have u221n := INV.rd hM165 (i := 102) (c := 48) (k := 280) rfl rfl
          exact hret _ _ _ dX12_readSum_59 ⟨hM165, (FR.rf.tr fM165 (by decide)), by omega⟩
        · refine j_aload_n C 0 0 dX12_readSum_23 rfl rfl ?_
          refine y_getI C 11 _ _ fX12_readSum_108 rfl rfl ft_11_9 sb_11_9 hM165 dX12_readSum_24 (fun a200 ea200 la200 ua200 => ?_)
          obtain rfl : a200 = (M165.1 98 9).toInt := ea200
          refine y_bipush C dX12_readSum_27 rfl ?_
          have J204 : ∀ (a203 : Int), (3000 ≤ a203 ∧ a203 ≤ 3001) → jj p l e (cn_R 15) s m args below meth c 0 0 Q 3 dC dI ad cA A M165 41 [(0, .ref (ad 98)), (1, .int (sI 4))] [.int (sI a203)] := by
            intro a203 h205
            refine j_istore_n C 2 [(2, .int (sI a203)), (0, .ref (ad 98)), (1, .int (sI 4))] dX12_readSum_41 rfl (by decide) rfl ?_
            refine j_aload_n C 1 0 dX12_readSum_42 rfl rfl ?_
            refine j_callVv C (d := 5) (As := []) (st := []) 98 (s_lt rfl rfl) (s_kc (c := 11) rfl rfl) (by decide) rfl (s1_X12_next hM165 hpr (by omega) (by omega) (by omega)) gX12_readSum_X12_next rfl hdX12_next (by decide) (Nat.le_of_ble_eq_true rfl) dX12_readSum_43 rfl (fun M207 h208 => ?_)
            obtain ⟨hM207, fM207, h209⟩ := h208
            have u210c := fun h => ex_c (M := M0) (N := M165) (P := M207) (r := 0) (e := 1) (FR.cell fM207 (by decide)) h
            have u210n := INV.rd hM207 (i := 102) (c := 48) (k := 280) rfl rfl
            refine j_aload_n C 1 0 dX12_readSum_46 rfl rfl ?_
            refine j_iload_n C 2 1 dX12_readSum_47 rfl rfl ?_
            refine j_callVv C (d := 14) (As := [.int (sI 4)]) (st := []) 98 (s_lt rfl rfl) (s_kc (c := 11) rfl rfl) (by decide) rfl (s3_X12_readTerm hM207 hpr (by omega) (by omega) (by omega) (by omega)) gX12_readSum_X12_readTerm rfl hdX12_readTerm (by decide) (Nat.le_of_ble_eq_true rfl) dX12_readSum_48 rfl (fun M212 h213 => ?_)
            obtain ⟨hM212, fM212, h214⟩ := h213
            have u215t := fun h1 h2 => ex_tr (M := M0) (N := M207) (P := M212) (r1 := 0) (e1 := 1) (r2 := 0) (e2 := 1) (r := 0) (e := 2) (by decide) h1 h2
            have u215n := INV.rd hM212 (i := 102) (c := 48) (k := 280) rfl rfl
            refine j_aload_n C 1 0 dX12_readSum_51 rfl rfl ?_
            refine j_iload_n C 0 2 dX12_readSum_52 rfl rfl ?_
            refine j_callVv C (d := 0) (As := [.int (sI a203)]) (st := []) 98 (s_lt rfl rfl) (s_kc (c := 11) rfl rfl) (by decide) rfl (s1_X12_codes hM212 hpr a203 (by omega) (by omega) (by omega)) gX12_readSum_X12_codes rfl hdX12_codes (by decide) (Nat.le_of_ble_eq_true rfl) dX12_readSum_53 rfl (fun M217 h218 => ?_)
            obtain ⟨hM217, fM217, h219⟩ := h218
            refine j_goto C 5 dX12_readSum_56 (by decide) ?_
            have u220n := INV.rd hM217 (i := 102) (c := 48) (k := 280) rfl rfl
            have u220p := fun h => ap_bin (M := M212) (N := M217) (c := a203) (by omega) h
            have u220t := fun h1 h2 => ex_tr (M := M0) (N := M212) (P := M217) (r1 := 0) (e1 := 2) (r2 := 2) (e2 := (-1)) (r := 0) (e := 1) (by decide) h1 h2
            have zz98_9 : (M217.1 98 9).toInt = (M212.1 98 9).toInt := s_fF fM217 (by decide) (rfl); have zz98_8 : (M217.1 98 8).toInt = (M212.1 98 8).toInt := s_fF fM217 (by decide) (rfl); have zz98_7 : (M217.1 98 7).toInt = (M212.1 98 7).toInt := s_fF fM217 (by decide) (rfl); have zz98_6 : (M217.1 98 6).toInt = (M212.1 98 6).toInt := s_fF fM217 (by decide) (rfl); have zz98_11 : (M217.1 98 11).toInt = (M212.1 98 11).toInt := s_fF fM217 (by decide) (rfl); refine j_lv [1, 2] rfl ?_; exact ih163 M217 (by omega) hM217 ((((FR.rf.tr fM165 (by decide)).tr fM207 (by decide)).tr fM212 (by decide)).tr fM217 (by decide))
          refine y_icmp_ne C 38 dX12_readSum_29 (by decide) (by omega) (fun h202 => ?_) (fun h202 => ?_)
          · refine y_sipush C dX12_readSum_38 rfl ?_
            exact J204 3001 (by omega)
          · refine y_sipush C dX12_readSum_32 rfl ?_
            refine j_goto C 41 dX12_readSum_35 (by decide) ?_
            exact J204 3000 (by omega)
  exact L164 2010 M103 (by omega) hM103 (FR.rf.tr fM103 (by decide))
set_option maxHeartbeats 4000000 in
theorem s4_X12_readAtom {l : Launch} {dC : Nat → ClassId} {dI : Nat → Nat → Nat} {ad : Nat → Nat} {cA : Nat → ClassId} {pr : Nat → Nat → Bool} {Kz : mm_M} {M0 : mm_M} (hM0 : INV pr Kz M0) (hpr : PM pr)  (hp0 : (M0.1 98 6).toInt ≤ (M0.1 98 7).toInt ∧ (M0.1 98 7).toInt ≤ (M0.1 98 8).toInt ∧ (M0.1 98 8).toInt ≤ 900 ∧ ((M0.1 98 9).toInt = 24 ∨ (M0.1 98 6).toInt < (M0.1 98 7).toInt)) (hp1 : ¬ (M0.1 98 11).toInt = 0 ∨ (M0.1 102 280).toInt ≤ (M0.1 98 6).toInt) (hp2 : 0 ≤ (M0.1 102 280).toInt) (hp3 : b01 (PI M0) = 1) : Cv l 16 yX12_readAtom wsX12_readAtom dC dI ad cA [.ref (ad 98), .int (sI 3)] M0 (fun M' => INV pr Kz M' ∧ FR [98, 102] M0 M' ∧ ((M'.1 98 6).toInt ≤ (M'.1 98 7).toInt ∧ (M'.1 98 7).toInt ≤ (M'.1 98 8).toInt ∧ (M'.1 98 8).toInt ≤ 900 ∧ ((M'.1 98 9).toInt = 24 ∨ (M'.1 98 6).toInt < (M'.1 98 7).toInt)) ∧ ((M'.1 98 8).toInt = (M0.1 98 8).toInt) ∧ ((M0.1 98 6).toInt ≤ (M'.1 98 6).toInt) ∧ (0 ≤ (M'.1 102 280).toInt) ∧ (¬ (M'.1 98 11).toInt = 0 ∨ (M0.1 98 11).toInt = 0 ∧ (M'.1 102 280).toInt - (M'.1 98 6).toInt + 0 ≤ (M0.1 102 280).toInt - (M0.1 98 6).toInt ∧ (M0.1 102 280).toInt ≤ (M'.1 102 280).toInt ∧ b01 (EXT M0 M' 0 1) = 1) ∧ (b01 (PI M') = 1)) := by
  refine cv_of (cc := cX12_readAtom) (maxL := 2) (lv := [(0, .ref (ad 98)), (1, .int (sI 3))]) (by decide) rfl (Nat.le_of_ble_eq_true rfl) rfl ?_
  intro p e s m args below meth c A Q C hret
  have u101z := ex_0 M0
  have u101n := INV.rd hM0 (i := 102) (c := 48) (k := 280) rfl rfl
  refine j_aload_n C 0 0 dX12_readAtom_0 rfl rfl ?_
  refine y_bipush C dX12_readAtom_1 rfl ?_
  refine j_callVi C (d := 0) (As := [.int (sI 23)]) (st := []) 98 (s_lt rfl rfl) (s_kc (c := 11) rfl rfl) (by decide) rfl (s1_X12_is hM0 23 (by omega)) gX12_readAtom_X12_is rfl hdX12_is (by decide) (Nat.le_of_ble_eq_true rfl) dX12_readAtom_3 rfl (fun r102 M103 h104 => ?_)
  obtain ⟨a106, rfl, rfl, h105⟩ := h104
  refine y_if_eq C 24 dX12_readAtom_6 (by decide) (by omega) (fun h107 => ?_) (fun h107 => ?_)
  · refine j_aload_n C 0 0 dX12_readAtom_24 rfl rfl ?_
    refine y_getI C 11 _ _ fX12_readAtom_126 rfl rfl ft_11_11 sb_11_11 hM0 dX12_readAtom_25 (fun a108 ea108 la108 ua108 => ?_)
    obtain rfl : a108 = (M0.1 98 11).toInt := ea108
    refine y_if_ne C 66 dX12_readAtom_28 (by decide) (by omega) (fun h110 => ?_) (fun h110 => ?_)
    · refine j_aload_n C 0 0 dX12_readAtom_66 rfl rfl ?_
      refine y_bipush C dX12_readAtom_67 rfl ?_
      refine j_callVi C (d := 0) (As := [.int (sI 35)]) (st := []) 98 (s_lt rfl rfl) (s_kc (c := 11) rfl rfl) (by decide) rfl (s1_X12_is hM0 35 (by omega)) gX12_readAtom_X12_is rfl hdX12_is (by decide) (Nat.le_of_ble_eq_true rfl) dX12_readAtom_69 rfl (fun r111 M112 h113 => ?_)
      obtain ⟨a115, rfl, rfl, h114⟩ := h113
      refine y_if_eq C 108 dX12_readAtom_72 (by decide) (by omega) (fun h116 => ?_) (fun h116 => ?_)
      · refine j_aload_n C 0 0 dX12_readAtom_108 rfl rfl ?_
        refine y_iconst C dX12_readAtom_109 ?_
        refine j_callVv C (d := 0) (As := [.int (sI 2)]) (st := []) 98 (s_lt rfl rfl) (s_kc (c := 11) rfl rfl) (by decide) rfl (s1_X12_fails hM0 hpr 2 (by omega) (by omega) (by omega)) gX12_readAtom_X12_fails rfl hdX12_fails (by decide) (Nat.le_of_ble_eq_true rfl) dX12_readAtom_110 rfl (fun M118 h119 => ?_)
        obtain ⟨hM118, fM118, h120⟩ := h119
        have u121c := fun h => ex_c (M := M0) (N := M0) (P := M118) (r := 0) (e := 1) (FR.cell fM118 (by decide)) h
        have u121d := fun h => ex_c (M := M0) (N := M0) (P := M118) (r := 0) (e := 0) (FR.cell fM118 (by decide)) h
        have u121n := INV.rd hM118 (i := 102) (c := 48) (k := 280) rfl rfl
        have zz102_280 : (M118.1 102 280).toInt = (M0.1 102 280).toInt := s_fF fM118 (by decide) (rfl); exact hret _ _ _ dX12_readAtom_113 ⟨hM118, (FR.rf.tr fM118 (by decide)), by omega⟩
      · refine j_aload_n C 0 0 dX12_readAtom_75 rfl rfl ?_
        refine j_iload_n C 1 1 dX12_readAtom_76 rfl rfl ?_
        refine j_callVi C (d := 6) (As := [.int (sI 3)]) (st := []) 98 (s_lt rfl rfl) (s_kc (c := 11) rfl rfl) (by decide) rfl (s4_X12_goesIn hM0 hpr (by omega) (by omega)) gX12_readAtom_X12_goesIn rfl hdX12_goesIn (by decide) (Nat.le_of_ble_eq_true rfl) dX12_readAtom_77 rfl (fun r122 M123 h124 => ?_)
        obtain ⟨a126, rfl, hM123, fM123, h125⟩ := h124
        have u127c := fun h => ex_c (M := M0) (N := M0) (P := M123) (r := 0) (e := 0) (FR.cell fM123 (by decide)) h
        have u127n := INV.rd hM123 (i := 102) (c := 48) (k := 280) rfl rfl
        refine y_if_ne C 84 dX12_readAtom_80 (by decide) (by omega) (fun h128 => ?_) (fun h128 => ?_)
        · refine j_aload_n C 0 0 dX12_readAtom_84 rfl rfl ?_
          refine j_iload_n C 1 1 dX12_readAtom_85 rfl rfl ?_
          refine y_iconst C dX12_readAtom_86 ?_
          refine y_iadd C dX12_readAtom_87 ?_
          refine j_callVv C (d := 15) (As := [.int (sI (3 + 1))]) (st := []) 98 (s_lt rfl rfl) (s_kc (c := 11) rfl rfl) (by decide) rfl (s3_X12_readSum hM123 hpr (by omega) (by omega) (by omega) (by omega)) gX12_readAtom_X12_readSum rfl hdX12_readSum (by decide) (Nat.le_of_ble_eq_true rfl) dX12_readAtom_88 rfl (fun M130 h131 => ?_)
          obtain ⟨hM130, fM130, h132⟩ := h131
          have u133t := fun h1 h2 => ex_tr (M := M0) (N := M123) (P := M130) (r1 := 0) (e1 := 0) (r2 := 0) (e2 := 1) (r := 0) (e := 1) (by decide) h1 h2
          have u133n := INV.rd hM130 (i := 102) (c := 48) (k := 280) rfl rfl
          refine j_aload_n C 0 0 dX12_readAtom_91 rfl rfl ?_
          refine y_bipush C dX12_readAtom_92 rfl ?_
          refine j_callVi C (d := 6) (As := [.int (sI 36)]) (st := []) 98 (s_lt rfl rfl) (s_kc (c := 11) rfl rfl) (by decide) rfl (s1_X12_eats hM130 hpr 36 (by omega) (by omega) (by omega) (by omega)) gX12_readAtom_X12_eats rfl hdX12_eats (by decide) (Nat.le_of_ble_eq_true rfl) dX12_readAtom_94 rfl (fun r134 M135 h136 => ?_)
          obtain ⟨a138, rfl, hM135, fM135, h137⟩ := h136
          have u139c := fun h => ex_c (M := M0) (N := M130) (P := M135) (r := 0) (e := 1) (FR.cell fM135 (by decide)) h
          have u139n := INV.rd hM135 (i := 102) (c := 48) (k := 280) rfl rfl
          refine y_if_ne C 113 dX12_readAtom_97 (by decide) (by omega) (fun h140 => ?_) (fun h140 => ?_)
          · have u141c := fun h => ex_c (M := M0) (N := M130) (P := M135) (r := 0) (e := 1) (FR.cell fM135 (by decide)) h
            have u141d := fun h => ex_c (M := M0) (N := M130) (P := M135) (r := 0) (e := 0) (FR.cell fM135 (by decide)) h
            have u141n := INV.rd hM135 (i := 102) (c := 48) (k := 280) rfl rfl
            have zz102_280 : (M135.1 102 280).toInt = (M130.1 102 280).toInt := s_fF fM135 (by decide) (rfl); exact hret _ _ _ dX12_readAtom_113 ⟨hM135, (((FR.rf.tr fM123 (by decide)).tr fM130 (by decide)).tr fM135 (by decide)), by omega⟩
          · refine j_aload_n C 0 0 dX12_readAtom_100 rfl rfl ?_
            refine y_iconst C dX12_readAtom_101 ?_
            refine j_callVv C (d := 0) (As := [.int (sI 2)]) (st := []) 98 (s_lt rfl rfl) (s_kc (c := 11) rfl rfl) (by decide) rfl (s1_X12_fails hM135 hpr 2 (by omega) (by omega) (by omega)) gX12_readAtom_X12_fails rfl hdX12_fails (by decide) (Nat.le_of_ble_eq_true rfl) dX12_readAtom_102 rfl (fun M143 h144 => ?_)
            obtain ⟨hM143, fM143, h145⟩ := h144
            refine j_goto C 113 dX12_readAtom_105 (by decide) ?_
            have u146c := fun h => ex_c (M := M0) (N := M135) (P := M143) (r := 0) (e := 1) (FR.cell fM143 (by decide)) h
            have u146d := fun h => ex_c (M := M0) (N := M135) (P := M143) (r := 0) (e := 0) (FR.cell fM143 (by decide)) h
            have u146n := INV.rd hM143 (i := 102) (c := 48) (k := 280) rfl rfl
            have zz102_280 : (M143.1 102 280).toInt = (M130.1 102 280).toInt := s_fF fM135 (by decide) (s_fF fM143 (by decide) (rfl)); exact hret _ _ _ dX12_readAtom_113 ⟨hM143, ((((FR.rf.tr fM123 (by decide)).tr fM130 (by decide)).tr fM135 (by decide)).tr fM143 (by decide)), by omega⟩
        · have u147c := fun h => ex_c (M := M0) (N := M0) (P := M123) (r := 0) (e := 1) (FR.cell fM123 (by decide)) h
          have u147d := fun h => ex_c (M := M0) (N := M0) (P := M123) (r := 0) (e := 0) (FR.cell fM123 (by decide)) h
          have u147n := INV.rd hM123 (i := 102) (c := 48) (k := 280) rfl rfl
          have zz102_280 : (M123.1 102 280).toInt = (M0.1 102 280).toInt := s_fF fM123 (by decide) (rfl); exact hret _ _ _ dX12_readAtom_83 ⟨hM123, (FR.rf.tr fM123 (by decide)), by omega⟩
    · refine j_aload_n C 0 0 dX12_readAtom_31 rfl rfl ?_
      refine j_aload_n C 0 0 dX12_readAtom_32 rfl rfl ?_
      refine y_getI C 11 _ _ fX12_readAtom_108 rfl rfl ft_11_9 sb_11_9 hM0 dX12_readAtom_33 (fun a148 ea148 la148 ua148 => ?_)
      obtain rfl : a148 = (M0.1 98 9).toInt := ea148
      refine j_callVi C (d := 0) (As := [.int (sI (M0.1 98 9).toInt)]) (st := []) 98 (s_lt rfl rfl) (s_kc (c := 11) rfl rfl) (by decide) rfl (s1_X12_wordOf hM0 (M0.1 98 9).toInt (by omega)) gX12_readAtom_X12_wordOf rfl hdX12_wordOf (by decide) (Nat.le_of_ble_eq_true rfl) dX12_readAtom_36 rfl (fun r150 M151 h152 => ?_)
      obtain ⟨a154, rfl, rfl, h153⟩ := h152
      obtain rfl : a154 = (woF (M0.1 98 9).toInt) := by omega
      refine y_iconst C dX12_readAtom_39 ?_
      refine y_icmp_eq C 66 dX12_readAtom_40 (by decide) (by omega) (fun h155 => ?_) (fun h155 => ?_)
      · refine j_aload_n C 0 0 dX12_readAtom_66 rfl rfl ?_
        refine y_bipush C dX12_readAtom_67 rfl ?_
        refine j_callVi C (d := 0) (As := [.int (sI 35)]) (st := []) 98 (s_lt rfl rfl) (s_kc (c := 11) rfl rfl) (by decide) rfl (s1_X12_is hM0 35 (by omega)) gX12_readAtom_X12_is rfl hdX12_is (by decide) (Nat.le_of_ble_eq_true rfl) dX12_readAtom_69 rfl (fun r156 M157 h158 => ?_)
        obtain ⟨a160, rfl, rfl, h159⟩ := h158
        refine y_if_eq C 108 dX12_readAtom_72 (by decide) (by omega) (fun h161 => ?_) (fun h161 => ?_)
        · refine j_aload_n C 0 0 dX12_readAtom_108 rfl rfl ?_
          refine y_iconst C dX12_readAtom_109 ?_
          refine j_callVv C (d := 0) (As := [.int (sI 2)]) (st := []) 98 (s_lt rfl rfl) (s_kc (c := 11) rfl rfl) (by decide) rfl (s1_X12_fails hM0 hpr 2 (by omega) (by omega) (by omega)) gX12_readAtom_X12_fails rfl hdX12_fails (by decide) (Nat.le_of_ble_eq_true rfl) dX12_readAtom_110 rfl (fun M163 h164 => ?_)
          obtain ⟨hM163, fM163, h165⟩ := h164
          have u166c := fun h => ex_c (M := M0) (N := M0) (P := M163) (r := 0) (e := 1) (FR.cell fM163 (by decide)) h
          have u166d := fun h => ex_c (M := M0) (N := M0) (P := M163) (r := 0) (e := 0) (FR.cell fM163 (by decide)) h
          have u166n := INV.rd hM163 (i := 102) (c := 48) (k := 280) rfl rfl
          have zz102_280 : (M163.1 102 280).toInt = (M0.1 102 280).toInt := s_fF fM163 (by decide) (rfl); exact hret _ _ _ dX12_readAtom_113 ⟨hM163, (FR.rf.tr fM163 (by decide)), by omega⟩
        · refine j_aload_n C 0 0 dX12_readAtom_75 rfl rfl ?_
          refine j_iload_n C 1 1 dX12_readAtom_76 rfl rfl ?_
          refine j_callVi C (d := 6) (As := [.int (sI 3)]) (st := []) 98 (s_lt rfl rfl) (s_kc (c := 11) rfl rfl) (by decide) rfl (s4_X12_goesIn hM0 hpr (by omega) (by omega)) gX12_readAtom_X12_goesIn rfl hdX12_goesIn (by decide) (Nat.le_of_ble_eq_true rfl) dX12_readAtom_77 rfl (fun r167 M168 h169 => ?_)
          obtain ⟨a171, rfl, hM168, fM168, h170⟩ := h169
          have u172c := fun h => ex_c (M := M0) (N := M0) (P := M168) (r := 0) (e := 0) (FR.cell fM168 (by decide)) h
          have u172n := INV.rd hM168 (i := 102) (c := 48) (k := 280) rfl rfl
          refine y_if_ne C 84 dX12_readAtom_80 (by decide) (by omega) (fun h173 => ?_) (fun h173 => ?_)
          · refine j_aload_n C 0 0 dX12_readAtom_84 rfl rfl ?_
            refine j_iload_n C 1 1 dX12_readAtom_85 rfl rfl ?_
            refine y_iconst C dX12_readAtom_86 ?_
            refine y_iadd C dX12_readAtom_87 ?_
            refine j_callVv C (d := 15) (As := [.int (sI (3 + 1))]) (st := []) 98 (s_lt rfl rfl) (s_kc (c := 11) rfl rfl) (by decide) rfl (s3_X12_readSum hM168 hpr (by omega) (by omega) (by omega) (by omega)) gX12_readAtom_X12_readSum rfl hdX12_readSum (by decide) (Nat.le_of_ble_eq_true rfl) dX12_readAtom_88 rfl (fun M175 h176 => ?_)
            obtain ⟨hM175, fM175, h177⟩ := h176
            have u178t := fun h1 h2 => ex_tr (M := M0) (N := M168) (P := M175) (r1 := 0) (e1 := 0) (r2 := 0) (e2 := 1) (r := 0) (e := 1) (by decide) h1 h2
            have u178n := INV.rd hM175 (i := 102) (c := 48) (k := 280) rfl rfl
            refine j_aload_n C 0 0 dX12_readAtom_91 rfl rfl ?_
            refine y_bipush C dX12_readAtom_92 rfl ?_
            refine j_callVi C (d := 6) (As := [.int (sI 36)]) (st := []) 98 (s_lt rfl rfl) (s_kc (c := 11) rfl rfl) (by decide) rfl (s1_X12_eats hM175 hpr 36 (by omega) (by omega) (by omega) (by omega)) gX12_readAtom_X12_eats rfl hdX12_eats (by decide) (Nat.le_of_ble_eq_true rfl) dX12_readAtom_94 rfl (fun r179 M180 h181 => ?_)
            obtain ⟨a183, rfl, hM180, fM180, h182⟩ := h181
            have u184c := fun h => ex_c (M := M0) (N := M175) (P := M180) (r := 0) (e := 1) (FR.cell fM180 (by decide)) h
            have u184n := INV.rd hM180 (i := 102) (c := 48) (k := 280) rfl rfl
            refine y_if_ne C 113 dX12_readAtom_97 (by decide) (by omega) (fun h185 => ?_) (fun h185 => ?_)
            · have u186c := fun h => ex_c (M := M0) (N := M175) (P := M180) (r := 0) (e := 1) (FR.cell fM180 (by decide)) h
              have u186d := fun h => ex_c (M := M0) (N := M175) (P := M180) (r := 0) (e := 0) (FR.cell fM180 (by decide)) h
              have u186n := INV.rd hM180 (i := 102) (c := 48) (k := 280) rfl rfl
              have zz102_280 : (M180.1 102 280).toInt = (M175.1 102 280).toInt := s_fF fM180 (by decide) (rfl); exact hret _ _ _ dX12_readAtom_113 ⟨hM180, (((FR.rf.tr fM168 (by decide)).tr fM175 (by decide)).tr fM180 (by decide)), by omega⟩
            · refine j_aload_n C 0 0 dX12_readAtom_100 rfl rfl ?_
              refine y_iconst C dX12_readAtom_101 ?_
              refine j_callVv C (d := 0) (As := [.int (sI 2)]) (st := []) 98 (s_lt rfl rfl) (s_kc (c := 11) rfl rfl) (by decide) rfl (s1_X12_fails hM180 hpr 2 (by omega) (by omega) (by omega)) gX12_readAtom_X12_fails rfl hdX12_fails (by decide) (Nat.le_of_ble_eq_true rfl) dX12_readAtom_102 rfl (fun M188 h189 => ?_)
              obtain ⟨hM188, fM188, h190⟩ := h189
              refine j_goto C 113 dX12_readAtom_105 (by decide) ?_
              have u191c := fun h => ex_c (M := M0) (N := M180) (P := M188) (r := 0) (e := 1) (FR.cell fM188 (by decide)) h
              have u191d := fun h => ex_c (M := M0) (N := M180) (P := M188) (r := 0) (e := 0) (FR.cell fM188 (by decide)) h
              have u191n := INV.rd hM188 (i := 102) (c := 48) (k := 280) rfl rfl
              have zz102_280 : (M188.1 102 280).toInt = (M175.1 102 280).toInt := s_fF fM180 (by decide) (s_fF fM188 (by decide) (rfl)); exact hret _ _ _ dX12_readAtom_113 ⟨hM188, ((((FR.rf.tr fM168 (by decide)).tr fM175 (by decide)).tr fM180 (by decide)).tr fM188 (by decide)), by omega⟩
          · have u192c := fun h => ex_c (M := M0) (N := M0) (P := M168) (r := 0) (e := 1) (FR.cell fM168 (by decide)) h
            have u192d := fun h => ex_c (M := M0) (N := M0) (P := M168) (r := 0) (e := 0) (FR.cell fM168 (by decide)) h
            have u192n := INV.rd hM168 (i := 102) (c := 48) (k := 280) rfl rfl
            have zz102_280 : (M168.1 102 280).toInt = (M0.1 102 280).toInt := s_fF fM168 (by decide) (rfl); exact hret _ _ _ dX12_readAtom_83 ⟨hM168, (FR.rf.tr fM168 (by decide)), by omega⟩
      · refine j_aload_n C 0 0 dX12_readAtom_43 rfl rfl ?_
        refine y_sipush C dX12_readAtom_44 rfl ?_
        refine j_aload_n C 0 0 dX12_readAtom_47 rfl rfl ?_
        refine j_aload_n C 0 0 dX12_readAtom_48 rfl rfl ?_
        refine y_getI C 11 _ _ fX12_readAtom_108 rfl rfl ft_11_9 sb_11_9 hM0 dX12_readAtom_49 (fun a193 ea193 la193 ua193 => ?_)
        obtain rfl : a193 = (M0.1 98 9).toInt := ea193
        refine j_callVi C (d := 0) (As := [.int (sI (M0.1 98 9).toInt)]) (st := [.int (sI 1000), .ref (ad 98)]) 98 (s_lt rfl rfl) (s_kc (c := 11) rfl rfl) (by decide) rfl (s1_X12_wordOf hM0 (M0.1 98 9).toInt (by omega)) gX12_readAtom_X12_wordOf rfl hdX12_wordOf (by decide) (Nat.le_of_ble_eq_true rfl) dX12_readAtom_52 rfl (fun r195 M196 h197 => ?_)
        obtain ⟨a199, rfl, rfl, h198⟩ := h197
        obtain rfl : a199 = (woF (M0.1 98 9).toInt) := by omega
        refine y_iadd C dX12_readAtom_55 ?_
        refine j_callVv C (d := 0) (As := [.int (sI (1000 + (woF (M0.1 98 9).toInt)))]) (st := []) 98 (s_lt rfl rfl) (s_kc (c := 11) rfl rfl) (by decide) rfl (s1_X12_codes hM0 hpr (1000 + (woF (M0.1 98 9).toInt)) (by omega) (by omega) (by omega)) gX12_readAtom_X12_codes rfl hdX12_codes (by decide) (Nat.le_of_ble_eq_true rfl) dX12_readAtom_56 rfl (fun M201 h202 => ?_)
        obtain ⟨hM201, fM201, h203⟩ := h202
        have u204n := INV.rd hM201 (i := 102) (c := 48) (k := 280) rfl rfl
        have u204p := fun h => ap_push (M := M0) (N := M201) (c := (1000 + (woF (M0.1 98 9).toInt))) (by omega) h
        have u204t := fun h1 h2 => ex_tr (M := M0) (N := M0) (P := M201) (r1 := 0) (e1 := 0) (r2 := 0) (e2 := 1) (r := 0) (e := 1) (by decide) h1 h2
        refine j_aload_n C 0 0 dX12_readAtom_59 rfl rfl ?_
        refine j_callVv C (d := 5) (As := []) (st := []) 98 (s_lt rfl rfl) (s_kc (c := 11) rfl rfl) (by decide) rfl (s1_X12_next hM201 hpr (by omega) (by omega) (by omega)) gX12_readAtom_X12_next rfl hdX12_next (by decide) (Nat.le_of_ble_eq_true rfl) dX12_readAtom_60 rfl (fun M206 h207 => ?_)
        obtain ⟨hM206, fM206, h208⟩ := h207
        refine j_goto C 113 dX12_readAtom_63 (by decide) ?_
        have u209c := fun h => ex_c (M := M0) (N := M201) (P := M206) (r := 0) (e := 1) (FR.cell fM206 (by decide)) h
        have u209d := fun h => ex_c (M := M0) (N := M201) (P := M206) (r := 0) (e := 0) (FR.cell fM206 (by decide)) h
        have u209n := INV.rd hM206 (i := 102) (c := 48) (k := 280) rfl rfl
        have zz102_280 : (M206.1 102 280).toInt = (M201.1 102 280).toInt := s_fF fM206 (by decide) (rfl); exact hret _ _ _ dX12_readAtom_113 ⟨hM206, ((FR.rf.tr fM201 (by decide)).tr fM206 (by decide)), by omega⟩
  · refine j_aload_n C 0 0 dX12_readAtom_9 rfl rfl ?_
    refine j_aload_n C 0 0 dX12_readAtom_10 rfl rfl ?_
    refine y_getI C 11 _ _ fX12_readAtom_121 rfl rfl ft_11_10 sb_11_10 hM0 dX12_readAtom_11 (fun a210 ea210 la210 ua210 => ?_)
    obtain rfl : a210 = (M0.1 98 10).toInt := ea210
    refine j_callVv C (d := 0) (As := [.int (sI (M0.1 98 10).toInt)]) (st := []) 98 (s_lt rfl rfl) (s_kc (c := 11) rfl rfl) (by decide) rfl (s1_X12_codes hM0 hpr (M0.1 98 10).toInt (by omega) (by omega) (by omega)) gX12_readAtom_X12_codes rfl hdX12_codes (by decide) (Nat.le_of_ble_eq_true rfl) dX12_readAtom_14 rfl (fun M213 h214 => ?_)
    obtain ⟨hM213, fM213, h215⟩ := h214
    have u216n := INV.rd hM213 (i := 102) (c := 48) (k := 280) rfl rfl
    have u216p := fun h => ap_push (M := M0) (N := M213) (c := (M0.1 98 10).toInt) (by omega) h
    have u216t := fun h1 h2 => ex_tr (M := M0) (N := M0) (P := M213) (r1 := 0) (e1 := 0) (r2 := 0) (e2 := 1) (r := 0) (e := 1) (by decide) h1 h2
    refine j_aload_n C 0 0 dX12_readAtom_17 rfl rfl ?_
    refine j_callVv C (d := 5) (As := []) (st := []) 98 (s_lt rfl rfl) (s_kc (c := 11) rfl rfl) (by decide) rfl (s1_X12_next hM213 hpr (by omega) (by omega) (by omega)) gX12_readAtom_X12_next rfl hdX12_next (by decide) (Nat.le_of_ble_eq_true rfl) dX12_readAtom_18 rfl (fun M218 h219 => ?_)
    obtain ⟨hM218, fM218, h220⟩ := h219
    refine j_goto C 113 dX12_readAtom_21 (by decide) ?_
    have u221c := fun h => ex_c (M := M0) (N := M213) (P := M218) (r := 0) (e := 1) (FR.cell fM218 (by decide)) h
    have u221d := fun h => ex_c (M := M0) (N := M213) (P := M218) (r := 0) (e := 0) (FR.cell fM218 (by decide)) h
    have u221n := INV.rd hM218 (i := 102) (c := 48) (k := 280) rfl rfl
    have zz102_280 : (M218.1 102 280).toInt = (M213.1 102 280).toInt := s_fF fM218 (by decide) (rfl); exact hret _ _ _ dX12_readAtom_113 ⟨hM218, ((FR.rf.tr fM213 (by decide)).tr fM218 (by decide)), by omega⟩
set_option maxHeartbeats 4000000 in
theorem s4_X12_readTerm {l : Launch} {dC : Nat → ClassId} {dI : Nat → Nat → Nat} {ad : Nat → Nat} {cA : Nat → ClassId} {pr : Nat → Nat → Bool} {Kz : mm_M} {M0 : mm_M} (hM0 : INV pr Kz M0) (hpr : PM pr)  (hp0 : (M0.1 98 6).toInt ≤ (M0.1 98 7).toInt ∧ (M0.1 98 7).toInt ≤ (M0.1 98 8).toInt ∧ (M0.1 98 8).toInt ≤ 900 ∧ ((M0.1 98 9).toInt = 24 ∨ (M0.1 98 6).toInt < (M0.1 98 7).toInt)) (hp1 : ¬ (M0.1 98 11).toInt = 0 ∨ (M0.1 102 280).toInt ≤ (M0.1 98 6).toInt) (hp2 : 0 ≤ (M0.1 102 280).toInt) (hp3 : b01 (PI M0) = 1) : Cv l 17 yX12_readTerm wsX12_readTerm dC dI ad cA [.ref (ad 98), .int (sI 3)] M0 (fun M' => INV pr Kz M' ∧ FR [98, 102] M0 M' ∧ ((M'.1 98 6).toInt ≤ (M'.1 98 7).toInt ∧ (M'.1 98 7).toInt ≤ (M'.1 98 8).toInt ∧ (M'.1 98 8).toInt ≤ 900 ∧ ((M'.1 98 9).toInt = 24 ∨ (M'.1 98 6).toInt < (M'.1 98 7).toInt)) ∧ ((M'.1 98 8).toInt = (M0.1 98 8).toInt) ∧ ((M0.1 98 6).toInt ≤ (M'.1 98 6).toInt) ∧ (0 ≤ (M'.1 102 280).toInt) ∧ (¬ (M'.1 98 11).toInt = 0 ∨ (M0.1 98 11).toInt = 0 ∧ (M'.1 102 280).toInt - (M'.1 98 6).toInt + 0 ≤ (M0.1 102 280).toInt - (M0.1 98 6).toInt ∧ (M0.1 102 280).toInt ≤ (M'.1 102 280).toInt ∧ b01 (EXT M0 M' 0 1) = 1) ∧ (b01 (PI M') = 1)) := by
  refine cv_of (cc := cX12_readTerm) (maxL := 2) (lv := [(0, .ref (ad 98)), (1, .int (sI 3))]) (by decide) rfl (Nat.le_of_ble_eq_true rfl) rfl ?_
  intro p e s m args below meth c A Q C hret
  have u101z := ex_0 M0
  have u101n := INV.rd hM0 (i := 102) (c := 48) (k := 280) rfl rfl
  refine j_aload_n C 0 0 dX12_readTerm_0 rfl rfl ?_
  refine j_iload_n C 1 1 dX12_readTerm_1 rfl rfl ?_
  refine j_callVv C (d := 16) (As := [.int (sI 3)]) (st := []) 98 (s_lt rfl rfl) (s_kc (c := 11) rfl rfl) (by decide) rfl (s4_X12_readAtom hM0 hpr (by omega) (by omega) (by omega) (by omega)) gX12_readTerm_X12_readAtom rfl hdX12_readAtom (by decide) (Nat.le_of_ble_eq_true rfl) dX12_readTerm_2 rfl (fun M103 h104 => ?_)
  obtain ⟨hM103, fM103, h105⟩ := h104
  have u106t := fun h1 h2 => ex_tr (M := M0) (N := M0) (P := M103) (r1 := 0) (e1 := 0) (r2 := 0) (e2 := 1) (r := 0) (e := 1) (by decide) h1 h2
  have u106n := INV.rd hM103 (i := 102) (c := 48) (k := 280) rfl rfl
  have L127 : ∀ (n125 : Nat), ∀ (M128 : mm_M), (((M128.1 98 6).toInt ≤ (M128.1 98 7).toInt ∧ (M128.1 98 7).toInt ≤ (M128.1 98 8).toInt ∧ (M128.1 98 8).toInt ≤ 900 ∧ ((M128.1 98 9).toInt = 24 ∨ (M128.1 98 6).toInt < (M128.1 98 7).toInt)) ∧ ((M128.1 98 8).toInt = (M0.1 98 8).toInt) ∧ ((M0.1 98 6).toInt ≤ (M128.1 98 6).toInt) ∧ (0 ≤ (M128.1 102 280).toInt) ∧ (¬ (M128.1 98 11).toInt = 0 ∨ (M0.1 98 11).toInt = 0 ∧ (M128.1 102 280).toInt - (M128.1 98 6).toInt + 0 ≤ (M0.1 102 280).toInt - (M0.1 98 6).toInt ∧ (M0.1 102 280).toInt ≤ (M128.1 102 280).toInt ∧ b01 (EXT M0 M128 0 1) = 1) ∧ (b01 (PI M128) = 1) ∧ (900 - (M128.1 98 6).toInt) < (n125 : Int)) → INV pr Kz M128 → FR [98, 102] M0 M128 → jj p l e (cn_R 17) s m args below meth c 0 0 Q 2 dC dI ad cA A M128 5 [(0, .ref (ad 98)), (1, .int (sI 3))] [] := by
    intro n125
    induction n125 with
    | zero =>
      intro M128 h129 hM128 fM128
      exfalso; omega
    | succ n125 ih126 =>
      intro M128 h129 hM128 fM128
      refine j_aload_n C 0 0 dX12_readTerm_5 rfl rfl ?_
      refine y_bipush C dX12_readTerm_6 rfl ?_
      refine j_callVi C (d := 6) (As := [.int (sI 34)]) (st := []) 98 (s_lt rfl rfl) (s_kc (c := 11) rfl rfl) (by decide) rfl (s1_X12_eats hM128 hpr 34 (by omega) (by omega) (by omega) (by omega)) gX12_readTerm_X12_eats rfl hdX12_eats (by decide) (Nat.le_of_ble_eq_true rfl) dX12_readTerm_8 rfl (fun r130 M131 h132 => ?_)
      obtain ⟨a134, rfl, hM131, fM131, h133⟩ := h132
      have u135c := fun h => ex_c (M := M0) (N := M128) (P := M131) (r := 0) (e := 1) (FR.cell fM131 (by decide)) h
      have u135n := INV.rd hM131 (i := 102) (c := 48) (k := 280) rfl rfl
      refine y_if_eq C 29 dX12_readTerm_11 (by decide) (by omega) (fun h136 => ?_) (fun h136 => ?_)
      · have u147c := fun h => ex_c (M := M0) (N := M128) (P := M131) (r := 0) (e := 1) (FR.cell fM131 (by decide)) h
        have u147d := fun h => ex_c (M := M0) (N := M128) (P := M131) (r := 0) (e := 0) (FR.cell fM131 (by decide)) h
        have u147n := INV.rd hM131 (i := 102) (c := 48) (k := 280) rfl rfl
        have zz102_280 : (M131.1 102 280).toInt = (M128.1 102 280).toInt := s_fF fM131 (by decide) (rfl); exact hret _ _ _ dX12_readTerm_29 ⟨hM131, ((FR.rf.tr fM128 (by decide)).tr fM131 (by decide)), by omega⟩
      · refine j_aload_n C 0 0 dX12_readTerm_14 rfl rfl ?_
        refine j_iload_n C 1 1 dX12_readTerm_15 rfl rfl ?_
        refine j_callVv C (d := 16) (As := [.int (sI 3)]) (st := []) 98 (s_lt rfl rfl) (s_kc (c := 11) rfl rfl) (by decide) rfl (s4_X12_readAtom hM131 hpr (by omega) (by omega) (by omega) (by omega)) gX12_readTerm_X12_readAtom rfl hdX12_readAtom (by decide) (Nat.le_of_ble_eq_true rfl) dX12_readTerm_16 rfl (fun M138 h139 => ?_)
        obtain ⟨hM138, fM138, h140⟩ := h139
        have u141t := fun h1 h2 => ex_tr (M := M0) (N := M131) (P := M138) (r1 := 0) (e1 := 1) (r2 := 0) (e2 := 1) (r := 0) (e := 2) (by decide) h1 h2
        have u141n := INV.rd hM138 (i := 102) (c := 48) (k := 280) rfl rfl
        refine j_aload_n C 0 0 dX12_readTerm_19 rfl rfl ?_
        refine y_sipush C dX12_readTerm_20 rfl ?_
        refine j_callVv C (d := 0) (As := [.int (sI 3002)]) (st := []) 98 (s_lt rfl rfl) (s_kc (c := 11) rfl rfl) (by decide) rfl (s1_X12_codes hM138 hpr 3002 (by omega) (by omega) (by omega)) gX12_readTerm_X12_codes rfl hdX12_codes (by decide) (Nat.le_of_ble_eq_true rfl) dX12_readTerm_23 rfl (fun M143 h144 => ?_)
        obtain ⟨hM143, fM143, h145⟩ := h144
        refine j_goto C 5 dX12_readTerm_26 (by decide) ?_
        have u146n := INV.rd hM143 (i := 102) (c := 48) (k := 280) rfl rfl
        have u146p := fun h => ap_bin (M := M138) (N := M143) (c := 3002) (by omega) h
        have u146t := fun h1 h2 => ex_tr (M := M0) (N := M138) (P := M143) (r1 := 0) (e1 := 2) (r2 := 2) (e2 := (-1)) (r := 0) (e := 1) (by decide) h1 h2
        have zz98_9 : (M143.1 98 9).toInt = (M138.1 98 9).toInt := s_fF fM143 (by decide) (rfl); have zz98_8 : (M143.1 98 8).toInt = (M138.1 98 8).toInt := s_fF fM143 (by decide) (rfl); have zz98_7 : (M143.1 98 7).toInt = (M138.1 98 7).toInt := s_fF fM143 (by decide) (rfl); have zz98_6 : (M143.1 98 6).toInt = (M138.1 98 6).toInt := s_fF fM143 (by decide) (rfl); have zz98_11 : (M143.1 98 11).toInt = (M138.1 98 11).toInt := s_fF fM143 (by decide) (rfl); exact ih126 M143 (by omega) hM143 ((((FR.rf.tr fM128 (by decide)).tr fM131 (by decide)).tr fM138 (by decide)).tr fM143 (by decide))
  exact L127 2010 M103 (by omega) hM103 (FR.rf.tr fM103 (by decide))
set_option maxHeartbeats 4000000 in
theorem s4_X12_readSum {l : Launch} {dC : Nat → ClassId} {dI : Nat → Nat → Nat} {ad : Nat → Nat} {cA : Nat → ClassId} {pr : Nat → Nat → Bool} {Kz : mm_M} {M0 : mm_M} (hM0 : INV pr Kz M0) (hpr : PM pr)  (hp0 : (M0.1 98 6).toInt ≤ (M0.1 98 7).toInt ∧ (M0.1 98 7).toInt ≤ (M0.1 98 8).toInt ∧ (M0.1 98 8).toInt ≤ 900 ∧ ((M0.1 98 9).toInt = 24 ∨ (M0.1 98 6).toInt < (M0.1 98 7).toInt)) (hp1 : ¬ (M0.1 98 11).toInt = 0 ∨ (M0.1 102 280).toInt ≤ (M0.1 98 6).toInt) (hp2 : 0 ≤ (M0.1 102 280).toInt) (hp3 : b01 (PI M0) = 1) : Cv l 18 yX12_readSum wsX12_readSum dC dI ad cA [.ref (ad 98), .int (sI 3)] M0 (fun M' => INV pr Kz M' ∧ FR [98, 102] M0 M' ∧ ((M'.1 98 6).toInt ≤ (M'.1 98 7).toInt ∧ (M'.1 98 7).toInt ≤ (M'.1 98 8).toInt ∧ (M'.1 98 8).toInt ≤ 900 ∧ ((M'.1 98 9).toInt = 24 ∨ (M'.1 98 6).toInt < (M'.1 98 7).toInt)) ∧ ((M'.1 98 8).toInt = (M0.1 98 8).toInt) ∧ ((M0.1 98 6).toInt ≤ (M'.1 98 6).toInt) ∧ (0 ≤ (M'.1 102 280).toInt) ∧ (¬ (M'.1 98 11).toInt = 0 ∨ (M0.1 98 11).toInt = 0 ∧ (M'.1 102 280).toInt - (M'.1 98 6).toInt + 0 ≤ (M0.1 102 280).toInt - (M0.1 98 6).toInt ∧ (M0.1 102 280).toInt ≤ (M'.1 102 280).toInt ∧ b01 (EXT M0 M' 0 1) = 1) ∧ (b01 (PI M') = 1)) := by
  refine cv_of (cc := cX12_readSum) (maxL := 3) (lv := [(0, .ref (ad 98)), (1, .int (sI 3))]) (by decide) rfl (Nat.le_of_ble_eq_true rfl) rfl ?_
  intro p e s m args below meth c A Q C hret
  have u101z := ex_0 M0
  have u101n := INV.rd hM0 (i := 102) (c := 48) (k := 280) rfl rfl
  refine j_aload_n C 0 0 dX12_readSum_0 rfl rfl ?_
  refine j_iload_n C 1 1 dX12_readSum_1 rfl rfl ?_
  refine j_callVv C (d := 17) (As := [.int (sI 3)]) (st := []) 98 (s_lt rfl rfl) (s_kc (c := 11) rfl rfl) (by decide) rfl (s4_X12_readTerm hM0 hpr (by omega) (by omega) (by omega) (by omega)) gX12_readSum_X12_readTerm rfl hdX12_readTerm (by decide) (Nat.le_of_ble_eq_true rfl) dX12_readSum_2 rfl (fun M103 h104 => ?_)
  obtain ⟨hM103, fM103, h105⟩ := h104
  have u106t := fun h1 h2 => ex_tr (M := M0) (N := M0) (P := M103) (r1 := 0) (e1 := 0) (r2 := 0) (e2 := 1) (r := 0) (e := 1) (by decide) h1 h2
  have u106n := INV.rd hM103 (i := 102) (c := 48) (k := 280) rfl rfl
  have L164 : ∀ (n162 : Nat), ∀ (M165 : mm_M), (((M165.1 98 6).toInt ≤ (M165.1 98 7).toInt ∧ (M165.1 98 7).toInt ≤ (M165.1 98 8).toInt ∧ (M165.1 98 8).toInt ≤ 900 ∧ ((M165.1 98 9).toInt = 24 ∨ (M165.1 98 6).toInt < (M165.1 98 7).toInt)) ∧ ((M165.1 98 8).toInt = (M0.1 98 8).toInt) ∧ ((M0.1 98 6).toInt ≤ (M165.1 98 6).toInt) ∧ (0 ≤ (M165.1 102 280).toInt) ∧ (¬ (M165.1 98 11).toInt = 0 ∨ (M0.1 98 11).toInt = 0 ∧ (M165.1 102 280).toInt - (M165.1 98 6).toInt + 0 ≤ (M0.1 102 280).toInt - (M0.1 98 6).toInt ∧ (M0.1 102 280).toInt ≤ (M165.1 102 280).toInt ∧ b01 (EXT M0 M165 0 1) = 1) ∧ (b01 (PI M165) = 1) ∧ (900 - (M165.1 98 6).toInt) < (n162 : Int)) → INV pr Kz M165 → FR [98, 102] M0 M165 → jj p l e (cn_R 18) s m args below meth c 0 0 Q 3 dC dI ad cA A M165 5 [(0, .ref (ad 98)), (1, .int (sI 3))] [] := by
    intro n162
    induction n162 with
    | zero =>
      intro M165 h166 hM165 fM165
      exfalso; omega
    | succ n162 ih163 =>
      intro M165 h166 hM165 fM165
      refine j_aload_n C 0 0 dX12_readSum_5 rfl rfl ?_
      refine y_bipush C dX12_readSum_6 rfl ?_
      refine j_callVi C (d := 0) (As := [.int (sI 32)]) (st := []) 98 (s_lt rfl rfl) (s_kc (c := 11) rfl rfl) (by decide) rfl (s1_X12_is hM165 32 (by omega)) gX12_readSum_X12_is rfl hdX12_is (by decide) (Nat.le_of_ble_eq_true rfl) dX12_readSum_8 rfl (fun r167 M168 h169 => ?_)
      obtain ⟨a171, rfl, rfl, h170⟩ := h169
      refine y_if_ne C 23 dX12_readSum_11 (by decide) (by omega) (fun h172 => ?_) (fun h172 => ?_)
      · refine j_aload_n C 0 0 dX12_readSum_23 rfl rfl ?_
        refine y_getI C 11 _ _ fX12_readSum_108 rfl rfl ft_11_9 sb_11_9 hM165 dX12_readSum_24 (fun a173 ea173 la173 ua173 => ?_)
        obtain rfl : a173 = (M165.1 98 9).toInt := ea173
        refine y_bipush C dX12_readSum_27 rfl ?_
        have J177 : ∀ (a176 : Int), (3000 ≤ a176 ∧ a176 ≤ 3001) → jj p l e (cn_R 18) s m args below meth c 0 0 Q 3 dC dI ad cA A M165 41 [(0, .ref (ad 98)), (1, .int (sI 3))] [.int (sI a176)] := by
          intro a176 h178
          refine j_istore_n C 2 [(2, .int (sI a176)), (0, .ref (ad 98)), (1, .int (sI 3))] dX12_readSum_41 rfl (by decide) rfl ?_
          refine j_aload_n C 1 0 dX12_readSum_42 rfl rfl ?_
          refine j_callVv C (d := 5) (As := []) (st := []) 98 (s_lt rfl rfl) (s_kc (c := 11) rfl rfl) (by decide) rfl (s1_X12_next hM165 hpr (by omega) (by omega) (by omega)) gX12_readSum_X12_next rfl hdX12_next (by decide) (Nat.le_of_ble_eq_true rfl) dX12_readSum_43 rfl (fun M180 h181 => ?_)
          obtain ⟨hM180, fM180, h182⟩ := h181
          have u183c := fun h => ex_c (M := M0) (N := M165) (P := M180) (r := 0) (e := 1) (FR.cell fM180 (by decide)) h
          have u183n := INV.rd hM180 (i := 102) (c := 48) (k := 280) rfl rfl
          refine j_aload_n C 1 0 dX12_readSum_46 rfl rfl ?_
          refine j_iload_n C 2 1 dX12_readSum_47 rfl rfl ?_
          refine j_callVv C (d := 17) (As := [.int (sI 3)]) (st := []) 98 (s_lt rfl rfl) (s_kc (c := 11) rfl rfl) (by decide) rfl (s4_X12_readTerm hM180 hpr (by omega) (by omega) (by omega) (by omega)) gX12_readSum_X12_readTerm rfl hdX12_readTerm (by decide) (Nat.le_of_ble_eq_true rfl) dX12_readSum_48 rfl (fun M185 h186 => ?_)
          obtain ⟨hM185, fM185, h187⟩ := h186
          have u188t := fun h1 h2 => ex_tr (M := M0) (N := M180) (P := M185) (r1 := 0) (e1 := 1) (r2 := 0) (e2 := 1) (r := 0) (e := 2) (by decide) h1 h2
          have u188n := INV.rd hM185 (i := 102) (c := 48) (k := 280) rfl rfl
          refine j_aload_n C 1 0 dX12_readSum_51 rfl rfl ?_
          refine j_iload_n C 0 2 dX12_readSum_52 rfl rfl ?_
          refine j_callVv C (d := 0) (As := [.int (sI a176)]) (st := []) 98 (s_lt rfl rfl) (s_kc (c := 11) rfl rfl) (by decide) rfl (s1_X12_codes hM185 hpr a176 (by omega) (by omega) (by omega)) gX12_readSum_X12_codes rfl hdX12_codes (by decide) (Nat.le_of_ble_eq_true rfl) dX12_readSum_53 rfl (fun M190 h191 => ?_)
          obtain ⟨hM190, fM190, h192⟩ := h191
          refine j_goto C 5 dX12_readSum_56 (by decide) ?_
          have u193n := INV.rd hM190 (i := 102) (c := 48) (k := 280) rfl rfl
          have u193p := fun h => ap_bin (M := M185) (N := M190) (c := a176) (by omega) h
          have u193t := fun h1 h2 => ex_tr (M := M0) (N := M185) (P := M190) (r1 := 0) (e1 := 2) (r2 := 2) (e2 := (-1)) (r := 0) (e := 1) (by decide) h1 h2
          have zz98_9 : (M190.1 98 9).toInt = (M185.1 98 9).toInt := s_fF fM190 (by decide) (rfl); have zz98_8 : (M190.1 98 8).toInt = (M185.1 98 8).toInt := s_fF fM190 (by decide) (rfl); have zz98_7 : (M190.1 98 7).toInt = (M185.1 98 7).toInt := s_fF fM190 (by decide) (rfl); have zz98_6 : (M190.1 98 6).toInt = (M185.1 98 6).toInt := s_fF fM190 (by decide) (rfl); have zz98_11 : (M190.1 98 11).toInt = (M185.1 98 11).toInt := s_fF fM190 (by decide) (rfl); refine j_lv [1, 2] rfl ?_; exact ih163 M190 (by omega) hM190 ((((FR.rf.tr fM165 (by decide)).tr fM180 (by decide)).tr fM185 (by decide)).tr fM190 (by decide))
        refine y_icmp_ne C 38 dX12_readSum_29 (by decide) (by omega) (fun h175 => ?_) (fun h175 => ?_)
        · refine y_sipush C dX12_readSum_38 rfl ?_
          exact J177 3001 (by omega)
        · refine y_sipush C dX12_readSum_32 rfl ?_
          refine j_goto C 41 dX12_readSum_35 (by decide) ?_
          exact J177 3000 (by omega)
      · refine j_aload_n C 0 0 dX12_readSum_14 rfl rfl ?_
        refine y_bipush C dX12_readSum_15 rfl ?_
        refine j_callVi C (d := 0) (As := [.int (sI 33)]) (st := []) 98 (s_lt rfl rfl) (s_kc (c := 11) rfl rfl) (by decide) rfl (s1_X12_is hM165 33 (by omega)) gX12_readSum_X12_is rfl hdX12_is (by decide) (Nat.le_of_ble_eq_true rfl) dX12_readSum_17 rfl (fun r194 M195 h196 => ?_)
        obtain ⟨a198, rfl, rfl, h197⟩ := h196
        refine y_if_eq C 59 dX12_readSum_20 (by decide) (by omega) (fun h199 => ?_) (fun h199 => ?_)
        · have u221n := INV.rd hM165 (i := 102) (c := 48) (k := 280) rfl rfl
          exact hret _ _ _ dX12_readSum_59 ⟨hM165, (FR.rf.tr fM165 (by decide)), by omega⟩
        · refine j_aload_n C 0 0 dX12_readSum_23 rfl rfl ?_
          refine y_getI C 11 _ _ fX12_readSum_108 rfl rfl ft_11_9 sb_11_9 hM165 dX12_readSum_24 (fun a200 ea200 la200 ua200 => ?_)
          obtain rfl : a200 = (M165.1 98 9).toInt := ea200
          refine y_bipush C dX12_readSum_27 rfl ?_
          have J204 : ∀ (a203 : Int), (3000 ≤ a203 ∧ a203 ≤ 3001) → jj p l e (cn_R 18) s m args below meth c 0 0 Q 3 dC dI ad cA A M165 41 [(0, .ref (ad 98)), (1, .int (sI 3))] [.int (sI a203)] := by
            intro a203 h205
            refine j_istore_n C 2 [(2, .int (sI a203)), (0, .ref (ad 98)), (1, .int (sI 3))] dX12_readSum_41 rfl (by decide) rfl ?_
            refine j_aload_n C 1 0 dX12_readSum_42 rfl rfl ?_
            refine j_callVv C (d := 5) (As := []) (st := []) 98 (s_lt rfl rfl) (s_kc (c := 11) rfl rfl) (by decide) rfl (s1_X12_next hM165 hpr (by omega) (by omega) (by omega)) gX12_readSum_X12_next rfl hdX12_next (by decide) (Nat.le_of_ble_eq_true rfl) dX12_readSum_43 rfl (fun M207 h208 => ?_)
            obtain ⟨hM207, fM207, h209⟩ := h208
            have u210c := fun h => ex_c (M := M0) (N := M165) (P := M207) (r := 0) (e := 1) (FR.cell fM207 (by decide)) h
            have u210n := INV.rd hM207 (i := 102) (c := 48) (k := 280) rfl rfl
            refine j_aload_n C 1 0 dX12_readSum_46 rfl rfl ?_
            refine j_iload_n C 2 1 dX12_readSum_47 rfl rfl ?_
            refine j_callVv C (d := 17) (As := [.int (sI 3)]) (st := []) 98 (s_lt rfl rfl) (s_kc (c := 11) rfl rfl) (by decide) rfl (s4_X12_readTerm hM207 hpr (by omega) (by omega) (by omega) (by omega)) gX12_readSum_X12_readTerm rfl hdX12_readTerm (by decide) (Nat.le_of_ble_eq_true rfl) dX12_readSum_48 rfl (fun M212 h213 => ?_)
            obtain ⟨hM212, fM212, h214⟩ := h213
            have u215t := fun h1 h2 => ex_tr (M := M0) (N := M207) (P := M212) (r1 := 0) (e1 := 1) (r2 := 0) (e2 := 1) (r := 0) (e := 2) (by decide) h1 h2
            have u215n := INV.rd hM212 (i := 102) (c := 48) (k := 280) rfl rfl
            refine j_aload_n C 1 0 dX12_readSum_51 rfl rfl ?_
            refine j_iload_n C 0 2 dX12_readSum_52 rfl rfl ?_
            refine j_callVv C (d := 0) (As := [.int (sI a203)]) (st := []) 98 (s_lt rfl rfl) (s_kc (c := 11) rfl rfl) (by decide) rfl (s1_X12_codes hM212 hpr a203 (by omega) (by omega) (by omega)) gX12_readSum_X12_codes rfl hdX12_codes (by decide) (Nat.le_of_ble_eq_true rfl) dX12_readSum_53 rfl (fun M217 h218 => ?_)
            obtain ⟨hM217, fM217, h219⟩ := h218
            refine j_goto C 5 dX12_readSum_56 (by decide) ?_
            have u220n := INV.rd hM217 (i := 102) (c := 48) (k := 280) rfl rfl
            have u220p := fun h => ap_bin (M := M212) (N := M217) (c := a203) (by omega) h
            have u220t := fun h1 h2 => ex_tr (M := M0) (N := M212) (P := M217) (r1 := 0) (e1 := 2) (r2 := 2) (e2 := (-1)) (r := 0) (e := 1) (by decide) h1 h2
            have zz98_9 : (M217.1 98 9).toInt = (M212.1 98 9).toInt := s_fF fM217 (by decide) (rfl); have zz98_8 : (M217.1 98 8).toInt = (M212.1 98 8).toInt := s_fF fM217 (by decide) (rfl); have zz98_7 : (M217.1 98 7).toInt = (M212.1 98 7).toInt := s_fF fM217 (by decide) (rfl); have zz98_6 : (M217.1 98 6).toInt = (M212.1 98 6).toInt := s_fF fM217 (by decide) (rfl); have zz98_11 : (M217.1 98 11).toInt = (M212.1 98 11).toInt := s_fF fM217 (by decide) (rfl); refine j_lv [1, 2] rfl ?_; exact ih163 M217 (by omega) hM217 ((((FR.rf.tr fM165 (by decide)).tr fM207 (by decide)).tr fM212 (by decide)).tr fM217 (by decide))
          refine y_icmp_ne C 38 dX12_readSum_29 (by decide) (by omega) (fun h202 => ?_) (fun h202 => ?_)
          · refine y_sipush C dX12_readSum_38 rfl ?_
            exact J204 3001 (by omega)
          · refine y_sipush C dX12_readSum_32 rfl ?_
            refine j_goto C 41 dX12_readSum_35 (by decide) ?_
            exact J204 3000 (by omega)
  exact L164 2010 M103 (by omega) hM103 (FR.rf.tr fM103 (by decide))
set_option maxHeartbeats 4000000 in
theorem s5_X12_readAtom {l : Launch} {dC : Nat → ClassId} {dI : Nat → Nat → Nat} {ad : Nat → Nat} {cA : Nat → ClassId} {pr : Nat → Nat → Bool} {Kz : mm_M} {M0 : mm_M} (hM0 : INV pr Kz M0) (hpr : PM pr)  (hp0 : (M0.1 98 6).toInt ≤ (M0.1 98 7).toInt ∧ (M0.1 98 7).toInt ≤ (M0.1 98 8).toInt ∧ (M0.1 98 8).toInt ≤ 900 ∧ ((M0.1 98 9).toInt = 24 ∨ (M0.1 98 6).toInt < (M0.1 98 7).toInt)) (hp1 : ¬ (M0.1 98 11).toInt = 0 ∨ (M0.1 102 280).toInt ≤ (M0.1 98 6).toInt) (hp2 : 0 ≤ (M0.1 102 280).toInt) (hp3 : b01 (PI M0) = 1) : Cv l 19 yX12_readAtom wsX12_readAtom dC dI ad cA [.ref (ad 98), .int (sI 2)] M0 (fun M' => INV pr Kz M' ∧ FR [98, 102] M0 M' ∧ ((M'.1 98 6).toInt ≤ (M'.1 98 7).toInt ∧ (M'.1 98 7).toInt ≤ (M'.1 98 8).toInt ∧ (M'.1 98 8).toInt ≤ 900 ∧ ((M'.1 98 9).toInt = 24 ∨ (M'.1 98 6).toInt < (M'.1 98 7).toInt)) ∧ ((M'.1 98 8).toInt = (M0.1 98 8).toInt) ∧ ((M0.1 98 6).toInt ≤ (M'.1 98 6).toInt) ∧ (0 ≤ (M'.1 102 280).toInt) ∧ (¬ (M'.1 98 11).toInt = 0 ∨ (M0.1 98 11).toInt = 0 ∧ (M'.1 102 280).toInt - (M'.1 98 6).toInt + 0 ≤ (M0.1 102 280).toInt - (M0.1 98 6).toInt ∧ (M0.1 102 280).toInt ≤ (M'.1 102 280).toInt ∧ b01 (EXT M0 M' 0 1) = 1) ∧ (b01 (PI M') = 1)) := by
  refine cv_of (cc := cX12_readAtom) (maxL := 2) (lv := [(0, .ref (ad 98)), (1, .int (sI 2))]) (by decide) rfl (Nat.le_of_ble_eq_true rfl) rfl ?_
  intro p e s m args below meth c A Q C hret
  have u101z := ex_0 M0
  have u101n := INV.rd hM0 (i := 102) (c := 48) (k := 280) rfl rfl
  refine j_aload_n C 0 0 dX12_readAtom_0 rfl rfl ?_
  refine y_bipush C dX12_readAtom_1 rfl ?_
  refine j_callVi C (d := 0) (As := [.int (sI 23)]) (st := []) 98 (s_lt rfl rfl) (s_kc (c := 11) rfl rfl) (by decide) rfl (s1_X12_is hM0 23 (by omega)) gX12_readAtom_X12_is rfl hdX12_is (by decide) (Nat.le_of_ble_eq_true rfl) dX12_readAtom_3 rfl (fun r102 M103 h104 => ?_)
  obtain ⟨a106, rfl, rfl, h105⟩ := h104
  refine y_if_eq C 24 dX12_readAtom_6 (by decide) (by omega) (fun h107 => ?_) (fun h107 => ?_)
  · refine j_aload_n C 0 0 dX12_readAtom_24 rfl rfl ?_
    refine y_getI C 11 _ _ fX12_readAtom_126 rfl rfl ft_11_11 sb_11_11 hM0 dX12_readAtom_25 (fun a108 ea108 la108 ua108 => ?_)
    obtain rfl : a108 = (M0.1 98 11).toInt := ea108
    refine y_if_ne C 66 dX12_readAtom_28 (by decide) (by omega) (fun h110 => ?_) (fun h110 => ?_)
    · refine j_aload_n C 0 0 dX12_readAtom_66 rfl rfl ?_
      refine y_bipush C dX12_readAtom_67 rfl ?_
      refine j_callVi C (d := 0) (As := [.int (sI 35)]) (st := []) 98 (s_lt rfl rfl) (s_kc (c := 11) rfl rfl) (by decide) rfl (s1_X12_is hM0 35 (by omega)) gX12_readAtom_X12_is rfl hdX12_is (by decide) (Nat.le_of_ble_eq_true rfl) dX12_readAtom_69 rfl (fun r111 M112 h113 => ?_)
      obtain ⟨a115, rfl, rfl, h114⟩ := h113
      refine y_if_eq C 108 dX12_readAtom_72 (by decide) (by omega) (fun h116 => ?_) (fun h116 => ?_)
      · refine j_aload_n C 0 0 dX12_readAtom_108 rfl rfl ?_
        refine y_iconst C dX12_readAtom_109 ?_
        refine j_callVv C (d := 0) (As := [.int (sI 2)]) (st := []) 98 (s_lt rfl rfl) (s_kc (c := 11) rfl rfl) (by decide) rfl (s1_X12_fails hM0 hpr 2 (by omega) (by omega) (by omega)) gX12_readAtom_X12_fails rfl hdX12_fails (by decide) (Nat.le_of_ble_eq_true rfl) dX12_readAtom_110 rfl (fun M118 h119 => ?_)
        obtain ⟨hM118, fM118, h120⟩ := h119
        have u121c := fun h => ex_c (M := M0) (N := M0) (P := M118) (r := 0) (e := 1) (FR.cell fM118 (by decide)) h
        have u121d := fun h => ex_c (M := M0) (N := M0) (P := M118) (r := 0) (e := 0) (FR.cell fM118 (by decide)) h
        have u121n := INV.rd hM118 (i := 102) (c := 48) (k := 280) rfl rfl
        have zz102_280 : (M118.1 102 280).toInt = (M0.1 102 280).toInt := s_fF fM118 (by decide) (rfl); exact hret _ _ _ dX12_readAtom_113 ⟨hM118, (FR.rf.tr fM118 (by decide)), by omega⟩
      · refine j_aload_n C 0 0 dX12_readAtom_75 rfl rfl ?_
        refine j_iload_n C 1 1 dX12_readAtom_76 rfl rfl ?_
        refine j_callVi C (d := 6) (As := [.int (sI 2)]) (st := []) 98 (s_lt rfl rfl) (s_kc (c := 11) rfl rfl) (by decide) rfl (s3_X12_goesIn hM0 hpr (by omega) (by omega)) gX12_readAtom_X12_goesIn rfl hdX12_goesIn (by decide) (Nat.le_of_ble_eq_true rfl) dX12_readAtom_77 rfl (fun r122 M123 h124 => ?_)
        obtain ⟨a126, rfl, hM123, fM123, h125⟩ := h124
        have u127c := fun h => ex_c (M := M0) (N := M0) (P := M123) (r := 0) (e := 0) (FR.cell fM123 (by decide)) h
        have u127n := INV.rd hM123 (i := 102) (c := 48) (k := 280) rfl rfl
        refine y_if_ne C 84 dX12_readAtom_80 (by decide) (by omega) (fun h128 => ?_) (fun h128 => ?_)
        · refine j_aload_n C 0 0 dX12_readAtom_84 rfl rfl ?_
          refine j_iload_n C 1 1 dX12_readAtom_85 rfl rfl ?_
          refine y_iconst C dX12_readAtom_86 ?_
          refine y_iadd C dX12_readAtom_87 ?_
          refine j_callVv C (d := 18) (As := [.int (sI (2 + 1))]) (st := []) 98 (s_lt rfl rfl) (s_kc (c := 11) rfl rfl) (by decide) rfl (s4_X12_readSum hM123 hpr (by omega) (by omega) (by omega) (by omega)) gX12_readAtom_X12_readSum rfl hdX12_readSum (by decide) (Nat.le_of_ble_eq_true rfl) dX12_readAtom_88 rfl (fun M130 h131 => ?_)
          obtain ⟨hM130, fM130, h132⟩ := h131
          have u133t := fun h1 h2 => ex_tr (M := M0) (N := M123) (P := M130) (r1 := 0) (e1 := 0) (r2 := 0) (e2 := 1) (r := 0) (e := 1) (by decide) h1 h2
          have u133n := INV.rd hM130 (i := 102) (c := 48) (k := 280) rfl rfl
          refine j_aload_n C 0 0 dX12_readAtom_91 rfl rfl ?_
          refine y_bipush C dX12_readAtom_92 rfl ?_
          refine j_callVi C (d := 6) (As := [.int (sI 36)]) (st := []) 98 (s_lt rfl rfl) (s_kc (c := 11) rfl rfl) (by decide) rfl (s1_X12_eats hM130 hpr 36 (by omega) (by omega) (by omega) (by omega)) gX12_readAtom_X12_eats rfl hdX12_eats (by decide) (Nat.le_of_ble_eq_true rfl) dX12_readAtom_94 rfl (fun r134 M135 h136 => ?_)
          obtain ⟨a138, rfl, hM135, fM135, h137⟩ := h136
          have u139c := fun h => ex_c (M := M0) (N := M130) (P := M135) (r := 0) (e := 1) (FR.cell fM135 (by decide)) h
          have u139n := INV.rd hM135 (i := 102) (c := 48) (k := 280) rfl rfl
          refine y_if_ne C 113 dX12_readAtom_97 (by decide) (by omega) (fun h140 => ?_) (fun h140 => ?_)
          · have u141c := fun h => ex_c (M := M0) (N := M130) (P := M135) (r := 0) (e := 1) (FR.cell fM135 (by decide)) h
            have u141d := fun h => ex_c (M := M0) (N := M130) (P := M135) (r := 0) (e := 0) (FR.cell fM135 (by decide)) h
            have u141n := INV.rd hM135 (i := 102) (c := 48) (k := 280) rfl rfl
            have zz102_280 : (M135.1 102 280).toInt = (M130.1 102 280).toInt := s_fF fM135 (by decide) (rfl); exact hret _ _ _ dX12_readAtom_113 ⟨hM135, (((FR.rf.tr fM123 (by decide)).tr fM130 (by decide)).tr fM135 (by decide)), by omega⟩
          · refine j_aload_n C 0 0 dX12_readAtom_100 rfl rfl ?_
            refine y_iconst C dX12_readAtom_101 ?_
            refine j_callVv C (d := 0) (As := [.int (sI 2)]) (st := []) 98 (s_lt rfl rfl) (s_kc (c := 11) rfl rfl) (by decide) rfl (s1_X12_fails hM135 hpr 2 (by omega) (by omega) (by omega)) gX12_readAtom_X12_fails rfl hdX12_fails (by decide) (Nat.le_of_ble_eq_true rfl) dX12_readAtom_102 rfl (fun M143 h144 => ?_)
            obtain ⟨hM143, fM143, h145⟩ := h144
            refine j_goto C 113 dX12_readAtom_105 (by decide) ?_
            have u146c := fun h => ex_c (M := M0) (N := M135) (P := M143) (r := 0) (e := 1) (FR.cell fM143 (by decide)) h
            have u146d := fun h => ex_c (M := M0) (N := M135) (P := M143) (r := 0) (e := 0) (FR.cell fM143 (by decide)) h
            have u146n := INV.rd hM143 (i := 102) (c := 48) (k := 280) rfl rfl
            have zz102_280 : (M143.1 102 280).toInt = (M130.1 102 280).toInt := s_fF fM135 (by decide) (s_fF fM143 (by decide) (rfl)); exact hret _ _ _ dX12_readAtom_113 ⟨hM143, ((((FR.rf.tr fM123 (by decide)).tr fM130 (by decide)).tr fM135 (by decide)).tr fM143 (by decide)), by omega⟩
        · have u147c := fun h => ex_c (M := M0) (N := M0) (P := M123) (r := 0) (e := 1) (FR.cell fM123 (by decide)) h
          have u147d := fun h => ex_c (M := M0) (N := M0) (P := M123) (r := 0) (e := 0) (FR.cell fM123 (by decide)) h
          have u147n := INV.rd hM123 (i := 102) (c := 48) (k := 280) rfl rfl
          have zz102_280 : (M123.1 102 280).toInt = (M0.1 102 280).toInt := s_fF fM123 (by decide) (rfl); exact hret _ _ _ dX12_readAtom_83 ⟨hM123, (FR.rf.tr fM123 (by decide)), by omega⟩
    · refine j_aload_n C 0 0 dX12_readAtom_31 rfl rfl ?_
      refine j_aload_n C 0 0 dX12_readAtom_32 rfl rfl ?_
      refine y_getI C 11 _ _ fX12_readAtom_108 rfl rfl ft_11_9 sb_11_9 hM0 dX12_readAtom_33 (fun a148 ea148 la148 ua148 => ?_)
      obtain rfl : a148 = (M0.1 98 9).toInt := ea148
      refine j_callVi C (d := 0) (As := [.int (sI (M0.1 98 9).toInt)]) (st := []) 98 (s_lt rfl rfl) (s_kc (c := 11) rfl rfl) (by decide) rfl (s1_X12_wordOf hM0 (M0.1 98 9).toInt (by omega)) gX12_readAtom_X12_wordOf rfl hdX12_wordOf (by decide) (Nat.le_of_ble_eq_true rfl) dX12_readAtom_36 rfl (fun r150 M151 h152 => ?_)
      obtain ⟨a154, rfl, rfl, h153⟩ := h152
      obtain rfl : a154 = (woF (M0.1 98 9).toInt) := by omega
      refine y_iconst C dX12_readAtom_39 ?_
      refine y_icmp_eq C 66 dX12_readAtom_40 (by decide) (by omega) (fun h155 => ?_) (fun h155 => ?_)
      · refine j_aload_n C 0 0 dX12_readAtom_66 rfl rfl ?_
        refine y_bipush C dX12_readAtom_67 rfl ?_
        refine j_callVi C (d := 0) (As := [.int (sI 35)]) (st := []) 98 (s_lt rfl rfl) (s_kc (c := 11) rfl rfl) (by decide) rfl (s1_X12_is hM0 35 (by omega)) gX12_readAtom_X12_is rfl hdX12_is (by decide) (Nat.le_of_ble_eq_true rfl) dX12_readAtom_69 rfl (fun r156 M157 h158 => ?_)
        obtain ⟨a160, rfl, rfl, h159⟩ := h158
        refine y_if_eq C 108 dX12_readAtom_72 (by decide) (by omega) (fun h161 => ?_) (fun h161 => ?_)
        · refine j_aload_n C 0 0 dX12_readAtom_108 rfl rfl ?_
          refine y_iconst C dX12_readAtom_109 ?_
          refine j_callVv C (d := 0) (As := [.int (sI 2)]) (st := []) 98 (s_lt rfl rfl) (s_kc (c := 11) rfl rfl) (by decide) rfl (s1_X12_fails hM0 hpr 2 (by omega) (by omega) (by omega)) gX12_readAtom_X12_fails rfl hdX12_fails (by decide) (Nat.le_of_ble_eq_true rfl) dX12_readAtom_110 rfl (fun M163 h164 => ?_)
          obtain ⟨hM163, fM163, h165⟩ := h164
          have u166c := fun h => ex_c (M := M0) (N := M0) (P := M163) (r := 0) (e := 1) (FR.cell fM163 (by decide)) h
          have u166d := fun h => ex_c (M := M0) (N := M0) (P := M163) (r := 0) (e := 0) (FR.cell fM163 (by decide)) h
          have u166n := INV.rd hM163 (i := 102) (c := 48) (k := 280) rfl rfl
          have zz102_280 : (M163.1 102 280).toInt = (M0.1 102 280).toInt := s_fF fM163 (by decide) (rfl); exact hret _ _ _ dX12_readAtom_113 ⟨hM163, (FR.rf.tr fM163 (by decide)), by omega⟩
        · refine j_aload_n C 0 0 dX12_readAtom_75 rfl rfl ?_
          refine j_iload_n C 1 1 dX12_readAtom_76 rfl rfl ?_
          refine j_callVi C (d := 6) (As := [.int (sI 2)]) (st := []) 98 (s_lt rfl rfl) (s_kc (c := 11) rfl rfl) (by decide) rfl (s3_X12_goesIn hM0 hpr (by omega) (by omega)) gX12_readAtom_X12_goesIn rfl hdX12_goesIn (by decide) (Nat.le_of_ble_eq_true rfl) dX12_readAtom_77 rfl (fun r167 M168 h169 => ?_)
          obtain ⟨a171, rfl, hM168, fM168, h170⟩ := h169
          have u172c := fun h => ex_c (M := M0) (N := M0) (P := M168) (r := 0) (e := 0) (FR.cell fM168 (by decide)) h
          have u172n := INV.rd hM168 (i := 102) (c := 48) (k := 280) rfl rfl
          refine y_if_ne C 84 dX12_readAtom_80 (by decide) (by omega) (fun h173 => ?_) (fun h173 => ?_)
          · refine j_aload_n C 0 0 dX12_readAtom_84 rfl rfl ?_
            refine j_iload_n C 1 1 dX12_readAtom_85 rfl rfl ?_
            refine y_iconst C dX12_readAtom_86 ?_
            refine y_iadd C dX12_readAtom_87 ?_
            refine j_callVv C (d := 18) (As := [.int (sI (2 + 1))]) (st := []) 98 (s_lt rfl rfl) (s_kc (c := 11) rfl rfl) (by decide) rfl (s4_X12_readSum hM168 hpr (by omega) (by omega) (by omega) (by omega)) gX12_readAtom_X12_readSum rfl hdX12_readSum (by decide) (Nat.le_of_ble_eq_true rfl) dX12_readAtom_88 rfl (fun M175 h176 => ?_)
            obtain ⟨hM175, fM175, h177⟩ := h176
            have u178t := fun h1 h2 => ex_tr (M := M0) (N := M168) (P := M175) (r1 := 0) (e1 := 0) (r2 := 0) (e2 := 1) (r := 0) (e := 1) (by decide) h1 h2
            have u178n := INV.rd hM175 (i := 102) (c := 48) (k := 280) rfl rfl
            refine j_aload_n C 0 0 dX12_readAtom_91 rfl rfl ?_
            refine y_bipush C dX12_readAtom_92 rfl ?_
            refine j_callVi C (d := 6) (As := [.int (sI 36)]) (st := []) 98 (s_lt rfl rfl) (s_kc (c := 11) rfl rfl) (by decide) rfl (s1_X12_eats hM175 hpr 36 (by omega) (by omega) (by omega) (by omega)) gX12_readAtom_X12_eats rfl hdX12_eats (by decide) (Nat.le_of_ble_eq_true rfl) dX12_readAtom_94 rfl (fun r179 M180 h181 => ?_)
            obtain ⟨a183, rfl, hM180, fM180, h182⟩ := h181
            have u184c := fun h => ex_c (M := M0) (N := M175) (P := M180) (r := 0) (e := 1) (FR.cell fM180 (by decide)) h
            have u184n := INV.rd hM180 (i := 102) (c := 48) (k := 280) rfl rfl
            refine y_if_ne C 113 dX12_readAtom_97 (by decide) (by omega) (fun h185 => ?_) (fun h185 => ?_)
            · have u186c := fun h => ex_c (M := M0) (N := M175) (P := M180) (r := 0) (e := 1) (FR.cell fM180 (by decide)) h
              have u186d := fun h => ex_c (M := M0) (N := M175) (P := M180) (r := 0) (e := 0) (FR.cell fM180 (by decide)) h
              have u186n := INV.rd hM180 (i := 102) (c := 48) (k := 280) rfl rfl
              have zz102_280 : (M180.1 102 280).toInt = (M175.1 102 280).toInt := s_fF fM180 (by decide) (rfl); exact hret _ _ _ dX12_readAtom_113 ⟨hM180, (((FR.rf.tr fM168 (by decide)).tr fM175 (by decide)).tr fM180 (by decide)), by omega⟩
            · refine j_aload_n C 0 0 dX12_readAtom_100 rfl rfl ?_
              refine y_iconst C dX12_readAtom_101 ?_
              refine j_callVv C (d := 0) (As := [.int (sI 2)]) (st := []) 98 (s_lt rfl rfl) (s_kc (c := 11) rfl rfl) (by decide) rfl (s1_X12_fails hM180 hpr 2 (by omega) (by omega) (by omega)) gX12_readAtom_X12_fails rfl hdX12_fails (by decide) (Nat.le_of_ble_eq_true rfl) dX12_readAtom_102 rfl (fun M188 h189 => ?_)
              obtain ⟨hM188, fM188, h190⟩ := h189
              refine j_goto C 113 dX12_readAtom_105 (by decide) ?_
              have u191c := fun h => ex_c (M := M0) (N := M180) (P := M188) (r := 0) (e := 1) (FR.cell fM188 (by decide)) h
              have u191d := fun h => ex_c (M := M0) (N := M180) (P := M188) (r := 0) (e := 0) (FR.cell fM188 (by decide)) h
              have u191n := INV.rd hM188 (i := 102) (c := 48) (k := 280) rfl rfl
              have zz102_280 : (M188.1 102 280).toInt = (M175.1 102 280).toInt := s_fF fM180 (by decide) (s_fF fM188 (by decide) (rfl)); exact hret _ _ _ dX12_readAtom_113 ⟨hM188, ((((FR.rf.tr fM168 (by decide)).tr fM175 (by decide)).tr fM180 (by decide)).tr fM188 (by decide)), by omega⟩
          · have u192c := fun h => ex_c (M := M0) (N := M0) (P := M168) (r := 0) (e := 1) (FR.cell fM168 (by decide)) h
            have u192d := fun h => ex_c (M := M0) (N := M0) (P := M168) (r := 0) (e := 0) (FR.cell fM168 (by decide)) h
            have u192n := INV.rd hM168 (i := 102) (c := 48) (k := 280) rfl rfl
            have zz102_280 : (M168.1 102 280).toInt = (M0.1 102 280).toInt := s_fF fM168 (by decide) (rfl); exact hret _ _ _ dX12_readAtom_83 ⟨hM168, (FR.rf.tr fM168 (by decide)), by omega⟩
      · refine j_aload_n C 0 0 dX12_readAtom_43 rfl rfl ?_
        refine y_sipush C dX12_readAtom_44 rfl ?_
        refine j_aload_n C 0 0 dX12_readAtom_47 rfl rfl ?_
        refine j_aload_n C 0 0 dX12_readAtom_48 rfl rfl ?_
        refine y_getI C 11 _ _ fX12_readAtom_108 rfl rfl ft_11_9 sb_11_9 hM0 dX12_readAtom_49 (fun a193 ea193 la193 ua193 => ?_)
        obtain rfl : a193 = (M0.1 98 9).toInt := ea193
        refine j_callVi C (d := 0) (As := [.int (sI (M0.1 98 9).toInt)]) (st := [.int (sI 1000), .ref (ad 98)]) 98 (s_lt rfl rfl) (s_kc (c := 11) rfl rfl) (by decide) rfl (s1_X12_wordOf hM0 (M0.1 98 9).toInt (by omega)) gX12_readAtom_X12_wordOf rfl hdX12_wordOf (by decide) (Nat.le_of_ble_eq_true rfl) dX12_readAtom_52 rfl (fun r195 M196 h197 => ?_)
        obtain ⟨a199, rfl, rfl, h198⟩ := h197
        obtain rfl : a199 = (woF (M0.1 98 9).toInt) := by omega
        refine y_iadd C dX12_readAtom_55 ?_
        refine j_callVv C (d := 0) (As := [.int (sI (1000 + (woF (M0.1 98 9).toInt)))]) (st := []) 98 (s_lt rfl rfl) (s_kc (c := 11) rfl rfl) (by decide) rfl (s1_X12_codes hM0 hpr (1000 + (woF (M0.1 98 9).toInt)) (by omega) (by omega) (by omega)) gX12_readAtom_X12_codes rfl hdX12_codes (by decide) (Nat.le_of_ble_eq_true rfl) dX12_readAtom_56 rfl (fun M201 h202 => ?_)
        obtain ⟨hM201, fM201, h203⟩ := h202
        have u204n := INV.rd hM201 (i := 102) (c := 48) (k := 280) rfl rfl
        have u204p := fun h => ap_push (M := M0) (N := M201) (c := (1000 + (woF (M0.1 98 9).toInt))) (by omega) h
        have u204t := fun h1 h2 => ex_tr (M := M0) (N := M0) (P := M201) (r1 := 0) (e1 := 0) (r2 := 0) (e2 := 1) (r := 0) (e := 1) (by decide) h1 h2
        refine j_aload_n C 0 0 dX12_readAtom_59 rfl rfl ?_
        refine j_callVv C (d := 5) (As := []) (st := []) 98 (s_lt rfl rfl) (s_kc (c := 11) rfl rfl) (by decide) rfl (s1_X12_next hM201 hpr (by omega) (by omega) (by omega)) gX12_readAtom_X12_next rfl hdX12_next (by decide) (Nat.le_of_ble_eq_true rfl) dX12_readAtom_60 rfl (fun M206 h207 => ?_)
        obtain ⟨hM206, fM206, h208⟩ := h207
        refine j_goto C 113 dX12_readAtom_63 (by decide) ?_
        have u209c := fun h => ex_c (M := M0) (N := M201) (P := M206) (r := 0) (e := 1) (FR.cell fM206 (by decide)) h
        have u209d := fun h => ex_c (M := M0) (N := M201) (P := M206) (r := 0) (e := 0) (FR.cell fM206 (by decide)) h
        have u209n := INV.rd hM206 (i := 102) (c := 48) (k := 280) rfl rfl
        have zz102_280 : (M206.1 102 280).toInt = (M201.1 102 280).toInt := s_fF fM206 (by decide) (rfl); exact hret _ _ _ dX12_readAtom_113 ⟨hM206, ((FR.rf.tr fM201 (by decide)).tr fM206 (by decide)), by omega⟩
  · refine j_aload_n C 0 0 dX12_readAtom_9 rfl rfl ?_
    refine j_aload_n C 0 0 dX12_readAtom_10 rfl rfl ?_
    refine y_getI C 11 _ _ fX12_readAtom_121 rfl rfl ft_11_10 sb_11_10 hM0 dX12_readAtom_11 (fun a210 ea210 la210 ua210 => ?_)
    obtain rfl : a210 = (M0.1 98 10).toInt := ea210
    refine j_callVv C (d := 0) (As := [.int (sI (M0.1 98 10).toInt)]) (st := []) 98 (s_lt rfl rfl) (s_kc (c := 11) rfl rfl) (by decide) rfl (s1_X12_codes hM0 hpr (M0.1 98 10).toInt (by omega) (by omega) (by omega)) gX12_readAtom_X12_codes rfl hdX12_codes (by decide) (Nat.le_of_ble_eq_true rfl) dX12_readAtom_14 rfl (fun M213 h214 => ?_)
    obtain ⟨hM213, fM213, h215⟩ := h214
    have u216n := INV.rd hM213 (i := 102) (c := 48) (k := 280) rfl rfl
    have u216p := fun h => ap_push (M := M0) (N := M213) (c := (M0.1 98 10).toInt) (by omega) h
    have u216t := fun h1 h2 => ex_tr (M := M0) (N := M0) (P := M213) (r1 := 0) (e1 := 0) (r2 := 0) (e2 := 1) (r := 0) (e := 1) (by decide) h1 h2
    refine j_aload_n C 0 0 dX12_readAtom_17 rfl rfl ?_
    refine j_callVv C (d := 5) (As := []) (st := []) 98 (s_lt rfl rfl) (s_kc (c := 11) rfl rfl) (by decide) rfl (s1_X12_next hM213 hpr (by omega) (by omega) (by omega)) gX12_readAtom_X12_next rfl hdX12_next (by decide) (Nat.le_of_ble_eq_true rfl) dX12_readAtom_18 rfl (fun M218 h219 => ?_)
    obtain ⟨hM218, fM218, h220⟩ := h219
    refine j_goto C 113 dX12_readAtom_21 (by decide) ?_
    have u221c := fun h => ex_c (M := M0) (N := M213) (P := M218) (r := 0) (e := 1) (FR.cell fM218 (by decide)) h
    have u221d := fun h => ex_c (M := M0) (N := M213) (P := M218) (r := 0) (e := 0) (FR.cell fM218 (by decide)) h
    have u221n := INV.rd hM218 (i := 102) (c := 48) (k := 280) rfl rfl
    have zz102_280 : (M218.1 102 280).toInt = (M213.1 102 280).toInt := s_fF fM218 (by decide) (rfl); exact hret _ _ _ dX12_readAtom_113 ⟨hM218, ((FR.rf.tr fM213 (by decide)).tr fM218 (by decide)), by omega⟩
set_option maxHeartbeats 4000000 in
theorem s5_X12_readTerm {l : Launch} {dC : Nat → ClassId} {dI : Nat → Nat → Nat} {ad : Nat → Nat} {cA : Nat → ClassId} {pr : Nat → Nat → Bool} {Kz : mm_M} {M0 : mm_M} (hM0 : INV pr Kz M0) (hpr : PM pr)  (hp0 : (M0.1 98 6).toInt ≤ (M0.1 98 7).toInt ∧ (M0.1 98 7).toInt ≤ (M0.1 98 8).toInt ∧ (M0.1 98 8).toInt ≤ 900 ∧ ((M0.1 98 9).toInt = 24 ∨ (M0.1 98 6).toInt < (M0.1 98 7).toInt)) (hp1 : ¬ (M0.1 98 11).toInt = 0 ∨ (M0.1 102 280).toInt ≤ (M0.1 98 6).toInt) (hp2 : 0 ≤ (M0.1 102 280).toInt) (hp3 : b01 (PI M0) = 1) : Cv l 20 yX12_readTerm wsX12_readTerm dC dI ad cA [.ref (ad 98), .int (sI 2)] M0 (fun M' => INV pr Kz M' ∧ FR [98, 102] M0 M' ∧ ((M'.1 98 6).toInt ≤ (M'.1 98 7).toInt ∧ (M'.1 98 7).toInt ≤ (M'.1 98 8).toInt ∧ (M'.1 98 8).toInt ≤ 900 ∧ ((M'.1 98 9).toInt = 24 ∨ (M'.1 98 6).toInt < (M'.1 98 7).toInt)) ∧ ((M'.1 98 8).toInt = (M0.1 98 8).toInt) ∧ ((M0.1 98 6).toInt ≤ (M'.1 98 6).toInt) ∧ (0 ≤ (M'.1 102 280).toInt) ∧ (¬ (M'.1 98 11).toInt = 0 ∨ (M0.1 98 11).toInt = 0 ∧ (M'.1 102 280).toInt - (M'.1 98 6).toInt + 0 ≤ (M0.1 102 280).toInt - (M0.1 98 6).toInt ∧ (M0.1 102 280).toInt ≤ (M'.1 102 280).toInt ∧ b01 (EXT M0 M' 0 1) = 1) ∧ (b01 (PI M') = 1)) := by
  refine cv_of (cc := cX12_readTerm) (maxL := 2) (lv := [(0, .ref (ad 98)), (1, .int (sI 2))]) (by decide) rfl (Nat.le_of_ble_eq_true rfl) rfl ?_
  intro p e s m args below meth c A Q C hret
  have u101z := ex_0 M0
  have u101n := INV.rd hM0 (i := 102) (c := 48) (k := 280) rfl rfl
  refine j_aload_n C 0 0 dX12_readTerm_0 rfl rfl ?_
  refine j_iload_n C 1 1 dX12_readTerm_1 rfl rfl ?_
  refine j_callVv C (d := 19) (As := [.int (sI 2)]) (st := []) 98 (s_lt rfl rfl) (s_kc (c := 11) rfl rfl) (by decide) rfl (s5_X12_readAtom hM0 hpr (by omega) (by omega) (by omega) (by omega)) gX12_readTerm_X12_readAtom rfl hdX12_readAtom (by decide) (Nat.le_of_ble_eq_true rfl) dX12_readTerm_2 rfl (fun M103 h104 => ?_)
  obtain ⟨hM103, fM103, h105⟩ := h104
  have u106t := fun h1 h2 => ex_tr (M := M0) (N := M0) (P := M103) (r1 := 0) (e1 := 0) (r2 := 0) (e2 := 1) (r := 0) (e := 1) (by decide) h1 h2
  have u106n := INV.rd hM103 (i := 102) (c := 48) (k := 280) rfl rfl
  have L127 : ∀ (n125 : Nat), ∀ (M128 : mm_M), (((M128.1 98 6).toInt ≤ (M128.1 98 7).toInt ∧ (M128.1 98 7).toInt ≤ (M128.1 98 8).toInt ∧ (M128.1 98 8).toInt ≤ 900 ∧ ((M128.1 98 9).toInt = 24 ∨ (M128.1 98 6).toInt < (M128.1 98 7).toInt)) ∧ ((M128.1 98 8).toInt = (M0.1 98 8).toInt) ∧ ((M0.1 98 6).toInt ≤ (M128.1 98 6).toInt) ∧ (0 ≤ (M128.1 102 280).toInt) ∧ (¬ (M128.1 98 11).toInt = 0 ∨ (M0.1 98 11).toInt = 0 ∧ (M128.1 102 280).toInt - (M128.1 98 6).toInt + 0 ≤ (M0.1 102 280).toInt - (M0.1 98 6).toInt ∧ (M0.1 102 280).toInt ≤ (M128.1 102 280).toInt ∧ b01 (EXT M0 M128 0 1) = 1) ∧ (b01 (PI M128) = 1) ∧ (900 - (M128.1 98 6).toInt) < (n125 : Int)) → INV pr Kz M128 → FR [98, 102] M0 M128 → jj p l e (cn_R 20) s m args below meth c 0 0 Q 2 dC dI ad cA A M128 5 [(0, .ref (ad 98)), (1, .int (sI 2))] [] := by
    intro n125
    induction n125 with
    | zero =>
      intro M128 h129 hM128 fM128
      exfalso; omega
    | succ n125 ih126 =>
      intro M128 h129 hM128 fM128
      refine j_aload_n C 0 0 dX12_readTerm_5 rfl rfl ?_
      refine y_bipush C dX12_readTerm_6 rfl ?_
      refine j_callVi C (d := 6) (As := [.int (sI 34)]) (st := []) 98 (s_lt rfl rfl) (s_kc (c := 11) rfl rfl) (by decide) rfl (s1_X12_eats hM128 hpr 34 (by omega) (by omega) (by omega) (by omega)) gX12_readTerm_X12_eats rfl hdX12_eats (by decide) (Nat.le_of_ble_eq_true rfl) dX12_readTerm_8 rfl (fun r130 M131 h132 => ?_)
      obtain ⟨a134, rfl, hM131, fM131, h133⟩ := h132
      have u135c := fun h => ex_c (M := M0) (N := M128) (P := M131) (r := 0) (e := 1) (FR.cell fM131 (by decide)) h
      have u135n := INV.rd hM131 (i := 102) (c := 48) (k := 280) rfl rfl
      refine y_if_eq C 29 dX12_readTerm_11 (by decide) (by omega) (fun h136 => ?_) (fun h136 => ?_)
      · have u147c := fun h => ex_c (M := M0) (N := M128) (P := M131) (r := 0) (e := 1) (FR.cell fM131 (by decide)) h
        have u147d := fun h => ex_c (M := M0) (N := M128) (P := M131) (r := 0) (e := 0) (FR.cell fM131 (by decide)) h
        have u147n := INV.rd hM131 (i := 102) (c := 48) (k := 280) rfl rfl
        have zz102_280 : (M131.1 102 280).toInt = (M128.1 102 280).toInt := s_fF fM131 (by decide) (rfl); exact hret _ _ _ dX12_readTerm_29 ⟨hM131, ((FR.rf.tr fM128 (by decide)).tr fM131 (by decide)), by omega⟩
      · refine j_aload_n C 0 0 dX12_readTerm_14 rfl rfl ?_
        refine j_iload_n C 1 1 dX12_readTerm_15 rfl rfl ?_
        refine j_callVv C (d := 19) (As := [.int (sI 2)]) (st := []) 98 (s_lt rfl rfl) (s_kc (c := 11) rfl rfl) (by decide) rfl (s5_X12_readAtom hM131 hpr (by omega) (by omega) (by omega) (by omega)) gX12_readTerm_X12_readAtom rfl hdX12_readAtom (by decide) (Nat.le_of_ble_eq_true rfl) dX12_readTerm_16 rfl (fun M138 h139 => ?_)
        obtain ⟨hM138, fM138, h140⟩ := h139
        have u141t := fun h1 h2 => ex_tr (M := M0) (N := M131) (P := M138) (r1 := 0) (e1 := 1) (r2 := 0) (e2 := 1) (r := 0) (e := 2) (by decide) h1 h2
        have u141n := INV.rd hM138 (i := 102) (c := 48) (k := 280) rfl rfl
        refine j_aload_n C 0 0 dX12_readTerm_19 rfl rfl ?_
        refine y_sipush C dX12_readTerm_20 rfl ?_
        refine j_callVv C (d := 0) (As := [.int (sI 3002)]) (st := []) 98 (s_lt rfl rfl) (s_kc (c := 11) rfl rfl) (by decide) rfl (s1_X12_codes hM138 hpr 3002 (by omega) (by omega) (by omega)) gX12_readTerm_X12_codes rfl hdX12_codes (by decide) (Nat.le_of_ble_eq_true rfl) dX12_readTerm_23 rfl (fun M143 h144 => ?_)
        obtain ⟨hM143, fM143, h145⟩ := h144
        refine j_goto C 5 dX12_readTerm_26 (by decide) ?_
        have u146n := INV.rd hM143 (i := 102) (c := 48) (k := 280) rfl rfl
        have u146p := fun h => ap_bin (M := M138) (N := M143) (c := 3002) (by omega) h
        have u146t := fun h1 h2 => ex_tr (M := M0) (N := M138) (P := M143) (r1 := 0) (e1 := 2) (r2 := 2) (e2 := (-1)) (r := 0) (e := 1) (by decide) h1 h2
        have zz98_9 : (M143.1 98 9).toInt = (M138.1 98 9).toInt := s_fF fM143 (by decide) (rfl); have zz98_8 : (M143.1 98 8).toInt = (M138.1 98 8).toInt := s_fF fM143 (by decide) (rfl); have zz98_7 : (M143.1 98 7).toInt = (M138.1 98 7).toInt := s_fF fM143 (by decide) (rfl); have zz98_6 : (M143.1 98 6).toInt = (M138.1 98 6).toInt := s_fF fM143 (by decide) (rfl); have zz98_11 : (M143.1 98 11).toInt = (M138.1 98 11).toInt := s_fF fM143 (by decide) (rfl); exact ih126 M143 (by omega) hM143 ((((FR.rf.tr fM128 (by decide)).tr fM131 (by decide)).tr fM138 (by decide)).tr fM143 (by decide))
  exact L127 2010 M103 (by omega) hM103 (FR.rf.tr fM103 (by decide))
set_option maxHeartbeats 4000000 in
theorem s5_X12_readSum {l : Launch} {dC : Nat → ClassId} {dI : Nat → Nat → Nat} {ad : Nat → Nat} {cA : Nat → ClassId} {pr : Nat → Nat → Bool} {Kz : mm_M} {M0 : mm_M} (hM0 : INV pr Kz M0) (hpr : PM pr)  (hp0 : (M0.1 98 6).toInt ≤ (M0.1 98 7).toInt ∧ (M0.1 98 7).toInt ≤ (M0.1 98 8).toInt ∧ (M0.1 98 8).toInt ≤ 900 ∧ ((M0.1 98 9).toInt = 24 ∨ (M0.1 98 6).toInt < (M0.1 98 7).toInt)) (hp1 : ¬ (M0.1 98 11).toInt = 0 ∨ (M0.1 102 280).toInt ≤ (M0.1 98 6).toInt) (hp2 : 0 ≤ (M0.1 102 280).toInt) (hp3 : b01 (PI M0) = 1) : Cv l 21 yX12_readSum wsX12_readSum dC dI ad cA [.ref (ad 98), .int (sI 2)] M0 (fun M' => INV pr Kz M' ∧ FR [98, 102] M0 M' ∧ ((M'.1 98 6).toInt ≤ (M'.1 98 7).toInt ∧ (M'.1 98 7).toInt ≤ (M'.1 98 8).toInt ∧ (M'.1 98 8).toInt ≤ 900 ∧ ((M'.1 98 9).toInt = 24 ∨ (M'.1 98 6).toInt < (M'.1 98 7).toInt)) ∧ ((M'.1 98 8).toInt = (M0.1 98 8).toInt) ∧ ((M0.1 98 6).toInt ≤ (M'.1 98 6).toInt) ∧ (0 ≤ (M'.1 102 280).toInt) ∧ (¬ (M'.1 98 11).toInt = 0 ∨ (M0.1 98 11).toInt = 0 ∧ (M'.1 102 280).toInt - (M'.1 98 6).toInt + 0 ≤ (M0.1 102 280).toInt - (M0.1 98 6).toInt ∧ (M0.1 102 280).toInt ≤ (M'.1 102 280).toInt ∧ b01 (EXT M0 M' 0 1) = 1) ∧ (b01 (PI M') = 1)) := by
  refine cv_of (cc := cX12_readSum) (maxL := 3) (lv := [(0, .ref (ad 98)), (1, .int (sI 2))]) (by decide) rfl (Nat.le_of_ble_eq_true rfl) rfl ?_
  intro p e s m args below meth c A Q C hret
  have u101z := ex_0 M0
  have u101n := INV.rd hM0 (i := 102) (c := 48) (k := 280) rfl rfl
  refine j_aload_n C 0 0 dX12_readSum_0 rfl rfl ?_
  refine j_iload_n C 1 1 dX12_readSum_1 rfl rfl ?_
  refine j_callVv C (d := 20) (As := [.int (sI 2)]) (st := []) 98 (s_lt rfl rfl) (s_kc (c := 11) rfl rfl) (by decide) rfl (s5_X12_readTerm hM0 hpr (by omega) (by omega) (by omega) (by omega)) gX12_readSum_X12_readTerm rfl hdX12_readTerm (by decide) (Nat.le_of_ble_eq_true rfl) dX12_readSum_2 rfl (fun M103 h104 => ?_)
  obtain ⟨hM103, fM103, h105⟩ := h104
  have u106t := fun h1 h2 => ex_tr (M := M0) (N := M0) (P := M103) (r1 := 0) (e1 := 0) (r2 := 0) (e2 := 1) (r := 0) (e := 1) (by decide) h1 h2
  have u106n := INV.rd hM103 (i := 102) (c := 48) (k := 280) rfl rfl
  have L164 : ∀ (n162 : Nat), ∀ (M165 : mm_M), (((M165.1 98 6).toInt ≤ (M165.1 98 7).toInt ∧ (M165.1 98 7).toInt ≤ (M165.1 98 8).toInt ∧ (M165.1 98 8).toInt ≤ 900 ∧ ((M165.1 98 9).toInt = 24 ∨ (M165.1 98 6).toInt < (M165.1 98 7).toInt)) ∧ ((M165.1 98 8).toInt = (M0.1 98 8).toInt) ∧ ((M0.1 98 6).toInt ≤ (M165.1 98 6).toInt) ∧ (0 ≤ (M165.1 102 280).toInt) ∧ (¬ (M165.1 98 11).toInt = 0 ∨ (M0.1 98 11).toInt = 0 ∧ (M165.1 102 280).toInt - (M165.1 98 6).toInt + 0 ≤ (M0.1 102 280).toInt - (M0.1 98 6).toInt ∧ (M0.1 102 280).toInt ≤ (M165.1 102 280).toInt ∧ b01 (EXT M0 M165 0 1) = 1) ∧ (b01 (PI M165) = 1) ∧ (900 - (M165.1 98 6).toInt) < (n162 : Int)) → INV pr Kz M165 → FR [98, 102] M0 M165 → jj p l e (cn_R 21) s m args below meth c 0 0 Q 3 dC dI ad cA A M165 5 [(0, .ref (ad 98)), (1, .int (sI 2))] [] := by
    intro n162
    induction n162 with
    | zero =>
      intro M165 h166 hM165 fM165
      exfalso; omega
    | succ n162 ih163 =>
      intro M165 h166 hM165 fM165
      refine j_aload_n C 0 0 dX12_readSum_5 rfl rfl ?_
      refine y_bipush C dX12_readSum_6 rfl ?_
      refine j_callVi C (d := 0) (As := [.int (sI 32)]) (st := []) 98 (s_lt rfl rfl) (s_kc (c := 11) rfl rfl) (by decide) rfl (s1_X12_is hM165 32 (by omega)) gX12_readSum_X12_is rfl hdX12_is (by decide) (Nat.le_of_ble_eq_true rfl) dX12_readSum_8 rfl (fun r167 M168 h169 => ?_)
      obtain ⟨a171, rfl, rfl, h170⟩ := h169
      refine y_if_ne C 23 dX12_readSum_11 (by decide) (by omega) (fun h172 => ?_) (fun h172 => ?_)
      · refine j_aload_n C 0 0 dX12_readSum_23 rfl rfl ?_
        refine y_getI C 11 _ _ fX12_readSum_108 rfl rfl ft_11_9 sb_11_9 hM165 dX12_readSum_24 (fun a173 ea173 la173 ua173 => ?_)
        obtain rfl : a173 = (M165.1 98 9).toInt := ea173
        refine y_bipush C dX12_readSum_27 rfl ?_
        have J177 : ∀ (a176 : Int), (3000 ≤ a176 ∧ a176 ≤ 3001) → jj p l e (cn_R 21) s m args below meth c 0 0 Q 3 dC dI ad cA A M165 41 [(0, .ref (ad 98)), (1, .int (sI 2))] [.int (sI a176)] := by
          intro a176 h178
          refine j_istore_n C 2 [(2, .int (sI a176)), (0, .ref (ad 98)), (1, .int (sI 2))] dX12_readSum_41 rfl (by decide) rfl ?_
          refine j_aload_n C 1 0 dX12_readSum_42 rfl rfl ?_
          refine j_callVv C (d := 5) (As := []) (st := []) 98 (s_lt rfl rfl) (s_kc (c := 11) rfl rfl) (by decide) rfl (s1_X12_next hM165 hpr (by omega) (by omega) (by omega)) gX12_readSum_X12_next rfl hdX12_next (by decide) (Nat.le_of_ble_eq_true rfl) dX12_readSum_43 rfl (fun M180 h181 => ?_)
          obtain ⟨hM180, fM180, h182⟩ := h181
          have u183c := fun h => ex_c (M := M0) (N := M165) (P := M180) (r := 0) (e := 1) (FR.cell fM180 (by decide)) h
          have u183n := INV.rd hM180 (i := 102) (c := 48) (k := 280) rfl rfl
          refine j_aload_n C 1 0 dX12_readSum_46 rfl rfl ?_
          refine j_iload_n C 2 1 dX12_readSum_47 rfl rfl ?_
          refine j_callVv C (d := 20) (As := [.int (sI 2)]) (st := []) 98 (s_lt rfl rfl) (s_kc (c := 11) rfl rfl) (by decide) rfl (s5_X12_readTerm hM180 hpr (by omega) (by omega) (by omega) (by omega)) gX12_readSum_X12_readTerm rfl hdX12_readTerm (by decide) (Nat.le_of_ble_eq_true rfl) dX12_readSum_48 rfl (fun M185 h186 => ?_)
          obtain ⟨hM185, fM185, h187⟩ := h186
          have u188t := fun h1 h2 => ex_tr (M := M0) (N := M180) (P := M185) (r1 := 0) (e1 := 1) (r2 := 0) (e2 := 1) (r := 0) (e := 2) (by decide) h1 h2
          have u188n := INV.rd hM185 (i := 102) (c := 48) (k := 280) rfl rfl
          refine j_aload_n C 1 0 dX12_readSum_51 rfl rfl ?_
          refine j_iload_n C 0 2 dX12_readSum_52 rfl rfl ?_
          refine j_callVv C (d := 0) (As := [.int (sI a176)]) (st := []) 98 (s_lt rfl rfl) (s_kc (c := 11) rfl rfl) (by decide) rfl (s1_X12_codes hM185 hpr a176 (by omega) (by omega) (by omega)) gX12_readSum_X12_codes rfl hdX12_codes (by decide) (Nat.le_of_ble_eq_true rfl) dX12_readSum_53 rfl (fun M190 h191 => ?_)
          obtain ⟨hM190, fM190, h192⟩ := h191
          refine j_goto C 5 dX12_readSum_56 (by decide) ?_
          have u193n := INV.rd hM190 (i := 102) (c := 48) (k := 280) rfl rfl
          have u193p := fun h => ap_bin (M := M185) (N := M190) (c := a176) (by omega) h
          have u193t := fun h1 h2 => ex_tr (M := M0) (N := M185) (P := M190) (r1 := 0) (e1 := 2) (r2 := 2) (e2 := (-1)) (r := 0) (e := 1) (by decide) h1 h2
          have zz98_9 : (M190.1 98 9).toInt = (M185.1 98 9).toInt := s_fF fM190 (by decide) (rfl); have zz98_8 : (M190.1 98 8).toInt = (M185.1 98 8).toInt := s_fF fM190 (by decide) (rfl); have zz98_7 : (M190.1 98 7).toInt = (M185.1 98 7).toInt := s_fF fM190 (by decide) (rfl); have zz98_6 : (M190.1 98 6).toInt = (M185.1 98 6).toInt := s_fF fM190 (by decide) (rfl); have zz98_11 : (M190.1 98 11).toInt = (M185.1 98 11).toInt := s_fF fM190 (by decide) (rfl); refine j_lv [1, 2] rfl ?_; exact ih163 M190 (by omega) hM190 ((((FR.rf.tr fM165 (by decide)).tr fM180 (by decide)).tr fM185 (by decide)).tr fM190 (by decide))
        refine y_icmp_ne C 38 dX12_readSum_29 (by decide) (by omega) (fun h175 => ?_) (fun h175 => ?_)
        · refine y_sipush C dX12_readSum_38 rfl ?_
          exact J177 3001 (by omega)
        · refine y_sipush C dX12_readSum_32 rfl ?_
          refine j_goto C 41 dX12_readSum_35 (by decide) ?_
          exact J177 3000 (by omega)
      · refine j_aload_n C 0 0 dX12_readSum_14 rfl rfl ?_
        refine y_bipush C dX12_readSum_15 rfl ?_
        refine j_callVi C (d := 0) (As := [.int (sI 33)]) (st := []) 98 (s_lt rfl rfl) (s_kc (c := 11) rfl rfl) (by decide) rfl (s1_X12_is hM165 33 (by omega)) gX12_readSum_X12_is rfl hdX12_is (by decide) (Nat.le_of_ble_eq_true rfl) dX12_readSum_17 rfl (fun r194 M195 h196 => ?_)
        obtain ⟨a198, rfl, rfl, h197⟩ := h196
        refine y_if_eq C 59 dX12_readSum_20 (by decide) (by omega) (fun h199 => ?_) (fun h199 => ?_)
        · have u221n := INV.rd hM165 (i := 102) (c := 48) (k := 280) rfl rfl
          exact hret _ _ _ dX12_readSum_59 ⟨hM165, (FR.rf.tr fM165 (by decide)), by omega⟩
        · refine j_aload_n C 0 0 dX12_readSum_23 rfl rfl ?_
          refine y_getI C 11 _ _ fX12_readSum_108 rfl rfl ft_11_9 sb_11_9 hM165 dX12_readSum_24 (fun a200 ea200 la200 ua200 => ?_)
          obtain rfl : a200 = (M165.1 98 9).toInt := ea200
          refine y_bipush C dX12_readSum_27 rfl ?_
          have J204 : ∀ (a203 : Int), (3000 ≤ a203 ∧ a203 ≤ 3001) → jj p l e (cn_R 21) s m args below meth c 0 0 Q 3 dC dI ad cA A M165 41 [(0, .ref (ad 98)), (1, .int (sI 2))] [.int (sI a203)] := by
            intro a203 h205
            refine j_istore_n C 2 [(2, .int (sI a203)), (0, .ref (ad 98)), (1, .int (sI 2))] dX12_readSum_41 rfl (by decide) rfl ?_
            refine j_aload_n C 1 0 dX12_readSum_42 rfl rfl ?_
            refine j_callVv C (d := 5) (As := []) (st := []) 98 (s_lt rfl rfl) (s_kc (c := 11) rfl rfl) (by decide) rfl (s1_X12_next hM165 hpr (by omega) (by omega) (by omega)) gX12_readSum_X12_next rfl hdX12_next (by decide) (Nat.le_of_ble_eq_true rfl) dX12_readSum_43 rfl (fun M207 h208 => ?_)
            obtain ⟨hM207, fM207, h209⟩ := h208
            have u210c := fun h => ex_c (M := M0) (N := M165) (P := M207) (r := 0) (e := 1) (FR.cell fM207 (by decide)) h
            have u210n := INV.rd hM207 (i := 102) (c := 48) (k := 280) rfl rfl
            refine j_aload_n C 1 0 dX12_readSum_46 rfl rfl ?_
            refine j_iload_n C 2 1 dX12_readSum_47 rfl rfl ?_
            refine j_callVv C (d := 20) (As := [.int (sI 2)]) (st := []) 98 (s_lt rfl rfl) (s_kc (c := 11) rfl rfl) (by decide) rfl (s5_X12_readTerm hM207 hpr (by omega) (by omega) (by omega) (by omega)) gX12_readSum_X12_readTerm rfl hdX12_readTerm (by decide) (Nat.le_of_ble_eq_true rfl) dX12_readSum_48 rfl (fun M212 h213 => ?_)
            obtain ⟨hM212, fM212, h214⟩ := h213
            have u215t := fun h1 h2 => ex_tr (M := M0) (N := M207) (P := M212) (r1 := 0) (e1 := 1) (r2 := 0) (e2 := 1) (r := 0) (e := 2) (by decide) h1 h2
            have u215n := INV.rd hM212 (i := 102) (c := 48) (k := 280) rfl rfl
            refine j_aload_n C 1 0 dX12_readSum_51 rfl rfl ?_
            refine j_iload_n C 0 2 dX12_readSum_52 rfl rfl ?_
            refine j_callVv C (d := 0) (As := [.int (sI a203)]) (st := []) 98 (s_lt rfl rfl) (s_kc (c := 11) rfl rfl) (by decide) rfl (s1_X12_codes hM212 hpr a203 (by omega) (by omega) (by omega)) gX12_readSum_X12_codes rfl hdX12_codes (by decide) (Nat.le_of_ble_eq_true rfl) dX12_readSum_53 rfl (fun M217 h218 => ?_)
            obtain ⟨hM217, fM217, h219⟩ := h218
            refine j_goto C 5 dX12_readSum_56 (by decide) ?_
            have u220n := INV.rd hM217 (i := 102) (c := 48) (k := 280) rfl rfl
            have u220p := fun h => ap_bin (M := M212) (N := M217) (c := a203) (by omega) h
            have u220t := fun h1 h2 => ex_tr (M := M0) (N := M212) (P := M217) (r1 := 0) (e1 := 2) (r2 := 2) (e2 := (-1)) (r := 0) (e := 1) (by decide) h1 h2
            have zz98_9 : (M217.1 98 9).toInt = (M212.1 98 9).toInt := s_fF fM217 (by decide) (rfl); have zz98_8 : (M217.1 98 8).toInt = (M212.1 98 8).toInt := s_fF fM217 (by decide) (rfl); have zz98_7 : (M217.1 98 7).toInt = (M212.1 98 7).toInt := s_fF fM217 (by decide) (rfl); have zz98_6 : (M217.1 98 6).toInt = (M212.1 98 6).toInt := s_fF fM217 (by decide) (rfl); have zz98_11 : (M217.1 98 11).toInt = (M212.1 98 11).toInt := s_fF fM217 (by decide) (rfl); refine j_lv [1, 2] rfl ?_; exact ih163 M217 (by omega) hM217 ((((FR.rf.tr fM165 (by decide)).tr fM207 (by decide)).tr fM212 (by decide)).tr fM217 (by decide))
          refine y_icmp_ne C 38 dX12_readSum_29 (by decide) (by omega) (fun h202 => ?_) (fun h202 => ?_)
          · refine y_sipush C dX12_readSum_38 rfl ?_
            exact J204 3001 (by omega)
          · refine y_sipush C dX12_readSum_32 rfl ?_
            refine j_goto C 41 dX12_readSum_35 (by decide) ?_
            exact J204 3000 (by omega)
  exact L164 2010 M103 (by omega) hM103 (FR.rf.tr fM103 (by decide))
set_option maxHeartbeats 4000000 in
theorem s6_X12_readAtom {l : Launch} {dC : Nat → ClassId} {dI : Nat → Nat → Nat} {ad : Nat → Nat} {cA : Nat → ClassId} {pr : Nat → Nat → Bool} {Kz : mm_M} {M0 : mm_M} (hM0 : INV pr Kz M0) (hpr : PM pr)  (hp0 : (M0.1 98 6).toInt ≤ (M0.1 98 7).toInt ∧ (M0.1 98 7).toInt ≤ (M0.1 98 8).toInt ∧ (M0.1 98 8).toInt ≤ 900 ∧ ((M0.1 98 9).toInt = 24 ∨ (M0.1 98 6).toInt < (M0.1 98 7).toInt)) (hp1 : ¬ (M0.1 98 11).toInt = 0 ∨ (M0.1 102 280).toInt ≤ (M0.1 98 6).toInt) (hp2 : 0 ≤ (M0.1 102 280).toInt) (hp3 : b01 (PI M0) = 1) : Cv l 22 yX12_readAtom wsX12_readAtom dC dI ad cA [.ref (ad 98), .int (sI 1)] M0 (fun M' => INV pr Kz M' ∧ FR [98, 102] M0 M' ∧ ((M'.1 98 6).toInt ≤ (M'.1 98 7).toInt ∧ (M'.1 98 7).toInt ≤ (M'.1 98 8).toInt ∧ (M'.1 98 8).toInt ≤ 900 ∧ ((M'.1 98 9).toInt = 24 ∨ (M'.1 98 6).toInt < (M'.1 98 7).toInt)) ∧ ((M'.1 98 8).toInt = (M0.1 98 8).toInt) ∧ ((M0.1 98 6).toInt ≤ (M'.1 98 6).toInt) ∧ (0 ≤ (M'.1 102 280).toInt) ∧ (¬ (M'.1 98 11).toInt = 0 ∨ (M0.1 98 11).toInt = 0 ∧ (M'.1 102 280).toInt - (M'.1 98 6).toInt + 0 ≤ (M0.1 102 280).toInt - (M0.1 98 6).toInt ∧ (M0.1 102 280).toInt ≤ (M'.1 102 280).toInt ∧ b01 (EXT M0 M' 0 1) = 1) ∧ (b01 (PI M') = 1)) := by
  refine cv_of (cc := cX12_readAtom) (maxL := 2) (lv := [(0, .ref (ad 98)), (1, .int (sI 1))]) (by decide) rfl (Nat.le_of_ble_eq_true rfl) rfl ?_
  intro p e s m args below meth c A Q C hret
  have u101z := ex_0 M0
  have u101n := INV.rd hM0 (i := 102) (c := 48) (k := 280) rfl rfl
  refine j_aload_n C 0 0 dX12_readAtom_0 rfl rfl ?_
  refine y_bipush C dX12_readAtom_1 rfl ?_
  refine j_callVi C (d := 0) (As := [.int (sI 23)]) (st := []) 98 (s_lt rfl rfl) (s_kc (c := 11) rfl rfl) (by decide) rfl (s1_X12_is hM0 23 (by omega)) gX12_readAtom_X12_is rfl hdX12_is (by decide) (Nat.le_of_ble_eq_true rfl) dX12_readAtom_3 rfl (fun r102 M103 h104 => ?_)
  obtain ⟨a106, rfl, rfl, h105⟩ := h104
  refine y_if_eq C 24 dX12_readAtom_6 (by decide) (by omega) (fun h107 => ?_) (fun h107 => ?_)
  · refine j_aload_n C 0 0 dX12_readAtom_24 rfl rfl ?_
    refine y_getI C 11 _ _ fX12_readAtom_126 rfl rfl ft_11_11 sb_11_11 hM0 dX12_readAtom_25 (fun a108 ea108 la108 ua108 => ?_)
    obtain rfl : a108 = (M0.1 98 11).toInt := ea108
    refine y_if_ne C 66 dX12_readAtom_28 (by decide) (by omega) (fun h110 => ?_) (fun h110 => ?_)
    · refine j_aload_n C 0 0 dX12_readAtom_66 rfl rfl ?_
      refine y_bipush C dX12_readAtom_67 rfl ?_
      refine j_callVi C (d := 0) (As := [.int (sI 35)]) (st := []) 98 (s_lt rfl rfl) (s_kc (c := 11) rfl rfl) (by decide) rfl (s1_X12_is hM0 35 (by omega)) gX12_readAtom_X12_is rfl hdX12_is (by decide) (Nat.le_of_ble_eq_true rfl) dX12_readAtom_69 rfl (fun r111 M112 h113 => ?_)
      obtain ⟨a115, rfl, rfl, h114⟩ := h113
      refine y_if_eq C 108 dX12_readAtom_72 (by decide) (by omega) (fun h116 => ?_) (fun h116 => ?_)
      · refine j_aload_n C 0 0 dX12_readAtom_108 rfl rfl ?_
        refine y_iconst C dX12_readAtom_109 ?_
        refine j_callVv C (d := 0) (As := [.int (sI 2)]) (st := []) 98 (s_lt rfl rfl) (s_kc (c := 11) rfl rfl) (by decide) rfl (s1_X12_fails hM0 hpr 2 (by omega) (by omega) (by omega)) gX12_readAtom_X12_fails rfl hdX12_fails (by decide) (Nat.le_of_ble_eq_true rfl) dX12_readAtom_110 rfl (fun M118 h119 => ?_)
        obtain ⟨hM118, fM118, h120⟩ := h119
        have u121c := fun h => ex_c (M := M0) (N := M0) (P := M118) (r := 0) (e := 1) (FR.cell fM118 (by decide)) h
        have u121d := fun h => ex_c (M := M0) (N := M0) (P := M118) (r := 0) (e := 0) (FR.cell fM118 (by decide)) h
        have u121n := INV.rd hM118 (i := 102) (c := 48) (k := 280) rfl rfl
        have zz102_280 : (M118.1 102 280).toInt = (M0.1 102 280).toInt := s_fF fM118 (by decide) (rfl); exact hret _ _ _ dX12_readAtom_113 ⟨hM118, (FR.rf.tr fM118 (by decide)), by omega⟩
      · refine j_aload_n C 0 0 dX12_readAtom_75 rfl rfl ?_
        refine j_iload_n C 1 1 dX12_readAtom_76 rfl rfl ?_
        refine j_callVi C (d := 6) (As := [.int (sI 1)]) (st := []) 98 (s_lt rfl rfl) (s_kc (c := 11) rfl rfl) (by decide) rfl (s2_X12_goesIn hM0 hpr (by omega) (by omega)) gX12_readAtom_X12_goesIn rfl hdX12_goesIn (by decide) (Nat.le_of_ble_eq_true rfl) dX12_readAtom_77 rfl (fun r122 M123 h124 => ?_)
        obtain ⟨a126, rfl, hM123, fM123, h125⟩ := h124
        have u127c := fun h => ex_c (M := M0) (N := M0) (P := M123) (r := 0) (e := 0) (FR.cell fM123 (by decide)) h
        have u127n := INV.rd hM123 (i := 102) (c := 48) (k := 280) rfl rfl
        refine y_if_ne C 84 dX12_readAtom_80 (by decide) (by omega) (fun h128 => ?_) (fun h128 => ?_)
        · refine j_aload_n C 0 0 dX12_readAtom_84 rfl rfl ?_
          refine j_iload_n C 1 1 dX12_readAtom_85 rfl rfl ?_
          refine y_iconst C dX12_readAtom_86 ?_
          refine y_iadd C dX12_readAtom_87 ?_
          refine j_callVv C (d := 21) (As := [.int (sI (1 + 1))]) (st := []) 98 (s_lt rfl rfl) (s_kc (c := 11) rfl rfl) (by decide) rfl (s5_X12_readSum hM123 hpr (by omega) (by omega) (by omega) (by omega)) gX12_readAtom_X12_readSum rfl hdX12_readSum (by decide) (Nat.le_of_ble_eq_true rfl) dX12_readAtom_88 rfl (fun M130 h131 => ?_)
          obtain ⟨hM130, fM130, h132⟩ := h131
          have u133t := fun h1 h2 => ex_tr (M := M0) (N := M123) (P := M130) (r1 := 0) (e1 := 0) (r2 := 0) (e2 := 1) (r := 0) (e := 1) (by decide) h1 h2
          have u133n := INV.rd hM130 (i := 102) (c := 48) (k := 280) rfl rfl
          refine j_aload_n C 0 0 dX12_readAtom_91 rfl rfl ?_
          refine y_bipush C dX12_readAtom_92 rfl ?_
          refine j_callVi C (d := 6) (As := [.int (sI 36)]) (st := []) 98 (s_lt rfl rfl) (s_kc (c := 11) rfl rfl) (by decide) rfl (s1_X12_eats hM130 hpr 36 (by omega) (by omega) (by omega) (by omega)) gX12_readAtom_X12_eats rfl hdX12_eats (by decide) (Nat.le_of_ble_eq_true rfl) dX12_readAtom_94 rfl (fun r134 M135 h136 => ?_)
          obtain ⟨a138, rfl, hM135, fM135, h137⟩ := h136
          have u139c := fun h => ex_c (M := M0) (N := M130) (P := M135) (r := 0) (e := 1) (FR.cell fM135 (by decide)) h
          have u139n := INV.rd hM135 (i := 102) (c := 48) (k := 280) rfl rfl
          refine y_if_ne C 113 dX12_readAtom_97 (by decide) (by omega) (fun h140 => ?_) (fun h140 => ?_)
          · have u141c := fun h => ex_c (M := M0) (N := M130) (P := M135) (r := 0) (e := 1) (FR.cell fM135 (by decide)) h
            have u141d := fun h => ex_c (M := M0) (N := M130) (P := M135) (r := 0) (e := 0) (FR.cell fM135 (by decide)) h
            have u141n := INV.rd hM135 (i := 102) (c := 48) (k := 280) rfl rfl
            have zz102_280 : (M135.1 102 280).toInt = (M130.1 102 280).toInt := s_fF fM135 (by decide) (rfl); exact hret _ _ _ dX12_readAtom_113 ⟨hM135, (((FR.rf.tr fM123 (by decide)).tr fM130 (by decide)).tr fM135 (by decide)), by omega⟩
          · refine j_aload_n C 0 0 dX12_readAtom_100 rfl rfl ?_
            refine y_iconst C dX12_readAtom_101 ?_
            refine j_callVv C (d := 0) (As := [.int (sI 2)]) (st := []) 98 (s_lt rfl rfl) (s_kc (c := 11) rfl rfl) (by decide) rfl (s1_X12_fails hM135 hpr 2 (by omega) (by omega) (by omega)) gX12_readAtom_X12_fails rfl hdX12_fails (by decide) (Nat.le_of_ble_eq_true rfl) dX12_readAtom_102 rfl (fun M143 h144 => ?_)
            obtain ⟨hM143, fM143, h145⟩ := h144
            refine j_goto C 113 dX12_readAtom_105 (by decide) ?_
            have u146c := fun h => ex_c (M := M0) (N := M135) (P := M143) (r := 0) (e := 1) (FR.cell fM143 (by decide)) h
            have u146d := fun h => ex_c (M := M0) (N := M135) (P := M143) (r := 0) (e := 0) (FR.cell fM143 (by decide)) h
            have u146n := INV.rd hM143 (i := 102) (c := 48) (k := 280) rfl rfl
            have zz102_280 : (M143.1 102 280).toInt = (M130.1 102 280).toInt := s_fF fM135 (by decide) (s_fF fM143 (by decide) (rfl)); exact hret _ _ _ dX12_readAtom_113 ⟨hM143, ((((FR.rf.tr fM123 (by decide)).tr fM130 (by decide)).tr fM135 (by decide)).tr fM143 (by decide)), by omega⟩
        · have u147c := fun h => ex_c (M := M0) (N := M0) (P := M123) (r := 0) (e := 1) (FR.cell fM123 (by decide)) h
          have u147d := fun h => ex_c (M := M0) (N := M0) (P := M123) (r := 0) (e := 0) (FR.cell fM123 (by decide)) h
          have u147n := INV.rd hM123 (i := 102) (c := 48) (k := 280) rfl rfl
          have zz102_280 : (M123.1 102 280).toInt = (M0.1 102 280).toInt := s_fF fM123 (by decide) (rfl); exact hret _ _ _ dX12_readAtom_83 ⟨hM123, (FR.rf.tr fM123 (by decide)), by omega⟩
    · refine j_aload_n C 0 0 dX12_readAtom_31 rfl rfl ?_
      refine j_aload_n C 0 0 dX12_readAtom_32 rfl rfl ?_
      refine y_getI C 11 _ _ fX12_readAtom_108 rfl rfl ft_11_9 sb_11_9 hM0 dX12_readAtom_33 (fun a148 ea148 la148 ua148 => ?_)
      obtain rfl : a148 = (M0.1 98 9).toInt := ea148
      refine j_callVi C (d := 0) (As := [.int (sI (M0.1 98 9).toInt)]) (st := []) 98 (s_lt rfl rfl) (s_kc (c := 11) rfl rfl) (by decide) rfl (s1_X12_wordOf hM0 (M0.1 98 9).toInt (by omega)) gX12_readAtom_X12_wordOf rfl hdX12_wordOf (by decide) (Nat.le_of_ble_eq_true rfl) dX12_readAtom_36 rfl (fun r150 M151 h152 => ?_)
      obtain ⟨a154, rfl, rfl, h153⟩ := h152
      obtain rfl : a154 = (woF (M0.1 98 9).toInt) := by omega
      refine y_iconst C dX12_readAtom_39 ?_
      refine y_icmp_eq C 66 dX12_readAtom_40 (by decide) (by omega) (fun h155 => ?_) (fun h155 => ?_)
      · refine j_aload_n C 0 0 dX12_readAtom_66 rfl rfl ?_
        refine y_bipush C dX12_readAtom_67 rfl ?_
        refine j_callVi C (d := 0) (As := [.int (sI 35)]) (st := []) 98 (s_lt rfl rfl) (s_kc (c := 11) rfl rfl) (by decide) rfl (s1_X12_is hM0 35 (by omega)) gX12_readAtom_X12_is rfl hdX12_is (by decide) (Nat.le_of_ble_eq_true rfl) dX12_readAtom_69 rfl (fun r156 M157 h158 => ?_)
        obtain ⟨a160, rfl, rfl, h159⟩ := h158
        refine y_if_eq C 108 dX12_readAtom_72 (by decide) (by omega) (fun h161 => ?_) (fun h161 => ?_)
        · refine j_aload_n C 0 0 dX12_readAtom_108 rfl rfl ?_
          refine y_iconst C dX12_readAtom_109 ?_
          refine j_callVv C (d := 0) (As := [.int (sI 2)]) (st := []) 98 (s_lt rfl rfl) (s_kc (c := 11) rfl rfl) (by decide) rfl (s1_X12_fails hM0 hpr 2 (by omega) (by omega) (by omega)) gX12_readAtom_X12_fails rfl hdX12_fails (by decide) (Nat.le_of_ble_eq_true rfl) dX12_readAtom_110 rfl (fun M163 h164 => ?_)
          obtain ⟨hM163, fM163, h165⟩ := h164
          have u166c := fun h => ex_c (M := M0) (N := M0) (P := M163) (r := 0) (e := 1) (FR.cell fM163 (by decide)) h
          have u166d := fun h => ex_c (M := M0) (N := M0) (P := M163) (r := 0) (e := 0) (FR.cell fM163 (by decide)) h
          have u166n := INV.rd hM163 (i := 102) (c := 48) (k := 280) rfl rfl
          have zz102_280 : (M163.1 102 280).toInt = (M0.1 102 280).toInt := s_fF fM163 (by decide) (rfl); exact hret _ _ _ dX12_readAtom_113 ⟨hM163, (FR.rf.tr fM163 (by decide)), by omega⟩
        · refine j_aload_n C 0 0 dX12_readAtom_75 rfl rfl ?_
          refine j_iload_n C 1 1 dX12_readAtom_76 rfl rfl ?_
          refine j_callVi C (d := 6) (As := [.int (sI 1)]) (st := []) 98 (s_lt rfl rfl) (s_kc (c := 11) rfl rfl) (by decide) rfl (s2_X12_goesIn hM0 hpr (by omega) (by omega)) gX12_readAtom_X12_goesIn rfl hdX12_goesIn (by decide) (Nat.le_of_ble_eq_true rfl) dX12_readAtom_77 rfl (fun r167 M168 h169 => ?_)
          obtain ⟨a171, rfl, hM168, fM168, h170⟩ := h169
          have u172c := fun h => ex_c (M := M0) (N := M0) (P := M168) (r := 0) (e := 0) (FR.cell fM168 (by decide)) h
          have u172n := INV.rd hM168 (i := 102) (c := 48) (k := 280) rfl rfl
          refine y_if_ne C 84 dX12_readAtom_80 (by decide) (by omega) (fun h173 => ?_) (fun h173 => ?_)
          · refine j_aload_n C 0 0 dX12_readAtom_84 rfl rfl ?_
            refine j_iload_n C 1 1 dX12_readAtom_85 rfl rfl ?_
            refine y_iconst C dX12_readAtom_86 ?_
            refine y_iadd C dX12_readAtom_87 ?_
            refine j_callVv C (d := 21) (As := [.int (sI (1 + 1))]) (st := []) 98 (s_lt rfl rfl) (s_kc (c := 11) rfl rfl) (by decide) rfl (s5_X12_readSum hM168 hpr (by omega) (by omega) (by omega) (by omega)) gX12_readAtom_X12_readSum rfl hdX12_readSum (by decide) (Nat.le_of_ble_eq_true rfl) dX12_readAtom_88 rfl (fun M175 h176 => ?_)
            obtain ⟨hM175, fM175, h177⟩ := h176
            have u178t := fun h1 h2 => ex_tr (M := M0) (N := M168) (P := M175) (r1 := 0) (e1 := 0) (r2 := 0) (e2 := 1) (r := 0) (e := 1) (by decide) h1 h2
            have u178n := INV.rd hM175 (i := 102) (c := 48) (k := 280) rfl rfl
            refine j_aload_n C 0 0 dX12_readAtom_91 rfl rfl ?_
            refine y_bipush C dX12_readAtom_92 rfl ?_
            refine j_callVi C (d := 6) (As := [.int (sI 36)]) (st := []) 98 (s_lt rfl rfl) (s_kc (c := 11) rfl rfl) (by decide) rfl (s1_X12_eats hM175 hpr 36 (by omega) (by omega) (by omega) (by omega)) gX12_readAtom_X12_eats rfl hdX12_eats (by decide) (Nat.le_of_ble_eq_true rfl) dX12_readAtom_94 rfl (fun r179 M180 h181 => ?_)
            obtain ⟨a183, rfl, hM180, fM180, h182⟩ := h181
            have u184c := fun h => ex_c (M := M0) (N := M175) (P := M180) (r := 0) (e := 1) (FR.cell fM180 (by decide)) h
            have u184n := INV.rd hM180 (i := 102) (c := 48) (k := 280) rfl rfl
            refine y_if_ne C 113 dX12_readAtom_97 (by decide) (by omega) (fun h185 => ?_) (fun h185 => ?_)
            · have u186c := fun h => ex_c (M := M0) (N := M175) (P := M180) (r := 0) (e := 1) (FR.cell fM180 (by decide)) h
              have u186d := fun h => ex_c (M := M0) (N := M175) (P := M180) (r := 0) (e := 0) (FR.cell fM180 (by decide)) h
              have u186n := INV.rd hM180 (i := 102) (c := 48) (k := 280) rfl rfl
              have zz102_280 : (M180.1 102 280).toInt = (M175.1 102 280).toInt := s_fF fM180 (by decide) (rfl); exact hret _ _ _ dX12_readAtom_113 ⟨hM180, (((FR.rf.tr fM168 (by decide)).tr fM175 (by decide)).tr fM180 (by decide)), by omega⟩
            · refine j_aload_n C 0 0 dX12_readAtom_100 rfl rfl ?_
              refine y_iconst C dX12_readAtom_101 ?_
              refine j_callVv C (d := 0) (As := [.int (sI 2)]) (st := []) 98 (s_lt rfl rfl) (s_kc (c := 11) rfl rfl) (by decide) rfl (s1_X12_fails hM180 hpr 2 (by omega) (by omega) (by omega)) gX12_readAtom_X12_fails rfl hdX12_fails (by decide) (Nat.le_of_ble_eq_true rfl) dX12_readAtom_102 rfl (fun M188 h189 => ?_)
              obtain ⟨hM188, fM188, h190⟩ := h189
              refine j_goto C 113 dX12_readAtom_105 (by decide) ?_
              have u191c := fun h => ex_c (M := M0) (N := M180) (P := M188) (r := 0) (e := 1) (FR.cell fM188 (by decide)) h
              have u191d := fun h => ex_c (M := M0) (N := M180) (P := M188) (r := 0) (e := 0) (FR.cell fM188 (by decide)) h
              have u191n := INV.rd hM188 (i := 102) (c := 48) (k := 280) rfl rfl
              have zz102_280 : (M188.1 102 280).toInt = (M175.1 102 280).toInt := s_fF fM180 (by decide) (s_fF fM188 (by decide) (rfl)); exact hret _ _ _ dX12_readAtom_113 ⟨hM188, ((((FR.rf.tr fM168 (by decide)).tr fM175 (by decide)).tr fM180 (by decide)).tr fM188 (by decide)), by omega⟩
          · have u192c := fun h => ex_c (M := M0) (N := M0) (P := M168) (r := 0) (e := 1) (FR.cell fM168 (by decide)) h
            have u192d := fun h => ex_c (M := M0) (N := M0) (P := M168) (r := 0) (e := 0) (FR.cell fM168 (by decide)) h
            have u192n := INV.rd hM168 (i := 102) (c := 48) (k := 280) rfl rfl
            have zz102_280 : (M168.1 102 280).toInt = (M0.1 102 280).toInt := s_fF fM168 (by decide) (rfl); exact hret _ _ _ dX12_readAtom_83 ⟨hM168, (FR.rf.tr fM168 (by decide)), by omega⟩
      · refine j_aload_n C 0 0 dX12_readAtom_43 rfl rfl ?_
        refine y_sipush C dX12_readAtom_44 rfl ?_
        refine j_aload_n C 0 0 dX12_readAtom_47 rfl rfl ?_
        refine j_aload_n C 0 0 dX12_readAtom_48 rfl rfl ?_
        refine y_getI C 11 _ _ fX12_readAtom_108 rfl rfl ft_11_9 sb_11_9 hM0 dX12_readAtom_49 (fun a193 ea193 la193 ua193 => ?_)
        obtain rfl : a193 = (M0.1 98 9).toInt := ea193
        refine j_callVi C (d := 0) (As := [.int (sI (M0.1 98 9).toInt)]) (st := [.int (sI 1000), .ref (ad 98)]) 98 (s_lt rfl rfl) (s_kc (c := 11) rfl rfl) (by decide) rfl (s1_X12_wordOf hM0 (M0.1 98 9).toInt (by omega)) gX12_readAtom_X12_wordOf rfl hdX12_wordOf (by decide) (Nat.le_of_ble_eq_true rfl) dX12_readAtom_52 rfl (fun r195 M196 h197 => ?_)
        obtain ⟨a199, rfl, rfl, h198⟩ := h197
        obtain rfl : a199 = (woF (M0.1 98 9).toInt) := by omega
        refine y_iadd C dX12_readAtom_55 ?_
        refine j_callVv C (d := 0) (As := [.int (sI (1000 + (woF (M0.1 98 9).toInt)))]) (st := []) 98 (s_lt rfl rfl) (s_kc (c := 11) rfl rfl) (by decide) rfl (s1_X12_codes hM0 hpr (1000 + (woF (M0.1 98 9).toInt)) (by omega) (by omega) (by omega)) gX12_readAtom_X12_codes rfl hdX12_codes (by decide) (Nat.le_of_ble_eq_true rfl) dX12_readAtom_56 rfl (fun M201 h202 => ?_)
        obtain ⟨hM201, fM201, h203⟩ := h202
        have u204n := INV.rd hM201 (i := 102) (c := 48) (k := 280) rfl rfl
        have u204p := fun h => ap_push (M := M0) (N := M201) (c := (1000 + (woF (M0.1 98 9).toInt))) (by omega) h
        have u204t := fun h1 h2 => ex_tr (M := M0) (N := M0) (P := M201) (r1 := 0) (e1 := 0) (r2 := 0) (e2 := 1) (r := 0) (e := 1) (by decide) h1 h2
        refine j_aload_n C 0 0 dX12_readAtom_59 rfl rfl ?_
        refine j_callVv C (d := 5) (As := []) (st := []) 98 (s_lt rfl rfl) (s_kc (c := 11) rfl rfl) (by decide) rfl (s1_X12_next hM201 hpr (by omega) (by omega) (by omega)) gX12_readAtom_X12_next rfl hdX12_next (by decide) (Nat.le_of_ble_eq_true rfl) dX12_readAtom_60 rfl (fun M206 h207 => ?_)
        obtain ⟨hM206, fM206, h208⟩ := h207
        refine j_goto C 113 dX12_readAtom_63 (by decide) ?_
        have u209c := fun h => ex_c (M := M0) (N := M201) (P := M206) (r := 0) (e := 1) (FR.cell fM206 (by decide)) h
        have u209d := fun h => ex_c (M := M0) (N := M201) (P := M206) (r := 0) (e := 0) (FR.cell fM206 (by decide)) h
        have u209n := INV.rd hM206 (i := 102) (c := 48) (k := 280) rfl rfl
        have zz102_280 : (M206.1 102 280).toInt = (M201.1 102 280).toInt := s_fF fM206 (by decide) (rfl); exact hret _ _ _ dX12_readAtom_113 ⟨hM206, ((FR.rf.tr fM201 (by decide)).tr fM206 (by decide)), by omega⟩
  · refine j_aload_n C 0 0 dX12_readAtom_9 rfl rfl ?_
    refine j_aload_n C 0 0 dX12_readAtom_10 rfl rfl ?_
    refine y_getI C 11 _ _ fX12_readAtom_121 rfl rfl ft_11_10 sb_11_10 hM0 dX12_readAtom_11 (fun a210 ea210 la210 ua210 => ?_)
    obtain rfl : a210 = (M0.1 98 10).toInt := ea210
    refine j_callVv C (d := 0) (As := [.int (sI (M0.1 98 10).toInt)]) (st := []) 98 (s_lt rfl rfl) (s_kc (c := 11) rfl rfl) (by decide) rfl (s1_X12_codes hM0 hpr (M0.1 98 10).toInt (by omega) (by omega) (by omega)) gX12_readAtom_X12_codes rfl hdX12_codes (by decide) (Nat.le_of_ble_eq_true rfl) dX12_readAtom_14 rfl (fun M213 h214 => ?_)
    obtain ⟨hM213, fM213, h215⟩ := h214
    have u216n := INV.rd hM213 (i := 102) (c := 48) (k := 280) rfl rfl
    have u216p := fun h => ap_push (M := M0) (N := M213) (c := (M0.1 98 10).toInt) (by omega) h
    have u216t := fun h1 h2 => ex_tr (M := M0) (N := M0) (P := M213) (r1 := 0) (e1 := 0) (r2 := 0) (e2 := 1) (r := 0) (e := 1) (by decide) h1 h2
    refine j_aload_n C 0 0 dX12_readAtom_17 rfl rfl ?_
    refine j_callVv C (d := 5) (As := []) (st := []) 98 (s_lt rfl rfl) (s_kc (c := 11) rfl rfl) (by decide) rfl (s1_X12_next hM213 hpr (by omega) (by omega) (by omega)) gX12_readAtom_X12_next rfl hdX12_next (by decide) (Nat.le_of_ble_eq_true rfl) dX12_readAtom_18 rfl (fun M218 h219 => ?_)
    obtain ⟨hM218, fM218, h220⟩ := h219
    refine j_goto C 113 dX12_readAtom_21 (by decide) ?_
    have u221c := fun h => ex_c (M := M0) (N := M213) (P := M218) (r := 0) (e := 1) (FR.cell fM218 (by decide)) h
    have u221d := fun h => ex_c (M := M0) (N := M213) (P := M218) (r := 0) (e := 0) (FR.cell fM218 (by decide)) h
    have u221n := INV.rd hM218 (i := 102) (c := 48) (k := 280) rfl rfl
    have zz102_280 : (M218.1 102 280).toInt = (M213.1 102 280).toInt := s_fF fM218 (by decide) (rfl); exact hret _ _ _ dX12_readAtom_113 ⟨hM218, ((FR.rf.tr fM213 (by decide)).tr fM218 (by decide)), by omega⟩
set_option maxHeartbeats 4000000 in
theorem s6_X12_readTerm {l : Launch} {dC : Nat → ClassId} {dI : Nat → Nat → Nat} {ad : Nat → Nat} {cA : Nat → ClassId} {pr : Nat → Nat → Bool} {Kz : mm_M} {M0 : mm_M} (hM0 : INV pr Kz M0) (hpr : PM pr)  (hp0 : (M0.1 98 6).toInt ≤ (M0.1 98 7).toInt ∧ (M0.1 98 7).toInt ≤ (M0.1 98 8).toInt ∧ (M0.1 98 8).toInt ≤ 900 ∧ ((M0.1 98 9).toInt = 24 ∨ (M0.1 98 6).toInt < (M0.1 98 7).toInt)) (hp1 : ¬ (M0.1 98 11).toInt = 0 ∨ (M0.1 102 280).toInt ≤ (M0.1 98 6).toInt) (hp2 : 0 ≤ (M0.1 102 280).toInt) (hp3 : b01 (PI M0) = 1) : Cv l 23 yX12_readTerm wsX12_readTerm dC dI ad cA [.ref (ad 98), .int (sI 1)] M0 (fun M' => INV pr Kz M' ∧ FR [98, 102] M0 M' ∧ ((M'.1 98 6).toInt ≤ (M'.1 98 7).toInt ∧ (M'.1 98 7).toInt ≤ (M'.1 98 8).toInt ∧ (M'.1 98 8).toInt ≤ 900 ∧ ((M'.1 98 9).toInt = 24 ∨ (M'.1 98 6).toInt < (M'.1 98 7).toInt)) ∧ ((M'.1 98 8).toInt = (M0.1 98 8).toInt) ∧ ((M0.1 98 6).toInt ≤ (M'.1 98 6).toInt) ∧ (0 ≤ (M'.1 102 280).toInt) ∧ (¬ (M'.1 98 11).toInt = 0 ∨ (M0.1 98 11).toInt = 0 ∧ (M'.1 102 280).toInt - (M'.1 98 6).toInt + 0 ≤ (M0.1 102 280).toInt - (M0.1 98 6).toInt ∧ (M0.1 102 280).toInt ≤ (M'.1 102 280).toInt ∧ b01 (EXT M0 M' 0 1) = 1) ∧ (b01 (PI M') = 1)) := by
  refine cv_of (cc := cX12_readTerm) (maxL := 2) (lv := [(0, .ref (ad 98)), (1, .int (sI 1))]) (by decide) rfl (Nat.le_of_ble_eq_true rfl) rfl ?_
  intro p e s m args below meth c A Q C hret
  have u101z := ex_0 M0
  have u101n := INV.rd hM0 (i := 102) (c := 48) (k := 280) rfl rfl
  refine j_aload_n C 0 0 dX12_readTerm_0 rfl rfl ?_
  refine j_iload_n C 1 1 dX12_readTerm_1 rfl rfl ?_
  refine j_callVv C (d := 22) (As := [.int (sI 1)]) (st := []) 98 (s_lt rfl rfl) (s_kc (c := 11) rfl rfl) (by decide) rfl (s6_X12_readAtom hM0 hpr (by omega) (by omega) (by omega) (by omega)) gX12_readTerm_X12_readAtom rfl hdX12_readAtom (by decide) (Nat.le_of_ble_eq_true rfl) dX12_readTerm_2 rfl (fun M103 h104 => ?_)
  obtain ⟨hM103, fM103, h105⟩ := h104
  have u106t := fun h1 h2 => ex_tr (M := M0) (N := M0) (P := M103) (r1 := 0) (e1 := 0) (r2 := 0) (e2 := 1) (r := 0) (e := 1) (by decide) h1 h2
  have u106n := INV.rd hM103 (i := 102) (c := 48) (k := 280) rfl rfl
  have L127 : ∀ (n125 : Nat), ∀ (M128 : mm_M), (((M128.1 98 6).toInt ≤ (M128.1 98 7).toInt ∧ (M128.1 98 7).toInt ≤ (M128.1 98 8).toInt ∧ (M128.1 98 8).toInt ≤ 900 ∧ ((M128.1 98 9).toInt = 24 ∨ (M128.1 98 6).toInt < (M128.1 98 7).toInt)) ∧ ((M128.1 98 8).toInt = (M0.1 98 8).toInt) ∧ ((M0.1 98 6).toInt ≤ (M128.1 98 6).toInt) ∧ (0 ≤ (M128.1 102 280).toInt) ∧ (¬ (M128.1 98 11).toInt = 0 ∨ (M0.1 98 11).toInt = 0 ∧ (M128.1 102 280).toInt - (M128.1 98 6).toInt + 0 ≤ (M0.1 102 280).toInt - (M0.1 98 6).toInt ∧ (M0.1 102 280).toInt ≤ (M128.1 102 280).toInt ∧ b01 (EXT M0 M128 0 1) = 1) ∧ (b01 (PI M128) = 1) ∧ (900 - (M128.1 98 6).toInt) < (n125 : Int)) → INV pr Kz M128 → FR [98, 102] M0 M128 → jj p l e (cn_R 23) s m args below meth c 0 0 Q 2 dC dI ad cA A M128 5 [(0, .ref (ad 98)), (1, .int (sI 1))] [] := by
    intro n125
    induction n125 with
    | zero =>
      intro M128 h129 hM128 fM128
      exfalso; omega
    | succ n125 ih126 =>
      intro M128 h129 hM128 fM128
      refine j_aload_n C 0 0 dX12_readTerm_5 rfl rfl ?_
      refine y_bipush C dX12_readTerm_6 rfl ?_
      refine j_callVi C (d := 6) (As := [.int (sI 34)]) (st := []) 98 (s_lt rfl rfl) (s_kc (c := 11) rfl rfl) (by decide) rfl (s1_X12_eats hM128 hpr 34 (by omega) (by omega) (by omega) (by omega)) gX12_readTerm_X12_eats rfl hdX12_eats (by decide) (Nat.le_of_ble_eq_true rfl) dX12_readTerm_8 rfl (fun r130 M131 h132 => ?_)
      obtain ⟨a134, rfl, hM131, fM131, h133⟩ := h132
      have u135c := fun h => ex_c (M := M0) (N := M128) (P := M131) (r := 0) (e := 1) (FR.cell fM131 (by decide)) h
      have u135n := INV.rd hM131 (i := 102) (c := 48) (k := 280) rfl rfl
      refine y_if_eq C 29 dX12_readTerm_11 (by decide) (by omega) (fun h136 => ?_) (fun h136 => ?_)
      · have u147c := fun h => ex_c (M := M0) (N := M128) (P := M131) (r := 0) (e := 1) (FR.cell fM131 (by decide)) h
        have u147d := fun h => ex_c (M := M0) (N := M128) (P := M131) (r := 0) (e := 0) (FR.cell fM131 (by decide)) h
        have u147n := INV.rd hM131 (i := 102) (c := 48) (k := 280) rfl rfl
        have zz102_280 : (M131.1 102 280).toInt = (M128.1 102 280).toInt := s_fF fM131 (by decide) (rfl); exact hret _ _ _ dX12_readTerm_29 ⟨hM131, ((FR.rf.tr fM128 (by decide)).tr fM131 (by decide)), by omega⟩
      · refine j_aload_n C 0 0 dX12_readTerm_14 rfl rfl ?_
        refine j_iload_n C 1 1 dX12_readTerm_15 rfl rfl ?_
        refine j_callVv C (d := 22) (As := [.int (sI 1)]) (st := []) 98 (s_lt rfl rfl) (s_kc (c := 11) rfl rfl) (by decide) rfl (s6_X12_readAtom hM131 hpr (by omega) (by omega) (by omega) (by omega)) gX12_readTerm_X12_readAtom rfl hdX12_readAtom (by decide) (Nat.le_of_ble_eq_true rfl) dX12_readTerm_16 rfl (fun M138 h139 => ?_)
        obtain ⟨hM138, fM138, h140⟩ := h139
        have u141t := fun h1 h2 => ex_tr (M := M0) (N := M131) (P := M138) (r1 := 0) (e1 := 1) (r2 := 0) (e2 := 1) (r := 0) (e := 2) (by decide) h1 h2
        have u141n := INV.rd hM138 (i := 102) (c := 48) (k := 280) rfl rfl
        refine j_aload_n C 0 0 dX12_readTerm_19 rfl rfl ?_
        refine y_sipush C dX12_readTerm_20 rfl ?_
        refine j_callVv C (d := 0) (As := [.int (sI 3002)]) (st := []) 98 (s_lt rfl rfl) (s_kc (c := 11) rfl rfl) (by decide) rfl (s1_X12_codes hM138 hpr 3002 (by omega) (by omega) (by omega)) gX12_readTerm_X12_codes rfl hdX12_codes (by decide) (Nat.le_of_ble_eq_true rfl) dX12_readTerm_23 rfl (fun M143 h144 => ?_)
        obtain ⟨hM143, fM143, h145⟩ := h144
        refine j_goto C 5 dX12_readTerm_26 (by decide) ?_
        have u146n := INV.rd hM143 (i := 102) (c := 48) (k := 280) rfl rfl
        have u146p := fun h => ap_bin (M := M138) (N := M143) (c := 3002) (by omega) h
        have u146t := fun h1 h2 => ex_tr (M := M0) (N := M138) (P := M143) (r1 := 0) (e1 := 2) (r2 := 2) (e2 := (-1)) (r := 0) (e := 1) (by decide) h1 h2
        have zz98_9 : (M143.1 98 9).toInt = (M138.1 98 9).toInt := s_fF fM143 (by decide) (rfl); have zz98_8 : (M143.1 98 8).toInt = (M138.1 98 8).toInt := s_fF fM143 (by decide) (rfl); have zz98_7 : (M143.1 98 7).toInt = (M138.1 98 7).toInt := s_fF fM143 (by decide) (rfl); have zz98_6 : (M143.1 98 6).toInt = (M138.1 98 6).toInt := s_fF fM143 (by decide) (rfl); have zz98_11 : (M143.1 98 11).toInt = (M138.1 98 11).toInt := s_fF fM143 (by decide) (rfl); exact ih126 M143 (by omega) hM143 ((((FR.rf.tr fM128 (by decide)).tr fM131 (by decide)).tr fM138 (by decide)).tr fM143 (by decide))
  exact L127 2010 M103 (by omega) hM103 (FR.rf.tr fM103 (by decide))
set_option maxHeartbeats 4000000 in
theorem s6_X12_readSum {l : Launch} {dC : Nat → ClassId} {dI : Nat → Nat → Nat} {ad : Nat → Nat} {cA : Nat → ClassId} {pr : Nat → Nat → Bool} {Kz : mm_M} {M0 : mm_M} (hM0 : INV pr Kz M0) (hpr : PM pr)  (hp0 : (M0.1 98 6).toInt ≤ (M0.1 98 7).toInt ∧ (M0.1 98 7).toInt ≤ (M0.1 98 8).toInt ∧ (M0.1 98 8).toInt ≤ 900 ∧ ((M0.1 98 9).toInt = 24 ∨ (M0.1 98 6).toInt < (M0.1 98 7).toInt)) (hp1 : ¬ (M0.1 98 11).toInt = 0 ∨ (M0.1 102 280).toInt ≤ (M0.1 98 6).toInt) (hp2 : 0 ≤ (M0.1 102 280).toInt) (hp3 : b01 (PI M0) = 1) : Cv l 24 yX12_readSum wsX12_readSum dC dI ad cA [.ref (ad 98), .int (sI 1)] M0 (fun M' => INV pr Kz M' ∧ FR [98, 102] M0 M' ∧ ((M'.1 98 6).toInt ≤ (M'.1 98 7).toInt ∧ (M'.1 98 7).toInt ≤ (M'.1 98 8).toInt ∧ (M'.1 98 8).toInt ≤ 900 ∧ ((M'.1 98 9).toInt = 24 ∨ (M'.1 98 6).toInt < (M'.1 98 7).toInt)) ∧ ((M'.1 98 8).toInt = (M0.1 98 8).toInt) ∧ ((M0.1 98 6).toInt ≤ (M'.1 98 6).toInt) ∧ (0 ≤ (M'.1 102 280).toInt) ∧ (¬ (M'.1 98 11).toInt = 0 ∨ (M0.1 98 11).toInt = 0 ∧ (M'.1 102 280).toInt - (M'.1 98 6).toInt + 0 ≤ (M0.1 102 280).toInt - (M0.1 98 6).toInt ∧ (M0.1 102 280).toInt ≤ (M'.1 102 280).toInt ∧ b01 (EXT M0 M' 0 1) = 1) ∧ (b01 (PI M') = 1)) := by
  refine cv_of (cc := cX12_readSum) (maxL := 3) (lv := [(0, .ref (ad 98)), (1, .int (sI 1))]) (by decide) rfl (Nat.le_of_ble_eq_true rfl) rfl ?_
  intro p e s m args below meth c A Q C hret
  have u101z := ex_0 M0
  have u101n := INV.rd hM0 (i := 102) (c := 48) (k := 280) rfl rfl
  refine j_aload_n C 0 0 dX12_readSum_0 rfl rfl ?_
  refine j_iload_n C 1 1 dX12_readSum_1 rfl rfl ?_
  refine j_callVv C (d := 23) (As := [.int (sI 1)]) (st := []) 98 (s_lt rfl rfl) (s_kc (c := 11) rfl rfl) (by decide) rfl (s6_X12_readTerm hM0 hpr (by omega) (by omega) (by omega) (by omega)) gX12_readSum_X12_readTerm rfl hdX12_readTerm (by decide) (Nat.le_of_ble_eq_true rfl) dX12_readSum_2 rfl (fun M103 h104 => ?_)
  obtain ⟨hM103, fM103, h105⟩ := h104
  have u106t := fun h1 h2 => ex_tr (M := M0) (N := M0) (P := M103) (r1 := 0) (e1 := 0) (r2 := 0) (e2 := 1) (r := 0) (e := 1) (by decide) h1 h2
  have u106n := INV.rd hM103 (i := 102) (c := 48) (k := 280) rfl rfl
  have L164 : ∀ (n162 : Nat), ∀ (M165 : mm_M), (((M165.1 98 6).toInt ≤ (M165.1 98 7).toInt ∧ (M165.1 98 7).toInt ≤ (M165.1 98 8).toInt ∧ (M165.1 98 8).toInt ≤ 900 ∧ ((M165.1 98 9).toInt = 24 ∨ (M165.1 98 6).toInt < (M165.1 98 7).toInt)) ∧ ((M165.1 98 8).toInt = (M0.1 98 8).toInt) ∧ ((M0.1 98 6).toInt ≤ (M165.1 98 6).toInt) ∧ (0 ≤ (M165.1 102 280).toInt) ∧ (¬ (M165.1 98 11).toInt = 0 ∨ (M0.1 98 11).toInt = 0 ∧ (M165.1 102 280).toInt - (M165.1 98 6).toInt + 0 ≤ (M0.1 102 280).toInt - (M0.1 98 6).toInt ∧ (M0.1 102 280).toInt ≤ (M165.1 102 280).toInt ∧ b01 (EXT M0 M165 0 1) = 1) ∧ (b01 (PI M165) = 1) ∧ (900 - (M165.1 98 6).toInt) < (n162 : Int)) → INV pr Kz M165 → FR [98, 102] M0 M165 → jj p l e (cn_R 24) s m args below meth c 0 0 Q 3 dC dI ad cA A M165 5 [(0, .ref (ad 98)), (1, .int (sI 1))] [] := by
    intro n162
    induction n162 with
    | zero =>
      intro M165 h166 hM165 fM165
      exfalso; omega
    | succ n162 ih163 =>
      intro M165 h166 hM165 fM165
      refine j_aload_n C 0 0 dX12_readSum_5 rfl rfl ?_
      refine y_bipush C dX12_readSum_6 rfl ?_
      refine j_callVi C (d := 0) (As := [.int (sI 32)]) (st := []) 98 (s_lt rfl rfl) (s_kc (c := 11) rfl rfl) (by decide) rfl (s1_X12_is hM165 32 (by omega)) gX12_readSum_X12_is rfl hdX12_is (by decide) (Nat.le_of_ble_eq_true rfl) dX12_readSum_8 rfl (fun r167 M168 h169 => ?_)
      obtain ⟨a171, rfl, rfl, h170⟩ := h169
      refine y_if_ne C 23 dX12_readSum_11 (by decide) (by omega) (fun h172 => ?_) (fun h172 => ?_)
      · refine j_aload_n C 0 0 dX12_readSum_23 rfl rfl ?_
        refine y_getI C 11 _ _ fX12_readSum_108 rfl rfl ft_11_9 sb_11_9 hM165 dX12_readSum_24 (fun a173 ea173 la173 ua173 => ?_)
        obtain rfl : a173 = (M165.1 98 9).toInt := ea173
        refine y_bipush C dX12_readSum_27 rfl ?_
        have J177 : ∀ (a176 : Int), (3000 ≤ a176 ∧ a176 ≤ 3001) → jj p l e (cn_R 24) s m args below meth c 0 0 Q 3 dC dI ad cA A M165 41 [(0, .ref (ad 98)), (1, .int (sI 1))] [.int (sI a176)] := by
          intro a176 h178
          refine j_istore_n C 2 [(2, .int (sI a176)), (0, .ref (ad 98)), (1, .int (sI 1))] dX12_readSum_41 rfl (by decide) rfl ?_
          refine j_aload_n C 1 0 dX12_readSum_42 rfl rfl ?_
          refine j_callVv C (d := 5) (As := []) (st := []) 98 (s_lt rfl rfl) (s_kc (c := 11) rfl rfl) (by decide) rfl (s1_X12_next hM165 hpr (by omega) (by omega) (by omega)) gX12_readSum_X12_next rfl hdX12_next (by decide) (Nat.le_of_ble_eq_true rfl) dX12_readSum_43 rfl (fun M180 h181 => ?_)
          obtain ⟨hM180, fM180, h182⟩ := h181
          have u183c := fun h => ex_c (M := M0) (N := M165) (P := M180) (r := 0) (e := 1) (FR.cell fM180 (by decide)) h
          have u183n := INV.rd hM180 (i := 102) (c := 48) (k := 280) rfl rfl
          refine j_aload_n C 1 0 dX12_readSum_46 rfl rfl ?_
          refine j_iload_n C 2 1 dX12_readSum_47 rfl rfl ?_
          refine j_callVv C (d := 23) (As := [.int (sI 1)]) (st := []) 98 (s_lt rfl rfl) (s_kc (c := 11) rfl rfl) (by decide) rfl (s6_X12_readTerm hM180 hpr (by omega) (by omega) (by omega) (by omega)) gX12_readSum_X12_readTerm rfl hdX12_readTerm (by decide) (Nat.le_of_ble_eq_true rfl) dX12_readSum_48 rfl (fun M185 h186 => ?_)
          obtain ⟨hM185, fM185, h187⟩ := h186
          have u188t := fun h1 h2 => ex_tr (M := M0) (N := M180) (P := M185) (r1 := 0) (e1 := 1) (r2 := 0) (e2 := 1) (r := 0) (e := 2) (by decide) h1 h2
          have u188n := INV.rd hM185 (i := 102) (c := 48) (k := 280) rfl rfl
          refine j_aload_n C 1 0 dX12_readSum_51 rfl rfl ?_
          refine j_iload_n C 0 2 dX12_readSum_52 rfl rfl ?_
          refine j_callVv C (d := 0) (As := [.int (sI a176)]) (st := []) 98 (s_lt rfl rfl) (s_kc (c := 11) rfl rfl) (by decide) rfl (s1_X12_codes hM185 hpr a176 (by omega) (by omega) (by omega)) gX12_readSum_X12_codes rfl hdX12_codes (by decide) (Nat.le_of_ble_eq_true rfl) dX12_readSum_53 rfl (fun M190 h191 => ?_)
          obtain ⟨hM190, fM190, h192⟩ := h191
          refine j_goto C 5 dX12_readSum_56 (by decide) ?_
          have u193n := INV.rd hM190 (i := 102) (c := 48) (k := 280) rfl rfl
          have u193p := fun h => ap_bin (M := M185) (N := M190) (c := a176) (by omega) h
          have u193t := fun h1 h2 => ex_tr (M := M0) (N := M185) (P := M190) (r1 := 0) (e1 := 2) (r2 := 2) (e2 := (-1)) (r := 0) (e := 1) (by decide) h1 h2
          have zz98_9 : (M190.1 98 9).toInt = (M185.1 98 9).toInt := s_fF fM190 (by decide) (rfl); have zz98_8 : (M190.1 98 8).toInt = (M185.1 98 8).toInt := s_fF fM190 (by decide) (rfl); have zz98_7 : (M190.1 98 7).toInt = (M185.1 98 7).toInt := s_fF fM190 (by decide) (rfl); have zz98_6 : (M190.1 98 6).toInt = (M185.1 98 6).toInt := s_fF fM190 (by decide) (rfl); have zz98_11 : (M190.1 98 11).toInt = (M185.1 98 11).toInt := s_fF fM190 (by decide) (rfl); refine j_lv [1, 2] rfl ?_; exact ih163 M190 (by omega) hM190 ((((FR.rf.tr fM165 (by decide)).tr fM180 (by decide)).tr fM185 (by decide)).tr fM190 (by decide))
        refine y_icmp_ne C 38 dX12_readSum_29 (by decide) (by omega) (fun h175 => ?_) (fun h175 => ?_)
        · refine y_sipush C dX12_readSum_38 rfl ?_
          exact J177 3001 (by omega)
        · refine y_sipush C dX12_readSum_32 rfl ?_
          refine j_goto C 41 dX12_readSum_35 (by decide) ?_
          exact J177 3000 (by omega)
      · refine j_aload_n C 0 0 dX12_readSum_14 rfl rfl ?_
        refine y_bipush C dX12_readSum_15 rfl ?_
        refine j_callVi C (d := 0) (As := [.int (sI 33)]) (st := []) 98 (s_lt rfl rfl) (s_kc (c := 11) rfl rfl) (by decide) rfl (s1_X12_is hM165 33 (by omega)) gX12_readSum_X12_is rfl hdX12_is (by decide) (Nat.le_of_ble_eq_true rfl) dX12_readSum_17 rfl (fun r194 M195 h196 => ?_)
        obtain ⟨a198, rfl, rfl, h197⟩ := h196
        refine y_if_eq C 59 dX12_readSum_20 (by decide) (by omega) (fun h199 => ?_) (fun h199 => ?_)
        · have u221n := INV.rd hM165 (i := 102) (c := 48) (k := 280) rfl rfl
          exact hret _ _ _ dX12_readSum_59 ⟨hM165, (FR.rf.tr fM165 (by decide)), by omega⟩
        · refine j_aload_n C 0 0 dX12_readSum_23 rfl rfl ?_
          refine y_getI C 11 _ _ fX12_readSum_108 rfl rfl ft_11_9 sb_11_9 hM165 dX12_readSum_24 (fun a200 ea200 la200 ua200 => ?_)
          obtain rfl : a200 = (M165.1 98 9).toInt := ea200
          refine y_bipush C dX12_readSum_27 rfl ?_
          have J204 : ∀ (a203 : Int), (3000 ≤ a203 ∧ a203 ≤ 3001) → jj p l e (cn_R 24) s m args below meth c 0 0 Q 3 dC dI ad cA A M165 41 [(0, .ref (ad 98)), (1, .int (sI 1))] [.int (sI a203)] := by
            intro a203 h205
            refine j_istore_n C 2 [(2, .int (sI a203)), (0, .ref (ad 98)), (1, .int (sI 1))] dX12_readSum_41 rfl (by decide) rfl ?_
            refine j_aload_n C 1 0 dX12_readSum_42 rfl rfl ?_
            refine j_callVv C (d := 5) (As := []) (st := []) 98 (s_lt rfl rfl) (s_kc (c := 11) rfl rfl) (by decide) rfl (s1_X12_next hM165 hpr (by omega) (by omega) (by omega)) gX12_readSum_X12_next rfl hdX12_next (by decide) (Nat.le_of_ble_eq_true rfl) dX12_readSum_43 rfl (fun M207 h208 => ?_)
            obtain ⟨hM207, fM207, h209⟩ := h208
            have u210c := fun h => ex_c (M := M0) (N := M165) (P := M207) (r := 0) (e := 1) (FR.cell fM207 (by decide)) h
            have u210n := INV.rd hM207 (i := 102) (c := 48) (k := 280) rfl rfl
            refine j_aload_n C 1 0 dX12_readSum_46 rfl rfl ?_
            refine j_iload_n C 2 1 dX12_readSum_47 rfl rfl ?_
            refine j_callVv C (d := 23) (As := [.int (sI 1)]) (st := []) 98 (s_lt rfl rfl) (s_kc (c := 11) rfl rfl) (by decide) rfl (s6_X12_readTerm hM207 hpr (by omega) (by omega) (by omega) (by omega)) gX12_readSum_X12_readTerm rfl hdX12_readTerm (by decide) (Nat.le_of_ble_eq_true rfl) dX12_readSum_48 rfl (fun M212 h213 => ?_)
            obtain ⟨hM212, fM212, h214⟩ := h213
            have u215t := fun h1 h2 => ex_tr (M := M0) (N := M207) (P := M212) (r1 := 0) (e1 := 1) (r2 := 0) (e2 := 1) (r := 0) (e := 2) (by decide) h1 h2
            have u215n := INV.rd hM212 (i := 102) (c := 48) (k := 280) rfl rfl
            refine j_aload_n C 1 0 dX12_readSum_51 rfl rfl ?_
            refine j_iload_n C 0 2 dX12_readSum_52 rfl rfl ?_
            refine j_callVv C (d := 0) (As := [.int (sI a203)]) (st := []) 98 (s_lt rfl rfl) (s_kc (c := 11) rfl rfl) (by decide) rfl (s1_X12_codes hM212 hpr a203 (by omega) (by omega) (by omega)) gX12_readSum_X12_codes rfl hdX12_codes (by decide) (Nat.le_of_ble_eq_true rfl) dX12_readSum_53 rfl (fun M217 h218 => ?_)
            obtain ⟨hM217, fM217, h219⟩ := h218
            refine j_goto C 5 dX12_readSum_56 (by decide) ?_
            have u220n := INV.rd hM217 (i := 102) (c := 48) (k := 280) rfl rfl
            have u220p := fun h => ap_bin (M := M212) (N := M217) (c := a203) (by omega) h
            have u220t := fun h1 h2 => ex_tr (M := M0) (N := M212) (P := M217) (r1 := 0) (e1 := 2) (r2 := 2) (e2 := (-1)) (r := 0) (e := 1) (by decide) h1 h2
            have zz98_9 : (M217.1 98 9).toInt = (M212.1 98 9).toInt := s_fF fM217 (by decide) (rfl); have zz98_8 : (M217.1 98 8).toInt = (M212.1 98 8).toInt := s_fF fM217 (by decide) (rfl); have zz98_7 : (M217.1 98 7).toInt = (M212.1 98 7).toInt := s_fF fM217 (by decide) (rfl); have zz98_6 : (M217.1 98 6).toInt = (M212.1 98 6).toInt := s_fF fM217 (by decide) (rfl); have zz98_11 : (M217.1 98 11).toInt = (M212.1 98 11).toInt := s_fF fM217 (by decide) (rfl); refine j_lv [1, 2] rfl ?_; exact ih163 M217 (by omega) hM217 ((((FR.rf.tr fM165 (by decide)).tr fM207 (by decide)).tr fM212 (by decide)).tr fM217 (by decide))
          refine y_icmp_ne C 38 dX12_readSum_29 (by decide) (by omega) (fun h202 => ?_) (fun h202 => ?_)
          · refine y_sipush C dX12_readSum_38 rfl ?_
            exact J204 3001 (by omega)
          · refine y_sipush C dX12_readSum_32 rfl ?_
            refine j_goto C 41 dX12_readSum_35 (by decide) ?_
            exact J204 3000 (by omega)
  exact L164 2010 M103 (by omega) hM103 (FR.rf.tr fM103 (by decide))
set_option maxHeartbeats 4000000 in
theorem s7_X12_readAtom {l : Launch} {dC : Nat → ClassId} {dI : Nat → Nat → Nat} {ad : Nat → Nat} {cA : Nat → ClassId} {pr : Nat → Nat → Bool} {Kz : mm_M} {M0 : mm_M} (hM0 : INV pr Kz M0) (hpr : PM pr)  (hp0 : (M0.1 98 6).toInt ≤ (M0.1 98 7).toInt ∧ (M0.1 98 7).toInt ≤ (M0.1 98 8).toInt ∧ (M0.1 98 8).toInt ≤ 900 ∧ ((M0.1 98 9).toInt = 24 ∨ (M0.1 98 6).toInt < (M0.1 98 7).toInt)) (hp1 : ¬ (M0.1 98 11).toInt = 0 ∨ (M0.1 102 280).toInt ≤ (M0.1 98 6).toInt) (hp2 : 0 ≤ (M0.1 102 280).toInt) (hp3 : b01 (PI M0) = 1) : Cv l 25 yX12_readAtom wsX12_readAtom dC dI ad cA [.ref (ad 98), .int (sI 0)] M0 (fun M' => INV pr Kz M' ∧ FR [98, 102] M0 M' ∧ ((M'.1 98 6).toInt ≤ (M'.1 98 7).toInt ∧ (M'.1 98 7).toInt ≤ (M'.1 98 8).toInt ∧ (M'.1 98 8).toInt ≤ 900 ∧ ((M'.1 98 9).toInt = 24 ∨ (M'.1 98 6).toInt < (M'.1 98 7).toInt)) ∧ ((M'.1 98 8).toInt = (M0.1 98 8).toInt) ∧ ((M0.1 98 6).toInt ≤ (M'.1 98 6).toInt) ∧ (0 ≤ (M'.1 102 280).toInt) ∧ (¬ (M'.1 98 11).toInt = 0 ∨ (M0.1 98 11).toInt = 0 ∧ (M'.1 102 280).toInt - (M'.1 98 6).toInt + 0 ≤ (M0.1 102 280).toInt - (M0.1 98 6).toInt ∧ (M0.1 102 280).toInt ≤ (M'.1 102 280).toInt ∧ b01 (EXT M0 M' 0 1) = 1) ∧ (b01 (PI M') = 1)) := by
  refine cv_of (cc := cX12_readAtom) (maxL := 2) (lv := [(0, .ref (ad 98)), (1, .int (sI 0))]) (by decide) rfl (Nat.le_of_ble_eq_true rfl) rfl ?_
  intro p e s m args below meth c A Q C hret
  have u101z := ex_0 M0
  have u101n := INV.rd hM0 (i := 102) (c := 48) (k := 280) rfl rfl
  refine j_aload_n C 0 0 dX12_readAtom_0 rfl rfl ?_
  refine y_bipush C dX12_readAtom_1 rfl ?_
  refine j_callVi C (d := 0) (As := [.int (sI 23)]) (st := []) 98 (s_lt rfl rfl) (s_kc (c := 11) rfl rfl) (by decide) rfl (s1_X12_is hM0 23 (by omega)) gX12_readAtom_X12_is rfl hdX12_is (by decide) (Nat.le_of_ble_eq_true rfl) dX12_readAtom_3 rfl (fun r102 M103 h104 => ?_)
  obtain ⟨a106, rfl, rfl, h105⟩ := h104
  refine y_if_eq C 24 dX12_readAtom_6 (by decide) (by omega) (fun h107 => ?_) (fun h107 => ?_)
  · refine j_aload_n C 0 0 dX12_readAtom_24 rfl rfl ?_
    refine y_getI C 11 _ _ fX12_readAtom_126 rfl rfl ft_11_11 sb_11_11 hM0 dX12_readAtom_25 (fun a108 ea108 la108 ua108 => ?_)
    obtain rfl : a108 = (M0.1 98 11).toInt := ea108
    refine y_if_ne C 66 dX12_readAtom_28 (by decide) (by omega) (fun h110 => ?_) (fun h110 => ?_)
    · refine j_aload_n C 0 0 dX12_readAtom_66 rfl rfl ?_
      refine y_bipush C dX12_readAtom_67 rfl ?_
      refine j_callVi C (d := 0) (As := [.int (sI 35)]) (st := []) 98 (s_lt rfl rfl) (s_kc (c := 11) rfl rfl) (by decide) rfl (s1_X12_is hM0 35 (by omega)) gX12_readAtom_X12_is rfl hdX12_is (by decide) (Nat.le_of_ble_eq_true rfl) dX12_readAtom_69 rfl (fun r111 M112 h113 => ?_)
      obtain ⟨a115, rfl, rfl, h114⟩ := h113
      refine y_if_eq C 108 dX12_readAtom_72 (by decide) (by omega) (fun h116 => ?_) (fun h116 => ?_)
      · refine j_aload_n C 0 0 dX12_readAtom_108 rfl rfl ?_
        refine y_iconst C dX12_readAtom_109 ?_
        refine j_callVv C (d := 0) (As := [.int (sI 2)]) (st := []) 98 (s_lt rfl rfl) (s_kc (c := 11) rfl rfl) (by decide) rfl (s1_X12_fails hM0 hpr 2 (by omega) (by omega) (by omega)) gX12_readAtom_X12_fails rfl hdX12_fails (by decide) (Nat.le_of_ble_eq_true rfl) dX12_readAtom_110 rfl (fun M118 h119 => ?_)
        obtain ⟨hM118, fM118, h120⟩ := h119
        have u121c := fun h => ex_c (M := M0) (N := M0) (P := M118) (r := 0) (e := 1) (FR.cell fM118 (by decide)) h
        have u121d := fun h => ex_c (M := M0) (N := M0) (P := M118) (r := 0) (e := 0) (FR.cell fM118 (by decide)) h
        have u121n := INV.rd hM118 (i := 102) (c := 48) (k := 280) rfl rfl
        have zz102_280 : (M118.1 102 280).toInt = (M0.1 102 280).toInt := s_fF fM118 (by decide) (rfl); exact hret _ _ _ dX12_readAtom_113 ⟨hM118, (FR.rf.tr fM118 (by decide)), by omega⟩
      · refine j_aload_n C 0 0 dX12_readAtom_75 rfl rfl ?_
        refine j_iload_n C 1 1 dX12_readAtom_76 rfl rfl ?_
        refine j_callVi C (d := 6) (As := [.int (sI 0)]) (st := []) 98 (s_lt rfl rfl) (s_kc (c := 11) rfl rfl) (by decide) rfl (s1_X12_goesIn hM0 hpr (by omega) (by omega)) gX12_readAtom_X12_goesIn rfl hdX12_goesIn (by decide) (Nat.le_of_ble_eq_true rfl) dX12_readAtom_77 rfl (fun r122 M123 h124 => ?_)
        obtain ⟨a126, rfl, hM123, fM123, h125⟩ := h124
        have u127c := fun h => ex_c (M := M0) (N := M0) (P := M123) (r := 0) (e := 0) (FR.cell fM123 (by decide)) h
        have u127n := INV.rd hM123 (i := 102) (c := 48) (k := 280) rfl rfl
        refine y_if_ne C 84 dX12_readAtom_80 (by decide) (by omega) (fun h128 => ?_) (fun h128 => ?_)
        · refine j_aload_n C 0 0 dX12_readAtom_84 rfl rfl ?_
          refine j_iload_n C 1 1 dX12_readAtom_85 rfl rfl ?_
          refine y_iconst C dX12_readAtom_86 ?_
          refine y_iadd C dX12_readAtom_87 ?_
          refine j_callVv C (d := 24) (As := [.int (sI (0 + 1))]) (st := []) 98 (s_lt rfl rfl) (s_kc (c := 11) rfl rfl) (by decide) rfl (s6_X12_readSum hM123 hpr (by omega) (by omega) (by omega) (by omega)) gX12_readAtom_X12_readSum rfl hdX12_readSum (by decide) (Nat.le_of_ble_eq_true rfl) dX12_readAtom_88 rfl (fun M130 h131 => ?_)
          obtain ⟨hM130, fM130, h132⟩ := h131
          have u133t := fun h1 h2 => ex_tr (M := M0) (N := M123) (P := M130) (r1 := 0) (e1 := 0) (r2 := 0) (e2 := 1) (r := 0) (e := 1) (by decide) h1 h2
          have u133n := INV.rd hM130 (i := 102) (c := 48) (k := 280) rfl rfl
          refine j_aload_n C 0 0 dX12_readAtom_91 rfl rfl ?_
          refine y_bipush C dX12_readAtom_92 rfl ?_
          refine j_callVi C (d := 6) (As := [.int (sI 36)]) (st := []) 98 (s_lt rfl rfl) (s_kc (c := 11) rfl rfl) (by decide) rfl (s1_X12_eats hM130 hpr 36 (by omega) (by omega) (by omega) (by omega)) gX12_readAtom_X12_eats rfl hdX12_eats (by decide) (Nat.le_of_ble_eq_true rfl) dX12_readAtom_94 rfl (fun r134 M135 h136 => ?_)
          obtain ⟨a138, rfl, hM135, fM135, h137⟩ := h136
          have u139c := fun h => ex_c (M := M0) (N := M130) (P := M135) (r := 0) (e := 1) (FR.cell fM135 (by decide)) h
          have u139n := INV.rd hM135 (i := 102) (c := 48) (k := 280) rfl rfl
          refine y_if_ne C 113 dX12_readAtom_97 (by decide) (by omega) (fun h140 => ?_) (fun h140 => ?_)
          · have u141c := fun h => ex_c (M := M0) (N := M130) (P := M135) (r := 0) (e := 1) (FR.cell fM135 (by decide)) h
            have u141d := fun h => ex_c (M := M0) (N := M130) (P := M135) (r := 0) (e := 0) (FR.cell fM135 (by decide)) h
            have u141n := INV.rd hM135 (i := 102) (c := 48) (k := 280) rfl rfl
            have zz102_280 : (M135.1 102 280).toInt = (M130.1 102 280).toInt := s_fF fM135 (by decide) (rfl); exact hret _ _ _ dX12_readAtom_113 ⟨hM135, (((FR.rf.tr fM123 (by decide)).tr fM130 (by decide)).tr fM135 (by decide)), by omega⟩
          · refine j_aload_n C 0 0 dX12_readAtom_100 rfl rfl ?_
            refine y_iconst C dX12_readAtom_101 ?_
            refine j_callVv C (d := 0) (As := [.int (sI 2)]) (st := []) 98 (s_lt rfl rfl) (s_kc (c := 11) rfl rfl) (by decide) rfl (s1_X12_fails hM135 hpr 2 (by omega) (by omega) (by omega)) gX12_readAtom_X12_fails rfl hdX12_fails (by decide) (Nat.le_of_ble_eq_true rfl) dX12_readAtom_102 rfl (fun M143 h144 => ?_)
            obtain ⟨hM143, fM143, h145⟩ := h144
            refine j_goto C 113 dX12_readAtom_105 (by decide) ?_
            have u146c := fun h => ex_c (M := M0) (N := M135) (P := M143) (r := 0) (e := 1) (FR.cell fM143 (by decide)) h
            have u146d := fun h => ex_c (M := M0) (N := M135) (P := M143) (r := 0) (e := 0) (FR.cell fM143 (by decide)) h
            have u146n := INV.rd hM143 (i := 102) (c := 48) (k := 280) rfl rfl
            have zz102_280 : (M143.1 102 280).toInt = (M130.1 102 280).toInt := s_fF fM135 (by decide) (s_fF fM143 (by decide) (rfl)); exact hret _ _ _ dX12_readAtom_113 ⟨hM143, ((((FR.rf.tr fM123 (by decide)).tr fM130 (by decide)).tr fM135 (by decide)).tr fM143 (by decide)), by omega⟩
        · have u147c := fun h => ex_c (M := M0) (N := M0) (P := M123) (r := 0) (e := 1) (FR.cell fM123 (by decide)) h
          have u147d := fun h => ex_c (M := M0) (N := M0) (P := M123) (r := 0) (e := 0) (FR.cell fM123 (by decide)) h
          have u147n := INV.rd hM123 (i := 102) (c := 48) (k := 280) rfl rfl
          have zz102_280 : (M123.1 102 280).toInt = (M0.1 102 280).toInt := s_fF fM123 (by decide) (rfl); exact hret _ _ _ dX12_readAtom_83 ⟨hM123, (FR.rf.tr fM123 (by decide)), by omega⟩
    · refine j_aload_n C 0 0 dX12_readAtom_31 rfl rfl ?_
      refine j_aload_n C 0 0 dX12_readAtom_32 rfl rfl ?_
      refine y_getI C 11 _ _ fX12_readAtom_108 rfl rfl ft_11_9 sb_11_9 hM0 dX12_readAtom_33 (fun a148 ea148 la148 ua148 => ?_)
      obtain rfl : a148 = (M0.1 98 9).toInt := ea148
      refine j_callVi C (d := 0) (As := [.int (sI (M0.1 98 9).toInt)]) (st := []) 98 (s_lt rfl rfl) (s_kc (c := 11) rfl rfl) (by decide) rfl (s1_X12_wordOf hM0 (M0.1 98 9).toInt (by omega)) gX12_readAtom_X12_wordOf rfl hdX12_wordOf (by decide) (Nat.le_of_ble_eq_true rfl) dX12_readAtom_36 rfl (fun r150 M151 h152 => ?_)
      obtain ⟨a154, rfl, rfl, h153⟩ := h152
      obtain rfl : a154 = (woF (M0.1 98 9).toInt) := by omega
      refine y_iconst C dX12_readAtom_39 ?_
      refine y_icmp_eq C 66 dX12_readAtom_40 (by decide) (by omega) (fun h155 => ?_) (fun h155 => ?_)
      · refine j_aload_n C 0 0 dX12_readAtom_66 rfl rfl ?_
        refine y_bipush C dX12_readAtom_67 rfl ?_
        refine j_callVi C (d := 0) (As := [.int (sI 35)]) (st := []) 98 (s_lt rfl rfl) (s_kc (c := 11) rfl rfl) (by decide) rfl (s1_X12_is hM0 35 (by omega)) gX12_readAtom_X12_is rfl hdX12_is (by decide) (Nat.le_of_ble_eq_true rfl) dX12_readAtom_69 rfl (fun r156 M157 h158 => ?_)
        obtain ⟨a160, rfl, rfl, h159⟩ := h158
        refine y_if_eq C 108 dX12_readAtom_72 (by decide) (by omega) (fun h161 => ?_) (fun h161 => ?_)
        · refine j_aload_n C 0 0 dX12_readAtom_108 rfl rfl ?_
          refine y_iconst C dX12_readAtom_109 ?_
          refine j_callVv C (d := 0) (As := [.int (sI 2)]) (st := []) 98 (s_lt rfl rfl) (s_kc (c := 11) rfl rfl) (by decide) rfl (s1_X12_fails hM0 hpr 2 (by omega) (by omega) (by omega)) gX12_readAtom_X12_fails rfl hdX12_fails (by decide) (Nat.le_of_ble_eq_true rfl) dX12_readAtom_110 rfl (fun M163 h164 => ?_)
          obtain ⟨hM163, fM163, h165⟩ := h164
          have u166c := fun h => ex_c (M := M0) (N := M0) (P := M163) (r := 0) (e := 1) (FR.cell fM163 (by decide)) h
          have u166d := fun h => ex_c (M := M0) (N := M0) (P := M163) (r := 0) (e := 0) (FR.cell fM163 (by decide)) h
          have u166n := INV.rd hM163 (i := 102) (c := 48) (k := 280) rfl rfl
          have zz102_280 : (M163.1 102 280).toInt = (M0.1 102 280).toInt := s_fF fM163 (by decide) (rfl); exact hret _ _ _ dX12_readAtom_113 ⟨hM163, (FR.rf.tr fM163 (by decide)), by omega⟩
        · refine j_aload_n C 0 0 dX12_readAtom_75 rfl rfl ?_
          refine j_iload_n C 1 1 dX12_readAtom_76 rfl rfl ?_
          refine j_callVi C (d := 6) (As := [.int (sI 0)]) (st := []) 98 (s_lt rfl rfl) (s_kc (c := 11) rfl rfl) (by decide) rfl (s1_X12_goesIn hM0 hpr (by omega) (by omega)) gX12_readAtom_X12_goesIn rfl hdX12_goesIn (by decide) (Nat.le_of_ble_eq_true rfl) dX12_readAtom_77 rfl (fun r167 M168 h169 => ?_)
          obtain ⟨a171, rfl, hM168, fM168, h170⟩ := h169
          have u172c := fun h => ex_c (M := M0) (N := M0) (P := M168) (r := 0) (e := 0) (FR.cell fM168 (by decide)) h
          have u172n := INV.rd hM168 (i := 102) (c := 48) (k := 280) rfl rfl
          refine y_if_ne C 84 dX12_readAtom_80 (by decide) (by omega) (fun h173 => ?_) (fun h173 => ?_)
          · refine j_aload_n C 0 0 dX12_readAtom_84 rfl rfl ?_
            refine j_iload_n C 1 1 dX12_readAtom_85 rfl rfl ?_
            refine y_iconst C dX12_readAtom_86 ?_
            refine y_iadd C dX12_readAtom_87 ?_
            refine j_callVv C (d := 24) (As := [.int (sI (0 + 1))]) (st := []) 98 (s_lt rfl rfl) (s_kc (c := 11) rfl rfl) (by decide) rfl (s6_X12_readSum hM168 hpr (by omega) (by omega) (by omega) (by omega)) gX12_readAtom_X12_readSum rfl hdX12_readSum (by decide) (Nat.le_of_ble_eq_true rfl) dX12_readAtom_88 rfl (fun M175 h176 => ?_)
            obtain ⟨hM175, fM175, h177⟩ := h176
            have u178t := fun h1 h2 => ex_tr (M := M0) (N := M168) (P := M175) (r1 := 0) (e1 := 0) (r2 := 0) (e2 := 1) (r := 0) (e := 1) (by decide) h1 h2
            have u178n := INV.rd hM175 (i := 102) (c := 48) (k := 280) rfl rfl
            refine j_aload_n C 0 0 dX12_readAtom_91 rfl rfl ?_
            refine y_bipush C dX12_readAtom_92 rfl ?_
            refine j_callVi C (d := 6) (As := [.int (sI 36)]) (st := []) 98 (s_lt rfl rfl) (s_kc (c := 11) rfl rfl) (by decide) rfl (s1_X12_eats hM175 hpr 36 (by omega) (by omega) (by omega) (by omega)) gX12_readAtom_X12_eats rfl hdX12_eats (by decide) (Nat.le_of_ble_eq_true rfl) dX12_readAtom_94 rfl (fun r179 M180 h181 => ?_)
            obtain ⟨a183, rfl, hM180, fM180, h182⟩ := h181
            have u184c := fun h => ex_c (M := M0) (N := M175) (P := M180) (r := 0) (e := 1) (FR.cell fM180 (by decide)) h
            have u184n := INV.rd hM180 (i := 102) (c := 48) (k := 280) rfl rfl
            refine y_if_ne C 113 dX12_readAtom_97 (by decide) (by omega) (fun h185 => ?_) (fun h185 => ?_)
            · have u186c := fun h => ex_c (M := M0) (N := M175) (P := M180) (r := 0) (e := 1) (FR.cell fM180 (by decide)) h
              have u186d := fun h => ex_c (M := M0) (N := M175) (P := M180) (r := 0) (e := 0) (FR.cell fM180 (by decide)) h
              have u186n := INV.rd hM180 (i := 102) (c := 48) (k := 280) rfl rfl
              have zz102_280 : (M180.1 102 280).toInt = (M175.1 102 280).toInt := s_fF fM180 (by decide) (rfl); exact hret _ _ _ dX12_readAtom_113 ⟨hM180, (((FR.rf.tr fM168 (by decide)).tr fM175 (by decide)).tr fM180 (by decide)), by omega⟩
            · refine j_aload_n C 0 0 dX12_readAtom_100 rfl rfl ?_
              refine y_iconst C dX12_readAtom_101 ?_
              refine j_callVv C (d := 0) (As := [.int (sI 2)]) (st := []) 98 (s_lt rfl rfl) (s_kc (c := 11) rfl rfl) (by decide) rfl (s1_X12_fails hM180 hpr 2 (by omega) (by omega) (by omega)) gX12_readAtom_X12_fails rfl hdX12_fails (by decide) (Nat.le_of_ble_eq_true rfl) dX12_readAtom_102 rfl (fun M188 h189 => ?_)
              obtain ⟨hM188, fM188, h190⟩ := h189
              refine j_goto C 113 dX12_readAtom_105 (by decide) ?_
              have u191c := fun h => ex_c (M := M0) (N := M180) (P := M188) (r := 0) (e := 1) (FR.cell fM188 (by decide)) h
              have u191d := fun h => ex_c (M := M0) (N := M180) (P := M188) (r := 0) (e := 0) (FR.cell fM188 (by decide)) h
              have u191n := INV.rd hM188 (i := 102) (c := 48) (k := 280) rfl rfl
              have zz102_280 : (M188.1 102 280).toInt = (M175.1 102 280).toInt := s_fF fM180 (by decide) (s_fF fM188 (by decide) (rfl)); exact hret _ _ _ dX12_readAtom_113 ⟨hM188, ((((FR.rf.tr fM168 (by decide)).tr fM175 (by decide)).tr fM180 (by decide)).tr fM188 (by decide)), by omega⟩
          · have u192c := fun h => ex_c (M := M0) (N := M0) (P := M168) (r := 0) (e := 1) (FR.cell fM168 (by decide)) h
            have u192d := fun h => ex_c (M := M0) (N := M0) (P := M168) (r := 0) (e := 0) (FR.cell fM168 (by decide)) h
            have u192n := INV.rd hM168 (i := 102) (c := 48) (k := 280) rfl rfl
            have zz102_280 : (M168.1 102 280).toInt = (M0.1 102 280).toInt := s_fF fM168 (by decide) (rfl); exact hret _ _ _ dX12_readAtom_83 ⟨hM168, (FR.rf.tr fM168 (by decide)), by omega⟩
      · refine j_aload_n C 0 0 dX12_readAtom_43 rfl rfl ?_
        refine y_sipush C dX12_readAtom_44 rfl ?_
        refine j_aload_n C 0 0 dX12_readAtom_47 rfl rfl ?_
        refine j_aload_n C 0 0 dX12_readAtom_48 rfl rfl ?_
        refine y_getI C 11 _ _ fX12_readAtom_108 rfl rfl ft_11_9 sb_11_9 hM0 dX12_readAtom_49 (fun a193 ea193 la193 ua193 => ?_)
        obtain rfl : a193 = (M0.1 98 9).toInt := ea193
        refine j_callVi C (d := 0) (As := [.int (sI (M0.1 98 9).toInt)]) (st := [.int (sI 1000), .ref (ad 98)]) 98 (s_lt rfl rfl) (s_kc (c := 11) rfl rfl) (by decide) rfl (s1_X12_wordOf hM0 (M0.1 98 9).toInt (by omega)) gX12_readAtom_X12_wordOf rfl hdX12_wordOf (by decide) (Nat.le_of_ble_eq_true rfl) dX12_readAtom_52 rfl (fun r195 M196 h197 => ?_)
        obtain ⟨a199, rfl, rfl, h198⟩ := h197
        obtain rfl : a199 = (woF (M0.1 98 9).toInt) := by omega
        refine y_iadd C dX12_readAtom_55 ?_
        refine j_callVv C (d := 0) (As := [.int (sI (1000 + (woF (M0.1 98 9).toInt)))]) (st := []) 98 (s_lt rfl rfl) (s_kc (c := 11) rfl rfl) (by decide) rfl (s1_X12_codes hM0 hpr (1000 + (woF (M0.1 98 9).toInt)) (by omega) (by omega) (by omega)) gX12_readAtom_X12_codes rfl hdX12_codes (by decide) (Nat.le_of_ble_eq_true rfl) dX12_readAtom_56 rfl (fun M201 h202 => ?_)
        obtain ⟨hM201, fM201, h203⟩ := h202
        have u204n := INV.rd hM201 (i := 102) (c := 48) (k := 280) rfl rfl
        have u204p := fun h => ap_push (M := M0) (N := M201) (c := (1000 + (woF (M0.1 98 9).toInt))) (by omega) h
        have u204t := fun h1 h2 => ex_tr (M := M0) (N := M0) (P := M201) (r1 := 0) (e1 := 0) (r2 := 0) (e2 := 1) (r := 0) (e := 1) (by decide) h1 h2
        refine j_aload_n C 0 0 dX12_readAtom_59 rfl rfl ?_
        refine j_callVv C (d := 5) (As := []) (st := []) 98 (s_lt rfl rfl) (s_kc (c := 11) rfl rfl) (by decide) rfl (s1_X12_next hM201 hpr (by omega) (by omega) (by omega)) gX12_readAtom_X12_next rfl hdX12_next (by decide) (Nat.le_of_ble_eq_true rfl) dX12_readAtom_60 rfl (fun M206 h207 => ?_)
        obtain ⟨hM206, fM206, h208⟩ := h207
        refine j_goto C 113 dX12_readAtom_63 (by decide) ?_
        have u209c := fun h => ex_c (M := M0) (N := M201) (P := M206) (r := 0) (e := 1) (FR.cell fM206 (by decide)) h
        have u209d := fun h => ex_c (M := M0) (N := M201) (P := M206) (r := 0) (e := 0) (FR.cell fM206 (by decide)) h
        have u209n := INV.rd hM206 (i := 102) (c := 48) (k := 280) rfl rfl
        have zz102_280 : (M206.1 102 280).toInt = (M201.1 102 280).toInt := s_fF fM206 (by decide) (rfl); exact hret _ _ _ dX12_readAtom_113 ⟨hM206, ((FR.rf.tr fM201 (by decide)).tr fM206 (by decide)), by omega⟩
  · refine j_aload_n C 0 0 dX12_readAtom_9 rfl rfl ?_
    refine j_aload_n C 0 0 dX12_readAtom_10 rfl rfl ?_
    refine y_getI C 11 _ _ fX12_readAtom_121 rfl rfl ft_11_10 sb_11_10 hM0 dX12_readAtom_11 (fun a210 ea210 la210 ua210 => ?_)
    obtain rfl : a210 = (M0.1 98 10).toInt := ea210
    refine j_callVv C (d := 0) (As := [.int (sI (M0.1 98 10).toInt)]) (st := []) 98 (s_lt rfl rfl) (s_kc (c := 11) rfl rfl) (by decide) rfl (s1_X12_codes hM0 hpr (M0.1 98 10).toInt (by omega) (by omega) (by omega)) gX12_readAtom_X12_codes rfl hdX12_codes (by decide) (Nat.le_of_ble_eq_true rfl) dX12_readAtom_14 rfl (fun M213 h214 => ?_)
    obtain ⟨hM213, fM213, h215⟩ := h214
    have u216n := INV.rd hM213 (i := 102) (c := 48) (k := 280) rfl rfl
    have u216p := fun h => ap_push (M := M0) (N := M213) (c := (M0.1 98 10).toInt) (by omega) h
    have u216t := fun h1 h2 => ex_tr (M := M0) (N := M0) (P := M213) (r1 := 0) (e1 := 0) (r2 := 0) (e2 := 1) (r := 0) (e := 1) (by decide) h1 h2
    refine j_aload_n C 0 0 dX12_readAtom_17 rfl rfl ?_
    refine j_callVv C (d := 5) (As := []) (st := []) 98 (s_lt rfl rfl) (s_kc (c := 11) rfl rfl) (by decide) rfl (s1_X12_next hM213 hpr (by omega) (by omega) (by omega)) gX12_readAtom_X12_next rfl hdX12_next (by decide) (Nat.le_of_ble_eq_true rfl) dX12_readAtom_18 rfl (fun M218 h219 => ?_)
    obtain ⟨hM218, fM218, h220⟩ := h219
    refine j_goto C 113 dX12_readAtom_21 (by decide) ?_
    have u221c := fun h => ex_c (M := M0) (N := M213) (P := M218) (r := 0) (e := 1) (FR.cell fM218 (by decide)) h
    have u221d := fun h => ex_c (M := M0) (N := M213) (P := M218) (r := 0) (e := 0) (FR.cell fM218 (by decide)) h
    have u221n := INV.rd hM218 (i := 102) (c := 48) (k := 280) rfl rfl
    have zz102_280 : (M218.1 102 280).toInt = (M213.1 102 280).toInt := s_fF fM218 (by decide) (rfl); exact hret _ _ _ dX12_readAtom_113 ⟨hM218, ((FR.rf.tr fM213 (by decide)).tr fM218 (by decide)), by omega⟩
set_option maxHeartbeats 4000000 in
theorem s7_X12_readTerm {l : Launch} {dC : Nat → ClassId} {dI : Nat → Nat → Nat} {ad : Nat → Nat} {cA : Nat → ClassId} {pr : Nat → Nat → Bool} {Kz : mm_M} {M0 : mm_M} (hM0 : INV pr Kz M0) (hpr : PM pr)  (hp0 : (M0.1 98 6).toInt ≤ (M0.1 98 7).toInt ∧ (M0.1 98 7).toInt ≤ (M0.1 98 8).toInt ∧ (M0.1 98 8).toInt ≤ 900 ∧ ((M0.1 98 9).toInt = 24 ∨ (M0.1 98 6).toInt < (M0.1 98 7).toInt)) (hp1 : ¬ (M0.1 98 11).toInt = 0 ∨ (M0.1 102 280).toInt ≤ (M0.1 98 6).toInt) (hp2 : 0 ≤ (M0.1 102 280).toInt) (hp3 : b01 (PI M0) = 1) : Cv l 26 yX12_readTerm wsX12_readTerm dC dI ad cA [.ref (ad 98), .int (sI 0)] M0 (fun M' => INV pr Kz M' ∧ FR [98, 102] M0 M' ∧ ((M'.1 98 6).toInt ≤ (M'.1 98 7).toInt ∧ (M'.1 98 7).toInt ≤ (M'.1 98 8).toInt ∧ (M'.1 98 8).toInt ≤ 900 ∧ ((M'.1 98 9).toInt = 24 ∨ (M'.1 98 6).toInt < (M'.1 98 7).toInt)) ∧ ((M'.1 98 8).toInt = (M0.1 98 8).toInt) ∧ ((M0.1 98 6).toInt ≤ (M'.1 98 6).toInt) ∧ (0 ≤ (M'.1 102 280).toInt) ∧ (¬ (M'.1 98 11).toInt = 0 ∨ (M0.1 98 11).toInt = 0 ∧ (M'.1 102 280).toInt - (M'.1 98 6).toInt + 0 ≤ (M0.1 102 280).toInt - (M0.1 98 6).toInt ∧ (M0.1 102 280).toInt ≤ (M'.1 102 280).toInt ∧ b01 (EXT M0 M' 0 1) = 1) ∧ (b01 (PI M') = 1)) := by
  refine cv_of (cc := cX12_readTerm) (maxL := 2) (lv := [(0, .ref (ad 98)), (1, .int (sI 0))]) (by decide) rfl (Nat.le_of_ble_eq_true rfl) rfl ?_
  intro p e s m args below meth c A Q C hret
  have u101z := ex_0 M0
  have u101n := INV.rd hM0 (i := 102) (c := 48) (k := 280) rfl rfl
  refine j_aload_n C 0 0 dX12_readTerm_0 rfl rfl ?_
  refine j_iload_n C 1 1 dX12_readTerm_1 rfl rfl ?_
  refine j_callVv C (d := 25) (As := [.int (sI 0)]) (st := []) 98 (s_lt rfl rfl) (s_kc (c := 11) rfl rfl) (by decide) rfl (s7_X12_readAtom hM0 hpr (by omega) (by omega) (by omega) (by omega)) gX12_readTerm_X12_readAtom rfl hdX12_readAtom (by decide) (Nat.le_of_ble_eq_true rfl) dX12_readTerm_2 rfl (fun M103 h104 => ?_)
  obtain ⟨hM103, fM103, h105⟩ := h104
  have u106t := fun h1 h2 => ex_tr (M := M0) (N := M0) (P := M103) (r1 := 0) (e1 := 0) (r2 := 0) (e2 := 1) (r := 0) (e := 1) (by decide) h1 h2
  have u106n := INV.rd hM103 (i := 102) (c := 48) (k := 280) rfl rfl
  have L127 : ∀ (n125 : Nat), ∀ (M128 : mm_M), (((M128.1 98 6).toInt ≤ (M128.1 98 7).toInt ∧ (M128.1 98 7).toInt ≤ (M128.1 98 8).toInt ∧ (M128.1 98 8).toInt ≤ 900 ∧ ((M128.1 98 9).toInt = 24 ∨ (M128.1 98 6).toInt < (M128.1 98 7).toInt)) ∧ ((M128.1 98 8).toInt = (M0.1 98 8).toInt) ∧ ((M0.1 98 6).toInt ≤ (M128.1 98 6).toInt) ∧ (0 ≤ (M128.1 102 280).toInt) ∧ (¬ (M128.1 98 11).toInt = 0 ∨ (M0.1 98 11).toInt = 0 ∧ (M128.1 102 280).toInt - (M128.1 98 6).toInt + 0 ≤ (M0.1 102 280).toInt - (M0.1 98 6).toInt ∧ (M0.1 102 280).toInt ≤ (M128.1 102 280).toInt ∧ b01 (EXT M0 M128 0 1) = 1) ∧ (b01 (PI M128) = 1) ∧ (900 - (M128.1 98 6).toInt) < (n125 : Int)) → INV pr Kz M128 → FR [98, 102] M0 M128 → jj p l e (cn_R 26) s m args below meth c 0 0 Q 2 dC dI ad cA A M128 5 [(0, .ref (ad 98)), (1, .int (sI 0))] [] := by
    intro n125
    induction n125 with
    | zero =>
      intro M128 h129 hM128 fM128
      exfalso; omega
    | succ n125 ih126 =>
      intro M128 h129 hM128 fM128
      refine j_aload_n C 0 0 dX12_readTerm_5 rfl rfl ?_
      refine y_bipush C dX12_readTerm_6 rfl ?_
      refine j_callVi C (d := 6) (As := [.int (sI 34)]) (st := []) 98 (s_lt rfl rfl) (s_kc (c := 11) rfl rfl) (by decide) rfl (s1_X12_eats hM128 hpr 34 (by omega) (by omega) (by omega) (by omega)) gX12_readTerm_X12_eats rfl hdX12_eats (by decide) (Nat.le_of_ble_eq_true rfl) dX12_readTerm_8 rfl (fun r130 M131 h132 => ?_)
      obtain ⟨a134, rfl, hM131, fM131, h133⟩ := h132
      have u135c := fun h => ex_c (M := M0) (N := M128) (P := M131) (r := 0) (e := 1) (FR.cell fM131 (by decide)) h
      have u135n := INV.rd hM131 (i := 102) (c := 48) (k := 280) rfl rfl
      refine y_if_eq C 29 dX12_readTerm_11 (by decide) (by omega) (fun h136 => ?_) (fun h136 => ?_)
      · have u147c := fun h => ex_c (M := M0) (N := M128) (P := M131) (r := 0) (e := 1) (FR.cell fM131 (by decide)) h
        have u147d := fun h => ex_c (M := M0) (N := M128) (P := M131) (r := 0) (e := 0) (FR.cell fM131 (by decide)) h
        have u147n := INV.rd hM131 (i := 102) (c := 48) (k := 280) rfl rfl
        have zz102_280 : (M131.1 102 280).toInt = (M128.1 102 280).toInt := s_fF fM131 (by decide) (rfl); exact hret _ _ _ dX12_readTerm_29 ⟨hM131, ((FR.rf.tr fM128 (by decide)).tr fM131 (by decide)), by omega⟩
      · refine j_aload_n C 0 0 dX12_readTerm_14 rfl rfl ?_
        refine j_iload_n C 1 1 dX12_readTerm_15 rfl rfl ?_
        refine j_callVv C (d := 25) (As := [.int (sI 0)]) (st := []) 98 (s_lt rfl rfl) (s_kc (c := 11) rfl rfl) (by decide) rfl (s7_X12_readAtom hM131 hpr (by omega) (by omega) (by omega) (by omega)) gX12_readTerm_X12_readAtom rfl hdX12_readAtom (by decide) (Nat.le_of_ble_eq_true rfl) dX12_readTerm_16 rfl (fun M138 h139 => ?_)
        obtain ⟨hM138, fM138, h140⟩ := h139
        have u141t := fun h1 h2 => ex_tr (M := M0) (N := M131) (P := M138) (r1 := 0) (e1 := 1) (r2 := 0) (e2 := 1) (r := 0) (e := 2) (by decide) h1 h2
        have u141n := INV.rd hM138 (i := 102) (c := 48) (k := 280) rfl rfl
        refine j_aload_n C 0 0 dX12_readTerm_19 rfl rfl ?_
        refine y_sipush C dX12_readTerm_20 rfl ?_
        refine j_callVv C (d := 0) (As := [.int (sI 3002)]) (st := []) 98 (s_lt rfl rfl) (s_kc (c := 11) rfl rfl) (by decide) rfl (s1_X12_codes hM138 hpr 3002 (by omega) (by omega) (by omega)) gX12_readTerm_X12_codes rfl hdX12_codes (by decide) (Nat.le_of_ble_eq_true rfl) dX12_readTerm_23 rfl (fun M143 h144 => ?_)
        obtain ⟨hM143, fM143, h145⟩ := h144
        refine j_goto C 5 dX12_readTerm_26 (by decide) ?_
        have u146n := INV.rd hM143 (i := 102) (c := 48) (k := 280) rfl rfl
        have u146p := fun h => ap_bin (M := M138) (N := M143) (c := 3002) (by omega) h
        have u146t := fun h1 h2 => ex_tr (M := M0) (N := M138) (P := M143) (r1 := 0) (e1 := 2) (r2 := 2) (e2 := (-1)) (r := 0) (e := 1) (by decide) h1 h2
        have zz98_9 : (M143.1 98 9).toInt = (M138.1 98 9).toInt := s_fF fM143 (by decide) (rfl); have zz98_8 : (M143.1 98 8).toInt = (M138.1 98 8).toInt := s_fF fM143 (by decide) (rfl); have zz98_7 : (M143.1 98 7).toInt = (M138.1 98 7).toInt := s_fF fM143 (by decide) (rfl); have zz98_6 : (M143.1 98 6).toInt = (M138.1 98 6).toInt := s_fF fM143 (by decide) (rfl); have zz98_11 : (M143.1 98 11).toInt = (M138.1 98 11).toInt := s_fF fM143 (by decide) (rfl); exact ih126 M143 (by omega) hM143 ((((FR.rf.tr fM128 (by decide)).tr fM131 (by decide)).tr fM138 (by decide)).tr fM143 (by decide))
  exact L127 2010 M103 (by omega) hM103 (FR.rf.tr fM103 (by decide))
set_option maxHeartbeats 4000000 in
theorem s7_X12_readSum {l : Launch} {dC : Nat → ClassId} {dI : Nat → Nat → Nat} {ad : Nat → Nat} {cA : Nat → ClassId} {pr : Nat → Nat → Bool} {Kz : mm_M} {M0 : mm_M} (hM0 : INV pr Kz M0) (hpr : PM pr)  (hp0 : (M0.1 98 6).toInt ≤ (M0.1 98 7).toInt ∧ (M0.1 98 7).toInt ≤ (M0.1 98 8).toInt ∧ (M0.1 98 8).toInt ≤ 900 ∧ ((M0.1 98 9).toInt = 24 ∨ (M0.1 98 6).toInt < (M0.1 98 7).toInt)) (hp1 : ¬ (M0.1 98 11).toInt = 0 ∨ (M0.1 102 280).toInt ≤ (M0.1 98 6).toInt) (hp2 : 0 ≤ (M0.1 102 280).toInt) (hp3 : b01 (PI M0) = 1) : Cv l 27 yX12_readSum wsX12_readSum dC dI ad cA [.ref (ad 98), .int (sI 0)] M0 (fun M' => INV pr Kz M' ∧ FR [98, 102] M0 M' ∧ ((M'.1 98 6).toInt ≤ (M'.1 98 7).toInt ∧ (M'.1 98 7).toInt ≤ (M'.1 98 8).toInt ∧ (M'.1 98 8).toInt ≤ 900 ∧ ((M'.1 98 9).toInt = 24 ∨ (M'.1 98 6).toInt < (M'.1 98 7).toInt)) ∧ ((M'.1 98 8).toInt = (M0.1 98 8).toInt) ∧ ((M0.1 98 6).toInt ≤ (M'.1 98 6).toInt) ∧ (0 ≤ (M'.1 102 280).toInt) ∧ (¬ (M'.1 98 11).toInt = 0 ∨ (M0.1 98 11).toInt = 0 ∧ (M'.1 102 280).toInt - (M'.1 98 6).toInt + 0 ≤ (M0.1 102 280).toInt - (M0.1 98 6).toInt ∧ (M0.1 102 280).toInt ≤ (M'.1 102 280).toInt ∧ b01 (EXT M0 M' 0 1) = 1) ∧ (b01 (PI M') = 1)) := by
  refine cv_of (cc := cX12_readSum) (maxL := 3) (lv := [(0, .ref (ad 98)), (1, .int (sI 0))]) (by decide) rfl (Nat.le_of_ble_eq_true rfl) rfl ?_
  intro p e s m args below meth c A Q C hret
  have u101z := ex_0 M0
  have u101n := INV.rd hM0 (i := 102) (c := 48) (k := 280) rfl rfl
  refine j_aload_n C 0 0 dX12_readSum_0 rfl rfl ?_
  refine j_iload_n C 1 1 dX12_readSum_1 rfl rfl ?_
  refine j_callVv C (d := 26) (As := [.int (sI 0)]) (st := []) 98 (s_lt rfl rfl) (s_kc (c := 11) rfl rfl) (by decide) rfl (s7_X12_readTerm hM0 hpr (by omega) (by omega) (by omega) (by omega)) gX12_readSum_X12_readTerm rfl hdX12_readTerm (by decide) (Nat.le_of_ble_eq_true rfl) dX12_readSum_2 rfl (fun M103 h104 => ?_)
  obtain ⟨hM103, fM103, h105⟩ := h104
  have u106t := fun h1 h2 => ex_tr (M := M0) (N := M0) (P := M103) (r1 := 0) (e1 := 0) (r2 := 0) (e2 := 1) (r := 0) (e := 1) (by decide) h1 h2
  have u106n := INV.rd hM103 (i := 102) (c := 48) (k := 280) rfl rfl
  have L164 : ∀ (n162 : Nat), ∀ (M165 : mm_M), (((M165.1 98 6).toInt ≤ (M165.1 98 7).toInt ∧ (M165.1 98 7).toInt ≤ (M165.1 98 8).toInt ∧ (M165.1 98 8).toInt ≤ 900 ∧ ((M165.1 98 9).toInt = 24 ∨ (M165.1 98 6).toInt < (M165.1 98 7).toInt)) ∧ ((M165.1 98 8).toInt = (M0.1 98 8).toInt) ∧ ((M0.1 98 6).toInt ≤ (M165.1 98 6).toInt) ∧ (0 ≤ (M165.1 102 280).toInt) ∧ (¬ (M165.1 98 11).toInt = 0 ∨ (M0.1 98 11).toInt = 0 ∧ (M165.1 102 280).toInt - (M165.1 98 6).toInt + 0 ≤ (M0.1 102 280).toInt - (M0.1 98 6).toInt ∧ (M0.1 102 280).toInt ≤ (M165.1 102 280).toInt ∧ b01 (EXT M0 M165 0 1) = 1) ∧ (b01 (PI M165) = 1) ∧ (900 - (M165.1 98 6).toInt) < (n162 : Int)) → INV pr Kz M165 → FR [98, 102] M0 M165 → jj p l e (cn_R 27) s m args below meth c 0 0 Q 3 dC dI ad cA A M165 5 [(0, .ref (ad 98)), (1, .int (sI 0))] [] := by
    intro n162
    induction n162 with
    | zero =>
      intro M165 h166 hM165 fM165
      exfalso; omega
    | succ n162 ih163 =>
      intro M165 h166 hM165 fM165
      refine j_aload_n C 0 0 dX12_readSum_5 rfl rfl ?_
      refine y_bipush C dX12_readSum_6 rfl ?_
      refine j_callVi C (d := 0) (As := [.int (sI 32)]) (st := []) 98 (s_lt rfl rfl) (s_kc (c := 11) rfl rfl) (by decide) rfl (s1_X12_is hM165 32 (by omega)) gX12_readSum_X12_is rfl hdX12_is (by decide) (Nat.le_of_ble_eq_true rfl) dX12_readSum_8 rfl (fun r167 M168 h169 => ?_)
      obtain ⟨a171, rfl, rfl, h170⟩ := h169
      refine y_if_ne C 23 dX12_readSum_11 (by decide) (by omega) (fun h172 => ?_) (fun h172 => ?_)
      · refine j_aload_n C 0 0 dX12_readSum_23 rfl rfl ?_
        refine y_getI C 11 _ _ fX12_readSum_108 rfl rfl ft_11_9 sb_11_9 hM165 dX12_readSum_24 (fun a173 ea173 la173 ua173 => ?_)
        obtain rfl : a173 = (M165.1 98 9).toInt := ea173
        refine y_bipush C dX12_readSum_27 rfl ?_
        have J177 : ∀ (a176 : Int), (3000 ≤ a176 ∧ a176 ≤ 3001) → jj p l e (cn_R 27) s m args below meth c 0 0 Q 3 dC dI ad cA A M165 41 [(0, .ref (ad 98)), (1, .int (sI 0))] [.int (sI a176)] := by
          intro a176 h178
          refine j_istore_n C 2 [(2, .int (sI a176)), (0, .ref (ad 98)), (1, .int (sI 0))] dX12_readSum_41 rfl (by decide) rfl ?_
          refine j_aload_n C 1 0 dX12_readSum_42 rfl rfl ?_
          refine j_callVv C (d := 5) (As := []) (st := []) 98 (s_lt rfl rfl) (s_kc (c := 11) rfl rfl) (by decide) rfl (s1_X12_next hM165 hpr (by omega) (by omega) (by omega)) gX12_readSum_X12_next rfl hdX12_next (by decide) (Nat.le_of_ble_eq_true rfl) dX12_readSum_43 rfl (fun M180 h181 => ?_)
          obtain ⟨hM180, fM180, h182⟩ := h181
          have u183c := fun h => ex_c (M := M0) (N := M165) (P := M180) (r := 0) (e := 1) (FR.cell fM180 (by decide)) h
          have u183n := INV.rd hM180 (i := 102) (c := 48) (k := 280) rfl rfl
          refine j_aload_n C 1 0 dX12_readSum_46 rfl rfl ?_
          refine j_iload_n C 2 1 dX12_readSum_47 rfl rfl ?_
          refine j_callVv C (d := 26) (As := [.int (sI 0)]) (st := []) 98 (s_lt rfl rfl) (s_kc (c := 11) rfl rfl) (by decide) rfl (s7_X12_readTerm hM180 hpr (by omega) (by omega) (by omega) (by omega)) gX12_readSum_X12_readTerm rfl hdX12_readTerm (by decide) (Nat.le_of_ble_eq_true rfl) dX12_readSum_48 rfl (fun M185 h186 => ?_)
          obtain ⟨hM185, fM185, h187⟩ := h186
          have u188t := fun h1 h2 => ex_tr (M := M0) (N := M180) (P := M185) (r1 := 0) (e1 := 1) (r2 := 0) (e2 := 1) (r := 0) (e := 2) (by decide) h1 h2
          have u188n := INV.rd hM185 (i := 102) (c := 48) (k := 280) rfl rfl
          refine j_aload_n C 1 0 dX12_readSum_51 rfl rfl ?_
          refine j_iload_n C 0 2 dX12_readSum_52 rfl rfl ?_
          refine j_callVv C (d := 0) (As := [.int (sI a176)]) (st := []) 98 (s_lt rfl rfl) (s_kc (c := 11) rfl rfl) (by decide) rfl (s1_X12_codes hM185 hpr a176 (by omega) (by omega) (by omega)) gX12_readSum_X12_codes rfl hdX12_codes (by decide) (Nat.le_of_ble_eq_true rfl) dX12_readSum_53 rfl (fun M190 h191 => ?_)
          obtain ⟨hM190, fM190, h192⟩ := h191
          refine j_goto C 5 dX12_readSum_56 (by decide) ?_
          have u193n := INV.rd hM190 (i := 102) (c := 48) (k := 280) rfl rfl
          have u193p := fun h => ap_bin (M := M185) (N := M190) (c := a176) (by omega) h
          have u193t := fun h1 h2 => ex_tr (M := M0) (N := M185) (P := M190) (r1 := 0) (e1 := 2) (r2 := 2) (e2 := (-1)) (r := 0) (e := 1) (by decide) h1 h2
          have zz98_9 : (M190.1 98 9).toInt = (M185.1 98 9).toInt := s_fF fM190 (by decide) (rfl); have zz98_8 : (M190.1 98 8).toInt = (M185.1 98 8).toInt := s_fF fM190 (by decide) (rfl); have zz98_7 : (M190.1 98 7).toInt = (M185.1 98 7).toInt := s_fF fM190 (by decide) (rfl); have zz98_6 : (M190.1 98 6).toInt = (M185.1 98 6).toInt := s_fF fM190 (by decide) (rfl); have zz98_11 : (M190.1 98 11).toInt = (M185.1 98 11).toInt := s_fF fM190 (by decide) (rfl); refine j_lv [1, 2] rfl ?_; exact ih163 M190 (by omega) hM190 ((((FR.rf.tr fM165 (by decide)).tr fM180 (by decide)).tr fM185 (by decide)).tr fM190 (by decide))
        refine y_icmp_ne C 38 dX12_readSum_29 (by decide) (by omega) (fun h175 => ?_) (fun h175 => ?_)
        · refine y_sipush C dX12_readSum_38 rfl ?_
          exact J177 3001 (by omega)
        · refine y_sipush C dX12_readSum_32 rfl ?_
          refine j_goto C 41 dX12_readSum_35 (by decide) ?_
          exact J177 3000 (by omega)
      · refine j_aload_n C 0 0 dX12_readSum_14 rfl rfl ?_
        refine y_bipush C dX12_readSum_15 rfl ?_
        refine j_callVi C (d := 0) (As := [.int (sI 33)]) (st := []) 98 (s_lt rfl rfl) (s_kc (c := 11) rfl rfl) (by decide) rfl (s1_X12_is hM165 33 (by omega)) gX12_readSum_X12_is rfl hdX12_is (by decide) (Nat.le_of_ble_eq_true rfl) dX12_readSum_17 rfl (fun r194 M195 h196 => ?_)
        obtain ⟨a198, rfl, rfl, h197⟩ := h196
        refine y_if_eq C 59 dX12_readSum_20 (by decide) (by omega) (fun h199 => ?_) (fun h199 => ?_)
        · have u221n := INV.rd hM165 (i := 102) (c := 48) (k := 280) rfl rfl
          exact hret _ _ _ dX12_readSum_59 ⟨hM165, (FR.rf.tr fM165 (by decide)), by omega⟩
        · refine j_aload_n C 0 0 dX12_readSum_23 rfl rfl ?_
          refine y_getI C 11 _ _ fX12_readSum_108 rfl rfl ft_11_9 sb_11_9 hM165 dX12_readSum_24 (fun a200 ea200 la200 ua200 => ?_)
          obtain rfl : a200 = (M165.1 98 9).toInt := ea200
          refine y_bipush C dX12_readSum_27 rfl ?_
          have J204 : ∀ (a203 : Int), (3000 ≤ a203 ∧ a203 ≤ 3001) → jj p l e (cn_R 27) s m args below meth c 0 0 Q 3 dC dI ad cA A M165 41 [(0, .ref (ad 98)), (1, .int (sI 0))] [.int (sI a203)] := by
            intro a203 h205
            refine j_istore_n C 2 [(2, .int (sI a203)), (0, .ref (ad 98)), (1, .int (sI 0))] dX12_readSum_41 rfl (by decide) rfl ?_
            refine j_aload_n C 1 0 dX12_readSum_42 rfl rfl ?_
            refine j_callVv C (d := 5) (As := []) (st := []) 98 (s_lt rfl rfl) (s_kc (c := 11) rfl rfl) (by decide) rfl (s1_X12_next hM165 hpr (by omega) (by omega) (by omega)) gX12_readSum_X12_next rfl hdX12_next (by decide) (Nat.le_of_ble_eq_true rfl) dX12_readSum_43 rfl (fun M207 h208 => ?_)
            obtain ⟨hM207, fM207, h209⟩ := h208
            have u210c := fun h => ex_c (M := M0) (N := M165) (P := M207) (r := 0) (e := 1) (FR.cell fM207 (by decide)) h
            have u210n := INV.rd hM207 (i := 102) (c := 48) (k := 280) rfl rfl
            refine j_aload_n C 1 0 dX12_readSum_46 rfl rfl ?_
            refine j_iload_n C 2 1 dX12_readSum_47 rfl rfl ?_
            refine j_callVv C (d := 26) (As := [.int (sI 0)]) (st := []) 98 (s_lt rfl rfl) (s_kc (c := 11) rfl rfl) (by decide) rfl (s7_X12_readTerm hM207 hpr (by omega) (by omega) (by omega) (by omega)) gX12_readSum_X12_readTerm rfl hdX12_readTerm (by decide) (Nat.le_of_ble_eq_true rfl) dX12_readSum_48 rfl (fun M212 h213 => ?_)
            obtain ⟨hM212, fM212, h214⟩ := h213
            have u215t := fun h1 h2 => ex_tr (M := M0) (N := M207) (P := M212) (r1 := 0) (e1 := 1) (r2 := 0) (e2 := 1) (r := 0) (e := 2) (by decide) h1 h2
            have u215n := INV.rd hM212 (i := 102) (c := 48) (k := 280) rfl rfl
            refine j_aload_n C 1 0 dX12_readSum_51 rfl rfl ?_
            refine j_iload_n C 0 2 dX12_readSum_52 rfl rfl ?_
            refine j_callVv C (d := 0) (As := [.int (sI a203)]) (st := []) 98 (s_lt rfl rfl) (s_kc (c := 11) rfl rfl) (by decide) rfl (s1_X12_codes hM212 hpr a203 (by omega) (by omega) (by omega)) gX12_readSum_X12_codes rfl hdX12_codes (by decide) (Nat.le_of_ble_eq_true rfl) dX12_readSum_53 rfl (fun M217 h218 => ?_)
            obtain ⟨hM217, fM217, h219⟩ := h218
            refine j_goto C 5 dX12_readSum_56 (by decide) ?_
            have u220n := INV.rd hM217 (i := 102) (c := 48) (k := 280) rfl rfl
            have u220p := fun h => ap_bin (M := M212) (N := M217) (c := a203) (by omega) h
            have u220t := fun h1 h2 => ex_tr (M := M0) (N := M212) (P := M217) (r1 := 0) (e1 := 2) (r2 := 2) (e2 := (-1)) (r := 0) (e := 1) (by decide) h1 h2
            have zz98_9 : (M217.1 98 9).toInt = (M212.1 98 9).toInt := s_fF fM217 (by decide) (rfl); have zz98_8 : (M217.1 98 8).toInt = (M212.1 98 8).toInt := s_fF fM217 (by decide) (rfl); have zz98_7 : (M217.1 98 7).toInt = (M212.1 98 7).toInt := s_fF fM217 (by decide) (rfl); have zz98_6 : (M217.1 98 6).toInt = (M212.1 98 6).toInt := s_fF fM217 (by decide) (rfl); have zz98_11 : (M217.1 98 11).toInt = (M212.1 98 11).toInt := s_fF fM217 (by decide) (rfl); refine j_lv [1, 2] rfl ?_; exact ih163 M217 (by omega) hM217 ((((FR.rf.tr fM165 (by decide)).tr fM207 (by decide)).tr fM212 (by decide)).tr fM217 (by decide))
          refine y_icmp_ne C 38 dX12_readSum_29 (by decide) (by omega) (fun h202 => ?_) (fun h202 => ?_)
          · refine y_sipush C dX12_readSum_38 rfl ?_
            exact J204 3001 (by omega)
          · refine y_sipush C dX12_readSum_32 rfl ?_
            refine j_goto C 41 dX12_readSum_35 (by decide) ?_
            exact J204 3000 (by omega)
  exact L164 2010 M103 (by omega) hM103 (FR.rf.tr fM103 (by decide))
set_option maxHeartbeats 4000000 in
theorem s1_X12_readUnit {l : Launch} {dC : Nat → ClassId} {dI : Nat → Nat → Nat} {ad : Nat → Nat} {cA : Nat → ClassId} {pr : Nat → Nat → Bool} {Kz : mm_M} {M0 : mm_M} (hM0 : INV pr Kz M0) (hpr : PM pr)  (hp0 : (M0.1 98 6).toInt ≤ (M0.1 98 7).toInt ∧ (M0.1 98 7).toInt ≤ (M0.1 98 8).toInt ∧ (M0.1 98 8).toInt ≤ 900 ∧ ((M0.1 98 9).toInt = 24 ∨ (M0.1 98 6).toInt < (M0.1 98 7).toInt)) (hp1 : ¬ (M0.1 98 11).toInt = 0 ∨ (M0.1 102 280).toInt ≤ (M0.1 98 6).toInt) (hp2 : 0 ≤ (M0.1 102 280).toInt) (hp3 : b01 (PI M0) = 1) : Cv l 10 yX12_readUnit wsX12_readUnit dC dI ad cA [.ref (ad 98), .int (sI 6)] M0 (fun M' => INV pr Kz M' ∧ FR [98, 102] M0 M' ∧ ((M'.1 98 6).toInt ≤ (M'.1 98 7).toInt ∧ (M'.1 98 7).toInt ≤ (M'.1 98 8).toInt ∧ (M'.1 98 8).toInt ≤ 900 ∧ ((M'.1 98 9).toInt = 24 ∨ (M'.1 98 6).toInt < (M'.1 98 7).toInt)) ∧ ((M'.1 98 8).toInt = (M0.1 98 8).toInt) ∧ ((M0.1 98 6).toInt ≤ (M'.1 98 6).toInt) ∧ (0 ≤ (M'.1 102 280).toInt) ∧ (¬ (M'.1 98 11).toInt = 0 ∨ (M0.1 98 11).toInt = 0 ∧ (M'.1 102 280).toInt - (M'.1 98 6).toInt + 0 ≤ (M0.1 102 280).toInt - (M0.1 98 6).toInt ∧ (M0.1 102 280).toInt ≤ (M'.1 102 280).toInt ∧ b01 (EXT M0 M' 0 1) = 1) ∧ (b01 (PI M') = 1)) := by
  refine cv_of (cc := cX12_readUnit) (maxL := 3) (lv := [(0, .ref (ad 98)), (1, .int (sI 6))]) (by decide) rfl (Nat.le_of_ble_eq_true rfl) rfl ?_
  intro p e s m args below meth c A Q C hret
  have u101z := ex_0 M0
  have u101n := INV.rd hM0 (i := 102) (c := 48) (k := 280) rfl rfl
  refine j_aload_n C 0 0 dX12_readUnit_0 rfl rfl ?_
  refine y_bipush C dX12_readUnit_1 rfl ?_
  refine j_callVi C (d := 0) (As := [.int (sI 16)]) (st := []) 98 (s_lt rfl rfl) (s_kc (c := 11) rfl rfl) (by decide) rfl (s1_X12_is hM0 16 (by omega)) gX12_readUnit_X12_is rfl hdX12_is (by decide) (Nat.le_of_ble_eq_true rfl) dX12_readUnit_3 rfl (fun r102 M103 h104 => ?_)
  obtain ⟨a106, rfl, rfl, h105⟩ := h104
  refine y_if_eq C 33 dX12_readUnit_6 (by decide) (by omega) (fun h107 => ?_) (fun h107 => ?_)
  · refine j_aload_n C 0 0 dX12_readUnit_33 rfl rfl ?_
    refine y_bipush C dX12_readUnit_34 rfl ?_
    refine j_callVi C (d := 0) (As := [.int (sI 37)]) (st := []) 98 (s_lt rfl rfl) (s_kc (c := 11) rfl rfl) (by decide) rfl (s1_X12_is hM0 37 (by omega)) gX12_readUnit_X12_is rfl hdX12_is (by decide) (Nat.le_of_ble_eq_true rfl) dX12_readUnit_36 rfl (fun r108 M109 h110 => ?_)
    obtain ⟨a112, rfl, rfl, h111⟩ := h110
    refine y_if_eq C 73 dX12_readUnit_39 (by decide) (by omega) (fun h113 => ?_) (fun h113 => ?_)
    · refine j_aload_n C 0 0 dX12_readUnit_73 rfl rfl ?_
      refine j_iload_n C 1 1 dX12_readUnit_74 rfl rfl ?_
      refine j_callVv C (d := 9) (As := [.int (sI 6)]) (st := []) 98 (s_lt rfl rfl) (s_kc (c := 11) rfl rfl) (by decide) rfl (s1_X12_readSum hM0 hpr (by omega) (by omega) (by omega) (by omega)) gX12_readUnit_X12_readSum rfl hdX12_readSum (by decide) (Nat.le_of_ble_eq_true rfl) dX12_readUnit_75 rfl (fun M115 h116 => ?_)
      obtain ⟨hM115, fM115, h117⟩ := h116
      have u118t := fun h1 h2 => ex_tr (M := M0) (N := M0) (P := M115) (r1 := 0) (e1 := 0) (r2 := 0) (e2 := 1) (r := 0) (e := 1) (by decide) h1 h2
      have u118n := INV.rd hM115 (i := 102) (c := 48) (k := 280) rfl rfl
      refine j_aload_n C 0 0 dX12_readUnit_78 rfl rfl ?_
      refine y_bipush C dX12_readUnit_79 rfl ?_
      refine j_callVi C (d := 0) (As := [.int (sI 39)]) (st := []) 98 (s_lt rfl rfl) (s_kc (c := 11) rfl rfl) (by decide) rfl (s1_X12_is hM115 39 (by omega)) gX12_readUnit_X12_is rfl hdX12_is (by decide) (Nat.le_of_ble_eq_true rfl) dX12_readUnit_81 rfl (fun r119 M120 h121 => ?_)
      obtain ⟨a123, rfl, rfl, h122⟩ := h121
      have J132 : ∀ (a131 : Int), (3003 ≤ a131 ∧ a131 ≤ 3005) → jj p l e (cn_R 10) s m args below meth c 0 0 Q 3 dC dI ad cA A M115 111 [(0, .ref (ad 98)), (1, .int (sI 6))] [.int (sI a131)] := by
        intro a131 h133
        refine j_istore_n C 2 [(2, .int (sI a131)), (0, .ref (ad 98)), (1, .int (sI 6))] dX12_readUnit_111 rfl (by decide) rfl ?_
        refine j_aload_n C 1 0 dX12_readUnit_112 rfl rfl ?_
        refine y_bipush C dX12_readUnit_113 rfl ?_
        refine j_callVi C (d := 0) (As := [.int (sI 39)]) (st := []) 98 (s_lt rfl rfl) (s_kc (c := 11) rfl rfl) (by decide) rfl (s1_X12_is hM115 39 (by omega)) gX12_readUnit_X12_is rfl hdX12_is (by decide) (Nat.le_of_ble_eq_true rfl) dX12_readUnit_115 rfl (fun r134 M135 h136 => ?_)
        obtain ⟨a138, rfl, rfl, h137⟩ := h136
        have J173 : ∀ (M172 : mm_M), (((M172.1 98 6).toInt ≤ (M172.1 98 7).toInt ∧ (M172.1 98 7).toInt ≤ (M172.1 98 8).toInt ∧ (M172.1 98 8).toInt ≤ 900 ∧ ((M172.1 98 9).toInt = 24 ∨ (M172.1 98 6).toInt < (M172.1 98 7).toInt)) ∧ ((M172.1 98 8).toInt = (M0.1 98 8).toInt) ∧ ((M0.1 98 6).toInt ≤ (M172.1 98 6).toInt) ∧ (0 ≤ (M172.1 102 280).toInt) ∧ (¬ (M172.1 98 11).toInt = 0 ∨ (M0.1 98 11).toInt = 0 ∧ (M172.1 102 280).toInt - (M172.1 98 6).toInt + 1 ≤ (M0.1 102 280).toInt - (M0.1 98 6).toInt ∧ (M0.1 102 280).toInt ≤ (M172.1 102 280).toInt ∧ b01 (EXT M0 M172 0 1) = 1) ∧ (b01 (PI M172) = 1)) → INV pr Kz M172 → FR [98, 102] M0 M172 → jj p l e (cn_R 10) s m args below meth c 0 0 Q 3 dC dI ad cA A M172 151 [(0, .ref (ad 98)), (1, .int (sI 6)), (2, .int (sI a131))] [] := by
          intro M172 h174 hM172 fM172
          have u175c := fun h => ex_c (M := M0) (N := M0) (P := M172) (r := 0) (e := 1) (FR.cell fM172 (by decide)) h
          have u175n := INV.rd hM172 (i := 102) (c := 48) (k := 280) rfl rfl
          refine j_aload_n C 0 0 dX12_readUnit_151 rfl rfl ?_
          refine j_iload_n C 1 1 dX12_readUnit_152 rfl rfl ?_
          refine j_callVv C (d := 9) (As := [.int (sI 6)]) (st := []) 98 (s_lt rfl rfl) (s_kc (c := 11) rfl rfl) (by decide) rfl (s1_X12_readSum hM172 hpr (by omega) (by omega) (by omega) (by omega)) gX12_readUnit_X12_readSum rfl hdX12_readSum (by decide) (Nat.le_of_ble_eq_true rfl) dX12_readUnit_153 rfl (fun M177 h178 => ?_)
          obtain ⟨hM177, fM177, h179⟩ := h178
          have u180t := fun h1 h2 => ex_tr (M := M0) (N := M172) (P := M177) (r1 := 0) (e1 := 1) (r2 := 0) (e2 := 1) (r := 0) (e := 2) (by decide) h1 h2
          have u180n := INV.rd hM177 (i := 102) (c := 48) (k := 280) rfl rfl
          refine j_aload_n C 0 0 dX12_readUnit_156 rfl rfl ?_
          refine j_iload_n C 2 2 dX12_readUnit_157 rfl rfl ?_
          refine j_callVv C (d := 0) (As := [.int (sI a131)]) (st := []) 98 (s_lt rfl rfl) (s_kc (c := 11) rfl rfl) (by decide) rfl (s1_X12_codes hM177 hpr a131 (by omega) (by omega) (by omega)) gX12_readUnit_X12_codes rfl hdX12_codes (by decide) (Nat.le_of_ble_eq_true rfl) dX12_readUnit_158 rfl (fun M182 h183 => ?_)
          obtain ⟨hM182, fM182, h184⟩ := h183
          have u185n := INV.rd hM182 (i := 102) (c := 48) (k := 280) rfl rfl
          have u185p := fun h => ap_bin (M := M177) (N := M182) (c := a131) (by omega) h
          have u185t := fun h1 h2 => ex_tr (M := M0) (N := M177) (P := M182) (r1 := 0) (e1 := 2) (r2 := 2) (e2 := (-1)) (r := 0) (e := 1) (by decide) h1 h2
          have u186n := INV.rd hM182 (i := 102) (c := 48) (k := 280) rfl rfl
          have zz98_11 : (M182.1 98 11).toInt = (M177.1 98 11).toInt := s_fF fM182 (by decide) (rfl); have zz98_6 : (M182.1 98 6).toInt = (M177.1 98 6).toInt := s_fF fM182 (by decide) (rfl); have zz98_7 : (M182.1 98 7).toInt = (M177.1 98 7).toInt := s_fF fM182 (by decide) (rfl); have zz98_8 : (M182.1 98 8).toInt = (M177.1 98 8).toInt := s_fF fM182 (by decide) (rfl); have zz98_9 : (M182.1 98 9).toInt = (M177.1 98 9).toInt := s_fF fM182 (by decide) (rfl); exact hret _ _ _ dX12_readUnit_161 ⟨hM182, (((FR.rf.tr fM172 (by decide)).tr fM177 (by decide)).tr fM182 (by decide)), by omega⟩
        refine y_if_ne C 139 dX12_readUnit_118 (by decide) (by omega) (fun h139 => ?_) (fun h139 => ?_)
        · refine j_aload_n C 1 0 dX12_readUnit_139 rfl rfl ?_
          refine j_callVv C (d := 5) (As := []) (st := []) 98 (s_lt rfl rfl) (s_kc (c := 11) rfl rfl) (by decide) rfl (s1_X12_next hM115 hpr (by omega) (by omega) (by omega)) gX12_readUnit_X12_next rfl hdX12_next (by decide) (Nat.le_of_ble_eq_true rfl) dX12_readUnit_140 rfl (fun M141 h142 => ?_)
          obtain ⟨hM141, fM141, h143⟩ := h142
          refine j_goto C 151 dX12_readUnit_143 (by decide) ?_
          have u144c := fun h => ex_c (M := M0) (N := M115) (P := M141) (r := 0) (e := 1) (FR.cell fM141 (by decide)) h
          have u144n := INV.rd hM141 (i := 102) (c := 48) (k := 280) rfl rfl
          have zz102_280 : (M141.1 102 280).toInt = (M115.1 102 280).toInt := s_fF fM141 (by decide) (rfl); refine j_lv [1, 2, 0] rfl ?_; exact J173 M141 (by omega) hM141 ((FR.rf.tr fM115 (by decide)).tr fM141 (by decide))
        · refine j_aload_n C 1 0 dX12_readUnit_121 rfl rfl ?_
          refine y_bipush C dX12_readUnit_122 rfl ?_
          refine j_callVi C (d := 0) (As := [.int (sI 40)]) (st := []) 98 (s_lt rfl rfl) (s_kc (c := 11) rfl rfl) (by decide) rfl (s1_X12_is hM115 40 (by omega)) gX12_readUnit_X12_is rfl hdX12_is (by decide) (Nat.le_of_ble_eq_true rfl) dX12_readUnit_124 rfl (fun r145 M146 h147 => ?_)
          obtain ⟨a149, rfl, rfl, h148⟩ := h147
          refine y_if_ne C 139 dX12_readUnit_127 (by decide) (by omega) (fun h150 => ?_) (fun h150 => ?_)
          · refine j_aload_n C 1 0 dX12_readUnit_139 rfl rfl ?_
            refine j_callVv C (d := 5) (As := []) (st := []) 98 (s_lt rfl rfl) (s_kc (c := 11) rfl rfl) (by decide) rfl (s1_X12_next hM115 hpr (by omega) (by omega) (by omega)) gX12_readUnit_X12_next rfl hdX12_next (by decide) (Nat.le_of_ble_eq_true rfl) dX12_readUnit_140 rfl (fun M152 h153 => ?_)
            obtain ⟨hM152, fM152, h154⟩ := h153
            refine j_goto C 151 dX12_readUnit_143 (by decide) ?_
            have u155c := fun h => ex_c (M := M0) (N := M115) (P := M152) (r := 0) (e := 1) (FR.cell fM152 (by decide)) h
            have u155n := INV.rd hM152 (i := 102) (c := 48) (k := 280) rfl rfl
            have zz102_280 : (M152.1 102 280).toInt = (M115.1 102 280).toInt := s_fF fM152 (by decide) (rfl); refine j_lv [1, 2, 0] rfl ?_; exact J173 M152 (by omega) hM152 ((FR.rf.tr fM115 (by decide)).tr fM152 (by decide))
          · refine j_aload_n C 1 0 dX12_readUnit_130 rfl rfl ?_
            refine y_bipush C dX12_readUnit_131 rfl ?_
            refine j_callVi C (d := 0) (As := [.int (sI 41)]) (st := []) 98 (s_lt rfl rfl) (s_kc (c := 11) rfl rfl) (by decide) rfl (s1_X12_is hM115 41 (by omega)) gX12_readUnit_X12_is rfl hdX12_is (by decide) (Nat.le_of_ble_eq_true rfl) dX12_readUnit_133 rfl (fun r156 M157 h158 => ?_)
            obtain ⟨a160, rfl, rfl, h159⟩ := h158
            refine y_if_eq C 146 dX12_readUnit_136 (by decide) (by omega) (fun h161 => ?_) (fun h161 => ?_)
            · refine j_aload_n C 1 0 dX12_readUnit_146 rfl rfl ?_
              refine y_iconst C dX12_readUnit_147 ?_
              refine j_callVv C (d := 0) (As := [.int (sI 2)]) (st := []) 98 (s_lt rfl rfl) (s_kc (c := 11) rfl rfl) (by decide) rfl (s1_X12_fails hM115 hpr 2 (by omega) (by omega) (by omega)) gX12_readUnit_X12_fails rfl hdX12_fails (by decide) (Nat.le_of_ble_eq_true rfl) dX12_readUnit_148 rfl (fun M163 h164 => ?_)
              obtain ⟨hM163, fM163, h165⟩ := h164
              have u166c := fun h => ex_c (M := M0) (N := M115) (P := M163) (r := 0) (e := 1) (FR.cell fM163 (by decide)) h
              have u166n := INV.rd hM163 (i := 102) (c := 48) (k := 280) rfl rfl
              have zz102_280 : (M163.1 102 280).toInt = (M115.1 102 280).toInt := s_fF fM163 (by decide) (rfl); refine j_lv [1, 2, 0] rfl ?_; exact J173 M163 (by omega) hM163 ((FR.rf.tr fM115 (by decide)).tr fM163 (by decide))
            · refine j_aload_n C 1 0 dX12_readUnit_139 rfl rfl ?_
              refine j_callVv C (d := 5) (As := []) (st := []) 98 (s_lt rfl rfl) (s_kc (c := 11) rfl rfl) (by decide) rfl (s1_X12_next hM115 hpr (by omega) (by omega) (by omega)) gX12_readUnit_X12_next rfl hdX12_next (by decide) (Nat.le_of_ble_eq_true rfl) dX12_readUnit_140 rfl (fun M168 h169 => ?_)
              obtain ⟨hM168, fM168, h170⟩ := h169
              refine j_goto C 151 dX12_readUnit_143 (by decide) ?_
              have u171c := fun h => ex_c (M := M0) (N := M115) (P := M168) (r := 0) (e := 1) (FR.cell fM168 (by decide)) h
              have u171n := INV.rd hM168 (i := 102) (c := 48) (k := 280) rfl rfl
              have zz102_280 : (M168.1 102 280).toInt = (M115.1 102 280).toInt := s_fF fM168 (by decide) (rfl); refine j_lv [1, 2, 0] rfl ?_; exact J173 M168 (by omega) hM168 ((FR.rf.tr fM115 (by decide)).tr fM168 (by decide))
      refine y_if_eq C 93 dX12_readUnit_84 (by decide) (by omega) (fun h124 => ?_) (fun h124 => ?_)
      · refine j_aload_n C 0 0 dX12_readUnit_93 rfl rfl ?_
        refine y_bipush C dX12_readUnit_94 rfl ?_
        refine j_callVi C (d := 0) (As := [.int (sI 40)]) (st := []) 98 (s_lt rfl rfl) (s_kc (c := 11) rfl rfl) (by decide) rfl (s1_X12_is hM115 40 (by omega)) gX12_readUnit_X12_is rfl hdX12_is (by decide) (Nat.le_of_ble_eq_true rfl) dX12_readUnit_96 rfl (fun r125 M126 h127 => ?_)
        obtain ⟨a129, rfl, rfl, h128⟩ := h127
        refine y_if_eq C 108 dX12_readUnit_99 (by decide) (by omega) (fun h130 => ?_) (fun h130 => ?_)
        · refine y_sipush C dX12_readUnit_108 rfl ?_
          exact J132 3005 (by omega)
        · refine y_sipush C dX12_readUnit_102 rfl ?_
          refine j_goto C 111 dX12_readUnit_105 (by decide) ?_
          exact J132 3004 (by omega)
      · refine y_sipush C dX12_readUnit_87 rfl ?_
        refine j_goto C 111 dX12_readUnit_90 (by decide) ?_
        exact J132 3003 (by omega)
    · refine j_aload_n C 0 0 dX12_readUnit_42 rfl rfl ?_
      refine j_iload_n C 1 1 dX12_readUnit_43 rfl rfl ?_
      refine j_callVi C (d := 6) (As := [.int (sI 6)]) (st := []) 98 (s_lt rfl rfl) (s_kc (c := 11) rfl rfl) (by decide) rfl (s7_X12_goesIn hM0 hpr (by omega) (by omega)) gX12_readUnit_X12_goesIn rfl hdX12_goesIn (by decide) (Nat.le_of_ble_eq_true rfl) dX12_readUnit_44 rfl (fun r187 M188 h189 => ?_)
      obtain ⟨a191, rfl, hM188, fM188, h190⟩ := h189
      have u192c := fun h => ex_c (M := M0) (N := M0) (P := M188) (r := 0) (e := 0) (FR.cell fM188 (by decide)) h
      have u192n := INV.rd hM188 (i := 102) (c := 48) (k := 280) rfl rfl
      refine y_if_ne C 51 dX12_readUnit_47 (by decide) (by omega) (fun h193 => ?_) (fun h193 => ?_)
      · exfalso; omega
      · have u194c := fun h => ex_c (M := M0) (N := M0) (P := M188) (r := 0) (e := 1) (FR.cell fM188 (by decide)) h
        have u194d := fun h => ex_c (M := M0) (N := M0) (P := M188) (r := 0) (e := 0) (FR.cell fM188 (by decide)) h
        have u194n := INV.rd hM188 (i := 102) (c := 48) (k := 280) rfl rfl
        have zz102_280 : (M188.1 102 280).toInt = (M0.1 102 280).toInt := s_fF fM188 (by decide) (rfl); exact hret _ _ _ dX12_readUnit_50 ⟨hM188, (FR.rf.tr fM188 (by decide)), by omega⟩
  · refine j_aload_n C 0 0 dX12_readUnit_9 rfl rfl ?_
    refine j_iload_n C 1 1 dX12_readUnit_10 rfl rfl ?_
    refine j_callVi C (d := 6) (As := [.int (sI 6)]) (st := []) 98 (s_lt rfl rfl) (s_kc (c := 11) rfl rfl) (by decide) rfl (s7_X12_goesIn hM0 hpr (by omega) (by omega)) gX12_readUnit_X12_goesIn rfl hdX12_goesIn (by decide) (Nat.le_of_ble_eq_true rfl) dX12_readUnit_11 rfl (fun r195 M196 h197 => ?_)
    obtain ⟨a199, rfl, hM196, fM196, h198⟩ := h197
    have u200c := fun h => ex_c (M := M0) (N := M0) (P := M196) (r := 0) (e := 0) (FR.cell fM196 (by decide)) h
    have u200n := INV.rd hM196 (i := 102) (c := 48) (k := 280) rfl rfl
    refine y_if_ne C 18 dX12_readUnit_14 (by decide) (by omega) (fun h201 => ?_) (fun h201 => ?_)
    · exfalso; omega
    · have u202c := fun h => ex_c (M := M0) (N := M0) (P := M196) (r := 0) (e := 1) (FR.cell fM196 (by decide)) h
      have u202d := fun h => ex_c (M := M0) (N := M0) (P := M196) (r := 0) (e := 0) (FR.cell fM196 (by decide)) h
      have u202n := INV.rd hM196 (i := 102) (c := 48) (k := 280) rfl rfl
      have zz102_280 : (M196.1 102 280).toInt = (M0.1 102 280).toInt := s_fF fM196 (by decide) (rfl); exact hret _ _ _ dX12_readUnit_17 ⟨hM196, (FR.rf.tr fM196 (by decide)), by omega⟩
set_option maxHeartbeats 4000000 in
theorem s1_X12_readBoth {l : Launch} {dC : Nat → ClassId} {dI : Nat → Nat → Nat} {ad : Nat → Nat} {cA : Nat → ClassId} {pr : Nat → Nat → Bool} {Kz : mm_M} {M0 : mm_M} (hM0 : INV pr Kz M0) (hpr : PM pr)  (hp0 : (M0.1 98 6).toInt ≤ (M0.1 98 7).toInt ∧ (M0.1 98 7).toInt ≤ (M0.1 98 8).toInt ∧ (M0.1 98 8).toInt ≤ 900 ∧ ((M0.1 98 9).toInt = 24 ∨ (M0.1 98 6).toInt < (M0.1 98 7).toInt)) (hp1 : ¬ (M0.1 98 11).toInt = 0 ∨ (M0.1 102 280).toInt ≤ (M0.1 98 6).toInt) (hp2 : 0 ≤ (M0.1 102 280).toInt) (hp3 : b01 (PI M0) = 1) : Cv l 11 yX12_readBoth wsX12_readBoth dC dI ad cA [.ref (ad 98), .int (sI 6)] M0 (fun M' => INV pr Kz M' ∧ FR [98, 102] M0 M' ∧ ((M'.1 98 6).toInt ≤ (M'.1 98 7).toInt ∧ (M'.1 98 7).toInt ≤ (M'.1 98 8).toInt ∧ (M'.1 98 8).toInt ≤ 900 ∧ ((M'.1 98 9).toInt = 24 ∨ (M'.1 98 6).toInt < (M'.1 98 7).toInt)) ∧ ((M'.1 98 8).toInt = (M0.1 98 8).toInt) ∧ ((M0.1 98 6).toInt ≤ (M'.1 98 6).toInt) ∧ (0 ≤ (M'.1 102 280).toInt) ∧ (¬ (M'.1 98 11).toInt = 0 ∨ (M0.1 98 11).toInt = 0 ∧ (M'.1 102 280).toInt - (M'.1 98 6).toInt + 0 ≤ (M0.1 102 280).toInt - (M0.1 98 6).toInt ∧ (M0.1 102 280).toInt ≤ (M'.1 102 280).toInt ∧ b01 (EXT M0 M' 0 1) = 1) ∧ (b01 (PI M') = 1)) := by
  refine cv_of (cc := cX12_readBoth) (maxL := 2) (lv := [(0, .ref (ad 98)), (1, .int (sI 6))]) (by decide) rfl (Nat.le_of_ble_eq_true rfl) rfl ?_
  intro p e s m args below meth c A Q C hret
  have u101z := ex_0 M0
  have u101n := INV.rd hM0 (i := 102) (c := 48) (k := 280) rfl rfl
  refine j_aload_n C 0 0 dX12_readBoth_0 rfl rfl ?_
  refine j_iload_n C 1 1 dX12_readBoth_1 rfl rfl ?_
  refine j_callVv C (d := 10) (As := [.int (sI 6)]) (st := []) 98 (s_lt rfl rfl) (s_kc (c := 11) rfl rfl) (by decide) rfl (s1_X12_readUnit hM0 hpr (by omega) (by omega) (by omega) (by omega)) gX12_readBoth_X12_readUnit rfl hdX12_readUnit (by decide) (Nat.le_of_ble_eq_true rfl) dX12_readBoth_2 rfl (fun M103 h104 => ?_)
  obtain ⟨hM103, fM103, h105⟩ := h104
  have u106t := fun h1 h2 => ex_tr (M := M0) (N := M0) (P := M103) (r1 := 0) (e1 := 0) (r2 := 0) (e2 := 1) (r := 0) (e := 1) (by decide) h1 h2
  have u106n := INV.rd hM103 (i := 102) (c := 48) (k := 280) rfl rfl
  have L127 : ∀ (n125 : Nat), ∀ (M128 : mm_M), (((M128.1 98 6).toInt ≤ (M128.1 98 7).toInt ∧ (M128.1 98 7).toInt ≤ (M128.1 98 8).toInt ∧ (M128.1 98 8).toInt ≤ 900 ∧ ((M128.1 98 9).toInt = 24 ∨ (M128.1 98 6).toInt < (M128.1 98 7).toInt)) ∧ ((M128.1 98 8).toInt = (M0.1 98 8).toInt) ∧ ((M0.1 98 6).toInt ≤ (M128.1 98 6).toInt) ∧ (0 ≤ (M128.1 102 280).toInt) ∧ (¬ (M128.1 98 11).toInt = 0 ∨ (M0.1 98 11).toInt = 0 ∧ (M128.1 102 280).toInt - (M128.1 98 6).toInt + 0 ≤ (M0.1 102 280).toInt - (M0.1 98 6).toInt ∧ (M0.1 102 280).toInt ≤ (M128.1 102 280).toInt ∧ b01 (EXT M0 M128 0 1) = 1) ∧ (b01 (PI M128) = 1) ∧ (900 - (M128.1 98 6).toInt) < (n125 : Int)) → INV pr Kz M128 → FR [98, 102] M0 M128 → jj p l e (cn_R 11) s m args below meth c 0 0 Q 2 dC dI ad cA A M128 5 [(0, .ref (ad 98)), (1, .int (sI 6))] [] := by
    intro n125
    induction n125 with
    | zero =>
      intro M128 h129 hM128 fM128
      exfalso; omega
    | succ n125 ih126 =>
      intro M128 h129 hM128 fM128
      refine j_aload_n C 0 0 dX12_readBoth_5 rfl rfl ?_
      refine y_bipush C dX12_readBoth_6 rfl ?_
      refine j_callVi C (d := 6) (As := [.int (sI 14)]) (st := []) 98 (s_lt rfl rfl) (s_kc (c := 11) rfl rfl) (by decide) rfl (s1_X12_eats hM128 hpr 14 (by omega) (by omega) (by omega) (by omega)) gX12_readBoth_X12_eats rfl hdX12_eats (by decide) (Nat.le_of_ble_eq_true rfl) dX12_readBoth_8 rfl (fun r130 M131 h132 => ?_)
      obtain ⟨a134, rfl, hM131, fM131, h133⟩ := h132
      have u135c := fun h => ex_c (M := M0) (N := M128) (P := M131) (r := 0) (e := 1) (FR.cell fM131 (by decide)) h
      have u135n := INV.rd hM131 (i := 102) (c := 48) (k := 280) rfl rfl
      refine y_if_eq C 29 dX12_readBoth_11 (by decide) (by omega) (fun h136 => ?_) (fun h136 => ?_)
      · have u147c := fun h => ex_c (M := M0) (N := M128) (P := M131) (r := 0) (e := 1) (FR.cell fM131 (by decide)) h
        have u147d := fun h => ex_c (M := M0) (N := M128) (P := M131) (r := 0) (e := 0) (FR.cell fM131 (by decide)) h
        have u147n := INV.rd hM131 (i := 102) (c := 48) (k := 280) rfl rfl
        have zz102_280 : (M131.1 102 280).toInt = (M128.1 102 280).toInt := s_fF fM131 (by decide) (rfl); exact hret _ _ _ dX12_readBoth_29 ⟨hM131, ((FR.rf.tr fM128 (by decide)).tr fM131 (by decide)), by omega⟩
      · refine j_aload_n C 0 0 dX12_readBoth_14 rfl rfl ?_
        refine j_iload_n C 1 1 dX12_readBoth_15 rfl rfl ?_
        refine j_callVv C (d := 10) (As := [.int (sI 6)]) (st := []) 98 (s_lt rfl rfl) (s_kc (c := 11) rfl rfl) (by decide) rfl (s1_X12_readUnit hM131 hpr (by omega) (by omega) (by omega) (by omega)) gX12_readBoth_X12_readUnit rfl hdX12_readUnit (by decide) (Nat.le_of_ble_eq_true rfl) dX12_readBoth_16 rfl (fun M138 h139 => ?_)
        obtain ⟨hM138, fM138, h140⟩ := h139
        have u141t := fun h1 h2 => ex_tr (M := M0) (N := M131) (P := M138) (r1 := 0) (e1 := 1) (r2 := 0) (e2 := 1) (r := 0) (e := 2) (by decide) h1 h2
        have u141n := INV.rd hM138 (i := 102) (c := 48) (k := 280) rfl rfl
        refine j_aload_n C 0 0 dX12_readBoth_19 rfl rfl ?_
        refine y_sipush C dX12_readBoth_20 rfl ?_
        refine j_callVv C (d := 0) (As := [.int (sI 3007)]) (st := []) 98 (s_lt rfl rfl) (s_kc (c := 11) rfl rfl) (by decide) rfl (s1_X12_codes hM138 hpr 3007 (by omega) (by omega) (by omega)) gX12_readBoth_X12_codes rfl hdX12_codes (by decide) (Nat.le_of_ble_eq_true rfl) dX12_readBoth_23 rfl (fun M143 h144 => ?_)
        obtain ⟨hM143, fM143, h145⟩ := h144
        refine j_goto C 5 dX12_readBoth_26 (by decide) ?_
        have u146n := INV.rd hM143 (i := 102) (c := 48) (k := 280) rfl rfl
        have u146p := fun h => ap_bin (M := M138) (N := M143) (c := 3007) (by omega) h
        have u146t := fun h1 h2 => ex_tr (M := M0) (N := M138) (P := M143) (r1 := 0) (e1 := 2) (r2 := 2) (e2 := (-1)) (r := 0) (e := 1) (by decide) h1 h2
        have zz98_9 : (M143.1 98 9).toInt = (M138.1 98 9).toInt := s_fF fM143 (by decide) (rfl); have zz98_8 : (M143.1 98 8).toInt = (M138.1 98 8).toInt := s_fF fM143 (by decide) (rfl); have zz98_7 : (M143.1 98 7).toInt = (M138.1 98 7).toInt := s_fF fM143 (by decide) (rfl); have zz98_6 : (M143.1 98 6).toInt = (M138.1 98 6).toInt := s_fF fM143 (by decide) (rfl); have zz98_11 : (M143.1 98 11).toInt = (M138.1 98 11).toInt := s_fF fM143 (by decide) (rfl); exact ih126 M143 (by omega) hM143 ((((FR.rf.tr fM128 (by decide)).tr fM131 (by decide)).tr fM138 (by decide)).tr fM143 (by decide))
  exact L127 2010 M103 (by omega) hM103 (FR.rf.tr fM103 (by decide))
set_option maxHeartbeats 4000000 in
theorem s1_X12_readTruth {l : Launch} {dC : Nat → ClassId} {dI : Nat → Nat → Nat} {ad : Nat → Nat} {cA : Nat → ClassId} {pr : Nat → Nat → Bool} {Kz : mm_M} {M0 : mm_M} (hM0 : INV pr Kz M0) (hpr : PM pr)  (hp0 : (M0.1 98 6).toInt ≤ (M0.1 98 7).toInt ∧ (M0.1 98 7).toInt ≤ (M0.1 98 8).toInt ∧ (M0.1 98 8).toInt ≤ 900 ∧ ((M0.1 98 9).toInt = 24 ∨ (M0.1 98 6).toInt < (M0.1 98 7).toInt)) (hp1 : ¬ (M0.1 98 11).toInt = 0 ∨ (M0.1 102 280).toInt ≤ (M0.1 98 6).toInt) (hp2 : 0 ≤ (M0.1 102 280).toInt) (hp3 : b01 (PI M0) = 1) : Cv l 12 yX12_readTruth wsX12_readTruth dC dI ad cA [.ref (ad 98), .int (sI 6)] M0 (fun M' => INV pr Kz M' ∧ FR [98, 102] M0 M' ∧ ((M'.1 98 6).toInt ≤ (M'.1 98 7).toInt ∧ (M'.1 98 7).toInt ≤ (M'.1 98 8).toInt ∧ (M'.1 98 8).toInt ≤ 900 ∧ ((M'.1 98 9).toInt = 24 ∨ (M'.1 98 6).toInt < (M'.1 98 7).toInt)) ∧ ((M'.1 98 8).toInt = (M0.1 98 8).toInt) ∧ ((M0.1 98 6).toInt ≤ (M'.1 98 6).toInt) ∧ (0 ≤ (M'.1 102 280).toInt) ∧ (¬ (M'.1 98 11).toInt = 0 ∨ (M0.1 98 11).toInt = 0 ∧ (M'.1 102 280).toInt - (M'.1 98 6).toInt + 0 ≤ (M0.1 102 280).toInt - (M0.1 98 6).toInt ∧ (M0.1 102 280).toInt ≤ (M'.1 102 280).toInt ∧ b01 (EXT M0 M' 0 1) = 1) ∧ (b01 (PI M') = 1)) := by
  refine cv_of (cc := cX12_readTruth) (maxL := 2) (lv := [(0, .ref (ad 98)), (1, .int (sI 6))]) (by decide) rfl (Nat.le_of_ble_eq_true rfl) rfl ?_
  intro p e s m args below meth c A Q C hret
  have u101z := ex_0 M0
  have u101n := INV.rd hM0 (i := 102) (c := 48) (k := 280) rfl rfl
  refine j_aload_n C 0 0 dX12_readTruth_0 rfl rfl ?_
  refine j_iload_n C 1 1 dX12_readTruth_1 rfl rfl ?_
  refine j_callVv C (d := 11) (As := [.int (sI 6)]) (st := []) 98 (s_lt rfl rfl) (s_kc (c := 11) rfl rfl) (by decide) rfl (s1_X12_readBoth hM0 hpr (by omega) (by omega) (by omega) (by omega)) gX12_readTruth_X12_readBoth rfl hdX12_readBoth (by decide) (Nat.le_of_ble_eq_true rfl) dX12_readTruth_2 rfl (fun M103 h104 => ?_)
  obtain ⟨hM103, fM103, h105⟩ := h104
  have u106t := fun h1 h2 => ex_tr (M := M0) (N := M0) (P := M103) (r1 := 0) (e1 := 0) (r2 := 0) (e2 := 1) (r := 0) (e := 1) (by decide) h1 h2
  have u106n := INV.rd hM103 (i := 102) (c := 48) (k := 280) rfl rfl
  have L127 : ∀ (n125 : Nat), ∀ (M128 : mm_M), (((M128.1 98 6).toInt ≤ (M128.1 98 7).toInt ∧ (M128.1 98 7).toInt ≤ (M128.1 98 8).toInt ∧ (M128.1 98 8).toInt ≤ 900 ∧ ((M128.1 98 9).toInt = 24 ∨ (M128.1 98 6).toInt < (M128.1 98 7).toInt)) ∧ ((M128.1 98 8).toInt = (M0.1 98 8).toInt) ∧ ((M0.1 98 6).toInt ≤ (M128.1 98 6).toInt) ∧ (0 ≤ (M128.1 102 280).toInt) ∧ (¬ (M128.1 98 11).toInt = 0 ∨ (M0.1 98 11).toInt = 0 ∧ (M128.1 102 280).toInt - (M128.1 98 6).toInt + 0 ≤ (M0.1 102 280).toInt - (M0.1 98 6).toInt ∧ (M0.1 102 280).toInt ≤ (M128.1 102 280).toInt ∧ b01 (EXT M0 M128 0 1) = 1) ∧ (b01 (PI M128) = 1) ∧ (900 - (M128.1 98 6).toInt) < (n125 : Int)) → INV pr Kz M128 → FR [98, 102] M0 M128 → jj p l e (cn_R 12) s m args below meth c 0 0 Q 2 dC dI ad cA A M128 5 [(0, .ref (ad 98)), (1, .int (sI 6))] [] := by
    intro n125
    induction n125 with
    | zero =>
      intro M128 h129 hM128 fM128
      exfalso; omega
    | succ n125 ih126 =>
      intro M128 h129 hM128 fM128
      refine j_aload_n C 0 0 dX12_readTruth_5 rfl rfl ?_
      refine y_bipush C dX12_readTruth_6 rfl ?_
      refine j_callVi C (d := 6) (As := [.int (sI 15)]) (st := []) 98 (s_lt rfl rfl) (s_kc (c := 11) rfl rfl) (by decide) rfl (s1_X12_eats hM128 hpr 15 (by omega) (by omega) (by omega) (by omega)) gX12_readTruth_X12_eats rfl hdX12_eats (by decide) (Nat.le_of_ble_eq_true rfl) dX12_readTruth_8 rfl (fun r130 M131 h132 => ?_)
      obtain ⟨a134, rfl, hM131, fM131, h133⟩ := h132
      have u135c := fun h => ex_c (M := M0) (N := M128) (P := M131) (r := 0) (e := 1) (FR.cell fM131 (by decide)) h
      have u135n := INV.rd hM131 (i := 102) (c := 48) (k := 280) rfl rfl
      refine y_if_eq C 29 dX12_readTruth_11 (by decide) (by omega) (fun h136 => ?_) (fun h136 => ?_)
      · have u147c := fun h => ex_c (M := M0) (N := M128) (P := M131) (r := 0) (e := 1) (FR.cell fM131 (by decide)) h
        have u147d := fun h => ex_c (M := M0) (N := M128) (P := M131) (r := 0) (e := 0) (FR.cell fM131 (by decide)) h
        have u147n := INV.rd hM131 (i := 102) (c := 48) (k := 280) rfl rfl
        have zz102_280 : (M131.1 102 280).toInt = (M128.1 102 280).toInt := s_fF fM131 (by decide) (rfl); exact hret _ _ _ dX12_readTruth_29 ⟨hM131, ((FR.rf.tr fM128 (by decide)).tr fM131 (by decide)), by omega⟩
      · refine j_aload_n C 0 0 dX12_readTruth_14 rfl rfl ?_
        refine j_iload_n C 1 1 dX12_readTruth_15 rfl rfl ?_
        refine j_callVv C (d := 11) (As := [.int (sI 6)]) (st := []) 98 (s_lt rfl rfl) (s_kc (c := 11) rfl rfl) (by decide) rfl (s1_X12_readBoth hM131 hpr (by omega) (by omega) (by omega) (by omega)) gX12_readTruth_X12_readBoth rfl hdX12_readBoth (by decide) (Nat.le_of_ble_eq_true rfl) dX12_readTruth_16 rfl (fun M138 h139 => ?_)
        obtain ⟨hM138, fM138, h140⟩ := h139
        have u141t := fun h1 h2 => ex_tr (M := M0) (N := M131) (P := M138) (r1 := 0) (e1 := 1) (r2 := 0) (e2 := 1) (r := 0) (e := 2) (by decide) h1 h2
        have u141n := INV.rd hM138 (i := 102) (c := 48) (k := 280) rfl rfl
        refine j_aload_n C 0 0 dX12_readTruth_19 rfl rfl ?_
        refine y_sipush C dX12_readTruth_20 rfl ?_
        refine j_callVv C (d := 0) (As := [.int (sI 3008)]) (st := []) 98 (s_lt rfl rfl) (s_kc (c := 11) rfl rfl) (by decide) rfl (s1_X12_codes hM138 hpr 3008 (by omega) (by omega) (by omega)) gX12_readTruth_X12_codes rfl hdX12_codes (by decide) (Nat.le_of_ble_eq_true rfl) dX12_readTruth_23 rfl (fun M143 h144 => ?_)
        obtain ⟨hM143, fM143, h145⟩ := h144
        refine j_goto C 5 dX12_readTruth_26 (by decide) ?_
        have u146n := INV.rd hM143 (i := 102) (c := 48) (k := 280) rfl rfl
        have u146p := fun h => ap_bin (M := M138) (N := M143) (c := 3008) (by omega) h
        have u146t := fun h1 h2 => ex_tr (M := M0) (N := M138) (P := M143) (r1 := 0) (e1 := 2) (r2 := 2) (e2 := (-1)) (r := 0) (e := 1) (by decide) h1 h2
        have zz98_9 : (M143.1 98 9).toInt = (M138.1 98 9).toInt := s_fF fM143 (by decide) (rfl); have zz98_8 : (M143.1 98 8).toInt = (M138.1 98 8).toInt := s_fF fM143 (by decide) (rfl); have zz98_7 : (M143.1 98 7).toInt = (M138.1 98 7).toInt := s_fF fM143 (by decide) (rfl); have zz98_6 : (M143.1 98 6).toInt = (M138.1 98 6).toInt := s_fF fM143 (by decide) (rfl); have zz98_11 : (M143.1 98 11).toInt = (M138.1 98 11).toInt := s_fF fM143 (by decide) (rfl); exact ih126 M143 (by omega) hM143 ((((FR.rf.tr fM128 (by decide)).tr fM131 (by decide)).tr fM138 (by decide)).tr fM143 (by decide))
  exact L127 2010 M103 (by omega) hM103 (FR.rf.tr fM103 (by decide))
set_option maxHeartbeats 4000000 in
theorem s2_X12_readUnit {l : Launch} {dC : Nat → ClassId} {dI : Nat → Nat → Nat} {ad : Nat → Nat} {cA : Nat → ClassId} {pr : Nat → Nat → Bool} {Kz : mm_M} {M0 : mm_M} (hM0 : INV pr Kz M0) (hpr : PM pr)  (hp0 : (M0.1 98 6).toInt ≤ (M0.1 98 7).toInt ∧ (M0.1 98 7).toInt ≤ (M0.1 98 8).toInt ∧ (M0.1 98 8).toInt ≤ 900 ∧ ((M0.1 98 9).toInt = 24 ∨ (M0.1 98 6).toInt < (M0.1 98 7).toInt)) (hp1 : ¬ (M0.1 98 11).toInt = 0 ∨ (M0.1 102 280).toInt ≤ (M0.1 98 6).toInt) (hp2 : 0 ≤ (M0.1 102 280).toInt) (hp3 : b01 (PI M0) = 1) : Cv l 13 yX12_readUnit wsX12_readUnit dC dI ad cA [.ref (ad 98), .int (sI 5)] M0 (fun M' => INV pr Kz M' ∧ FR [98, 102] M0 M' ∧ ((M'.1 98 6).toInt ≤ (M'.1 98 7).toInt ∧ (M'.1 98 7).toInt ≤ (M'.1 98 8).toInt ∧ (M'.1 98 8).toInt ≤ 900 ∧ ((M'.1 98 9).toInt = 24 ∨ (M'.1 98 6).toInt < (M'.1 98 7).toInt)) ∧ ((M'.1 98 8).toInt = (M0.1 98 8).toInt) ∧ ((M0.1 98 6).toInt ≤ (M'.1 98 6).toInt) ∧ (0 ≤ (M'.1 102 280).toInt) ∧ (¬ (M'.1 98 11).toInt = 0 ∨ (M0.1 98 11).toInt = 0 ∧ (M'.1 102 280).toInt - (M'.1 98 6).toInt + 0 ≤ (M0.1 102 280).toInt - (M0.1 98 6).toInt ∧ (M0.1 102 280).toInt ≤ (M'.1 102 280).toInt ∧ b01 (EXT M0 M' 0 1) = 1) ∧ (b01 (PI M') = 1)) := by
  refine cv_of (cc := cX12_readUnit) (maxL := 3) (lv := [(0, .ref (ad 98)), (1, .int (sI 5))]) (by decide) rfl (Nat.le_of_ble_eq_true rfl) rfl ?_
  intro p e s m args below meth c A Q C hret
  have u101z := ex_0 M0
  have u101n := INV.rd hM0 (i := 102) (c := 48) (k := 280) rfl rfl
  refine j_aload_n C 0 0 dX12_readUnit_0 rfl rfl ?_
  refine y_bipush C dX12_readUnit_1 rfl ?_
  refine j_callVi C (d := 0) (As := [.int (sI 16)]) (st := []) 98 (s_lt rfl rfl) (s_kc (c := 11) rfl rfl) (by decide) rfl (s1_X12_is hM0 16 (by omega)) gX12_readUnit_X12_is rfl hdX12_is (by decide) (Nat.le_of_ble_eq_true rfl) dX12_readUnit_3 rfl (fun r102 M103 h104 => ?_)
  obtain ⟨a106, rfl, rfl, h105⟩ := h104
  refine y_if_eq C 33 dX12_readUnit_6 (by decide) (by omega) (fun h107 => ?_) (fun h107 => ?_)
  · refine j_aload_n C 0 0 dX12_readUnit_33 rfl rfl ?_
    refine y_bipush C dX12_readUnit_34 rfl ?_
    refine j_callVi C (d := 0) (As := [.int (sI 37)]) (st := []) 98 (s_lt rfl rfl) (s_kc (c := 11) rfl rfl) (by decide) rfl (s1_X12_is hM0 37 (by omega)) gX12_readUnit_X12_is rfl hdX12_is (by decide) (Nat.le_of_ble_eq_true rfl) dX12_readUnit_36 rfl (fun r108 M109 h110 => ?_)
    obtain ⟨a112, rfl, rfl, h111⟩ := h110
    refine y_if_eq C 73 dX12_readUnit_39 (by decide) (by omega) (fun h113 => ?_) (fun h113 => ?_)
    · refine j_aload_n C 0 0 dX12_readUnit_73 rfl rfl ?_
      refine j_iload_n C 1 1 dX12_readUnit_74 rfl rfl ?_
      refine j_callVv C (d := 12) (As := [.int (sI 5)]) (st := []) 98 (s_lt rfl rfl) (s_kc (c := 11) rfl rfl) (by decide) rfl (s2_X12_readSum hM0 hpr (by omega) (by omega) (by omega) (by omega)) gX12_readUnit_X12_readSum rfl hdX12_readSum (by decide) (Nat.le_of_ble_eq_true rfl) dX12_readUnit_75 rfl (fun M115 h116 => ?_)
      obtain ⟨hM115, fM115, h117⟩ := h116
      have u118t := fun h1 h2 => ex_tr (M := M0) (N := M0) (P := M115) (r1 := 0) (e1 := 0) (r2 := 0) (e2 := 1) (r := 0) (e := 1) (by decide) h1 h2
      have u118n := INV.rd hM115 (i := 102) (c := 48) (k := 280) rfl rfl
      refine j_aload_n C 0 0 dX12_readUnit_78 rfl rfl ?_
      refine y_bipush C dX12_readUnit_79 rfl ?_
      refine j_callVi C (d := 0) (As := [.int (sI 39)]) (st := []) 98 (s_lt rfl rfl) (s_kc (c := 11) rfl rfl) (by decide) rfl (s1_X12_is hM115 39 (by omega)) gX12_readUnit_X12_is rfl hdX12_is (by decide) (Nat.le_of_ble_eq_true rfl) dX12_readUnit_81 rfl (fun r119 M120 h121 => ?_)
      obtain ⟨a123, rfl, rfl, h122⟩ := h121
      have J132 : ∀ (a131 : Int), (3003 ≤ a131 ∧ a131 ≤ 3005) → jj p l e (cn_R 13) s m args below meth c 0 0 Q 3 dC dI ad cA A M115 111 [(0, .ref (ad 98)), (1, .int (sI 5))] [.int (sI a131)] := by
        intro a131 h133
        refine j_istore_n C 2 [(2, .int (sI a131)), (0, .ref (ad 98)), (1, .int (sI 5))] dX12_readUnit_111 rfl (by decide) rfl ?_
        refine j_aload_n C 1 0 dX12_readUnit_112 rfl rfl ?_
        refine y_bipush C dX12_readUnit_113 rfl ?_
        refine j_callVi C (d := 0) (As := [.int (sI 39)]) (st := []) 98 (s_lt rfl rfl) (s_kc (c := 11) rfl rfl) (by decide) rfl (s1_X12_is hM115 39 (by omega)) gX12_readUnit_X12_is rfl hdX12_is (by decide) (Nat.le_of_ble_eq_true rfl) dX12_readUnit_115 rfl (fun r134 M135 h136 => ?_)
        obtain ⟨a138, rfl, rfl, h137⟩ := h136
        have J173 : ∀ (M172 : mm_M), (((M172.1 98 6).toInt ≤ (M172.1 98 7).toInt ∧ (M172.1 98 7).toInt ≤ (M172.1 98 8).toInt ∧ (M172.1 98 8).toInt ≤ 900 ∧ ((M172.1 98 9).toInt = 24 ∨ (M172.1 98 6).toInt < (M172.1 98 7).toInt)) ∧ ((M172.1 98 8).toInt = (M0.1 98 8).toInt) ∧ ((M0.1 98 6).toInt ≤ (M172.1 98 6).toInt) ∧ (0 ≤ (M172.1 102 280).toInt) ∧ (¬ (M172.1 98 11).toInt = 0 ∨ (M0.1 98 11).toInt = 0 ∧ (M172.1 102 280).toInt - (M172.1 98 6).toInt + 1 ≤ (M0.1 102 280).toInt - (M0.1 98 6).toInt ∧ (M0.1 102 280).toInt ≤ (M172.1 102 280).toInt ∧ b01 (EXT M0 M172 0 1) = 1) ∧ (b01 (PI M172) = 1)) → INV pr Kz M172 → FR [98, 102] M0 M172 → jj p l e (cn_R 13) s m args below meth c 0 0 Q 3 dC dI ad cA A M172 151 [(0, .ref (ad 98)), (1, .int (sI 5)), (2, .int (sI a131))] [] := by
          intro M172 h174 hM172 fM172
          have u175c := fun h => ex_c (M := M0) (N := M0) (P := M172) (r := 0) (e := 1) (FR.cell fM172 (by decide)) h
          have u175n := INV.rd hM172 (i := 102) (c := 48) (k := 280) rfl rfl
          refine j_aload_n C 0 0 dX12_readUnit_151 rfl rfl ?_
          refine j_iload_n C 1 1 dX12_readUnit_152 rfl rfl ?_
          refine j_callVv C (d := 12) (As := [.int (sI 5)]) (st := []) 98 (s_lt rfl rfl) (s_kc (c := 11) rfl rfl) (by decide) rfl (s2_X12_readSum hM172 hpr (by omega) (by omega) (by omega) (by omega)) gX12_readUnit_X12_readSum rfl hdX12_readSum (by decide) (Nat.le_of_ble_eq_true rfl) dX12_readUnit_153 rfl (fun M177 h178 => ?_)
          obtain ⟨hM177, fM177, h179⟩ := h178
          have u180t := fun h1 h2 => ex_tr (M := M0) (N := M172) (P := M177) (r1 := 0) (e1 := 1) (r2 := 0) (e2 := 1) (r := 0) (e := 2) (by decide) h1 h2
          have u180n := INV.rd hM177 (i := 102) (c := 48) (k := 280) rfl rfl
          refine j_aload_n C 0 0 dX12_readUnit_156 rfl rfl ?_
          refine j_iload_n C 2 2 dX12_readUnit_157 rfl rfl ?_
          refine j_callVv C (d := 0) (As := [.int (sI a131)]) (st := []) 98 (s_lt rfl rfl) (s_kc (c := 11) rfl rfl) (by decide) rfl (s1_X12_codes hM177 hpr a131 (by omega) (by omega) (by omega)) gX12_readUnit_X12_codes rfl hdX12_codes (by decide) (Nat.le_of_ble_eq_true rfl) dX12_readUnit_158 rfl (fun M182 h183 => ?_)
          obtain ⟨hM182, fM182, h184⟩ := h183
          have u185n := INV.rd hM182 (i := 102) (c := 48) (k := 280) rfl rfl
          have u185p := fun h => ap_bin (M := M177) (N := M182) (c := a131) (by omega) h
          have u185t := fun h1 h2 => ex_tr (M := M0) (N := M177) (P := M182) (r1 := 0) (e1 := 2) (r2 := 2) (e2 := (-1)) (r := 0) (e := 1) (by decide) h1 h2
          have u186n := INV.rd hM182 (i := 102) (c := 48) (k := 280) rfl rfl
          have zz98_11 : (M182.1 98 11).toInt = (M177.1 98 11).toInt := s_fF fM182 (by decide) (rfl); have zz98_6 : (M182.1 98 6).toInt = (M177.1 98 6).toInt := s_fF fM182 (by decide) (rfl); have zz98_7 : (M182.1 98 7).toInt = (M177.1 98 7).toInt := s_fF fM182 (by decide) (rfl); have zz98_8 : (M182.1 98 8).toInt = (M177.1 98 8).toInt := s_fF fM182 (by decide) (rfl); have zz98_9 : (M182.1 98 9).toInt = (M177.1 98 9).toInt := s_fF fM182 (by decide) (rfl); exact hret _ _ _ dX12_readUnit_161 ⟨hM182, (((FR.rf.tr fM172 (by decide)).tr fM177 (by decide)).tr fM182 (by decide)), by omega⟩
        refine y_if_ne C 139 dX12_readUnit_118 (by decide) (by omega) (fun h139 => ?_) (fun h139 => ?_)
        · refine j_aload_n C 1 0 dX12_readUnit_139 rfl rfl ?_
          refine j_callVv C (d := 5) (As := []) (st := []) 98 (s_lt rfl rfl) (s_kc (c := 11) rfl rfl) (by decide) rfl (s1_X12_next hM115 hpr (by omega) (by omega) (by omega)) gX12_readUnit_X12_next rfl hdX12_next (by decide) (Nat.le_of_ble_eq_true rfl) dX12_readUnit_140 rfl (fun M141 h142 => ?_)
          obtain ⟨hM141, fM141, h143⟩ := h142
          refine j_goto C 151 dX12_readUnit_143 (by decide) ?_
          have u144c := fun h => ex_c (M := M0) (N := M115) (P := M141) (r := 0) (e := 1) (FR.cell fM141 (by decide)) h
          have u144n := INV.rd hM141 (i := 102) (c := 48) (k := 280) rfl rfl
          have zz102_280 : (M141.1 102 280).toInt = (M115.1 102 280).toInt := s_fF fM141 (by decide) (rfl); refine j_lv [1, 2, 0] rfl ?_; exact J173 M141 (by omega) hM141 ((FR.rf.tr fM115 (by decide)).tr fM141 (by decide))
        · refine j_aload_n C 1 0 dX12_readUnit_121 rfl rfl ?_
          refine y_bipush C dX12_readUnit_122 rfl ?_
          refine j_callVi C (d := 0) (As := [.int (sI 40)]) (st := []) 98 (s_lt rfl rfl) (s_kc (c := 11) rfl rfl) (by decide) rfl (s1_X12_is hM115 40 (by omega)) gX12_readUnit_X12_is rfl hdX12_is (by decide) (Nat.le_of_ble_eq_true rfl) dX12_readUnit_124 rfl (fun r145 M146 h147 => ?_)
          obtain ⟨a149, rfl, rfl, h148⟩ := h147
          refine y_if_ne C 139 dX12_readUnit_127 (by decide) (by omega) (fun h150 => ?_) (fun h150 => ?_)
          · refine j_aload_n C 1 0 dX12_readUnit_139 rfl rfl ?_
            refine j_callVv C (d := 5) (As := []) (st := []) 98 (s_lt rfl rfl) (s_kc (c := 11) rfl rfl) (by decide) rfl (s1_X12_next hM115 hpr (by omega) (by omega) (by omega)) gX12_readUnit_X12_next rfl hdX12_next (by decide) (Nat.le_of_ble_eq_true rfl) dX12_readUnit_140 rfl (fun M152 h153 => ?_)
            obtain ⟨hM152, fM152, h154⟩ := h153
            refine j_goto C 151 dX12_readUnit_143 (by decide) ?_
            have u155c := fun h => ex_c (M := M0) (N := M115) (P := M152) (r := 0) (e := 1) (FR.cell fM152 (by decide)) h
            have u155n := INV.rd hM152 (i := 102) (c := 48) (k := 280) rfl rfl
            have zz102_280 : (M152.1 102 280).toInt = (M115.1 102 280).toInt := s_fF fM152 (by decide) (rfl); refine j_lv [1, 2, 0] rfl ?_; exact J173 M152 (by omega) hM152 ((FR.rf.tr fM115 (by decide)).tr fM152 (by decide))
          · refine j_aload_n C 1 0 dX12_readUnit_130 rfl rfl ?_
            refine y_bipush C dX12_readUnit_131 rfl ?_
            refine j_callVi C (d := 0) (As := [.int (sI 41)]) (st := []) 98 (s_lt rfl rfl) (s_kc (c := 11) rfl rfl) (by decide) rfl (s1_X12_is hM115 41 (by omega)) gX12_readUnit_X12_is rfl hdX12_is (by decide) (Nat.le_of_ble_eq_true rfl) dX12_readUnit_133 rfl (fun r156 M157 h158 => ?_)
            obtain ⟨a160, rfl, rfl, h159⟩ := h158
            refine y_if_eq C 146 dX12_readUnit_136 (by decide) (by omega) (fun h161 => ?_) (fun h161 => ?_)
            · refine j_aload_n C 1 0 dX12_readUnit_146 rfl rfl ?_
              refine y_iconst C dX12_readUnit_147 ?_
              refine j_callVv C (d := 0) (As := [.int (sI 2)]) (st := []) 98 (s_lt rfl rfl) (s_kc (c := 11) rfl rfl) (by decide) rfl (s1_X12_fails hM115 hpr 2 (by omega) (by omega) (by omega)) gX12_readUnit_X12_fails rfl hdX12_fails (by decide) (Nat.le_of_ble_eq_true rfl) dX12_readUnit_148 rfl (fun M163 h164 => ?_)
              obtain ⟨hM163, fM163, h165⟩ := h164
              have u166c := fun h => ex_c (M := M0) (N := M115) (P := M163) (r := 0) (e := 1) (FR.cell fM163 (by decide)) h
              have u166n := INV.rd hM163 (i := 102) (c := 48) (k := 280) rfl rfl
              have zz102_280 : (M163.1 102 280).toInt = (M115.1 102 280).toInt := s_fF fM163 (by decide) (rfl); refine j_lv [1, 2, 0] rfl ?_; exact J173 M163 (by omega) hM163 ((FR.rf.tr fM115 (by decide)).tr fM163 (by decide))
            · refine j_aload_n C 1 0 dX12_readUnit_139 rfl rfl ?_
              refine j_callVv C (d := 5) (As := []) (st := []) 98 (s_lt rfl rfl) (s_kc (c := 11) rfl rfl) (by decide) rfl (s1_X12_next hM115 hpr (by omega) (by omega) (by omega)) gX12_readUnit_X12_next rfl hdX12_next (by decide) (Nat.le_of_ble_eq_true rfl) dX12_readUnit_140 rfl (fun M168 h169 => ?_)
              obtain ⟨hM168, fM168, h170⟩ := h169
              refine j_goto C 151 dX12_readUnit_143 (by decide) ?_
              have u171c := fun h => ex_c (M := M0) (N := M115) (P := M168) (r := 0) (e := 1) (FR.cell fM168 (by decide)) h
              have u171n := INV.rd hM168 (i := 102) (c := 48) (k := 280) rfl rfl
              have zz102_280 : (M168.1 102 280).toInt = (M115.1 102 280).toInt := s_fF fM168 (by decide) (rfl); refine j_lv [1, 2, 0] rfl ?_; exact J173 M168 (by omega) hM168 ((FR.rf.tr fM115 (by decide)).tr fM168 (by decide))
      refine y_if_eq C 93 dX12_readUnit_84 (by decide) (by omega) (fun h124 => ?_) (fun h124 => ?_)
      · refine j_aload_n C 0 0 dX12_readUnit_93 rfl rfl ?_
        refine y_bipush C dX12_readUnit_94 rfl ?_
        refine j_callVi C (d := 0) (As := [.int (sI 40)]) (st := []) 98 (s_lt rfl rfl) (s_kc (c := 11) rfl rfl) (by decide) rfl (s1_X12_is hM115 40 (by omega)) gX12_readUnit_X12_is rfl hdX12_is (by decide) (Nat.le_of_ble_eq_true rfl) dX12_readUnit_96 rfl (fun r125 M126 h127 => ?_)
        obtain ⟨a129, rfl, rfl, h128⟩ := h127
        refine y_if_eq C 108 dX12_readUnit_99 (by decide) (by omega) (fun h130 => ?_) (fun h130 => ?_)
        · refine y_sipush C dX12_readUnit_108 rfl ?_
          exact J132 3005 (by omega)
        · refine y_sipush C dX12_readUnit_102 rfl ?_
          refine j_goto C 111 dX12_readUnit_105 (by decide) ?_
          exact J132 3004 (by omega)
      · refine y_sipush C dX12_readUnit_87 rfl ?_
        refine j_goto C 111 dX12_readUnit_90 (by decide) ?_
        exact J132 3003 (by omega)
    · refine j_aload_n C 0 0 dX12_readUnit_42 rfl rfl ?_
      refine j_iload_n C 1 1 dX12_readUnit_43 rfl rfl ?_
      refine j_callVi C (d := 6) (As := [.int (sI 5)]) (st := []) 98 (s_lt rfl rfl) (s_kc (c := 11) rfl rfl) (by decide) rfl (s6_X12_goesIn hM0 hpr (by omega) (by omega)) gX12_readUnit_X12_goesIn rfl hdX12_goesIn (by decide) (Nat.le_of_ble_eq_true rfl) dX12_readUnit_44 rfl (fun r187 M188 h189 => ?_)
      obtain ⟨a191, rfl, hM188, fM188, h190⟩ := h189
      have u192c := fun h => ex_c (M := M0) (N := M0) (P := M188) (r := 0) (e := 0) (FR.cell fM188 (by decide)) h
      have u192n := INV.rd hM188 (i := 102) (c := 48) (k := 280) rfl rfl
      refine y_if_ne C 51 dX12_readUnit_47 (by decide) (by omega) (fun h193 => ?_) (fun h193 => ?_)
      · refine j_aload_n C 0 0 dX12_readUnit_51 rfl rfl ?_
        refine j_iload_n C 1 1 dX12_readUnit_52 rfl rfl ?_
        refine y_iconst C dX12_readUnit_53 ?_
        refine y_iadd C dX12_readUnit_54 ?_
        refine j_callVv C (d := 12) (As := [.int (sI (5 + 1))]) (st := []) 98 (s_lt rfl rfl) (s_kc (c := 11) rfl rfl) (by decide) rfl (s1_X12_readTruth hM188 hpr (by omega) (by omega) (by omega) (by omega)) gX12_readUnit_X12_readTruth rfl hdX12_readTruth (by decide) (Nat.le_of_ble_eq_true rfl) dX12_readUnit_55 rfl (fun M195 h196 => ?_)
        obtain ⟨hM195, fM195, h197⟩ := h196
        have u198t := fun h1 h2 => ex_tr (M := M0) (N := M188) (P := M195) (r1 := 0) (e1 := 0) (r2 := 0) (e2 := 1) (r := 0) (e := 1) (by decide) h1 h2
        have u198n := INV.rd hM195 (i := 102) (c := 48) (k := 280) rfl rfl
        refine j_aload_n C 0 0 dX12_readUnit_58 rfl rfl ?_
        refine y_bipush C dX12_readUnit_59 rfl ?_
        refine j_callVi C (d := 6) (As := [.int (sI 38)]) (st := []) 98 (s_lt rfl rfl) (s_kc (c := 11) rfl rfl) (by decide) rfl (s1_X12_eats hM195 hpr 38 (by omega) (by omega) (by omega) (by omega)) gX12_readUnit_X12_eats rfl hdX12_eats (by decide) (Nat.le_of_ble_eq_true rfl) dX12_readUnit_61 rfl (fun r199 M200 h201 => ?_)
        obtain ⟨a203, rfl, hM200, fM200, h202⟩ := h201
        have u204c := fun h => ex_c (M := M0) (N := M195) (P := M200) (r := 0) (e := 1) (FR.cell fM200 (by decide)) h
        have u204n := INV.rd hM200 (i := 102) (c := 48) (k := 280) rfl rfl
        refine y_if_ne C 72 dX12_readUnit_64 (by decide) (by omega) (fun h205 => ?_) (fun h205 => ?_)
        · have u206c := fun h => ex_c (M := M0) (N := M195) (P := M200) (r := 0) (e := 1) (FR.cell fM200 (by decide)) h
          have u206d := fun h => ex_c (M := M0) (N := M195) (P := M200) (r := 0) (e := 0) (FR.cell fM200 (by decide)) h
          have u206n := INV.rd hM200 (i := 102) (c := 48) (k := 280) rfl rfl
          have zz102_280 : (M200.1 102 280).toInt = (M195.1 102 280).toInt := s_fF fM200 (by decide) (rfl); exact hret _ _ _ dX12_readUnit_72 ⟨hM200, (((FR.rf.tr fM188 (by decide)).tr fM195 (by decide)).tr fM200 (by decide)), by omega⟩
        · refine j_aload_n C 0 0 dX12_readUnit_67 rfl rfl ?_
          refine y_iconst C dX12_readUnit_68 ?_
          refine j_callVv C (d := 0) (As := [.int (sI 2)]) (st := []) 98 (s_lt rfl rfl) (s_kc (c := 11) rfl rfl) (by decide) rfl (s1_X12_fails hM200 hpr 2 (by omega) (by omega) (by omega)) gX12_readUnit_X12_fails rfl hdX12_fails (by decide) (Nat.le_of_ble_eq_true rfl) dX12_readUnit_69 rfl (fun M208 h209 => ?_)
          obtain ⟨hM208, fM208, h210⟩ := h209
          have u211c := fun h => ex_c (M := M0) (N := M200) (P := M208) (r := 0) (e := 1) (FR.cell fM208 (by decide)) h
          have u211d := fun h => ex_c (M := M0) (N := M200) (P := M208) (r := 0) (e := 0) (FR.cell fM208 (by decide)) h
          have u211n := INV.rd hM208 (i := 102) (c := 48) (k := 280) rfl rfl
          have zz102_280 : (M208.1 102 280).toInt = (M195.1 102 280).toInt := s_fF fM200 (by decide) (s_fF fM208 (by decide) (rfl)); exact hret _ _ _ dX12_readUnit_72 ⟨hM208, ((((FR.rf.tr fM188 (by decide)).tr fM195 (by decide)).tr fM200 (by decide)).tr fM208 (by decide)), by omega⟩
      · have u212c := fun h => ex_c (M := M0) (N := M0) (P := M188) (r := 0) (e := 1) (FR.cell fM188 (by decide)) h
        have u212d := fun h => ex_c (M := M0) (N := M0) (P := M188) (r := 0) (e := 0) (FR.cell fM188 (by decide)) h
        have u212n := INV.rd hM188 (i := 102) (c := 48) (k := 280) rfl rfl
        have zz102_280 : (M188.1 102 280).toInt = (M0.1 102 280).toInt := s_fF fM188 (by decide) (rfl); exact hret _ _ _ dX12_readUnit_50 ⟨hM188, (FR.rf.tr fM188 (by decide)), by omega⟩
  · refine j_aload_n C 0 0 dX12_readUnit_9 rfl rfl ?_
    refine j_iload_n C 1 1 dX12_readUnit_10 rfl rfl ?_
    refine j_callVi C (d := 6) (As := [.int (sI 5)]) (st := []) 98 (s_lt rfl rfl) (s_kc (c := 11) rfl rfl) (by decide) rfl (s6_X12_goesIn hM0 hpr (by omega) (by omega)) gX12_readUnit_X12_goesIn rfl hdX12_goesIn (by decide) (Nat.le_of_ble_eq_true rfl) dX12_readUnit_11 rfl (fun r213 M214 h215 => ?_)
    obtain ⟨a217, rfl, hM214, fM214, h216⟩ := h215
    have u218c := fun h => ex_c (M := M0) (N := M0) (P := M214) (r := 0) (e := 0) (FR.cell fM214 (by decide)) h
    have u218n := INV.rd hM214 (i := 102) (c := 48) (k := 280) rfl rfl
    refine y_if_ne C 18 dX12_readUnit_14 (by decide) (by omega) (fun h219 => ?_) (fun h219 => ?_)
    · refine j_aload_n C 0 0 dX12_readUnit_18 rfl rfl ?_
      refine j_iload_n C 1 1 dX12_readUnit_19 rfl rfl ?_
      refine y_iconst C dX12_readUnit_20 ?_
      refine y_iadd C dX12_readUnit_21 ?_
      refine j_callVv C (d := 10) (As := [.int (sI (5 + 1))]) (st := []) 98 (s_lt rfl rfl) (s_kc (c := 11) rfl rfl) (by decide) rfl (s1_X12_readUnit hM214 hpr (by omega) (by omega) (by omega) (by omega)) gX12_readUnit_X12_readUnit rfl hdX12_readUnit (by decide) (Nat.le_of_ble_eq_true rfl) dX12_readUnit_22 rfl (fun M221 h222 => ?_)
      obtain ⟨hM221, fM221, h223⟩ := h222
      have u224t := fun h1 h2 => ex_tr (M := M0) (N := M214) (P := M221) (r1 := 0) (e1 := 0) (r2 := 0) (e2 := 1) (r := 0) (e := 1) (by decide) h1 h2
      have u224n := INV.rd hM221 (i := 102) (c := 48) (k := 280) rfl rfl
      refine j_aload_n C 0 0 dX12_readUnit_25 rfl rfl ?_
      refine y_sipush C dX12_readUnit_26 rfl ?_
      refine j_callVv C (d := 0) (As := [.int (sI 3006)]) (st := []) 98 (s_lt rfl rfl) (s_kc (c := 11) rfl rfl) (by decide) rfl (s1_X12_codes hM221 hpr 3006 (by omega) (by omega) (by omega)) gX12_readUnit_X12_codes rfl hdX12_codes (by decide) (Nat.le_of_ble_eq_true rfl) dX12_readUnit_29 rfl (fun M226 h227 => ?_)
      obtain ⟨hM226, fM226, h228⟩ := h227
      have u229n := INV.rd hM226 (i := 102) (c := 48) (k := 280) rfl rfl
      have u229p := fun h => ap_not (M := M221) (N := M226) (by omega) h
      have u229t := fun h1 h2 => ex_tr (M := M0) (N := M221) (P := M226) (r1 := 0) (e1 := 1) (r2 := 1) (e2 := 0) (r := 0) (e := 1) (by decide) h1 h2
      have u230n := INV.rd hM226 (i := 102) (c := 48) (k := 280) rfl rfl
      have zz98_11 : (M226.1 98 11).toInt = (M221.1 98 11).toInt := s_fF fM226 (by decide) (rfl); have zz98_6 : (M226.1 98 6).toInt = (M221.1 98 6).toInt := s_fF fM226 (by decide) (rfl); have zz98_7 : (M226.1 98 7).toInt = (M221.1 98 7).toInt := s_fF fM226 (by decide) (rfl); have zz98_8 : (M226.1 98 8).toInt = (M221.1 98 8).toInt := s_fF fM226 (by decide) (rfl); have zz98_9 : (M226.1 98 9).toInt = (M221.1 98 9).toInt := s_fF fM226 (by decide) (rfl); exact hret _ _ _ dX12_readUnit_32 ⟨hM226, (((FR.rf.tr fM214 (by decide)).tr fM221 (by decide)).tr fM226 (by decide)), by omega⟩
    · have u231c := fun h => ex_c (M := M0) (N := M0) (P := M214) (r := 0) (e := 1) (FR.cell fM214 (by decide)) h
      have u231d := fun h => ex_c (M := M0) (N := M0) (P := M214) (r := 0) (e := 0) (FR.cell fM214 (by decide)) h
      have u231n := INV.rd hM214 (i := 102) (c := 48) (k := 280) rfl rfl
      have zz102_280 : (M214.1 102 280).toInt = (M0.1 102 280).toInt := s_fF fM214 (by decide) (rfl); exact hret _ _ _ dX12_readUnit_17 ⟨hM214, (FR.rf.tr fM214 (by decide)), by omega⟩
set_option maxHeartbeats 4000000 in
theorem s2_X12_readBoth {l : Launch} {dC : Nat → ClassId} {dI : Nat → Nat → Nat} {ad : Nat → Nat} {cA : Nat → ClassId} {pr : Nat → Nat → Bool} {Kz : mm_M} {M0 : mm_M} (hM0 : INV pr Kz M0) (hpr : PM pr)  (hp0 : (M0.1 98 6).toInt ≤ (M0.1 98 7).toInt ∧ (M0.1 98 7).toInt ≤ (M0.1 98 8).toInt ∧ (M0.1 98 8).toInt ≤ 900 ∧ ((M0.1 98 9).toInt = 24 ∨ (M0.1 98 6).toInt < (M0.1 98 7).toInt)) (hp1 : ¬ (M0.1 98 11).toInt = 0 ∨ (M0.1 102 280).toInt ≤ (M0.1 98 6).toInt) (hp2 : 0 ≤ (M0.1 102 280).toInt) (hp3 : b01 (PI M0) = 1) : Cv l 14 yX12_readBoth wsX12_readBoth dC dI ad cA [.ref (ad 98), .int (sI 5)] M0 (fun M' => INV pr Kz M' ∧ FR [98, 102] M0 M' ∧ ((M'.1 98 6).toInt ≤ (M'.1 98 7).toInt ∧ (M'.1 98 7).toInt ≤ (M'.1 98 8).toInt ∧ (M'.1 98 8).toInt ≤ 900 ∧ ((M'.1 98 9).toInt = 24 ∨ (M'.1 98 6).toInt < (M'.1 98 7).toInt)) ∧ ((M'.1 98 8).toInt = (M0.1 98 8).toInt) ∧ ((M0.1 98 6).toInt ≤ (M'.1 98 6).toInt) ∧ (0 ≤ (M'.1 102 280).toInt) ∧ (¬ (M'.1 98 11).toInt = 0 ∨ (M0.1 98 11).toInt = 0 ∧ (M'.1 102 280).toInt - (M'.1 98 6).toInt + 0 ≤ (M0.1 102 280).toInt - (M0.1 98 6).toInt ∧ (M0.1 102 280).toInt ≤ (M'.1 102 280).toInt ∧ b01 (EXT M0 M' 0 1) = 1) ∧ (b01 (PI M') = 1)) := by
  refine cv_of (cc := cX12_readBoth) (maxL := 2) (lv := [(0, .ref (ad 98)), (1, .int (sI 5))]) (by decide) rfl (Nat.le_of_ble_eq_true rfl) rfl ?_
  intro p e s m args below meth c A Q C hret
  have u101z := ex_0 M0
  have u101n := INV.rd hM0 (i := 102) (c := 48) (k := 280) rfl rfl
  refine j_aload_n C 0 0 dX12_readBoth_0 rfl rfl ?_
  refine j_iload_n C 1 1 dX12_readBoth_1 rfl rfl ?_
  refine j_callVv C (d := 13) (As := [.int (sI 5)]) (st := []) 98 (s_lt rfl rfl) (s_kc (c := 11) rfl rfl) (by decide) rfl (s2_X12_readUnit hM0 hpr (by omega) (by omega) (by omega) (by omega)) gX12_readBoth_X12_readUnit rfl hdX12_readUnit (by decide) (Nat.le_of_ble_eq_true rfl) dX12_readBoth_2 rfl (fun M103 h104 => ?_)
  obtain ⟨hM103, fM103, h105⟩ := h104
  have u106t := fun h1 h2 => ex_tr (M := M0) (N := M0) (P := M103) (r1 := 0) (e1 := 0) (r2 := 0) (e2 := 1) (r := 0) (e := 1) (by decide) h1 h2
  have u106n := INV.rd hM103 (i := 102) (c := 48) (k := 280) rfl rfl
  have L127 : ∀ (n125 : Nat), ∀ (M128 : mm_M), (((M128.1 98 6).toInt ≤ (M128.1 98 7).toInt ∧ (M128.1 98 7).toInt ≤ (M128.1 98 8).toInt ∧ (M128.1 98 8).toInt ≤ 900 ∧ ((M128.1 98 9).toInt = 24 ∨ (M128.1 98 6).toInt < (M128.1 98 7).toInt)) ∧ ((M128.1 98 8).toInt = (M0.1 98 8).toInt) ∧ ((M0.1 98 6).toInt ≤ (M128.1 98 6).toInt) ∧ (0 ≤ (M128.1 102 280).toInt) ∧ (¬ (M128.1 98 11).toInt = 0 ∨ (M0.1 98 11).toInt = 0 ∧ (M128.1 102 280).toInt - (M128.1 98 6).toInt + 0 ≤ (M0.1 102 280).toInt - (M0.1 98 6).toInt ∧ (M0.1 102 280).toInt ≤ (M128.1 102 280).toInt ∧ b01 (EXT M0 M128 0 1) = 1) ∧ (b01 (PI M128) = 1) ∧ (900 - (M128.1 98 6).toInt) < (n125 : Int)) → INV pr Kz M128 → FR [98, 102] M0 M128 → jj p l e (cn_R 14) s m args below meth c 0 0 Q 2 dC dI ad cA A M128 5 [(0, .ref (ad 98)), (1, .int (sI 5))] [] := by
    intro n125
    induction n125 with
    | zero =>
      intro M128 h129 hM128 fM128
      exfalso; omega
    | succ n125 ih126 =>
      intro M128 h129 hM128 fM128
      refine j_aload_n C 0 0 dX12_readBoth_5 rfl rfl ?_
      refine y_bipush C dX12_readBoth_6 rfl ?_
      refine j_callVi C (d := 6) (As := [.int (sI 14)]) (st := []) 98 (s_lt rfl rfl) (s_kc (c := 11) rfl rfl) (by decide) rfl (s1_X12_eats hM128 hpr 14 (by omega) (by omega) (by omega) (by omega)) gX12_readBoth_X12_eats rfl hdX12_eats (by decide) (Nat.le_of_ble_eq_true rfl) dX12_readBoth_8 rfl (fun r130 M131 h132 => ?_)
      obtain ⟨a134, rfl, hM131, fM131, h133⟩ := h132
      have u135c := fun h => ex_c (M := M0) (N := M128) (P := M131) (r := 0) (e := 1) (FR.cell fM131 (by decide)) h
      have u135n := INV.rd hM131 (i := 102) (c := 48) (k := 280) rfl rfl
      refine y_if_eq C 29 dX12_readBoth_11 (by decide) (by omega) (fun h136 => ?_) (fun h136 => ?_)
      · have u147c := fun h => ex_c (M := M0) (N := M128) (P := M131) (r := 0) (e := 1) (FR.cell fM131 (by decide)) h
        have u147d := fun h => ex_c (M := M0) (N := M128) (P := M131) (r := 0) (e := 0) (FR.cell fM131 (by decide)) h
        have u147n := INV.rd hM131 (i := 102) (c := 48) (k := 280) rfl rfl
        have zz102_280 : (M131.1 102 280).toInt = (M128.1 102 280).toInt := s_fF fM131 (by decide) (rfl); exact hret _ _ _ dX12_readBoth_29 ⟨hM131, ((FR.rf.tr fM128 (by decide)).tr fM131 (by decide)), by omega⟩
      · refine j_aload_n C 0 0 dX12_readBoth_14 rfl rfl ?_
        refine j_iload_n C 1 1 dX12_readBoth_15 rfl rfl ?_
        refine j_callVv C (d := 13) (As := [.int (sI 5)]) (st := []) 98 (s_lt rfl rfl) (s_kc (c := 11) rfl rfl) (by decide) rfl (s2_X12_readUnit hM131 hpr (by omega) (by omega) (by omega) (by omega)) gX12_readBoth_X12_readUnit rfl hdX12_readUnit (by decide) (Nat.le_of_ble_eq_true rfl) dX12_readBoth_16 rfl (fun M138 h139 => ?_)
        obtain ⟨hM138, fM138, h140⟩ := h139
        have u141t := fun h1 h2 => ex_tr (M := M0) (N := M131) (P := M138) (r1 := 0) (e1 := 1) (r2 := 0) (e2 := 1) (r := 0) (e := 2) (by decide) h1 h2
        have u141n := INV.rd hM138 (i := 102) (c := 48) (k := 280) rfl rfl
        refine j_aload_n C 0 0 dX12_readBoth_19 rfl rfl ?_
        refine y_sipush C dX12_readBoth_20 rfl ?_
        refine j_callVv C (d := 0) (As := [.int (sI 3007)]) (st := []) 98 (s_lt rfl rfl) (s_kc (c := 11) rfl rfl) (by decide) rfl (s1_X12_codes hM138 hpr 3007 (by omega) (by omega) (by omega)) gX12_readBoth_X12_codes rfl hdX12_codes (by decide) (Nat.le_of_ble_eq_true rfl) dX12_readBoth_23 rfl (fun M143 h144 => ?_)
        obtain ⟨hM143, fM143, h145⟩ := h144
        refine j_goto C 5 dX12_readBoth_26 (by decide) ?_
        have u146n := INV.rd hM143 (i := 102) (c := 48) (k := 280) rfl rfl
        have u146p := fun h => ap_bin (M := M138) (N := M143) (c := 3007) (by omega) h
        have u146t := fun h1 h2 => ex_tr (M := M0) (N := M138) (P := M143) (r1 := 0) (e1 := 2) (r2 := 2) (e2 := (-1)) (r := 0) (e := 1) (by decide) h1 h2
        have zz98_9 : (M143.1 98 9).toInt = (M138.1 98 9).toInt := s_fF fM143 (by decide) (rfl); have zz98_8 : (M143.1 98 8).toInt = (M138.1 98 8).toInt := s_fF fM143 (by decide) (rfl); have zz98_7 : (M143.1 98 7).toInt = (M138.1 98 7).toInt := s_fF fM143 (by decide) (rfl); have zz98_6 : (M143.1 98 6).toInt = (M138.1 98 6).toInt := s_fF fM143 (by decide) (rfl); have zz98_11 : (M143.1 98 11).toInt = (M138.1 98 11).toInt := s_fF fM143 (by decide) (rfl); exact ih126 M143 (by omega) hM143 ((((FR.rf.tr fM128 (by decide)).tr fM131 (by decide)).tr fM138 (by decide)).tr fM143 (by decide))
  exact L127 2010 M103 (by omega) hM103 (FR.rf.tr fM103 (by decide))
set_option maxHeartbeats 4000000 in
theorem s2_X12_readTruth {l : Launch} {dC : Nat → ClassId} {dI : Nat → Nat → Nat} {ad : Nat → Nat} {cA : Nat → ClassId} {pr : Nat → Nat → Bool} {Kz : mm_M} {M0 : mm_M} (hM0 : INV pr Kz M0) (hpr : PM pr)  (hp0 : (M0.1 98 6).toInt ≤ (M0.1 98 7).toInt ∧ (M0.1 98 7).toInt ≤ (M0.1 98 8).toInt ∧ (M0.1 98 8).toInt ≤ 900 ∧ ((M0.1 98 9).toInt = 24 ∨ (M0.1 98 6).toInt < (M0.1 98 7).toInt)) (hp1 : ¬ (M0.1 98 11).toInt = 0 ∨ (M0.1 102 280).toInt ≤ (M0.1 98 6).toInt) (hp2 : 0 ≤ (M0.1 102 280).toInt) (hp3 : b01 (PI M0) = 1) : Cv l 15 yX12_readTruth wsX12_readTruth dC dI ad cA [.ref (ad 98), .int (sI 5)] M0 (fun M' => INV pr Kz M' ∧ FR [98, 102] M0 M' ∧ ((M'.1 98 6).toInt ≤ (M'.1 98 7).toInt ∧ (M'.1 98 7).toInt ≤ (M'.1 98 8).toInt ∧ (M'.1 98 8).toInt ≤ 900 ∧ ((M'.1 98 9).toInt = 24 ∨ (M'.1 98 6).toInt < (M'.1 98 7).toInt)) ∧ ((M'.1 98 8).toInt = (M0.1 98 8).toInt) ∧ ((M0.1 98 6).toInt ≤ (M'.1 98 6).toInt) ∧ (0 ≤ (M'.1 102 280).toInt) ∧ (¬ (M'.1 98 11).toInt = 0 ∨ (M0.1 98 11).toInt = 0 ∧ (M'.1 102 280).toInt - (M'.1 98 6).toInt + 0 ≤ (M0.1 102 280).toInt - (M0.1 98 6).toInt ∧ (M0.1 102 280).toInt ≤ (M'.1 102 280).toInt ∧ b01 (EXT M0 M' 0 1) = 1) ∧ (b01 (PI M') = 1)) := by
  refine cv_of (cc := cX12_readTruth) (maxL := 2) (lv := [(0, .ref (ad 98)), (1, .int (sI 5))]) (by decide) rfl (Nat.le_of_ble_eq_true rfl) rfl ?_
  intro p e s m args below meth c A Q C hret
  have u101z := ex_0 M0
  have u101n := INV.rd hM0 (i := 102) (c := 48) (k := 280) rfl rfl
  refine j_aload_n C 0 0 dX12_readTruth_0 rfl rfl ?_
  refine j_iload_n C 1 1 dX12_readTruth_1 rfl rfl ?_
  refine j_callVv C (d := 14) (As := [.int (sI 5)]) (st := []) 98 (s_lt rfl rfl) (s_kc (c := 11) rfl rfl) (by decide) rfl (s2_X12_readBoth hM0 hpr (by omega) (by omega) (by omega) (by omega)) gX12_readTruth_X12_readBoth rfl hdX12_readBoth (by decide) (Nat.le_of_ble_eq_true rfl) dX12_readTruth_2 rfl (fun M103 h104 => ?_)
  obtain ⟨hM103, fM103, h105⟩ := h104
  have u106t := fun h1 h2 => ex_tr (M := M0) (N := M0) (P := M103) (r1 := 0) (e1 := 0) (r2 := 0) (e2 := 1) (r := 0) (e := 1) (by decide) h1 h2
  have u106n := INV.rd hM103 (i := 102) (c := 48) (k := 280) rfl rfl
  have L127 : ∀ (n125 : Nat), ∀ (M128 : mm_M), (((M128.1 98 6).toInt ≤ (M128.1 98 7).toInt ∧ (M128.1 98 7).toInt ≤ (M128.1 98 8).toInt ∧ (M128.1 98 8).toInt ≤ 900 ∧ ((M128.1 98 9).toInt = 24 ∨ (M128.1 98 6).toInt < (M128.1 98 7).toInt)) ∧ ((M128.1 98 8).toInt = (M0.1 98 8).toInt) ∧ ((M0.1 98 6).toInt ≤ (M128.1 98 6).toInt) ∧ (0 ≤ (M128.1 102 280).toInt) ∧ (¬ (M128.1 98 11).toInt = 0 ∨ (M0.1 98 11).toInt = 0 ∧ (M128.1 102 280).toInt - (M128.1 98 6).toInt + 0 ≤ (M0.1 102 280).toInt - (M0.1 98 6).toInt ∧ (M0.1 102 280).toInt ≤ (M128.1 102 280).toInt ∧ b01 (EXT M0 M128 0 1) = 1) ∧ (b01 (PI M128) = 1) ∧ (900 - (M128.1 98 6).toInt) < (n125 : Int)) → INV pr Kz M128 → FR [98, 102] M0 M128 → jj p l e (cn_R 15) s m args below meth c 0 0 Q 2 dC dI ad cA A M128 5 [(0, .ref (ad 98)), (1, .int (sI 5))] [] := by
    intro n125
    induction n125 with
    | zero =>
      intro M128 h129 hM128 fM128
      exfalso; omega
    | succ n125 ih126 =>
      intro M128 h129 hM128 fM128
      refine j_aload_n C 0 0 dX12_readTruth_5 rfl rfl ?_
      refine y_bipush C dX12_readTruth_6 rfl ?_
      refine j_callVi C (d := 6) (As := [.int (sI 15)]) (st := []) 98 (s_lt rfl rfl) (s_kc (c := 11) rfl rfl) (by decide) rfl (s1_X12_eats hM128 hpr 15 (by omega) (by omega) (by omega) (by omega)) gX12_readTruth_X12_eats rfl hdX12_eats (by decide) (Nat.le_of_ble_eq_true rfl) dX12_readTruth_8 rfl (fun r130 M131 h132 => ?_)
      obtain ⟨a134, rfl, hM131, fM131, h133⟩ := h132
      have u135c := fun h => ex_c (M := M0) (N := M128) (P := M131) (r := 0) (e := 1) (FR.cell fM131 (by decide)) h
      have u135n := INV.rd hM131 (i := 102) (c := 48) (k := 280) rfl rfl
      refine y_if_eq C 29 dX12_readTruth_11 (by decide) (by omega) (fun h136 => ?_) (fun h136 => ?_)
      · have u147c := fun h => ex_c (M := M0) (N := M128) (P := M131) (r := 0) (e := 1) (FR.cell fM131 (by decide)) h
        have u147d := fun h => ex_c (M := M0) (N := M128) (P := M131) (r := 0) (e := 0) (FR.cell fM131 (by decide)) h
        have u147n := INV.rd hM131 (i := 102) (c := 48) (k := 280) rfl rfl
        have zz102_280 : (M131.1 102 280).toInt = (M128.1 102 280).toInt := s_fF fM131 (by decide) (rfl); exact hret _ _ _ dX12_readTruth_29 ⟨hM131, ((FR.rf.tr fM128 (by decide)).tr fM131 (by decide)), by omega⟩
      · refine j_aload_n C 0 0 dX12_readTruth_14 rfl rfl ?_
        refine j_iload_n C 1 1 dX12_readTruth_15 rfl rfl ?_
        refine j_callVv C (d := 14) (As := [.int (sI 5)]) (st := []) 98 (s_lt rfl rfl) (s_kc (c := 11) rfl rfl) (by decide) rfl (s2_X12_readBoth hM131 hpr (by omega) (by omega) (by omega) (by omega)) gX12_readTruth_X12_readBoth rfl hdX12_readBoth (by decide) (Nat.le_of_ble_eq_true rfl) dX12_readTruth_16 rfl (fun M138 h139 => ?_)
        obtain ⟨hM138, fM138, h140⟩ := h139
        have u141t := fun h1 h2 => ex_tr (M := M0) (N := M131) (P := M138) (r1 := 0) (e1 := 1) (r2 := 0) (e2 := 1) (r := 0) (e := 2) (by decide) h1 h2
        have u141n := INV.rd hM138 (i := 102) (c := 48) (k := 280) rfl rfl
        refine j_aload_n C 0 0 dX12_readTruth_19 rfl rfl ?_
        refine y_sipush C dX12_readTruth_20 rfl ?_
        refine j_callVv C (d := 0) (As := [.int (sI 3008)]) (st := []) 98 (s_lt rfl rfl) (s_kc (c := 11) rfl rfl) (by decide) rfl (s1_X12_codes hM138 hpr 3008 (by omega) (by omega) (by omega)) gX12_readTruth_X12_codes rfl hdX12_codes (by decide) (Nat.le_of_ble_eq_true rfl) dX12_readTruth_23 rfl (fun M143 h144 => ?_)
        obtain ⟨hM143, fM143, h145⟩ := h144
        refine j_goto C 5 dX12_readTruth_26 (by decide) ?_
        have u146n := INV.rd hM143 (i := 102) (c := 48) (k := 280) rfl rfl
        have u146p := fun h => ap_bin (M := M138) (N := M143) (c := 3008) (by omega) h
        have u146t := fun h1 h2 => ex_tr (M := M0) (N := M138) (P := M143) (r1 := 0) (e1 := 2) (r2 := 2) (e2 := (-1)) (r := 0) (e := 1) (by decide) h1 h2
        have zz98_9 : (M143.1 98 9).toInt = (M138.1 98 9).toInt := s_fF fM143 (by decide) (rfl); have zz98_8 : (M143.1 98 8).toInt = (M138.1 98 8).toInt := s_fF fM143 (by decide) (rfl); have zz98_7 : (M143.1 98 7).toInt = (M138.1 98 7).toInt := s_fF fM143 (by decide) (rfl); have zz98_6 : (M143.1 98 6).toInt = (M138.1 98 6).toInt := s_fF fM143 (by decide) (rfl); have zz98_11 : (M143.1 98 11).toInt = (M138.1 98 11).toInt := s_fF fM143 (by decide) (rfl); exact ih126 M143 (by omega) hM143 ((((FR.rf.tr fM128 (by decide)).tr fM131 (by decide)).tr fM138 (by decide)).tr fM143 (by decide))
  exact L127 2010 M103 (by omega) hM103 (FR.rf.tr fM103 (by decide))
set_option maxHeartbeats 4000000 in
theorem s3_X12_readUnit {l : Launch} {dC : Nat → ClassId} {dI : Nat → Nat → Nat} {ad : Nat → Nat} {cA : Nat → ClassId} {pr : Nat → Nat → Bool} {Kz : mm_M} {M0 : mm_M} (hM0 : INV pr Kz M0) (hpr : PM pr)  (hp0 : (M0.1 98 6).toInt ≤ (M0.1 98 7).toInt ∧ (M0.1 98 7).toInt ≤ (M0.1 98 8).toInt ∧ (M0.1 98 8).toInt ≤ 900 ∧ ((M0.1 98 9).toInt = 24 ∨ (M0.1 98 6).toInt < (M0.1 98 7).toInt)) (hp1 : ¬ (M0.1 98 11).toInt = 0 ∨ (M0.1 102 280).toInt ≤ (M0.1 98 6).toInt) (hp2 : 0 ≤ (M0.1 102 280).toInt) (hp3 : b01 (PI M0) = 1) : Cv l 16 yX12_readUnit wsX12_readUnit dC dI ad cA [.ref (ad 98), .int (sI 4)] M0 (fun M' => INV pr Kz M' ∧ FR [98, 102] M0 M' ∧ ((M'.1 98 6).toInt ≤ (M'.1 98 7).toInt ∧ (M'.1 98 7).toInt ≤ (M'.1 98 8).toInt ∧ (M'.1 98 8).toInt ≤ 900 ∧ ((M'.1 98 9).toInt = 24 ∨ (M'.1 98 6).toInt < (M'.1 98 7).toInt)) ∧ ((M'.1 98 8).toInt = (M0.1 98 8).toInt) ∧ ((M0.1 98 6).toInt ≤ (M'.1 98 6).toInt) ∧ (0 ≤ (M'.1 102 280).toInt) ∧ (¬ (M'.1 98 11).toInt = 0 ∨ (M0.1 98 11).toInt = 0 ∧ (M'.1 102 280).toInt - (M'.1 98 6).toInt + 0 ≤ (M0.1 102 280).toInt - (M0.1 98 6).toInt ∧ (M0.1 102 280).toInt ≤ (M'.1 102 280).toInt ∧ b01 (EXT M0 M' 0 1) = 1) ∧ (b01 (PI M') = 1)) := by
  refine cv_of (cc := cX12_readUnit) (maxL := 3) (lv := [(0, .ref (ad 98)), (1, .int (sI 4))]) (by decide) rfl (Nat.le_of_ble_eq_true rfl) rfl ?_
  intro p e s m args below meth c A Q C hret
  have u101z := ex_0 M0
  have u101n := INV.rd hM0 (i := 102) (c := 48) (k := 280) rfl rfl
  refine j_aload_n C 0 0 dX12_readUnit_0 rfl rfl ?_
  refine y_bipush C dX12_readUnit_1 rfl ?_
  refine j_callVi C (d := 0) (As := [.int (sI 16)]) (st := []) 98 (s_lt rfl rfl) (s_kc (c := 11) rfl rfl) (by decide) rfl (s1_X12_is hM0 16 (by omega)) gX12_readUnit_X12_is rfl hdX12_is (by decide) (Nat.le_of_ble_eq_true rfl) dX12_readUnit_3 rfl (fun r102 M103 h104 => ?_)
  obtain ⟨a106, rfl, rfl, h105⟩ := h104
  refine y_if_eq C 33 dX12_readUnit_6 (by decide) (by omega) (fun h107 => ?_) (fun h107 => ?_)
  · refine j_aload_n C 0 0 dX12_readUnit_33 rfl rfl ?_
    refine y_bipush C dX12_readUnit_34 rfl ?_
    refine j_callVi C (d := 0) (As := [.int (sI 37)]) (st := []) 98 (s_lt rfl rfl) (s_kc (c := 11) rfl rfl) (by decide) rfl (s1_X12_is hM0 37 (by omega)) gX12_readUnit_X12_is rfl hdX12_is (by decide) (Nat.le_of_ble_eq_true rfl) dX12_readUnit_36 rfl (fun r108 M109 h110 => ?_)
    obtain ⟨a112, rfl, rfl, h111⟩ := h110
    refine y_if_eq C 73 dX12_readUnit_39 (by decide) (by omega) (fun h113 => ?_) (fun h113 => ?_)
    · refine j_aload_n C 0 0 dX12_readUnit_73 rfl rfl ?_
      refine j_iload_n C 1 1 dX12_readUnit_74 rfl rfl ?_
      refine j_callVv C (d := 15) (As := [.int (sI 4)]) (st := []) 98 (s_lt rfl rfl) (s_kc (c := 11) rfl rfl) (by decide) rfl (s3_X12_readSum hM0 hpr (by omega) (by omega) (by omega) (by omega)) gX12_readUnit_X12_readSum rfl hdX12_readSum (by decide) (Nat.le_of_ble_eq_true rfl) dX12_readUnit_75 rfl (fun M115 h116 => ?_)
      obtain ⟨hM115, fM115, h117⟩ := h116
      have u118t := fun h1 h2 => ex_tr (M := M0) (N := M0) (P := M115) (r1 := 0) (e1 := 0) (r2 := 0) (e2 := 1) (r := 0) (e := 1) (by decide) h1 h2
      have u118n := INV.rd hM115 (i := 102) (c := 48) (k := 280) rfl rfl
      refine j_aload_n C 0 0 dX12_readUnit_78 rfl rfl ?_
      refine y_bipush C dX12_readUnit_79 rfl ?_
      refine j_callVi C (d := 0) (As := [.int (sI 39)]) (st := []) 98 (s_lt rfl rfl) (s_kc (c := 11) rfl rfl) (by decide) rfl (s1_X12_is hM115 39 (by omega)) gX12_readUnit_X12_is rfl hdX12_is (by decide) (Nat.le_of_ble_eq_true rfl) dX12_readUnit_81 rfl (fun r119 M120 h121 => ?_)
      obtain ⟨a123, rfl, rfl, h122⟩ := h121
      have J132 : ∀ (a131 : Int), (3003 ≤ a131 ∧ a131 ≤ 3005) → jj p l e (cn_R 16) s m args below meth c 0 0 Q 3 dC dI ad cA A M115 111 [(0, .ref (ad 98)), (1, .int (sI 4))] [.int (sI a131)] := by
        intro a131 h133
        refine j_istore_n C 2 [(2, .int (sI a131)), (0, .ref (ad 98)), (1, .int (sI 4))] dX12_readUnit_111 rfl (by decide) rfl ?_
        refine j_aload_n C 1 0 dX12_readUnit_112 rfl rfl ?_
        refine y_bipush C dX12_readUnit_113 rfl ?_
        refine j_callVi C (d := 0) (As := [.int (sI 39)]) (st := []) 98 (s_lt rfl rfl) (s_kc (c := 11) rfl rfl) (by decide) rfl (s1_X12_is hM115 39 (by omega)) gX12_readUnit_X12_is rfl hdX12_is (by decide) (Nat.le_of_ble_eq_true rfl) dX12_readUnit_115 rfl (fun r134 M135 h136 => ?_)
        obtain ⟨a138, rfl, rfl, h137⟩ := h136
        have J173 : ∀ (M172 : mm_M), (((M172.1 98 6).toInt ≤ (M172.1 98 7).toInt ∧ (M172.1 98 7).toInt ≤ (M172.1 98 8).toInt ∧ (M172.1 98 8).toInt ≤ 900 ∧ ((M172.1 98 9).toInt = 24 ∨ (M172.1 98 6).toInt < (M172.1 98 7).toInt)) ∧ ((M172.1 98 8).toInt = (M0.1 98 8).toInt) ∧ ((M0.1 98 6).toInt ≤ (M172.1 98 6).toInt) ∧ (0 ≤ (M172.1 102 280).toInt) ∧ (¬ (M172.1 98 11).toInt = 0 ∨ (M0.1 98 11).toInt = 0 ∧ (M172.1 102 280).toInt - (M172.1 98 6).toInt + 1 ≤ (M0.1 102 280).toInt - (M0.1 98 6).toInt ∧ (M0.1 102 280).toInt ≤ (M172.1 102 280).toInt ∧ b01 (EXT M0 M172 0 1) = 1) ∧ (b01 (PI M172) = 1)) → INV pr Kz M172 → FR [98, 102] M0 M172 → jj p l e (cn_R 16) s m args below meth c 0 0 Q 3 dC dI ad cA A M172 151 [(0, .ref (ad 98)), (1, .int (sI 4)), (2, .int (sI a131))] [] := by
          intro M172 h174 hM172 fM172
          have u175c := fun h => ex_c (M := M0) (N := M0) (P := M172) (r := 0) (e := 1) (FR.cell fM172 (by decide)) h
          have u175n := INV.rd hM172 (i := 102) (c := 48) (k := 280) rfl rfl
          refine j_aload_n C 0 0 dX12_readUnit_151 rfl rfl ?_
          refine j_iload_n C 1 1 dX12_readUnit_152 rfl rfl ?_
          refine j_callVv C (d := 15) (As := [.int (sI 4)]) (st := []) 98 (s_lt rfl rfl) (s_kc (c := 11) rfl rfl) (by decide) rfl (s3_X12_readSum hM172 hpr (by omega) (by omega) (by omega) (by omega)) gX12_readUnit_X12_readSum rfl hdX12_readSum (by decide) (Nat.le_of_ble_eq_true rfl) dX12_readUnit_153 rfl (fun M177 h178 => ?_)
          obtain ⟨hM177, fM177, h179⟩ := h178
          have u180t := fun h1 h2 => ex_tr (M := M0) (N := M172) (P := M177) (r1 := 0) (e1 := 1) (r2 := 0) (e2 := 1) (r := 0) (e := 2) (by decide) h1 h2
          have u180n := INV.rd hM177 (i := 102) (c := 48) (k := 280) rfl rfl
          refine j_aload_n C 0 0 dX12_readUnit_156 rfl rfl ?_
          refine j_iload_n C 2 2 dX12_readUnit_157 rfl rfl ?_
          refine j_callVv C (d := 0) (As := [.int (sI a131)]) (st := []) 98 (s_lt rfl rfl) (s_kc (c := 11) rfl rfl) (by decide) rfl (s1_X12_codes hM177 hpr a131 (by omega) (by omega) (by omega)) gX12_readUnit_X12_codes rfl hdX12_codes (by decide) (Nat.le_of_ble_eq_true rfl) dX12_readUnit_158 rfl (fun M182 h183 => ?_)
          obtain ⟨hM182, fM182, h184⟩ := h183
          have u185n := INV.rd hM182 (i := 102) (c := 48) (k := 280) rfl rfl
          have u185p := fun h => ap_bin (M := M177) (N := M182) (c := a131) (by omega) h
          have u185t := fun h1 h2 => ex_tr (M := M0) (N := M177) (P := M182) (r1 := 0) (e1 := 2) (r2 := 2) (e2 := (-1)) (r := 0) (e := 1) (by decide) h1 h2
          have u186n := INV.rd hM182 (i := 102) (c := 48) (k := 280) rfl rfl
          have zz98_11 : (M182.1 98 11).toInt = (M177.1 98 11).toInt := s_fF fM182 (by decide) (rfl); have zz98_6 : (M182.1 98 6).toInt = (M177.1 98 6).toInt := s_fF fM182 (by decide) (rfl); have zz98_7 : (M182.1 98 7).toInt = (M177.1 98 7).toInt := s_fF fM182 (by decide) (rfl); have zz98_8 : (M182.1 98 8).toInt = (M177.1 98 8).toInt := s_fF fM182 (by decide) (rfl); have zz98_9 : (M182.1 98 9).toInt = (M177.1 98 9).toInt := s_fF fM182 (by decide) (rfl); exact hret _ _ _ dX12_readUnit_161 ⟨hM182, (((FR.rf.tr fM172 (by decide)).tr fM177 (by decide)).tr fM182 (by decide)), by omega⟩
        refine y_if_ne C 139 dX12_readUnit_118 (by decide) (by omega) (fun h139 => ?_) (fun h139 => ?_)
        · refine j_aload_n C 1 0 dX12_readUnit_139 rfl rfl ?_
          refine j_callVv C (d := 5) (As := []) (st := []) 98 (s_lt rfl rfl) (s_kc (c := 11) rfl rfl) (by decide) rfl (s1_X12_next hM115 hpr (by omega) (by omega) (by omega)) gX12_readUnit_X12_next rfl hdX12_next (by decide) (Nat.le_of_ble_eq_true rfl) dX12_readUnit_140 rfl (fun M141 h142 => ?_)
          obtain ⟨hM141, fM141, h143⟩ := h142
          refine j_goto C 151 dX12_readUnit_143 (by decide) ?_
          have u144c := fun h => ex_c (M := M0) (N := M115) (P := M141) (r := 0) (e := 1) (FR.cell fM141 (by decide)) h
          have u144n := INV.rd hM141 (i := 102) (c := 48) (k := 280) rfl rfl
          have zz102_280 : (M141.1 102 280).toInt = (M115.1 102 280).toInt := s_fF fM141 (by decide) (rfl); refine j_lv [1, 2, 0] rfl ?_; exact J173 M141 (by omega) hM141 ((FR.rf.tr fM115 (by decide)).tr fM141 (by decide))
        · refine j_aload_n C 1 0 dX12_readUnit_121 rfl rfl ?_
          refine y_bipush C dX12_readUnit_122 rfl ?_
          refine j_callVi C (d := 0) (As := [.int (sI 40)]) (st := []) 98 (s_lt rfl rfl) (s_kc (c := 11) rfl rfl) (by decide) rfl (s1_X12_is hM115 40 (by omega)) gX12_readUnit_X12_is rfl hdX12_is (by decide) (Nat.le_of_ble_eq_true rfl) dX12_readUnit_124 rfl (fun r145 M146 h147 => ?_)
          obtain ⟨a149, rfl, rfl, h148⟩ := h147
          refine y_if_ne C 139 dX12_readUnit_127 (by decide) (by omega) (fun h150 => ?_) (fun h150 => ?_)
          · refine j_aload_n C 1 0 dX12_readUnit_139 rfl rfl ?_
            refine j_callVv C (d := 5) (As := []) (st := []) 98 (s_lt rfl rfl) (s_kc (c := 11) rfl rfl) (by decide) rfl (s1_X12_next hM115 hpr (by omega) (by omega) (by omega)) gX12_readUnit_X12_next rfl hdX12_next (by decide) (Nat.le_of_ble_eq_true rfl) dX12_readUnit_140 rfl (fun M152 h153 => ?_)
            obtain ⟨hM152, fM152, h154⟩ := h153
            refine j_goto C 151 dX12_readUnit_143 (by decide) ?_
            have u155c := fun h => ex_c (M := M0) (N := M115) (P := M152) (r := 0) (e := 1) (FR.cell fM152 (by decide)) h
            have u155n := INV.rd hM152 (i := 102) (c := 48) (k := 280) rfl rfl
            have zz102_280 : (M152.1 102 280).toInt = (M115.1 102 280).toInt := s_fF fM152 (by decide) (rfl); refine j_lv [1, 2, 0] rfl ?_; exact J173 M152 (by omega) hM152 ((FR.rf.tr fM115 (by decide)).tr fM152 (by decide))
          · refine j_aload_n C 1 0 dX12_readUnit_130 rfl rfl ?_
            refine y_bipush C dX12_readUnit_131 rfl ?_
            refine j_callVi C (d := 0) (As := [.int (sI 41)]) (st := []) 98 (s_lt rfl rfl) (s_kc (c := 11) rfl rfl) (by decide) rfl (s1_X12_is hM115 41 (by omega)) gX12_readUnit_X12_is rfl hdX12_is (by decide) (Nat.le_of_ble_eq_true rfl) dX12_readUnit_133 rfl (fun r156 M157 h158 => ?_)
            obtain ⟨a160, rfl, rfl, h159⟩ := h158
            refine y_if_eq C 146 dX12_readUnit_136 (by decide) (by omega) (fun h161 => ?_) (fun h161 => ?_)
            · refine j_aload_n C 1 0 dX12_readUnit_146 rfl rfl ?_
              refine y_iconst C dX12_readUnit_147 ?_
              refine j_callVv C (d := 0) (As := [.int (sI 2)]) (st := []) 98 (s_lt rfl rfl) (s_kc (c := 11) rfl rfl) (by decide) rfl (s1_X12_fails hM115 hpr 2 (by omega) (by omega) (by omega)) gX12_readUnit_X12_fails rfl hdX12_fails (by decide) (Nat.le_of_ble_eq_true rfl) dX12_readUnit_148 rfl (fun M163 h164 => ?_)
              obtain ⟨hM163, fM163, h165⟩ := h164
              have u166c := fun h => ex_c (M := M0) (N := M115) (P := M163) (r := 0) (e := 1) (FR.cell fM163 (by decide)) h
              have u166n := INV.rd hM163 (i := 102) (c := 48) (k := 280) rfl rfl
              have zz102_280 : (M163.1 102 280).toInt = (M115.1 102 280).toInt := s_fF fM163 (by decide) (rfl); refine j_lv [1, 2, 0] rfl ?_; exact J173 M163 (by omega) hM163 ((FR.rf.tr fM115 (by decide)).tr fM163 (by decide))
            · refine j_aload_n C 1 0 dX12_readUnit_139 rfl rfl ?_
              refine j_callVv C (d := 5) (As := []) (st := []) 98 (s_lt rfl rfl) (s_kc (c := 11) rfl rfl) (by decide) rfl (s1_X12_next hM115 hpr (by omega) (by omega) (by omega)) gX12_readUnit_X12_next rfl hdX12_next (by decide) (Nat.le_of_ble_eq_true rfl) dX12_readUnit_140 rfl (fun M168 h169 => ?_)
              obtain ⟨hM168, fM168, h170⟩ := h169
              refine j_goto C 151 dX12_readUnit_143 (by decide) ?_
              have u171c := fun h => ex_c (M := M0) (N := M115) (P := M168) (r := 0) (e := 1) (FR.cell fM168 (by decide)) h
              have u171n := INV.rd hM168 (i := 102) (c := 48) (k := 280) rfl rfl
              have zz102_280 : (M168.1 102 280).toInt = (M115.1 102 280).toInt := s_fF fM168 (by decide) (rfl); refine j_lv [1, 2, 0] rfl ?_; exact J173 M168 (by omega) hM168 ((FR.rf.tr fM115 (by decide)).tr fM168 (by decide))
      refine y_if_eq C 93 dX12_readUnit_84 (by decide) (by omega) (fun h124 => ?_) (fun h124 => ?_)
      · refine j_aload_n C 0 0 dX12_readUnit_93 rfl rfl ?_
        refine y_bipush C dX12_readUnit_94 rfl ?_
        refine j_callVi C (d := 0) (As := [.int (sI 40)]) (st := []) 98 (s_lt rfl rfl) (s_kc (c := 11) rfl rfl) (by decide) rfl (s1_X12_is hM115 40 (by omega)) gX12_readUnit_X12_is rfl hdX12_is (by decide) (Nat.le_of_ble_eq_true rfl) dX12_readUnit_96 rfl (fun r125 M126 h127 => ?_)
        obtain ⟨a129, rfl, rfl, h128⟩ := h127
        refine y_if_eq C 108 dX12_readUnit_99 (by decide) (by omega) (fun h130 => ?_) (fun h130 => ?_)
        · refine y_sipush C dX12_readUnit_108 rfl ?_
          exact J132 3005 (by omega)
        · refine y_sipush C dX12_readUnit_102 rfl ?_
          refine j_goto C 111 dX12_readUnit_105 (by decide) ?_
          exact J132 3004 (by omega)
      · refine y_sipush C dX12_readUnit_87 rfl ?_
        refine j_goto C 111 dX12_readUnit_90 (by decide) ?_
        exact J132 3003 (by omega)
    · refine j_aload_n C 0 0 dX12_readUnit_42 rfl rfl ?_
      refine j_iload_n C 1 1 dX12_readUnit_43 rfl rfl ?_
      refine j_callVi C (d := 6) (As := [.int (sI 4)]) (st := []) 98 (s_lt rfl rfl) (s_kc (c := 11) rfl rfl) (by decide) rfl (s5_X12_goesIn hM0 hpr (by omega) (by omega)) gX12_readUnit_X12_goesIn rfl hdX12_goesIn (by decide) (Nat.le_of_ble_eq_true rfl) dX12_readUnit_44 rfl (fun r187 M188 h189 => ?_)
      obtain ⟨a191, rfl, hM188, fM188, h190⟩ := h189
      have u192c := fun h => ex_c (M := M0) (N := M0) (P := M188) (r := 0) (e := 0) (FR.cell fM188 (by decide)) h
      have u192n := INV.rd hM188 (i := 102) (c := 48) (k := 280) rfl rfl
      refine y_if_ne C 51 dX12_readUnit_47 (by decide) (by omega) (fun h193 => ?_) (fun h193 => ?_)
      · refine j_aload_n C 0 0 dX12_readUnit_51 rfl rfl ?_
        refine j_iload_n C 1 1 dX12_readUnit_52 rfl rfl ?_
        refine y_iconst C dX12_readUnit_53 ?_
        refine y_iadd C dX12_readUnit_54 ?_
        refine j_callVv C (d := 15) (As := [.int (sI (4 + 1))]) (st := []) 98 (s_lt rfl rfl) (s_kc (c := 11) rfl rfl) (by decide) rfl (s2_X12_readTruth hM188 hpr (by omega) (by omega) (by omega) (by omega)) gX12_readUnit_X12_readTruth rfl hdX12_readTruth (by decide) (Nat.le_of_ble_eq_true rfl) dX12_readUnit_55 rfl (fun M195 h196 => ?_)
        obtain ⟨hM195, fM195, h197⟩ := h196
        have u198t := fun h1 h2 => ex_tr (M := M0) (N := M188) (P := M195) (r1 := 0) (e1 := 0) (r2 := 0) (e2 := 1) (r := 0) (e := 1) (by decide) h1 h2
        have u198n := INV.rd hM195 (i := 102) (c := 48) (k := 280) rfl rfl
        refine j_aload_n C 0 0 dX12_readUnit_58 rfl rfl ?_
        refine y_bipush C dX12_readUnit_59 rfl ?_
        refine j_callVi C (d := 6) (As := [.int (sI 38)]) (st := []) 98 (s_lt rfl rfl) (s_kc (c := 11) rfl rfl) (by decide) rfl (s1_X12_eats hM195 hpr 38 (by omega) (by omega) (by omega) (by omega)) gX12_readUnit_X12_eats rfl hdX12_eats (by decide) (Nat.le_of_ble_eq_true rfl) dX12_readUnit_61 rfl (fun r199 M200 h201 => ?_)
        obtain ⟨a203, rfl, hM200, fM200, h202⟩ := h201
        have u204c := fun h => ex_c (M := M0) (N := M195) (P := M200) (r := 0) (e := 1) (FR.cell fM200 (by decide)) h
        have u204n := INV.rd hM200 (i := 102) (c := 48) (k := 280) rfl rfl
        refine y_if_ne C 72 dX12_readUnit_64 (by decide) (by omega) (fun h205 => ?_) (fun h205 => ?_)
        · have u206c := fun h => ex_c (M := M0) (N := M195) (P := M200) (r := 0) (e := 1) (FR.cell fM200 (by decide)) h
          have u206d := fun h => ex_c (M := M0) (N := M195) (P := M200) (r := 0) (e := 0) (FR.cell fM200 (by decide)) h
          have u206n := INV.rd hM200 (i := 102) (c := 48) (k := 280) rfl rfl
          have zz102_280 : (M200.1 102 280).toInt = (M195.1 102 280).toInt := s_fF fM200 (by decide) (rfl); exact hret _ _ _ dX12_readUnit_72 ⟨hM200, (((FR.rf.tr fM188 (by decide)).tr fM195 (by decide)).tr fM200 (by decide)), by omega⟩
        · refine j_aload_n C 0 0 dX12_readUnit_67 rfl rfl ?_
          refine y_iconst C dX12_readUnit_68 ?_
          refine j_callVv C (d := 0) (As := [.int (sI 2)]) (st := []) 98 (s_lt rfl rfl) (s_kc (c := 11) rfl rfl) (by decide) rfl (s1_X12_fails hM200 hpr 2 (by omega) (by omega) (by omega)) gX12_readUnit_X12_fails rfl hdX12_fails (by decide) (Nat.le_of_ble_eq_true rfl) dX12_readUnit_69 rfl (fun M208 h209 => ?_)
          obtain ⟨hM208, fM208, h210⟩ := h209
          have u211c := fun h => ex_c (M := M0) (N := M200) (P := M208) (r := 0) (e := 1) (FR.cell fM208 (by decide)) h
          have u211d := fun h => ex_c (M := M0) (N := M200) (P := M208) (r := 0) (e := 0) (FR.cell fM208 (by decide)) h
          have u211n := INV.rd hM208 (i := 102) (c := 48) (k := 280) rfl rfl
          have zz102_280 : (M208.1 102 280).toInt = (M195.1 102 280).toInt := s_fF fM200 (by decide) (s_fF fM208 (by decide) (rfl)); exact hret _ _ _ dX12_readUnit_72 ⟨hM208, ((((FR.rf.tr fM188 (by decide)).tr fM195 (by decide)).tr fM200 (by decide)).tr fM208 (by decide)), by omega⟩
      · have u212c := fun h => ex_c (M := M0) (N := M0) (P := M188) (r := 0) (e := 1) (FR.cell fM188 (by decide)) h
        have u212d := fun h => ex_c (M := M0) (N := M0) (P := M188) (r := 0) (e := 0) (FR.cell fM188 (by decide)) h
        have u212n := INV.rd hM188 (i := 102) (c := 48) (k := 280) rfl rfl
        have zz102_280 : (M188.1 102 280).toInt = (M0.1 102 280).toInt := s_fF fM188 (by decide) (rfl); exact hret _ _ _ dX12_readUnit_50 ⟨hM188, (FR.rf.tr fM188 (by decide)), by omega⟩
  · refine j_aload_n C 0 0 dX12_readUnit_9 rfl rfl ?_
    refine j_iload_n C 1 1 dX12_readUnit_10 rfl rfl ?_
    refine j_callVi C (d := 6) (As := [.int (sI 4)]) (st := []) 98 (s_lt rfl rfl) (s_kc (c := 11) rfl rfl) (by decide) rfl (s5_X12_goesIn hM0 hpr (by omega) (by omega)) gX12_readUnit_X12_goesIn rfl hdX12_goesIn (by decide) (Nat.le_of_ble_eq_true rfl) dX12_readUnit_11 rfl (fun r213 M214 h215 => ?_)
    obtain ⟨a217, rfl, hM214, fM214, h216⟩ := h215
    have u218c := fun h => ex_c (M := M0) (N := M0) (P := M214) (r := 0) (e := 0) (FR.cell fM214 (by decide)) h
    have u218n := INV.rd hM214 (i := 102) (c := 48) (k := 280) rfl rfl
    refine y_if_ne C 18 dX12_readUnit_14 (by decide) (by omega) (fun h219 => ?_) (fun h219 => ?_)
    · refine j_aload_n C 0 0 dX12_readUnit_18 rfl rfl ?_
      refine j_iload_n C 1 1 dX12_readUnit_19 rfl rfl ?_
      refine y_iconst C dX12_readUnit_20 ?_
      refine y_iadd C dX12_readUnit_21 ?_
      refine j_callVv C (d := 13) (As := [.int (sI (4 + 1))]) (st := []) 98 (s_lt rfl rfl) (s_kc (c := 11) rfl rfl) (by decide) rfl (s2_X12_readUnit hM214 hpr (by omega) (by omega) (by omega) (by omega)) gX12_readUnit_X12_readUnit rfl hdX12_readUnit (by decide) (Nat.le_of_ble_eq_true rfl) dX12_readUnit_22 rfl (fun M221 h222 => ?_)
      obtain ⟨hM221, fM221, h223⟩ := h222
      have u224t := fun h1 h2 => ex_tr (M := M0) (N := M214) (P := M221) (r1 := 0) (e1 := 0) (r2 := 0) (e2 := 1) (r := 0) (e := 1) (by decide) h1 h2
      have u224n := INV.rd hM221 (i := 102) (c := 48) (k := 280) rfl rfl
      refine j_aload_n C 0 0 dX12_readUnit_25 rfl rfl ?_
      refine y_sipush C dX12_readUnit_26 rfl ?_
      refine j_callVv C (d := 0) (As := [.int (sI 3006)]) (st := []) 98 (s_lt rfl rfl) (s_kc (c := 11) rfl rfl) (by decide) rfl (s1_X12_codes hM221 hpr 3006 (by omega) (by omega) (by omega)) gX12_readUnit_X12_codes rfl hdX12_codes (by decide) (Nat.le_of_ble_eq_true rfl) dX12_readUnit_29 rfl (fun M226 h227 => ?_)
      obtain ⟨hM226, fM226, h228⟩ := h227
      have u229n := INV.rd hM226 (i := 102) (c := 48) (k := 280) rfl rfl
      have u229p := fun h => ap_not (M := M221) (N := M226) (by omega) h
      have u229t := fun h1 h2 => ex_tr (M := M0) (N := M221) (P := M226) (r1 := 0) (e1 := 1) (r2 := 1) (e2 := 0) (r := 0) (e := 1) (by decide) h1 h2
      have u230n := INV.rd hM226 (i := 102) (c := 48) (k := 280) rfl rfl
      have zz98_11 : (M226.1 98 11).toInt = (M221.1 98 11).toInt := s_fF fM226 (by decide) (rfl); have zz98_6 : (M226.1 98 6).toInt = (M221.1 98 6).toInt := s_fF fM226 (by decide) (rfl); have zz98_7 : (M226.1 98 7).toInt = (M221.1 98 7).toInt := s_fF fM226 (by decide) (rfl); have zz98_8 : (M226.1 98 8).toInt = (M221.1 98 8).toInt := s_fF fM226 (by decide) (rfl); have zz98_9 : (M226.1 98 9).toInt = (M221.1 98 9).toInt := s_fF fM226 (by decide) (rfl); exact hret _ _ _ dX12_readUnit_32 ⟨hM226, (((FR.rf.tr fM214 (by decide)).tr fM221 (by decide)).tr fM226 (by decide)), by omega⟩
    · have u231c := fun h => ex_c (M := M0) (N := M0) (P := M214) (r := 0) (e := 1) (FR.cell fM214 (by decide)) h
      have u231d := fun h => ex_c (M := M0) (N := M0) (P := M214) (r := 0) (e := 0) (FR.cell fM214 (by decide)) h
      have u231n := INV.rd hM214 (i := 102) (c := 48) (k := 280) rfl rfl
      have zz102_280 : (M214.1 102 280).toInt = (M0.1 102 280).toInt := s_fF fM214 (by decide) (rfl); exact hret _ _ _ dX12_readUnit_17 ⟨hM214, (FR.rf.tr fM214 (by decide)), by omega⟩
set_option maxHeartbeats 4000000 in
theorem s3_X12_readBoth {l : Launch} {dC : Nat → ClassId} {dI : Nat → Nat → Nat} {ad : Nat → Nat} {cA : Nat → ClassId} {pr : Nat → Nat → Bool} {Kz : mm_M} {M0 : mm_M} (hM0 : INV pr Kz M0) (hpr : PM pr)  (hp0 : (M0.1 98 6).toInt ≤ (M0.1 98 7).toInt ∧ (M0.1 98 7).toInt ≤ (M0.1 98 8).toInt ∧ (M0.1 98 8).toInt ≤ 900 ∧ ((M0.1 98 9).toInt = 24 ∨ (M0.1 98 6).toInt < (M0.1 98 7).toInt)) (hp1 : ¬ (M0.1 98 11).toInt = 0 ∨ (M0.1 102 280).toInt ≤ (M0.1 98 6).toInt) (hp2 : 0 ≤ (M0.1 102 280).toInt) (hp3 : b01 (PI M0) = 1) : Cv l 17 yX12_readBoth wsX12_readBoth dC dI ad cA [.ref (ad 98), .int (sI 4)] M0 (fun M' => INV pr Kz M' ∧ FR [98, 102] M0 M' ∧ ((M'.1 98 6).toInt ≤ (M'.1 98 7).toInt ∧ (M'.1 98 7).toInt ≤ (M'.1 98 8).toInt ∧ (M'.1 98 8).toInt ≤ 900 ∧ ((M'.1 98 9).toInt = 24 ∨ (M'.1 98 6).toInt < (M'.1 98 7).toInt)) ∧ ((M'.1 98 8).toInt = (M0.1 98 8).toInt) ∧ ((M0.1 98 6).toInt ≤ (M'.1 98 6).toInt) ∧ (0 ≤ (M'.1 102 280).toInt) ∧ (¬ (M'.1 98 11).toInt = 0 ∨ (M0.1 98 11).toInt = 0 ∧ (M'.1 102 280).toInt - (M'.1 98 6).toInt + 0 ≤ (M0.1 102 280).toInt - (M0.1 98 6).toInt ∧ (M0.1 102 280).toInt ≤ (M'.1 102 280).toInt ∧ b01 (EXT M0 M' 0 1) = 1) ∧ (b01 (PI M') = 1)) := by
  refine cv_of (cc := cX12_readBoth) (maxL := 2) (lv := [(0, .ref (ad 98)), (1, .int (sI 4))]) (by decide) rfl (Nat.le_of_ble_eq_true rfl) rfl ?_
  intro p e s m args below meth c A Q C hret
  have u101z := ex_0 M0
  have u101n := INV.rd hM0 (i := 102) (c := 48) (k := 280) rfl rfl
  refine j_aload_n C 0 0 dX12_readBoth_0 rfl rfl ?_
  refine j_iload_n C 1 1 dX12_readBoth_1 rfl rfl ?_
  refine j_callVv C (d := 16) (As := [.int (sI 4)]) (st := []) 98 (s_lt rfl rfl) (s_kc (c := 11) rfl rfl) (by decide) rfl (s3_X12_readUnit hM0 hpr (by omega) (by omega) (by omega) (by omega)) gX12_readBoth_X12_readUnit rfl hdX12_readUnit (by decide) (Nat.le_of_ble_eq_true rfl) dX12_readBoth_2 rfl (fun M103 h104 => ?_)
  obtain ⟨hM103, fM103, h105⟩ := h104
  have u106t := fun h1 h2 => ex_tr (M := M0) (N := M0) (P := M103) (r1 := 0) (e1 := 0) (r2 := 0) (e2 := 1) (r := 0) (e := 1) (by decide) h1 h2
  have u106n := INV.rd hM103 (i := 102) (c := 48) (k := 280) rfl rfl
  have L127 : ∀ (n125 : Nat), ∀ (M128 : mm_M), (((M128.1 98 6).toInt ≤ (M128.1 98 7).toInt ∧ (M128.1 98 7).toInt ≤ (M128.1 98 8).toInt ∧ (M128.1 98 8).toInt ≤ 900 ∧ ((M128.1 98 9).toInt = 24 ∨ (M128.1 98 6).toInt < (M128.1 98 7).toInt)) ∧ ((M128.1 98 8).toInt = (M0.1 98 8).toInt) ∧ ((M0.1 98 6).toInt ≤ (M128.1 98 6).toInt) ∧ (0 ≤ (M128.1 102 280).toInt) ∧ (¬ (M128.1 98 11).toInt = 0 ∨ (M0.1 98 11).toInt = 0 ∧ (M128.1 102 280).toInt - (M128.1 98 6).toInt + 0 ≤ (M0.1 102 280).toInt - (M0.1 98 6).toInt ∧ (M0.1 102 280).toInt ≤ (M128.1 102 280).toInt ∧ b01 (EXT M0 M128 0 1) = 1) ∧ (b01 (PI M128) = 1) ∧ (900 - (M128.1 98 6).toInt) < (n125 : Int)) → INV pr Kz M128 → FR [98, 102] M0 M128 → jj p l e (cn_R 17) s m args below meth c 0 0 Q 2 dC dI ad cA A M128 5 [(0, .ref (ad 98)), (1, .int (sI 4))] [] := by
    intro n125
    induction n125 with
    | zero =>
      intro M128 h129 hM128 fM128
      exfalso; omega
    | succ n125 ih126 =>
      intro M128 h129 hM128 fM128
      refine j_aload_n C 0 0 dX12_readBoth_5 rfl rfl ?_
      refine y_bipush C dX12_readBoth_6 rfl ?_
      refine j_callVi C (d := 6) (As := [.int (sI 14)]) (st := []) 98 (s_lt rfl rfl) (s_kc (c := 11) rfl rfl) (by decide) rfl (s1_X12_eats hM128 hpr 14 (by omega) (by omega) (by omega) (by omega)) gX12_readBoth_X12_eats rfl hdX12_eats (by decide) (Nat.le_of_ble_eq_true rfl) dX12_readBoth_8 rfl (fun r130 M131 h132 => ?_)
      obtain ⟨a134, rfl, hM131, fM131, h133⟩ := h132
      have u135c := fun h => ex_c (M := M0) (N := M128) (P := M131) (r := 0) (e := 1) (FR.cell fM131 (by decide)) h
      have u135n := INV.rd hM131 (i := 102) (c := 48) (k := 280) rfl rfl
      refine y_if_eq C 29 dX12_readBoth_11 (by decide) (by omega) (fun h136 => ?_) (fun h136 => ?_)
      · have u147c := fun h => ex_c (M := M0) (N := M128) (P := M131) (r := 0) (e := 1) (FR.cell fM131 (by decide)) h
        have u147d := fun h => ex_c (M := M0) (N := M128) (P := M131) (r := 0) (e := 0) (FR.cell fM131 (by decide)) h
        have u147n := INV.rd hM131 (i := 102) (c := 48) (k := 280) rfl rfl
        have zz102_280 : (M131.1 102 280).toInt = (M128.1 102 280).toInt := s_fF fM131 (by decide) (rfl); exact hret _ _ _ dX12_readBoth_29 ⟨hM131, ((FR.rf.tr fM128 (by decide)).tr fM131 (by decide)), by omega⟩
      · refine j_aload_n C 0 0 dX12_readBoth_14 rfl rfl ?_
        refine j_iload_n C 1 1 dX12_readBoth_15 rfl rfl ?_
        refine j_callVv C (d := 16) (As := [.int (sI 4)]) (st := []) 98 (s_lt rfl rfl) (s_kc (c := 11) rfl rfl) (by decide) rfl (s3_X12_readUnit hM131 hpr (by omega) (by omega) (by omega) (by omega)) gX12_readBoth_X12_readUnit rfl hdX12_readUnit (by decide) (Nat.le_of_ble_eq_true rfl) dX12_readBoth_16 rfl (fun M138 h139 => ?_)
        obtain ⟨hM138, fM138, h140⟩ := h139
        have u141t := fun h1 h2 => ex_tr (M := M0) (N := M131) (P := M138) (r1 := 0) (e1 := 1) (r2 := 0) (e2 := 1) (r := 0) (e := 2) (by decide) h1 h2
        have u141n := INV.rd hM138 (i := 102) (c := 48) (k := 280) rfl rfl
        refine j_aload_n C 0 0 dX12_readBoth_19 rfl rfl ?_
        refine y_sipush C dX12_readBoth_20 rfl ?_
        refine j_callVv C (d := 0) (As := [.int (sI 3007)]) (st := []) 98 (s_lt rfl rfl) (s_kc (c := 11) rfl rfl) (by decide) rfl (s1_X12_codes hM138 hpr 3007 (by omega) (by omega) (by omega)) gX12_readBoth_X12_codes rfl hdX12_codes (by decide) (Nat.le_of_ble_eq_true rfl) dX12_readBoth_23 rfl (fun M143 h144 => ?_)
        obtain ⟨hM143, fM143, h145⟩ := h144
        refine j_goto C 5 dX12_readBoth_26 (by decide) ?_
        have u146n := INV.rd hM143 (i := 102) (c := 48) (k := 280) rfl rfl
        have u146p := fun h => ap_bin (M := M138) (N := M143) (c := 3007) (by omega) h
        have u146t := fun h1 h2 => ex_tr (M := M0) (N := M138) (P := M143) (r1 := 0) (e1 := 2) (r2 := 2) (e2 := (-1)) (r := 0) (e := 1) (by decide) h1 h2
        have zz98_9 : (M143.1 98 9).toInt = (M138.1 98 9).toInt := s_fF fM143 (by decide) (rfl); have zz98_8 : (M143.1 98 8).toInt = (M138.1 98 8).toInt := s_fF fM143 (by decide) (rfl); have zz98_7 : (M143.1 98 7).toInt = (M138.1 98 7).toInt := s_fF fM143 (by decide) (rfl); have zz98_6 : (M143.1 98 6).toInt = (M138.1 98 6).toInt := s_fF fM143 (by decide) (rfl); have zz98_11 : (M143.1 98 11).toInt = (M138.1 98 11).toInt := s_fF fM143 (by decide) (rfl); exact ih126 M143 (by omega) hM143 ((((FR.rf.tr fM128 (by decide)).tr fM131 (by decide)).tr fM138 (by decide)).tr fM143 (by decide))
  exact L127 2010 M103 (by omega) hM103 (FR.rf.tr fM103 (by decide))
set_option maxHeartbeats 4000000 in
theorem s3_X12_readTruth {l : Launch} {dC : Nat → ClassId} {dI : Nat → Nat → Nat} {ad : Nat → Nat} {cA : Nat → ClassId} {pr : Nat → Nat → Bool} {Kz : mm_M} {M0 : mm_M} (hM0 : INV pr Kz M0) (hpr : PM pr)  (hp0 : (M0.1 98 6).toInt ≤ (M0.1 98 7).toInt ∧ (M0.1 98 7).toInt ≤ (M0.1 98 8).toInt ∧ (M0.1 98 8).toInt ≤ 900 ∧ ((M0.1 98 9).toInt = 24 ∨ (M0.1 98 6).toInt < (M0.1 98 7).toInt)) (hp1 : ¬ (M0.1 98 11).toInt = 0 ∨ (M0.1 102 280).toInt ≤ (M0.1 98 6).toInt) (hp2 : 0 ≤ (M0.1 102 280).toInt) (hp3 : b01 (PI M0) = 1) : Cv l 18 yX12_readTruth wsX12_readTruth dC dI ad cA [.ref (ad 98), .int (sI 4)] M0 (fun M' => INV pr Kz M' ∧ FR [98, 102] M0 M' ∧ ((M'.1 98 6).toInt ≤ (M'.1 98 7).toInt ∧ (M'.1 98 7).toInt ≤ (M'.1 98 8).toInt ∧ (M'.1 98 8).toInt ≤ 900 ∧ ((M'.1 98 9).toInt = 24 ∨ (M'.1 98 6).toInt < (M'.1 98 7).toInt)) ∧ ((M'.1 98 8).toInt = (M0.1 98 8).toInt) ∧ ((M0.1 98 6).toInt ≤ (M'.1 98 6).toInt) ∧ (0 ≤ (M'.1 102 280).toInt) ∧ (¬ (M'.1 98 11).toInt = 0 ∨ (M0.1 98 11).toInt = 0 ∧ (M'.1 102 280).toInt - (M'.1 98 6).toInt + 0 ≤ (M0.1 102 280).toInt - (M0.1 98 6).toInt ∧ (M0.1 102 280).toInt ≤ (M'.1 102 280).toInt ∧ b01 (EXT M0 M' 0 1) = 1) ∧ (b01 (PI M') = 1)) := by
  refine cv_of (cc := cX12_readTruth) (maxL := 2) (lv := [(0, .ref (ad 98)), (1, .int (sI 4))]) (by decide) rfl (Nat.le_of_ble_eq_true rfl) rfl ?_
  intro p e s m args below meth c A Q C hret
  have u101z := ex_0 M0
  have u101n := INV.rd hM0 (i := 102) (c := 48) (k := 280) rfl rfl
  refine j_aload_n C 0 0 dX12_readTruth_0 rfl rfl ?_
  refine j_iload_n C 1 1 dX12_readTruth_1 rfl rfl ?_
  refine j_callVv C (d := 17) (As := [.int (sI 4)]) (st := []) 98 (s_lt rfl rfl) (s_kc (c := 11) rfl rfl) (by decide) rfl (s3_X12_readBoth hM0 hpr (by omega) (by omega) (by omega) (by omega)) gX12_readTruth_X12_readBoth rfl hdX12_readBoth (by decide) (Nat.le_of_ble_eq_true rfl) dX12_readTruth_2 rfl (fun M103 h104 => ?_)
  obtain ⟨hM103, fM103, h105⟩ := h104
  have u106t := fun h1 h2 => ex_tr (M := M0) (N := M0) (P := M103) (r1 := 0) (e1 := 0) (r2 := 0) (e2 := 1) (r := 0) (e := 1) (by decide) h1 h2
  have u106n := INV.rd hM103 (i := 102) (c := 48) (k := 280) rfl rfl
  have L127 : ∀ (n125 : Nat), ∀ (M128 : mm_M), (((M128.1 98 6).toInt ≤ (M128.1 98 7).toInt ∧ (M128.1 98 7).toInt ≤ (M128.1 98 8).toInt ∧ (M128.1 98 8).toInt ≤ 900 ∧ ((M128.1 98 9).toInt = 24 ∨ (M128.1 98 6).toInt < (M128.1 98 7).toInt)) ∧ ((M128.1 98 8).toInt = (M0.1 98 8).toInt) ∧ ((M0.1 98 6).toInt ≤ (M128.1 98 6).toInt) ∧ (0 ≤ (M128.1 102 280).toInt) ∧ (¬ (M128.1 98 11).toInt = 0 ∨ (M0.1 98 11).toInt = 0 ∧ (M128.1 102 280).toInt - (M128.1 98 6).toInt + 0 ≤ (M0.1 102 280).toInt - (M0.1 98 6).toInt ∧ (M0.1 102 280).toInt ≤ (M128.1 102 280).toInt ∧ b01 (EXT M0 M128 0 1) = 1) ∧ (b01 (PI M128) = 1) ∧ (900 - (M128.1 98 6).toInt) < (n125 : Int)) → INV pr Kz M128 → FR [98, 102] M0 M128 → jj p l e (cn_R 18) s m args below meth c 0 0 Q 2 dC dI ad cA A M128 5 [(0, .ref (ad 98)), (1, .int (sI 4))] [] := by
    intro n125
    induction n125 with
    | zero =>
      intro M128 h129 hM128 fM128
      exfalso; omega
    | succ n125 ih126 =>
      intro M128 h129 hM128 fM128
      refine j_aload_n C 0 0 dX12_readTruth_5 rfl rfl ?_
      refine y_bipush C dX12_readTruth_6 rfl ?_
      refine j_callVi C (d := 6) (As := [.int (sI 15)]) (st := []) 98 (s_lt rfl rfl) (s_kc (c := 11) rfl rfl) (by decide) rfl (s1_X12_eats hM128 hpr 15 (by omega) (by omega) (by omega) (by omega)) gX12_readTruth_X12_eats rfl hdX12_eats (by decide) (Nat.le_of_ble_eq_true rfl) dX12_readTruth_8 rfl (fun r130 M131 h132 => ?_)
      obtain ⟨a134, rfl, hM131, fM131, h133⟩ := h132
      have u135c := fun h => ex_c (M := M0) (N := M128) (P := M131) (r := 0) (e := 1) (FR.cell fM131 (by decide)) h
      have u135n := INV.rd hM131 (i := 102) (c := 48) (k := 280) rfl rfl
      refine y_if_eq C 29 dX12_readTruth_11 (by decide) (by omega) (fun h136 => ?_) (fun h136 => ?_)
      · have u147c := fun h => ex_c (M := M0) (N := M128) (P := M131) (r := 0) (e := 1) (FR.cell fM131 (by decide)) h
        have u147d := fun h => ex_c (M := M0) (N := M128) (P := M131) (r := 0) (e := 0) (FR.cell fM131 (by decide)) h
        have u147n := INV.rd hM131 (i := 102) (c := 48) (k := 280) rfl rfl
        have zz102_280 : (M131.1 102 280).toInt = (M128.1 102 280).toInt := s_fF fM131 (by decide) (rfl); exact hret _ _ _ dX12_readTruth_29 ⟨hM131, ((FR.rf.tr fM128 (by decide)).tr fM131 (by decide)), by omega⟩
      · refine j_aload_n C 0 0 dX12_readTruth_14 rfl rfl ?_
        refine j_iload_n C 1 1 dX12_readTruth_15 rfl rfl ?_
        refine j_callVv C (d := 17) (As := [.int (sI 4)]) (st := []) 98 (s_lt rfl rfl) (s_kc (c := 11) rfl rfl) (by decide) rfl (s3_X12_readBoth hM131 hpr (by omega) (by omega) (by omega) (by omega)) gX12_readTruth_X12_readBoth rfl hdX12_readBoth (by decide) (Nat.le_of_ble_eq_true rfl) dX12_readTruth_16 rfl (fun M138 h139 => ?_)
        obtain ⟨hM138, fM138, h140⟩ := h139
        have u141t := fun h1 h2 => ex_tr (M := M0) (N := M131) (P := M138) (r1 := 0) (e1 := 1) (r2 := 0) (e2 := 1) (r := 0) (e := 2) (by decide) h1 h2
        have u141n := INV.rd hM138 (i := 102) (c := 48) (k := 280) rfl rfl
        refine j_aload_n C 0 0 dX12_readTruth_19 rfl rfl ?_
        refine y_sipush C dX12_readTruth_20 rfl ?_
        refine j_callVv C (d := 0) (As := [.int (sI 3008)]) (st := []) 98 (s_lt rfl rfl) (s_kc (c := 11) rfl rfl) (by decide) rfl (s1_X12_codes hM138 hpr 3008 (by omega) (by omega) (by omega)) gX12_readTruth_X12_codes rfl hdX12_codes (by decide) (Nat.le_of_ble_eq_true rfl) dX12_readTruth_23 rfl (fun M143 h144 => ?_)
        obtain ⟨hM143, fM143, h145⟩ := h144
        refine j_goto C 5 dX12_readTruth_26 (by decide) ?_
        have u146n := INV.rd hM143 (i := 102) (c := 48) (k := 280) rfl rfl
        have u146p := fun h => ap_bin (M := M138) (N := M143) (c := 3008) (by omega) h
        have u146t := fun h1 h2 => ex_tr (M := M0) (N := M138) (P := M143) (r1 := 0) (e1 := 2) (r2 := 2) (e2 := (-1)) (r := 0) (e := 1) (by decide) h1 h2
        have zz98_9 : (M143.1 98 9).toInt = (M138.1 98 9).toInt := s_fF fM143 (by decide) (rfl); have zz98_8 : (M143.1 98 8).toInt = (M138.1 98 8).toInt := s_fF fM143 (by decide) (rfl); have zz98_7 : (M143.1 98 7).toInt = (M138.1 98 7).toInt := s_fF fM143 (by decide) (rfl); have zz98_6 : (M143.1 98 6).toInt = (M138.1 98 6).toInt := s_fF fM143 (by decide) (rfl); have zz98_11 : (M143.1 98 11).toInt = (M138.1 98 11).toInt := s_fF fM143 (by decide) (rfl); exact ih126 M143 (by omega) hM143 ((((FR.rf.tr fM128 (by decide)).tr fM131 (by decide)).tr fM138 (by decide)).tr fM143 (by decide))
  exact L127 2010 M103 (by omega) hM103 (FR.rf.tr fM103 (by decide))
set_option maxHeartbeats 4000000 in
theorem s4_X12_readUnit {l : Launch} {dC : Nat → ClassId} {dI : Nat → Nat → Nat} {ad : Nat → Nat} {cA : Nat → ClassId} {pr : Nat → Nat → Bool} {Kz : mm_M} {M0 : mm_M} (hM0 : INV pr Kz M0) (hpr : PM pr)  (hp0 : (M0.1 98 6).toInt ≤ (M0.1 98 7).toInt ∧ (M0.1 98 7).toInt ≤ (M0.1 98 8).toInt ∧ (M0.1 98 8).toInt ≤ 900 ∧ ((M0.1 98 9).toInt = 24 ∨ (M0.1 98 6).toInt < (M0.1 98 7).toInt)) (hp1 : ¬ (M0.1 98 11).toInt = 0 ∨ (M0.1 102 280).toInt ≤ (M0.1 98 6).toInt) (hp2 : 0 ≤ (M0.1 102 280).toInt) (hp3 : b01 (PI M0) = 1) : Cv l 19 yX12_readUnit wsX12_readUnit dC dI ad cA [.ref (ad 98), .int (sI 3)] M0 (fun M' => INV pr Kz M' ∧ FR [98, 102] M0 M' ∧ ((M'.1 98 6).toInt ≤ (M'.1 98 7).toInt ∧ (M'.1 98 7).toInt ≤ (M'.1 98 8).toInt ∧ (M'.1 98 8).toInt ≤ 900 ∧ ((M'.1 98 9).toInt = 24 ∨ (M'.1 98 6).toInt < (M'.1 98 7).toInt)) ∧ ((M'.1 98 8).toInt = (M0.1 98 8).toInt) ∧ ((M0.1 98 6).toInt ≤ (M'.1 98 6).toInt) ∧ (0 ≤ (M'.1 102 280).toInt) ∧ (¬ (M'.1 98 11).toInt = 0 ∨ (M0.1 98 11).toInt = 0 ∧ (M'.1 102 280).toInt - (M'.1 98 6).toInt + 0 ≤ (M0.1 102 280).toInt - (M0.1 98 6).toInt ∧ (M0.1 102 280).toInt ≤ (M'.1 102 280).toInt ∧ b01 (EXT M0 M' 0 1) = 1) ∧ (b01 (PI M') = 1)) := by
  refine cv_of (cc := cX12_readUnit) (maxL := 3) (lv := [(0, .ref (ad 98)), (1, .int (sI 3))]) (by decide) rfl (Nat.le_of_ble_eq_true rfl) rfl ?_
  intro p e s m args below meth c A Q C hret
  have u101z := ex_0 M0
  have u101n := INV.rd hM0 (i := 102) (c := 48) (k := 280) rfl rfl
  refine j_aload_n C 0 0 dX12_readUnit_0 rfl rfl ?_
  refine y_bipush C dX12_readUnit_1 rfl ?_
  refine j_callVi C (d := 0) (As := [.int (sI 16)]) (st := []) 98 (s_lt rfl rfl) (s_kc (c := 11) rfl rfl) (by decide) rfl (s1_X12_is hM0 16 (by omega)) gX12_readUnit_X12_is rfl hdX12_is (by decide) (Nat.le_of_ble_eq_true rfl) dX12_readUnit_3 rfl (fun r102 M103 h104 => ?_)
  obtain ⟨a106, rfl, rfl, h105⟩ := h104
  refine y_if_eq C 33 dX12_readUnit_6 (by decide) (by omega) (fun h107 => ?_) (fun h107 => ?_)
  · refine j_aload_n C 0 0 dX12_readUnit_33 rfl rfl ?_
    refine y_bipush C dX12_readUnit_34 rfl ?_
    refine j_callVi C (d := 0) (As := [.int (sI 37)]) (st := []) 98 (s_lt rfl rfl) (s_kc (c := 11) rfl rfl) (by decide) rfl (s1_X12_is hM0 37 (by omega)) gX12_readUnit_X12_is rfl hdX12_is (by decide) (Nat.le_of_ble_eq_true rfl) dX12_readUnit_36 rfl (fun r108 M109 h110 => ?_)
    obtain ⟨a112, rfl, rfl, h111⟩ := h110
    refine y_if_eq C 73 dX12_readUnit_39 (by decide) (by omega) (fun h113 => ?_) (fun h113 => ?_)
    · refine j_aload_n C 0 0 dX12_readUnit_73 rfl rfl ?_
      refine j_iload_n C 1 1 dX12_readUnit_74 rfl rfl ?_
      refine j_callVv C (d := 18) (As := [.int (sI 3)]) (st := []) 98 (s_lt rfl rfl) (s_kc (c := 11) rfl rfl) (by decide) rfl (s4_X12_readSum hM0 hpr (by omega) (by omega) (by omega) (by omega)) gX12_readUnit_X12_readSum rfl hdX12_readSum (by decide) (Nat.le_of_ble_eq_true rfl) dX12_readUnit_75 rfl (fun M115 h116 => ?_)
      obtain ⟨hM115, fM115, h117⟩ := h116
      have u118t := fun h1 h2 => ex_tr (M := M0) (N := M0) (P := M115) (r1 := 0) (e1 := 0) (r2 := 0) (e2 := 1) (r := 0) (e := 1) (by decide) h1 h2
      have u118n := INV.rd hM115 (i := 102) (c := 48) (k := 280) rfl rfl
      refine j_aload_n C 0 0 dX12_readUnit_78 rfl rfl ?_
      refine y_bipush C dX12_readUnit_79 rfl ?_
      refine j_callVi C (d := 0) (As := [.int (sI 39)]) (st := []) 98 (s_lt rfl rfl) (s_kc (c := 11) rfl rfl) (by decide) rfl (s1_X12_is hM115 39 (by omega)) gX12_readUnit_X12_is rfl hdX12_is (by decide) (Nat.le_of_ble_eq_true rfl) dX12_readUnit_81 rfl (fun r119 M120 h121 => ?_)
      obtain ⟨a123, rfl, rfl, h122⟩ := h121
      have J132 : ∀ (a131 : Int), (3003 ≤ a131 ∧ a131 ≤ 3005) → jj p l e (cn_R 19) s m args below meth c 0 0 Q 3 dC dI ad cA A M115 111 [(0, .ref (ad 98)), (1, .int (sI 3))] [.int (sI a131)] := by
        intro a131 h133
        refine j_istore_n C 2 [(2, .int (sI a131)), (0, .ref (ad 98)), (1, .int (sI 3))] dX12_readUnit_111 rfl (by decide) rfl ?_
        refine j_aload_n C 1 0 dX12_readUnit_112 rfl rfl ?_
        refine y_bipush C dX12_readUnit_113 rfl ?_
        refine j_callVi C (d := 0) (As := [.int (sI 39)]) (st := []) 98 (s_lt rfl rfl) (s_kc (c := 11) rfl rfl) (by decide) rfl (s1_X12_is hM115 39 (by omega)) gX12_readUnit_X12_is rfl hdX12_is (by decide) (Nat.le_of_ble_eq_true rfl) dX12_readUnit_115 rfl (fun r134 M135 h136 => ?_)
        obtain ⟨a138, rfl, rfl, h137⟩ := h136
        have J173 : ∀ (M172 : mm_M), (((M172.1 98 6).toInt ≤ (M172.1 98 7).toInt ∧ (M172.1 98 7).toInt ≤ (M172.1 98 8).toInt ∧ (M172.1 98 8).toInt ≤ 900 ∧ ((M172.1 98 9).toInt = 24 ∨ (M172.1 98 6).toInt < (M172.1 98 7).toInt)) ∧ ((M172.1 98 8).toInt = (M0.1 98 8).toInt) ∧ ((M0.1 98 6).toInt ≤ (M172.1 98 6).toInt) ∧ (0 ≤ (M172.1 102 280).toInt) ∧ (¬ (M172.1 98 11).toInt = 0 ∨ (M0.1 98 11).toInt = 0 ∧ (M172.1 102 280).toInt - (M172.1 98 6).toInt + 1 ≤ (M0.1 102 280).toInt - (M0.1 98 6).toInt ∧ (M0.1 102 280).toInt ≤ (M172.1 102 280).toInt ∧ b01 (EXT M0 M172 0 1) = 1) ∧ (b01 (PI M172) = 1)) → INV pr Kz M172 → FR [98, 102] M0 M172 → jj p l e (cn_R 19) s m args below meth c 0 0 Q 3 dC dI ad cA A M172 151 [(0, .ref (ad 98)), (1, .int (sI 3)), (2, .int (sI a131))] [] := by
          intro M172 h174 hM172 fM172
          have u175c := fun h => ex_c (M := M0) (N := M0) (P := M172) (r := 0) (e := 1) (FR.cell fM172 (by decide)) h
          have u175n := INV.rd hM172 (i := 102) (c := 48) (k := 280) rfl rfl
          refine j_aload_n C 0 0 dX12_readUnit_151 rfl rfl ?_
          refine j_iload_n C 1 1 dX12_readUnit_152 rfl rfl ?_
          refine j_callVv C (d := 18) (As := [.int (sI 3)]) (st := []) 98 (s_lt rfl rfl) (s_kc (c := 11) rfl rfl) (by decide) rfl (s4_X12_readSum hM172 hpr (by omega) (by omega) (by omega) (by omega)) gX12_readUnit_X12_readSum rfl hdX12_readSum (by decide) (Nat.le_of_ble_eq_true rfl) dX12_readUnit_153 rfl (fun M177 h178 => ?_)
          obtain ⟨hM177, fM177, h179⟩ := h178
          have u180t := fun h1 h2 => ex_tr (M := M0) (N := M172) (P := M177) (r1 := 0) (e1 := 1) (r2 := 0) (e2 := 1) (r := 0) (e := 2) (by decide) h1 h2
          have u180n := INV.rd hM177 (i := 102) (c := 48) (k := 280) rfl rfl
          refine j_aload_n C 0 0 dX12_readUnit_156 rfl rfl ?_
          refine j_iload_n C 2 2 dX12_readUnit_157 rfl rfl ?_
          refine j_callVv C (d := 0) (As := [.int (sI a131)]) (st := []) 98 (s_lt rfl rfl) (s_kc (c := 11) rfl rfl) (by decide) rfl (s1_X12_codes hM177 hpr a131 (by omega) (by omega) (by omega)) gX12_readUnit_X12_codes rfl hdX12_codes (by decide) (Nat.le_of_ble_eq_true rfl) dX12_readUnit_158 rfl (fun M182 h183 => ?_)
          obtain ⟨hM182, fM182, h184⟩ := h183
          have u185n := INV.rd hM182 (i := 102) (c := 48) (k := 280) rfl rfl
          have u185p := fun h => ap_bin (M := M177) (N := M182) (c := a131) (by omega) h
          have u185t := fun h1 h2 => ex_tr (M := M0) (N := M177) (P := M182) (r1 := 0) (e1 := 2) (r2 := 2) (e2 := (-1)) (r := 0) (e := 1) (by decide) h1 h2
          have u186n := INV.rd hM182 (i := 102) (c := 48) (k := 280) rfl rfl
          have zz98_11 : (M182.1 98 11).toInt = (M177.1 98 11).toInt := s_fF fM182 (by decide) (rfl); have zz98_6 : (M182.1 98 6).toInt = (M177.1 98 6).toInt := s_fF fM182 (by decide) (rfl); have zz98_7 : (M182.1 98 7).toInt = (M177.1 98 7).toInt := s_fF fM182 (by decide) (rfl); have zz98_8 : (M182.1 98 8).toInt = (M177.1 98 8).toInt := s_fF fM182 (by decide) (rfl); have zz98_9 : (M182.1 98 9).toInt = (M177.1 98 9).toInt := s_fF fM182 (by decide) (rfl); exact hret _ _ _ dX12_readUnit_161 ⟨hM182, (((FR.rf.tr fM172 (by decide)).tr fM177 (by decide)).tr fM182 (by decide)), by omega⟩
        refine y_if_ne C 139 dX12_readUnit_118 (by decide) (by omega) (fun h139 => ?_) (fun h139 => ?_)
        · refine j_aload_n C 1 0 dX12_readUnit_139 rfl rfl ?_
          refine j_callVv C (d := 5) (As := []) (st := []) 98 (s_lt rfl rfl) (s_kc (c := 11) rfl rfl) (by decide) rfl (s1_X12_next hM115 hpr (by omega) (by omega) (by omega)) gX12_readUnit_X12_next rfl hdX12_next (by decide) (Nat.le_of_ble_eq_true rfl) dX12_readUnit_140 rfl (fun M141 h142 => ?_)
          obtain ⟨hM141, fM141, h143⟩ := h142
          refine j_goto C 151 dX12_readUnit_143 (by decide) ?_
          have u144c := fun h => ex_c (M := M0) (N := M115) (P := M141) (r := 0) (e := 1) (FR.cell fM141 (by decide)) h
          have u144n := INV.rd hM141 (i := 102) (c := 48) (k := 280) rfl rfl
          have zz102_280 : (M141.1 102 280).toInt = (M115.1 102 280).toInt := s_fF fM141 (by decide) (rfl); refine j_lv [1, 2, 0] rfl ?_; exact J173 M141 (by omega) hM141 ((FR.rf.tr fM115 (by decide)).tr fM141 (by decide))
        · refine j_aload_n C 1 0 dX12_readUnit_121 rfl rfl ?_
          refine y_bipush C dX12_readUnit_122 rfl ?_
          refine j_callVi C (d := 0) (As := [.int (sI 40)]) (st := []) 98 (s_lt rfl rfl) (s_kc (c := 11) rfl rfl) (by decide) rfl (s1_X12_is hM115 40 (by omega)) gX12_readUnit_X12_is rfl hdX12_is (by decide) (Nat.le_of_ble_eq_true rfl) dX12_readUnit_124 rfl (fun r145 M146 h147 => ?_)
          obtain ⟨a149, rfl, rfl, h148⟩ := h147
          refine y_if_ne C 139 dX12_readUnit_127 (by decide) (by omega) (fun h150 => ?_) (fun h150 => ?_)
          · refine j_aload_n C 1 0 dX12_readUnit_139 rfl rfl ?_
            refine j_callVv C (d := 5) (As := []) (st := []) 98 (s_lt rfl rfl) (s_kc (c := 11) rfl rfl) (by decide) rfl (s1_X12_next hM115 hpr (by omega) (by omega) (by omega)) gX12_readUnit_X12_next rfl hdX12_next (by decide) (Nat.le_of_ble_eq_true rfl) dX12_readUnit_140 rfl (fun M152 h153 => ?_)
            obtain ⟨hM152, fM152, h154⟩ := h153
            refine j_goto C 151 dX12_readUnit_143 (by decide) ?_
            have u155c := fun h => ex_c (M := M0) (N := M115) (P := M152) (r := 0) (e := 1) (FR.cell fM152 (by decide)) h
            have u155n := INV.rd hM152 (i := 102) (c := 48) (k := 280) rfl rfl
            have zz102_280 : (M152.1 102 280).toInt = (M115.1 102 280).toInt := s_fF fM152 (by decide) (rfl); refine j_lv [1, 2, 0] rfl ?_; exact J173 M152 (by omega) hM152 ((FR.rf.tr fM115 (by decide)).tr fM152 (by decide))
          · refine j_aload_n C 1 0 dX12_readUnit_130 rfl rfl ?_
            refine y_bipush C dX12_readUnit_131 rfl ?_
            refine j_callVi C (d := 0) (As := [.int (sI 41)]) (st := []) 98 (s_lt rfl rfl) (s_kc (c := 11) rfl rfl) (by decide) rfl (s1_X12_is hM115 41 (by omega)) gX12_readUnit_X12_is rfl hdX12_is (by decide) (Nat.le_of_ble_eq_true rfl) dX12_readUnit_133 rfl (fun r156 M157 h158 => ?_)
            obtain ⟨a160, rfl, rfl, h159⟩ := h158
            refine y_if_eq C 146 dX12_readUnit_136 (by decide) (by omega) (fun h161 => ?_) (fun h161 => ?_)
            · refine j_aload_n C 1 0 dX12_readUnit_146 rfl rfl ?_
              refine y_iconst C dX12_readUnit_147 ?_
              refine j_callVv C (d := 0) (As := [.int (sI 2)]) (st := []) 98 (s_lt rfl rfl) (s_kc (c := 11) rfl rfl) (by decide) rfl (s1_X12_fails hM115 hpr 2 (by omega) (by omega) (by omega)) gX12_readUnit_X12_fails rfl hdX12_fails (by decide) (Nat.le_of_ble_eq_true rfl) dX12_readUnit_148 rfl (fun M163 h164 => ?_)
              obtain ⟨hM163, fM163, h165⟩ := h164
              have u166c := fun h => ex_c (M := M0) (N := M115) (P := M163) (r := 0) (e := 1) (FR.cell fM163 (by decide)) h
              have u166n := INV.rd hM163 (i := 102) (c := 48) (k := 280) rfl rfl
              have zz102_280 : (M163.1 102 280).toInt = (M115.1 102 280).toInt := s_fF fM163 (by decide) (rfl); refine j_lv [1, 2, 0] rfl ?_; exact J173 M163 (by omega) hM163 ((FR.rf.tr fM115 (by decide)).tr fM163 (by decide))
            · refine j_aload_n C 1 0 dX12_readUnit_139 rfl rfl ?_
              refine j_callVv C (d := 5) (As := []) (st := []) 98 (s_lt rfl rfl) (s_kc (c := 11) rfl rfl) (by decide) rfl (s1_X12_next hM115 hpr (by omega) (by omega) (by omega)) gX12_readUnit_X12_next rfl hdX12_next (by decide) (Nat.le_of_ble_eq_true rfl) dX12_readUnit_140 rfl (fun M168 h169 => ?_)
              obtain ⟨hM168, fM168, h170⟩ := h169
              refine j_goto C 151 dX12_readUnit_143 (by decide) ?_
              have u171c := fun h => ex_c (M := M0) (N := M115) (P := M168) (r := 0) (e := 1) (FR.cell fM168 (by decide)) h
              have u171n := INV.rd hM168 (i := 102) (c := 48) (k := 280) rfl rfl
              have zz102_280 : (M168.1 102 280).toInt = (M115.1 102 280).toInt := s_fF fM168 (by decide) (rfl); refine j_lv [1, 2, 0] rfl ?_; exact J173 M168 (by omega) hM168 ((FR.rf.tr fM115 (by decide)).tr fM168 (by decide))
      refine y_if_eq C 93 dX12_readUnit_84 (by decide) (by omega) (fun h124 => ?_) (fun h124 => ?_)
      · refine j_aload_n C 0 0 dX12_readUnit_93 rfl rfl ?_
        refine y_bipush C dX12_readUnit_94 rfl ?_
        refine j_callVi C (d := 0) (As := [.int (sI 40)]) (st := []) 98 (s_lt rfl rfl) (s_kc (c := 11) rfl rfl) (by decide) rfl (s1_X12_is hM115 40 (by omega)) gX12_readUnit_X12_is rfl hdX12_is (by decide) (Nat.le_of_ble_eq_true rfl) dX12_readUnit_96 rfl (fun r125 M126 h127 => ?_)
        obtain ⟨a129, rfl, rfl, h128⟩ := h127
        refine y_if_eq C 108 dX12_readUnit_99 (by decide) (by omega) (fun h130 => ?_) (fun h130 => ?_)
        · refine y_sipush C dX12_readUnit_108 rfl ?_
          exact J132 3005 (by omega)
        · refine y_sipush C dX12_readUnit_102 rfl ?_
          refine j_goto C 111 dX12_readUnit_105 (by decide) ?_
          exact J132 3004 (by omega)
      · refine y_sipush C dX12_readUnit_87 rfl ?_
        refine j_goto C 111 dX12_readUnit_90 (by decide) ?_
        exact J132 3003 (by omega)
    · refine j_aload_n C 0 0 dX12_readUnit_42 rfl rfl ?_
      refine j_iload_n C 1 1 dX12_readUnit_43 rfl rfl ?_
      refine j_callVi C (d := 6) (As := [.int (sI 3)]) (st := []) 98 (s_lt rfl rfl) (s_kc (c := 11) rfl rfl) (by decide) rfl (s4_X12_goesIn hM0 hpr (by omega) (by omega)) gX12_readUnit_X12_goesIn rfl hdX12_goesIn (by decide) (Nat.le_of_ble_eq_true rfl) dX12_readUnit_44 rfl (fun r187 M188 h189 => ?_)
      obtain ⟨a191, rfl, hM188, fM188, h190⟩ := h189
      have u192c := fun h => ex_c (M := M0) (N := M0) (P := M188) (r := 0) (e := 0) (FR.cell fM188 (by decide)) h
      have u192n := INV.rd hM188 (i := 102) (c := 48) (k := 280) rfl rfl
      refine y_if_ne C 51 dX12_readUnit_47 (by decide) (by omega) (fun h193 => ?_) (fun h193 => ?_)
      · refine j_aload_n C 0 0 dX12_readUnit_51 rfl rfl ?_
        refine j_iload_n C 1 1 dX12_readUnit_52 rfl rfl ?_
        refine y_iconst C dX12_readUnit_53 ?_
        refine y_iadd C dX12_readUnit_54 ?_
        refine j_callVv C (d := 18) (As := [.int (sI (3 + 1))]) (st := []) 98 (s_lt rfl rfl) (s_kc (c := 11) rfl rfl) (by decide) rfl (s3_X12_readTruth hM188 hpr (by omega) (by omega) (by omega) (by omega)) gX12_readUnit_X12_readTruth rfl hdX12_readTruth (by decide) (Nat.le_of_ble_eq_true rfl) dX12_readUnit_55 rfl (fun M195 h196 => ?_)
        obtain ⟨hM195, fM195, h197⟩ := h196
        have u198t := fun h1 h2 => ex_tr (M := M0) (N := M188) (P := M195) (r1 := 0) (e1 := 0) (r2 := 0) (e2 := 1) (r := 0) (e := 1) (by decide) h1 h2
        have u198n := INV.rd hM195 (i := 102) (c := 48) (k := 280) rfl rfl
        refine j_aload_n C 0 0 dX12_readUnit_58 rfl rfl ?_
        refine y_bipush C dX12_readUnit_59 rfl ?_
        refine j_callVi C (d := 6) (As := [.int (sI 38)]) (st := []) 98 (s_lt rfl rfl) (s_kc (c := 11) rfl rfl) (by decide) rfl (s1_X12_eats hM195 hpr 38 (by omega) (by omega) (by omega) (by omega)) gX12_readUnit_X12_eats rfl hdX12_eats (by decide) (Nat.le_of_ble_eq_true rfl) dX12_readUnit_61 rfl (fun r199 M200 h201 => ?_)
        obtain ⟨a203, rfl, hM200, fM200, h202⟩ := h201
        have u204c := fun h => ex_c (M := M0) (N := M195) (P := M200) (r := 0) (e := 1) (FR.cell fM200 (by decide)) h
        have u204n := INV.rd hM200 (i := 102) (c := 48) (k := 280) rfl rfl
        refine y_if_ne C 72 dX12_readUnit_64 (by decide) (by omega) (fun h205 => ?_) (fun h205 => ?_)
        · have u206c := fun h => ex_c (M := M0) (N := M195) (P := M200) (r := 0) (e := 1) (FR.cell fM200 (by decide)) h
          have u206d := fun h => ex_c (M := M0) (N := M195) (P := M200) (r := 0) (e := 0) (FR.cell fM200 (by decide)) h
          have u206n := INV.rd hM200 (i := 102) (c := 48) (k := 280) rfl rfl
          have zz102_280 : (M200.1 102 280).toInt = (M195.1 102 280).toInt := s_fF fM200 (by decide) (rfl); exact hret _ _ _ dX12_readUnit_72 ⟨hM200, (((FR.rf.tr fM188 (by decide)).tr fM195 (by decide)).tr fM200 (by decide)), by omega⟩
        · refine j_aload_n C 0 0 dX12_readUnit_67 rfl rfl ?_
          refine y_iconst C dX12_readUnit_68 ?_
          refine j_callVv C (d := 0) (As := [.int (sI 2)]) (st := []) 98 (s_lt rfl rfl) (s_kc (c := 11) rfl rfl) (by decide) rfl (s1_X12_fails hM200 hpr 2 (by omega) (by omega) (by omega)) gX12_readUnit_X12_fails rfl hdX12_fails (by decide) (Nat.le_of_ble_eq_true rfl) dX12_readUnit_69 rfl (fun M208 h209 => ?_)
          obtain ⟨hM208, fM208, h210⟩ := h209
          have u211c := fun h => ex_c (M := M0) (N := M200) (P := M208) (r := 0) (e := 1) (FR.cell fM208 (by decide)) h
          have u211d := fun h => ex_c (M := M0) (N := M200) (P := M208) (r := 0) (e := 0) (FR.cell fM208 (by decide)) h
          have u211n := INV.rd hM208 (i := 102) (c := 48) (k := 280) rfl rfl
          have zz102_280 : (M208.1 102 280).toInt = (M195.1 102 280).toInt := s_fF fM200 (by decide) (s_fF fM208 (by decide) (rfl)); exact hret _ _ _ dX12_readUnit_72 ⟨hM208, ((((FR.rf.tr fM188 (by decide)).tr fM195 (by decide)).tr fM200 (by decide)).tr fM208 (by decide)), by omega⟩
      · have u212c := fun h => ex_c (M := M0) (N := M0) (P := M188) (r := 0) (e := 1) (FR.cell fM188 (by decide)) h
        have u212d := fun h => ex_c (M := M0) (N := M0) (P := M188) (r := 0) (e := 0) (FR.cell fM188 (by decide)) h
        have u212n := INV.rd hM188 (i := 102) (c := 48) (k := 280) rfl rfl
        have zz102_280 : (M188.1 102 280).toInt = (M0.1 102 280).toInt := s_fF fM188 (by decide) (rfl); exact hret _ _ _ dX12_readUnit_50 ⟨hM188, (FR.rf.tr fM188 (by decide)), by omega⟩
  · refine j_aload_n C 0 0 dX12_readUnit_9 rfl rfl ?_
    refine j_iload_n C 1 1 dX12_readUnit_10 rfl rfl ?_
    refine j_callVi C (d := 6) (As := [.int (sI 3)]) (st := []) 98 (s_lt rfl rfl) (s_kc (c := 11) rfl rfl) (by decide) rfl (s4_X12_goesIn hM0 hpr (by omega) (by omega)) gX12_readUnit_X12_goesIn rfl hdX12_goesIn (by decide) (Nat.le_of_ble_eq_true rfl) dX12_readUnit_11 rfl (fun r213 M214 h215 => ?_)
    obtain ⟨a217, rfl, hM214, fM214, h216⟩ := h215
    have u218c := fun h => ex_c (M := M0) (N := M0) (P := M214) (r := 0) (e := 0) (FR.cell fM214 (by decide)) h
    have u218n := INV.rd hM214 (i := 102) (c := 48) (k := 280) rfl rfl
    refine y_if_ne C 18 dX12_readUnit_14 (by decide) (by omega) (fun h219 => ?_) (fun h219 => ?_)
    · refine j_aload_n C 0 0 dX12_readUnit_18 rfl rfl ?_
      refine j_iload_n C 1 1 dX12_readUnit_19 rfl rfl ?_
      refine y_iconst C dX12_readUnit_20 ?_
      refine y_iadd C dX12_readUnit_21 ?_
      refine j_callVv C (d := 16) (As := [.int (sI (3 + 1))]) (st := []) 98 (s_lt rfl rfl) (s_kc (c := 11) rfl rfl) (by decide) rfl (s3_X12_readUnit hM214 hpr (by omega) (by omega) (by omega) (by omega)) gX12_readUnit_X12_readUnit rfl hdX12_readUnit (by decide) (Nat.le_of_ble_eq_true rfl) dX12_readUnit_22 rfl (fun M221 h222 => ?_)
      obtain ⟨hM221, fM221, h223⟩ := h222
      have u224t := fun h1 h2 => ex_tr (M := M0) (N := M214) (P := M221) (r1 := 0) (e1 := 0) (r2 := 0) (e2 := 1) (r := 0) (e := 1) (by decide) h1 h2
      have u224n := INV.rd hM221 (i := 102) (c := 48) (k := 280) rfl rfl
      refine j_aload_n C 0 0 dX12_readUnit_25 rfl rfl ?_
      refine y_sipush C dX12_readUnit_26 rfl ?_
      refine j_callVv C (d := 0) (As := [.int (sI 3006)]) (st := []) 98 (s_lt rfl rfl) (s_kc (c := 11) rfl rfl) (by decide) rfl (s1_X12_codes hM221 hpr 3006 (by omega) (by omega) (by omega)) gX12_readUnit_X12_codes rfl hdX12_codes (by decide) (Nat.le_of_ble_eq_true rfl) dX12_readUnit_29 rfl (fun M226 h227 => ?_)
      obtain ⟨hM226, fM226, h228⟩ := h227
      have u229n := INV.rd hM226 (i := 102) (c := 48) (k := 280) rfl rfl
      have u229p := fun h => ap_not (M := M221) (N := M226) (by omega) h
      have u229t := fun h1 h2 => ex_tr (M := M0) (N := M221) (P := M226) (r1 := 0) (e1 := 1) (r2 := 1) (e2 := 0) (r := 0) (e := 1) (by decide) h1 h2
      have u230n := INV.rd hM226 (i := 102) (c := 48) (k := 280) rfl rfl
      have zz98_11 : (M226.1 98 11).toInt = (M221.1 98 11).toInt := s_fF fM226 (by decide) (rfl); have zz98_6 : (M226.1 98 6).toInt = (M221.1 98 6).toInt := s_fF fM226 (by decide) (rfl); have zz98_7 : (M226.1 98 7).toInt = (M221.1 98 7).toInt := s_fF fM226 (by decide) (rfl); have zz98_8 : (M226.1 98 8).toInt = (M221.1 98 8).toInt := s_fF fM226 (by decide) (rfl); have zz98_9 : (M226.1 98 9).toInt = (M221.1 98 9).toInt := s_fF fM226 (by decide) (rfl); exact hret _ _ _ dX12_readUnit_32 ⟨hM226, (((FR.rf.tr fM214 (by decide)).tr fM221 (by decide)).tr fM226 (by decide)), by omega⟩
    · have u231c := fun h => ex_c (M := M0) (N := M0) (P := M214) (r := 0) (e := 1) (FR.cell fM214 (by decide)) h
      have u231d := fun h => ex_c (M := M0) (N := M0) (P := M214) (r := 0) (e := 0) (FR.cell fM214 (by decide)) h
      have u231n := INV.rd hM214 (i := 102) (c := 48) (k := 280) rfl rfl
      have zz102_280 : (M214.1 102 280).toInt = (M0.1 102 280).toInt := s_fF fM214 (by decide) (rfl); exact hret _ _ _ dX12_readUnit_17 ⟨hM214, (FR.rf.tr fM214 (by decide)), by omega⟩
set_option maxHeartbeats 4000000 in
theorem s4_X12_readBoth {l : Launch} {dC : Nat → ClassId} {dI : Nat → Nat → Nat} {ad : Nat → Nat} {cA : Nat → ClassId} {pr : Nat → Nat → Bool} {Kz : mm_M} {M0 : mm_M} (hM0 : INV pr Kz M0) (hpr : PM pr)  (hp0 : (M0.1 98 6).toInt ≤ (M0.1 98 7).toInt ∧ (M0.1 98 7).toInt ≤ (M0.1 98 8).toInt ∧ (M0.1 98 8).toInt ≤ 900 ∧ ((M0.1 98 9).toInt = 24 ∨ (M0.1 98 6).toInt < (M0.1 98 7).toInt)) (hp1 : ¬ (M0.1 98 11).toInt = 0 ∨ (M0.1 102 280).toInt ≤ (M0.1 98 6).toInt) (hp2 : 0 ≤ (M0.1 102 280).toInt) (hp3 : b01 (PI M0) = 1) : Cv l 20 yX12_readBoth wsX12_readBoth dC dI ad cA [.ref (ad 98), .int (sI 3)] M0 (fun M' => INV pr Kz M' ∧ FR [98, 102] M0 M' ∧ ((M'.1 98 6).toInt ≤ (M'.1 98 7).toInt ∧ (M'.1 98 7).toInt ≤ (M'.1 98 8).toInt ∧ (M'.1 98 8).toInt ≤ 900 ∧ ((M'.1 98 9).toInt = 24 ∨ (M'.1 98 6).toInt < (M'.1 98 7).toInt)) ∧ ((M'.1 98 8).toInt = (M0.1 98 8).toInt) ∧ ((M0.1 98 6).toInt ≤ (M'.1 98 6).toInt) ∧ (0 ≤ (M'.1 102 280).toInt) ∧ (¬ (M'.1 98 11).toInt = 0 ∨ (M0.1 98 11).toInt = 0 ∧ (M'.1 102 280).toInt - (M'.1 98 6).toInt + 0 ≤ (M0.1 102 280).toInt - (M0.1 98 6).toInt ∧ (M0.1 102 280).toInt ≤ (M'.1 102 280).toInt ∧ b01 (EXT M0 M' 0 1) = 1) ∧ (b01 (PI M') = 1)) := by
  refine cv_of (cc := cX12_readBoth) (maxL := 2) (lv := [(0, .ref (ad 98)), (1, .int (sI 3))]) (by decide) rfl (Nat.le_of_ble_eq_true rfl) rfl ?_
  intro p e s m args below meth c A Q C hret
  have u101z := ex_0 M0
  have u101n := INV.rd hM0 (i := 102) (c := 48) (k := 280) rfl rfl
  refine j_aload_n C 0 0 dX12_readBoth_0 rfl rfl ?_
  refine j_iload_n C 1 1 dX12_readBoth_1 rfl rfl ?_
  refine j_callVv C (d := 19) (As := [.int (sI 3)]) (st := []) 98 (s_lt rfl rfl) (s_kc (c := 11) rfl rfl) (by decide) rfl (s4_X12_readUnit hM0 hpr (by omega) (by omega) (by omega) (by omega)) gX12_readBoth_X12_readUnit rfl hdX12_readUnit (by decide) (Nat.le_of_ble_eq_true rfl) dX12_readBoth_2 rfl (fun M103 h104 => ?_)
  obtain ⟨hM103, fM103, h105⟩ := h104
  have u106t := fun h1 h2 => ex_tr (M := M0) (N := M0) (P := M103) (r1 := 0) (e1 := 0) (r2 := 0) (e2 := 1) (r := 0) (e := 1) (by decide) h1 h2
  have u106n := INV.rd hM103 (i := 102) (c := 48) (k := 280) rfl rfl
  have L127 : ∀ (n125 : Nat), ∀ (M128 : mm_M), (((M128.1 98 6).toInt ≤ (M128.1 98 7).toInt ∧ (M128.1 98 7).toInt ≤ (M128.1 98 8).toInt ∧ (M128.1 98 8).toInt ≤ 900 ∧ ((M128.1 98 9).toInt = 24 ∨ (M128.1 98 6).toInt < (M128.1 98 7).toInt)) ∧ ((M128.1 98 8).toInt = (M0.1 98 8).toInt) ∧ ((M0.1 98 6).toInt ≤ (M128.1 98 6).toInt) ∧ (0 ≤ (M128.1 102 280).toInt) ∧ (¬ (M128.1 98 11).toInt = 0 ∨ (M0.1 98 11).toInt = 0 ∧ (M128.1 102 280).toInt - (M128.1 98 6).toInt + 0 ≤ (M0.1 102 280).toInt - (M0.1 98 6).toInt ∧ (M0.1 102 280).toInt ≤ (M128.1 102 280).toInt ∧ b01 (EXT M0 M128 0 1) = 1) ∧ (b01 (PI M128) = 1) ∧ (900 - (M128.1 98 6).toInt) < (n125 : Int)) → INV pr Kz M128 → FR [98, 102] M0 M128 → jj p l e (cn_R 20) s m args below meth c 0 0 Q 2 dC dI ad cA A M128 5 [(0, .ref (ad 98)), (1, .int (sI 3))] [] := by
    intro n125
    induction n125 with
    | zero =>
      intro M128 h129 hM128 fM128
      exfalso; omega
    | succ n125 ih126 =>
      intro M128 h129 hM128 fM128
      refine j_aload_n C 0 0 dX12_readBoth_5 rfl rfl ?_
      refine y_bipush C dX12_readBoth_6 rfl ?_
      refine j_callVi C (d := 6) (As := [.int (sI 14)]) (st := []) 98 (s_lt rfl rfl) (s_kc (c := 11) rfl rfl) (by decide) rfl (s1_X12_eats hM128 hpr 14 (by omega) (by omega) (by omega) (by omega)) gX12_readBoth_X12_eats rfl hdX12_eats (by decide) (Nat.le_of_ble_eq_true rfl) dX12_readBoth_8 rfl (fun r130 M131 h132 => ?_)
      obtain ⟨a134, rfl, hM131, fM131, h133⟩ := h132
      have u135c := fun h => ex_c (M := M0) (N := M128) (P := M131) (r := 0) (e := 1) (FR.cell fM131 (by decide)) h
      have u135n := INV.rd hM131 (i := 102) (c := 48) (k := 280) rfl rfl
      refine y_if_eq C 29 dX12_readBoth_11 (by decide) (by omega) (fun h136 => ?_) (fun h136 => ?_)
      · have u147c := fun h => ex_c (M := M0) (N := M128) (P := M131) (r := 0) (e := 1) (FR.cell fM131 (by decide)) h
        have u147d := fun h => ex_c (M := M0) (N := M128) (P := M131) (r := 0) (e := 0) (FR.cell fM131 (by decide)) h
        have u147n := INV.rd hM131 (i := 102) (c := 48) (k := 280) rfl rfl
        have zz102_280 : (M131.1 102 280).toInt = (M128.1 102 280).toInt := s_fF fM131 (by decide) (rfl); exact hret _ _ _ dX12_readBoth_29 ⟨hM131, ((FR.rf.tr fM128 (by decide)).tr fM131 (by decide)), by omega⟩
      · refine j_aload_n C 0 0 dX12_readBoth_14 rfl rfl ?_
        refine j_iload_n C 1 1 dX12_readBoth_15 rfl rfl ?_
        refine j_callVv C (d := 19) (As := [.int (sI 3)]) (st := []) 98 (s_lt rfl rfl) (s_kc (c := 11) rfl rfl) (by decide) rfl (s4_X12_readUnit hM131 hpr (by omega) (by omega) (by omega) (by omega)) gX12_readBoth_X12_readUnit rfl hdX12_readUnit (by decide) (Nat.le_of_ble_eq_true rfl) dX12_readBoth_16 rfl (fun M138 h139 => ?_)
        obtain ⟨hM138, fM138, h140⟩ := h139
        have u141t := fun h1 h2 => ex_tr (M := M0) (N := M131) (P := M138) (r1 := 0) (e1 := 1) (r2 := 0) (e2 := 1) (r := 0) (e := 2) (by decide) h1 h2
        have u141n := INV.rd hM138 (i := 102) (c := 48) (k := 280) rfl rfl
        refine j_aload_n C 0 0 dX12_readBoth_19 rfl rfl ?_
        refine y_sipush C dX12_readBoth_20 rfl ?_
        refine j_callVv C (d := 0) (As := [.int (sI 3007)]) (st := []) 98 (s_lt rfl rfl) (s_kc (c := 11) rfl rfl) (by decide) rfl (s1_X12_codes hM138 hpr 3007 (by omega) (by omega) (by omega)) gX12_readBoth_X12_codes rfl hdX12_codes (by decide) (Nat.le_of_ble_eq_true rfl) dX12_readBoth_23 rfl (fun M143 h144 => ?_)
        obtain ⟨hM143, fM143, h145⟩ := h144
        refine j_goto C 5 dX12_readBoth_26 (by decide) ?_
        have u146n := INV.rd hM143 (i := 102) (c := 48) (k := 280) rfl rfl
        have u146p := fun h => ap_bin (M := M138) (N := M143) (c := 3007) (by omega) h
        have u146t := fun h1 h2 => ex_tr (M := M0) (N := M138) (P := M143) (r1 := 0) (e1 := 2) (r2 := 2) (e2 := (-1)) (r := 0) (e := 1) (by decide) h1 h2
        have zz98_9 : (M143.1 98 9).toInt = (M138.1 98 9).toInt := s_fF fM143 (by decide) (rfl); have zz98_8 : (M143.1 98 8).toInt = (M138.1 98 8).toInt := s_fF fM143 (by decide) (rfl); have zz98_7 : (M143.1 98 7).toInt = (M138.1 98 7).toInt := s_fF fM143 (by decide) (rfl); have zz98_6 : (M143.1 98 6).toInt = (M138.1 98 6).toInt := s_fF fM143 (by decide) (rfl); have zz98_11 : (M143.1 98 11).toInt = (M138.1 98 11).toInt := s_fF fM143 (by decide) (rfl); exact ih126 M143 (by omega) hM143 ((((FR.rf.tr fM128 (by decide)).tr fM131 (by decide)).tr fM138 (by decide)).tr fM143 (by decide))
  exact L127 2010 M103 (by omega) hM103 (FR.rf.tr fM103 (by decide))
set_option maxHeartbeats 4000000 in
theorem s4_X12_readTruth {l : Launch} {dC : Nat → ClassId} {dI : Nat → Nat → Nat} {ad : Nat → Nat} {cA : Nat → ClassId} {pr : Nat → Nat → Bool} {Kz : mm_M} {M0 : mm_M} (hM0 : INV pr Kz M0) (hpr : PM pr)  (hp0 : (M0.1 98 6).toInt ≤ (M0.1 98 7).toInt ∧ (M0.1 98 7).toInt ≤ (M0.1 98 8).toInt ∧ (M0.1 98 8).toInt ≤ 900 ∧ ((M0.1 98 9).toInt = 24 ∨ (M0.1 98 6).toInt < (M0.1 98 7).toInt)) (hp1 : ¬ (M0.1 98 11).toInt = 0 ∨ (M0.1 102 280).toInt ≤ (M0.1 98 6).toInt) (hp2 : 0 ≤ (M0.1 102 280).toInt) (hp3 : b01 (PI M0) = 1) : Cv l 21 yX12_readTruth wsX12_readTruth dC dI ad cA [.ref (ad 98), .int (sI 3)] M0 (fun M' => INV pr Kz M' ∧ FR [98, 102] M0 M' ∧ ((M'.1 98 6).toInt ≤ (M'.1 98 7).toInt ∧ (M'.1 98 7).toInt ≤ (M'.1 98 8).toInt ∧ (M'.1 98 8).toInt ≤ 900 ∧ ((M'.1 98 9).toInt = 24 ∨ (M'.1 98 6).toInt < (M'.1 98 7).toInt)) ∧ ((M'.1 98 8).toInt = (M0.1 98 8).toInt) ∧ ((M0.1 98 6).toInt ≤ (M'.1 98 6).toInt) ∧ (0 ≤ (M'.1 102 280).toInt) ∧ (¬ (M'.1 98 11).toInt = 0 ∨ (M0.1 98 11).toInt = 0 ∧ (M'.1 102 280).toInt - (M'.1 98 6).toInt + 0 ≤ (M0.1 102 280).toInt - (M0.1 98 6).toInt ∧ (M0.1 102 280).toInt ≤ (M'.1 102 280).toInt ∧ b01 (EXT M0 M' 0 1) = 1) ∧ (b01 (PI M') = 1)) := by
  refine cv_of (cc := cX12_readTruth) (maxL := 2) (lv := [(0, .ref (ad 98)), (1, .int (sI 3))]) (by decide) rfl (Nat.le_of_ble_eq_true rfl) rfl ?_
  intro p e s m args below meth c A Q C hret
  have u101z := ex_0 M0
  have u101n := INV.rd hM0 (i := 102) (c := 48) (k := 280) rfl rfl
  refine j_aload_n C 0 0 dX12_readTruth_0 rfl rfl ?_
  refine j_iload_n C 1 1 dX12_readTruth_1 rfl rfl ?_
  refine j_callVv C (d := 20) (As := [.int (sI 3)]) (st := []) 98 (s_lt rfl rfl) (s_kc (c := 11) rfl rfl) (by decide) rfl (s4_X12_readBoth hM0 hpr (by omega) (by omega) (by omega) (by omega)) gX12_readTruth_X12_readBoth rfl hdX12_readBoth (by decide) (Nat.le_of_ble_eq_true rfl) dX12_readTruth_2 rfl (fun M103 h104 => ?_)
  obtain ⟨hM103, fM103, h105⟩ := h104
  have u106t := fun h1 h2 => ex_tr (M := M0) (N := M0) (P := M103) (r1 := 0) (e1 := 0) (r2 := 0) (e2 := 1) (r := 0) (e := 1) (by decide) h1 h2
  have u106n := INV.rd hM103 (i := 102) (c := 48) (k := 280) rfl rfl
  have L127 : ∀ (n125 : Nat), ∀ (M128 : mm_M), (((M128.1 98 6).toInt ≤ (M128.1 98 7).toInt ∧ (M128.1 98 7).toInt ≤ (M128.1 98 8).toInt ∧ (M128.1 98 8).toInt ≤ 900 ∧ ((M128.1 98 9).toInt = 24 ∨ (M128.1 98 6).toInt < (M128.1 98 7).toInt)) ∧ ((M128.1 98 8).toInt = (M0.1 98 8).toInt) ∧ ((M0.1 98 6).toInt ≤ (M128.1 98 6).toInt) ∧ (0 ≤ (M128.1 102 280).toInt) ∧ (¬ (M128.1 98 11).toInt = 0 ∨ (M0.1 98 11).toInt = 0 ∧ (M128.1 102 280).toInt - (M128.1 98 6).toInt + 0 ≤ (M0.1 102 280).toInt - (M0.1 98 6).toInt ∧ (M0.1 102 280).toInt ≤ (M128.1 102 280).toInt ∧ b01 (EXT M0 M128 0 1) = 1) ∧ (b01 (PI M128) = 1) ∧ (900 - (M128.1 98 6).toInt) < (n125 : Int)) → INV pr Kz M128 → FR [98, 102] M0 M128 → jj p l e (cn_R 21) s m args below meth c 0 0 Q 2 dC dI ad cA A M128 5 [(0, .ref (ad 98)), (1, .int (sI 3))] [] := by
    intro n125
    induction n125 with
    | zero =>
      intro M128 h129 hM128 fM128
      exfalso; omega
    | succ n125 ih126 =>
      intro M128 h129 hM128 fM128
      refine j_aload_n C 0 0 dX12_readTruth_5 rfl rfl ?_
      refine y_bipush C dX12_readTruth_6 rfl ?_
      refine j_callVi C (d := 6) (As := [.int (sI 15)]) (st := []) 98 (s_lt rfl rfl) (s_kc (c := 11) rfl rfl) (by decide) rfl (s1_X12_eats hM128 hpr 15 (by omega) (by omega) (by omega) (by omega)) gX12_readTruth_X12_eats rfl hdX12_eats (by decide) (Nat.le_of_ble_eq_true rfl) dX12_readTruth_8 rfl (fun r130 M131 h132 => ?_)
      obtain ⟨a134, rfl, hM131, fM131, h133⟩ := h132
      have u135c := fun h => ex_c (M := M0) (N := M128) (P := M131) (r := 0) (e := 1) (FR.cell fM131 (by decide)) h
      have u135n := INV.rd hM131 (i := 102) (c := 48) (k := 280) rfl rfl
      refine y_if_eq C 29 dX12_readTruth_11 (by decide) (by omega) (fun h136 => ?_) (fun h136 => ?_)
      · have u147c := fun h => ex_c (M := M0) (N := M128) (P := M131) (r := 0) (e := 1) (FR.cell fM131 (by decide)) h
        have u147d := fun h => ex_c (M := M0) (N := M128) (P := M131) (r := 0) (e := 0) (FR.cell fM131 (by decide)) h
        have u147n := INV.rd hM131 (i := 102) (c := 48) (k := 280) rfl rfl
        have zz102_280 : (M131.1 102 280).toInt = (M128.1 102 280).toInt := s_fF fM131 (by decide) (rfl); exact hret _ _ _ dX12_readTruth_29 ⟨hM131, ((FR.rf.tr fM128 (by decide)).tr fM131 (by decide)), by omega⟩
      · refine j_aload_n C 0 0 dX12_readTruth_14 rfl rfl ?_
        refine j_iload_n C 1 1 dX12_readTruth_15 rfl rfl ?_
        refine j_callVv C (d := 20) (As := [.int (sI 3)]) (st := []) 98 (s_lt rfl rfl) (s_kc (c := 11) rfl rfl) (by decide) rfl (s4_X12_readBoth hM131 hpr (by omega) (by omega) (by omega) (by omega)) gX12_readTruth_X12_readBoth rfl hdX12_readBoth (by decide) (Nat.le_of_ble_eq_true rfl) dX12_readTruth_16 rfl (fun M138 h139 => ?_)
        obtain ⟨hM138, fM138, h140⟩ := h139
        have u141t := fun h1 h2 => ex_tr (M := M0) (N := M131) (P := M138) (r1 := 0) (e1 := 1) (r2 := 0) (e2 := 1) (r := 0) (e := 2) (by decide) h1 h2
        have u141n := INV.rd hM138 (i := 102) (c := 48) (k := 280) rfl rfl
        refine j_aload_n C 0 0 dX12_readTruth_19 rfl rfl ?_
        refine y_sipush C dX12_readTruth_20 rfl ?_
        refine j_callVv C (d := 0) (As := [.int (sI 3008)]) (st := []) 98 (s_lt rfl rfl) (s_kc (c := 11) rfl rfl) (by decide) rfl (s1_X12_codes hM138 hpr 3008 (by omega) (by omega) (by omega)) gX12_readTruth_X12_codes rfl hdX12_codes (by decide) (Nat.le_of_ble_eq_true rfl) dX12_readTruth_23 rfl (fun M143 h144 => ?_)
        obtain ⟨hM143, fM143, h145⟩ := h144
        refine j_goto C 5 dX12_readTruth_26 (by decide) ?_
        have u146n := INV.rd hM143 (i := 102) (c := 48) (k := 280) rfl rfl
        have u146p := fun h => ap_bin (M := M138) (N := M143) (c := 3008) (by omega) h
        have u146t := fun h1 h2 => ex_tr (M := M0) (N := M138) (P := M143) (r1 := 0) (e1 := 2) (r2 := 2) (e2 := (-1)) (r := 0) (e := 1) (by decide) h1 h2
        have zz98_9 : (M143.1 98 9).toInt = (M138.1 98 9).toInt := s_fF fM143 (by decide) (rfl); have zz98_8 : (M143.1 98 8).toInt = (M138.1 98 8).toInt := s_fF fM143 (by decide) (rfl); have zz98_7 : (M143.1 98 7).toInt = (M138.1 98 7).toInt := s_fF fM143 (by decide) (rfl); have zz98_6 : (M143.1 98 6).toInt = (M138.1 98 6).toInt := s_fF fM143 (by decide) (rfl); have zz98_11 : (M143.1 98 11).toInt = (M138.1 98 11).toInt := s_fF fM143 (by decide) (rfl); exact ih126 M143 (by omega) hM143 ((((FR.rf.tr fM128 (by decide)).tr fM131 (by decide)).tr fM138 (by decide)).tr fM143 (by decide))
  exact L127 2010 M103 (by omega) hM103 (FR.rf.tr fM103 (by decide))
set_option maxHeartbeats 4000000 in
theorem s5_X12_readUnit {l : Launch} {dC : Nat → ClassId} {dI : Nat → Nat → Nat} {ad : Nat → Nat} {cA : Nat → ClassId} {pr : Nat → Nat → Bool} {Kz : mm_M} {M0 : mm_M} (hM0 : INV pr Kz M0) (hpr : PM pr)  (hp0 : (M0.1 98 6).toInt ≤ (M0.1 98 7).toInt ∧ (M0.1 98 7).toInt ≤ (M0.1 98 8).toInt ∧ (M0.1 98 8).toInt ≤ 900 ∧ ((M0.1 98 9).toInt = 24 ∨ (M0.1 98 6).toInt < (M0.1 98 7).toInt)) (hp1 : ¬ (M0.1 98 11).toInt = 0 ∨ (M0.1 102 280).toInt ≤ (M0.1 98 6).toInt) (hp2 : 0 ≤ (M0.1 102 280).toInt) (hp3 : b01 (PI M0) = 1) : Cv l 22 yX12_readUnit wsX12_readUnit dC dI ad cA [.ref (ad 98), .int (sI 2)] M0 (fun M' => INV pr Kz M' ∧ FR [98, 102] M0 M' ∧ ((M'.1 98 6).toInt ≤ (M'.1 98 7).toInt ∧ (M'.1 98 7).toInt ≤ (M'.1 98 8).toInt ∧ (M'.1 98 8).toInt ≤ 900 ∧ ((M'.1 98 9).toInt = 24 ∨ (M'.1 98 6).toInt < (M'.1 98 7).toInt)) ∧ ((M'.1 98 8).toInt = (M0.1 98 8).toInt) ∧ ((M0.1 98 6).toInt ≤ (M'.1 98 6).toInt) ∧ (0 ≤ (M'.1 102 280).toInt) ∧ (¬ (M'.1 98 11).toInt = 0 ∨ (M0.1 98 11).toInt = 0 ∧ (M'.1 102 280).toInt - (M'.1 98 6).toInt + 0 ≤ (M0.1 102 280).toInt - (M0.1 98 6).toInt ∧ (M0.1 102 280).toInt ≤ (M'.1 102 280).toInt ∧ b01 (EXT M0 M' 0 1) = 1) ∧ (b01 (PI M') = 1)) := by
  refine cv_of (cc := cX12_readUnit) (maxL := 3) (lv := [(0, .ref (ad 98)), (1, .int (sI 2))]) (by decide) rfl (Nat.le_of_ble_eq_true rfl) rfl ?_
  intro p e s m args below meth c A Q C hret
  have u101z := ex_0 M0
  have u101n := INV.rd hM0 (i := 102) (c := 48) (k := 280) rfl rfl
  refine j_aload_n C 0 0 dX12_readUnit_0 rfl rfl ?_
  refine y_bipush C dX12_readUnit_1 rfl ?_
  refine j_callVi C (d := 0) (As := [.int (sI 16)]) (st := []) 98 (s_lt rfl rfl) (s_kc (c := 11) rfl rfl) (by decide) rfl (s1_X12_is hM0 16 (by omega)) gX12_readUnit_X12_is rfl hdX12_is (by decide) (Nat.le_of_ble_eq_true rfl) dX12_readUnit_3 rfl (fun r102 M103 h104 => ?_)
  obtain ⟨a106, rfl, rfl, h105⟩ := h104
  refine y_if_eq C 33 dX12_readUnit_6 (by decide) (by omega) (fun h107 => ?_) (fun h107 => ?_)
  · refine j_aload_n C 0 0 dX12_readUnit_33 rfl rfl ?_
    refine y_bipush C dX12_readUnit_34 rfl ?_
    refine j_callVi C (d := 0) (As := [.int (sI 37)]) (st := []) 98 (s_lt rfl rfl) (s_kc (c := 11) rfl rfl) (by decide) rfl (s1_X12_is hM0 37 (by omega)) gX12_readUnit_X12_is rfl hdX12_is (by decide) (Nat.le_of_ble_eq_true rfl) dX12_readUnit_36 rfl (fun r108 M109 h110 => ?_)
    obtain ⟨a112, rfl, rfl, h111⟩ := h110
    refine y_if_eq C 73 dX12_readUnit_39 (by decide) (by omega) (fun h113 => ?_) (fun h113 => ?_)
    · refine j_aload_n C 0 0 dX12_readUnit_73 rfl rfl ?_
      refine j_iload_n C 1 1 dX12_readUnit_74 rfl rfl ?_
      refine j_callVv C (d := 21) (As := [.int (sI 2)]) (st := []) 98 (s_lt rfl rfl) (s_kc (c := 11) rfl rfl) (by decide) rfl (s5_X12_readSum hM0 hpr (by omega) (by omega) (by omega) (by omega)) gX12_readUnit_X12_readSum rfl hdX12_readSum (by decide) (Nat.le_of_ble_eq_true rfl) dX12_readUnit_75 rfl (fun M115 h116 => ?_)
      obtain ⟨hM115, fM115, h117⟩ := h116
      have u118t := fun h1 h2 => ex_tr (M := M0) (N := M0) (P := M115) (r1 := 0) (e1 := 0) (r2 := 0) (e2 := 1) (r := 0) (e := 1) (by decide) h1 h2
      have u118n := INV.rd hM115 (i := 102) (c := 48) (k := 280) rfl rfl
      refine j_aload_n C 0 0 dX12_readUnit_78 rfl rfl ?_
      refine y_bipush C dX12_readUnit_79 rfl ?_
      refine j_callVi C (d := 0) (As := [.int (sI 39)]) (st := []) 98 (s_lt rfl rfl) (s_kc (c := 11) rfl rfl) (by decide) rfl (s1_X12_is hM115 39 (by omega)) gX12_readUnit_X12_is rfl hdX12_is (by decide) (Nat.le_of_ble_eq_true rfl) dX12_readUnit_81 rfl (fun r119 M120 h121 => ?_)
      obtain ⟨a123, rfl, rfl, h122⟩ := h121
      have J132 : ∀ (a131 : Int), (3003 ≤ a131 ∧ a131 ≤ 3005) → jj p l e (cn_R 22) s m args below meth c 0 0 Q 3 dC dI ad cA A M115 111 [(0, .ref (ad 98)), (1, .int (sI 2))] [.int (sI a131)] := by
        intro a131 h133
        refine j_istore_n C 2 [(2, .int (sI a131)), (0, .ref (ad 98)), (1, .int (sI 2))] dX12_readUnit_111 rfl (by decide) rfl ?_
        refine j_aload_n C 1 0 dX12_readUnit_112 rfl rfl ?_
        refine y_bipush C dX12_readUnit_113 rfl ?_
        refine j_callVi C (d := 0) (As := [.int (sI 39)]) (st := []) 98 (s_lt rfl rfl) (s_kc (c := 11) rfl rfl) (by decide) rfl (s1_X12_is hM115 39 (by omega)) gX12_readUnit_X12_is rfl hdX12_is (by decide) (Nat.le_of_ble_eq_true rfl) dX12_readUnit_115 rfl (fun r134 M135 h136 => ?_)
        obtain ⟨a138, rfl, rfl, h137⟩ := h136
        have J173 : ∀ (M172 : mm_M), (((M172.1 98 6).toInt ≤ (M172.1 98 7).toInt ∧ (M172.1 98 7).toInt ≤ (M172.1 98 8).toInt ∧ (M172.1 98 8).toInt ≤ 900 ∧ ((M172.1 98 9).toInt = 24 ∨ (M172.1 98 6).toInt < (M172.1 98 7).toInt)) ∧ ((M172.1 98 8).toInt = (M0.1 98 8).toInt) ∧ ((M0.1 98 6).toInt ≤ (M172.1 98 6).toInt) ∧ (0 ≤ (M172.1 102 280).toInt) ∧ (¬ (M172.1 98 11).toInt = 0 ∨ (M0.1 98 11).toInt = 0 ∧ (M172.1 102 280).toInt - (M172.1 98 6).toInt + 1 ≤ (M0.1 102 280).toInt - (M0.1 98 6).toInt ∧ (M0.1 102 280).toInt ≤ (M172.1 102 280).toInt ∧ b01 (EXT M0 M172 0 1) = 1) ∧ (b01 (PI M172) = 1)) → INV pr Kz M172 → FR [98, 102] M0 M172 → jj p l e (cn_R 22) s m args below meth c 0 0 Q 3 dC dI ad cA A M172 151 [(0, .ref (ad 98)), (1, .int (sI 2)), (2, .int (sI a131))] [] := by
          intro M172 h174 hM172 fM172
          have u175c := fun h => ex_c (M := M0) (N := M0) (P := M172) (r := 0) (e := 1) (FR.cell fM172 (by decide)) h
          have u175n := INV.rd hM172 (i := 102) (c := 48) (k := 280) rfl rfl
          refine j_aload_n C 0 0 dX12_readUnit_151 rfl rfl ?_
          refine j_iload_n C 1 1 dX12_readUnit_152 rfl rfl ?_
          refine j_callVv C (d := 21) (As := [.int (sI 2)]) (st := []) 98 (s_lt rfl rfl) (s_kc (c := 11) rfl rfl) (by decide) rfl (s5_X12_readSum hM172 hpr (by omega) (by omega) (by omega) (by omega)) gX12_readUnit_X12_readSum rfl hdX12_readSum (by decide) (Nat.le_of_ble_eq_true rfl) dX12_readUnit_153 rfl (fun M177 h178 => ?_)
          obtain ⟨hM177, fM177, h179⟩ := h178
          have u180t := fun h1 h2 => ex_tr (M := M0) (N := M172) (P := M177) (r1 := 0) (e1 := 1) (r2 := 0) (e2 := 1) (r := 0) (e := 2) (by decide) h1 h2
          have u180n := INV.rd hM177 (i := 102) (c := 48) (k := 280) rfl rfl
          refine j_aload_n C 0 0 dX12_readUnit_156 rfl rfl ?_
          refine j_iload_n C 2 2 dX12_readUnit_157 rfl rfl ?_
          refine j_callVv C (d := 0) (As := [.int (sI a131)]) (st := []) 98 (s_lt rfl rfl) (s_kc (c := 11) rfl rfl) (by decide) rfl (s1_X12_codes hM177 hpr a131 (by omega) (by omega) (by omega)) gX12_readUnit_X12_codes rfl hdX12_codes (by decide) (Nat.le_of_ble_eq_true rfl) dX12_readUnit_158 rfl (fun M182 h183 => ?_)
          obtain ⟨hM182, fM182, h184⟩ := h183
          have u185n := INV.rd hM182 (i := 102) (c := 48) (k := 280) rfl rfl
          have u185p := fun h => ap_bin (M := M177) (N := M182) (c := a131) (by omega) h
          have u185t := fun h1 h2 => ex_tr (M := M0) (N := M177) (P := M182) (r1 := 0) (e1 := 2) (r2 := 2) (e2 := (-1)) (r := 0) (e := 1) (by decide) h1 h2
          have u186n := INV.rd hM182 (i := 102) (c := 48) (k := 280) rfl rfl
          have zz98_11 : (M182.1 98 11).toInt = (M177.1 98 11).toInt := s_fF fM182 (by decide) (rfl); have zz98_6 : (M182.1 98 6).toInt = (M177.1 98 6).toInt := s_fF fM182 (by decide) (rfl); have zz98_7 : (M182.1 98 7).toInt = (M177.1 98 7).toInt := s_fF fM182 (by decide) (rfl); have zz98_8 : (M182.1 98 8).toInt = (M177.1 98 8).toInt := s_fF fM182 (by decide) (rfl); have zz98_9 : (M182.1 98 9).toInt = (M177.1 98 9).toInt := s_fF fM182 (by decide) (rfl); exact hret _ _ _ dX12_readUnit_161 ⟨hM182, (((FR.rf.tr fM172 (by decide)).tr fM177 (by decide)).tr fM182 (by decide)), by omega⟩
        refine y_if_ne C 139 dX12_readUnit_118 (by decide) (by omega) (fun h139 => ?_) (fun h139 => ?_)
        · refine j_aload_n C 1 0 dX12_readUnit_139 rfl rfl ?_
          refine j_callVv C (d := 5) (As := []) (st := []) 98 (s_lt rfl rfl) (s_kc (c := 11) rfl rfl) (by decide) rfl (s1_X12_next hM115 hpr (by omega) (by omega) (by omega)) gX12_readUnit_X12_next rfl hdX12_next (by decide) (Nat.le_of_ble_eq_true rfl) dX12_readUnit_140 rfl (fun M141 h142 => ?_)
          obtain ⟨hM141, fM141, h143⟩ := h142
          refine j_goto C 151 dX12_readUnit_143 (by decide) ?_
          have u144c := fun h => ex_c (M := M0) (N := M115) (P := M141) (r := 0) (e := 1) (FR.cell fM141 (by decide)) h
          have u144n := INV.rd hM141 (i := 102) (c := 48) (k := 280) rfl rfl
          have zz102_280 : (M141.1 102 280).toInt = (M115.1 102 280).toInt := s_fF fM141 (by decide) (rfl); refine j_lv [1, 2, 0] rfl ?_; exact J173 M141 (by omega) hM141 ((FR.rf.tr fM115 (by decide)).tr fM141 (by decide))
        · refine j_aload_n C 1 0 dX12_readUnit_121 rfl rfl ?_
          refine y_bipush C dX12_readUnit_122 rfl ?_
          refine j_callVi C (d := 0) (As := [.int (sI 40)]) (st := []) 98 (s_lt rfl rfl) (s_kc (c := 11) rfl rfl) (by decide) rfl (s1_X12_is hM115 40 (by omega)) gX12_readUnit_X12_is rfl hdX12_is (by decide) (Nat.le_of_ble_eq_true rfl) dX12_readUnit_124 rfl (fun r145 M146 h147 => ?_)
          obtain ⟨a149, rfl, rfl, h148⟩ := h147
          refine y_if_ne C 139 dX12_readUnit_127 (by decide) (by omega) (fun h150 => ?_) (fun h150 => ?_)
          · refine j_aload_n C 1 0 dX12_readUnit_139 rfl rfl ?_
            refine j_callVv C (d := 5) (As := []) (st := []) 98 (s_lt rfl rfl) (s_kc (c := 11) rfl rfl) (by decide) rfl (s1_X12_next hM115 hpr (by omega) (by omega) (by omega)) gX12_readUnit_X12_next rfl hdX12_next (by decide) (Nat.le_of_ble_eq_true rfl) dX12_readUnit_140 rfl (fun M152 h153 => ?_)
            obtain ⟨hM152, fM152, h154⟩ := h153
            refine j_goto C 151 dX12_readUnit_143 (by decide) ?_
            have u155c := fun h => ex_c (M := M0) (N := M115) (P := M152) (r := 0) (e := 1) (FR.cell fM152 (by decide)) h
            have u155n := INV.rd hM152 (i := 102) (c := 48) (k := 280) rfl rfl
            have zz102_280 : (M152.1 102 280).toInt = (M115.1 102 280).toInt := s_fF fM152 (by decide) (rfl); refine j_lv [1, 2, 0] rfl ?_; exact J173 M152 (by omega) hM152 ((FR.rf.tr fM115 (by decide)).tr fM152 (by decide))
          · refine j_aload_n C 1 0 dX12_readUnit_130 rfl rfl ?_
            refine y_bipush C dX12_readUnit_131 rfl ?_
            refine j_callVi C (d := 0) (As := [.int (sI 41)]) (st := []) 98 (s_lt rfl rfl) (s_kc (c := 11) rfl rfl) (by decide) rfl (s1_X12_is hM115 41 (by omega)) gX12_readUnit_X12_is rfl hdX12_is (by decide) (Nat.le_of_ble_eq_true rfl) dX12_readUnit_133 rfl (fun r156 M157 h158 => ?_)
            obtain ⟨a160, rfl, rfl, h159⟩ := h158
            refine y_if_eq C 146 dX12_readUnit_136 (by decide) (by omega) (fun h161 => ?_) (fun h161 => ?_)
            · refine j_aload_n C 1 0 dX12_readUnit_146 rfl rfl ?_
              refine y_iconst C dX12_readUnit_147 ?_
              refine j_callVv C (d := 0) (As := [.int (sI 2)]) (st := []) 98 (s_lt rfl rfl) (s_kc (c := 11) rfl rfl) (by decide) rfl (s1_X12_fails hM115 hpr 2 (by omega) (by omega) (by omega)) gX12_readUnit_X12_fails rfl hdX12_fails (by decide) (Nat.le_of_ble_eq_true rfl) dX12_readUnit_148 rfl (fun M163 h164 => ?_)
              obtain ⟨hM163, fM163, h165⟩ := h164
              have u166c := fun h => ex_c (M := M0) (N := M115) (P := M163) (r := 0) (e := 1) (FR.cell fM163 (by decide)) h
              have u166n := INV.rd hM163 (i := 102) (c := 48) (k := 280) rfl rfl
              have zz102_280 : (M163.1 102 280).toInt = (M115.1 102 280).toInt := s_fF fM163 (by decide) (rfl); refine j_lv [1, 2, 0] rfl ?_; exact J173 M163 (by omega) hM163 ((FR.rf.tr fM115 (by decide)).tr fM163 (by decide))
            · refine j_aload_n C 1 0 dX12_readUnit_139 rfl rfl ?_
              refine j_callVv C (d := 5) (As := []) (st := []) 98 (s_lt rfl rfl) (s_kc (c := 11) rfl rfl) (by decide) rfl (s1_X12_next hM115 hpr (by omega) (by omega) (by omega)) gX12_readUnit_X12_next rfl hdX12_next (by decide) (Nat.le_of_ble_eq_true rfl) dX12_readUnit_140 rfl (fun M168 h169 => ?_)
              obtain ⟨hM168, fM168, h170⟩ := h169
              refine j_goto C 151 dX12_readUnit_143 (by decide) ?_
              have u171c := fun h => ex_c (M := M0) (N := M115) (P := M168) (r := 0) (e := 1) (FR.cell fM168 (by decide)) h
              have u171n := INV.rd hM168 (i := 102) (c := 48) (k := 280) rfl rfl
              have zz102_280 : (M168.1 102 280).toInt = (M115.1 102 280).toInt := s_fF fM168 (by decide) (rfl); refine j_lv [1, 2, 0] rfl ?_; exact J173 M168 (by omega) hM168 ((FR.rf.tr fM115 (by decide)).tr fM168 (by decide))
      refine y_if_eq C 93 dX12_readUnit_84 (by decide) (by omega) (fun h124 => ?_) (fun h124 => ?_)
      · refine j_aload_n C 0 0 dX12_readUnit_93 rfl rfl ?_
        refine y_bipush C dX12_readUnit_94 rfl ?_
        refine j_callVi C (d := 0) (As := [.int (sI 40)]) (st := []) 98 (s_lt rfl rfl) (s_kc (c := 11) rfl rfl) (by decide) rfl (s1_X12_is hM115 40 (by omega)) gX12_readUnit_X12_is rfl hdX12_is (by decide) (Nat.le_of_ble_eq_true rfl) dX12_readUnit_96 rfl (fun r125 M126 h127 => ?_)
        obtain ⟨a129, rfl, rfl, h128⟩ := h127
        refine y_if_eq C 108 dX12_readUnit_99 (by decide) (by omega) (fun h130 => ?_) (fun h130 => ?_)
        · refine y_sipush C dX12_readUnit_108 rfl ?_
          exact J132 3005 (by omega)
        · refine y_sipush C dX12_readUnit_102 rfl ?_
          refine j_goto C 111 dX12_readUnit_105 (by decide) ?_
          exact J132 3004 (by omega)
      · refine y_sipush C dX12_readUnit_87 rfl ?_
        refine j_goto C 111 dX12_readUnit_90 (by decide) ?_
        exact J132 3003 (by omega)
    · refine j_aload_n C 0 0 dX12_readUnit_42 rfl rfl ?_
      refine j_iload_n C 1 1 dX12_readUnit_43 rfl rfl ?_
      refine j_callVi C (d := 6) (As := [.int (sI 2)]) (st := []) 98 (s_lt rfl rfl) (s_kc (c := 11) rfl rfl) (by decide) rfl (s3_X12_goesIn hM0 hpr (by omega) (by omega)) gX12_readUnit_X12_goesIn rfl hdX12_goesIn (by decide) (Nat.le_of_ble_eq_true rfl) dX12_readUnit_44 rfl (fun r187 M188 h189 => ?_)
      obtain ⟨a191, rfl, hM188, fM188, h190⟩ := h189
      have u192c := fun h => ex_c (M := M0) (N := M0) (P := M188) (r := 0) (e := 0) (FR.cell fM188 (by decide)) h
      have u192n := INV.rd hM188 (i := 102) (c := 48) (k := 280) rfl rfl
      refine y_if_ne C 51 dX12_readUnit_47 (by decide) (by omega) (fun h193 => ?_) (fun h193 => ?_)
      · refine j_aload_n C 0 0 dX12_readUnit_51 rfl rfl ?_
        refine j_iload_n C 1 1 dX12_readUnit_52 rfl rfl ?_
        refine y_iconst C dX12_readUnit_53 ?_
        refine y_iadd C dX12_readUnit_54 ?_
        refine j_callVv C (d := 21) (As := [.int (sI (2 + 1))]) (st := []) 98 (s_lt rfl rfl) (s_kc (c := 11) rfl rfl) (by decide) rfl (s4_X12_readTruth hM188 hpr (by omega) (by omega) (by omega) (by omega)) gX12_readUnit_X12_readTruth rfl hdX12_readTruth (by decide) (Nat.le_of_ble_eq_true rfl) dX12_readUnit_55 rfl (fun M195 h196 => ?_)
        obtain ⟨hM195, fM195, h197⟩ := h196
        have u198t := fun h1 h2 => ex_tr (M := M0) (N := M188) (P := M195) (r1 := 0) (e1 := 0) (r2 := 0) (e2 := 1) (r := 0) (e := 1) (by decide) h1 h2
        have u198n := INV.rd hM195 (i := 102) (c := 48) (k := 280) rfl rfl
        refine j_aload_n C 0 0 dX12_readUnit_58 rfl rfl ?_
        refine y_bipush C dX12_readUnit_59 rfl ?_
        refine j_callVi C (d := 6) (As := [.int (sI 38)]) (st := []) 98 (s_lt rfl rfl) (s_kc (c := 11) rfl rfl) (by decide) rfl (s1_X12_eats hM195 hpr 38 (by omega) (by omega) (by omega) (by omega)) gX12_readUnit_X12_eats rfl hdX12_eats (by decide) (Nat.le_of_ble_eq_true rfl) dX12_readUnit_61 rfl (fun r199 M200 h201 => ?_)
        obtain ⟨a203, rfl, hM200, fM200, h202⟩ := h201
        have u204c := fun h => ex_c (M := M0) (N := M195) (P := M200) (r := 0) (e := 1) (FR.cell fM200 (by decide)) h
        have u204n := INV.rd hM200 (i := 102) (c := 48) (k := 280) rfl rfl
        refine y_if_ne C 72 dX12_readUnit_64 (by decide) (by omega) (fun h205 => ?_) (fun h205 => ?_)
        · have u206c := fun h => ex_c (M := M0) (N := M195) (P := M200) (r := 0) (e := 1) (FR.cell fM200 (by decide)) h
          have u206d := fun h => ex_c (M := M0) (N := M195) (P := M200) (r := 0) (e := 0) (FR.cell fM200 (by decide)) h
          have u206n := INV.rd hM200 (i := 102) (c := 48) (k := 280) rfl rfl
          have zz102_280 : (M200.1 102 280).toInt = (M195.1 102 280).toInt := s_fF fM200 (by decide) (rfl); exact hret _ _ _ dX12_readUnit_72 ⟨hM200, (((FR.rf.tr fM188 (by decide)).tr fM195 (by decide)).tr fM200 (by decide)), by omega⟩
        · refine j_aload_n C 0 0 dX12_readUnit_67 rfl rfl ?_
          refine y_iconst C dX12_readUnit_68 ?_
          refine j_callVv C (d := 0) (As := [.int (sI 2)]) (st := []) 98 (s_lt rfl rfl) (s_kc (c := 11) rfl rfl) (by decide) rfl (s1_X12_fails hM200 hpr 2 (by omega) (by omega) (by omega)) gX12_readUnit_X12_fails rfl hdX12_fails (by decide) (Nat.le_of_ble_eq_true rfl) dX12_readUnit_69 rfl (fun M208 h209 => ?_)
          obtain ⟨hM208, fM208, h210⟩ := h209
          have u211c := fun h => ex_c (M := M0) (N := M200) (P := M208) (r := 0) (e := 1) (FR.cell fM208 (by decide)) h
          have u211d := fun h => ex_c (M := M0) (N := M200) (P := M208) (r := 0) (e := 0) (FR.cell fM208 (by decide)) h
          have u211n := INV.rd hM208 (i := 102) (c := 48) (k := 280) rfl rfl
          have zz102_280 : (M208.1 102 280).toInt = (M195.1 102 280).toInt := s_fF fM200 (by decide) (s_fF fM208 (by decide) (rfl)); exact hret _ _ _ dX12_readUnit_72 ⟨hM208, ((((FR.rf.tr fM188 (by decide)).tr fM195 (by decide)).tr fM200 (by decide)).tr fM208 (by decide)), by omega⟩
      · have u212c := fun h => ex_c (M := M0) (N := M0) (P := M188) (r := 0) (e := 1) (FR.cell fM188 (by decide)) h
        have u212d := fun h => ex_c (M := M0) (N := M0) (P := M188) (r := 0) (e := 0) (FR.cell fM188 (by decide)) h
        have u212n := INV.rd hM188 (i := 102) (c := 48) (k := 280) rfl rfl
        have zz102_280 : (M188.1 102 280).toInt = (M0.1 102 280).toInt := s_fF fM188 (by decide) (rfl); exact hret _ _ _ dX12_readUnit_50 ⟨hM188, (FR.rf.tr fM188 (by decide)), by omega⟩
  · refine j_aload_n C 0 0 dX12_readUnit_9 rfl rfl ?_
    refine j_iload_n C 1 1 dX12_readUnit_10 rfl rfl ?_
    refine j_callVi C (d := 6) (As := [.int (sI 2)]) (st := []) 98 (s_lt rfl rfl) (s_kc (c := 11) rfl rfl) (by decide) rfl (s3_X12_goesIn hM0 hpr (by omega) (by omega)) gX12_readUnit_X12_goesIn rfl hdX12_goesIn (by decide) (Nat.le_of_ble_eq_true rfl) dX12_readUnit_11 rfl (fun r213 M214 h215 => ?_)
    obtain ⟨a217, rfl, hM214, fM214, h216⟩ := h215
    have u218c := fun h => ex_c (M := M0) (N := M0) (P := M214) (r := 0) (e := 0) (FR.cell fM214 (by decide)) h
    have u218n := INV.rd hM214 (i := 102) (c := 48) (k := 280) rfl rfl
    refine y_if_ne C 18 dX12_readUnit_14 (by decide) (by omega) (fun h219 => ?_) (fun h219 => ?_)
    · refine j_aload_n C 0 0 dX12_readUnit_18 rfl rfl ?_
      refine j_iload_n C 1 1 dX12_readUnit_19 rfl rfl ?_
      refine y_iconst C dX12_readUnit_20 ?_
      refine y_iadd C dX12_readUnit_21 ?_
      refine j_callVv C (d := 19) (As := [.int (sI (2 + 1))]) (st := []) 98 (s_lt rfl rfl) (s_kc (c := 11) rfl rfl) (by decide) rfl (s4_X12_readUnit hM214 hpr (by omega) (by omega) (by omega) (by omega)) gX12_readUnit_X12_readUnit rfl hdX12_readUnit (by decide) (Nat.le_of_ble_eq_true rfl) dX12_readUnit_22 rfl (fun M221 h222 => ?_)
      obtain ⟨hM221, fM221, h223⟩ := h222
      have u224t := fun h1 h2 => ex_tr (M := M0) (N := M214) (P := M221) (r1 := 0) (e1 := 0) (r2 := 0) (e2 := 1) (r := 0) (e := 1) (by decide) h1 h2
      have u224n := INV.rd hM221 (i := 102) (c := 48) (k := 280) rfl rfl
      refine j_aload_n C 0 0 dX12_readUnit_25 rfl rfl ?_
      refine y_sipush C dX12_readUnit_26 rfl ?_
      refine j_callVv C (d := 0) (As := [.int (sI 3006)]) (st := []) 98 (s_lt rfl rfl) (s_kc (c := 11) rfl rfl) (by decide) rfl (s1_X12_codes hM221 hpr 3006 (by omega) (by omega) (by omega)) gX12_readUnit_X12_codes rfl hdX12_codes (by decide) (Nat.le_of_ble_eq_true rfl) dX12_readUnit_29 rfl (fun M226 h227 => ?_)
      obtain ⟨hM226, fM226, h228⟩ := h227
      have u229n := INV.rd hM226 (i := 102) (c := 48) (k := 280) rfl rfl
      have u229p := fun h => ap_not (M := M221) (N := M226) (by omega) h
      have u229t := fun h1 h2 => ex_tr (M := M0) (N := M221) (P := M226) (r1 := 0) (e1 := 1) (r2 := 1) (e2 := 0) (r := 0) (e := 1) (by decide) h1 h2
      have u230n := INV.rd hM226 (i := 102) (c := 48) (k := 280) rfl rfl
      have zz98_11 : (M226.1 98 11).toInt = (M221.1 98 11).toInt := s_fF fM226 (by decide) (rfl); have zz98_6 : (M226.1 98 6).toInt = (M221.1 98 6).toInt := s_fF fM226 (by decide) (rfl); have zz98_7 : (M226.1 98 7).toInt = (M221.1 98 7).toInt := s_fF fM226 (by decide) (rfl); have zz98_8 : (M226.1 98 8).toInt = (M221.1 98 8).toInt := s_fF fM226 (by decide) (rfl); have zz98_9 : (M226.1 98 9).toInt = (M221.1 98 9).toInt := s_fF fM226 (by decide) (rfl); exact hret _ _ _ dX12_readUnit_32 ⟨hM226, (((FR.rf.tr fM214 (by decide)).tr fM221 (by decide)).tr fM226 (by decide)), by omega⟩
    · have u231c := fun h => ex_c (M := M0) (N := M0) (P := M214) (r := 0) (e := 1) (FR.cell fM214 (by decide)) h
      have u231d := fun h => ex_c (M := M0) (N := M0) (P := M214) (r := 0) (e := 0) (FR.cell fM214 (by decide)) h
      have u231n := INV.rd hM214 (i := 102) (c := 48) (k := 280) rfl rfl
      have zz102_280 : (M214.1 102 280).toInt = (M0.1 102 280).toInt := s_fF fM214 (by decide) (rfl); exact hret _ _ _ dX12_readUnit_17 ⟨hM214, (FR.rf.tr fM214 (by decide)), by omega⟩
set_option maxHeartbeats 4000000 in
theorem s5_X12_readBoth {l : Launch} {dC : Nat → ClassId} {dI : Nat → Nat → Nat} {ad : Nat → Nat} {cA : Nat → ClassId} {pr : Nat → Nat → Bool} {Kz : mm_M} {M0 : mm_M} (hM0 : INV pr Kz M0) (hpr : PM pr)  (hp0 : (M0.1 98 6).toInt ≤ (M0.1 98 7).toInt ∧ (M0.1 98 7).toInt ≤ (M0.1 98 8).toInt ∧ (M0.1 98 8).toInt ≤ 900 ∧ ((M0.1 98 9).toInt = 24 ∨ (M0.1 98 6).toInt < (M0.1 98 7).toInt)) (hp1 : ¬ (M0.1 98 11).toInt = 0 ∨ (M0.1 102 280).toInt ≤ (M0.1 98 6).toInt) (hp2 : 0 ≤ (M0.1 102 280).toInt) (hp3 : b01 (PI M0) = 1) : Cv l 23 yX12_readBoth wsX12_readBoth dC dI ad cA [.ref (ad 98), .int (sI 2)] M0 (fun M' => INV pr Kz M' ∧ FR [98, 102] M0 M' ∧ ((M'.1 98 6).toInt ≤ (M'.1 98 7).toInt ∧ (M'.1 98 7).toInt ≤ (M'.1 98 8).toInt ∧ (M'.1 98 8).toInt ≤ 900 ∧ ((M'.1 98 9).toInt = 24 ∨ (M'.1 98 6).toInt < (M'.1 98 7).toInt)) ∧ ((M'.1 98 8).toInt = (M0.1 98 8).toInt) ∧ ((M0.1 98 6).toInt ≤ (M'.1 98 6).toInt) ∧ (0 ≤ (M'.1 102 280).toInt) ∧ (¬ (M'.1 98 11).toInt = 0 ∨ (M0.1 98 11).toInt = 0 ∧ (M'.1 102 280).toInt - (M'.1 98 6).toInt + 0 ≤ (M0.1 102 280).toInt - (M0.1 98 6).toInt ∧ (M0.1 102 280).toInt ≤ (M'.1 102 280).toInt ∧ b01 (EXT M0 M' 0 1) = 1) ∧ (b01 (PI M') = 1)) := by
  refine cv_of (cc := cX12_readBoth) (maxL := 2) (lv := [(0, .ref (ad 98)), (1, .int (sI 2))]) (by decide) rfl (Nat.le_of_ble_eq_true rfl) rfl ?_
  intro p e s m args below meth c A Q C hret
  have u101z := ex_0 M0
  have u101n := INV.rd hM0 (i := 102) (c := 48) (k := 280) rfl rfl
  refine j_aload_n C 0 0 dX12_readBoth_0 rfl rfl ?_
  refine j_iload_n C 1 1 dX12_readBoth_1 rfl rfl ?_
  refine j_callVv C (d := 22) (As := [.int (sI 2)]) (st := []) 98 (s_lt rfl rfl) (s_kc (c := 11) rfl rfl) (by decide) rfl (s5_X12_readUnit hM0 hpr (by omega) (by omega) (by omega) (by omega)) gX12_readBoth_X12_readUnit rfl hdX12_readUnit (by decide) (Nat.le_of_ble_eq_true rfl) dX12_readBoth_2 rfl (fun M103 h104 => ?_)
  obtain ⟨hM103, fM103, h105⟩ := h104
  have u106t := fun h1 h2 => ex_tr (M := M0) (N := M0) (P := M103) (r1 := 0) (e1 := 0) (r2 := 0) (e2 := 1) (r := 0) (e := 1) (by decide) h1 h2
  have u106n := INV.rd hM103 (i := 102) (c := 48) (k := 280) rfl rfl
  have L127 : ∀ (n125 : Nat), ∀ (M128 : mm_M), (((M128.1 98 6).toInt ≤ (M128.1 98 7).toInt ∧ (M128.1 98 7).toInt ≤ (M128.1 98 8).toInt ∧ (M128.1 98 8).toInt ≤ 900 ∧ ((M128.1 98 9).toInt = 24 ∨ (M128.1 98 6).toInt < (M128.1 98 7).toInt)) ∧ ((M128.1 98 8).toInt = (M0.1 98 8).toInt) ∧ ((M0.1 98 6).toInt ≤ (M128.1 98 6).toInt) ∧ (0 ≤ (M128.1 102 280).toInt) ∧ (¬ (M128.1 98 11).toInt = 0 ∨ (M0.1 98 11).toInt = 0 ∧ (M128.1 102 280).toInt - (M128.1 98 6).toInt + 0 ≤ (M0.1 102 280).toInt - (M0.1 98 6).toInt ∧ (M0.1 102 280).toInt ≤ (M128.1 102 280).toInt ∧ b01 (EXT M0 M128 0 1) = 1) ∧ (b01 (PI M128) = 1) ∧ (900 - (M128.1 98 6).toInt) < (n125 : Int)) → INV pr Kz M128 → FR [98, 102] M0 M128 → jj p l e (cn_R 23) s m args below meth c 0 0 Q 2 dC dI ad cA A M128 5 [(0, .ref (ad 98)), (1, .int (sI 2))] [] := by
    intro n125
    induction n125 with
    | zero =>
      intro M128 h129 hM128 fM128
      exfalso; omega
    | succ n125 ih126 =>
      intro M128 h129 hM128 fM128
      refine j_aload_n C 0 0 dX12_readBoth_5 rfl rfl ?_
      refine y_bipush C dX12_readBoth_6 rfl ?_
      refine j_callVi C (d := 6) (As := [.int (sI 14)]) (st := []) 98 (s_lt rfl rfl) (s_kc (c := 11) rfl rfl) (by decide) rfl (s1_X12_eats hM128 hpr 14 (by omega) (by omega) (by omega) (by omega)) gX12_readBoth_X12_eats rfl hdX12_eats (by decide) (Nat.le_of_ble_eq_true rfl) dX12_readBoth_8 rfl (fun r130 M131 h132 => ?_)
      obtain ⟨a134, rfl, hM131, fM131, h133⟩ := h132
      have u135c := fun h => ex_c (M := M0) (N := M128) (P := M131) (r := 0) (e := 1) (FR.cell fM131 (by decide)) h
      have u135n := INV.rd hM131 (i := 102) (c := 48) (k := 280) rfl rfl
      refine y_if_eq C 29 dX12_readBoth_11 (by decide) (by omega) (fun h136 => ?_) (fun h136 => ?_)
      · have u147c := fun h => ex_c (M := M0) (N := M128) (P := M131) (r := 0) (e := 1) (FR.cell fM131 (by decide)) h
        have u147d := fun h => ex_c (M := M0) (N := M128) (P := M131) (r := 0) (e := 0) (FR.cell fM131 (by decide)) h
        have u147n := INV.rd hM131 (i := 102) (c := 48) (k := 280) rfl rfl
        have zz102_280 : (M131.1 102 280).toInt = (M128.1 102 280).toInt := s_fF fM131 (by decide) (rfl); exact hret _ _ _ dX12_readBoth_29 ⟨hM131, ((FR.rf.tr fM128 (by decide)).tr fM131 (by decide)), by omega⟩
      · refine j_aload_n C 0 0 dX12_readBoth_14 rfl rfl ?_
        refine j_iload_n C 1 1 dX12_readBoth_15 rfl rfl ?_
        refine j_callVv C (d := 22) (As := [.int (sI 2)]) (st := []) 98 (s_lt rfl rfl) (s_kc (c := 11) rfl rfl) (by decide) rfl (s5_X12_readUnit hM131 hpr (by omega) (by omega) (by omega) (by omega)) gX12_readBoth_X12_readUnit rfl hdX12_readUnit (by decide) (Nat.le_of_ble_eq_true rfl) dX12_readBoth_16 rfl (fun M138 h139 => ?_)
        obtain ⟨hM138, fM138, h140⟩ := h139
        have u141t := fun h1 h2 => ex_tr (M := M0) (N := M131) (P := M138) (r1 := 0) (e1 := 1) (r2 := 0) (e2 := 1) (r := 0) (e := 2) (by decide) h1 h2
        have u141n := INV.rd hM138 (i := 102) (c := 48) (k := 280) rfl rfl
        refine j_aload_n C 0 0 dX12_readBoth_19 rfl rfl ?_
        refine y_sipush C dX12_readBoth_20 rfl ?_
        refine j_callVv C (d := 0) (As := [.int (sI 3007)]) (st := []) 98 (s_lt rfl rfl) (s_kc (c := 11) rfl rfl) (by decide) rfl (s1_X12_codes hM138 hpr 3007 (by omega) (by omega) (by omega)) gX12_readBoth_X12_codes rfl hdX12_codes (by decide) (Nat.le_of_ble_eq_true rfl) dX12_readBoth_23 rfl (fun M143 h144 => ?_)
        obtain ⟨hM143, fM143, h145⟩ := h144
        refine j_goto C 5 dX12_readBoth_26 (by decide) ?_
        have u146n := INV.rd hM143 (i := 102) (c := 48) (k := 280) rfl rfl
        have u146p := fun h => ap_bin (M := M138) (N := M143) (c := 3007) (by omega) h
        have u146t := fun h1 h2 => ex_tr (M := M0) (N := M138) (P := M143) (r1 := 0) (e1 := 2) (r2 := 2) (e2 := (-1)) (r := 0) (e := 1) (by decide) h1 h2
        have zz98_9 : (M143.1 98 9).toInt = (M138.1 98 9).toInt := s_fF fM143 (by decide) (rfl); have zz98_8 : (M143.1 98 8).toInt = (M138.1 98 8).toInt := s_fF fM143 (by decide) (rfl); have zz98_7 : (M143.1 98 7).toInt = (M138.1 98 7).toInt := s_fF fM143 (by decide) (rfl); have zz98_6 : (M143.1 98 6).toInt = (M138.1 98 6).toInt := s_fF fM143 (by decide) (rfl); have zz98_11 : (M143.1 98 11).toInt = (M138.1 98 11).toInt := s_fF fM143 (by decide) (rfl); exact ih126 M143 (by omega) hM143 ((((FR.rf.tr fM128 (by decide)).tr fM131 (by decide)).tr fM138 (by decide)).tr fM143 (by decide))
  exact L127 2010 M103 (by omega) hM103 (FR.rf.tr fM103 (by decide))
set_option maxHeartbeats 4000000 in
theorem s5_X12_readTruth {l : Launch} {dC : Nat → ClassId} {dI : Nat → Nat → Nat} {ad : Nat → Nat} {cA : Nat → ClassId} {pr : Nat → Nat → Bool} {Kz : mm_M} {M0 : mm_M} (hM0 : INV pr Kz M0) (hpr : PM pr)  (hp0 : (M0.1 98 6).toInt ≤ (M0.1 98 7).toInt ∧ (M0.1 98 7).toInt ≤ (M0.1 98 8).toInt ∧ (M0.1 98 8).toInt ≤ 900 ∧ ((M0.1 98 9).toInt = 24 ∨ (M0.1 98 6).toInt < (M0.1 98 7).toInt)) (hp1 : ¬ (M0.1 98 11).toInt = 0 ∨ (M0.1 102 280).toInt ≤ (M0.1 98 6).toInt) (hp2 : 0 ≤ (M0.1 102 280).toInt) (hp3 : b01 (PI M0) = 1) : Cv l 24 yX12_readTruth wsX12_readTruth dC dI ad cA [.ref (ad 98), .int (sI 2)] M0 (fun M' => INV pr Kz M' ∧ FR [98, 102] M0 M' ∧ ((M'.1 98 6).toInt ≤ (M'.1 98 7).toInt ∧ (M'.1 98 7).toInt ≤ (M'.1 98 8).toInt ∧ (M'.1 98 8).toInt ≤ 900 ∧ ((M'.1 98 9).toInt = 24 ∨ (M'.1 98 6).toInt < (M'.1 98 7).toInt)) ∧ ((M'.1 98 8).toInt = (M0.1 98 8).toInt) ∧ ((M0.1 98 6).toInt ≤ (M'.1 98 6).toInt) ∧ (0 ≤ (M'.1 102 280).toInt) ∧ (¬ (M'.1 98 11).toInt = 0 ∨ (M0.1 98 11).toInt = 0 ∧ (M'.1 102 280).toInt - (M'.1 98 6).toInt + 0 ≤ (M0.1 102 280).toInt - (M0.1 98 6).toInt ∧ (M0.1 102 280).toInt ≤ (M'.1 102 280).toInt ∧ b01 (EXT M0 M' 0 1) = 1) ∧ (b01 (PI M') = 1)) := by
  refine cv_of (cc := cX12_readTruth) (maxL := 2) (lv := [(0, .ref (ad 98)), (1, .int (sI 2))]) (by decide) rfl (Nat.le_of_ble_eq_true rfl) rfl ?_
  intro p e s m args below meth c A Q C hret
  have u101z := ex_0 M0
  have u101n := INV.rd hM0 (i := 102) (c := 48) (k := 280) rfl rfl
  refine j_aload_n C 0 0 dX12_readTruth_0 rfl rfl ?_
  refine j_iload_n C 1 1 dX12_readTruth_1 rfl rfl ?_
  refine j_callVv C (d := 23) (As := [.int (sI 2)]) (st := []) 98 (s_lt rfl rfl) (s_kc (c := 11) rfl rfl) (by decide) rfl (s5_X12_readBoth hM0 hpr (by omega) (by omega) (by omega) (by omega)) gX12_readTruth_X12_readBoth rfl hdX12_readBoth (by decide) (Nat.le_of_ble_eq_true rfl) dX12_readTruth_2 rfl (fun M103 h104 => ?_)
  obtain ⟨hM103, fM103, h105⟩ := h104
  have u106t := fun h1 h2 => ex_tr (M := M0) (N := M0) (P := M103) (r1 := 0) (e1 := 0) (r2 := 0) (e2 := 1) (r := 0) (e := 1) (by decide) h1 h2
  have u106n := INV.rd hM103 (i := 102) (c := 48) (k := 280) rfl rfl
  have L127 : ∀ (n125 : Nat), ∀ (M128 : mm_M), (((M128.1 98 6).toInt ≤ (M128.1 98 7).toInt ∧ (M128.1 98 7).toInt ≤ (M128.1 98 8).toInt ∧ (M128.1 98 8).toInt ≤ 900 ∧ ((M128.1 98 9).toInt = 24 ∨ (M128.1 98 6).toInt < (M128.1 98 7).toInt)) ∧ ((M128.1 98 8).toInt = (M0.1 98 8).toInt) ∧ ((M0.1 98 6).toInt ≤ (M128.1 98 6).toInt) ∧ (0 ≤ (M128.1 102 280).toInt) ∧ (¬ (M128.1 98 11).toInt = 0 ∨ (M0.1 98 11).toInt = 0 ∧ (M128.1 102 280).toInt - (M128.1 98 6).toInt + 0 ≤ (M0.1 102 280).toInt - (M0.1 98 6).toInt ∧ (M0.1 102 280).toInt ≤ (M128.1 102 280).toInt ∧ b01 (EXT M0 M128 0 1) = 1) ∧ (b01 (PI M128) = 1) ∧ (900 - (M128.1 98 6).toInt) < (n125 : Int)) → INV pr Kz M128 → FR [98, 102] M0 M128 → jj p l e (cn_R 24) s m args below meth c 0 0 Q 2 dC dI ad cA A M128 5 [(0, .ref (ad 98)), (1, .int (sI 2))] [] := by
    intro n125
    induction n125 with
    | zero =>
      intro M128 h129 hM128 fM128
      exfalso; omega
    | succ n125 ih126 =>
      intro M128 h129 hM128 fM128
      refine j_aload_n C 0 0 dX12_readTruth_5 rfl rfl ?_
      refine y_bipush C dX12_readTruth_6 rfl ?_
      refine j_callVi C (d := 6) (As := [.int (sI 15)]) (st := []) 98 (s_lt rfl rfl) (s_kc (c := 11) rfl rfl) (by decide) rfl (s1_X12_eats hM128 hpr 15 (by omega) (by omega) (by omega) (by omega)) gX12_readTruth_X12_eats rfl hdX12_eats (by decide) (Nat.le_of_ble_eq_true rfl) dX12_readTruth_8 rfl (fun r130 M131 h132 => ?_)
      obtain ⟨a134, rfl, hM131, fM131, h133⟩ := h132
      have u135c := fun h => ex_c (M := M0) (N := M128) (P := M131) (r := 0) (e := 1) (FR.cell fM131 (by decide)) h
      have u135n := INV.rd hM131 (i := 102) (c := 48) (k := 280) rfl rfl
      refine y_if_eq C 29 dX12_readTruth_11 (by decide) (by omega) (fun h136 => ?_) (fun h136 => ?_)
      · have u147c := fun h => ex_c (M := M0) (N := M128) (P := M131) (r := 0) (e := 1) (FR.cell fM131 (by decide)) h
        have u147d := fun h => ex_c (M := M0) (N := M128) (P := M131) (r := 0) (e := 0) (FR.cell fM131 (by decide)) h
        have u147n := INV.rd hM131 (i := 102) (c := 48) (k := 280) rfl rfl
        have zz102_280 : (M131.1 102 280).toInt = (M128.1 102 280).toInt := s_fF fM131 (by decide) (rfl); exact hret _ _ _ dX12_readTruth_29 ⟨hM131, ((FR.rf.tr fM128 (by decide)).tr fM131 (by decide)), by omega⟩
      · refine j_aload_n C 0 0 dX12_readTruth_14 rfl rfl ?_
        refine j_iload_n C 1 1 dX12_readTruth_15 rfl rfl ?_
        refine j_callVv C (d := 23) (As := [.int (sI 2)]) (st := []) 98 (s_lt rfl rfl) (s_kc (c := 11) rfl rfl) (by decide) rfl (s5_X12_readBoth hM131 hpr (by omega) (by omega) (by omega) (by omega)) gX12_readTruth_X12_readBoth rfl hdX12_readBoth (by decide) (Nat.le_of_ble_eq_true rfl) dX12_readTruth_16 rfl (fun M138 h139 => ?_)
        obtain ⟨hM138, fM138, h140⟩ := h139
        have u141t := fun h1 h2 => ex_tr (M := M0) (N := M131) (P := M138) (r1 := 0) (e1 := 1) (r2 := 0) (e2 := 1) (r := 0) (e := 2) (by decide) h1 h2
        have u141n := INV.rd hM138 (i := 102) (c := 48) (k := 280) rfl rfl
        refine j_aload_n C 0 0 dX12_readTruth_19 rfl rfl ?_
        refine y_sipush C dX12_readTruth_20 rfl ?_
        refine j_callVv C (d := 0) (As := [.int (sI 3008)]) (st := []) 98 (s_lt rfl rfl) (s_kc (c := 11) rfl rfl) (by decide) rfl (s1_X12_codes hM138 hpr 3008 (by omega) (by omega) (by omega)) gX12_readTruth_X12_codes rfl hdX12_codes (by decide) (Nat.le_of_ble_eq_true rfl) dX12_readTruth_23 rfl (fun M143 h144 => ?_)
        obtain ⟨hM143, fM143, h145⟩ := h144
        refine j_goto C 5 dX12_readTruth_26 (by decide) ?_
        have u146n := INV.rd hM143 (i := 102) (c := 48) (k := 280) rfl rfl
        have u146p := fun h => ap_bin (M := M138) (N := M143) (c := 3008) (by omega) h
        have u146t := fun h1 h2 => ex_tr (M := M0) (N := M138) (P := M143) (r1 := 0) (e1 := 2) (r2 := 2) (e2 := (-1)) (r := 0) (e := 1) (by decide) h1 h2
        have zz98_9 : (M143.1 98 9).toInt = (M138.1 98 9).toInt := s_fF fM143 (by decide) (rfl); have zz98_8 : (M143.1 98 8).toInt = (M138.1 98 8).toInt := s_fF fM143 (by decide) (rfl); have zz98_7 : (M143.1 98 7).toInt = (M138.1 98 7).toInt := s_fF fM143 (by decide) (rfl); have zz98_6 : (M143.1 98 6).toInt = (M138.1 98 6).toInt := s_fF fM143 (by decide) (rfl); have zz98_11 : (M143.1 98 11).toInt = (M138.1 98 11).toInt := s_fF fM143 (by decide) (rfl); exact ih126 M143 (by omega) hM143 ((((FR.rf.tr fM128 (by decide)).tr fM131 (by decide)).tr fM138 (by decide)).tr fM143 (by decide))
  exact L127 2010 M103 (by omega) hM103 (FR.rf.tr fM103 (by decide))
set_option maxHeartbeats 4000000 in
theorem s6_X12_readUnit {l : Launch} {dC : Nat → ClassId} {dI : Nat → Nat → Nat} {ad : Nat → Nat} {cA : Nat → ClassId} {pr : Nat → Nat → Bool} {Kz : mm_M} {M0 : mm_M} (hM0 : INV pr Kz M0) (hpr : PM pr)  (hp0 : (M0.1 98 6).toInt ≤ (M0.1 98 7).toInt ∧ (M0.1 98 7).toInt ≤ (M0.1 98 8).toInt ∧ (M0.1 98 8).toInt ≤ 900 ∧ ((M0.1 98 9).toInt = 24 ∨ (M0.1 98 6).toInt < (M0.1 98 7).toInt)) (hp1 : ¬ (M0.1 98 11).toInt = 0 ∨ (M0.1 102 280).toInt ≤ (M0.1 98 6).toInt) (hp2 : 0 ≤ (M0.1 102 280).toInt) (hp3 : b01 (PI M0) = 1) : Cv l 25 yX12_readUnit wsX12_readUnit dC dI ad cA [.ref (ad 98), .int (sI 1)] M0 (fun M' => INV pr Kz M' ∧ FR [98, 102] M0 M' ∧ ((M'.1 98 6).toInt ≤ (M'.1 98 7).toInt ∧ (M'.1 98 7).toInt ≤ (M'.1 98 8).toInt ∧ (M'.1 98 8).toInt ≤ 900 ∧ ((M'.1 98 9).toInt = 24 ∨ (M'.1 98 6).toInt < (M'.1 98 7).toInt)) ∧ ((M'.1 98 8).toInt = (M0.1 98 8).toInt) ∧ ((M0.1 98 6).toInt ≤ (M'.1 98 6).toInt) ∧ (0 ≤ (M'.1 102 280).toInt) ∧ (¬ (M'.1 98 11).toInt = 0 ∨ (M0.1 98 11).toInt = 0 ∧ (M'.1 102 280).toInt - (M'.1 98 6).toInt + 0 ≤ (M0.1 102 280).toInt - (M0.1 98 6).toInt ∧ (M0.1 102 280).toInt ≤ (M'.1 102 280).toInt ∧ b01 (EXT M0 M' 0 1) = 1) ∧ (b01 (PI M') = 1)) := by
  refine cv_of (cc := cX12_readUnit) (maxL := 3) (lv := [(0, .ref (ad 98)), (1, .int (sI 1))]) (by decide) rfl (Nat.le_of_ble_eq_true rfl) rfl ?_
  intro p e s m args below meth c A Q C hret
  have u101z := ex_0 M0
  have u101n := INV.rd hM0 (i := 102) (c := 48) (k := 280) rfl rfl
  refine j_aload_n C 0 0 dX12_readUnit_0 rfl rfl ?_
  refine y_bipush C dX12_readUnit_1 rfl ?_
  refine j_callVi C (d := 0) (As := [.int (sI 16)]) (st := []) 98 (s_lt rfl rfl) (s_kc (c := 11) rfl rfl) (by decide) rfl (s1_X12_is hM0 16 (by omega)) gX12_readUnit_X12_is rfl hdX12_is (by decide) (Nat.le_of_ble_eq_true rfl) dX12_readUnit_3 rfl (fun r102 M103 h104 => ?_)
  obtain ⟨a106, rfl, rfl, h105⟩ := h104
  refine y_if_eq C 33 dX12_readUnit_6 (by decide) (by omega) (fun h107 => ?_) (fun h107 => ?_)
  · refine j_aload_n C 0 0 dX12_readUnit_33 rfl rfl ?_
    refine y_bipush C dX12_readUnit_34 rfl ?_
    refine j_callVi C (d := 0) (As := [.int (sI 37)]) (st := []) 98 (s_lt rfl rfl) (s_kc (c := 11) rfl rfl) (by decide) rfl (s1_X12_is hM0 37 (by omega)) gX12_readUnit_X12_is rfl hdX12_is (by decide) (Nat.le_of_ble_eq_true rfl) dX12_readUnit_36 rfl (fun r108 M109 h110 => ?_)
    obtain ⟨a112, rfl, rfl, h111⟩ := h110
    refine y_if_eq C 73 dX12_readUnit_39 (by decide) (by omega) (fun h113 => ?_) (fun h113 => ?_)
    · refine j_aload_n C 0 0 dX12_readUnit_73 rfl rfl ?_
      refine j_iload_n C 1 1 dX12_readUnit_74 rfl rfl ?_
      refine j_callVv C (d := 24) (As := [.int (sI 1)]) (st := []) 98 (s_lt rfl rfl) (s_kc (c := 11) rfl rfl) (by decide) rfl (s6_X12_readSum hM0 hpr (by omega) (by omega) (by omega) (by omega)) gX12_readUnit_X12_readSum rfl hdX12_readSum (by decide) (Nat.le_of_ble_eq_true rfl) dX12_readUnit_75 rfl (fun M115 h116 => ?_)
      obtain ⟨hM115, fM115, h117⟩ := h116
      have u118t := fun h1 h2 => ex_tr (M := M0) (N := M0) (P := M115) (r1 := 0) (e1 := 0) (r2 := 0) (e2 := 1) (r := 0) (e := 1) (by decide) h1 h2
      have u118n := INV.rd hM115 (i := 102) (c := 48) (k := 280) rfl rfl
      refine j_aload_n C 0 0 dX12_readUnit_78 rfl rfl ?_
      refine y_bipush C dX12_readUnit_79 rfl ?_
      refine j_callVi C (d := 0) (As := [.int (sI 39)]) (st := []) 98 (s_lt rfl rfl) (s_kc (c := 11) rfl rfl) (by decide) rfl (s1_X12_is hM115 39 (by omega)) gX12_readUnit_X12_is rfl hdX12_is (by decide) (Nat.le_of_ble_eq_true rfl) dX12_readUnit_81 rfl (fun r119 M120 h121 => ?_)
      obtain ⟨a123, rfl, rfl, h122⟩ := h121
      have J132 : ∀ (a131 : Int), (3003 ≤ a131 ∧ a131 ≤ 3005) → jj p l e (cn_R 25) s m args below meth c 0 0 Q 3 dC dI ad cA A M115 111 [(0, .ref (ad 98)), (1, .int (sI 1))] [.int (sI a131)] := by
        intro a131 h133
        refine j_istore_n C 2 [(2, .int (sI a131)), (0, .ref (ad 98)), (1, .int (sI 1))] dX12_readUnit_111 rfl (by decide) rfl ?_
        refine j_aload_n C 1 0 dX12_readUnit_112 rfl rfl ?_
        refine y_bipush C dX12_readUnit_113 rfl ?_
        refine j_callVi C (d := 0) (As := [.int (sI 39)]) (st := []) 98 (s_lt rfl rfl) (s_kc (c := 11) rfl rfl) (by decide) rfl (s1_X12_is hM115 39 (by omega)) gX12_readUnit_X12_is rfl hdX12_is (by decide) (Nat.le_of_ble_eq_true rfl) dX12_readUnit_115 rfl (fun r134 M135 h136 => ?_)
        obtain ⟨a138, rfl, rfl, h137⟩ := h136
        have J173 : ∀ (M172 : mm_M), (((M172.1 98 6).toInt ≤ (M172.1 98 7).toInt ∧ (M172.1 98 7).toInt ≤ (M172.1 98 8).toInt ∧ (M172.1 98 8).toInt ≤ 900 ∧ ((M172.1 98 9).toInt = 24 ∨ (M172.1 98 6).toInt < (M172.1 98 7).toInt)) ∧ ((M172.1 98 8).toInt = (M0.1 98 8).toInt) ∧ ((M0.1 98 6).toInt ≤ (M172.1 98 6).toInt) ∧ (0 ≤ (M172.1 102 280).toInt) ∧ (¬ (M172.1 98 11).toInt = 0 ∨ (M0.1 98 11).toInt = 0 ∧ (M172.1 102 280).toInt - (M172.1 98 6).toInt + 1 ≤ (M0.1 102 280).toInt - (M0.1 98 6).toInt ∧ (M0.1 102 280).toInt ≤ (M172.1 102 280).toInt ∧ b01 (EXT M0 M172 0 1) = 1) ∧ (b01 (PI M172) = 1)) → INV pr Kz M172 → FR [98, 102] M0 M172 → jj p l e (cn_R 25) s m args below meth c 0 0 Q 3 dC dI ad cA A M172 151 [(0, .ref (ad 98)), (1, .int (sI 1)), (2, .int (sI a131))] [] := by
          intro M172 h174 hM172 fM172
          have u175c := fun h => ex_c (M := M0) (N := M0) (P := M172) (r := 0) (e := 1) (FR.cell fM172 (by decide)) h
          have u175n := INV.rd hM172 (i := 102) (c := 48) (k := 280) rfl rfl
          refine j_aload_n C 0 0 dX12_readUnit_151 rfl rfl ?_
          refine j_iload_n C 1 1 dX12_readUnit_152 rfl rfl ?_
          refine j_callVv C (d := 24) (As := [.int (sI 1)]) (st := []) 98 (s_lt rfl rfl) (s_kc (c := 11) rfl rfl) (by decide) rfl (s6_X12_readSum hM172 hpr (by omega) (by omega) (by omega) (by omega)) gX12_readUnit_X12_readSum rfl hdX12_readSum (by decide) (Nat.le_of_ble_eq_true rfl) dX12_readUnit_153 rfl (fun M177 h178 => ?_)
          obtain ⟨hM177, fM177, h179⟩ := h178
          have u180t := fun h1 h2 => ex_tr (M := M0) (N := M172) (P := M177) (r1 := 0) (e1 := 1) (r2 := 0) (e2 := 1) (r := 0) (e := 2) (by decide) h1 h2
          have u180n := INV.rd hM177 (i := 102) (c := 48) (k := 280) rfl rfl
          refine j_aload_n C 0 0 dX12_readUnit_156 rfl rfl ?_
          refine j_iload_n C 2 2 dX12_readUnit_157 rfl rfl ?_
          refine j_callVv C (d := 0) (As := [.int (sI a131)]) (st := []) 98 (s_lt rfl rfl) (s_kc (c := 11) rfl rfl) (by decide) rfl (s1_X12_codes hM177 hpr a131 (by omega) (by omega) (by omega)) gX12_readUnit_X12_codes rfl hdX12_codes (by decide) (Nat.le_of_ble_eq_true rfl) dX12_readUnit_158 rfl (fun M182 h183 => ?_)
          obtain ⟨hM182, fM182, h184⟩ := h183
          have u185n := INV.rd hM182 (i := 102) (c := 48) (k := 280) rfl rfl
          have u185p := fun h => ap_bin (M := M177) (N := M182) (c := a131) (by omega) h
          have u185t := fun h1 h2 => ex_tr (M := M0) (N := M177) (P := M182) (r1 := 0) (e1 := 2) (r2 := 2) (e2 := (-1)) (r := 0) (e := 1) (by decide) h1 h2
          have u186n := INV.rd hM182 (i := 102) (c := 48) (k := 280) rfl rfl
          have zz98_11 : (M182.1 98 11).toInt = (M177.1 98 11).toInt := s_fF fM182 (by decide) (rfl); have zz98_6 : (M182.1 98 6).toInt = (M177.1 98 6).toInt := s_fF fM182 (by decide) (rfl); have zz98_7 : (M182.1 98 7).toInt = (M177.1 98 7).toInt := s_fF fM182 (by decide) (rfl); have zz98_8 : (M182.1 98 8).toInt = (M177.1 98 8).toInt := s_fF fM182 (by decide) (rfl); have zz98_9 : (M182.1 98 9).toInt = (M177.1 98 9).toInt := s_fF fM182 (by decide) (rfl); exact hret _ _ _ dX12_readUnit_161 ⟨hM182, (((FR.rf.tr fM172 (by decide)).tr fM177 (by decide)).tr fM182 (by decide)), by omega⟩
        refine y_if_ne C 139 dX12_readUnit_118 (by decide) (by omega) (fun h139 => ?_) (fun h139 => ?_)
        · refine j_aload_n C 1 0 dX12_readUnit_139 rfl rfl ?_
          refine j_callVv C (d := 5) (As := []) (st := []) 98 (s_lt rfl rfl) (s_kc (c := 11) rfl rfl) (by decide) rfl (s1_X12_next hM115 hpr (by omega) (by omega) (by omega)) gX12_readUnit_X12_next rfl hdX12_next (by decide) (Nat.le_of_ble_eq_true rfl) dX12_readUnit_140 rfl (fun M141 h142 => ?_)
          obtain ⟨hM141, fM141, h143⟩ := h142
          refine j_goto C 151 dX12_readUnit_143 (by decide) ?_
          have u144c := fun h => ex_c (M := M0) (N := M115) (P := M141) (r := 0) (e := 1) (FR.cell fM141 (by decide)) h
          have u144n := INV.rd hM141 (i := 102) (c := 48) (k := 280) rfl rfl
          have zz102_280 : (M141.1 102 280).toInt = (M115.1 102 280).toInt := s_fF fM141 (by decide) (rfl); refine j_lv [1, 2, 0] rfl ?_; exact J173 M141 (by omega) hM141 ((FR.rf.tr fM115 (by decide)).tr fM141 (by decide))
        · refine j_aload_n C 1 0 dX12_readUnit_121 rfl rfl ?_
          refine y_bipush C dX12_readUnit_122 rfl ?_
          refine j_callVi C (d := 0) (As := [.int (sI 40)]) (st := []) 98 (s_lt rfl rfl) (s_kc (c := 11) rfl rfl) (by decide) rfl (s1_X12_is hM115 40 (by omega)) gX12_readUnit_X12_is rfl hdX12_is (by decide) (Nat.le_of_ble_eq_true rfl) dX12_readUnit_124 rfl (fun r145 M146 h147 => ?_)
          obtain ⟨a149, rfl, rfl, h148⟩ := h147
          refine y_if_ne C 139 dX12_readUnit_127 (by decide) (by omega) (fun h150 => ?_) (fun h150 => ?_)
          · refine j_aload_n C 1 0 dX12_readUnit_139 rfl rfl ?_
            refine j_callVv C (d := 5) (As := []) (st := []) 98 (s_lt rfl rfl) (s_kc (c := 11) rfl rfl) (by decide) rfl (s1_X12_next hM115 hpr (by omega) (by omega) (by omega)) gX12_readUnit_X12_next rfl hdX12_next (by decide) (Nat.le_of_ble_eq_true rfl) dX12_readUnit_140 rfl (fun M152 h153 => ?_)
            obtain ⟨hM152, fM152, h154⟩ := h153
            refine j_goto C 151 dX12_readUnit_143 (by decide) ?_
            have u155c := fun h => ex_c (M := M0) (N := M115) (P := M152) (r := 0) (e := 1) (FR.cell fM152 (by decide)) h
            have u155n := INV.rd hM152 (i := 102) (c := 48) (k := 280) rfl rfl
            have zz102_280 : (M152.1 102 280).toInt = (M115.1 102 280).toInt := s_fF fM152 (by decide) (rfl); refine j_lv [1, 2, 0] rfl ?_; exact J173 M152 (by omega) hM152 ((FR.rf.tr fM115 (by decide)).tr fM152 (by decide))
          · refine j_aload_n C 1 0 dX12_readUnit_130 rfl rfl ?_
            refine y_bipush C dX12_readUnit_131 rfl ?_
            refine j_callVi C (d := 0) (As := [.int (sI 41)]) (st := []) 98 (s_lt rfl rfl) (s_kc (c := 11) rfl rfl) (by decide) rfl (s1_X12_is hM115 41 (by omega)) gX12_readUnit_X12_is rfl hdX12_is (by decide) (Nat.le_of_ble_eq_true rfl) dX12_readUnit_133 rfl (fun r156 M157 h158 => ?_)
            obtain ⟨a160, rfl, rfl, h159⟩ := h158
            refine y_if_eq C 146 dX12_readUnit_136 (by decide) (by omega) (fun h161 => ?_) (fun h161 => ?_)
            · refine j_aload_n C 1 0 dX12_readUnit_146 rfl rfl ?_
              refine y_iconst C dX12_readUnit_147 ?_
              refine j_callVv C (d := 0) (As := [.int (sI 2)]) (st := []) 98 (s_lt rfl rfl) (s_kc (c := 11) rfl rfl) (by decide) rfl (s1_X12_fails hM115 hpr 2 (by omega) (by omega) (by omega)) gX12_readUnit_X12_fails rfl hdX12_fails (by decide) (Nat.le_of_ble_eq_true rfl) dX12_readUnit_148 rfl (fun M163 h164 => ?_)
              obtain ⟨hM163, fM163, h165⟩ := h164
              have u166c := fun h => ex_c (M := M0) (N := M115) (P := M163) (r := 0) (e := 1) (FR.cell fM163 (by decide)) h
              have u166n := INV.rd hM163 (i := 102) (c := 48) (k := 280) rfl rfl
              have zz102_280 : (M163.1 102 280).toInt = (M115.1 102 280).toInt := s_fF fM163 (by decide) (rfl); refine j_lv [1, 2, 0] rfl ?_; exact J173 M163 (by omega) hM163 ((FR.rf.tr fM115 (by decide)).tr fM163 (by decide))
            · refine j_aload_n C 1 0 dX12_readUnit_139 rfl rfl ?_
              refine j_callVv C (d := 5) (As := []) (st := []) 98 (s_lt rfl rfl) (s_kc (c := 11) rfl rfl) (by decide) rfl (s1_X12_next hM115 hpr (by omega) (by omega) (by omega)) gX12_readUnit_X12_next rfl hdX12_next (by decide) (Nat.le_of_ble_eq_true rfl) dX12_readUnit_140 rfl (fun M168 h169 => ?_)
              obtain ⟨hM168, fM168, h170⟩ := h169
              refine j_goto C 151 dX12_readUnit_143 (by decide) ?_
              have u171c := fun h => ex_c (M := M0) (N := M115) (P := M168) (r := 0) (e := 1) (FR.cell fM168 (by decide)) h
              have u171n := INV.rd hM168 (i := 102) (c := 48) (k := 280) rfl rfl
              have zz102_280 : (M168.1 102 280).toInt = (M115.1 102 280).toInt := s_fF fM168 (by decide) (rfl); refine j_lv [1, 2, 0] rfl ?_; exact J173 M168 (by omega) hM168 ((FR.rf.tr fM115 (by decide)).tr fM168 (by decide))
      refine y_if_eq C 93 dX12_readUnit_84 (by decide) (by omega) (fun h124 => ?_) (fun h124 => ?_)
      · refine j_aload_n C 0 0 dX12_readUnit_93 rfl rfl ?_
        refine y_bipush C dX12_readUnit_94 rfl ?_
        refine j_callVi C (d := 0) (As := [.int (sI 40)]) (st := []) 98 (s_lt rfl rfl) (s_kc (c := 11) rfl rfl) (by decide) rfl (s1_X12_is hM115 40 (by omega)) gX12_readUnit_X12_is rfl hdX12_is (by decide) (Nat.le_of_ble_eq_true rfl) dX12_readUnit_96 rfl (fun r125 M126 h127 => ?_)
        obtain ⟨a129, rfl, rfl, h128⟩ := h127
        refine y_if_eq C 108 dX12_readUnit_99 (by decide) (by omega) (fun h130 => ?_) (fun h130 => ?_)
        · refine y_sipush C dX12_readUnit_108 rfl ?_
          exact J132 3005 (by omega)
        · refine y_sipush C dX12_readUnit_102 rfl ?_
          refine j_goto C 111 dX12_readUnit_105 (by decide) ?_
          exact J132 3004 (by omega)
      · refine y_sipush C dX12_readUnit_87 rfl ?_
        refine j_goto C 111 dX12_readUnit_90 (by decide) ?_
        exact J132 3003 (by omega)
    · refine j_aload_n C 0 0 dX12_readUnit_42 rfl rfl ?_
      refine j_iload_n C 1 1 dX12_readUnit_43 rfl rfl ?_
      refine j_callVi C (d := 6) (As := [.int (sI 1)]) (st := []) 98 (s_lt rfl rfl) (s_kc (c := 11) rfl rfl) (by decide) rfl (s2_X12_goesIn hM0 hpr (by omega) (by omega)) gX12_readUnit_X12_goesIn rfl hdX12_goesIn (by decide) (Nat.le_of_ble_eq_true rfl) dX12_readUnit_44 rfl (fun r187 M188 h189 => ?_)
      obtain ⟨a191, rfl, hM188, fM188, h190⟩ := h189
      have u192c := fun h => ex_c (M := M0) (N := M0) (P := M188) (r := 0) (e := 0) (FR.cell fM188 (by decide)) h
      have u192n := INV.rd hM188 (i := 102) (c := 48) (k := 280) rfl rfl
      refine y_if_ne C 51 dX12_readUnit_47 (by decide) (by omega) (fun h193 => ?_) (fun h193 => ?_)
      · refine j_aload_n C 0 0 dX12_readUnit_51 rfl rfl ?_
        refine j_iload_n C 1 1 dX12_readUnit_52 rfl rfl ?_
        refine y_iconst C dX12_readUnit_53 ?_
        refine y_iadd C dX12_readUnit_54 ?_
        refine j_callVv C (d := 24) (As := [.int (sI (1 + 1))]) (st := []) 98 (s_lt rfl rfl) (s_kc (c := 11) rfl rfl) (by decide) rfl (s5_X12_readTruth hM188 hpr (by omega) (by omega) (by omega) (by omega)) gX12_readUnit_X12_readTruth rfl hdX12_readTruth (by decide) (Nat.le_of_ble_eq_true rfl) dX12_readUnit_55 rfl (fun M195 h196 => ?_)
        obtain ⟨hM195, fM195, h197⟩ := h196
        have u198t := fun h1 h2 => ex_tr (M := M0) (N := M188) (P := M195) (r1 := 0) (e1 := 0) (r2 := 0) (e2 := 1) (r := 0) (e := 1) (by decide) h1 h2
        have u198n := INV.rd hM195 (i := 102) (c := 48) (k := 280) rfl rfl
        refine j_aload_n C 0 0 dX12_readUnit_58 rfl rfl ?_
        refine y_bipush C dX12_readUnit_59 rfl ?_
        refine j_callVi C (d := 6) (As := [.int (sI 38)]) (st := []) 98 (s_lt rfl rfl) (s_kc (c := 11) rfl rfl) (by decide) rfl (s1_X12_eats hM195 hpr 38 (by omega) (by omega) (by omega) (by omega)) gX12_readUnit_X12_eats rfl hdX12_eats (by decide) (Nat.le_of_ble_eq_true rfl) dX12_readUnit_61 rfl (fun r199 M200 h201 => ?_)
        obtain ⟨a203, rfl, hM200, fM200, h202⟩ := h201
        have u204c := fun h => ex_c (M := M0) (N := M195) (P := M200) (r := 0) (e := 1) (FR.cell fM200 (by decide)) h
        have u204n := INV.rd hM200 (i := 102) (c := 48) (k := 280) rfl rfl
        refine y_if_ne C 72 dX12_readUnit_64 (by decide) (by omega) (fun h205 => ?_) (fun h205 => ?_)
        · have u206c := fun h => ex_c (M := M0) (N := M195) (P := M200) (r := 0) (e := 1) (FR.cell fM200 (by decide)) h
          have u206d := fun h => ex_c (M := M0) (N := M195) (P := M200) (r := 0) (e := 0) (FR.cell fM200 (by decide)) h
          have u206n := INV.rd hM200 (i := 102) (c := 48) (k := 280) rfl rfl
          have zz102_280 : (M200.1 102 280).toInt = (M195.1 102 280).toInt := s_fF fM200 (by decide) (rfl); exact hret _ _ _ dX12_readUnit_72 ⟨hM200, (((FR.rf.tr fM188 (by decide)).tr fM195 (by decide)).tr fM200 (by decide)), by omega⟩
        · refine j_aload_n C 0 0 dX12_readUnit_67 rfl rfl ?_
          refine y_iconst C dX12_readUnit_68 ?_
          refine j_callVv C (d := 0) (As := [.int (sI 2)]) (st := []) 98 (s_lt rfl rfl) (s_kc (c := 11) rfl rfl) (by decide) rfl (s1_X12_fails hM200 hpr 2 (by omega) (by omega) (by omega)) gX12_readUnit_X12_fails rfl hdX12_fails (by decide) (Nat.le_of_ble_eq_true rfl) dX12_readUnit_69 rfl (fun M208 h209 => ?_)
          obtain ⟨hM208, fM208, h210⟩ := h209
          have u211c := fun h => ex_c (M := M0) (N := M200) (P := M208) (r := 0) (e := 1) (FR.cell fM208 (by decide)) h
          have u211d := fun h => ex_c (M := M0) (N := M200) (P := M208) (r := 0) (e := 0) (FR.cell fM208 (by decide)) h
          have u211n := INV.rd hM208 (i := 102) (c := 48) (k := 280) rfl rfl
          have zz102_280 : (M208.1 102 280).toInt = (M195.1 102 280).toInt := s_fF fM200 (by decide) (s_fF fM208 (by decide) (rfl)); exact hret _ _ _ dX12_readUnit_72 ⟨hM208, ((((FR.rf.tr fM188 (by decide)).tr fM195 (by decide)).tr fM200 (by decide)).tr fM208 (by decide)), by omega⟩
      · have u212c := fun h => ex_c (M := M0) (N := M0) (P := M188) (r := 0) (e := 1) (FR.cell fM188 (by decide)) h
        have u212d := fun h => ex_c (M := M0) (N := M0) (P := M188) (r := 0) (e := 0) (FR.cell fM188 (by decide)) h
        have u212n := INV.rd hM188 (i := 102) (c := 48) (k := 280) rfl rfl
        have zz102_280 : (M188.1 102 280).toInt = (M0.1 102 280).toInt := s_fF fM188 (by decide) (rfl); exact hret _ _ _ dX12_readUnit_50 ⟨hM188, (FR.rf.tr fM188 (by decide)), by omega⟩
  · refine j_aload_n C 0 0 dX12_readUnit_9 rfl rfl ?_
    refine j_iload_n C 1 1 dX12_readUnit_10 rfl rfl ?_
    refine j_callVi C (d := 6) (As := [.int (sI 1)]) (st := []) 98 (s_lt rfl rfl) (s_kc (c := 11) rfl rfl) (by decide) rfl (s2_X12_goesIn hM0 hpr (by omega) (by omega)) gX12_readUnit_X12_goesIn rfl hdX12_goesIn (by decide) (Nat.le_of_ble_eq_true rfl) dX12_readUnit_11 rfl (fun r213 M214 h215 => ?_)
    obtain ⟨a217, rfl, hM214, fM214, h216⟩ := h215
    have u218c := fun h => ex_c (M := M0) (N := M0) (P := M214) (r := 0) (e := 0) (FR.cell fM214 (by decide)) h
    have u218n := INV.rd hM214 (i := 102) (c := 48) (k := 280) rfl rfl
    refine y_if_ne C 18 dX12_readUnit_14 (by decide) (by omega) (fun h219 => ?_) (fun h219 => ?_)
    · refine j_aload_n C 0 0 dX12_readUnit_18 rfl rfl ?_
      refine j_iload_n C 1 1 dX12_readUnit_19 rfl rfl ?_
      refine y_iconst C dX12_readUnit_20 ?_
      refine y_iadd C dX12_readUnit_21 ?_
      refine j_callVv C (d := 22) (As := [.int (sI (1 + 1))]) (st := []) 98 (s_lt rfl rfl) (s_kc (c := 11) rfl rfl) (by decide) rfl (s5_X12_readUnit hM214 hpr (by omega) (by omega) (by omega) (by omega)) gX12_readUnit_X12_readUnit rfl hdX12_readUnit (by decide) (Nat.le_of_ble_eq_true rfl) dX12_readUnit_22 rfl (fun M221 h222 => ?_)
      obtain ⟨hM221, fM221, h223⟩ := h222
      have u224t := fun h1 h2 => ex_tr (M := M0) (N := M214) (P := M221) (r1 := 0) (e1 := 0) (r2 := 0) (e2 := 1) (r := 0) (e := 1) (by decide) h1 h2
      have u224n := INV.rd hM221 (i := 102) (c := 48) (k := 280) rfl rfl
      refine j_aload_n C 0 0 dX12_readUnit_25 rfl rfl ?_
      refine y_sipush C dX12_readUnit_26 rfl ?_
      refine j_callVv C (d := 0) (As := [.int (sI 3006)]) (st := []) 98 (s_lt rfl rfl) (s_kc (c := 11) rfl rfl) (by decide) rfl (s1_X12_codes hM221 hpr 3006 (by omega) (by omega) (by omega)) gX12_readUnit_X12_codes rfl hdX12_codes (by decide) (Nat.le_of_ble_eq_true rfl) dX12_readUnit_29 rfl (fun M226 h227 => ?_)
      obtain ⟨hM226, fM226, h228⟩ := h227
      have u229n := INV.rd hM226 (i := 102) (c := 48) (k := 280) rfl rfl
      have u229p := fun h => ap_not (M := M221) (N := M226) (by omega) h
      have u229t := fun h1 h2 => ex_tr (M := M0) (N := M221) (P := M226) (r1 := 0) (e1 := 1) (r2 := 1) (e2 := 0) (r := 0) (e := 1) (by decide) h1 h2
      have u230n := INV.rd hM226 (i := 102) (c := 48) (k := 280) rfl rfl
      have zz98_11 : (M226.1 98 11).toInt = (M221.1 98 11).toInt := s_fF fM226 (by decide) (rfl); have zz98_6 : (M226.1 98 6).toInt = (M221.1 98 6).toInt := s_fF fM226 (by decide) (rfl); have zz98_7 : (M226.1 98 7).toInt = (M221.1 98 7).toInt := s_fF fM226 (by decide) (rfl); have zz98_8 : (M226.1 98 8).toInt = (M221.1 98 8).toInt := s_fF fM226 (by decide) (rfl); have zz98_9 : (M226.1 98 9).toInt = (M221.1 98 9).toInt := s_fF fM226 (by decide) (rfl); exact hret _ _ _ dX12_readUnit_32 ⟨hM226, (((FR.rf.tr fM214 (by decide)).tr fM221 (by decide)).tr fM226 (by decide)), by omega⟩
    · have u231c := fun h => ex_c (M := M0) (N := M0) (P := M214) (r := 0) (e := 1) (FR.cell fM214 (by decide)) h
      have u231d := fun h => ex_c (M := M0) (N := M0) (P := M214) (r := 0) (e := 0) (FR.cell fM214 (by decide)) h
      have u231n := INV.rd hM214 (i := 102) (c := 48) (k := 280) rfl rfl
      have zz102_280 : (M214.1 102 280).toInt = (M0.1 102 280).toInt := s_fF fM214 (by decide) (rfl); exact hret _ _ _ dX12_readUnit_17 ⟨hM214, (FR.rf.tr fM214 (by decide)), by omega⟩
set_option maxHeartbeats 4000000 in
theorem s6_X12_readBoth {l : Launch} {dC : Nat → ClassId} {dI : Nat → Nat → Nat} {ad : Nat → Nat} {cA : Nat → ClassId} {pr : Nat → Nat → Bool} {Kz : mm_M} {M0 : mm_M} (hM0 : INV pr Kz M0) (hpr : PM pr)  (hp0 : (M0.1 98 6).toInt ≤ (M0.1 98 7).toInt ∧ (M0.1 98 7).toInt ≤ (M0.1 98 8).toInt ∧ (M0.1 98 8).toInt ≤ 900 ∧ ((M0.1 98 9).toInt = 24 ∨ (M0.1 98 6).toInt < (M0.1 98 7).toInt)) (hp1 : ¬ (M0.1 98 11).toInt = 0 ∨ (M0.1 102 280).toInt ≤ (M0.1 98 6).toInt) (hp2 : 0 ≤ (M0.1 102 280).toInt) (hp3 : b01 (PI M0) = 1) : Cv l 26 yX12_readBoth wsX12_readBoth dC dI ad cA [.ref (ad 98), .int (sI 1)] M0 (fun M' => INV pr Kz M' ∧ FR [98, 102] M0 M' ∧ ((M'.1 98 6).toInt ≤ (M'.1 98 7).toInt ∧ (M'.1 98 7).toInt ≤ (M'.1 98 8).toInt ∧ (M'.1 98 8).toInt ≤ 900 ∧ ((M'.1 98 9).toInt = 24 ∨ (M'.1 98 6).toInt < (M'.1 98 7).toInt)) ∧ ((M'.1 98 8).toInt = (M0.1 98 8).toInt) ∧ ((M0.1 98 6).toInt ≤ (M'.1 98 6).toInt) ∧ (0 ≤ (M'.1 102 280).toInt) ∧ (¬ (M'.1 98 11).toInt = 0 ∨ (M0.1 98 11).toInt = 0 ∧ (M'.1 102 280).toInt - (M'.1 98 6).toInt + 0 ≤ (M0.1 102 280).toInt - (M0.1 98 6).toInt ∧ (M0.1 102 280).toInt ≤ (M'.1 102 280).toInt ∧ b01 (EXT M0 M' 0 1) = 1) ∧ (b01 (PI M') = 1)) := by
  refine cv_of (cc := cX12_readBoth) (maxL := 2) (lv := [(0, .ref (ad 98)), (1, .int (sI 1))]) (by decide) rfl (Nat.le_of_ble_eq_true rfl) rfl ?_
  intro p e s m args below meth c A Q C hret
  have u101z := ex_0 M0
  have u101n := INV.rd hM0 (i := 102) (c := 48) (k := 280) rfl rfl
  refine j_aload_n C 0 0 dX12_readBoth_0 rfl rfl ?_
  refine j_iload_n C 1 1 dX12_readBoth_1 rfl rfl ?_
  refine j_callVv C (d := 25) (As := [.int (sI 1)]) (st := []) 98 (s_lt rfl rfl) (s_kc (c := 11) rfl rfl) (by decide) rfl (s6_X12_readUnit hM0 hpr (by omega) (by omega) (by omega) (by omega)) gX12_readBoth_X12_readUnit rfl hdX12_readUnit (by decide) (Nat.le_of_ble_eq_true rfl) dX12_readBoth_2 rfl (fun M103 h104 => ?_)
  obtain ⟨hM103, fM103, h105⟩ := h104
  have u106t := fun h1 h2 => ex_tr (M := M0) (N := M0) (P := M103) (r1 := 0) (e1 := 0) (r2 := 0) (e2 := 1) (r := 0) (e := 1) (by decide) h1 h2
  have u106n := INV.rd hM103 (i := 102) (c := 48) (k := 280) rfl rfl
  have L127 : ∀ (n125 : Nat), ∀ (M128 : mm_M), (((M128.1 98 6).toInt ≤ (M128.1 98 7).toInt ∧ (M128.1 98 7).toInt ≤ (M128.1 98 8).toInt ∧ (M128.1 98 8).toInt ≤ 900 ∧ ((M128.1 98 9).toInt = 24 ∨ (M128.1 98 6).toInt < (M128.1 98 7).toInt)) ∧ ((M128.1 98 8).toInt = (M0.1 98 8).toInt) ∧ ((M0.1 98 6).toInt ≤ (M128.1 98 6).toInt) ∧ (0 ≤ (M128.1 102 280).toInt) ∧ (¬ (M128.1 98 11).toInt = 0 ∨ (M0.1 98 11).toInt = 0 ∧ (M128.1 102 280).toInt - (M128.1 98 6).toInt + 0 ≤ (M0.1 102 280).toInt - (M0.1 98 6).toInt ∧ (M0.1 102 280).toInt ≤ (M128.1 102 280).toInt ∧ b01 (EXT M0 M128 0 1) = 1) ∧ (b01 (PI M128) = 1) ∧ (900 - (M128.1 98 6).toInt) < (n125 : Int)) → INV pr Kz M128 → FR [98, 102] M0 M128 → jj p l e (cn_R 26) s m args below meth c 0 0 Q 2 dC dI ad cA A M128 5 [(0, .ref (ad 98)), (1, .int (sI 1))] [] := by
    intro n125
    induction n125 with
    | zero =>
      intro M128 h129 hM128 fM128
      exfalso; omega
    | succ n125 ih126 =>
      intro M128 h129 hM128 fM128
      refine j_aload_n C 0 0 dX12_readBoth_5 rfl rfl ?_
      refine y_bipush C dX12_readBoth_6 rfl ?_
      refine j_callVi C (d := 6) (As := [.int (sI 14)]) (st := []) 98 (s_lt rfl rfl) (s_kc (c := 11) rfl rfl) (by decide) rfl (s1_X12_eats hM128 hpr 14 (by omega) (by omega) (by omega) (by omega)) gX12_readBoth_X12_eats rfl hdX12_eats (by decide) (Nat.le_of_ble_eq_true rfl) dX12_readBoth_8 rfl (fun r130 M131 h132 => ?_)
      obtain ⟨a134, rfl, hM131, fM131, h133⟩ := h132
      have u135c := fun h => ex_c (M := M0) (N := M128) (P := M131) (r := 0) (e := 1) (FR.cell fM131 (by decide)) h
      have u135n := INV.rd hM131 (i := 102) (c := 48) (k := 280) rfl rfl
      refine y_if_eq C 29 dX12_readBoth_11 (by decide) (by omega) (fun h136 => ?_) (fun h136 => ?_)
      · have u147c := fun h => ex_c (M := M0) (N := M128) (P := M131) (r := 0) (e := 1) (FR.cell fM131 (by decide)) h
        have u147d := fun h => ex_c (M := M0) (N := M128) (P := M131) (r := 0) (e := 0) (FR.cell fM131 (by decide)) h
        have u147n := INV.rd hM131 (i := 102) (c := 48) (k := 280) rfl rfl
        have zz102_280 : (M131.1 102 280).toInt = (M128.1 102 280).toInt := s_fF fM131 (by decide) (rfl); exact hret _ _ _ dX12_readBoth_29 ⟨hM131, ((FR.rf.tr fM128 (by decide)).tr fM131 (by decide)), by omega⟩
      · refine j_aload_n C 0 0 dX12_readBoth_14 rfl rfl ?_
        refine j_iload_n C 1 1 dX12_readBoth_15 rfl rfl ?_
        refine j_callVv C (d := 25) (As := [.int (sI 1)]) (st := []) 98 (s_lt rfl rfl) (s_kc (c := 11) rfl rfl) (by decide) rfl (s6_X12_readUnit hM131 hpr (by omega) (by omega) (by omega) (by omega)) gX12_readBoth_X12_readUnit rfl hdX12_readUnit (by decide) (Nat.le_of_ble_eq_true rfl) dX12_readBoth_16 rfl (fun M138 h139 => ?_)
        obtain ⟨hM138, fM138, h140⟩ := h139
        have u141t := fun h1 h2 => ex_tr (M := M0) (N := M131) (P := M138) (r1 := 0) (e1 := 1) (r2 := 0) (e2 := 1) (r := 0) (e := 2) (by decide) h1 h2
        have u141n := INV.rd hM138 (i := 102) (c := 48) (k := 280) rfl rfl
        refine j_aload_n C 0 0 dX12_readBoth_19 rfl rfl ?_
        refine y_sipush C dX12_readBoth_20 rfl ?_
        refine j_callVv C (d := 0) (As := [.int (sI 3007)]) (st := []) 98 (s_lt rfl rfl) (s_kc (c := 11) rfl rfl) (by decide) rfl (s1_X12_codes hM138 hpr 3007 (by omega) (by omega) (by omega)) gX12_readBoth_X12_codes rfl hdX12_codes (by decide) (Nat.le_of_ble_eq_true rfl) dX12_readBoth_23 rfl (fun M143 h144 => ?_)
        obtain ⟨hM143, fM143, h145⟩ := h144
        refine j_goto C 5 dX12_readBoth_26 (by decide) ?_
        have u146n := INV.rd hM143 (i := 102) (c := 48) (k := 280) rfl rfl
        have u146p := fun h => ap_bin (M := M138) (N := M143) (c := 3007) (by omega) h
        have u146t := fun h1 h2 => ex_tr (M := M0) (N := M138) (P := M143) (r1 := 0) (e1 := 2) (r2 := 2) (e2 := (-1)) (r := 0) (e := 1) (by decide) h1 h2
        have zz98_9 : (M143.1 98 9).toInt = (M138.1 98 9).toInt := s_fF fM143 (by decide) (rfl); have zz98_8 : (M143.1 98 8).toInt = (M138.1 98 8).toInt := s_fF fM143 (by decide) (rfl); have zz98_7 : (M143.1 98 7).toInt = (M138.1 98 7).toInt := s_fF fM143 (by decide) (rfl); have zz98_6 : (M143.1 98 6).toInt = (M138.1 98 6).toInt := s_fF fM143 (by decide) (rfl); have zz98_11 : (M143.1 98 11).toInt = (M138.1 98 11).toInt := s_fF fM143 (by decide) (rfl); exact ih126 M143 (by omega) hM143 ((((FR.rf.tr fM128 (by decide)).tr fM131 (by decide)).tr fM138 (by decide)).tr fM143 (by decide))
  exact L127 2010 M103 (by omega) hM103 (FR.rf.tr fM103 (by decide))
set_option maxHeartbeats 4000000 in
theorem s6_X12_readTruth {l : Launch} {dC : Nat → ClassId} {dI : Nat → Nat → Nat} {ad : Nat → Nat} {cA : Nat → ClassId} {pr : Nat → Nat → Bool} {Kz : mm_M} {M0 : mm_M} (hM0 : INV pr Kz M0) (hpr : PM pr)  (hp0 : (M0.1 98 6).toInt ≤ (M0.1 98 7).toInt ∧ (M0.1 98 7).toInt ≤ (M0.1 98 8).toInt ∧ (M0.1 98 8).toInt ≤ 900 ∧ ((M0.1 98 9).toInt = 24 ∨ (M0.1 98 6).toInt < (M0.1 98 7).toInt)) (hp1 : ¬ (M0.1 98 11).toInt = 0 ∨ (M0.1 102 280).toInt ≤ (M0.1 98 6).toInt) (hp2 : 0 ≤ (M0.1 102 280).toInt) (hp3 : b01 (PI M0) = 1) : Cv l 27 yX12_readTruth wsX12_readTruth dC dI ad cA [.ref (ad 98), .int (sI 1)] M0 (fun M' => INV pr Kz M' ∧ FR [98, 102] M0 M' ∧ ((M'.1 98 6).toInt ≤ (M'.1 98 7).toInt ∧ (M'.1 98 7).toInt ≤ (M'.1 98 8).toInt ∧ (M'.1 98 8).toInt ≤ 900 ∧ ((M'.1 98 9).toInt = 24 ∨ (M'.1 98 6).toInt < (M'.1 98 7).toInt)) ∧ ((M'.1 98 8).toInt = (M0.1 98 8).toInt) ∧ ((M0.1 98 6).toInt ≤ (M'.1 98 6).toInt) ∧ (0 ≤ (M'.1 102 280).toInt) ∧ (¬ (M'.1 98 11).toInt = 0 ∨ (M0.1 98 11).toInt = 0 ∧ (M'.1 102 280).toInt - (M'.1 98 6).toInt + 0 ≤ (M0.1 102 280).toInt - (M0.1 98 6).toInt ∧ (M0.1 102 280).toInt ≤ (M'.1 102 280).toInt ∧ b01 (EXT M0 M' 0 1) = 1) ∧ (b01 (PI M') = 1)) := by
  refine cv_of (cc := cX12_readTruth) (maxL := 2) (lv := [(0, .ref (ad 98)), (1, .int (sI 1))]) (by decide) rfl (Nat.le_of_ble_eq_true rfl) rfl ?_
  intro p e s m args below meth c A Q C hret
  have u101z := ex_0 M0
  have u101n := INV.rd hM0 (i := 102) (c := 48) (k := 280) rfl rfl
  refine j_aload_n C 0 0 dX12_readTruth_0 rfl rfl ?_
  refine j_iload_n C 1 1 dX12_readTruth_1 rfl rfl ?_
  refine j_callVv C (d := 26) (As := [.int (sI 1)]) (st := []) 98 (s_lt rfl rfl) (s_kc (c := 11) rfl rfl) (by decide) rfl (s6_X12_readBoth hM0 hpr (by omega) (by omega) (by omega) (by omega)) gX12_readTruth_X12_readBoth rfl hdX12_readBoth (by decide) (Nat.le_of_ble_eq_true rfl) dX12_readTruth_2 rfl (fun M103 h104 => ?_)
  obtain ⟨hM103, fM103, h105⟩ := h104
  have u106t := fun h1 h2 => ex_tr (M := M0) (N := M0) (P := M103) (r1 := 0) (e1 := 0) (r2 := 0) (e2 := 1) (r := 0) (e := 1) (by decide) h1 h2
  have u106n := INV.rd hM103 (i := 102) (c := 48) (k := 280) rfl rfl
  have L127 : ∀ (n125 : Nat), ∀ (M128 : mm_M), (((M128.1 98 6).toInt ≤ (M128.1 98 7).toInt ∧ (M128.1 98 7).toInt ≤ (M128.1 98 8).toInt ∧ (M128.1 98 8).toInt ≤ 900 ∧ ((M128.1 98 9).toInt = 24 ∨ (M128.1 98 6).toInt < (M128.1 98 7).toInt)) ∧ ((M128.1 98 8).toInt = (M0.1 98 8).toInt) ∧ ((M0.1 98 6).toInt ≤ (M128.1 98 6).toInt) ∧ (0 ≤ (M128.1 102 280).toInt) ∧ (¬ (M128.1 98 11).toInt = 0 ∨ (M0.1 98 11).toInt = 0 ∧ (M128.1 102 280).toInt - (M128.1 98 6).toInt + 0 ≤ (M0.1 102 280).toInt - (M0.1 98 6).toInt ∧ (M0.1 102 280).toInt ≤ (M128.1 102 280).toInt ∧ b01 (EXT M0 M128 0 1) = 1) ∧ (b01 (PI M128) = 1) ∧ (900 - (M128.1 98 6).toInt) < (n125 : Int)) → INV pr Kz M128 → FR [98, 102] M0 M128 → jj p l e (cn_R 27) s m args below meth c 0 0 Q 2 dC dI ad cA A M128 5 [(0, .ref (ad 98)), (1, .int (sI 1))] [] := by
    intro n125
    induction n125 with
    | zero =>
      intro M128 h129 hM128 fM128
      exfalso; omega
    | succ n125 ih126 =>
      intro M128 h129 hM128 fM128
      refine j_aload_n C 0 0 dX12_readTruth_5 rfl rfl ?_
      refine y_bipush C dX12_readTruth_6 rfl ?_
      refine j_callVi C (d := 6) (As := [.int (sI 15)]) (st := []) 98 (s_lt rfl rfl) (s_kc (c := 11) rfl rfl) (by decide) rfl (s1_X12_eats hM128 hpr 15 (by omega) (by omega) (by omega) (by omega)) gX12_readTruth_X12_eats rfl hdX12_eats (by decide) (Nat.le_of_ble_eq_true rfl) dX12_readTruth_8 rfl (fun r130 M131 h132 => ?_)
      obtain ⟨a134, rfl, hM131, fM131, h133⟩ := h132
      have u135c := fun h => ex_c (M := M0) (N := M128) (P := M131) (r := 0) (e := 1) (FR.cell fM131 (by decide)) h
      have u135n := INV.rd hM131 (i := 102) (c := 48) (k := 280) rfl rfl
      refine y_if_eq C 29 dX12_readTruth_11 (by decide) (by omega) (fun h136 => ?_) (fun h136 => ?_)
      · have u147c := fun h => ex_c (M := M0) (N := M128) (P := M131) (r := 0) (e := 1) (FR.cell fM131 (by decide)) h
        have u147d := fun h => ex_c (M := M0) (N := M128) (P := M131) (r := 0) (e := 0) (FR.cell fM131 (by decide)) h
        have u147n := INV.rd hM131 (i := 102) (c := 48) (k := 280) rfl rfl
        have zz102_280 : (M131.1 102 280).toInt = (M128.1 102 280).toInt := s_fF fM131 (by decide) (rfl); exact hret _ _ _ dX12_readTruth_29 ⟨hM131, ((FR.rf.tr fM128 (by decide)).tr fM131 (by decide)), by omega⟩
      · refine j_aload_n C 0 0 dX12_readTruth_14 rfl rfl ?_
        refine j_iload_n C 1 1 dX12_readTruth_15 rfl rfl ?_
        refine j_callVv C (d := 26) (As := [.int (sI 1)]) (st := []) 98 (s_lt rfl rfl) (s_kc (c := 11) rfl rfl) (by decide) rfl (s6_X12_readBoth hM131 hpr (by omega) (by omega) (by omega) (by omega)) gX12_readTruth_X12_readBoth rfl hdX12_readBoth (by decide) (Nat.le_of_ble_eq_true rfl) dX12_readTruth_16 rfl (fun M138 h139 => ?_)
        obtain ⟨hM138, fM138, h140⟩ := h139
        have u141t := fun h1 h2 => ex_tr (M := M0) (N := M131) (P := M138) (r1 := 0) (e1 := 1) (r2 := 0) (e2 := 1) (r := 0) (e := 2) (by decide) h1 h2
        have u141n := INV.rd hM138 (i := 102) (c := 48) (k := 280) rfl rfl
        refine j_aload_n C 0 0 dX12_readTruth_19 rfl rfl ?_
        refine y_sipush C dX12_readTruth_20 rfl ?_
        refine j_callVv C (d := 0) (As := [.int (sI 3008)]) (st := []) 98 (s_lt rfl rfl) (s_kc (c := 11) rfl rfl) (by decide) rfl (s1_X12_codes hM138 hpr 3008 (by omega) (by omega) (by omega)) gX12_readTruth_X12_codes rfl hdX12_codes (by decide) (Nat.le_of_ble_eq_true rfl) dX12_readTruth_23 rfl (fun M143 h144 => ?_)
        obtain ⟨hM143, fM143, h145⟩ := h144
        refine j_goto C 5 dX12_readTruth_26 (by decide) ?_
        have u146n := INV.rd hM143 (i := 102) (c := 48) (k := 280) rfl rfl
        have u146p := fun h => ap_bin (M := M138) (N := M143) (c := 3008) (by omega) h
        have u146t := fun h1 h2 => ex_tr (M := M0) (N := M138) (P := M143) (r1 := 0) (e1 := 2) (r2 := 2) (e2 := (-1)) (r := 0) (e := 1) (by decide) h1 h2
        have zz98_9 : (M143.1 98 9).toInt = (M138.1 98 9).toInt := s_fF fM143 (by decide) (rfl); have zz98_8 : (M143.1 98 8).toInt = (M138.1 98 8).toInt := s_fF fM143 (by decide) (rfl); have zz98_7 : (M143.1 98 7).toInt = (M138.1 98 7).toInt := s_fF fM143 (by decide) (rfl); have zz98_6 : (M143.1 98 6).toInt = (M138.1 98 6).toInt := s_fF fM143 (by decide) (rfl); have zz98_11 : (M143.1 98 11).toInt = (M138.1 98 11).toInt := s_fF fM143 (by decide) (rfl); exact ih126 M143 (by omega) hM143 ((((FR.rf.tr fM128 (by decide)).tr fM131 (by decide)).tr fM138 (by decide)).tr fM143 (by decide))
  exact L127 2010 M103 (by omega) hM103 (FR.rf.tr fM103 (by decide))
set_option maxHeartbeats 4000000 in
theorem s7_X12_readUnit {l : Launch} {dC : Nat → ClassId} {dI : Nat → Nat → Nat} {ad : Nat → Nat} {cA : Nat → ClassId} {pr : Nat → Nat → Bool} {Kz : mm_M} {M0 : mm_M} (hM0 : INV pr Kz M0) (hpr : PM pr)  (hp0 : (M0.1 98 6).toInt ≤ (M0.1 98 7).toInt ∧ (M0.1 98 7).toInt ≤ (M0.1 98 8).toInt ∧ (M0.1 98 8).toInt ≤ 900 ∧ ((M0.1 98 9).toInt = 24 ∨ (M0.1 98 6).toInt < (M0.1 98 7).toInt)) (hp1 : ¬ (M0.1 98 11).toInt = 0 ∨ (M0.1 102 280).toInt ≤ (M0.1 98 6).toInt) (hp2 : 0 ≤ (M0.1 102 280).toInt) (hp3 : b01 (PI M0) = 1) : Cv l 28 yX12_readUnit wsX12_readUnit dC dI ad cA [.ref (ad 98), .int (sI 0)] M0 (fun M' => INV pr Kz M' ∧ FR [98, 102] M0 M' ∧ ((M'.1 98 6).toInt ≤ (M'.1 98 7).toInt ∧ (M'.1 98 7).toInt ≤ (M'.1 98 8).toInt ∧ (M'.1 98 8).toInt ≤ 900 ∧ ((M'.1 98 9).toInt = 24 ∨ (M'.1 98 6).toInt < (M'.1 98 7).toInt)) ∧ ((M'.1 98 8).toInt = (M0.1 98 8).toInt) ∧ ((M0.1 98 6).toInt ≤ (M'.1 98 6).toInt) ∧ (0 ≤ (M'.1 102 280).toInt) ∧ (¬ (M'.1 98 11).toInt = 0 ∨ (M0.1 98 11).toInt = 0 ∧ (M'.1 102 280).toInt - (M'.1 98 6).toInt + 0 ≤ (M0.1 102 280).toInt - (M0.1 98 6).toInt ∧ (M0.1 102 280).toInt ≤ (M'.1 102 280).toInt ∧ b01 (EXT M0 M' 0 1) = 1) ∧ (b01 (PI M') = 1)) := by
  refine cv_of (cc := cX12_readUnit) (maxL := 3) (lv := [(0, .ref (ad 98)), (1, .int (sI 0))]) (by decide) rfl (Nat.le_of_ble_eq_true rfl) rfl ?_
  intro p e s m args below meth c A Q C hret
  have u101z := ex_0 M0
  have u101n := INV.rd hM0 (i := 102) (c := 48) (k := 280) rfl rfl
  refine j_aload_n C 0 0 dX12_readUnit_0 rfl rfl ?_
  refine y_bipush C dX12_readUnit_1 rfl ?_
  refine j_callVi C (d := 0) (As := [.int (sI 16)]) (st := []) 98 (s_lt rfl rfl) (s_kc (c := 11) rfl rfl) (by decide) rfl (s1_X12_is hM0 16 (by omega)) gX12_readUnit_X12_is rfl hdX12_is (by decide) (Nat.le_of_ble_eq_true rfl) dX12_readUnit_3 rfl (fun r102 M103 h104 => ?_)
  obtain ⟨a106, rfl, rfl, h105⟩ := h104
  refine y_if_eq C 33 dX12_readUnit_6 (by decide) (by omega) (fun h107 => ?_) (fun h107 => ?_)
  · refine j_aload_n C 0 0 dX12_readUnit_33 rfl rfl ?_
    refine y_bipush C dX12_readUnit_34 rfl ?_
    refine j_callVi C (d := 0) (As := [.int (sI 37)]) (st := []) 98 (s_lt rfl rfl) (s_kc (c := 11) rfl rfl) (by decide) rfl (s1_X12_is hM0 37 (by omega)) gX12_readUnit_X12_is rfl hdX12_is (by decide) (Nat.le_of_ble_eq_true rfl) dX12_readUnit_36 rfl (fun r108 M109 h110 => ?_)
    obtain ⟨a112, rfl, rfl, h111⟩ := h110
    refine y_if_eq C 73 dX12_readUnit_39 (by decide) (by omega) (fun h113 => ?_) (fun h113 => ?_)
    · refine j_aload_n C 0 0 dX12_readUnit_73 rfl rfl ?_
      refine j_iload_n C 1 1 dX12_readUnit_74 rfl rfl ?_
      refine j_callVv C (d := 27) (As := [.int (sI 0)]) (st := []) 98 (s_lt rfl rfl) (s_kc (c := 11) rfl rfl) (by decide) rfl (s7_X12_readSum hM0 hpr (by omega) (by omega) (by omega) (by omega)) gX12_readUnit_X12_readSum rfl hdX12_readSum (by decide) (Nat.le_of_ble_eq_true rfl) dX12_readUnit_75 rfl (fun M115 h116 => ?_)
      obtain ⟨hM115, fM115, h117⟩ := h116
      have u118t := fun h1 h2 => ex_tr (M := M0) (N := M0) (P := M115) (r1 := 0) (e1 := 0) (r2 := 0) (e2 := 1) (r := 0) (e := 1) (by decide) h1 h2
      have u118n := INV.rd hM115 (i := 102) (c := 48) (k := 280) rfl rfl
      refine j_aload_n C 0 0 dX12_readUnit_78 rfl rfl ?_
      refine y_bipush C dX12_readUnit_79 rfl ?_
      refine j_callVi C (d := 0) (As := [.int (sI 39)]) (st := []) 98 (s_lt rfl rfl) (s_kc (c := 11) rfl rfl) (by decide) rfl (s1_X12_is hM115 39 (by omega)) gX12_readUnit_X12_is rfl hdX12_is (by decide) (Nat.le_of_ble_eq_true rfl) dX12_readUnit_81 rfl (fun r119 M120 h121 => ?_)
      obtain ⟨a123, rfl, rfl, h122⟩ := h121
      have J132 : ∀ (a131 : Int), (3003 ≤ a131 ∧ a131 ≤ 3005) → jj p l e (cn_R 28) s m args below meth c 0 0 Q 3 dC dI ad cA A M115 111 [(0, .ref (ad 98)), (1, .int (sI 0))] [.int (sI a131)] := by
        intro a131 h133
        refine j_istore_n C 2 [(2, .int (sI a131)), (0, .ref (ad 98)), (1, .int (sI 0))] dX12_readUnit_111 rfl (by decide) rfl ?_
        refine j_aload_n C 1 0 dX12_readUnit_112 rfl rfl ?_
        refine y_bipush C dX12_readUnit_113 rfl ?_
        refine j_callVi C (d := 0) (As := [.int (sI 39)]) (st := []) 98 (s_lt rfl rfl) (s_kc (c := 11) rfl rfl) (by decide) rfl (s1_X12_is hM115 39 (by omega)) gX12_readUnit_X12_is rfl hdX12_is (by decide) (Nat.le_of_ble_eq_true rfl) dX12_readUnit_115 rfl (fun r134 M135 h136 => ?_)
        obtain ⟨a138, rfl, rfl, h137⟩ := h136
        have J173 : ∀ (M172 : mm_M), (((M172.1 98 6).toInt ≤ (M172.1 98 7).toInt ∧ (M172.1 98 7).toInt ≤ (M172.1 98 8).toInt ∧ (M172.1 98 8).toInt ≤ 900 ∧ ((M172.1 98 9).toInt = 24 ∨ (M172.1 98 6).toInt < (M172.1 98 7).toInt)) ∧ ((M172.1 98 8).toInt = (M0.1 98 8).toInt) ∧ ((M0.1 98 6).toInt ≤ (M172.1 98 6).toInt) ∧ (0 ≤ (M172.1 102 280).toInt) ∧ (¬ (M172.1 98 11).toInt = 0 ∨ (M0.1 98 11).toInt = 0 ∧ (M172.1 102 280).toInt - (M172.1 98 6).toInt + 1 ≤ (M0.1 102 280).toInt - (M0.1 98 6).toInt ∧ (M0.1 102 280).toInt ≤ (M172.1 102 280).toInt ∧ b01 (EXT M0 M172 0 1) = 1) ∧ (b01 (PI M172) = 1)) → INV pr Kz M172 → FR [98, 102] M0 M172 → jj p l e (cn_R 28) s m args below meth c 0 0 Q 3 dC dI ad cA A M172 151 [(0, .ref (ad 98)), (1, .int (sI 0)), (2, .int (sI a131))] [] := by
          intro M172 h174 hM172 fM172
          have u175c := fun h => ex_c (M := M0) (N := M0) (P := M172) (r := 0) (e := 1) (FR.cell fM172 (by decide)) h
          have u175n := INV.rd hM172 (i := 102) (c := 48) (k := 280) rfl rfl
          refine j_aload_n C 0 0 dX12_readUnit_151 rfl rfl ?_
          refine j_iload_n C 1 1 dX12_readUnit_152 rfl rfl ?_
          refine j_callVv C (d := 27) (As := [.int (sI 0)]) (st := []) 98 (s_lt rfl rfl) (s_kc (c := 11) rfl rfl) (by decide) rfl (s7_X12_readSum hM172 hpr (by omega) (by omega) (by omega) (by omega)) gX12_readUnit_X12_readSum rfl hdX12_readSum (by decide) (Nat.le_of_ble_eq_true rfl) dX12_readUnit_153 rfl (fun M177 h178 => ?_)
          obtain ⟨hM177, fM177, h179⟩ := h178
          have u180t := fun h1 h2 => ex_tr (M := M0) (N := M172) (P := M177) (r1 := 0) (e1 := 1) (r2 := 0) (e2 := 1) (r := 0) (e := 2) (by decide) h1 h2
          have u180n := INV.rd hM177 (i := 102) (c := 48) (k := 280) rfl rfl
          refine j_aload_n C 0 0 dX12_readUnit_156 rfl rfl ?_
          refine j_iload_n C 2 2 dX12_readUnit_157 rfl rfl ?_
          refine j_callVv C (d := 0) (As := [.int (sI a131)]) (st := []) 98 (s_lt rfl rfl) (s_kc (c := 11) rfl rfl) (by decide) rfl (s1_X12_codes hM177 hpr a131 (by omega) (by omega) (by omega)) gX12_readUnit_X12_codes rfl hdX12_codes (by decide) (Nat.le_of_ble_eq_true rfl) dX12_readUnit_158 rfl (fun M182 h183 => ?_)
          obtain ⟨hM182, fM182, h184⟩ := h183
          have u185n := INV.rd hM182 (i := 102) (c := 48) (k := 280) rfl rfl
          have u185p := fun h => ap_bin (M := M177) (N := M182) (c := a131) (by omega) h
          have u185t := fun h1 h2 => ex_tr (M := M0) (N := M177) (P := M182) (r1 := 0) (e1 := 2) (r2 := 2) (e2 := (-1)) (r := 0) (e := 1) (by decide) h1 h2
          have u186n := INV.rd hM182 (i := 102) (c := 48) (k := 280) rfl rfl
          have zz98_11 : (M182.1 98 11).toInt = (M177.1 98 11).toInt := s_fF fM182 (by decide) (rfl); have zz98_6 : (M182.1 98 6).toInt = (M177.1 98 6).toInt := s_fF fM182 (by decide) (rfl); have zz98_7 : (M182.1 98 7).toInt = (M177.1 98 7).toInt := s_fF fM182 (by decide) (rfl); have zz98_8 : (M182.1 98 8).toInt = (M177.1 98 8).toInt := s_fF fM182 (by decide) (rfl); have zz98_9 : (M182.1 98 9).toInt = (M177.1 98 9).toInt := s_fF fM182 (by decide) (rfl); exact hret _ _ _ dX12_readUnit_161 ⟨hM182, (((FR.rf.tr fM172 (by decide)).tr fM177 (by decide)).tr fM182 (by decide)), by omega⟩
        refine y_if_ne C 139 dX12_readUnit_118 (by decide) (by omega) (fun h139 => ?_) (fun h139 => ?_)
        · refine j_aload_n C 1 0 dX12_readUnit_139 rfl rfl ?_
          refine j_callVv C (d := 5) (As := []) (st := []) 98 (s_lt rfl rfl) (s_kc (c := 11) rfl rfl) (by decide) rfl (s1_X12_next hM115 hpr (by omega) (by omega) (by omega)) gX12_readUnit_X12_next rfl hdX12_next (by decide) (Nat.le_of_ble_eq_true rfl) dX12_readUnit_140 rfl (fun M141 h142 => ?_)
          obtain ⟨hM141, fM141, h143⟩ := h142
          refine j_goto C 151 dX12_readUnit_143 (by decide) ?_
          have u144c := fun h => ex_c (M := M0) (N := M115) (P := M141) (r := 0) (e := 1) (FR.cell fM141 (by decide)) h
          have u144n := INV.rd hM141 (i := 102) (c := 48) (k := 280) rfl rfl
          have zz102_280 : (M141.1 102 280).toInt = (M115.1 102 280).toInt := s_fF fM141 (by decide) (rfl); refine j_lv [1, 2, 0] rfl ?_; exact J173 M141 (by omega) hM141 ((FR.rf.tr fM115 (by decide)).tr fM141 (by decide))
        · refine j_aload_n C 1 0 dX12_readUnit_121 rfl rfl ?_
          refine y_bipush C dX12_readUnit_122 rfl ?_
          refine j_callVi C (d := 0) (As := [.int (sI 40)]) (st := []) 98 (s_lt rfl rfl) (s_kc (c := 11) rfl rfl) (by decide) rfl (s1_X12_is hM115 40 (by omega)) gX12_readUnit_X12_is rfl hdX12_is (by decide) (Nat.le_of_ble_eq_true rfl) dX12_readUnit_124 rfl (fun r145 M146 h147 => ?_)
          obtain ⟨a149, rfl, rfl, h148⟩ := h147
          refine y_if_ne C 139 dX12_readUnit_127 (by decide) (by omega) (fun h150 => ?_) (fun h150 => ?_)
          · refine j_aload_n C 1 0 dX12_readUnit_139 rfl rfl ?_
            refine j_callVv C (d := 5) (As := []) (st := []) 98 (s_lt rfl rfl) (s_kc (c := 11) rfl rfl) (by decide) rfl (s1_X12_next hM115 hpr (by omega) (by omega) (by omega)) gX12_readUnit_X12_next rfl hdX12_next (by decide) (Nat.le_of_ble_eq_true rfl) dX12_readUnit_140 rfl (fun M152 h153 => ?_)
            obtain ⟨hM152, fM152, h154⟩ := h153
            refine j_goto C 151 dX12_readUnit_143 (by decide) ?_
            have u155c := fun h => ex_c (M := M0) (N := M115) (P := M152) (r := 0) (e := 1) (FR.cell fM152 (by decide)) h
            have u155n := INV.rd hM152 (i := 102) (c := 48) (k := 280) rfl rfl
            have zz102_280 : (M152.1 102 280).toInt = (M115.1 102 280).toInt := s_fF fM152 (by decide) (rfl); refine j_lv [1, 2, 0] rfl ?_; exact J173 M152 (by omega) hM152 ((FR.rf.tr fM115 (by decide)).tr fM152 (by decide))
          · refine j_aload_n C 1 0 dX12_readUnit_130 rfl rfl ?_
            refine y_bipush C dX12_readUnit_131 rfl ?_
            refine j_callVi C (d := 0) (As := [.int (sI 41)]) (st := []) 98 (s_lt rfl rfl) (s_kc (c := 11) rfl rfl) (by decide) rfl (s1_X12_is hM115 41 (by omega)) gX12_readUnit_X12_is rfl hdX12_is (by decide) (Nat.le_of_ble_eq_true rfl) dX12_readUnit_133 rfl (fun r156 M157 h158 => ?_)
            obtain ⟨a160, rfl, rfl, h159⟩ := h158
            refine y_if_eq C 146 dX12_readUnit_136 (by decide) (by omega) (fun h161 => ?_) (fun h161 => ?_)
            · refine j_aload_n C 1 0 dX12_readUnit_146 rfl rfl ?_
              refine y_iconst C dX12_readUnit_147 ?_
              refine j_callVv C (d := 0) (As := [.int (sI 2)]) (st := []) 98 (s_lt rfl rfl) (s_kc (c := 11) rfl rfl) (by decide) rfl (s1_X12_fails hM115 hpr 2 (by omega) (by omega) (by omega)) gX12_readUnit_X12_fails rfl hdX12_fails (by decide) (Nat.le_of_ble_eq_true rfl) dX12_readUnit_148 rfl (fun M163 h164 => ?_)
              obtain ⟨hM163, fM163, h165⟩ := h164
              have u166c := fun h => ex_c (M := M0) (N := M115) (P := M163) (r := 0) (e := 1) (FR.cell fM163 (by decide)) h
              have u166n := INV.rd hM163 (i := 102) (c := 48) (k := 280) rfl rfl
              have zz102_280 : (M163.1 102 280).toInt = (M115.1 102 280).toInt := s_fF fM163 (by decide) (rfl); refine j_lv [1, 2, 0] rfl ?_; exact J173 M163 (by omega) hM163 ((FR.rf.tr fM115 (by decide)).tr fM163 (by decide))
            · refine j_aload_n C 1 0 dX12_readUnit_139 rfl rfl ?_
              refine j_callVv C (d := 5) (As := []) (st := []) 98 (s_lt rfl rfl) (s_kc (c := 11) rfl rfl) (by decide) rfl (s1_X12_next hM115 hpr (by omega) (by omega) (by omega)) gX12_readUnit_X12_next rfl hdX12_next (by decide) (Nat.le_of_ble_eq_true rfl) dX12_readUnit_140 rfl (fun M168 h169 => ?_)
              obtain ⟨hM168, fM168, h170⟩ := h169
              refine j_goto C 151 dX12_readUnit_143 (by decide) ?_
              have u171c := fun h => ex_c (M := M0) (N := M115) (P := M168) (r := 0) (e := 1) (FR.cell fM168 (by decide)) h
              have u171n := INV.rd hM168 (i := 102) (c := 48) (k := 280) rfl rfl
              have zz102_280 : (M168.1 102 280).toInt = (M115.1 102 280).toInt := s_fF fM168 (by decide) (rfl); refine j_lv [1, 2, 0] rfl ?_; exact J173 M168 (by omega) hM168 ((FR.rf.tr fM115 (by decide)).tr fM168 (by decide))
      refine y_if_eq C 93 dX12_readUnit_84 (by decide) (by omega) (fun h124 => ?_) (fun h124 => ?_)
      · refine j_aload_n C 0 0 dX12_readUnit_93 rfl rfl ?_
        refine y_bipush C dX12_readUnit_94 rfl ?_
        refine j_callVi C (d := 0) (As := [.int (sI 40)]) (st := []) 98 (s_lt rfl rfl) (s_kc (c := 11) rfl rfl) (by decide) rfl (s1_X12_is hM115 40 (by omega)) gX12_readUnit_X12_is rfl hdX12_is (by decide) (Nat.le_of_ble_eq_true rfl) dX12_readUnit_96 rfl (fun r125 M126 h127 => ?_)
        obtain ⟨a129, rfl, rfl, h128⟩ := h127
        refine y_if_eq C 108 dX12_readUnit_99 (by decide) (by omega) (fun h130 => ?_) (fun h130 => ?_)
        · refine y_sipush C dX12_readUnit_108 rfl ?_
          exact J132 3005 (by omega)
        · refine y_sipush C dX12_readUnit_102 rfl ?_
          refine j_goto C 111 dX12_readUnit_105 (by decide) ?_
          exact J132 3004 (by omega)
      · refine y_sipush C dX12_readUnit_87 rfl ?_
        refine j_goto C 111 dX12_readUnit_90 (by decide) ?_
        exact J132 3003 (by omega)
    · refine j_aload_n C 0 0 dX12_readUnit_42 rfl rfl ?_
      refine j_iload_n C 1 1 dX12_readUnit_43 rfl rfl ?_
      refine j_callVi C (d := 6) (As := [.int (sI 0)]) (st := []) 98 (s_lt rfl rfl) (s_kc (c := 11) rfl rfl) (by decide) rfl (s1_X12_goesIn hM0 hpr (by omega) (by omega)) gX12_readUnit_X12_goesIn rfl hdX12_goesIn (by decide) (Nat.le_of_ble_eq_true rfl) dX12_readUnit_44 rfl (fun r187 M188 h189 => ?_)
      obtain ⟨a191, rfl, hM188, fM188, h190⟩ := h189
      have u192c := fun h => ex_c (M := M0) (N := M0) (P := M188) (r := 0) (e := 0) (FR.cell fM188 (by decide)) h
      have u192n := INV.rd hM188 (i := 102) (c := 48) (k := 280) rfl rfl
      refine y_if_ne C 51 dX12_readUnit_47 (by decide) (by omega) (fun h193 => ?_) (fun h193 => ?_)
      · refine j_aload_n C 0 0 dX12_readUnit_51 rfl rfl ?_
        refine j_iload_n C 1 1 dX12_readUnit_52 rfl rfl ?_
        refine y_iconst C dX12_readUnit_53 ?_
        refine y_iadd C dX12_readUnit_54 ?_
        refine j_callVv C (d := 27) (As := [.int (sI (0 + 1))]) (st := []) 98 (s_lt rfl rfl) (s_kc (c := 11) rfl rfl) (by decide) rfl (s6_X12_readTruth hM188 hpr (by omega) (by omega) (by omega) (by omega)) gX12_readUnit_X12_readTruth rfl hdX12_readTruth (by decide) (Nat.le_of_ble_eq_true rfl) dX12_readUnit_55 rfl (fun M195 h196 => ?_)
        obtain ⟨hM195, fM195, h197⟩ := h196
        have u198t := fun h1 h2 => ex_tr (M := M0) (N := M188) (P := M195) (r1 := 0) (e1 := 0) (r2 := 0) (e2 := 1) (r := 0) (e := 1) (by decide) h1 h2
        have u198n := INV.rd hM195 (i := 102) (c := 48) (k := 280) rfl rfl
        refine j_aload_n C 0 0 dX12_readUnit_58 rfl rfl ?_
        refine y_bipush C dX12_readUnit_59 rfl ?_
        refine j_callVi C (d := 6) (As := [.int (sI 38)]) (st := []) 98 (s_lt rfl rfl) (s_kc (c := 11) rfl rfl) (by decide) rfl (s1_X12_eats hM195 hpr 38 (by omega) (by omega) (by omega) (by omega)) gX12_readUnit_X12_eats rfl hdX12_eats (by decide) (Nat.le_of_ble_eq_true rfl) dX12_readUnit_61 rfl (fun r199 M200 h201 => ?_)
        obtain ⟨a203, rfl, hM200, fM200, h202⟩ := h201
        have u204c := fun h => ex_c (M := M0) (N := M195) (P := M200) (r := 0) (e := 1) (FR.cell fM200 (by decide)) h
        have u204n := INV.rd hM200 (i := 102) (c := 48) (k := 280) rfl rfl
        refine y_if_ne C 72 dX12_readUnit_64 (by decide) (by omega) (fun h205 => ?_) (fun h205 => ?_)
        · have u206c := fun h => ex_c (M := M0) (N := M195) (P := M200) (r := 0) (e := 1) (FR.cell fM200 (by decide)) h
          have u206d := fun h => ex_c (M := M0) (N := M195) (P := M200) (r := 0) (e := 0) (FR.cell fM200 (by decide)) h
          have u206n := INV.rd hM200 (i := 102) (c := 48) (k := 280) rfl rfl
          have zz102_280 : (M200.1 102 280).toInt = (M195.1 102 280).toInt := s_fF fM200 (by decide) (rfl); exact hret _ _ _ dX12_readUnit_72 ⟨hM200, (((FR.rf.tr fM188 (by decide)).tr fM195 (by decide)).tr fM200 (by decide)), by omega⟩
        · refine j_aload_n C 0 0 dX12_readUnit_67 rfl rfl ?_
          refine y_iconst C dX12_readUnit_68 ?_
          refine j_callVv C (d := 0) (As := [.int (sI 2)]) (st := []) 98 (s_lt rfl rfl) (s_kc (c := 11) rfl rfl) (by decide) rfl (s1_X12_fails hM200 hpr 2 (by omega) (by omega) (by omega)) gX12_readUnit_X12_fails rfl hdX12_fails (by decide) (Nat.le_of_ble_eq_true rfl) dX12_readUnit_69 rfl (fun M208 h209 => ?_)
          obtain ⟨hM208, fM208, h210⟩ := h209
          have u211c := fun h => ex_c (M := M0) (N := M200) (P := M208) (r := 0) (e := 1) (FR.cell fM208 (by decide)) h
          have u211d := fun h => ex_c (M := M0) (N := M200) (P := M208) (r := 0) (e := 0) (FR.cell fM208 (by decide)) h
          have u211n := INV.rd hM208 (i := 102) (c := 48) (k := 280) rfl rfl
          have zz102_280 : (M208.1 102 280).toInt = (M195.1 102 280).toInt := s_fF fM200 (by decide) (s_fF fM208 (by decide) (rfl)); exact hret _ _ _ dX12_readUnit_72 ⟨hM208, ((((FR.rf.tr fM188 (by decide)).tr fM195 (by decide)).tr fM200 (by decide)).tr fM208 (by decide)), by omega⟩
      · have u212c := fun h => ex_c (M := M0) (N := M0) (P := M188) (r := 0) (e := 1) (FR.cell fM188 (by decide)) h
        have u212d := fun h => ex_c (M := M0) (N := M0) (P := M188) (r := 0) (e := 0) (FR.cell fM188 (by decide)) h
        have u212n := INV.rd hM188 (i := 102) (c := 48) (k := 280) rfl rfl
        have zz102_280 : (M188.1 102 280).toInt = (M0.1 102 280).toInt := s_fF fM188 (by decide) (rfl); exact hret _ _ _ dX12_readUnit_50 ⟨hM188, (FR.rf.tr fM188 (by decide)), by omega⟩
  · refine j_aload_n C 0 0 dX12_readUnit_9 rfl rfl ?_
    refine j_iload_n C 1 1 dX12_readUnit_10 rfl rfl ?_
    refine j_callVi C (d := 6) (As := [.int (sI 0)]) (st := []) 98 (s_lt rfl rfl) (s_kc (c := 11) rfl rfl) (by decide) rfl (s1_X12_goesIn hM0 hpr (by omega) (by omega)) gX12_readUnit_X12_goesIn rfl hdX12_goesIn (by decide) (Nat.le_of_ble_eq_true rfl) dX12_readUnit_11 rfl (fun r213 M214 h215 => ?_)
    obtain ⟨a217, rfl, hM214, fM214, h216⟩ := h215
    have u218c := fun h => ex_c (M := M0) (N := M0) (P := M214) (r := 0) (e := 0) (FR.cell fM214 (by decide)) h
    have u218n := INV.rd hM214 (i := 102) (c := 48) (k := 280) rfl rfl
    refine y_if_ne C 18 dX12_readUnit_14 (by decide) (by omega) (fun h219 => ?_) (fun h219 => ?_)
    · refine j_aload_n C 0 0 dX12_readUnit_18 rfl rfl ?_
      refine j_iload_n C 1 1 dX12_readUnit_19 rfl rfl ?_
      refine y_iconst C dX12_readUnit_20 ?_
      refine y_iadd C dX12_readUnit_21 ?_
      refine j_callVv C (d := 25) (As := [.int (sI (0 + 1))]) (st := []) 98 (s_lt rfl rfl) (s_kc (c := 11) rfl rfl) (by decide) rfl (s6_X12_readUnit hM214 hpr (by omega) (by omega) (by omega) (by omega)) gX12_readUnit_X12_readUnit rfl hdX12_readUnit (by decide) (Nat.le_of_ble_eq_true rfl) dX12_readUnit_22 rfl (fun M221 h222 => ?_)
      obtain ⟨hM221, fM221, h223⟩ := h222
      have u224t := fun h1 h2 => ex_tr (M := M0) (N := M214) (P := M221) (r1 := 0) (e1 := 0) (r2 := 0) (e2 := 1) (r := 0) (e := 1) (by decide) h1 h2
      have u224n := INV.rd hM221 (i := 102) (c := 48) (k := 280) rfl rfl
      refine j_aload_n C 0 0 dX12_readUnit_25 rfl rfl ?_
      refine y_sipush C dX12_readUnit_26 rfl ?_
      refine j_callVv C (d := 0) (As := [.int (sI 3006)]) (st := []) 98 (s_lt rfl rfl) (s_kc (c := 11) rfl rfl) (by decide) rfl (s1_X12_codes hM221 hpr 3006 (by omega) (by omega) (by omega)) gX12_readUnit_X12_codes rfl hdX12_codes (by decide) (Nat.le_of_ble_eq_true rfl) dX12_readUnit_29 rfl (fun M226 h227 => ?_)
      obtain ⟨hM226, fM226, h228⟩ := h227
      have u229n := INV.rd hM226 (i := 102) (c := 48) (k := 280) rfl rfl
      have u229p := fun h => ap_not (M := M221) (N := M226) (by omega) h
      have u229t := fun h1 h2 => ex_tr (M := M0) (N := M221) (P := M226) (r1 := 0) (e1 := 1) (r2 := 1) (e2 := 0) (r := 0) (e := 1) (by decide) h1 h2
      have u230n := INV.rd hM226 (i := 102) (c := 48) (k := 280) rfl rfl
      have zz98_11 : (M226.1 98 11).toInt = (M221.1 98 11).toInt := s_fF fM226 (by decide) (rfl); have zz98_6 : (M226.1 98 6).toInt = (M221.1 98 6).toInt := s_fF fM226 (by decide) (rfl); have zz98_7 : (M226.1 98 7).toInt = (M221.1 98 7).toInt := s_fF fM226 (by decide) (rfl); have zz98_8 : (M226.1 98 8).toInt = (M221.1 98 8).toInt := s_fF fM226 (by decide) (rfl); have zz98_9 : (M226.1 98 9).toInt = (M221.1 98 9).toInt := s_fF fM226 (by decide) (rfl); exact hret _ _ _ dX12_readUnit_32 ⟨hM226, (((FR.rf.tr fM214 (by decide)).tr fM221 (by decide)).tr fM226 (by decide)), by omega⟩
    · have u231c := fun h => ex_c (M := M0) (N := M0) (P := M214) (r := 0) (e := 1) (FR.cell fM214 (by decide)) h
      have u231d := fun h => ex_c (M := M0) (N := M0) (P := M214) (r := 0) (e := 0) (FR.cell fM214 (by decide)) h
      have u231n := INV.rd hM214 (i := 102) (c := 48) (k := 280) rfl rfl
      have zz102_280 : (M214.1 102 280).toInt = (M0.1 102 280).toInt := s_fF fM214 (by decide) (rfl); exact hret _ _ _ dX12_readUnit_17 ⟨hM214, (FR.rf.tr fM214 (by decide)), by omega⟩
set_option maxHeartbeats 4000000 in
theorem s7_X12_readBoth {l : Launch} {dC : Nat → ClassId} {dI : Nat → Nat → Nat} {ad : Nat → Nat} {cA : Nat → ClassId} {pr : Nat → Nat → Bool} {Kz : mm_M} {M0 : mm_M} (hM0 : INV pr Kz M0) (hpr : PM pr)  (hp0 : (M0.1 98 6).toInt ≤ (M0.1 98 7).toInt ∧ (M0.1 98 7).toInt ≤ (M0.1 98 8).toInt ∧ (M0.1 98 8).toInt ≤ 900 ∧ ((M0.1 98 9).toInt = 24 ∨ (M0.1 98 6).toInt < (M0.1 98 7).toInt)) (hp1 : ¬ (M0.1 98 11).toInt = 0 ∨ (M0.1 102 280).toInt ≤ (M0.1 98 6).toInt) (hp2 : 0 ≤ (M0.1 102 280).toInt) (hp3 : b01 (PI M0) = 1) : Cv l 29 yX12_readBoth wsX12_readBoth dC dI ad cA [.ref (ad 98), .int (sI 0)] M0 (fun M' => INV pr Kz M' ∧ FR [98, 102] M0 M' ∧ ((M'.1 98 6).toInt ≤ (M'.1 98 7).toInt ∧ (M'.1 98 7).toInt ≤ (M'.1 98 8).toInt ∧ (M'.1 98 8).toInt ≤ 900 ∧ ((M'.1 98 9).toInt = 24 ∨ (M'.1 98 6).toInt < (M'.1 98 7).toInt)) ∧ ((M'.1 98 8).toInt = (M0.1 98 8).toInt) ∧ ((M0.1 98 6).toInt ≤ (M'.1 98 6).toInt) ∧ (0 ≤ (M'.1 102 280).toInt) ∧ (¬ (M'.1 98 11).toInt = 0 ∨ (M0.1 98 11).toInt = 0 ∧ (M'.1 102 280).toInt - (M'.1 98 6).toInt + 0 ≤ (M0.1 102 280).toInt - (M0.1 98 6).toInt ∧ (M0.1 102 280).toInt ≤ (M'.1 102 280).toInt ∧ b01 (EXT M0 M' 0 1) = 1) ∧ (b01 (PI M') = 1)) := by
  refine cv_of (cc := cX12_readBoth) (maxL := 2) (lv := [(0, .ref (ad 98)), (1, .int (sI 0))]) (by decide) rfl (Nat.le_of_ble_eq_true rfl) rfl ?_
  intro p e s m args below meth c A Q C hret
  have u101z := ex_0 M0
  have u101n := INV.rd hM0 (i := 102) (c := 48) (k := 280) rfl rfl
  refine j_aload_n C 0 0 dX12_readBoth_0 rfl rfl ?_
  refine j_iload_n C 1 1 dX12_readBoth_1 rfl rfl ?_
  refine j_callVv C (d := 28) (As := [.int (sI 0)]) (st := []) 98 (s_lt rfl rfl) (s_kc (c := 11) rfl rfl) (by decide) rfl (s7_X12_readUnit hM0 hpr (by omega) (by omega) (by omega) (by omega)) gX12_readBoth_X12_readUnit rfl hdX12_readUnit (by decide) (Nat.le_of_ble_eq_true rfl) dX12_readBoth_2 rfl (fun M103 h104 => ?_)
  obtain ⟨hM103, fM103, h105⟩ := h104
  have u106t := fun h1 h2 => ex_tr (M := M0) (N := M0) (P := M103) (r1 := 0) (e1 := 0) (r2 := 0) (e2 := 1) (r := 0) (e := 1) (by decide) h1 h2
  have u106n := INV.rd hM103 (i := 102) (c := 48) (k := 280) rfl rfl
  have L127 : ∀ (n125 : Nat), ∀ (M128 : mm_M), (((M128.1 98 6).toInt ≤ (M128.1 98 7).toInt ∧ (M128.1 98 7).toInt ≤ (M128.1 98 8).toInt ∧ (M128.1 98 8).toInt ≤ 900 ∧ ((M128.1 98 9).toInt = 24 ∨ (M128.1 98 6).toInt < (M128.1 98 7).toInt)) ∧ ((M128.1 98 8).toInt = (M0.1 98 8).toInt) ∧ ((M0.1 98 6).toInt ≤ (M128.1 98 6).toInt) ∧ (0 ≤ (M128.1 102 280).toInt) ∧ (¬ (M128.1 98 11).toInt = 0 ∨ (M0.1 98 11).toInt = 0 ∧ (M128.1 102 280).toInt - (M128.1 98 6).toInt + 0 ≤ (M0.1 102 280).toInt - (M0.1 98 6).toInt ∧ (M0.1 102 280).toInt ≤ (M128.1 102 280).toInt ∧ b01 (EXT M0 M128 0 1) = 1) ∧ (b01 (PI M128) = 1) ∧ (900 - (M128.1 98 6).toInt) < (n125 : Int)) → INV pr Kz M128 → FR [98, 102] M0 M128 → jj p l e (cn_R 29) s m args below meth c 0 0 Q 2 dC dI ad cA A M128 5 [(0, .ref (ad 98)), (1, .int (sI 0))] [] := by
    intro n125
    induction n125 with
    | zero =>
      intro M128 h129 hM128 fM128
      exfalso; omega
    | succ n125 ih126 =>
      intro M128 h129 hM128 fM128
      refine j_aload_n C 0 0 dX12_readBoth_5 rfl rfl ?_
      refine y_bipush C dX12_readBoth_6 rfl ?_
      refine j_callVi C (d := 6) (As := [.int (sI 14)]) (st := []) 98 (s_lt rfl rfl) (s_kc (c := 11) rfl rfl) (by decide) rfl (s1_X12_eats hM128 hpr 14 (by omega) (by omega) (by omega) (by omega)) gX12_readBoth_X12_eats rfl hdX12_eats (by decide) (Nat.le_of_ble_eq_true rfl) dX12_readBoth_8 rfl (fun r130 M131 h132 => ?_)
      obtain ⟨a134, rfl, hM131, fM131, h133⟩ := h132
      have u135c := fun h => ex_c (M := M0) (N := M128) (P := M131) (r := 0) (e := 1) (FR.cell fM131 (by decide)) h
      have u135n := INV.rd hM131 (i := 102) (c := 48) (k := 280) rfl rfl
      refine y_if_eq C 29 dX12_readBoth_11 (by decide) (by omega) (fun h136 => ?_) (fun h136 => ?_)
      · have u147c := fun h => ex_c (M := M0) (N := M128) (P := M131) (r := 0) (e := 1) (FR.cell fM131 (by decide)) h
        have u147d := fun h => ex_c (M := M0) (N := M128) (P := M131) (r := 0) (e := 0) (FR.cell fM131 (by decide)) h
        have u147n := INV.rd hM131 (i := 102) (c := 48) (k := 280) rfl rfl
        have zz102_280 : (M131.1 102 280).toInt = (M128.1 102 280).toInt := s_fF fM131 (by decide) (rfl); exact hret _ _ _ dX12_readBoth_29 ⟨hM131, ((FR.rf.tr fM128 (by decide)).tr fM131 (by decide)), by omega⟩
      · refine j_aload_n C 0 0 dX12_readBoth_14 rfl rfl ?_
        refine j_iload_n C 1 1 dX12_readBoth_15 rfl rfl ?_
        refine j_callVv C (d := 28) (As := [.int (sI 0)]) (st := []) 98 (s_lt rfl rfl) (s_kc (c := 11) rfl rfl) (by decide) rfl (s7_X12_readUnit hM131 hpr (by omega) (by omega) (by omega) (by omega)) gX12_readBoth_X12_readUnit rfl hdX12_readUnit (by decide) (Nat.le_of_ble_eq_true rfl) dX12_readBoth_16 rfl (fun M138 h139 => ?_)
        obtain ⟨hM138, fM138, h140⟩ := h139
        have u141t := fun h1 h2 => ex_tr (M := M0) (N := M131) (P := M138) (r1 := 0) (e1 := 1) (r2 := 0) (e2 := 1) (r := 0) (e := 2) (by decide) h1 h2
        have u141n := INV.rd hM138 (i := 102) (c := 48) (k := 280) rfl rfl
        refine j_aload_n C 0 0 dX12_readBoth_19 rfl rfl ?_
        refine y_sipush C dX12_readBoth_20 rfl ?_
        refine j_callVv C (d := 0) (As := [.int (sI 3007)]) (st := []) 98 (s_lt rfl rfl) (s_kc (c := 11) rfl rfl) (by decide) rfl (s1_X12_codes hM138 hpr 3007 (by omega) (by omega) (by omega)) gX12_readBoth_X12_codes rfl hdX12_codes (by decide) (Nat.le_of_ble_eq_true rfl) dX12_readBoth_23 rfl (fun M143 h144 => ?_)
        obtain ⟨hM143, fM143, h145⟩ := h144
        refine j_goto C 5 dX12_readBoth_26 (by decide) ?_
        have u146n := INV.rd hM143 (i := 102) (c := 48) (k := 280) rfl rfl
        have u146p := fun h => ap_bin (M := M138) (N := M143) (c := 3007) (by omega) h
        have u146t := fun h1 h2 => ex_tr (M := M0) (N := M138) (P := M143) (r1 := 0) (e1 := 2) (r2 := 2) (e2 := (-1)) (r := 0) (e := 1) (by decide) h1 h2
        have zz98_9 : (M143.1 98 9).toInt = (M138.1 98 9).toInt := s_fF fM143 (by decide) (rfl); have zz98_8 : (M143.1 98 8).toInt = (M138.1 98 8).toInt := s_fF fM143 (by decide) (rfl); have zz98_7 : (M143.1 98 7).toInt = (M138.1 98 7).toInt := s_fF fM143 (by decide) (rfl); have zz98_6 : (M143.1 98 6).toInt = (M138.1 98 6).toInt := s_fF fM143 (by decide) (rfl); have zz98_11 : (M143.1 98 11).toInt = (M138.1 98 11).toInt := s_fF fM143 (by decide) (rfl); exact ih126 M143 (by omega) hM143 ((((FR.rf.tr fM128 (by decide)).tr fM131 (by decide)).tr fM138 (by decide)).tr fM143 (by decide))
  exact L127 2010 M103 (by omega) hM103 (FR.rf.tr fM103 (by decide))
set_option maxHeartbeats 4000000 in
theorem s7_X12_readTruth {l : Launch} {dC : Nat → ClassId} {dI : Nat → Nat → Nat} {ad : Nat → Nat} {cA : Nat → ClassId} {pr : Nat → Nat → Bool} {Kz : mm_M} {M0 : mm_M} (hM0 : INV pr Kz M0) (hpr : PM pr)  (hp0 : (M0.1 98 6).toInt ≤ (M0.1 98 7).toInt ∧ (M0.1 98 7).toInt ≤ (M0.1 98 8).toInt ∧ (M0.1 98 8).toInt ≤ 900 ∧ ((M0.1 98 9).toInt = 24 ∨ (M0.1 98 6).toInt < (M0.1 98 7).toInt)) (hp1 : ¬ (M0.1 98 11).toInt = 0 ∨ (M0.1 102 280).toInt ≤ (M0.1 98 6).toInt) (hp2 : 0 ≤ (M0.1 102 280).toInt) (hp3 : b01 (PI M0) = 1) : Cv l 30 yX12_readTruth wsX12_readTruth dC dI ad cA [.ref (ad 98), .int (sI 0)] M0 (fun M' => INV pr Kz M' ∧ FR [98, 102] M0 M' ∧ ((M'.1 98 6).toInt ≤ (M'.1 98 7).toInt ∧ (M'.1 98 7).toInt ≤ (M'.1 98 8).toInt ∧ (M'.1 98 8).toInt ≤ 900 ∧ ((M'.1 98 9).toInt = 24 ∨ (M'.1 98 6).toInt < (M'.1 98 7).toInt)) ∧ ((M'.1 98 8).toInt = (M0.1 98 8).toInt) ∧ ((M0.1 98 6).toInt ≤ (M'.1 98 6).toInt) ∧ (0 ≤ (M'.1 102 280).toInt) ∧ (¬ (M'.1 98 11).toInt = 0 ∨ (M0.1 98 11).toInt = 0 ∧ (M'.1 102 280).toInt - (M'.1 98 6).toInt + 0 ≤ (M0.1 102 280).toInt - (M0.1 98 6).toInt ∧ (M0.1 102 280).toInt ≤ (M'.1 102 280).toInt ∧ b01 (EXT M0 M' 0 1) = 1) ∧ (b01 (PI M') = 1)) := by
  refine cv_of (cc := cX12_readTruth) (maxL := 2) (lv := [(0, .ref (ad 98)), (1, .int (sI 0))]) (by decide) rfl (Nat.le_of_ble_eq_true rfl) rfl ?_
  intro p e s m args below meth c A Q C hret
  have u101z := ex_0 M0
  have u101n := INV.rd hM0 (i := 102) (c := 48) (k := 280) rfl rfl
  refine j_aload_n C 0 0 dX12_readTruth_0 rfl rfl ?_
  refine j_iload_n C 1 1 dX12_readTruth_1 rfl rfl ?_
  refine j_callVv C (d := 29) (As := [.int (sI 0)]) (st := []) 98 (s_lt rfl rfl) (s_kc (c := 11) rfl rfl) (by decide) rfl (s7_X12_readBoth hM0 hpr (by omega) (by omega) (by omega) (by omega)) gX12_readTruth_X12_readBoth rfl hdX12_readBoth (by decide) (Nat.le_of_ble_eq_true rfl) dX12_readTruth_2 rfl (fun M103 h104 => ?_)
  obtain ⟨hM103, fM103, h105⟩ := h104
  have u106t := fun h1 h2 => ex_tr (M := M0) (N := M0) (P := M103) (r1 := 0) (e1 := 0) (r2 := 0) (e2 := 1) (r := 0) (e := 1) (by decide) h1 h2
  have u106n := INV.rd hM103 (i := 102) (c := 48) (k := 280) rfl rfl
  have L127 : ∀ (n125 : Nat), ∀ (M128 : mm_M), (((M128.1 98 6).toInt ≤ (M128.1 98 7).toInt ∧ (M128.1 98 7).toInt ≤ (M128.1 98 8).toInt ∧ (M128.1 98 8).toInt ≤ 900 ∧ ((M128.1 98 9).toInt = 24 ∨ (M128.1 98 6).toInt < (M128.1 98 7).toInt)) ∧ ((M128.1 98 8).toInt = (M0.1 98 8).toInt) ∧ ((M0.1 98 6).toInt ≤ (M128.1 98 6).toInt) ∧ (0 ≤ (M128.1 102 280).toInt) ∧ (¬ (M128.1 98 11).toInt = 0 ∨ (M0.1 98 11).toInt = 0 ∧ (M128.1 102 280).toInt - (M128.1 98 6).toInt + 0 ≤ (M0.1 102 280).toInt - (M0.1 98 6).toInt ∧ (M0.1 102 280).toInt ≤ (M128.1 102 280).toInt ∧ b01 (EXT M0 M128 0 1) = 1) ∧ (b01 (PI M128) = 1) ∧ (900 - (M128.1 98 6).toInt) < (n125 : Int)) → INV pr Kz M128 → FR [98, 102] M0 M128 → jj p l e (cn_R 30) s m args below meth c 0 0 Q 2 dC dI ad cA A M128 5 [(0, .ref (ad 98)), (1, .int (sI 0))] [] := by
    intro n125
    induction n125 with
    | zero =>
      intro M128 h129 hM128 fM128
      exfalso; omega
    | succ n125 ih126 =>
      intro M128 h129 hM128 fM128
      refine j_aload_n C 0 0 dX12_readTruth_5 rfl rfl ?_
      refine y_bipush C dX12_readTruth_6 rfl ?_
      refine j_callVi C (d := 6) (As := [.int (sI 15)]) (st := []) 98 (s_lt rfl rfl) (s_kc (c := 11) rfl rfl) (by decide) rfl (s1_X12_eats hM128 hpr 15 (by omega) (by omega) (by omega) (by omega)) gX12_readTruth_X12_eats rfl hdX12_eats (by decide) (Nat.le_of_ble_eq_true rfl) dX12_readTruth_8 rfl (fun r130 M131 h132 => ?_)
      obtain ⟨a134, rfl, hM131, fM131, h133⟩ := h132
      have u135c := fun h => ex_c (M := M0) (N := M128) (P := M131) (r := 0) (e := 1) (FR.cell fM131 (by decide)) h
      have u135n := INV.rd hM131 (i := 102) (c := 48) (k := 280) rfl rfl
      refine y_if_eq C 29 dX12_readTruth_11 (by decide) (by omega) (fun h136 => ?_) (fun h136 => ?_)
      · have u147c := fun h => ex_c (M := M0) (N := M128) (P := M131) (r := 0) (e := 1) (FR.cell fM131 (by decide)) h
        have u147d := fun h => ex_c (M := M0) (N := M128) (P := M131) (r := 0) (e := 0) (FR.cell fM131 (by decide)) h
        have u147n := INV.rd hM131 (i := 102) (c := 48) (k := 280) rfl rfl
        have zz102_280 : (M131.1 102 280).toInt = (M128.1 102 280).toInt := s_fF fM131 (by decide) (rfl); exact hret _ _ _ dX12_readTruth_29 ⟨hM131, ((FR.rf.tr fM128 (by decide)).tr fM131 (by decide)), by omega⟩
      · refine j_aload_n C 0 0 dX12_readTruth_14 rfl rfl ?_
        refine j_iload_n C 1 1 dX12_readTruth_15 rfl rfl ?_
        refine j_callVv C (d := 29) (As := [.int (sI 0)]) (st := []) 98 (s_lt rfl rfl) (s_kc (c := 11) rfl rfl) (by decide) rfl (s7_X12_readBoth hM131 hpr (by omega) (by omega) (by omega) (by omega)) gX12_readTruth_X12_readBoth rfl hdX12_readBoth (by decide) (Nat.le_of_ble_eq_true rfl) dX12_readTruth_16 rfl (fun M138 h139 => ?_)
        obtain ⟨hM138, fM138, h140⟩ := h139
        have u141t := fun h1 h2 => ex_tr (M := M0) (N := M131) (P := M138) (r1 := 0) (e1 := 1) (r2 := 0) (e2 := 1) (r := 0) (e := 2) (by decide) h1 h2
        have u141n := INV.rd hM138 (i := 102) (c := 48) (k := 280) rfl rfl
        refine j_aload_n C 0 0 dX12_readTruth_19 rfl rfl ?_
        refine y_sipush C dX12_readTruth_20 rfl ?_
        refine j_callVv C (d := 0) (As := [.int (sI 3008)]) (st := []) 98 (s_lt rfl rfl) (s_kc (c := 11) rfl rfl) (by decide) rfl (s1_X12_codes hM138 hpr 3008 (by omega) (by omega) (by omega)) gX12_readTruth_X12_codes rfl hdX12_codes (by decide) (Nat.le_of_ble_eq_true rfl) dX12_readTruth_23 rfl (fun M143 h144 => ?_)
        obtain ⟨hM143, fM143, h145⟩ := h144
        refine j_goto C 5 dX12_readTruth_26 (by decide) ?_
        have u146n := INV.rd hM143 (i := 102) (c := 48) (k := 280) rfl rfl
        have u146p := fun h => ap_bin (M := M138) (N := M143) (c := 3008) (by omega) h
        have u146t := fun h1 h2 => ex_tr (M := M0) (N := M138) (P := M143) (r1 := 0) (e1 := 2) (r2 := 2) (e2 := (-1)) (r := 0) (e := 1) (by decide) h1 h2
        have zz98_9 : (M143.1 98 9).toInt = (M138.1 98 9).toInt := s_fF fM143 (by decide) (rfl); have zz98_8 : (M143.1 98 8).toInt = (M138.1 98 8).toInt := s_fF fM143 (by decide) (rfl); have zz98_7 : (M143.1 98 7).toInt = (M138.1 98 7).toInt := s_fF fM143 (by decide) (rfl); have zz98_6 : (M143.1 98 6).toInt = (M138.1 98 6).toInt := s_fF fM143 (by decide) (rfl); have zz98_11 : (M143.1 98 11).toInt = (M138.1 98 11).toInt := s_fF fM143 (by decide) (rfl); exact ih126 M143 (by omega) hM143 ((((FR.rf.tr fM128 (by decide)).tr fM131 (by decide)).tr fM138 (by decide)).tr fM143 (by decide))
  exact L127 2010 M103 (by omega) hM103 (FR.rf.tr fM103 (by decide))
