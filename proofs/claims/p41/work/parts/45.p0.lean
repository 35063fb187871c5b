set_option maxHeartbeats 4000000 in
theorem s1_X12_plain {l : Launch} {dC : Nat → ClassId} {dI : Nat → Nat → Nat} {ad : Nat → Nat} {cA : Nat → ClassId} {pr : Nat → Nat → Bool} {Kz : mm_M} {M0 : mm_M} (hM0 : INV pr Kz M0) (hpr : PM pr)  (hp0 : b01 (PI M0) = 1) : Cv l 0 yX12_plain wsX12_plain dC dI ad cA [.ref (ad 102)] M0 (fun M' => INV pr Kz M' ∧ FR [102] M0 M' ∧ (b01 (ZR M' 1181) = 1) ∧ (b01 (PI M') = 1)) := by
  refine cv_of (cc := cX12_plain) (maxL := 2) (lv := [(0, .ref (ad 102))]) (by decide) rfl (Nat.le_of_ble_eq_true rfl) rfl ?_
  intro p e s m args below meth c A Q C hret
  refine y_iconst C dX12_plain_0 ?_
  refine j_istore_n C 1 [(1, .int (sI 0)), (0, .ref (ad 102))] dX12_plain_1 rfl (by decide) rfl ?_
  have u101 := zr_0 M0
  have L110 : ∀ (n108 : Nat), ∀ (a111 : Int) (M112 : mm_M), (0 ≤ a111 ∧ a111 ≤ 1181 ∧ (b01 (ZR M112 a111) = 1) ∧ (b01 (PI M112) = 1) ∧ (1181 - a111) < (n108 : Int)) → INV pr Kz M112 → FR [102] M0 M112 → jj p l e (cn_R 0) s m args below meth c 0 0 Q 2 dC dI ad cA A M112 2 [(0, .ref (ad 102)), (1, .int (sI a111))] [] := by
    intro n108
    induction n108 with
    | zero =>
      intro a111 M112 h113 hM112 fM112
      exfalso; omega
    | succ n108 ih109 =>
      intro a111 M112 h113 hM112 fM112
      refine j_iload_n C 1 1 dX12_plain_2 rfl rfl ?_
      refine y_sipush C dX12_plain_3 rfl ?_
      refine y_icmp_ge C 19 dX12_plain_6 (by decide) (by omega) (fun h114 => ?_) (fun h114 => ?_)
      · obtain rfl : a111 = 1181 := by omega
        exact hret _ _ _ dX12_plain_19 ⟨hM112, (FR.rf.tr fM112 (by decide)), by omega⟩
      · refine j_aload_n C 0 0 dX12_plain_9 rfl rfl ?_
        refine j_iload_n C 1 1 dX12_plain_10 rfl rfl ?_
        refine y_iconst C dX12_plain_11 ?_
        refine y_iastR C 48 1181 rfl rfl rfl ak_48 an_48 rfl hM112 (PM.w hpr rfl rfl) dX12_plain_12 (by omega) (by omega) (b48_0 _) (fun M115 eM115 hM115 => ?_)
        have pM115 := pi_o eM115 (by decide) (by decide) (by omega)
        have u116 := zr_s (k := a111) eM115 (by omega) (by omega)
        refine y_iinc C 1 [(1, .int (sI (a111 + 1))), (0, .ref (ad 102))] dX12_plain_13 rfl (by decide) rfl ?_
        refine j_goto C 2 dX12_plain_16 (by decide) ?_
        refine j_lv [1, 0] rfl ?_; exact ih109 (a111 + 1) M115 (by omega) hM115 ((FR.rf.tr fM112 (by decide)).wI eM115 (by decide))
  refine j_lv [1, 0] rfl ?_; exact L110 2372 0 M0 (by omega) hM0 FR.rf
set_option maxHeartbeats 4000000 in
theorem s1_X12_see {l : Launch} {dC : Nat → ClassId} {dI : Nat → Nat → Nat} {ad : Nat → Nat} {cA : Nat → ClassId} {pr : Nat → Nat → Bool} {Kz : mm_M} {M0 : mm_M} (hM0 : INV pr Kz M0) (a1 : Int) (ha1 : -2147483648 ≤ a1 ∧ a1 ≤ 2147483647) (hp0 : 0 ≤ a1 ∧ a1 ≤ 900) : Ci l 0 yX12_see wsX12_see dC dI ad cA [.ref (ad 98), .int (sI a1)] M0 (fun r M' => ∃ a : Int, r = sI a ∧ M0 = M' ∧ (-1) ≤ a ∧ a ≤ 255 ∧ (a1 < (M0.1 98 8).toInt ∧ a = (M0.1 101 (a1).toNat).toInt ∨ ¬ a1 < (M0.1 98 8).toInt ∧ a = -1)) := by
  refine ci_of (cc := cX12_see) (maxL := 2) (ty := .int) (lv := [(0, .ref (ad 98)), (1, .int (sI a1))]) (by decide) rfl (fun r M' hp => rfl) (Nat.le_of_ble_eq_true rfl) rfl ?_
  intro p e s m args below meth c A Q C hret
  refine j_iload_n C 1 1 dX12_see_0 rfl rfl ?_
  refine j_aload_n C 0 0 dX12_see_1 rfl rfl ?_
  refine y_getI C 11 _ _ fX12_see_83 rfl rfl ft_11_8 sb_11_8 hM0 dX12_see_2 (fun a101 ea101 la101 ua101 => ?_)
  obtain rfl : a101 = (M0.1 98 8).toInt := ea101
  refine y_icmp_ge C 17 dX12_see_5 (by decide) (by omega) (fun h103 => ?_) (fun h103 => ?_)
  · refine y_iconst C dX12_see_17 ?_
    exact hret _ _ _ _ dX12_see_18 ⟨(-1), rfl, rfl, by omega⟩
  · refine j_aload_n C 0 0 dX12_see_8 rfl rfl ?_
    refine y_getC C 11 101 fX12_see_21 rfl rfl ft_11_3 sm_11_3 rfl hM0 dX12_see_9 ?_
    refine j_iload_n C 1 1 dX12_see_12 rfl rfl ?_
    refine y_iald C 47 900 _ _ rfl rfl rfl ak_47 an_47 rfl (sb_47 _) hM0 dX12_see_13 (by omega) (fun a104 ea104 la104 ua104 => ?_)
    obtain rfl : a104 = (M0.1 101 (a1).toNat).toInt := ea104
    refine j_goto C 18 dX12_see_14 (by decide) ?_
    exact hret _ _ _ _ dX12_see_18 ⟨(M0.1 101 (a1).toNat).toInt, rfl, rfl, by omega⟩
set_option maxHeartbeats 4000000 in
theorem s1_X12_isSmall {l : Launch} {dC : Nat → ClassId} {dI : Nat → Nat → Nat} {ad : Nat → Nat} {cA : Nat → ClassId} {pr : Nat → Nat → Bool} {Kz : mm_M} {M0 : mm_M} (hM0 : INV pr Kz M0) (a0 : Int) (ha0 : -2147483648 ≤ a0 ∧ a0 ≤ 2147483647) : Ci l 0 yX12_isSmall wsX12_isSmall dC dI ad cA [.int (sI a0)] M0 (fun r M' => ∃ a : Int, r = sI a ∧ M0 = M' ∧ 0 ≤ a ∧ a ≤ 1 ∧ ((a0 < 97 ∧ a = 0) ∨ (97 ≤ a0 ∧ 122 < a0 ∧ a = 0) ∨ (97 ≤ a0 ∧ a0 ≤ 122 ∧ a = 1))) := by
  refine ci_of (cc := cX12_isSmall) (maxL := 1) (ty := .boolean) (lv := [(0, .int (sI a0))]) (by decide) rfl (fun r M' hp => by obtain ⟨a, rfl, -, h⟩ := hp; rcases (show a = 0 ∨ a = 1 by omega) with rfl | rfl <;> rfl) (Nat.le_of_ble_eq_true rfl) rfl ?_
  intro p e s m args below meth c A Q C hret
  refine j_iload_n C 0 0 dX12_isSmall_0 rfl rfl ?_
  refine y_bipush C dX12_isSmall_1 rfl ?_
  refine y_icmp_lt C 16 dX12_isSmall_3 (by decide) (by omega) (fun h101 => ?_) (fun h101 => ?_)
  · refine y_iconst C dX12_isSmall_16 ?_
    exact hret _ _ _ _ dX12_isSmall_17 ⟨0, rfl, rfl, by omega⟩
  · refine j_iload_n C 0 0 dX12_isSmall_6 rfl rfl ?_
    refine y_bipush C dX12_isSmall_7 rfl ?_
    refine y_icmp_gt C 16 dX12_isSmall_9 (by decide) (by omega) (fun h102 => ?_) (fun h102 => ?_)
    · refine y_iconst C dX12_isSmall_16 ?_
      exact hret _ _ _ _ dX12_isSmall_17 ⟨0, rfl, rfl, by omega⟩
    · refine y_iconst C dX12_isSmall_12 ?_
      refine j_goto C 17 dX12_isSmall_13 (by decide) ?_
      exact hret _ _ _ _ dX12_isSmall_17 ⟨1, rfl, rfl, by omega⟩
set_option maxHeartbeats 4000000 in
theorem s1_X12_isDigit {l : Launch} {dC : Nat → ClassId} {dI : Nat → Nat → Nat} {ad : Nat → Nat} {cA : Nat → ClassId} {pr : Nat → Nat → Bool} {Kz : mm_M} {M0 : mm_M} (hM0 : INV pr Kz M0) (a0 : Int) (ha0 : -2147483648 ≤ a0 ∧ a0 ≤ 2147483647) : Ci l 0 yX12_isDigit wsX12_isDigit dC dI ad cA [.int (sI a0)] M0 (fun r M' => ∃ a : Int, r = sI a ∧ M0 = M' ∧ 0 ≤ a ∧ a ≤ 1 ∧ ((a0 < 48 ∧ a = 0) ∨ (48 ≤ a0 ∧ 57 < a0 ∧ a = 0) ∨ (48 ≤ a0 ∧ a0 ≤ 57 ∧ a = 1))) := by
  refine ci_of (cc := cX12_isDigit) (maxL := 1) (ty := .boolean) (lv := [(0, .int (sI a0))]) (by decide) rfl (fun r M' hp => by obtain ⟨a, rfl, -, h⟩ := hp; rcases (show a = 0 ∨ a = 1 by omega) with rfl | rfl <;> rfl) (Nat.le_of_ble_eq_true rfl) rfl ?_
  intro p e s m args below meth c A Q C hret
  refine j_iload_n C 0 0 dX12_isDigit_0 rfl rfl ?_
  refine y_bipush C dX12_isDigit_1 rfl ?_
  refine y_icmp_lt C 16 dX12_isDigit_3 (by decide) (by omega) (fun h101 => ?_) (fun h101 => ?_)
  · refine y_iconst C dX12_isDigit_16 ?_
    exact hret _ _ _ _ dX12_isDigit_17 ⟨0, rfl, rfl, by omega⟩
  · refine j_iload_n C 0 0 dX12_isDigit_6 rfl rfl ?_
    refine y_bipush C dX12_isDigit_7 rfl ?_
    refine y_icmp_gt C 16 dX12_isDigit_9 (by decide) (by omega) (fun h102 => ?_) (fun h102 => ?_)
    · refine y_iconst C dX12_isDigit_16 ?_
      exact hret _ _ _ _ dX12_isDigit_17 ⟨0, rfl, rfl, by omega⟩
    · refine y_iconst C dX12_isDigit_12 ?_
      refine j_goto C 17 dX12_isDigit_13 (by decide) ?_
      exact hret _ _ _ _ dX12_isDigit_17 ⟨1, rfl, rfl, by omega⟩
set_option maxHeartbeats 4000000 in
theorem s2_J0_coder_7d493 {l : Launch} {dC : Nat → ClassId} {dI : Nat → Nat → Nat} {ad : Nat → Nat} {cA : Nat → ClassId} {pr : Nat → Nat → Bool} {Kz : mm_M} {M0 : mm_M} (hM0 : INV pr Kz M0)  : Ci l 0 yJ0_coder_7d493 wsJ0_coder_7d493 dC dI ad cA [.ref (dI 1000 3)] M0 (fun r M' => ∃ a : Int, r = sI a ∧ M0 = M' ∧ 0 ≤ a ∧ a ≤ 0 ∧ ((a = 0))) := by
  refine ci_of (cc := cJ0_coder_7d493) (maxL := 1) (ty := .byte) (lv := [(0, .ref (dI 1000 3))]) (by decide) rfl (fun r M' hp => by obtain ⟨a, rfl, -, h⟩ := hp; exact nar_byte (by omega)) (Nat.le_of_ble_eq_true rfl) rfl ?_
  intro p e s m args below meth c A Q C hret
  refine j_getsC C fJ0_coder_7d493_38 dJ0_coder_7d493_0 ?_
  refine y_if_eq C 13 dJ0_coder_7d493_3 (by decide) (by omega) (fun h101 => ?_) (fun h101 => ?_)
  · exfalso; omega
  · refine j_aload_n C 0 0 dJ0_coder_7d493_6 rfl rfl ?_
    refine j_strC C (by decide) fJ0_coder_7d493_15 dJ0_coder_7d493_7 ?_
    refine j_goto C 14 dJ0_coder_7d493_10 (by decide) ?_
    exact hret _ _ _ _ dJ0_coder_7d493_14 ⟨0, rfl, rfl, by omega⟩
set_option maxHeartbeats 4000000 in
theorem s2_J0_length_8abf5 {l : Launch} {dC : Nat → ClassId} {dI : Nat → Nat → Nat} {ad : Nat → Nat} {cA : Nat → ClassId} {pr : Nat → Nat → Bool} {Kz : mm_M} {M0 : mm_M} (hM0 : INV pr Kz M0)  : Ci l 1 yJ0_length_8abf5 wsJ0_length_8abf5 dC dI ad cA [.ref (dI 1000 3)] M0 (fun r M' => ∃ a : Int, r = sI a ∧ M0 = M' ∧ 0 ≤ a ∧ a ≤ 12 ∧ ((0 ≤ a ∧ a ≤ 12))) := by
  refine ci_of (cc := cJ0_length_8abf5) (maxL := 1) (ty := .int) (lv := [(0, .ref (dI 1000 3))]) (by decide) rfl (fun r M' hp => rfl) (Nat.le_of_ble_eq_true rfl) rfl ?_
  intro p e s m args below meth c A Q C hret
  refine j_aload_n C 0 0 dJ0_length_8abf5_0 rfl rfl ?_
  refine j_strV C (by decide) fJ0_length_8abf5_9 dJ0_length_8abf5_1 ?_
  refine j_strL C 12 (by decide) rfl dJ0_length_8abf5_4 ?_
  refine j_aload_n C 0 0 dJ0_length_8abf5_5 rfl rfl ?_
  refine j_callSS C (d := 0) (As := []) (st := [.int (sI 12)]) 3 (by decide) (s2_J0_coder_7d493 hM0) gJ0_length_8abf5_J0_coder_7d493 rfl hdJ0_coder_7d493 (by decide) (Nat.le_of_ble_eq_true rfl) dJ0_length_8abf5_6 rfl (fun r101 M102 h103 => ?_)
  obtain ⟨a105, rfl, rfl, h104⟩ := h103
  refine e_ishrP C dJ0_length_8abf5_9 (by omega) (fun lb106 ub106 => ?_)
  exact hret _ _ _ _ dJ0_length_8abf5_10 ⟨(shrI 12 a105), rfl, rfl, by omega⟩
set_option maxHeartbeats 4000000 in
theorem s3_J0_isLatin1_aae02 {l : Launch} {dC : Nat → ClassId} {dI : Nat → Nat → Nat} {ad : Nat → Nat} {cA : Nat → ClassId} {pr : Nat → Nat → Bool} {Kz : mm_M} {M0 : mm_M} (hM0 : INV pr Kz M0)  : Ci l 0 yJ0_isLatin1_aae02 wsJ0_isLatin1_aae02 dC dI ad cA [.ref (dI 1000 3)] M0 (fun r M' => ∃ a : Int, r = sI a ∧ M0 = M' ∧ 1 ≤ a ∧ a ≤ 1 ∧ ((a = 1))) := by
  refine ci_of (cc := cJ0_isLatin1_aae02) (maxL := 1) (ty := .boolean) (lv := [(0, .ref (dI 1000 3))]) (by decide) rfl (fun r M' hp => by obtain ⟨a, rfl, -, h⟩ := hp; rcases (show a = 0 ∨ a = 1 by omega) with rfl | rfl <;> rfl) (Nat.le_of_ble_eq_true rfl) rfl ?_
  intro p e s m args below meth c A Q C hret
  refine j_getsC C fJ0_isLatin1_aae02_38 dJ0_isLatin1_aae02_0 ?_
  refine y_if_eq C 17 dJ0_isLatin1_aae02_3 (by decide) (by omega) (fun h101 => ?_) (fun h101 => ?_)
  · exfalso; omega
  · refine j_aload_n C 0 0 dJ0_isLatin1_aae02_6 rfl rfl ?_
    refine j_strC C (by decide) fJ0_isLatin1_aae02_15 dJ0_isLatin1_aae02_7 ?_
    refine y_if_ne C 17 dJ0_isLatin1_aae02_10 (by decide) (by omega) (fun h102 => ?_) (fun h102 => ?_)
    · exfalso; omega
    · refine y_iconst C dJ0_isLatin1_aae02_13 ?_
      refine j_goto C 18 dJ0_isLatin1_aae02_14 (by decide) ?_
      exact hret _ _ _ _ dJ0_isLatin1_aae02_18 ⟨1, rfl, rfl, by omega⟩
set_option maxHeartbeats 4000000 in
theorem s3_J3_checkIndex_8e157 {l : Launch} {dC : Nat → ClassId} {dI : Nat → Nat → Nat} {ad : Nat → Nat} {cA : Nat → ClassId} {pr : Nat → Nat → Bool} {Kz : mm_M} {M0 : mm_M} (hM0 : INV pr Kz M0) (a0 : Int) (ha0 : -2147483648 ≤ a0 ∧ a0 ≤ 2147483647) (a1 : Int) (ha1 : -2147483648 ≤ a1 ∧ a1 ≤ 2147483647) (hp0 : a0 < a1) (hp1 : 0 ≤ a0 ∧ a0 ≤ 2147483647) : Ci l 0 yJ3_checkIndex_8e157 wsJ3_checkIndex_8e157 dC dI ad cA [.int (sI a0), .int (sI a1), .null] M0 (fun r M' => ∃ a : Int, r = sI a ∧ M0 = M' ∧ 0 ≤ a ∧ a ≤ 2147483646 ∧ ((a0 < a1 ∧ 0 ≤ a0 ∧ a0 < a1 ∧ a = a0))) := by
  refine ci_of (cc := cJ3_checkIndex_8e157) (maxL := 3) (ty := .int) (lv := [(0, .int (sI a0)), (1, .int (sI a1)), (2, .null)]) (by decide) rfl (fun r M' hp => rfl) (Nat.le_of_ble_eq_true rfl) rfl ?_
  intro p e s m args below meth c A Q C hret
  refine j_iload_n C 0 0 dJ3_checkIndex_8e157_0 rfl rfl ?_
  refine y_if_lt C 9 dJ3_checkIndex_8e157_1 (by decide) (by omega) (fun h101 => ?_) (fun h101 => ?_)
  · exfalso; omega
  · refine j_iload_n C 0 0 dJ3_checkIndex_8e157_4 rfl rfl ?_
    refine j_iload_n C 1 1 dJ3_checkIndex_8e157_5 rfl rfl ?_
    refine y_icmp_lt C 16 dJ3_checkIndex_8e157_6 (by decide) (by omega) (fun h102 => ?_) (fun h102 => ?_)
    · refine j_iload_n C 0 0 dJ3_checkIndex_8e157_16 rfl rfl ?_
      exact hret _ _ _ _ dJ3_checkIndex_8e157_17 ⟨a0, rfl, rfl, by omega⟩
    · exfalso; omega
set_option maxHeartbeats 4000000 in
theorem s4_J3_checkIndex_8e157 {l : Launch} {dC : Nat → ClassId} {dI : Nat → Nat → Nat} {ad : Nat → Nat} {cA : Nat → ClassId} {pr : Nat → Nat → Bool} {Kz : mm_M} {M0 : mm_M} (hM0 : INV pr Kz M0) (a0 : Int) (ha0 : -2147483648 ≤ a0 ∧ a0 ≤ 2147483647) (a1 : Int) (ha1 : -2147483648 ≤ a1 ∧ a1 ≤ 2147483647) (t2 : Nat) (hp0 : a0 < a1) (hp1 : 0 ≤ a0 ∧ a0 ≤ 2147483647) : Ci l 0 yJ3_checkIndex_8e157 wsJ3_checkIndex_8e157 dC dI ad cA [.int (sI a0), .int (sI a1), .ref t2] M0 (fun r M' => ∃ a : Int, r = sI a ∧ M0 = M' ∧ 0 ≤ a ∧ a ≤ 2147483646 ∧ ((a0 < a1 ∧ 0 ≤ a0 ∧ a0 < a1 ∧ a = a0))) := by
  refine ci_of (cc := cJ3_checkIndex_8e157) (maxL := 3) (ty := .int) (lv := [(0, .int (sI a0)), (1, .int (sI a1)), (2, .ref t2)]) (by decide) rfl (fun r M' hp => rfl) (Nat.le_of_ble_eq_true rfl) rfl ?_
  intro p e s m args below meth c A Q C hret
  refine j_iload_n C 0 0 dJ3_checkIndex_8e157_0 rfl rfl ?_
  refine y_if_lt C 9 dJ3_checkIndex_8e157_1 (by decide) (by omega) (fun h101 => ?_) (fun h101 => ?_)
  · exfalso; omega
  · refine j_iload_n C 0 0 dJ3_checkIndex_8e157_4 rfl rfl ?_
    refine j_iload_n C 1 1 dJ3_checkIndex_8e157_5 rfl rfl ?_
    refine y_icmp_lt C 16 dJ3_checkIndex_8e157_6 (by decide) (by omega) (fun h102 => ?_) (fun h102 => ?_)
    · refine j_iload_n C 0 0 dJ3_checkIndex_8e157_16 rfl rfl ?_
      exact hret _ _ _ _ dJ3_checkIndex_8e157_17 ⟨a0, rfl, rfl, by omega⟩
    · exfalso; omega
set_option maxHeartbeats 4000000 in
theorem s2_J0_checkIndex_df160 {l : Launch} {dC : Nat → ClassId} {dI : Nat → Nat → Nat} {ad : Nat → Nat} {cA : Nat → ClassId} {pr : Nat → Nat → Bool} {Kz : mm_M} {M0 : mm_M} (hM0 : INV pr Kz M0) (a0 : Int) (ha0 : -2147483648 ≤ a0 ∧ a0 ≤ 2147483647) (a1 : Int) (ha1 : -2147483648 ≤ a1 ∧ a1 ≤ 2147483647) (hp0 : a0 < a1) (hp1 : 0 ≤ a0 ∧ a0 ≤ 2147483647) : Cv l 1 yJ0_checkIndex_df160 wsJ0_checkIndex_df160 dC dI ad cA [.int (sI a0), .int (sI a1)] M0 (fun M' => M0 = M') := by
  refine cv_of (cc := cJ0_checkIndex_df160) (maxL := 2) (lv := [(0, .int (sI a0)), (1, .int (sI a1))]) (by decide) rfl (Nat.le_of_ble_eq_true rfl) rfl ?_
  intro p e s m args below meth c A Q C hret
  refine j_iload_n C 0 0 dJ0_checkIndex_df160_0 rfl rfl ?_
  refine j_iload_n C 1 1 dJ0_checkIndex_df160_1 rfl rfl ?_
  refine j_getsF C fJ0_checkIndex_df160_1053 dJ0_checkIndex_df160_2 ?_ (fun t101 => ?_)
  · refine j_callSi C (d := 0) (As := [.int (sI a0), .int (sI a1), .null]) (st := []) (s3_J3_checkIndex_8e157 hM0 a0 (by omega) a1 (by omega) (by omega) (by omega)) gJ0_checkIndex_df160_J3_checkIndex_8e157 rfl hdJ3_checkIndex_8e157s (by decide) (Nat.le_of_ble_eq_true rfl) dJ0_checkIndex_df160_5 rfl (fun r102 M103 h104 => ?_)
    obtain ⟨a106, rfl, rfl, h105⟩ := h104
    refine j_pop C dJ0_checkIndex_df160_8 rfl ?_
    exact hret _ _ _ dJ0_checkIndex_df160_9 rfl
  · refine j_callSi C (d := 0) (As := [.int (sI a0), .int (sI a1), .ref t101]) (st := []) (s4_J3_checkIndex_8e157 hM0 a0 (by omega) a1 (by omega) t101 (by omega) (by omega)) gJ0_checkIndex_df160_J3_checkIndex_8e157 rfl hdJ3_checkIndex_8e157s (by decide) (Nat.le_of_ble_eq_true rfl) dJ0_checkIndex_df160_5 rfl (fun r107 M108 h109 => ?_)
    obtain ⟨a111, rfl, rfl, h110⟩ := h109
    refine j_pop C dJ0_checkIndex_df160_8 rfl ?_
    exact hret _ _ _ dJ0_checkIndex_df160_9 rfl
set_option maxHeartbeats 4000000 in
theorem s2_J0_charAt_5068e {l : Launch} {dC : Nat → ClassId} {dI : Nat → Nat → Nat} {ad : Nat → Nat} {cA : Nat → ClassId} {pr : Nat → Nat → Bool} {Kz : mm_M} {M0 : mm_M} (hM0 : INV pr Kz M0) (a1 : Int) (ha1 : -2147483648 ≤ a1 ∧ a1 ≤ 2147483647) (hp0 : 0 ≤ a1 ∧ a1 ≤ 11) : Ci l 3 yJ0_charAt_5068e wsJ0_charAt_5068e dC dI ad cA [.ref (dI 1000 3), .int (sI a1)] M0 (fun r M' => ∃ a : Int, r = sI a ∧ M0 = M' ∧ 0 ≤ a ∧ a ≤ 127 ∧ ((0 ≤ a ∧ a ≤ 127))) := by
  refine ci_of (cc := cJ0_charAt_5068e) (maxL := 2) (ty := .char) (lv := [(0, .ref (dI 1000 3)), (1, .int (sI a1))]) (by decide) rfl (fun r M' hp => by obtain ⟨a, rfl, -, h⟩ := hp; exact nar_char (by omega)) (Nat.le_of_ble_eq_true rfl) rfl ?_
  intro p e s m args below meth c A Q C hret
  refine j_aload_n C 0 0 dJ0_charAt_5068e_0 rfl rfl ?_
  refine j_callSS C (d := 0) (As := []) (st := []) 3 (by decide) (s3_J0_isLatin1_aae02 hM0) gJ0_charAt_5068e_J0_isLatin1_aae02 rfl hdJ0_isLatin1_aae02 (by decide) (Nat.le_of_ble_eq_true rfl) dJ0_charAt_5068e_1 rfl (fun r101 M102 h103 => ?_)
  obtain ⟨a105, rfl, rfl, h104⟩ := h103
  refine y_if_eq C 16 dJ0_charAt_5068e_4 (by decide) (by omega) (fun h106 => ?_) (fun h106 => ?_)
  · exfalso; omega
  · refine j_aload_n C 0 0 dJ0_charAt_5068e_7 rfl rfl ?_
    refine j_strV C (by decide) fJ0_charAt_5068e_9 dJ0_charAt_5068e_8 ?_
    refine j_iload_n C 1 1 dJ0_charAt_5068e_11 rfl rfl ?_
    refine j_callSi C (d := 2) (As := [.ref (dI 1001 3), .int (sI a1)]) (st := []) (h_J1_charAt_3 (fun a b h => s1_J0_checkIndex_df160 hM0 a (by omega) b (by omega) (by omega) (by omega)) a1 (by omega)) gJ0_charAt_5068e_J1_charAt_3b067 rfl hdJ1_charAt_3b067s (by decide) (Nat.le_of_ble_eq_true rfl) dJ0_charAt_5068e_12 rfl (fun r107 M108 h109 => ?_)
    obtain ⟨a111, rfl, rfl, h110⟩ := h109
    exact hret _ _ _ _ dJ0_charAt_5068e_15 ⟨a111, rfl, rfl, by omega⟩
set_option maxHeartbeats 4000000 in
theorem s3_J0_coder_7d493 {l : Launch} {dC : Nat → ClassId} {dI : Nat → Nat → Nat} {ad : Nat → Nat} {cA : Nat → ClassId} {pr : Nat → Nat → Bool} {Kz : mm_M} {M0 : mm_M} (hM0 : INV pr Kz M0)  : Ci l 0 yJ0_coder_7d493 wsJ0_coder_7d493 dC dI ad cA [.ref (dI 1000 2)] M0 (fun r M' => ∃ a : Int, r = sI a ∧ M0 = M' ∧ 0 ≤ a ∧ a ≤ 0 ∧ ((a = 0))) := by
  refine ci_of (cc := cJ0_coder_7d493) (maxL := 1) (ty := .byte) (lv := [(0, .ref (dI 1000 2))]) (by decide) rfl (fun r M' hp => by obtain ⟨a, rfl, -, h⟩ := hp; exact nar_byte (by omega)) (Nat.le_of_ble_eq_true rfl) rfl ?_
  intro p e s m args below meth c A Q C hret
  refine j_getsC C fJ0_coder_7d493_38 dJ0_coder_7d493_0 ?_
  refine y_if_eq C 13 dJ0_coder_7d493_3 (by decide) (by omega) (fun h101 => ?_) (fun h101 => ?_)
  · exfalso; omega
  · refine j_aload_n C 0 0 dJ0_coder_7d493_6 rfl rfl ?_
    refine j_strC C (by decide) fJ0_coder_7d493_15 dJ0_coder_7d493_7 ?_
    refine j_goto C 14 dJ0_coder_7d493_10 (by decide) ?_
    exact hret _ _ _ _ dJ0_coder_7d493_14 ⟨0, rfl, rfl, by omega⟩
set_option maxHeartbeats 4000000 in
theorem s3_J0_length_8abf5 {l : Launch} {dC : Nat → ClassId} {dI : Nat → Nat → Nat} {ad : Nat → Nat} {cA : Nat → ClassId} {pr : Nat → Nat → Bool} {Kz : mm_M} {M0 : mm_M} (hM0 : INV pr Kz M0)  : Ci l 1 yJ0_length_8abf5 wsJ0_length_8abf5 dC dI ad cA [.ref (dI 1000 2)] M0 (fun r M' => ∃ a : Int, r = sI a ∧ M0 = M' ∧ 0 ≤ a ∧ a ≤ 88 ∧ ((0 ≤ a ∧ a ≤ 88))) := by
  refine ci_of (cc := cJ0_length_8abf5) (maxL := 1) (ty := .int) (lv := [(0, .ref (dI 1000 2))]) (by decide) rfl (fun r M' hp => rfl) (Nat.le_of_ble_eq_true rfl) rfl ?_
  intro p e s m args below meth c A Q C hret
  refine j_aload_n C 0 0 dJ0_length_8abf5_0 rfl rfl ?_
  refine j_strV C (by decide) fJ0_length_8abf5_9 dJ0_length_8abf5_1 ?_
  refine j_strL C 88 (by decide) rfl dJ0_length_8abf5_4 ?_
  refine j_aload_n C 0 0 dJ0_length_8abf5_5 rfl rfl ?_
  refine j_callSS C (d := 0) (As := []) (st := [.int (sI 88)]) 2 (by decide) (s3_J0_coder_7d493 hM0) gJ0_length_8abf5_J0_coder_7d493 rfl hdJ0_coder_7d493 (by decide) (Nat.le_of_ble_eq_true rfl) dJ0_length_8abf5_6 rfl (fun r101 M102 h103 => ?_)
  obtain ⟨a105, rfl, rfl, h104⟩ := h103
  refine e_ishrP C dJ0_length_8abf5_9 (by omega) (fun lb106 ub106 => ?_)
  exact hret _ _ _ _ dJ0_length_8abf5_10 ⟨(shrI 88 a105), rfl, rfl, by omega⟩
set_option maxHeartbeats 4000000 in
theorem s4_J0_isLatin1_aae02 {l : Launch} {dC : Nat → ClassId} {dI : Nat → Nat → Nat} {ad : Nat → Nat} {cA : Nat → ClassId} {pr : Nat → Nat → Bool} {Kz : mm_M} {M0 : mm_M} (hM0 : INV pr Kz M0)  : Ci l 0 yJ0_isLatin1_aae02 wsJ0_isLatin1_aae02 dC dI ad cA [.ref (dI 1000 2)] M0 (fun r M' => ∃ a : Int, r = sI a ∧ M0 = M' ∧ 1 ≤ a ∧ a ≤ 1 ∧ ((a = 1))) := by
  refine ci_of (cc := cJ0_isLatin1_aae02) (maxL := 1) (ty := .boolean) (lv := [(0, .ref (dI 1000 2))]) (by decide) rfl (fun r M' hp => by obtain ⟨a, rfl, -, h⟩ := hp; rcases (show a = 0 ∨ a = 1 by omega) with rfl | rfl <;> rfl) (Nat.le_of_ble_eq_true rfl) rfl ?_
  intro p e s m args below meth c A Q C hret
  refine j_getsC C fJ0_isLatin1_aae02_38 dJ0_isLatin1_aae02_0 ?_
  refine y_if_eq C 17 dJ0_isLatin1_aae02_3 (by decide) (by omega) (fun h101 => ?_) (fun h101 => ?_)
  · exfalso; omega
  · refine j_aload_n C 0 0 dJ0_isLatin1_aae02_6 rfl rfl ?_
    refine j_strC C (by decide) fJ0_isLatin1_aae02_15 dJ0_isLatin1_aae02_7 ?_
    refine y_if_ne C 17 dJ0_isLatin1_aae02_10 (by decide) (by omega) (fun h102 => ?_) (fun h102 => ?_)
    · exfalso; omega
    · refine y_iconst C dJ0_isLatin1_aae02_13 ?_
      refine j_goto C 18 dJ0_isLatin1_aae02_14 (by decide) ?_
      exact hret _ _ _ _ dJ0_isLatin1_aae02_18 ⟨1, rfl, rfl, by omega⟩
set_option maxHeartbeats 4000000 in
theorem s3_J0_charAt_5068e {l : Launch} {dC : Nat → ClassId} {dI : Nat → Nat → Nat} {ad : Nat → Nat} {cA : Nat → ClassId} {pr : Nat → Nat → Bool} {Kz : mm_M} {M0 : mm_M} (hM0 : INV pr Kz M0) (a1 : Int) (ha1 : -2147483648 ≤ a1 ∧ a1 ≤ 2147483647) (hp0 : 0 ≤ a1 ∧ a1 ≤ 87) : Ci l 3 yJ0_charAt_5068e wsJ0_charAt_5068e dC dI ad cA [.ref (dI 1000 2), .int (sI a1)] M0 (fun r M' => ∃ a : Int, r = sI a ∧ M0 = M' ∧ 0 ≤ a ∧ a ≤ 127 ∧ (a = 32 ∨ a1 + 1 < 88)) := by
  refine ci_of (cc := cJ0_charAt_5068e) (maxL := 2) (ty := .char) (lv := [(0, .ref (dI 1000 2)), (1, .int (sI a1))]) (by decide) rfl (fun r M' hp => by obtain ⟨a, rfl, -, h⟩ := hp; exact nar_char (by omega)) (Nat.le_of_ble_eq_true rfl) rfl ?_
  intro p e s m args below meth c A Q C hret
  refine j_aload_n C 0 0 dJ0_charAt_5068e_0 rfl rfl ?_
  refine j_callSS C (d := 0) (As := []) (st := []) 2 (by decide) (s4_J0_isLatin1_aae02 hM0) gJ0_charAt_5068e_J0_isLatin1_aae02 rfl hdJ0_isLatin1_aae02 (by decide) (Nat.le_of_ble_eq_true rfl) dJ0_charAt_5068e_1 rfl (fun r101 M102 h103 => ?_)
  obtain ⟨a105, rfl, rfl, h104⟩ := h103
  refine y_if_eq C 16 dJ0_charAt_5068e_4 (by decide) (by omega) (fun h106 => ?_) (fun h106 => ?_)
  · exfalso; omega
  · refine j_aload_n C 0 0 dJ0_charAt_5068e_7 rfl rfl ?_
    refine j_strV C (by decide) fJ0_charAt_5068e_9 dJ0_charAt_5068e_8 ?_
    refine j_iload_n C 1 1 dJ0_charAt_5068e_11 rfl rfl ?_
    refine j_callSi C (d := 2) (As := [.ref (dI 1001 2), .int (sI a1)]) (st := []) (h_J1_charAt_2 (fun a b h => s1_J0_checkIndex_df160 hM0 a (by omega) b (by omega) (by omega) (by omega)) a1 (by omega)) gJ0_charAt_5068e_J1_charAt_3b067 rfl hdJ1_charAt_3b067s (by decide) (Nat.le_of_ble_eq_true rfl) dJ0_charAt_5068e_12 rfl (fun r107 M108 h109 => ?_)
    obtain ⟨a111, rfl, rfl, h110⟩ := h109
    exact hret _ _ _ _ dJ0_charAt_5068e_15 ⟨a111, rfl, rfl, by omega⟩
set_option maxHeartbeats 4000000 in
theorem s1_X12_keyAt {l : Launch} {dC : Nat → ClassId} {dI : Nat → Nat → Nat} {ad : Nat → Nat} {cA : Nat → ClassId} {pr : Nat → Nat → Bool} {Kz : mm_M} {M0 : mm_M} (hM0 : INV pr Kz M0)  : Ci l 4 yX12_keyAt wsX12_keyAt dC dI ad cA [.ref (ad 98)] M0 (fun r M' => ∃ a : Int, r = sI a ∧ M0 = M' ∧ 0 ≤ a ∧ a ≤ 88) := by
  refine ci_of (cc := cX12_keyAt) (maxL := 4) (ty := .int) (lv := [(0, .ref (ad 98))]) (by decide) rfl (fun r M' hp => rfl) (Nat.le_of_ble_eq_true rfl) rfl ?_
  intro p e s m args below meth c A Q C hret
  refine y_iconst C dX12_keyAt_0 ?_
  refine j_istore_n C 1 [(1, .int (sI 0)), (0, .ref (ad 98))] dX12_keyAt_1 rfl (by decide) rfl ?_
  refine y_iconst C dX12_keyAt_2 ?_
  refine j_istore_n C 2 [(2, .int (sI 1)), (1, .int (sI 0)), (0, .ref (ad 98))] dX12_keyAt_3 rfl (by decide) rfl ?_
  have L207 : ∀ (n205 : Nat), ∀ (a208 : Int) (a209 : Int), (0 ≤ a208 ∧ a208 ≤ 88 ∧ 1 ≤ a209 ∧ a209 ≤ 88 ∧ (a208 < a209) ∧ (88 - a209) < (n205 : Int)) → jj p l e (cn_R 4) s m args below meth c 0 0 Q 4 dC dI ad cA A M0 4 [(0, .ref (ad 98)), (1, .int (sI a208)), (2, .int (sI a209))] [] := by
    intro n205
    induction n205 with
    | zero =>
      intro a208 a209 h210
      exfalso; omega
    | succ n205 ih206 =>
      intro a208 a209 h210
      refine j_iload_n C 2 2 dX12_keyAt_4 rfl rfl ?_
      refine j_ldcS C 2 (by decide) rfl rfl dX12_keyAt_5 ?_
      refine j_callSS C (d := 1) (As := []) (st := [.int (sI a209)]) 2 (by decide) (s3_J0_length_8abf5 hM0) gX12_keyAt_J0_length_8abf5 rfl hdJ0_length_8abf5 (by decide) (Nat.le_of_ble_eq_true rfl) dX12_keyAt_7 rfl (fun r211 M212 h213 => ?_)
      obtain ⟨a215, rfl, rfl, h214⟩ := h213
      refine y_icmp_ge C 123 dX12_keyAt_10 (by decide) (by omega) (fun h216 => ?_) (fun h216 => ?_)
      · refine y_bipush C dX12_keyAt_123 rfl ?_
        exact hret _ _ _ _ dX12_keyAt_125 ⟨22, rfl, rfl, by omega⟩
      · refine y_iconst C dX12_keyAt_13 ?_
        refine j_istore_n C 3 [(3, .int (sI 0)), (0, .ref (ad 98)), (1, .int (sI a208)), (2, .int (sI a209))] dX12_keyAt_14 rfl (by decide) rfl ?_
        have X264 : ∀ (a263 : Int), (0 ≤ a263 ∧ a263 ≤ 87 ∧ (a209 + a263 ≤ 87)) → jj p l e (cn_R 4) s m args below meth c 0 0 Q 4 dC dI ad cA A M0 69 [(0, .ref (ad 98)), (1, .int (sI a208)), (2, .int (sI a209)), (3, .int (sI a263))] [] := by
          intro a263 h265
          refine j_ldcS C 2 (by decide) rfl rfl dX12_keyAt_69 ?_
          refine j_iload_n C 2 2 dX12_keyAt_71 rfl rfl ?_
          refine j_iload_n C 3 3 dX12_keyAt_72 rfl rfl ?_
          refine y_iadd C dX12_keyAt_73 ?_
          refine j_callSS C (d := 3) (As := [.int (sI (a209 + a263))]) (st := []) 2 (by decide) (s3_J0_charAt_5068e hM0 (a209 + a263) (by omega) (by omega)) gX12_keyAt_J0_charAt_5068e rfl hdJ0_charAt_5068e (by decide) (Nat.le_of_ble_eq_true rfl) dX12_keyAt_74 rfl (fun r266 M267 h268 => ?_)
          obtain ⟨a270, rfl, rfl, h269⟩ := h268
          refine y_bipush C dX12_keyAt_77 rfl ?_
          refine y_icmp_ne C 97 dX12_keyAt_79 (by decide) (by omega) (fun h271 => ?_) (fun h271 => ?_)
          · have L281 : ∀ (n279 : Nat), ∀ (a282 : Int), (1 ≤ a282 ∧ a282 ≤ 87 ∧ (a208 < a282) ∧ (a209 ≤ a282) ∧ (88 - a282) < (n279 : Int)) → jj p l e (cn_R 4) s m args below meth c 0 0 Q 4 dC dI ad cA A M0 97 [(0, .ref (ad 98)), (1, .int (sI a208)), (2, .int (sI a282))] [] := by
              intro n279
              induction n279 with
              | zero =>
                intro a282 h283
                exfalso; omega
              | succ n279 ih280 =>
                intro a282 h283
                refine j_ldcS C 2 (by decide) rfl rfl dX12_keyAt_97 ?_
                refine j_iload_n C 2 2 dX12_keyAt_99 rfl rfl ?_
                refine j_callSS C (d := 3) (As := [.int (sI a282)]) (st := []) 2 (by decide) (s3_J0_charAt_5068e hM0 a282 (by omega) (by omega)) gX12_keyAt_J0_charAt_5068e rfl hdJ0_charAt_5068e (by decide) (Nat.le_of_ble_eq_true rfl) dX12_keyAt_100 rfl (fun r284 M285 h286 => ?_)
                obtain ⟨a288, rfl, rfl, h287⟩ := h286
                refine y_bipush C dX12_keyAt_103 rfl ?_
                refine y_icmp_eq C 114 dX12_keyAt_105 (by decide) (by omega) (fun h289 => ?_) (fun h289 => ?_)
                · refine y_iinc C 2 [(2, .int (sI (a282 + 1))), (0, .ref (ad 98)), (1, .int (sI a208))] dX12_keyAt_114 rfl (by decide) rfl ?_
                  refine y_iinc C 2 [(1, .int (sI (a208 + 1))), (2, .int (sI (a282 + 1))), (0, .ref (ad 98))] dX12_keyAt_117 rfl (by decide) rfl ?_
                  refine j_goto C 4 dX12_keyAt_120 (by decide) ?_
                  refine j_lv [2, 0, 1] rfl ?_; exact ih206 (a208 + 1) (a282 + 1) (by omega)
                · refine y_iinc C 2 [(2, .int (sI (a282 + 1))), (0, .ref (ad 98)), (1, .int (sI a208))] dX12_keyAt_108 rfl (by decide) rfl ?_
                  refine j_goto C 97 dX12_keyAt_111 (by decide) ?_
                  refine j_lv [1, 2, 0] rfl ?_; exact ih280 (a282 + 1) (by omega)
            refine j_lv [0, 1, 2] rfl ?_; exact L281 2010 a209 (by omega)
          · refine j_aload_n C 0 0 dX12_keyAt_82 rfl rfl ?_
            refine y_getI C 11 _ _ fX12_keyAt_98 rfl rfl ft_11_6 sb_11_6 hM0 dX12_keyAt_83 (fun a290 ea290 la290 ua290 => ?_)
            obtain rfl : a290 = (M0.1 98 6).toInt := ea290
            refine j_iload_n C 3 3 dX12_keyAt_86 rfl rfl ?_
            refine y_iadd C dX12_keyAt_87 ?_
            refine j_aload_n C 0 0 dX12_keyAt_88 rfl rfl ?_
            refine y_getI C 11 _ _ fX12_keyAt_101 rfl rfl ft_11_7 sb_11_7 hM0 dX12_keyAt_89 (fun a292 ea292 la292 ua292 => ?_)
            obtain rfl : a292 = (M0.1 98 7).toInt := ea292
            refine y_icmp_ne C 97 dX12_keyAt_92 (by decide) (by omega) (fun h294 => ?_) (fun h294 => ?_)
            · have L304 : ∀ (n302 : Nat), ∀ (a305 : Int), (1 ≤ a305 ∧ a305 ≤ 87 ∧ (a208 < a305) ∧ (a209 ≤ a305) ∧ (88 - a305) < (n302 : Int)) → jj p l e (cn_R 4) s m args below meth c 0 0 Q 4 dC dI ad cA A M0 97 [(0, .ref (ad 98)), (1, .int (sI a208)), (2, .int (sI a305))] [] := by
                intro n302
                induction n302 with
                | zero =>
                  intro a305 h306
                  exfalso; omega
                | succ n302 ih303 =>
                  intro a305 h306
                  refine j_ldcS C 2 (by decide) rfl rfl dX12_keyAt_97 ?_
                  refine j_iload_n C 2 2 dX12_keyAt_99 rfl rfl ?_
                  refine j_callSS C (d := 3) (As := [.int (sI a305)]) (st := []) 2 (by decide) (s3_J0_charAt_5068e hM0 a305 (by omega) (by omega)) gX12_keyAt_J0_charAt_5068e rfl hdJ0_charAt_5068e (by decide) (Nat.le_of_ble_eq_true rfl) dX12_keyAt_100 rfl (fun r307 M308 h309 => ?_)
                  obtain ⟨a311, rfl, rfl, h310⟩ := h309
                  refine y_bipush C dX12_keyAt_103 rfl ?_
                  refine y_icmp_eq C 114 dX12_keyAt_105 (by decide) (by omega) (fun h312 => ?_) (fun h312 => ?_)
                  · refine y_iinc C 2 [(2, .int (sI (a305 + 1))), (0, .ref (ad 98)), (1, .int (sI a208))] dX12_keyAt_114 rfl (by decide) rfl ?_
                    refine y_iinc C 2 [(1, .int (sI (a208 + 1))), (2, .int (sI (a305 + 1))), (0, .ref (ad 98))] dX12_keyAt_117 rfl (by decide) rfl ?_
                    refine j_goto C 4 dX12_keyAt_120 (by decide) ?_
                    refine j_lv [2, 0, 1] rfl ?_; exact ih206 (a208 + 1) (a305 + 1) (by omega)
                  · refine y_iinc C 2 [(2, .int (sI (a305 + 1))), (0, .ref (ad 98)), (1, .int (sI a208))] dX12_keyAt_108 rfl (by decide) rfl ?_
                    refine j_goto C 97 dX12_keyAt_111 (by decide) ?_
                    refine j_lv [1, 2, 0] rfl ?_; exact ih303 (a305 + 1) (by omega)
              refine j_lv [0, 1, 2] rfl ?_; exact L304 2010 a209 (by omega)
            · refine j_iload_n C 1 1 dX12_keyAt_95 rfl rfl ?_
              exact hret _ _ _ _ dX12_keyAt_96 ⟨a208, rfl, rfl, by omega⟩
        have L240 : ∀ (n238 : Nat), ∀ (a241 : Int), (0 ≤ a241 ∧ a241 ≤ 87 ∧ (a209 + a241 ≤ 87) ∧ (88 - a241) < (n238 : Int)) → jj p l e (cn_R 4) s m args below meth c 0 0 Q 4 dC dI ad cA A M0 15 [(0, .ref (ad 98)), (1, .int (sI a208)), (2, .int (sI a209)), (3, .int (sI a241))] [] := by
          intro n238
          induction n238 with
          | zero =>
            intro a241 h242
            exfalso; omega
          | succ n238 ih239 =>
            intro a241 h242
            refine j_ldcS C 2 (by decide) rfl rfl dX12_keyAt_15 ?_
            refine j_iload_n C 2 2 dX12_keyAt_17 rfl rfl ?_
            refine j_iload_n C 3 3 dX12_keyAt_18 rfl rfl ?_
            refine y_iadd C dX12_keyAt_19 ?_
            refine j_callSS C (d := 3) (As := [.int (sI (a209 + a241))]) (st := []) 2 (by decide) (s3_J0_charAt_5068e hM0 (a209 + a241) (by omega) (by omega)) gX12_keyAt_J0_charAt_5068e rfl hdJ0_charAt_5068e (by decide) (Nat.le_of_ble_eq_true rfl) dX12_keyAt_20 rfl (fun r243 M244 h245 => ?_)
            obtain ⟨a247, rfl, rfl, h246⟩ := h245
            refine y_bipush C dX12_keyAt_23 rfl ?_
            refine y_icmp_eq C 69 dX12_keyAt_25 (by decide) (by omega) (fun h248 => ?_) (fun h248 => ?_)
            · exact X264 a241 (by omega)
            · refine j_aload_n C 0 0 dX12_keyAt_28 rfl rfl ?_
              refine y_getI C 11 _ _ fX12_keyAt_98 rfl rfl ft_11_6 sb_11_6 hM0 dX12_keyAt_29 (fun a249 ea249 la249 ua249 => ?_)
              obtain rfl : a249 = (M0.1 98 6).toInt := ea249
              refine j_iload_n C 3 3 dX12_keyAt_32 rfl rfl ?_
              refine y_iadd C dX12_keyAt_33 ?_
              refine j_aload_n C 0 0 dX12_keyAt_34 rfl rfl ?_
              refine y_getI C 11 _ _ fX12_keyAt_101 rfl rfl ft_11_7 sb_11_7 hM0 dX12_keyAt_35 (fun a251 ea251 la251 ua251 => ?_)
              obtain rfl : a251 = (M0.1 98 7).toInt := ea251
              refine y_icmp_ge C 69 dX12_keyAt_38 (by decide) (by omega) (fun h253 => ?_) (fun h253 => ?_)
              · exact X264 a241 (by omega)
              · refine j_aload_n C 0 0 dX12_keyAt_41 rfl rfl ?_
                refine y_getC C 11 101 fX12_keyAt_21 rfl rfl ft_11_3 sm_11_3 rfl hM0 dX12_keyAt_42 ?_
                refine j_aload_n C 0 0 dX12_keyAt_45 rfl rfl ?_
                refine y_getI C 11 _ _ fX12_keyAt_98 rfl rfl ft_11_6 sb_11_6 hM0 dX12_keyAt_46 (fun a254 ea254 la254 ua254 => ?_)
                obtain rfl : a254 = (M0.1 98 6).toInt := ea254
                refine j_iload_n C 3 3 dX12_keyAt_49 rfl rfl ?_
                refine y_iadd C dX12_keyAt_50 ?_
                refine y_iald C 47 900 _ _ rfl rfl rfl ak_47 an_47 rfl (sb_47 _) hM0 dX12_keyAt_51 (by omega) (fun a256 ea256 la256 ua256 => ?_)
                obtain rfl : a256 = (M0.1 101 (((M0.1 98 6).toInt + a241)).toNat).toInt := ea256
                refine j_ldcS C 2 (by decide) rfl rfl dX12_keyAt_52 ?_
                refine j_iload_n C 2 2 dX12_keyAt_54 rfl rfl ?_
                refine j_iload_n C 3 3 dX12_keyAt_55 rfl rfl ?_
                refine y_iadd C dX12_keyAt_56 ?_
                refine j_callSS C (d := 3) (As := [.int (sI (a209 + a241))]) (st := [.int (sI (M0.1 101 (((M0.1 98 6).toInt + a241)).toNat).toInt)]) 2 (by decide) (s3_J0_charAt_5068e hM0 (a209 + a241) (by omega) (by omega)) gX12_keyAt_J0_charAt_5068e rfl hdJ0_charAt_5068e (by decide) (Nat.le_of_ble_eq_true rfl) dX12_keyAt_57 rfl (fun r257 M258 h259 => ?_)
                obtain ⟨a261, rfl, rfl, h260⟩ := h259
                refine y_icmp_ne C 69 dX12_keyAt_60 (by decide) (by omega) (fun h262 => ?_) (fun h262 => ?_)
                · exact X264 a241 (by omega)
                · refine y_iinc C 3 [(3, .int (sI (a241 + 1))), (0, .ref (ad 98)), (1, .int (sI a208)), (2, .int (sI a209))] dX12_keyAt_63 rfl (by decide) rfl ?_
                  refine j_goto C 15 dX12_keyAt_66 (by decide) ?_
                  refine j_lv [1, 2, 3, 0] rfl ?_; exact ih239 (a241 + 1) (by omega)
        refine j_lv [1, 2, 3, 0] rfl ?_; exact L240 2010 0 (by omega)
  refine j_lv [2, 1, 0] rfl ?_; exact L207 2010 0 1 (by omega)
set_option maxHeartbeats 4000000 in
theorem s1_X12_next {l : Launch} {dC : Nat → ClassId} {dI : Nat → Nat → Nat} {ad : Nat → Nat} {cA : Nat → ClassId} {pr : Nat → Nat → Bool} {Kz : mm_M} {M0 : mm_M} (hM0 : INV pr Kz M0) (hpr : PM pr)  (hp0 : (M0.1 98 7).toInt ≤ (M0.1 98 8).toInt) (hp1 : (M0.1 98 8).toInt ≤ 900) (hp2 : b01 (PI M0) = 1) : Cv l 5 yX12_next wsX12_next dC dI ad cA [.ref (ad 98)] M0 (fun M' => INV pr Kz M' ∧ FR [98] M0 M' ∧ (b01 (RIP M') = 1) ∧ ((M'.1 98 8).toInt = (M0.1 98 8).toInt) ∧ ((M0.1 98 7).toInt ≤ (M'.1 98 6).toInt) ∧ ((M'.1 98 11).toInt = (M0.1 98 11).toInt) ∧ (b01 (PI M') = 1)) := by
  refine cv_of (cc := cX12_next) (maxL := 2) (lv := [(0, .ref (ad 98))]) (by decide) rfl (Nat.le_of_ble_eq_true rfl) rfl ?_
  intro p e s m args below meth c A Q C hret
  refine j_aload_n C 0 0 dX12_next_0 rfl rfl ?_
  refine j_aload_n C 0 0 dX12_next_1 rfl rfl ?_
  refine y_getI C 11 _ _ fX12_next_101 rfl rfl ft_11_7 sb_11_7 hM0 dX12_next_2 (fun a101 ea101 la101 ua101 => ?_)
  obtain rfl : a101 = (M0.1 98 7).toInt := ea101
  refine y_putI C 11 _ _ qX12_next_98 rfl rfl ft_11_6 sb_11_6 hM0 (PM.w hpr rfl rfl) dX12_next_5 (by omega) (fun M103 eM103 hM103 => ?_)
  have pM103 := pi_o eM103 (by decide) (by decide) (by omega)
  have L129 : ∀ (n127 : Nat), ∀ (M130 : mm_M), ((0 ≤ (M130.1 98 6).toInt) ∧ ((M130.1 98 8).toInt = (M0.1 98 8).toInt) ∧ ((M130.1 98 11).toInt = (M0.1 98 11).toInt) ∧ ((M0.1 98 7).toInt ≤ (M130.1 98 6).toInt) ∧ ((M130.1 98 6).toInt ≤ (M130.1 98 8).toInt) ∧ ((M130.1 98 8).toInt ≤ 900) ∧ (b01 (PI M130) = 1) ∧ (900 - (M130.1 98 6).toInt) < (n127 : Int)) → INV pr Kz M130 → FR [98] M0 M130 → jj p l e (cn_R 5) s m args below meth c 0 0 Q 2 dC dI ad cA A M130 8 [(0, .ref (ad 98))] [] := by
    intro n127
    induction n127 with
    | zero =>
      intro M130 h131 hM130 fM130
      exfalso; omega
    | succ n127 ih128 =>
      intro M130 h131 hM130 fM130
      refine j_aload_n C 0 0 dX12_next_8 rfl rfl ?_
      refine j_aload_n C 0 0 dX12_next_9 rfl rfl ?_
      refine y_getI C 11 _ _ fX12_next_98 rfl rfl ft_11_6 sb_11_6 hM130 dX12_next_10 (fun a132 ea132 la132 ua132 => ?_)
      obtain rfl : a132 = (M130.1 98 6).toInt := ea132
      refine j_callVi C (d := 0) (As := [.int (sI (M130.1 98 6).toInt)]) (st := []) 98 (s_lt rfl rfl) (s_kc (c := 11) rfl rfl) (by decide) rfl (s1_X12_see hM130 (M130.1 98 6).toInt (by omega) (by omega)) gX12_next_X12_see rfl hdX12_see (by decide) (Nat.le_of_ble_eq_true rfl) dX12_next_13 rfl (fun r134 M135 h136 => ?_)
      obtain ⟨a138, rfl, rfl, h137⟩ := h136
      refine y_bipush C dX12_next_16 rfl ?_
      refine y_icmp_eq C 34 dX12_next_18 (by decide) (by omega) (fun h139 => ?_) (fun h139 => ?_)
      · refine j_aload_n C 0 0 dX12_next_34 rfl rfl ?_
        refine j_dup C dX12_next_35 rfl ?_
        refine y_getI C 11 _ _ fX12_next_98 rfl rfl ft_11_6 sb_11_6 hM130 dX12_next_36 (fun a140 ea140 la140 ua140 => ?_)
        obtain rfl : a140 = (M130.1 98 6).toInt := ea140
        refine y_iconst C dX12_next_39 ?_
        refine y_iadd C dX12_next_40 ?_
        refine y_putI C 11 _ _ qX12_next_98 rfl rfl ft_11_6 sb_11_6 hM130 (PM.w hpr rfl rfl) dX12_next_41 (by omega) (fun M142 eM142 hM142 => ?_)
        have pM142 := pi_o eM142 (by decide) (by decide) (by omega)
        refine j_goto C 8 dX12_next_44 (by decide) ?_
        have zz98_8 : (M142.1 98 8).toInt = (M130.1 98 8).toInt := s_fb eM142 (by decide) (rfl); have zz98_6 := (Eq.trans (rfl : (M142.1 98 6).toInt = (M142.1 98 6).toInt) (s_wr eM142 (by omega))); have zz98_11 : (M142.1 98 11).toInt = (M130.1 98 11).toInt := s_fb eM142 (by decide) (rfl); exact ih128 M142 (by omega) hM142 ((FR.rf.tr fM130 (by decide)).wI eM142 (by decide))
      · refine j_aload_n C 0 0 dX12_next_21 rfl rfl ?_
        refine j_aload_n C 0 0 dX12_next_22 rfl rfl ?_
        refine y_getI C 11 _ _ fX12_next_98 rfl rfl ft_11_6 sb_11_6 hM130 dX12_next_23 (fun a143 ea143 la143 ua143 => ?_)
        obtain rfl : a143 = (M130.1 98 6).toInt := ea143
        refine j_callVi C (d := 0) (As := [.int (sI (M130.1 98 6).toInt)]) (st := []) 98 (s_lt rfl rfl) (s_kc (c := 11) rfl rfl) (by decide) rfl (s1_X12_see hM130 (M130.1 98 6).toInt (by omega) (by omega)) gX12_next_X12_see rfl hdX12_see (by decide) (Nat.le_of_ble_eq_true rfl) dX12_next_26 rfl (fun r145 M146 h147 => ?_)
        obtain ⟨a149, rfl, rfl, h148⟩ := h147
        refine y_bipush C dX12_next_29 rfl ?_
        refine y_icmp_ne C 47 dX12_next_31 (by decide) (by omega) (fun h150 => ?_) (fun h150 => ?_)
        · refine j_aload_n C 0 0 dX12_next_47 rfl rfl ?_
          refine j_aload_n C 0 0 dX12_next_48 rfl rfl ?_
          refine y_getI C 11 _ _ fX12_next_98 rfl rfl ft_11_6 sb_11_6 hM130 dX12_next_49 (fun a154 ea154 la154 ua154 => ?_)
          obtain rfl : a154 = (M130.1 98 6).toInt := ea154
          refine y_putI C 11 _ _ qX12_next_101 rfl rfl ft_11_7 sb_11_7 hM130 (PM.w hpr rfl rfl) dX12_next_52 (by omega) (fun M156 eM156 hM156 => ?_)
          have pM156 := pi_o eM156 (by decide) (by decide) (by omega)
          refine j_aload_n C 0 0 dX12_next_55 rfl rfl ?_
          refine y_getI C 11 _ _ fX12_next_98 rfl rfl ft_11_6 sb_11_6 hM156 dX12_next_56 (fun a157 ea157 la157 ua157 => ?_)
          obtain rfl : a157 = (M130.1 98 6).toInt := s_fb eM156 (by decide) (ea157)
          refine j_aload_n C 0 0 dX12_next_59 rfl rfl ?_
          refine y_getI C 11 _ _ fX12_next_83 rfl rfl ft_11_8 sb_11_8 hM156 dX12_next_60 (fun a159 ea159 la159 ua159 => ?_)
          obtain rfl : a159 = (M130.1 98 8).toInt := s_fb eM156 (by decide) (ea159)
          refine y_icmp_lt C 75 dX12_next_63 (by decide) (by omega) (fun h161 => ?_) (fun h161 => ?_)
          · refine j_aload_n C 0 0 dX12_next_75 rfl rfl ?_
            refine j_aload_n C 0 0 dX12_next_76 rfl rfl ?_
            refine y_getI C 11 _ _ fX12_next_98 rfl rfl ft_11_6 sb_11_6 hM156 dX12_next_77 (fun a162 ea162 la162 ua162 => ?_)
            obtain rfl : a162 = (M130.1 98 6).toInt := s_fb eM156 (by decide) (ea162)
            refine j_callVi C (d := 0) (As := [.int (sI (M130.1 98 6).toInt)]) (st := []) 98 (s_lt rfl rfl) (s_kc (c := 11) rfl rfl) (by decide) rfl (s1_X12_see hM156 (M130.1 98 6).toInt (by omega) (by omega)) gX12_next_X12_see rfl hdX12_see (by decide) (Nat.le_of_ble_eq_true rfl) dX12_next_80 rfl (fun r164 M165 h166 => ?_)
            obtain ⟨a168, rfl, rfl, h167⟩ := h166
            refine j_callSi C (d := 0) (As := [.int (sI a168)]) (st := []) (s1_X12_isSmall hM156 a168 (by omega)) gX12_next_X12_isSmall rfl hdX12_isSmalls (by decide) (Nat.le_of_ble_eq_true rfl) dX12_next_83 rfl (fun r169 M170 h171 => ?_)
            obtain ⟨a173, rfl, rfl, h172⟩ := h171
            refine y_if_eq C 127 dX12_next_86 (by decide) (by omega) (fun h174 => ?_) (fun h174 => ?_)
            · refine j_aload_n C 0 0 dX12_next_127 rfl rfl ?_
              refine j_aload_n C 0 0 dX12_next_128 rfl rfl ?_
              refine y_getI C 11 _ _ fX12_next_98 rfl rfl ft_11_6 sb_11_6 hM156 dX12_next_129 (fun a175 ea175 la175 ua175 => ?_)
              obtain rfl : a175 = (M130.1 98 6).toInt := s_fb eM156 (by decide) (ea175)
              refine j_callVi C (d := 0) (As := [.int (sI (M130.1 98 6).toInt)]) (st := []) 98 (s_lt rfl rfl) (s_kc (c := 11) rfl rfl) (by decide) rfl (s1_X12_see hM156 (M130.1 98 6).toInt (by omega) (by omega)) gX12_next_X12_see rfl hdX12_see (by decide) (Nat.le_of_ble_eq_true rfl) dX12_next_132 rfl (fun r177 M178 h179 => ?_)
              obtain ⟨a181, rfl, rfl, h180⟩ := h179
              refine j_callSi C (d := 0) (As := [.int (sI a181)]) (st := []) (s1_X12_isDigit hM156 a181 (by omega)) gX12_next_X12_isDigit rfl hdX12_isDigits (by decide) (Nat.le_of_ble_eq_true rfl) dX12_next_135 rfl (fun r182 M183 h184 => ?_)
              obtain ⟨a186, rfl, rfl, h185⟩ := h184
              refine y_if_eq C 236 dX12_next_138 (by decide) (by omega) (fun h187 => ?_) (fun h187 => ?_)
              · refine j_aload_n C 0 0 dX12_next_236 rfl rfl ?_
                refine j_dup C dX12_next_237 rfl ?_
                refine y_getI C 11 _ _ fX12_next_101 rfl rfl ft_11_7 sb_11_7 hM156 dX12_next_238 (fun a188 ea188 la188 ua188 => ?_)
                obtain rfl : a188 = (M130.1 98 6).toInt := (ea188).trans (s_wr eM156 (by omega))
                refine y_iconst C dX12_next_241 ?_
                refine y_iadd C dX12_next_242 ?_
                refine y_putI C 11 _ _ qX12_next_101 rfl rfl ft_11_7 sb_11_7 hM156 (PM.w hpr rfl rfl) dX12_next_243 (by omega) (fun M190 eM190 hM190 => ?_)
                have pM190 := pi_o eM190 (by decide) (by decide) (by omega)
                refine j_aload_n C 0 0 dX12_next_246 rfl rfl ?_
                refine y_bipush C dX12_next_247 rfl ?_
                refine y_putIF C 11 qX12_next_108 rfl rfl ft_11_9 sb_11_9 hM190 (PM.w hpr rfl rfl) dX12_next_249 (fun M191 eM191 hM191 => ?_)
                have pM191 := pi_o eM191 (by decide) (by decide) (by omega)
                refine y_iconst C dX12_next_252 ?_
                refine j_istore_n C 1 [(1, .int (sI 0)), (0, .ref (ad 98))] dX12_next_253 rfl (by decide) rfl ?_
                have L216 : ∀ (n214 : Nat), ∀ (a217 : Int) (M218 : mm_M), (0 ≤ a217 ∧ a217 ≤ 12 ∧ (0 ≤ (M218.1 98 6).toInt) ∧ ((M218.1 98 8).toInt = (M0.1 98 8).toInt) ∧ ((M218.1 98 11).toInt = (M0.1 98 11).toInt) ∧ ((M0.1 98 7).toInt ≤ (M218.1 98 6).toInt) ∧ ((M218.1 98 6).toInt ≤ (M218.1 98 8).toInt) ∧ ((M218.1 98 8).toInt ≤ 900) ∧ ((M218.1 98 7).toInt ≤ (M218.1 98 8).toInt) ∧ ((M218.1 98 6).toInt < (M218.1 98 7).toInt) ∧ (b01 (PI M218) = 1) ∧ (12 - a217) < (n214 : Int)) → INV pr Kz M218 → FR [98] M0 M218 → jj p l e (cn_R 5) s m args below meth c 0 0 Q 2 dC dI ad cA A M218 254 [(0, .ref (ad 98)), (1, .int (sI a217))] [] := by
                  intro n214
                  induction n214 with
                  | zero =>
                    intro a217 M218 h219 hM218 fM218
                    exfalso; omega
                  | succ n214 ih215 =>
                    intro a217 M218 h219 hM218 fM218
                    refine j_iload_n C 1 1 dX12_next_254 rfl rfl ?_
                    refine j_ldcS C 3 (by decide) rfl rfl dX12_next_255 ?_
                    refine j_callSS C (d := 1) (As := []) (st := [.int (sI a217)]) 3 (by decide) (s2_J0_length_8abf5 hM218) gX12_next_J0_length_8abf5 rfl hdJ0_length_8abf5 (by decide) (Nat.le_of_ble_eq_true rfl) dX12_next_257 rfl (fun r220 M221 h222 => ?_)
                    obtain ⟨a224, rfl, rfl, h223⟩ := h222
                    refine y_icmp_ge C 294 dX12_next_260 (by decide) (by omega) (fun h225 => ?_) (fun h225 => ?_)
                    · have u240 : b01 (RIP M218) = 1 := b01_i (by unfold RIP; omega)
                      exact hret _ _ _ dX12_next_294 ⟨hM218, (FR.rf.tr fM218 (by decide)), by omega⟩
                    · refine j_aload_n C 0 0 dX12_next_263 rfl rfl ?_
                      refine j_aload_n C 0 0 dX12_next_264 rfl rfl ?_
                      refine y_getI C 11 _ _ fX12_next_98 rfl rfl ft_11_6 sb_11_6 hM218 dX12_next_265 (fun a226 ea226 la226 ua226 => ?_)
                      obtain rfl : a226 = (M218.1 98 6).toInt := ea226
                      refine j_callVi C (d := 0) (As := [.int (sI (M218.1 98 6).toInt)]) (st := []) 98 (s_lt rfl rfl) (s_kc (c := 11) rfl rfl) (by decide) rfl (s1_X12_see hM218 (M218.1 98 6).toInt (by omega) (by omega)) gX12_next_X12_see rfl hdX12_see (by decide) (Nat.le_of_ble_eq_true rfl) dX12_next_268 rfl (fun r228 M229 h230 => ?_)
                      obtain ⟨a232, rfl, rfl, h231⟩ := h230
                      refine j_ldcS C 3 (by decide) rfl rfl dX12_next_271 ?_
                      refine j_iload_n C 1 1 dX12_next_273 rfl rfl ?_
                      refine j_callSS C (d := 3) (As := [.int (sI a217)]) (st := [.int (sI a232)]) 3 (by decide) (s2_J0_charAt_5068e hM218 a217 (by omega) (by omega)) gX12_next_J0_charAt_5068e rfl hdJ0_charAt_5068e (by decide) (Nat.le_of_ble_eq_true rfl) dX12_next_274 rfl (fun r233 M234 h235 => ?_)
                      obtain ⟨a237, rfl, rfl, h236⟩ := h235
                      refine y_icmp_ne C 288 dX12_next_277 (by decide) (by omega) (fun h238 => ?_) (fun h238 => ?_)
                      · refine y_iinc C 1 [(1, .int (sI (a217 + 1))), (0, .ref (ad 98))] dX12_next_288 rfl (by decide) rfl ?_
                        refine j_goto C 254 dX12_next_291 (by decide) ?_
                        refine j_lv [1, 0] rfl ?_; exact ih215 (a217 + 1) M218 (by omega) hM218 (FR.rf.tr fM218 (by decide))
                      · refine j_aload_n C 0 0 dX12_next_280 rfl rfl ?_
                        refine y_bipush C dX12_next_281 rfl ?_
                        refine j_iload_n C 1 1 dX12_next_283 rfl rfl ?_
                        refine y_iadd C dX12_next_284 ?_
                        refine y_putIF C 11 qX12_next_108 rfl rfl ft_11_9 sb_11_9 hM218 (PM.w hpr rfl rfl) dX12_next_285 (fun M239 eM239 hM239 => ?_)
                        have pM239 := pi_o eM239 (by decide) (by decide) (by omega)
                        refine y_iinc C 1 [(1, .int (sI (a217 + 1))), (0, .ref (ad 98))] dX12_next_288 rfl (by decide) rfl ?_
                        refine j_goto C 254 dX12_next_291 (by decide) ?_
                        have zz98_8 : (M239.1 98 8).toInt = (M218.1 98 8).toInt := s_fb eM239 (by decide) (rfl); have zz98_7 : (M239.1 98 7).toInt = (M218.1 98 7).toInt := s_fb eM239 (by decide) (rfl); have zz98_6 : (M239.1 98 6).toInt = (M218.1 98 6).toInt := s_fb eM239 (by decide) (rfl); have zz98_11 : (M239.1 98 11).toInt = (M218.1 98 11).toInt := s_fb eM239 (by decide) (rfl); refine j_lv [1, 0] rfl ?_; exact ih215 (a217 + 1) M239 (by omega) hM239 ((FR.rf.tr fM218 (by decide)).wI eM239 (by decide))
                have zz98_8 : (M191.1 98 8).toInt = (M130.1 98 8).toInt := s_fb eM156 (by decide) (s_fb eM190 (by decide) (s_fb eM191 (by decide) (rfl))); have zz98_7 := (Eq.trans (s_fb eM191 (by decide) (rfl) : (M191.1 98 7).toInt = (M190.1 98 7).toInt) (s_wr eM190 (by omega))); have zz98_6 : (M191.1 98 6).toInt = (M130.1 98 6).toInt := s_fb eM156 (by decide) (s_fb eM190 (by decide) (s_fb eM191 (by decide) (rfl))); have zz98_11 : (M191.1 98 11).toInt = (M130.1 98 11).toInt := s_fb eM156 (by decide) (s_fb eM190 (by decide) (s_fb eM191 (by decide) (rfl))); refine j_lv [1, 0] rfl ?_; exact L216 2010 0 M191 (by omega) hM191 ((((FR.rf.tr fM130 (by decide)).wI eM156 (by decide)).wI eM190 (by decide)).wI eM191 (by decide))
              · refine j_aload_n C 0 0 dX12_next_141 rfl rfl ?_
                refine y_iconst C dX12_next_142 ?_
                refine y_putI C 11 _ _ qX12_next_121 rfl rfl ft_11_10 sb_11_10 hM156 (PM.w hpr rfl rfl) dX12_next_143 (by omega) (fun M241 eM241 hM241 => ?_)
                have pM241 := pi_o eM241 (by decide) (by decide) (by omega)
                have u242a : (M156.1 98 7).toInt = (M130.1 98 6).toInt := s_wr eM156 (by omega)
                have u242b : (M241.1 98 7).toInt = (M156.1 98 7).toInt := congrArg Int32.toInt (wI_ne eM241 (by decide))
                have u242c : (M241.1 101 ((M241.1 98 7).toInt).toNat).toInt = (M156.1 101 ((M130.1 98 6).toInt).toNat).toInt := by rw [u242b, u242a, wI_cell eM241 (show (101 : Nat) ≠ 98 by decide)]
                have L282 : ∀ (n280 : Nat), ∀ (M283 : mm_M), ((0 ≤ (M283.1 98 6).toInt) ∧ ((M283.1 98 8).toInt = (M0.1 98 8).toInt) ∧ ((M283.1 98 11).toInt = (M0.1 98 11).toInt) ∧ ((M0.1 98 7).toInt ≤ (M283.1 98 6).toInt) ∧ ((M283.1 98 6).toInt ≤ (M283.1 98 8).toInt) ∧ ((M283.1 98 8).toInt ≤ 900) ∧ ((M283.1 98 7).toInt ≤ (M283.1 98 8).toInt) ∧ ((M283.1 98 6).toInt < (M283.1 98 7).toInt ∨ (M283.1 98 7).toInt = (M283.1 98 6).toInt ∧ (M283.1 98 7).toInt < (M283.1 98 8).toInt ∧ 48 ≤ (M283.1 101 (M283.1 98 7).toInt.toNat).toInt ∧ (M283.1 101 (M283.1 98 7).toInt.toNat).toInt ≤ 57) ∧ ((M283.1 98 7).toInt = (M283.1 98 6).toInt ∧ (M283.1 98 10).toInt = 0 ∨ (M283.1 98 7).toInt = (M283.1 98 6).toInt + 1 ∧ (M283.1 98 10).toInt ≤ 9 ∨ (M283.1 98 7).toInt = (M283.1 98 6).toInt + 2 ∧ (M283.1 98 10).toInt ≤ 99 ∨ (M283.1 98 6).toInt + 3 ≤ (M283.1 98 7).toInt) ∧ (b01 (PI M283) = 1) ∧ (900 - (M283.1 98 7).toInt) < (n280 : Int)) → INV pr Kz M283 → FR [98] M0 M283 → jj p l e (cn_R 5) s m args below meth c 0 0 Q 2 dC dI ad cA A M283 146 [(0, .ref (ad 98))] [] := by
                  intro n280
                  induction n280 with
                  | zero =>
                    intro M283 h284 hM283 fM283
                    exfalso; omega
                  | succ n280 ih281 =>
                    intro M283 h284 hM283 fM283
                    refine j_aload_n C 0 0 dX12_next_146 rfl rfl ?_
                    refine j_aload_n C 0 0 dX12_next_147 rfl rfl ?_
                    refine y_getI C 11 _ _ fX12_next_101 rfl rfl ft_11_7 sb_11_7 hM283 dX12_next_148 (fun a285 ea285 la285 ua285 => ?_)
                    obtain rfl : a285 = (M283.1 98 7).toInt := ea285
                    refine j_callVi C (d := 0) (As := [.int (sI (M283.1 98 7).toInt)]) (st := []) 98 (s_lt rfl rfl) (s_kc (c := 11) rfl rfl) (by decide) rfl (s1_X12_see hM283 (M283.1 98 7).toInt (by omega) (by omega)) gX12_next_X12_see rfl hdX12_see (by decide) (Nat.le_of_ble_eq_true rfl) dX12_next_151 rfl (fun r287 M288 h289 => ?_)
                    obtain ⟨a291, rfl, rfl, h290⟩ := h289
                    refine j_callSi C (d := 0) (As := [.int (sI a291)]) (st := []) (s1_X12_isDigit hM283 a291 (by omega)) gX12_next_X12_isDigit rfl hdX12_isDigits (by decide) (Nat.le_of_ble_eq_true rfl) dX12_next_154 rfl (fun r292 M293 h294 => ?_)
                    obtain ⟨a296, rfl, rfl, h295⟩ := h294
                    refine y_if_eq C 209 dX12_next_157 (by decide) (by omega) (fun h297 => ?_) (fun h297 => ?_)
                    · refine j_aload_n C 0 0 dX12_next_209 rfl rfl ?_
                      refine j_aload_n C 0 0 dX12_next_210 rfl rfl ?_
                      refine y_getI C 11 _ _ fX12_next_101 rfl rfl ft_11_7 sb_11_7 hM283 dX12_next_211 (fun a321 ea321 la321 ua321 => ?_)
                      obtain rfl : a321 = (M283.1 98 7).toInt := ea321
                      refine j_aload_n C 0 0 dX12_next_214 rfl rfl ?_
                      refine y_getI C 11 _ _ fX12_next_98 rfl rfl ft_11_6 sb_11_6 hM283 dX12_next_215 (fun a323 ea323 la323 ua323 => ?_)
                      obtain rfl : a323 = (M283.1 98 6).toInt := ea323
                      refine y_isub C dX12_next_218 ?_
                      refine y_iconst C dX12_next_219 ?_
                      refine y_icmp_le C 228 dX12_next_220 (by decide) (by omega) (fun h325 => ?_) (fun h325 => ?_)
                      · refine y_bipush C dX12_next_228 rfl ?_
                        refine y_putIF C 11 qX12_next_108 rfl rfl ft_11_9 sb_11_9 hM283 (PM.w hpr rfl rfl) dX12_next_230 (fun M326 eM326 hM326 => ?_)
                        have pM326 := pi_o eM326 (by decide) (by decide) (by omega)
                        refine j_goto C 294 dX12_next_233 (by decide) ?_
                        have zz98_6 : (M326.1 98 6).toInt = (M283.1 98 6).toInt := s_fb eM326 (by decide) (rfl)
                        have zz98_7 : (M326.1 98 7).toInt = (M283.1 98 7).toInt := s_fb eM326 (by decide) (rfl)
                        have zz98_8 : (M326.1 98 8).toInt = (M283.1 98 8).toInt := s_fb eM326 (by decide) (rfl)
                        have zz98_9 := (Eq.trans (rfl : (M326.1 98 9).toInt = (M326.1 98 9).toInt) (s_wr eM326 (by omega)))
                        have u327 : b01 (RIP M326) = 1 := b01_i (by unfold RIP; omega)
                        have zz98_11 : (M326.1 98 11).toInt = (M283.1 98 11).toInt := s_fb eM326 (by decide) (rfl); have zz98_6 : (M326.1 98 6).toInt = (M283.1 98 6).toInt := s_fb eM326 (by decide) (rfl); have zz98_8 : (M326.1 98 8).toInt = (M283.1 98 8).toInt := s_fb eM326 (by decide) (rfl); exact hret _ _ _ dX12_next_294 ⟨hM326, ((FR.rf.tr fM283 (by decide)).wI eM326 (by decide)), by omega⟩
                      · refine y_bipush C dX12_next_223 rfl ?_
                        refine j_goto C 230 dX12_next_225 (by decide) ?_
                        refine y_putIF C 11 qX12_next_108 rfl rfl ft_11_9 sb_11_9 hM283 (PM.w hpr rfl rfl) dX12_next_230 (fun M328 eM328 hM328 => ?_)
                        have pM328 := pi_o eM328 (by decide) (by decide) (by omega)
                        refine j_goto C 294 dX12_next_233 (by decide) ?_
                        have zz98_6 : (M328.1 98 6).toInt = (M283.1 98 6).toInt := s_fb eM328 (by decide) (rfl)
                        have zz98_7 : (M328.1 98 7).toInt = (M283.1 98 7).toInt := s_fb eM328 (by decide) (rfl)
                        have zz98_8 : (M328.1 98 8).toInt = (M283.1 98 8).toInt := s_fb eM328 (by decide) (rfl)
                        have zz98_9 := (Eq.trans (rfl : (M328.1 98 9).toInt = (M328.1 98 9).toInt) (s_wr eM328 (by omega)))
                        have u329 : b01 (RIP M328) = 1 := b01_i (by unfold RIP; omega)
                        have zz98_11 : (M328.1 98 11).toInt = (M283.1 98 11).toInt := s_fb eM328 (by decide) (rfl); have zz98_6 : (M328.1 98 6).toInt = (M283.1 98 6).toInt := s_fb eM328 (by decide) (rfl); have zz98_8 : (M328.1 98 8).toInt = (M283.1 98 8).toInt := s_fb eM328 (by decide) (rfl); exact hret _ _ _ dX12_next_294 ⟨hM328, ((FR.rf.tr fM283 (by decide)).wI eM328 (by decide)), by omega⟩
                    · refine j_aload_n C 0 0 dX12_next_160 rfl rfl ?_
                      refine y_getI C 11 _ _ fX12_next_101 rfl rfl ft_11_7 sb_11_7 hM283 dX12_next_161 (fun a298 ea298 la298 ua298 => ?_)
                      obtain rfl : a298 = (M283.1 98 7).toInt := ea298
                      refine j_aload_n C 0 0 dX12_next_164 rfl rfl ?_
                      refine y_getI C 11 _ _ fX12_next_98 rfl rfl ft_11_6 sb_11_6 hM283 dX12_next_165 (fun a300 ea300 la300 ua300 => ?_)
                      obtain rfl : a300 = (M283.1 98 6).toInt := ea300
                      refine y_isub C dX12_next_168 ?_
                      refine y_iconst C dX12_next_169 ?_
                      refine y_icmp_ge C 196 dX12_next_170 (by decide) (by omega) (fun h302 => ?_) (fun h302 => ?_)
                      · refine j_aload_n C 0 0 dX12_next_196 rfl rfl ?_
                        refine j_dup C dX12_next_197 rfl ?_
                        refine y_getI C 11 _ _ fX12_next_101 rfl rfl ft_11_7 sb_11_7 hM283 dX12_next_198 (fun a303 ea303 la303 ua303 => ?_)
                        obtain rfl : a303 = (M283.1 98 7).toInt := ea303
                        refine y_iconst C dX12_next_201 ?_
                        refine y_iadd C dX12_next_202 ?_
                        refine y_putI C 11 _ _ qX12_next_101 rfl rfl ft_11_7 sb_11_7 hM283 (PM.w hpr rfl rfl) dX12_next_203 (by omega) (fun M305 eM305 hM305 => ?_)
                        have pM305 := pi_o eM305 (by decide) (by decide) (by omega)
                        refine j_goto C 146 dX12_next_206 (by decide) ?_
                        have zz98_8 : (M305.1 98 8).toInt = (M283.1 98 8).toInt := s_fb eM305 (by decide) (rfl); have zz98_7 := (Eq.trans (rfl : (M305.1 98 7).toInt = (M305.1 98 7).toInt) (s_wr eM305 (by omega))); have zz98_6 : (M305.1 98 6).toInt = (M283.1 98 6).toInt := s_fb eM305 (by decide) (rfl); have zz98_11 : (M305.1 98 11).toInt = (M283.1 98 11).toInt := s_fb eM305 (by decide) (rfl); have zz98_10 : (M305.1 98 10).toInt = (M283.1 98 10).toInt := s_fb eM305 (by decide) (rfl); exact ih281 M305 (by omega) hM305 ((FR.rf.tr fM283 (by decide)).wI eM305 (by decide))
                      · refine j_aload_n C 0 0 dX12_next_173 rfl rfl ?_
                        refine y_bipush C dX12_next_174 rfl ?_
                        refine j_aload_n C 0 0 dX12_next_176 rfl rfl ?_
                        refine y_getI C 11 _ _ fX12_next_121 rfl rfl ft_11_10 sb_11_10 hM283 dX12_next_177 (fun a307 ea307 la307 ua307 => ?_)
                        obtain rfl : a307 = (M283.1 98 10).toInt := ea307
                        refine y_imul C dX12_next_180 ?_
                        refine j_aload_n C 0 0 dX12_next_181 rfl rfl ?_
                        refine j_aload_n C 0 0 dX12_next_182 rfl rfl ?_
                        refine y_getI C 11 _ _ fX12_next_101 rfl rfl ft_11_7 sb_11_7 hM283 dX12_next_183 (fun a309 ea309 la309 ua309 => ?_)
                        obtain rfl : a309 = (M283.1 98 7).toInt := ea309
                        refine j_callVi C (d := 0) (As := [.int (sI (M283.1 98 7).toInt)]) (st := [.int (sI (10 * (M283.1 98 10).toInt)), .ref (ad 98)]) 98 (s_lt rfl rfl) (s_kc (c := 11) rfl rfl) (by decide) rfl (s1_X12_see hM283 (M283.1 98 7).toInt (by omega) (by omega)) gX12_next_X12_see rfl hdX12_see (by decide) (Nat.le_of_ble_eq_true rfl) dX12_next_186 rfl (fun r311 M312 h313 => ?_)
                        obtain ⟨a315, rfl, rfl, h314⟩ := h313
                        refine y_iadd C dX12_next_189 ?_
                        refine y_bipush C dX12_next_190 rfl ?_
                        refine y_isub C dX12_next_192 ?_
                        refine y_putI C 11 _ _ qX12_next_121 rfl rfl ft_11_10 sb_11_10 hM283 (PM.w hpr rfl rfl) dX12_next_193 (by omega) (fun M316 eM316 hM316 => ?_)
                        have pM316 := pi_o eM316 (by decide) (by decide) (by omega)
                        refine j_aload_n C 0 0 dX12_next_196 rfl rfl ?_
                        refine j_dup C dX12_next_197 rfl ?_
                        refine y_getI C 11 _ _ fX12_next_101 rfl rfl ft_11_7 sb_11_7 hM316 dX12_next_198 (fun a317 ea317 la317 ua317 => ?_)
                        obtain rfl : a317 = (M283.1 98 7).toInt := s_fb eM316 (by decide) (ea317)
                        refine y_iconst C dX12_next_201 ?_
                        refine y_iadd C dX12_next_202 ?_
                        refine y_putI C 11 _ _ qX12_next_101 rfl rfl ft_11_7 sb_11_7 hM316 (PM.w hpr rfl rfl) dX12_next_203 (by omega) (fun M319 eM319 hM319 => ?_)
                        have pM319 := pi_o eM319 (by decide) (by decide) (by omega)
                        refine j_goto C 146 dX12_next_206 (by decide) ?_
                        have zz98_8 : (M319.1 98 8).toInt = (M283.1 98 8).toInt := s_fb eM316 (by decide) (s_fb eM319 (by decide) (rfl)); have zz98_7 := (Eq.trans (rfl : (M319.1 98 7).toInt = (M319.1 98 7).toInt) (s_wr eM319 (by omega))); have zz98_6 : (M319.1 98 6).toInt = (M283.1 98 6).toInt := s_fb eM316 (by decide) (s_fb eM319 (by decide) (rfl)); have zz98_11 : (M319.1 98 11).toInt = (M283.1 98 11).toInt := s_fb eM316 (by decide) (s_fb eM319 (by decide) (rfl)); have zz98_10 := (Eq.trans (s_fb eM319 (by decide) (rfl) : (M319.1 98 10).toInt = (M316.1 98 10).toInt) (s_wr eM316 (by omega))); exact ih281 M319 (by omega) hM319 (((FR.rf.tr fM283 (by decide)).wI eM316 (by decide)).wI eM319 (by decide))
                have zz98_8 : (M241.1 98 8).toInt = (M130.1 98 8).toInt := s_fb eM156 (by decide) (s_fb eM241 (by decide) (rfl)); have zz98_7 := (Eq.trans (s_fb eM241 (by decide) (rfl) : (M241.1 98 7).toInt = (M156.1 98 7).toInt) (s_wr eM156 (by omega))); have zz98_6 : (M241.1 98 6).toInt = (M130.1 98 6).toInt := s_fb eM156 (by decide) (s_fb eM241 (by decide) (rfl)); have zz98_11 : (M241.1 98 11).toInt = (M130.1 98 11).toInt := s_fb eM156 (by decide) (s_fb eM241 (by decide) (rfl)); have zz98_10 := (Eq.trans (rfl : (M241.1 98 10).toInt = (M241.1 98 10).toInt) (s_wr eM241 (by omega))); exact L282 2010 M241 (by omega) hM241 (((FR.rf.tr fM130 (by decide)).wI eM156 (by decide)).wI eM241 (by decide))
            · have u330a : (M156.1 98 7).toInt = (M130.1 98 6).toInt := s_wr eM156 (by omega)
              have u330b : (M156.1 98 7).toInt = (M156.1 98 7).toInt := rfl
              have u330c : (M156.1 101 ((M156.1 98 7).toInt).toNat).toInt = (M156.1 101 ((M130.1 98 6).toInt).toNat).toInt := by rw [u330b, u330a]
              have L351 : ∀ (n349 : Nat), ∀ (M352 : mm_M), ((0 ≤ (M352.1 98 6).toInt) ∧ ((M352.1 98 8).toInt = (M0.1 98 8).toInt) ∧ ((M352.1 98 11).toInt = (M0.1 98 11).toInt) ∧ ((M0.1 98 7).toInt ≤ (M352.1 98 6).toInt) ∧ ((M352.1 98 6).toInt ≤ (M352.1 98 8).toInt) ∧ ((M352.1 98 8).toInt ≤ 900) ∧ ((M352.1 98 7).toInt ≤ (M352.1 98 8).toInt) ∧ ((M352.1 98 6).toInt < (M352.1 98 7).toInt ∨ (M352.1 98 7).toInt = (M352.1 98 6).toInt ∧ (M352.1 98 7).toInt < (M352.1 98 8).toInt ∧ 97 ≤ (M352.1 101 (M352.1 98 7).toInt.toNat).toInt ∧ (M352.1 101 (M352.1 98 7).toInt.toNat).toInt ≤ 122) ∧ (b01 (PI M352) = 1) ∧ (900 - (M352.1 98 7).toInt) < (n349 : Int)) → INV pr Kz M352 → FR [98] M0 M352 → jj p l e (cn_R 5) s m args below meth c 0 0 Q 2 dC dI ad cA A M352 89 [(0, .ref (ad 98))] [] := by
                intro n349
                induction n349 with
                | zero =>
                  intro M352 h353 hM352 fM352
                  exfalso; omega
                | succ n349 ih350 =>
                  intro M352 h353 hM352 fM352
                  refine j_aload_n C 0 0 dX12_next_89 rfl rfl ?_
                  refine j_aload_n C 0 0 dX12_next_90 rfl rfl ?_
                  refine y_getI C 11 _ _ fX12_next_101 rfl rfl ft_11_7 sb_11_7 hM352 dX12_next_91 (fun a354 ea354 la354 ua354 => ?_)
                  obtain rfl : a354 = (M352.1 98 7).toInt := ea354
                  refine j_callVi C (d := 0) (As := [.int (sI (M352.1 98 7).toInt)]) (st := []) 98 (s_lt rfl rfl) (s_kc (c := 11) rfl rfl) (by decide) rfl (s1_X12_see hM352 (M352.1 98 7).toInt (by omega) (by omega)) gX12_next_X12_see rfl hdX12_see (by decide) (Nat.le_of_ble_eq_true rfl) dX12_next_94 rfl (fun r356 M357 h358 => ?_)
                  obtain ⟨a360, rfl, rfl, h359⟩ := h358
                  refine j_callSi C (d := 0) (As := [.int (sI a360)]) (st := []) (s1_X12_isSmall hM352 a360 (by omega)) gX12_next_X12_isSmall rfl hdX12_isSmalls (by decide) (Nat.le_of_ble_eq_true rfl) dX12_next_97 rfl (fun r361 M362 h363 => ?_)
                  obtain ⟨a365, rfl, rfl, h364⟩ := h363
                  refine y_if_eq C 116 dX12_next_100 (by decide) (by omega) (fun h366 => ?_) (fun h366 => ?_)
                  · refine j_aload_n C 0 0 dX12_next_116 rfl rfl ?_
                    refine j_aload_n C 0 0 dX12_next_117 rfl rfl ?_
                    refine j_callVi C (d := 4) (As := []) (st := [.ref (ad 98)]) 98 (s_lt rfl rfl) (s_kc (c := 11) rfl rfl) (by decide) rfl (s1_X12_keyAt hM352) gX12_next_X12_keyAt rfl hdX12_keyAt (by decide) (Nat.le_of_ble_eq_true rfl) dX12_next_118 rfl (fun r371 M372 h373 => ?_)
                    obtain ⟨a375, rfl, rfl, h374⟩ := h373
                    refine y_putIF C 11 qX12_next_108 rfl rfl ft_11_9 sb_11_9 hM352 (PM.w hpr rfl rfl) dX12_next_121 (fun M376 eM376 hM376 => ?_)
                    have pM376 := pi_o eM376 (by decide) (by decide) (by omega)
                    refine j_goto C 294 dX12_next_124 (by decide) ?_
                    have zz98_6 : (M376.1 98 6).toInt = (M352.1 98 6).toInt := s_fb eM376 (by decide) (rfl)
                    have zz98_7 : (M376.1 98 7).toInt = (M352.1 98 7).toInt := s_fb eM376 (by decide) (rfl)
                    have zz98_8 : (M376.1 98 8).toInt = (M352.1 98 8).toInt := s_fb eM376 (by decide) (rfl)
                    have zz98_9 := (Eq.trans (rfl : (M376.1 98 9).toInt = (M376.1 98 9).toInt) (s_wr eM376 (by omega)))
                    have u377 : b01 (RIP M376) = 1 := b01_i (by unfold RIP; omega)
                    have zz98_11 : (M376.1 98 11).toInt = (M352.1 98 11).toInt := s_fb eM376 (by decide) (rfl); have zz98_6 : (M376.1 98 6).toInt = (M352.1 98 6).toInt := s_fb eM376 (by decide) (rfl); have zz98_8 : (M376.1 98 8).toInt = (M352.1 98 8).toInt := s_fb eM376 (by decide) (rfl); exact hret _ _ _ dX12_next_294 ⟨hM376, ((FR.rf.tr fM352 (by decide)).wI eM376 (by decide)), by omega⟩
                  · refine j_aload_n C 0 0 dX12_next_103 rfl rfl ?_
                    refine j_dup C dX12_next_104 rfl ?_
                    refine y_getI C 11 _ _ fX12_next_101 rfl rfl ft_11_7 sb_11_7 hM352 dX12_next_105 (fun a367 ea367 la367 ua367 => ?_)
                    obtain rfl : a367 = (M352.1 98 7).toInt := ea367
                    refine y_iconst C dX12_next_108 ?_
                    refine y_iadd C dX12_next_109 ?_
                    refine y_putI C 11 _ _ qX12_next_101 rfl rfl ft_11_7 sb_11_7 hM352 (PM.w hpr rfl rfl) dX12_next_110 (by omega) (fun M369 eM369 hM369 => ?_)
                    have pM369 := pi_o eM369 (by decide) (by decide) (by omega)
                    refine j_goto C 89 dX12_next_113 (by decide) ?_
                    have zz98_8 : (M369.1 98 8).toInt = (M352.1 98 8).toInt := s_fb eM369 (by decide) (rfl); have zz98_7 := (Eq.trans (rfl : (M369.1 98 7).toInt = (M369.1 98 7).toInt) (s_wr eM369 (by omega))); have zz98_6 : (M369.1 98 6).toInt = (M352.1 98 6).toInt := s_fb eM369 (by decide) (rfl); have zz98_11 : (M369.1 98 11).toInt = (M352.1 98 11).toInt := s_fb eM369 (by decide) (rfl); exact ih350 M369 (by omega) hM369 ((FR.rf.tr fM352 (by decide)).wI eM369 (by decide))
              have zz98_8 : (M156.1 98 8).toInt = (M130.1 98 8).toInt := s_fb eM156 (by decide) (rfl); have zz98_7 := (Eq.trans (rfl : (M156.1 98 7).toInt = (M156.1 98 7).toInt) (s_wr eM156 (by omega))); have zz98_6 : (M156.1 98 6).toInt = (M130.1 98 6).toInt := s_fb eM156 (by decide) (rfl); have zz98_11 : (M156.1 98 11).toInt = (M130.1 98 11).toInt := s_fb eM156 (by decide) (rfl); exact L351 2010 M156 (by omega) hM156 ((FR.rf.tr fM130 (by decide)).wI eM156 (by decide))
          · refine j_aload_n C 0 0 dX12_next_66 rfl rfl ?_
            refine y_bipush C dX12_next_67 rfl ?_
            refine y_putIF C 11 qX12_next_108 rfl rfl ft_11_9 sb_11_9 hM156 (PM.w hpr rfl rfl) dX12_next_69 (fun M378 eM378 hM378 => ?_)
            have pM378 := pi_o eM378 (by decide) (by decide) (by omega)
            refine j_goto C 294 dX12_next_72 (by decide) ?_
            have zz98_6 : (M378.1 98 6).toInt = (M130.1 98 6).toInt := s_fb eM156 (by decide) (s_fb eM378 (by decide) (rfl))
            have zz98_7 := (Eq.trans (s_fb eM378 (by decide) (rfl) : (M378.1 98 7).toInt = (M156.1 98 7).toInt) (s_wr eM156 (by omega)))
            have zz98_8 : (M378.1 98 8).toInt = (M130.1 98 8).toInt := s_fb eM156 (by decide) (s_fb eM378 (by decide) (rfl))
            have zz98_9 := (Eq.trans (rfl : (M378.1 98 9).toInt = (M378.1 98 9).toInt) (s_wr eM378 (by omega)))
            have u379 : b01 (RIP M378) = 1 := b01_i (by unfold RIP; omega)
            have zz98_11 : (M378.1 98 11).toInt = (M130.1 98 11).toInt := s_fb eM156 (by decide) (s_fb eM378 (by decide) (rfl)); have zz98_6 : (M378.1 98 6).toInt = (M130.1 98 6).toInt := s_fb eM156 (by decide) (s_fb eM378 (by decide) (rfl)); have zz98_8 : (M378.1 98 8).toInt = (M130.1 98 8).toInt := s_fb eM156 (by decide) (s_fb eM378 (by decide) (rfl)); exact hret _ _ _ dX12_next_294 ⟨hM378, (((FR.rf.tr fM130 (by decide)).wI eM156 (by decide)).wI eM378 (by decide)), by omega⟩
        · refine j_aload_n C 0 0 dX12_next_34 rfl rfl ?_
          refine j_dup C dX12_next_35 rfl ?_
          refine y_getI C 11 _ _ fX12_next_98 rfl rfl ft_11_6 sb_11_6 hM130 dX12_next_36 (fun a151 ea151 la151 ua151 => ?_)
          obtain rfl : a151 = (M130.1 98 6).toInt := ea151
          refine y_iconst C dX12_next_39 ?_
          refine y_iadd C dX12_next_40 ?_
          refine y_putI C 11 _ _ qX12_next_98 rfl rfl ft_11_6 sb_11_6 hM130 (PM.w hpr rfl rfl) dX12_next_41 (by omega) (fun M153 eM153 hM153 => ?_)
          have pM153 := pi_o eM153 (by decide) (by decide) (by omega)
          refine j_goto C 8 dX12_next_44 (by decide) ?_
          have zz98_8 : (M153.1 98 8).toInt = (M130.1 98 8).toInt := s_fb eM153 (by decide) (rfl); have zz98_6 := (Eq.trans (rfl : (M153.1 98 6).toInt = (M153.1 98 6).toInt) (s_wr eM153 (by omega))); have zz98_11 : (M153.1 98 11).toInt = (M130.1 98 11).toInt := s_fb eM153 (by decide) (rfl); exact ih128 M153 (by omega) hM153 ((FR.rf.tr fM130 (by decide)).wI eM153 (by decide))
  have zz98_8 : (M103.1 98 8).toInt = (M0.1 98 8).toInt := s_fb eM103 (by decide) (rfl); have zz98_6 := (Eq.trans (rfl : (M103.1 98 6).toInt = (M103.1 98 6).toInt) (s_wr eM103 (by omega))); have zz98_11 : (M103.1 98 11).toInt = (M0.1 98 11).toInt := s_fb eM103 (by decide) (rfl); exact L129 2010 M103 (by omega) hM103 (FR.rf.wI eM103 (by decide))
set_option maxHeartbeats 4000000 in
theorem s1_X12_is {l : Launch} {dC : Nat → ClassId} {dI : Nat → Nat → Nat} {ad : Nat → Nat} {cA : Nat → ClassId} {pr : Nat → Nat → Bool} {Kz : mm_M} {M0 : mm_M} (hM0 : INV pr Kz M0) (a1 : Int) (ha1 : -2147483648 ≤ a1 ∧ a1 ≤ 2147483647) : Ci l 0 yX12_is wsX12_is dC dI ad cA [.ref (ad 98), .int (sI a1)] M0 (fun r M' => ∃ a : Int, r = sI a ∧ M0 = M' ∧ 0 ≤ a ∧ a ≤ 1 ∧ ((¬ (M0.1 98 11).toInt = 0 ∧ a = 0) ∨ (0 ≤ (M0.1 98 11).toInt ∧ (M0.1 98 11).toInt ≤ 0 ∧ (M0.1 98 11).toInt = 0 ∧ ¬ (M0.1 98 9).toInt = a1 ∧ a = 0) ∨ (0 ≤ (M0.1 98 11).toInt ∧ (M0.1 98 11).toInt ≤ 0 ∧ (M0.1 98 11).toInt = 0 ∧ (M0.1 98 9).toInt = a1 ∧ a = 1))) := by
  refine ci_of (cc := cX12_is) (maxL := 2) (ty := .boolean) (lv := [(0, .ref (ad 98)), (1, .int (sI a1))]) (by decide) rfl (fun r M' hp => by obtain ⟨a, rfl, -, h⟩ := hp; rcases (show a = 0 ∨ a = 1 by omega) with rfl | rfl <;> rfl) (Nat.le_of_ble_eq_true rfl) rfl ?_
  intro p e s m args below meth c A Q C hret
  refine j_aload_n C 0 0 dX12_is_0 rfl rfl ?_
  refine y_getI C 11 _ _ fX12_is_126 rfl rfl ft_11_11 sb_11_11 hM0 dX12_is_1 (fun a101 ea101 la101 ua101 => ?_)
  obtain rfl : a101 = (M0.1 98 11).toInt := ea101
  refine y_if_ne C 19 dX12_is_4 (by decide) (by omega) (fun h103 => ?_) (fun h103 => ?_)
  · refine y_iconst C dX12_is_19 ?_
    exact hret _ _ _ _ dX12_is_20 ⟨0, rfl, rfl, by omega⟩
  · refine j_aload_n C 0 0 dX12_is_7 rfl rfl ?_
    refine y_getI C 11 _ _ fX12_is_108 rfl rfl ft_11_9 sb_11_9 hM0 dX12_is_8 (fun a104 ea104 la104 ua104 => ?_)
    obtain rfl : a104 = (M0.1 98 9).toInt := ea104
    refine j_iload_n C 1 1 dX12_is_11 rfl rfl ?_
    refine y_icmp_ne C 19 dX12_is_12 (by decide) (by omega) (fun h106 => ?_) (fun h106 => ?_)
    · refine y_iconst C dX12_is_19 ?_
      exact hret _ _ _ _ dX12_is_20 ⟨0, rfl, rfl, by omega⟩
    · refine y_iconst C dX12_is_15 ?_
      refine j_goto C 20 dX12_is_16 (by decide) ?_
      exact hret _ _ _ _ dX12_is_20 ⟨1, rfl, rfl, by omega⟩
set_option maxHeartbeats 4000000 in
theorem s1_X12_eats {l : Launch} {dC : Nat → ClassId} {dI : Nat → Nat → Nat} {ad : Nat → Nat} {cA : Nat → ClassId} {pr : Nat → Nat → Bool} {Kz : mm_M} {M0 : mm_M} (hM0 : INV pr Kz M0) (hpr : PM pr) (a1 : Int) (ha1 : -2147483648 ≤ a1 ∧ a1 ≤ 2147483647) (hp0 : b01 (RIP M0) = 1) (hp1 : ¬ a1 = 24) (hp2 : b01 (PI M0) = 1) : Ci l 6 yX12_eats wsX12_eats dC dI ad cA [.ref (ad 98), .int (sI a1)] M0 (fun r M' => ∃ a : Int, r = sI a ∧ INV pr Kz M' ∧ FR [98] M0 M' ∧ 0 ≤ a ∧ a ≤ 1 ∧ (b01 (RIP M') = 1) ∧ ((M'.1 98 8).toInt = (M0.1 98 8).toInt) ∧ (a = 0 ∧ (M'.1 98 6).toInt = (M0.1 98 6).toInt ∧ (M'.1 98 11).toInt = (M0.1 98 11).toInt ∨ a = 1 ∧ (M0.1 98 11).toInt = 0 ∧ (M'.1 98 11).toInt = 0 ∧ (M0.1 98 6).toInt + 1 ≤ (M'.1 98 6).toInt) ∧ (b01 (PI M') = 1)) := by
  refine ci_of (cc := cX12_eats) (maxL := 2) (ty := .boolean) (lv := [(0, .ref (ad 98)), (1, .int (sI a1))]) (by decide) rfl (fun r M' hp => by obtain ⟨a, rfl, -, h⟩ := hp; rcases (show a = 0 ∨ a = 1 by omega) with rfl | rfl <;> rfl) (Nat.le_of_ble_eq_true rfl) rfl ?_
  intro p e s m args below meth c A Q C hret
  have u101l := ri_l (M := M0) (by omega)
  refine j_aload_n C 0 0 dX12_eats_0 rfl rfl ?_
  refine j_iload_n C 1 1 dX12_eats_1 rfl rfl ?_
  refine j_callVi C (d := 0) (As := [.int (sI a1)]) (st := []) 98 (s_lt rfl rfl) (s_kc (c := 11) rfl rfl) (by decide) rfl (s1_X12_is hM0 a1 (by omega)) gX12_eats_X12_is rfl hdX12_is (by decide) (Nat.le_of_ble_eq_true rfl) dX12_eats_2 rfl (fun r102 M103 h104 => ?_)
  obtain ⟨a106, rfl, rfl, h105⟩ := h104
  refine y_if_ne C 10 dX12_eats_5 (by decide) (by omega) (fun h107 => ?_) (fun h107 => ?_)
  · have u108k := ri_k (M := M0) (by omega) (by omega)
    refine j_aload_n C 0 0 dX12_eats_10 rfl rfl ?_
    refine j_callVv C (d := 5) (As := []) (st := []) 98 (s_lt rfl rfl) (s_kc (c := 11) rfl rfl) (by decide) rfl (s1_X12_next hM0 hpr (by omega) (by omega) (by omega)) gX12_eats_X12_next rfl hdX12_next (by decide) (Nat.le_of_ble_eq_true rfl) dX12_eats_11 rfl (fun M110 h111 => ?_)
    obtain ⟨hM110, fM110, h112⟩ := h111
    refine y_iconst C dX12_eats_14 ?_
    exact hret _ _ _ _ dX12_eats_15 ⟨1, rfl, hM110, (FR.rf.tr fM110 (by decide)), by omega⟩
  · refine y_iconst C dX12_eats_8 ?_
    exact hret _ _ _ _ dX12_eats_9 ⟨0, rfl, hM0, FR.rf, by omega⟩
set_option maxHeartbeats 4000000 in
theorem s1_X12_fails {l : Launch} {dC : Nat → ClassId} {dI : Nat → Nat → Nat} {ad : Nat → Nat} {cA : Nat → ClassId} {pr : Nat → Nat → Bool} {Kz : mm_M} {M0 : mm_M} (hM0 : INV pr Kz M0) (hpr : PM pr) (a1 : Int) (ha1 : -2147483648 ≤ a1 ∧ a1 ≤ 2147483647) (hp0 : b01 (RIP M0) = 1) (hp1 : 2 ≤ a1 ∧ a1 ≤ 4) (hp2 : b01 (PI M0) = 1) : Cv l 0 yX12_fails wsX12_fails dC dI ad cA [.ref (ad 98), .int (sI a1)] M0 (fun M' => INV pr Kz M' ∧ FR [98] M0 M' ∧ (¬ (M'.1 98 11).toInt = 0) ∧ ((M'.1 98 6).toInt = (M0.1 98 6).toInt ∧ (M'.1 98 8).toInt = (M0.1 98 8).toInt) ∧ (b01 (RIP M') = 1) ∧ (b01 (PI M') = 1)) := by
  refine cv_of (cc := cX12_fails) (maxL := 2) (lv := [(0, .ref (ad 98)), (1, .int (sI a1))]) (by decide) rfl (Nat.le_of_ble_eq_true rfl) rfl ?_
  intro p e s m args below meth c A Q C hret
  have u101l := ri_l (M := M0) (by omega)
  have u101k := fun h => ri_k (M := M0) (by omega) h
  refine j_aload_n C 0 0 dX12_fails_0 rfl rfl ?_
  refine y_getI C 11 _ _ fX12_fails_126 rfl rfl ft_11_11 sb_11_11 hM0 dX12_fails_1 (fun a102 ea102 la102 ua102 => ?_)
  obtain rfl : a102 = (M0.1 98 11).toInt := ea102
  refine y_if_eq C 8 dX12_fails_4 (by decide) (by omega) (fun h104 => ?_) (fun h104 => ?_)
  · refine j_aload_n C 0 0 dX12_fails_8 rfl rfl ?_
    refine j_aload_n C 0 0 dX12_fails_9 rfl rfl ?_
    refine y_getI C 11 _ _ fX12_fails_108 rfl rfl ft_11_9 sb_11_9 hM0 dX12_fails_10 (fun a105 ea105 la105 ua105 => ?_)
    obtain rfl : a105 = (M0.1 98 9).toInt := ea105
    refine y_bipush C dX12_fails_13 rfl ?_
    refine y_icmp_ne C 22 dX12_fails_15 (by decide) (by omega) (fun h107 => ?_) (fun h107 => ?_)
    · refine j_iload_n C 1 1 dX12_fails_22 rfl rfl ?_
      refine y_putIF C 11 qX12_fails_126 rfl rfl ft_11_11 sb_11_11 hM0 (PM.w hpr rfl rfl) dX12_fails_23 (fun M108 eM108 hM108 => ?_)
      have pM108 := pi_o eM108 (by decide) (by decide) (by omega)
      refine j_aload_n C 0 0 dX12_fails_26 rfl rfl ?_
      refine j_aload_n C 0 0 dX12_fails_27 rfl rfl ?_
      refine y_getI C 11 _ _ fX12_fails_98 rfl rfl ft_11_6 sb_11_6 hM108 dX12_fails_28 (fun a109 ea109 la109 ua109 => ?_)
      obtain rfl : a109 = (M0.1 98 6).toInt := s_fb eM108 (by decide) (ea109)
      refine y_putIF C 11 qX12_fails_129 rfl rfl ft_11_12 sb_11_12 hM108 (PM.w hpr rfl rfl) dX12_fails_31 (fun M111 eM111 hM111 => ?_)
      have pM111 := pi_o eM111 (by decide) (by decide) (by omega)
      have zz98_6 : (M111.1 98 6).toInt = (M0.1 98 6).toInt := s_fb eM108 (by decide) (s_fb eM111 (by decide) (rfl))
      have zz98_7 : (M111.1 98 7).toInt = (M0.1 98 7).toInt := s_fb eM108 (by decide) (s_fb eM111 (by decide) (rfl))
      have zz98_8 : (M111.1 98 8).toInt = (M0.1 98 8).toInt := s_fb eM108 (by decide) (s_fb eM111 (by decide) (rfl))
      have zz98_9 : (M111.1 98 9).toInt = (M0.1 98 9).toInt := s_fb eM108 (by decide) (s_fb eM111 (by decide) (rfl))
      have u112 : b01 (RIP M111) = 1 := b01_i (by unfold RIP; omega)
      have zz98_11 := (Eq.trans (s_fb eM111 (by decide) (rfl) : (M111.1 98 11).toInt = (M108.1 98 11).toInt) (s_wr eM108 (by omega))); have zz98_6 : (M111.1 98 6).toInt = (M0.1 98 6).toInt := s_fb eM108 (by decide) (s_fb eM111 (by decide) (rfl)); have zz98_8 : (M111.1 98 8).toInt = (M0.1 98 8).toInt := s_fb eM108 (by decide) (s_fb eM111 (by decide) (rfl)); exact hret _ _ _ dX12_fails_34 ⟨hM111, ((FR.rf.wI eM108 (by decide)).wI eM111 (by decide)), by omega⟩
    · refine y_iconst C dX12_fails_18 ?_
      refine j_goto C 23 dX12_fails_19 (by decide) ?_
      refine y_putIF C 11 qX12_fails_126 rfl rfl ft_11_11 sb_11_11 hM0 (PM.w hpr rfl rfl) dX12_fails_23 (fun M113 eM113 hM113 => ?_)
      have pM113 := pi_o eM113 (by decide) (by decide) (by omega)
      refine j_aload_n C 0 0 dX12_fails_26 rfl rfl ?_
      refine j_aload_n C 0 0 dX12_fails_27 rfl rfl ?_
      refine y_getI C 11 _ _ fX12_fails_98 rfl rfl ft_11_6 sb_11_6 hM113 dX12_fails_28 (fun a114 ea114 la114 ua114 => ?_)
      obtain rfl : a114 = (M0.1 98 6).toInt := s_fb eM113 (by decide) (ea114)
      refine y_putIF C 11 qX12_fails_129 rfl rfl ft_11_12 sb_11_12 hM113 (PM.w hpr rfl rfl) dX12_fails_31 (fun M116 eM116 hM116 => ?_)
      have pM116 := pi_o eM116 (by decide) (by decide) (by omega)
      have zz98_6 : (M116.1 98 6).toInt = (M0.1 98 6).toInt := s_fb eM113 (by decide) (s_fb eM116 (by decide) (rfl))
      have zz98_7 : (M116.1 98 7).toInt = (M0.1 98 7).toInt := s_fb eM113 (by decide) (s_fb eM116 (by decide) (rfl))
      have zz98_8 : (M116.1 98 8).toInt = (M0.1 98 8).toInt := s_fb eM113 (by decide) (s_fb eM116 (by decide) (rfl))
      have zz98_9 : (M116.1 98 9).toInt = (M0.1 98 9).toInt := s_fb eM113 (by decide) (s_fb eM116 (by decide) (rfl))
      have u117 : b01 (RIP M116) = 1 := b01_i (by unfold RIP; omega)
      have zz98_11 := (Eq.trans (s_fb eM116 (by decide) (rfl) : (M116.1 98 11).toInt = (M113.1 98 11).toInt) (s_wr eM113 (by omega))); have zz98_6 : (M116.1 98 6).toInt = (M0.1 98 6).toInt := s_fb eM113 (by decide) (s_fb eM116 (by decide) (rfl)); have zz98_8 : (M116.1 98 8).toInt = (M0.1 98 8).toInt := s_fb eM113 (by decide) (s_fb eM116 (by decide) (rfl)); exact hret _ _ _ dX12_fails_34 ⟨hM116, ((FR.rf.wI eM113 (by decide)).wI eM116 (by decide)), by omega⟩
  · exact hret _ _ _ dX12_fails_7 ⟨hM0, FR.rf, by omega⟩
set_option maxHeartbeats 4000000 in
theorem s1_X12_ends {l : Launch} {dC : Nat → ClassId} {dI : Nat → Nat → Nat} {ad : Nat → Nat} {cA : Nat → ClassId} {pr : Nat → Nat → Bool} {Kz : mm_M} {M0 : mm_M} (hM0 : INV pr Kz M0) (hpr : PM pr)  (hp0 : b01 (RIP M0) = 1) (hp1 : b01 (LV M0) = 1) (hp2 : b01 (PI M0) = 1) : Cv l 7 yX12_ends wsX12_ends dC dI ad cA [.ref (ad 98)] M0 (fun M' => INV pr Kz M' ∧ FR [98, 102] M0 M' ∧ (b01 (RIP M') = 1) ∧ ((M'.1 98 8).toInt = (M0.1 98 8).toInt) ∧ ((M0.1 98 6).toInt ≤ (M'.1 98 6).toInt) ∧ (b01 (LV M') = 1) ∧ (¬ (M'.1 98 11).toInt = 0 ∨ (M0.1 98 11).toInt = 0 ∧ (M0.1 98 6).toInt + 1 ≤ (M'.1 98 6).toInt) ∧ (b01 (PI M') = 1)) := by
  refine cv_of (cc := cX12_ends) (maxL := 1) (lv := [(0, .ref (ad 98))]) (by decide) rfl (Nat.le_of_ble_eq_true rfl) rfl ?_
  intro p e s m args below meth c A Q C hret
  have u101l := ri_l (M := M0) (by omega)
  refine j_aload_n C 0 0 dX12_ends_0 rfl rfl ?_
  refine y_bipush C dX12_ends_1 rfl ?_
  refine j_callVi C (d := 6) (As := [.int (sI 30)]) (st := []) 98 (s_lt rfl rfl) (s_kc (c := 11) rfl rfl) (by decide) rfl (s1_X12_eats hM0 hpr 30 (by omega) (by omega) (by omega) (by omega)) gX12_ends_X12_eats rfl hdX12_eats (by decide) (Nat.le_of_ble_eq_true rfl) dX12_ends_3 rfl (fun r102 M103 h104 => ?_)
  obtain ⟨a106, rfl, hM103, fM103, h105⟩ := h104
  have u107v := lv_c (M := M0) (N := M103) (FR.cell fM103 (by decide)) (by omega) (by omega)
  have u107l := ri_l (M := M103) (by omega)
  have J116 : ∀ (M115 : mm_M), ((b01 (RIP M115) = 1) ∧ ((M115.1 98 8).toInt = (M0.1 98 8).toInt) ∧ ((M0.1 98 6).toInt ≤ (M115.1 98 6).toInt) ∧ (b01 (LV M115) = 1) ∧ (¬ (M115.1 98 11).toInt = 0 ∨ (M0.1 98 11).toInt = 0 ∧ (M0.1 98 6).toInt + 1 ≤ (M115.1 98 6).toInt) ∧ (b01 (PI M115) = 1)) → INV pr Kz M115 → FR [98, 102] M0 M115 → jj p l e (cn_R 7) s m args below meth c 0 0 Q 1 dC dI ad cA A M115 14 [(0, .ref (ad 98))] [] := by
    intro M115 h117 hM115 fM115
    refine j_aload_n C 0 0 dX12_ends_14 rfl rfl ?_
    refine y_getC C 11 102 fX12_ends_24 rfl rfl ft_11_4 sm_11_4 rfl hM115 dX12_ends_15 ?_
    refine y_iconst C dX12_ends_18 ?_
    refine j_dup2 C dX12_ends_19 rfl rfl ?_
    refine y_ialdF C 48 1181 rfl rfl rfl ak_48 an_48 rfl dX12_ends_20 (by omega) (fun a119 ea119 la119 ua119 => ?_)
    obtain rfl : a119 = (M115.1 102 0).toInt := ea119
    refine y_iconst C dX12_ends_21 ?_
    refine e_iadd C dX12_ends_22 (fun lb120 ub120 => ?_)
    refine y_iastH C 48 1181 rfl rfl rfl ak_48 an_48 rfl _ _ hM115 (PM.w hpr rfl rfl) (hs_48_0_0 _ (by omega) (by omega)) dX12_ends_23 (by omega) (by omega) (fun M121 eM121 hM121 => ?_)
    have pM121 := pi_o eM121 (by decide) (by decide) (by omega)
    have u122v := lv_w eM121 (h4b hM115) (by decide) (by omega)
    have u122i := ri_c (M := M115) (N := M121) (wI_cell eM121 (by decide)) (by omega)
    have u122q6 : (M121.1 98 6).toInt = (M115.1 98 6).toInt := by rw [show M121.1 98 = M115.1 98 from wI_cell eM121 (by decide)]
    have u122q8 : (M121.1 98 8).toInt = (M115.1 98 8).toInt := by rw [show M121.1 98 = M115.1 98 from wI_cell eM121 (by decide)]
    have u122q11 : (M121.1 98 11).toInt = (M115.1 98 11).toInt := by rw [show M121.1 98 = M115.1 98 from wI_cell eM121 (by decide)]
    have zz98_11 : (M121.1 98 11).toInt = (M115.1 98 11).toInt := s_fa eM121 (by decide) (rfl); have zz98_6 : (M121.1 98 6).toInt = (M115.1 98 6).toInt := s_fa eM121 (by decide) (rfl); have zz98_8 : (M121.1 98 8).toInt = (M115.1 98 8).toInt := s_fa eM121 (by decide) (rfl); exact hret _ _ _ dX12_ends_24 ⟨hM121, ((FR.rf.tr fM115 (by decide)).wI eM121 (by decide)), by omega⟩
  refine y_if_ne C 14 dX12_ends_6 (by decide) (by omega) (fun h108 => ?_) (fun h108 => ?_)
  · exact J116 M103 (by omega) hM103 (FR.rf.tr fM103 (by decide))
  · refine j_aload_n C 0 0 dX12_ends_9 rfl rfl ?_
    refine y_iconst C dX12_ends_10 ?_
    refine j_callVv C (d := 0) (As := [.int (sI 2)]) (st := []) 98 (s_lt rfl rfl) (s_kc (c := 11) rfl rfl) (by decide) rfl (s1_X12_fails hM103 hpr 2 (by omega) (by omega) (by omega) (by omega)) gX12_ends_X12_fails rfl hdX12_fails (by decide) (Nat.le_of_ble_eq_true rfl) dX12_ends_11 rfl (fun M111 h112 => ?_)
    obtain ⟨hM111, fM111, h113⟩ := h112
    have u114v := lv_c (M := M103) (N := M111) (FR.cell fM111 (by decide)) (by omega) (by omega)
    have u114l := ri_l (M := M111) (by omega)
    exact J116 M111 (by omega) hM111 ((FR.rf.tr fM103 (by decide)).tr fM111 (by decide))
set_option maxHeartbeats 4000000 in
theorem s1_X12_goesIn {l : Launch} {dC : Nat → ClassId} {dI : Nat → Nat → Nat} {ad : Nat → Nat} {cA : Nat → ClassId} {pr : Nat → Nat → Bool} {Kz : mm_M} {M0 : mm_M} (hM0 : INV pr Kz M0) (hpr : PM pr)  (hp0 : b01 (RIP M0) = 1) (hp1 : b01 (PI M0) = 1) : Ci l 6 yX12_goesIn wsX12_goesIn dC dI ad cA [.ref (ad 98), .int (sI 0)] M0 (fun r M' => ∃ a : Int, r = sI a ∧ INV pr Kz M' ∧ FR [98] M0 M' ∧ 0 ≤ a ∧ a ≤ 1 ∧ (b01 (RIP M') = 1) ∧ ((M'.1 98 8).toInt = (M0.1 98 8).toInt) ∧ ((M0.1 98 6).toInt ≤ (M'.1 98 6).toInt) ∧ (a = 0 ∧ ¬ (M'.1 98 11).toInt = 0 ∨ a = 1 ∧ (M'.1 98 11).toInt = 0 ∧ (M0.1 98 11).toInt = 0 ∧ (M0.1 98 7).toInt ≤ (M'.1 98 6).toInt) ∧ (b01 (PI M') = 1)) := by
  refine ci_of (cc := cX12_goesIn) (maxL := 2) (ty := .boolean) (lv := [(0, .ref (ad 98)), (1, .int (sI 0))]) (by decide) rfl (fun r M' hp => by obtain ⟨a, rfl, -, h⟩ := hp; rcases (show a = 0 ∨ a = 1 by omega) with rfl | rfl <;> rfl) (Nat.le_of_ble_eq_true rfl) rfl ?_
  intro p e s m args below meth c A Q C hret
  have u101l := ri_l (M := M0) (by omega)
  refine j_iload_n C 1 1 dX12_goesIn_0 rfl rfl ?_
  refine y_bipush C dX12_goesIn_1 rfl ?_
  refine y_icmp_ne C 11 dX12_goesIn_3 (by decide) (by omega) (fun h102 => ?_) (fun h102 => ?_)
  · have u103l := ri_l (M := M0) (by omega)
    refine j_aload_n C 0 0 dX12_goesIn_11 rfl rfl ?_
    refine y_getI C 11 _ _ fX12_goesIn_126 rfl rfl ft_11_11 sb_11_11 hM0 dX12_goesIn_12 (fun a104 ea104 la104 ua104 => ?_)
    obtain rfl : a104 = (M0.1 98 11).toInt := ea104
    refine y_if_ne C 22 dX12_goesIn_15 (by decide) (by omega) (fun h106 => ?_) (fun h106 => ?_)
    · refine j_aload_n C 0 0 dX12_goesIn_22 rfl rfl ?_
      refine y_getI C 11 _ _ fX12_goesIn_126 rfl rfl ft_11_11 sb_11_11 hM0 dX12_goesIn_23 (fun a107 ea107 la107 ua107 => ?_)
      obtain rfl : a107 = (M0.1 98 11).toInt := ea107
      refine y_if_ne C 33 dX12_goesIn_26 (by decide) (by omega) (fun h109 => ?_) (fun h109 => ?_)
      · refine y_iconst C dX12_goesIn_33 ?_
        exact hret _ _ _ _ dX12_goesIn_34 ⟨0, rfl, hM0, FR.rf, by omega⟩
      · exfalso; omega
    · refine j_aload_n C 0 0 dX12_goesIn_18 rfl rfl ?_
      refine j_callVv C (d := 5) (As := []) (st := []) 98 (s_lt rfl rfl) (s_kc (c := 11) rfl rfl) (by decide) rfl (s1_X12_next hM0 hpr (by omega) (by omega) (by omega)) gX12_goesIn_X12_next rfl hdX12_next (by decide) (Nat.le_of_ble_eq_true rfl) dX12_goesIn_19 rfl (fun M111 h112 => ?_)
      obtain ⟨hM111, fM111, h113⟩ := h112
      refine j_aload_n C 0 0 dX12_goesIn_22 rfl rfl ?_
      refine y_getI C 11 _ _ fX12_goesIn_126 rfl rfl ft_11_11 sb_11_11 hM111 dX12_goesIn_23 (fun a114 ea114 la114 ua114 => ?_)
      obtain rfl : a114 = (M111.1 98 11).toInt := ea114
      refine y_if_ne C 33 dX12_goesIn_26 (by decide) (by omega) (fun h116 => ?_) (fun h116 => ?_)
      · refine y_iconst C dX12_goesIn_33 ?_
        exact hret _ _ _ _ dX12_goesIn_34 ⟨0, rfl, hM111, (FR.rf.tr fM111 (by decide)), by omega⟩
      · refine y_iconst C dX12_goesIn_29 ?_
        refine j_goto C 34 dX12_goesIn_30 (by decide) ?_
        exact hret _ _ _ _ dX12_goesIn_34 ⟨1, rfl, hM111, (FR.rf.tr fM111 (by decide)), by omega⟩
  · refine j_aload_n C 0 0 dX12_goesIn_6 rfl rfl ?_
    refine y_iconst C dX12_goesIn_7 ?_
    refine j_callVv C (d := 0) (As := [.int (sI 4)]) (st := []) 98 (s_lt rfl rfl) (s_kc (c := 11) rfl rfl) (by decide) rfl (s1_X12_fails hM0 hpr 4 (by omega) (by omega) (by omega) (by omega)) gX12_goesIn_X12_fails rfl hdX12_fails (by decide) (Nat.le_of_ble_eq_true rfl) dX12_goesIn_8 rfl (fun M118 h119 => ?_)
    obtain ⟨hM118, fM118, h120⟩ := h119
    have u121l := ri_l (M := M118) (by omega)
    refine j_aload_n C 0 0 dX12_goesIn_11 rfl rfl ?_
    refine y_getI C 11 _ _ fX12_goesIn_126 rfl rfl ft_11_11 sb_11_11 hM118 dX12_goesIn_12 (fun a122 ea122 la122 ua122 => ?_)
    obtain rfl : a122 = (M118.1 98 11).toInt := ea122
    refine y_if_ne C 22 dX12_goesIn_15 (by decide) (by omega) (fun h124 => ?_) (fun h124 => ?_)
    · refine j_aload_n C 0 0 dX12_goesIn_22 rfl rfl ?_
      refine y_getI C 11 _ _ fX12_goesIn_126 rfl rfl ft_11_11 sb_11_11 hM118 dX12_goesIn_23 (fun a125 ea125 la125 ua125 => ?_)
      obtain rfl : a125 = (M118.1 98 11).toInt := ea125
      refine y_if_ne C 33 dX12_goesIn_26 (by decide) (by omega) (fun h127 => ?_) (fun h127 => ?_)
      · refine y_iconst C dX12_goesIn_33 ?_
        exact hret _ _ _ _ dX12_goesIn_34 ⟨0, rfl, hM118, (FR.rf.tr fM118 (by decide)), by omega⟩
      · exfalso; omega
    · refine j_aload_n C 0 0 dX12_goesIn_18 rfl rfl ?_
      refine j_callVv C (d := 5) (As := []) (st := []) 98 (s_lt rfl rfl) (s_kc (c := 11) rfl rfl) (by decide) rfl (s1_X12_next hM118 hpr (by omega) (by omega) (by omega)) gX12_goesIn_X12_next rfl hdX12_next (by decide) (Nat.le_of_ble_eq_true rfl) dX12_goesIn_19 rfl (fun M129 h130 => ?_)
      obtain ⟨hM129, fM129, h131⟩ := h130
      refine j_aload_n C 0 0 dX12_goesIn_22 rfl rfl ?_
      refine y_getI C 11 _ _ fX12_goesIn_126 rfl rfl ft_11_11 sb_11_11 hM129 dX12_goesIn_23 (fun a132 ea132 la132 ua132 => ?_)
      obtain rfl : a132 = (M129.1 98 11).toInt := ea132
      refine y_if_ne C 33 dX12_goesIn_26 (by decide) (by omega) (fun h134 => ?_) (fun h134 => ?_)
      · refine y_iconst C dX12_goesIn_33 ?_
        exact hret _ _ _ _ dX12_goesIn_34 ⟨0, rfl, hM129, ((FR.rf.tr fM118 (by decide)).tr fM129 (by decide)), by omega⟩
      · refine y_iconst C dX12_goesIn_29 ?_
        refine j_goto C 34 dX12_goesIn_30 (by decide) ?_
        exact hret _ _ _ _ dX12_goesIn_34 ⟨1, rfl, hM129, ((FR.rf.tr fM118 (by decide)).tr fM129 (by decide)), by omega⟩
set_option maxHeartbeats 4000000 in
theorem s2_X12_goesIn {l : Launch} {dC : Nat → ClassId} {dI : Nat → Nat → Nat} {ad : Nat → Nat} {cA : Nat → ClassId} {pr : Nat → Nat → Bool} {Kz : mm_M} {M0 : mm_M} (hM0 : INV pr Kz M0) (hpr : PM pr)  (hp0 : b01 (RIP M0) = 1) (hp1 : b01 (PI M0) = 1) : Ci l 6 yX12_goesIn wsX12_goesIn dC dI ad cA [.ref (ad 98), .int (sI 1)] M0 (fun r M' => ∃ a : Int, r = sI a ∧ INV pr Kz M' ∧ FR [98] M0 M' ∧ 0 ≤ a ∧ a ≤ 1 ∧ (b01 (RIP M') = 1) ∧ ((M'.1 98 8).toInt = (M0.1 98 8).toInt) ∧ ((M0.1 98 6).toInt ≤ (M'.1 98 6).toInt) ∧ (a = 0 ∧ ¬ (M'.1 98 11).toInt = 0 ∨ a = 1 ∧ (M'.1 98 11).toInt = 0 ∧ (M0.1 98 11).toInt = 0 ∧ (M0.1 98 7).toInt ≤ (M'.1 98 6).toInt) ∧ (b01 (PI M') = 1)) := by
  refine ci_of (cc := cX12_goesIn) (maxL := 2) (ty := .boolean) (lv := [(0, .ref (ad 98)), (1, .int (sI 1))]) (by decide) rfl (fun r M' hp => by obtain ⟨a, rfl, -, h⟩ := hp; rcases (show a = 0 ∨ a = 1 by omega) with rfl | rfl <;> rfl) (Nat.le_of_ble_eq_true rfl) rfl ?_
  intro p e s m args below meth c A Q C hret
  have u101l := ri_l (M := M0) (by omega)
  refine j_iload_n C 1 1 dX12_goesIn_0 rfl rfl ?_
  refine y_bipush C dX12_goesIn_1 rfl ?_
  refine y_icmp_ne C 11 dX12_goesIn_3 (by decide) (by omega) (fun h102 => ?_) (fun h102 => ?_)
  · have u103l := ri_l (M := M0) (by omega)
    refine j_aload_n C 0 0 dX12_goesIn_11 rfl rfl ?_
    refine y_getI C 11 _ _ fX12_goesIn_126 rfl rfl ft_11_11 sb_11_11 hM0 dX12_goesIn_12 (fun a104 ea104 la104 ua104 => ?_)
    obtain rfl : a104 = (M0.1 98 11).toInt := ea104
    refine y_if_ne C 22 dX12_goesIn_15 (by decide) (by omega) (fun h106 => ?_) (fun h106 => ?_)
    · refine j_aload_n C 0 0 dX12_goesIn_22 rfl rfl ?_
      refine y_getI C 11 _ _ fX12_goesIn_126 rfl rfl ft_11_11 sb_11_11 hM0 dX12_goesIn_23 (fun a107 ea107 la107 ua107 => ?_)
      obtain rfl : a107 = (M0.1 98 11).toInt := ea107
      refine y_if_ne C 33 dX12_goesIn_26 (by decide) (by omega) (fun h109 => ?_) (fun h109 => ?_)
      · refine y_iconst C dX12_goesIn_33 ?_
        exact hret _ _ _ _ dX12_goesIn_34 ⟨0, rfl, hM0, FR.rf, by omega⟩
      · exfalso; omega
    · refine j_aload_n C 0 0 dX12_goesIn_18 rfl rfl ?_
      refine j_callVv C (d := 5) (As := []) (st := []) 98 (s_lt rfl rfl) (s_kc (c := 11) rfl rfl) (by decide) rfl (s1_X12_next hM0 hpr (by omega) (by omega) (by omega)) gX12_goesIn_X12_next rfl hdX12_next (by decide) (Nat.le_of_ble_eq_true rfl) dX12_goesIn_19 rfl (fun M111 h112 => ?_)
      obtain ⟨hM111, fM111, h113⟩ := h112
      refine j_aload_n C 0 0 dX12_goesIn_22 rfl rfl ?_
      refine y_getI C 11 _ _ fX12_goesIn_126 rfl rfl ft_11_11 sb_11_11 hM111 dX12_goesIn_23 (fun a114 ea114 la114 ua114 => ?_)
      obtain rfl : a114 = (M111.1 98 11).toInt := ea114
      refine y_if_ne C 33 dX12_goesIn_26 (by decide) (by omega) (fun h116 => ?_) (fun h116 => ?_)
      · refine y_iconst C dX12_goesIn_33 ?_
        exact hret _ _ _ _ dX12_goesIn_34 ⟨0, rfl, hM111, (FR.rf.tr fM111 (by decide)), by omega⟩
      · refine y_iconst C dX12_goesIn_29 ?_
        refine j_goto C 34 dX12_goesIn_30 (by decide) ?_
        exact hret _ _ _ _ dX12_goesIn_34 ⟨1, rfl, hM111, (FR.rf.tr fM111 (by decide)), by omega⟩
  · refine j_aload_n C 0 0 dX12_goesIn_6 rfl rfl ?_
    refine y_iconst C dX12_goesIn_7 ?_
    refine j_callVv C (d := 0) (As := [.int (sI 4)]) (st := []) 98 (s_lt rfl rfl) (s_kc (c := 11) rfl rfl) (by decide) rfl (s1_X12_fails hM0 hpr 4 (by omega) (by omega) (by omega) (by omega)) gX12_goesIn_X12_fails rfl hdX12_fails (by decide) (Nat.le_of_ble_eq_true rfl) dX12_goesIn_8 rfl (fun M118 h119 => ?_)
    obtain ⟨hM118, fM118, h120⟩ := h119
    have u121l := ri_l (M := M118) (by omega)
    refine j_aload_n C 0 0 dX12_goesIn_11 rfl rfl ?_
    refine y_getI C 11 _ _ fX12_goesIn_126 rfl rfl ft_11_11 sb_11_11 hM118 dX12_goesIn_12 (fun a122 ea122 la122 ua122 => ?_)
    obtain rfl : a122 = (M118.1 98 11).toInt := ea122
    refine y_if_ne C 22 dX12_goesIn_15 (by decide) (by omega) (fun h124 => ?_) (fun h124 => ?_)
    · refine j_aload_n C 0 0 dX12_goesIn_22 rfl rfl ?_
      refine y_getI C 11 _ _ fX12_goesIn_126 rfl rfl ft_11_11 sb_11_11 hM118 dX12_goesIn_23 (fun a125 ea125 la125 ua125 => ?_)
      obtain rfl : a125 = (M118.1 98 11).toInt := ea125
      refine y_if_ne C 33 dX12_goesIn_26 (by decide) (by omega) (fun h127 => ?_) (fun h127 => ?_)
      · refine y_iconst C dX12_goesIn_33 ?_
        exact hret _ _ _ _ dX12_goesIn_34 ⟨0, rfl, hM118, (FR.rf.tr fM118 (by decide)), by omega⟩
      · exfalso; omega
    · refine j_aload_n C 0 0 dX12_goesIn_18 rfl rfl ?_
      refine j_callVv C (d := 5) (As := []) (st := []) 98 (s_lt rfl rfl) (s_kc (c := 11) rfl rfl) (by decide) rfl (s1_X12_next hM118 hpr (by omega) (by omega) (by omega)) gX12_goesIn_X12_next rfl hdX12_next (by decide) (Nat.le_of_ble_eq_true rfl) dX12_goesIn_19 rfl (fun M129 h130 => ?_)
      obtain ⟨hM129, fM129, h131⟩ := h130
      refine j_aload_n C 0 0 dX12_goesIn_22 rfl rfl ?_
      refine y_getI C 11 _ _ fX12_goesIn_126 rfl rfl ft_11_11 sb_11_11 hM129 dX12_goesIn_23 (fun a132 ea132 la132 ua132 => ?_)
      obtain rfl : a132 = (M129.1 98 11).toInt := ea132
      refine y_if_ne C 33 dX12_goesIn_26 (by decide) (by omega) (fun h134 => ?_) (fun h134 => ?_)
      · refine y_iconst C dX12_goesIn_33 ?_
        exact hret _ _ _ _ dX12_goesIn_34 ⟨0, rfl, hM129, ((FR.rf.tr fM118 (by decide)).tr fM129 (by decide)), by omega⟩
      · refine y_iconst C dX12_goesIn_29 ?_
        refine j_goto C 34 dX12_goesIn_30 (by decide) ?_
        exact hret _ _ _ _ dX12_goesIn_34 ⟨1, rfl, hM129, ((FR.rf.tr fM118 (by decide)).tr fM129 (by decide)), by omega⟩
set_option maxHeartbeats 4000000 in
theorem s3_X12_goesIn {l : Launch} {dC : Nat → ClassId} {dI : Nat → Nat → Nat} {ad : Nat → Nat} {cA : Nat → ClassId} {pr : Nat → Nat → Bool} {Kz : mm_M} {M0 : mm_M} (hM0 : INV pr Kz M0) (hpr : PM pr)  (hp0 : b01 (RIP M0) = 1) (hp1 : b01 (PI M0) = 1) : Ci l 6 yX12_goesIn wsX12_goesIn dC dI ad cA [.ref (ad 98), .int (sI 2)] M0 (fun r M' => ∃ a : Int, r = sI a ∧ INV pr Kz M' ∧ FR [98] M0 M' ∧ 0 ≤ a ∧ a ≤ 1 ∧ (b01 (RIP M') = 1) ∧ ((M'.1 98 8).toInt = (M0.1 98 8).toInt) ∧ ((M0.1 98 6).toInt ≤ (M'.1 98 6).toInt) ∧ (a = 0 ∧ ¬ (M'.1 98 11).toInt = 0 ∨ a = 1 ∧ (M'.1 98 11).toInt = 0 ∧ (M0.1 98 11).toInt = 0 ∧ (M0.1 98 7).toInt ≤ (M'.1 98 6).toInt) ∧ (b01 (PI M') = 1)) := by
  refine ci_of (cc := cX12_goesIn) (maxL := 2) (ty := .boolean) (lv := [(0, .ref (ad 98)), (1, .int (sI 2))]) (by decide) rfl (fun r M' hp => by obtain ⟨a, rfl, -, h⟩ := hp; rcases (show a = 0 ∨ a = 1 by omega) with rfl | rfl <;> rfl) (Nat.le_of_ble_eq_true rfl) rfl ?_
  intro p e s m args below meth c A Q C hret
  have u101l := ri_l (M := M0) (by omega)
  refine j_iload_n C 1 1 dX12_goesIn_0 rfl rfl ?_
  refine y_bipush C dX12_goesIn_1 rfl ?_
  refine y_icmp_ne C 11 dX12_goesIn_3 (by decide) (by omega) (fun h102 => ?_) (fun h102 => ?_)
  · have u103l := ri_l (M := M0) (by omega)
    refine j_aload_n C 0 0 dX12_goesIn_11 rfl rfl ?_
    refine y_getI C 11 _ _ fX12_goesIn_126 rfl rfl ft_11_11 sb_11_11 hM0 dX12_goesIn_12 (fun a104 ea104 la104 ua104 => ?_)
    obtain rfl : a104 = (M0.1 98 11).toInt := ea104
    refine y_if_ne C 22 dX12_goesIn_15 (by decide) (by omega) (fun h106 => ?_) (fun h106 => ?_)
    · refine j_aload_n C 0 0 dX12_goesIn_22 rfl rfl ?_
      refine y_getI C 11 _ _ fX12_goesIn_126 rfl rfl ft_11_11 sb_11_11 hM0 dX12_goesIn_23 (fun a107 ea107 la107 ua107 => ?_)
      obtain rfl : a107 = (M0.1 98 11).toInt := ea107
      refine y_if_ne C 33 dX12_goesIn_26 (by decide) (by omega) (fun h109 => ?_) (fun h109 => ?_)
      · refine y_iconst C dX12_goesIn_33 ?_
        exact hret _ _ _ _ dX12_goesIn_34 ⟨0, rfl, hM0, FR.rf, by omega⟩
      · exfalso; omega
    · refine j_aload_n C 0 0 dX12_goesIn_18 rfl rfl ?_
      refine j_callVv C (d := 5) (As := []) (st := []) 98 (s_lt rfl rfl) (s_kc (c := 11) rfl rfl) (by decide) rfl (s1_X12_next hM0 hpr (by omega) (by omega) (by omega)) gX12_goesIn_X12_next rfl hdX12_next (by decide) (Nat.le_of_ble_eq_true rfl) dX12_goesIn_19 rfl (fun M111 h112 => ?_)
      obtain ⟨hM111, fM111, h113⟩ := h112
      refine j_aload_n C 0 0 dX12_goesIn_22 rfl rfl ?_
      refine y_getI C 11 _ _ fX12_goesIn_126 rfl rfl ft_11_11 sb_11_11 hM111 dX12_goesIn_23 (fun a114 ea114 la114 ua114 => ?_)
      obtain rfl : a114 = (M111.1 98 11).toInt := ea114
      refine y_if_ne C 33 dX12_goesIn_26 (by decide) (by omega) (fun h116 => ?_) (fun h116 => ?_)
      · refine y_iconst C dX12_goesIn_33 ?_
        exact hret _ _ _ _ dX12_goesIn_34 ⟨0, rfl, hM111, (FR.rf.tr fM111 (by decide)), by omega⟩
      · refine y_iconst C dX12_goesIn_29 ?_
        refine j_goto C 34 dX12_goesIn_30 (by decide) ?_
        exact hret _ _ _ _ dX12_goesIn_34 ⟨1, rfl, hM111, (FR.rf.tr fM111 (by decide)), by omega⟩
  · refine j_aload_n C 0 0 dX12_goesIn_6 rfl rfl ?_
    refine y_iconst C dX12_goesIn_7 ?_
    refine j_callVv C (d := 0) (As := [.int (sI 4)]) (st := []) 98 (s_lt rfl rfl) (s_kc (c := 11) rfl rfl) (by decide) rfl (s1_X12_fails hM0 hpr 4 (by omega) (by omega) (by omega) (by omega)) gX12_goesIn_X12_fails rfl hdX12_fails (by decide) (Nat.le_of_ble_eq_true rfl) dX12_goesIn_8 rfl (fun M118 h119 => ?_)
    obtain ⟨hM118, fM118, h120⟩ := h119
    have u121l := ri_l (M := M118) (by omega)
    refine j_aload_n C 0 0 dX12_goesIn_11 rfl rfl ?_
    refine y_getI C 11 _ _ fX12_goesIn_126 rfl rfl ft_11_11 sb_11_11 hM118 dX12_goesIn_12 (fun a122 ea122 la122 ua122 => ?_)
    obtain rfl : a122 = (M118.1 98 11).toInt := ea122
    refine y_if_ne C 22 dX12_goesIn_15 (by decide) (by omega) (fun h124 => ?_) (fun h124 => ?_)
    · refine j_aload_n C 0 0 dX12_goesIn_22 rfl rfl ?_
      refine y_getI C 11 _ _ fX12_goesIn_126 rfl rfl ft_11_11 sb_11_11 hM118 dX12_goesIn_23 (fun a125 ea125 la125 ua125 => ?_)
      obtain rfl : a125 = (M118.1 98 11).toInt := ea125
      refine y_if_ne C 33 dX12_goesIn_26 (by decide) (by omega) (fun h127 => ?_) (fun h127 => ?_)
      · refine y_iconst C dX12_goesIn_33 ?_
        exact hret _ _ _ _ dX12_goesIn_34 ⟨0, rfl, hM118, (FR.rf.tr fM118 (by decide)), by omega⟩
      · exfalso; omega
    · refine j_aload_n C 0 0 dX12_goesIn_18 rfl rfl ?_
      refine j_callVv C (d := 5) (As := []) (st := []) 98 (s_lt rfl rfl) (s_kc (c := 11) rfl rfl) (by decide) rfl (s1_X12_next hM118 hpr (by omega) (by omega) (by omega)) gX12_goesIn_X12_next rfl hdX12_next (by decide) (Nat.le_of_ble_eq_true rfl) dX12_goesIn_19 rfl (fun M129 h130 => ?_)
      obtain ⟨hM129, fM129, h131⟩ := h130
      refine j_aload_n C 0 0 dX12_goesIn_22 rfl rfl ?_
      refine y_getI C 11 _ _ fX12_goesIn_126 rfl rfl ft_11_11 sb_11_11 hM129 dX12_goesIn_23 (fun a132 ea132 la132 ua132 => ?_)
      obtain rfl : a132 = (M129.1 98 11).toInt := ea132
      refine y_if_ne C 33 dX12_goesIn_26 (by decide) (by omega) (fun h134 => ?_) (fun h134 => ?_)
      · refine y_iconst C dX12_goesIn_33 ?_
        exact hret _ _ _ _ dX12_goesIn_34 ⟨0, rfl, hM129, ((FR.rf.tr fM118 (by decide)).tr fM129 (by decide)), by omega⟩
      · refine y_iconst C dX12_goesIn_29 ?_
        refine j_goto C 34 dX12_goesIn_30 (by decide) ?_
        exact hret _ _ _ _ dX12_goesIn_34 ⟨1, rfl, hM129, ((FR.rf.tr fM118 (by decide)).tr fM129 (by decide)), by omega⟩
set_option maxHeartbeats 4000000 in
theorem s4_X12_goesIn {l : Launch} {dC : Nat → ClassId} {dI : Nat → Nat → Nat} {ad : Nat → Nat} {cA : Nat → ClassId} {pr : Nat → Nat → Bool} {Kz : mm_M} {M0 : mm_M} (hM0 : INV pr Kz M0) (hpr : PM pr)  (hp0 : b01 (RIP M0) = 1) (hp1 : b01 (PI M0) = 1) : Ci l 6 yX12_goesIn wsX12_goesIn dC dI ad cA [.ref (ad 98), .int (sI 3)] M0 (fun r M' => ∃ a : Int, r = sI a ∧ INV pr Kz M' ∧ FR [98] M0 M' ∧ 0 ≤ a ∧ a ≤ 1 ∧ (b01 (RIP M') = 1) ∧ ((M'.1 98 8).toInt = (M0.1 98 8).toInt) ∧ ((M0.1 98 6).toInt ≤ (M'.1 98 6).toInt) ∧ (a = 0 ∧ ¬ (M'.1 98 11).toInt = 0 ∨ a = 1 ∧ (M'.1 98 11).toInt = 0 ∧ (M0.1 98 11).toInt = 0 ∧ (M0.1 98 7).toInt ≤ (M'.1 98 6).toInt) ∧ (b01 (PI M') = 1)) := by
  refine ci_of (cc := cX12_goesIn) (maxL := 2) (ty := .boolean) (lv := [(0, .ref (ad 98)), (1, .int (sI 3))]) (by decide) rfl (fun r M' hp => by obtain ⟨a, rfl, -, h⟩ := hp; rcases (show a = 0 ∨ a = 1 by omega) with rfl | rfl <;> rfl) (Nat.le_of_ble_eq_true rfl) rfl ?_
  intro p e s m args below meth c A Q C hret
  have u101l := ri_l (M := M0) (by omega)
  refine j_iload_n C 1 1 dX12_goesIn_0 rfl rfl ?_
  refine y_bipush C dX12_goesIn_1 rfl ?_
  refine y_icmp_ne C 11 dX12_goesIn_3 (by decide) (by omega) (fun h102 => ?_) (fun h102 => ?_)
  · have u103l := ri_l (M := M0) (by omega)
    refine j_aload_n C 0 0 dX12_goesIn_11 rfl rfl ?_
    refine y_getI C 11 _ _ fX12_goesIn_126 rfl rfl ft_11_11 sb_11_11 hM0 dX12_goesIn_12 (fun a104 ea104 la104 ua104 => ?_)
    obtain rfl : a104 = (M0.1 98 11).toInt := ea104
    refine y_if_ne C 22 dX12_goesIn_15 (by decide) (by omega) (fun h106 => ?_) (fun h106 => ?_)
    · refine j_aload_n C 0 0 dX12_goesIn_22 rfl rfl ?_
      refine y_getI C 11 _ _ fX12_goesIn_126 rfl rfl ft_11_11 sb_11_11 hM0 dX12_goesIn_23 (fun a107 ea107 la107 ua107 => ?_)
      obtain rfl : a107 = (M0.1 98 11).toInt := ea107
      refine y_if_ne C 33 dX12_goesIn_26 (by decide) (by omega) (fun h109 => ?_) (fun h109 => ?_)
      · refine y_iconst C dX12_goesIn_33 ?_
        exact hret _ _ _ _ dX12_goesIn_34 ⟨0, rfl, hM0, FR.rf, by omega⟩
      · exfalso; omega
    · refine j_aload_n C 0 0 dX12_goesIn_18 rfl rfl ?_
      refine j_callVv C (d := 5) (As := []) (st := []) 98 (s_lt rfl rfl) (s_kc (c := 11) rfl rfl) (by decide) rfl (s1_X12_next hM0 hpr (by omega) (by omega) (by omega)) gX12_goesIn_X12_next rfl hdX12_next (by decide) (Nat.le_of_ble_eq_true rfl) dX12_goesIn_19 rfl (fun M111 h112 => ?_)
      obtain ⟨hM111, fM111, h113⟩ := h112
      refine j_aload_n C 0 0 dX12_goesIn_22 rfl rfl ?_
      refine y_getI C 11 _ _ fX12_goesIn_126 rfl rfl ft_11_11 sb_11_11 hM111 dX12_goesIn_23 (fun a114 ea114 la114 ua114 => ?_)
      obtain rfl : a114 = (M111.1 98 11).toInt := ea114
      refine y_if_ne C 33 dX12_goesIn_26 (by decide) (by omega) (fun h116 => ?_) (fun h116 => ?_)
      · refine y_iconst C dX12_goesIn_33 ?_
        exact hret _ _ _ _ dX12_goesIn_34 ⟨0, rfl, hM111, (FR.rf.tr fM111 (by decide)), by omega⟩
      · refine y_iconst C dX12_goesIn_29 ?_
        refine j_goto C 34 dX12_goesIn_30 (by decide) ?_
        exact hret _ _ _ _ dX12_goesIn_34 ⟨1, rfl, hM111, (FR.rf.tr fM111 (by decide)), by omega⟩
  · refine j_aload_n C 0 0 dX12_goesIn_6 rfl rfl ?_
    refine y_iconst C dX12_goesIn_7 ?_
    refine j_callVv C (d := 0) (As := [.int (sI 4)]) (st := []) 98 (s_lt rfl rfl) (s_kc (c := 11) rfl rfl) (by decide) rfl (s1_X12_fails hM0 hpr 4 (by omega) (by omega) (by omega) (by omega)) gX12_goesIn_X12_fails rfl hdX12_fails (by decide) (Nat.le_of_ble_eq_true rfl) dX12_goesIn_8 rfl (fun M118 h119 => ?_)
    obtain ⟨hM118, fM118, h120⟩ := h119
    have u121l := ri_l (M := M118) (by omega)
    refine j_aload_n C 0 0 dX12_goesIn_11 rfl rfl ?_
    refine y_getI C 11 _ _ fX12_goesIn_126 rfl rfl ft_11_11 sb_11_11 hM118 dX12_goesIn_12 (fun a122 ea122 la122 ua122 => ?_)
    obtain rfl : a122 = (M118.1 98 11).toInt := ea122
    refine y_if_ne C 22 dX12_goesIn_15 (by decide) (by omega) (fun h124 => ?_) (fun h124 => ?_)
    · refine j_aload_n C 0 0 dX12_goesIn_22 rfl rfl ?_
      refine y_getI C 11 _ _ fX12_goesIn_126 rfl rfl ft_11_11 sb_11_11 hM118 dX12_goesIn_23 (fun a125 ea125 la125 ua125 => ?_)
      obtain rfl : a125 = (M118.1 98 11).toInt := ea125
      refine y_if_ne C 33 dX12_goesIn_26 (by decide) (by omega) (fun h127 => ?_) (fun h127 => ?_)
      · refine y_iconst C dX12_goesIn_33 ?_
        exact hret _ _ _ _ dX12_goesIn_34 ⟨0, rfl, hM118, (FR.rf.tr fM118 (by decide)), by omega⟩
      · exfalso; omega
    · refine j_aload_n C 0 0 dX12_goesIn_18 rfl rfl ?_
      refine j_callVv C (d := 5) (As := []) (st := []) 98 (s_lt rfl rfl) (s_kc (c := 11) rfl rfl) (by decide) rfl (s1_X12_next hM118 hpr (by omega) (by omega) (by omega)) gX12_goesIn_X12_next rfl hdX12_next (by decide) (Nat.le_of_ble_eq_true rfl) dX12_goesIn_19 rfl (fun M129 h130 => ?_)
      obtain ⟨hM129, fM129, h131⟩ := h130
      refine j_aload_n C 0 0 dX12_goesIn_22 rfl rfl ?_
      refine y_getI C 11 _ _ fX12_goesIn_126 rfl rfl ft_11_11 sb_11_11 hM129 dX12_goesIn_23 (fun a132 ea132 la132 ua132 => ?_)
      obtain rfl : a132 = (M129.1 98 11).toInt := ea132
      refine y_if_ne C 33 dX12_goesIn_26 (by decide) (by omega) (fun h134 => ?_) (fun h134 => ?_)
      · refine y_iconst C dX12_goesIn_33 ?_
        exact hret _ _ _ _ dX12_goesIn_34 ⟨0, rfl, hM129, ((FR.rf.tr fM118 (by decide)).tr fM129 (by decide)), by omega⟩
      · refine y_iconst C dX12_goesIn_29 ?_
        refine j_goto C 34 dX12_goesIn_30 (by decide) ?_
        exact hret _ _ _ _ dX12_goesIn_34 ⟨1, rfl, hM129, ((FR.rf.tr fM118 (by decide)).tr fM129 (by decide)), by omega⟩
set_option maxHeartbeats 4000000 in
theorem s5_X12_goesIn {l : Launch} {dC : Nat → ClassId} {dI : Nat → Nat → Nat} {ad : Nat → Nat} {cA : Nat → ClassId} {pr : Nat → Nat → Bool} {Kz : mm_M} {M0 : mm_M} (hM0 : INV pr Kz M0) (hpr : PM pr)  (hp0 : b01 (RIP M0) = 1) (hp1 : b01 (PI M0) = 1) : Ci l 6 yX12_goesIn wsX12_goesIn dC dI ad cA [.ref (ad 98), .int (sI 4)] M0 (fun r M' => ∃ a : Int, r = sI a ∧ INV pr Kz M' ∧ FR [98] M0 M' ∧ 0 ≤ a ∧ a ≤ 1 ∧ (b01 (RIP M') = 1) ∧ ((M'.1 98 8).toInt = (M0.1 98 8).toInt) ∧ ((M0.1 98 6).toInt ≤ (M'.1 98 6).toInt) ∧ (a = 0 ∧ ¬ (M'.1 98 11).toInt = 0 ∨ a = 1 ∧ (M'.1 98 11).toInt = 0 ∧ (M0.1 98 11).toInt = 0 ∧ (M0.1 98 7).toInt ≤ (M'.1 98 6).toInt) ∧ (b01 (PI M') = 1)) := by
  refine ci_of (cc := cX12_goesIn) (maxL := 2) (ty := .boolean) (lv := [(0, .ref (ad 98)), (1, .int (sI 4))]) (by decide) rfl (fun r M' hp => by obtain ⟨a, rfl, -, h⟩ := hp; rcases (show a = 0 ∨ a = 1 by omega) with rfl | rfl <;> rfl) (Nat.le_of_ble_eq_true rfl) rfl ?_
  intro p e s m args below meth c A Q C hret
  have u101l := ri_l (M := M0) (by omega)
  refine j_iload_n C 1 1 dX12_goesIn_0 rfl rfl ?_
  refine y_bipush C dX12_goesIn_1 rfl ?_
  refine y_icmp_ne C 11 dX12_goesIn_3 (by decide) (by omega) (fun h102 => ?_) (fun h102 => ?_)
  · have u103l := ri_l (M := M0) (by omega)
    refine j_aload_n C 0 0 dX12_goesIn_11 rfl rfl ?_
    refine y_getI C 11 _ _ fX12_goesIn_126 rfl rfl ft_11_11 sb_11_11 hM0 dX12_goesIn_12 (fun a104 ea104 la104 ua104 => ?_)
    obtain rfl : a104 = (M0.1 98 11).toInt := ea104
    refine y_if_ne C 22 dX12_goesIn_15 (by decide) (by omega) (fun h106 => ?_) (fun h106 => ?_)
    · refine j_aload_n C 0 0 dX12_goesIn_22 rfl rfl ?_
      refine y_getI C 11 _ _ fX12_goesIn_126 rfl rfl ft_11_11 sb_11_11 hM0 dX12_goesIn_23 (fun a107 ea107 la107 ua107 => ?_)
      obtain rfl : a107 = (M0.1 98 11).toInt := ea107
      refine y_if_ne C 33 dX12_goesIn_26 (by decide) (by omega) (fun h109 => ?_) (fun h109 => ?_)
      · refine y_iconst C dX12_goesIn_33 ?_
        exact hret _ _ _ _ dX12_goesIn_34 ⟨0, rfl, hM0, FR.rf, by omega⟩
      · exfalso; omega
    · refine j_aload_n C 0 0 dX12_goesIn_18 rfl rfl ?_
      refine j_callVv C (d := 5) (As := []) (st := []) 98 (s_lt rfl rfl) (s_kc (c := 11) rfl rfl) (by decide) rfl (s1_X12_next hM0 hpr (by omega) (by omega) (by omega)) gX12_goesIn_X12_next rfl hdX12_next (by decide) (Nat.le_of_ble_eq_true rfl) dX12_goesIn_19 rfl (fun M111 h112 => ?_)
      obtain ⟨hM111, fM111, h113⟩ := h112
      refine j_aload_n C 0 0 dX12_goesIn_22 rfl rfl ?_
      refine y_getI C 11 _ _ fX12_goesIn_126 rfl rfl ft_11_11 sb_11_11 hM111 dX12_goesIn_23 (fun a114 ea114 la114 ua114 => ?_)
      obtain rfl : a114 = (M111.1 98 11).toInt := ea114
      refine y_if_ne C 33 dX12_goesIn_26 (by decide) (by omega) (fun h116 => ?_) (fun h116 => ?_)
      · refine y_iconst C dX12_goesIn_33 ?_
        exact hret _ _ _ _ dX12_goesIn_34 ⟨0, rfl, hM111, (FR.rf.tr fM111 (by decide)), by omega⟩
      · refine y_iconst C dX12_goesIn_29 ?_
        refine j_goto C 34 dX12_goesIn_30 (by decide) ?_
        exact hret _ _ _ _ dX12_goesIn_34 ⟨1, rfl, hM111, (FR.rf.tr fM111 (by decide)), by omega⟩
  · refine j_aload_n C 0 0 dX12_goesIn_6 rfl rfl ?_
    refine y_iconst C dX12_goesIn_7 ?_
    refine j_callVv C (d := 0) (As := [.int (sI 4)]) (st := []) 98 (s_lt rfl rfl) (s_kc (c := 11) rfl rfl) (by decide) rfl (s1_X12_fails hM0 hpr 4 (by omega) (by omega) (by omega) (by omega)) gX12_goesIn_X12_fails rfl hdX12_fails (by decide) (Nat.le_of_ble_eq_true rfl) dX12_goesIn_8 rfl (fun M118 h119 => ?_)
    obtain ⟨hM118, fM118, h120⟩ := h119
    have u121l := ri_l (M := M118) (by omega)
    refine j_aload_n C 0 0 dX12_goesIn_11 rfl rfl ?_
    refine y_getI C 11 _ _ fX12_goesIn_126 rfl rfl ft_11_11 sb_11_11 hM118 dX12_goesIn_12 (fun a122 ea122 la122 ua122 => ?_)
    obtain rfl : a122 = (M118.1 98 11).toInt := ea122
    refine y_if_ne C 22 dX12_goesIn_15 (by decide) (by omega) (fun h124 => ?_) (fun h124 => ?_)
    · refine j_aload_n C 0 0 dX12_goesIn_22 rfl rfl ?_
      refine y_getI C 11 _ _ fX12_goesIn_126 rfl rfl ft_11_11 sb_11_11 hM118 dX12_goesIn_23 (fun a125 ea125 la125 ua125 => ?_)
      obtain rfl : a125 = (M118.1 98 11).toInt := ea125
      refine y_if_ne C 33 dX12_goesIn_26 (by decide) (by omega) (fun h127 => ?_) (fun h127 => ?_)
      · refine y_iconst C dX12_goesIn_33 ?_
        exact hret _ _ _ _ dX12_goesIn_34 ⟨0, rfl, hM118, (FR.rf.tr fM118 (by decide)), by omega⟩
      · exfalso; omega
    · refine j_aload_n C 0 0 dX12_goesIn_18 rfl rfl ?_
      refine j_callVv C (d := 5) (As := []) (st := []) 98 (s_lt rfl rfl) (s_kc (c := 11) rfl rfl) (by decide) rfl (s1_X12_next hM118 hpr (by omega) (by omega) (by omega)) gX12_goesIn_X12_next rfl hdX12_next (by decide) (Nat.le_of_ble_eq_true rfl) dX12_goesIn_19 rfl (fun M129 h130 => ?_)
      obtain ⟨hM129, fM129, h131⟩ := h130
      refine j_aload_n C 0 0 dX12_goesIn_22 rfl rfl ?_
      refine y_getI C 11 _ _ fX12_goesIn_126 rfl rfl ft_11_11 sb_11_11 hM129 dX12_goesIn_23 (fun a132 ea132 la132 ua132 => ?_)
      obtain rfl : a132 = (M129.1 98 11).toInt := ea132
      refine y_if_ne C 33 dX12_goesIn_26 (by decide) (by omega) (fun h134 => ?_) (fun h134 => ?_)
      · refine y_iconst C dX12_goesIn_33 ?_
        exact hret _ _ _ _ dX12_goesIn_34 ⟨0, rfl, hM129, ((FR.rf.tr fM118 (by decide)).tr fM129 (by decide)), by omega⟩
      · refine y_iconst C dX12_goesIn_29 ?_
        refine j_goto C 34 dX12_goesIn_30 (by decide) ?_
        exact hret _ _ _ _ dX12_goesIn_34 ⟨1, rfl, hM129, ((FR.rf.tr fM118 (by decide)).tr fM129 (by decide)), by omega⟩
set_option maxHeartbeats 4000000 in
theorem s6_X12_goesIn {l : Launch} {dC : Nat → ClassId} {dI : Nat → Nat → Nat} {ad : Nat → Nat} {cA : Nat → ClassId} {pr : Nat → Nat → Bool} {Kz : mm_M} {M0 : mm_M} (hM0 : INV pr Kz M0) (hpr : PM pr)  (hp0 : b01 (RIP M0) = 1) (hp1 : b01 (PI M0) = 1) : Ci l 6 yX12_goesIn wsX12_goesIn dC dI ad cA [.ref (ad 98), .int (sI 5)] M0 (fun r M' => ∃ a : Int, r = sI a ∧ INV pr Kz M' ∧ FR [98] M0 M' ∧ 0 ≤ a ∧ a ≤ 1 ∧ (b01 (RIP M') = 1) ∧ ((M'.1 98 8).toInt = (M0.1 98 8).toInt) ∧ ((M0.1 98 6).toInt ≤ (M'.1 98 6).toInt) ∧ (a = 0 ∧ ¬ (M'.1 98 11).toInt = 0 ∨ a = 1 ∧ (M'.1 98 11).toInt = 0 ∧ (M0.1 98 11).toInt = 0 ∧ (M0.1 98 7).toInt ≤ (M'.1 98 6).toInt) ∧ (b01 (PI M') = 1)) := by
  refine ci_of (cc := cX12_goesIn) (maxL := 2) (ty := .boolean) (lv := [(0, .ref (ad 98)), (1, .int (sI 5))]) (by decide) rfl (fun r M' hp => by obtain ⟨a, rfl, -, h⟩ := hp; rcases (show a = 0 ∨ a = 1 by omega) with rfl | rfl <;> rfl) (Nat.le_of_ble_eq_true rfl) rfl ?_
  intro p e s m args below meth c A Q C hret
  have u101l := ri_l (M := M0) (by omega)
  refine j_iload_n C 1 1 dX12_goesIn_0 rfl rfl ?_
  refine y_bipush C dX12_goesIn_1 rfl ?_
  refine y_icmp_ne C 11 dX12_goesIn_3 (by decide) (by omega) (fun h102 => ?_) (fun h102 => ?_)
  · have u103l := ri_l (M := M0) (by omega)
    refine j_aload_n C 0 0 dX12_goesIn_11 rfl rfl ?_
    refine y_getI C 11 _ _ fX12_goesIn_126 rfl rfl ft_11_11 sb_11_11 hM0 dX12_goesIn_12 (fun a104 ea104 la104 ua104 => ?_)
    obtain rfl : a104 = (M0.1 98 11).toInt := ea104
    refine y_if_ne C 22 dX12_goesIn_15 (by decide) (by omega) (fun h106 => ?_) (fun h106 => ?_)
    · refine j_aload_n C 0 0 dX12_goesIn_22 rfl rfl ?_
      refine y_getI C 11 _ _ fX12_goesIn_126 rfl rfl ft_11_11 sb_11_11 hM0 dX12_goesIn_23 (fun a107 ea107 la107 ua107 => ?_)
      obtain rfl : a107 = (M0.1 98 11).toInt := ea107
      refine y_if_ne C 33 dX12_goesIn_26 (by decide) (by omega) (fun h109 => ?_) (fun h109 => ?_)
      · refine y_iconst C dX12_goesIn_33 ?_
        exact hret _ _ _ _ dX12_goesIn_34 ⟨0, rfl, hM0, FR.rf, by omega⟩
      · exfalso; omega
    · refine j_aload_n C 0 0 dX12_goesIn_18 rfl rfl ?_
      refine j_callVv C (d := 5) (As := []) (st := []) 98 (s_lt rfl rfl) (s_kc (c := 11) rfl rfl) (by decide) rfl (s1_X12_next hM0 hpr (by omega) (by omega) (by omega)) gX12_goesIn_X12_next rfl hdX12_next (by decide) (Nat.le_of_ble_eq_true rfl) dX12_goesIn_19 rfl (fun M111 h112 => ?_)
      obtain ⟨hM111, fM111, h113⟩ := h112
      refine j_aload_n C 0 0 dX12_goesIn_22 rfl rfl ?_
      refine y_getI C 11 _ _ fX12_goesIn_126 rfl rfl ft_11_11 sb_11_11 hM111 dX12_goesIn_23 (fun a114 ea114 la114 ua114 => ?_)
      obtain rfl : a114 = (M111.1 98 11).toInt := ea114
      refine y_if_ne C 33 dX12_goesIn_26 (by decide) (by omega) (fun h116 => ?_) (fun h116 => ?_)
      · refine y_iconst C dX12_goesIn_33 ?_
        exact hret _ _ _ _ dX12_goesIn_34 ⟨0, rfl, hM111, (FR.rf.tr fM111 (by decide)), by omega⟩
      · refine y_iconst C dX12_goesIn_29 ?_
        refine j_goto C 34 dX12_goesIn_30 (by decide) ?_
        exact hret _ _ _ _ dX12_goesIn_34 ⟨1, rfl, hM111, (FR.rf.tr fM111 (by decide)), by omega⟩
  · refine j_aload_n C 0 0 dX12_goesIn_6 rfl rfl ?_
    refine y_iconst C dX12_goesIn_7 ?_
    refine j_callVv C (d := 0) (As := [.int (sI 4)]) (st := []) 98 (s_lt rfl rfl) (s_kc (c := 11) rfl rfl) (by decide) rfl (s1_X12_fails hM0 hpr 4 (by omega) (by omega) (by omega) (by omega)) gX12_goesIn_X12_fails rfl hdX12_fails (by decide) (Nat.le_of_ble_eq_true rfl) dX12_goesIn_8 rfl (fun M118 h119 => ?_)
    obtain ⟨hM118, fM118, h120⟩ := h119
    have u121l := ri_l (M := M118) (by omega)
    refine j_aload_n C 0 0 dX12_goesIn_11 rfl rfl ?_
    refine y_getI C 11 _ _ fX12_goesIn_126 rfl rfl ft_11_11 sb_11_11 hM118 dX12_goesIn_12 (fun a122 ea122 la122 ua122 => ?_)
    obtain rfl : a122 = (M118.1 98 11).toInt := ea122
    refine y_if_ne C 22 dX12_goesIn_15 (by decide) (by omega) (fun h124 => ?_) (fun h124 => ?_)
    · refine j_aload_n C 0 0 dX12_goesIn_22 rfl rfl ?_
      refine y_getI C 11 _ _ fX12_goesIn_126 rfl rfl ft_11_11 sb_11_11 hM118 dX12_goesIn_23 (fun a125 ea125 la125 ua125 => ?_)
      obtain rfl : a125 = (M118.1 98 11).toInt := ea125
      refine y_if_ne C 33 dX12_goesIn_26 (by decide) (by omega) (fun h127 => ?_) (fun h127 => ?_)
      · refine y_iconst C dX12_goesIn_33 ?_
        exact hret _ _ _ _ dX12_goesIn_34 ⟨0, rfl, hM118, (FR.rf.tr fM118 (by decide)), by omega⟩
      · exfalso; omega
    · refine j_aload_n C 0 0 dX12_goesIn_18 rfl rfl ?_
      refine j_callVv C (d := 5) (As := []) (st := []) 98 (s_lt rfl rfl) (s_kc (c := 11) rfl rfl) (by decide) rfl (s1_X12_next hM118 hpr (by omega) (by omega) (by omega)) gX12_goesIn_X12_next rfl hdX12_next (by decide) (Nat.le_of_ble_eq_true rfl) dX12_goesIn_19 rfl (fun M129 h130 => ?_)
      obtain ⟨hM129, fM129, h131⟩ := h130
      refine j_aload_n C 0 0 dX12_goesIn_22 rfl rfl ?_
      refine y_getI C 11 _ _ fX12_goesIn_126 rfl rfl ft_11_11 sb_11_11 hM129 dX12_goesIn_23 (fun a132 ea132 la132 ua132 => ?_)
      obtain rfl : a132 = (M129.1 98 11).toInt := ea132
      refine y_if_ne C 33 dX12_goesIn_26 (by decide) (by omega) (fun h134 => ?_) (fun h134 => ?_)
      · refine y_iconst C dX12_goesIn_33 ?_
        exact hret _ _ _ _ dX12_goesIn_34 ⟨0, rfl, hM129, ((FR.rf.tr fM118 (by decide)).tr fM129 (by decide)), by omega⟩
      · refine y_iconst C dX12_goesIn_29 ?_
        refine j_goto C 34 dX12_goesIn_30 (by decide) ?_
        exact hret _ _ _ _ dX12_goesIn_34 ⟨1, rfl, hM129, ((FR.rf.tr fM118 (by decide)).tr fM129 (by decide)), by omega⟩
set_option maxHeartbeats 4000000 in
theorem s7_X12_goesIn {l : Launch} {dC : Nat → ClassId} {dI : Nat → Nat → Nat} {ad : Nat → Nat} {cA : Nat → ClassId} {pr : Nat → Nat → Bool} {Kz : mm_M} {M0 : mm_M} (hM0 : INV pr Kz M0) (hpr : PM pr)  (hp0 : b01 (RIP M0) = 1) (hp1 : b01 (PI M0) = 1) : Ci l 6 yX12_goesIn wsX12_goesIn dC dI ad cA [.ref (ad 98), .int (sI 6)] M0 (fun r M' => ∃ a : Int, r = sI a ∧ INV pr Kz M' ∧ FR [98] M0 M' ∧ 0 ≤ a ∧ a ≤ 0 ∧ (b01 (RIP M') = 1) ∧ ((M'.1 98 8).toInt = (M0.1 98 8).toInt) ∧ ((M0.1 98 6).toInt ≤ (M'.1 98 6).toInt) ∧ (a = 0 ∧ ¬ (M'.1 98 11).toInt = 0 ∨ a = 1 ∧ (M'.1 98 11).toInt = 0 ∧ (M0.1 98 11).toInt = 0 ∧ (M0.1 98 7).toInt ≤ (M'.1 98 6).toInt) ∧ (b01 (PI M') = 1)) := by
  refine ci_of (cc := cX12_goesIn) (maxL := 2) (ty := .boolean) (lv := [(0, .ref (ad 98)), (1, .int (sI 6))]) (by decide) rfl (fun r M' hp => by obtain ⟨a, rfl, -, h⟩ := hp; rcases (show a = 0 ∨ a = 1 by omega) with rfl | rfl <;> rfl) (Nat.le_of_ble_eq_true rfl) rfl ?_
  intro p e s m args below meth c A Q C hret
  have u101l := ri_l (M := M0) (by omega)
  refine j_iload_n C 1 1 dX12_goesIn_0 rfl rfl ?_
  refine y_bipush C dX12_goesIn_1 rfl ?_
  refine y_icmp_ne C 11 dX12_goesIn_3 (by decide) (by omega) (fun h102 => ?_) (fun h102 => ?_)
  · exfalso; omega
  · refine j_aload_n C 0 0 dX12_goesIn_6 rfl rfl ?_
    refine y_iconst C dX12_goesIn_7 ?_
    refine j_callVv C (d := 0) (As := [.int (sI 4)]) (st := []) 98 (s_lt rfl rfl) (s_kc (c := 11) rfl rfl) (by decide) rfl (s1_X12_fails hM0 hpr 4 (by omega) (by omega) (by omega) (by omega)) gX12_goesIn_X12_fails rfl hdX12_fails (by decide) (Nat.le_of_ble_eq_true rfl) dX12_goesIn_8 rfl (fun M104 h105 => ?_)
    obtain ⟨hM104, fM104, h106⟩ := h105
    have u107l := ri_l (M := M104) (by omega)
    refine j_aload_n C 0 0 dX12_goesIn_11 rfl rfl ?_
    refine y_getI C 11 _ _ fX12_goesIn_126 rfl rfl ft_11_11 sb_11_11 hM104 dX12_goesIn_12 (fun a108 ea108 la108 ua108 => ?_)
    obtain rfl : a108 = (M104.1 98 11).toInt := ea108
    refine y_if_ne C 22 dX12_goesIn_15 (by decide) (by omega) (fun h110 => ?_) (fun h110 => ?_)
    · refine j_aload_n C 0 0 dX12_goesIn_22 rfl rfl ?_
      refine y_getI C 11 _ _ fX12_goesIn_126 rfl rfl ft_11_11 sb_11_11 hM104 dX12_goesIn_23 (fun a111 ea111 la111 ua111 => ?_)
      obtain rfl : a111 = (M104.1 98 11).toInt := ea111
      refine y_if_ne C 33 dX12_goesIn_26 (by decide) (by omega) (fun h113 => ?_) (fun h113 => ?_)
      · refine y_iconst C dX12_goesIn_33 ?_
        exact hret _ _ _ _ dX12_goesIn_34 ⟨0, rfl, hM104, (FR.rf.tr fM104 (by decide)), by omega⟩
      · exfalso; omega
    · refine j_aload_n C 0 0 dX12_goesIn_18 rfl rfl ?_
      refine j_callVv C (d := 5) (As := []) (st := []) 98 (s_lt rfl rfl) (s_kc (c := 11) rfl rfl) (by decide) rfl (s1_X12_next hM104 hpr (by omega) (by omega) (by omega)) gX12_goesIn_X12_next rfl hdX12_next (by decide) (Nat.le_of_ble_eq_true rfl) dX12_goesIn_19 rfl (fun M115 h116 => ?_)
      obtain ⟨hM115, fM115, h117⟩ := h116
      refine j_aload_n C 0 0 dX12_goesIn_22 rfl rfl ?_
      refine y_getI C 11 _ _ fX12_goesIn_126 rfl rfl ft_11_11 sb_11_11 hM115 dX12_goesIn_23 (fun a118 ea118 la118 ua118 => ?_)
      obtain rfl : a118 = (M115.1 98 11).toInt := ea118
      refine y_if_ne C 33 dX12_goesIn_26 (by decide) (by omega) (fun h120 => ?_) (fun h120 => ?_)
      · refine y_iconst C dX12_goesIn_33 ?_
        exact hret _ _ _ _ dX12_goesIn_34 ⟨0, rfl, hM115, ((FR.rf.tr fM104 (by decide)).tr fM115 (by decide)), by omega⟩
      · refine y_iconst C dX12_goesIn_29 ?_
        refine j_goto C 34 dX12_goesIn_30 (by decide) ?_
        exact hret _ _ _ _ dX12_goesIn_34 ⟨1, rfl, hM115, ((FR.rf.tr fM104 (by decide)).tr fM115 (by decide)), by omega⟩
set_option maxHeartbeats 4000000 in
theorem s1_X12_wordOf {l : Launch} {dC : Nat → ClassId} {dI : Nat → Nat → Nat} {ad : Nat → Nat} {cA : Nat → ClassId} {pr : Nat → Nat → Bool} {Kz : mm_M} {M0 : mm_M} (hM0 : INV pr Kz M0) (a1 : Int) (ha1 : -2147483648 ≤ a1 ∧ a1 ≤ 2147483647) : Ci l 0 yX12_wordOf wsX12_wordOf dC dI ad cA [.ref (ad 98), .int (sI a1)] M0 (fun r M' => ∃ a : Int, r = sI a ∧ M0 = M' ∧ (-1) ≤ a ∧ a ≤ 7 ∧ (a = (woF a1))) := by
  refine ci_of (cc := cX12_wordOf) (maxL := 2) (ty := .int) (lv := [(0, .ref (ad 98)), (1, .int (sI a1))]) (by decide) rfl (fun r M' hp => rfl) (Nat.le_of_ble_eq_true rfl) rfl ?_
  intro p e s m args below meth c A Q C hret
  refine j_iload_n C 1 1 dX12_wordOf_0 rfl rfl ?_
  rcases (show (a1 < 1 ∨ 13 < a1) ∨ a1 = 1 ∨ a1 = 2 ∨ a1 = 3 ∨ a1 = 4 ∨ a1 = 5 ∨ a1 = 6 ∨ a1 = 7 ∨ a1 = 8 ∨ a1 = 9 ∨ a1 = 10 ∨ a1 = 11 ∨ a1 = 12 ∨ a1 = 13 by omega) with h101 | h101 | h101 | h101 | h101 | h101 | h101 | h101 | h101 | h101 | h101 | h101 | h101 | h101
  · refine y_tabO C 86 dX12_wordOf_1 (by decide) (by omega) ?_
    refine y_iconst C dX12_wordOf_86 ?_
    have u102 := woF_s a1
    exact hret _ _ _ _ dX12_wordOf_87 ⟨(-1), rfl, rfl, by omega⟩
  · refine y_tabI C (off := 73) 74 1 dX12_wordOf_1 (by decide) rfl (by decide) h101 ?_
    refine y_iconst C dX12_wordOf_74 ?_
    have u103 := woF_s a1
    exact hret _ _ _ _ dX12_wordOf_75 ⟨3, rfl, rfl, by omega⟩
  · refine y_tabI C (off := 75) 76 2 dX12_wordOf_1 (by decide) rfl (by decide) h101 ?_
    refine y_iconst C dX12_wordOf_76 ?_
    have u104 := woF_s a1
    exact hret _ _ _ _ dX12_wordOf_77 ⟨4, rfl, rfl, by omega⟩
  · refine y_tabI C (off := 77) 78 3 dX12_wordOf_1 (by decide) rfl (by decide) h101 ?_
    refine y_iconst C dX12_wordOf_78 ?_
    have u105 := woF_s a1
    exact hret _ _ _ _ dX12_wordOf_79 ⟨5, rfl, rfl, by omega⟩
  · refine y_tabI C (off := 82) 83 4 dX12_wordOf_1 (by decide) rfl (by decide) h101 ?_
    refine y_bipush C dX12_wordOf_83 rfl ?_
    have u106 := woF_s a1
    exact hret _ _ _ _ dX12_wordOf_85 ⟨7, rfl, rfl, by omega⟩
  · refine y_tabI C (off := 85) 86 5 dX12_wordOf_1 (by decide) rfl (by decide) h101 ?_
    refine y_iconst C dX12_wordOf_86 ?_
    have u107 := woF_s a1
    exact hret _ _ _ _ dX12_wordOf_87 ⟨(-1), rfl, rfl, by omega⟩
  · refine y_tabI C (off := 85) 86 6 dX12_wordOf_1 (by decide) rfl (by decide) h101 ?_
    refine y_iconst C dX12_wordOf_86 ?_
    have u108 := woF_s a1
    exact hret _ _ _ _ dX12_wordOf_87 ⟨(-1), rfl, rfl, by omega⟩
  · refine y_tabI C (off := 69) 70 7 dX12_wordOf_1 (by decide) rfl (by decide) h101 ?_
    refine y_iconst C dX12_wordOf_70 ?_
    have u109 := woF_s a1
    exact hret _ _ _ _ dX12_wordOf_71 ⟨1, rfl, rfl, by omega⟩
  · refine y_tabI C (off := 71) 72 8 dX12_wordOf_1 (by decide) rfl (by decide) h101 ?_
    refine y_iconst C dX12_wordOf_72 ?_
    have u110 := woF_s a1
    exact hret _ _ _ _ dX12_wordOf_73 ⟨2, rfl, rfl, by omega⟩
  · refine y_tabI C (off := 85) 86 9 dX12_wordOf_1 (by decide) rfl (by decide) h101 ?_
    refine y_iconst C dX12_wordOf_86 ?_
    have u111 := woF_s a1
    exact hret _ _ _ _ dX12_wordOf_87 ⟨(-1), rfl, rfl, by omega⟩
  · refine y_tabI C (off := 85) 86 10 dX12_wordOf_1 (by decide) rfl (by decide) h101 ?_
    refine y_iconst C dX12_wordOf_86 ?_
    have u112 := woF_s a1
    exact hret _ _ _ _ dX12_wordOf_87 ⟨(-1), rfl, rfl, by omega⟩
  · refine y_tabI C (off := 85) 86 11 dX12_wordOf_1 (by decide) rfl (by decide) h101 ?_
    refine y_iconst C dX12_wordOf_86 ?_
    have u113 := woF_s a1
    exact hret _ _ _ _ dX12_wordOf_87 ⟨(-1), rfl, rfl, by omega⟩
  · refine y_tabI C (off := 67) 68 12 dX12_wordOf_1 (by decide) rfl (by decide) h101 ?_
    refine y_iconst C dX12_wordOf_68 ?_
    have u114 := woF_s a1
    exact hret _ _ _ _ dX12_wordOf_69 ⟨0, rfl, rfl, by omega⟩
  · refine y_tabI C (off := 79) 80 13 dX12_wordOf_1 (by decide) rfl (by decide) h101 ?_
    refine y_bipush C dX12_wordOf_80 rfl ?_
    have u115 := woF_s a1
    exact hret _ _ _ _ dX12_wordOf_82 ⟨6, rfl, rfl, by omega⟩
set_option maxHeartbeats 4000000 in
theorem s1_X12_codes {l : Launch} {dC : Nat → ClassId} {dI : Nat → Nat → Nat} {ad : Nat → Nat} {cA : Nat → ClassId} {pr : Nat → Nat → Bool} {Kz : mm_M} {M0 : mm_M} (hM0 : INV pr Kz M0) (hpr : PM pr) (a1 : Int) (ha1 : -2147483648 ≤ a1 ∧ a1 ≤ 2147483647) (hp0 : b01 (CB M0) = 1) (hp1 : b01 (PI M0) = 1) : Cv l 0 yX12_codes wsX12_codes dC dI ad cA [.ref (ad 98), .int (sI a1)] M0 (fun M' => INV pr Kz M' ∧ FR [102] M0 M' ∧ (b01 (AW M0 M' a1) = 1) ∧ (b01 (PI M') = 1)) := by
  refine cv_of (cc := cX12_codes) (maxL := 2) (lv := [(0, .ref (ad 98)), (1, .int (sI a1))]) (by decide) rfl (Nat.le_of_ble_eq_true rfl) rfl ?_
  intro p e s m args below meth c A Q C hret
  refine j_aload_n C 0 0 dX12_codes_0 rfl rfl ?_
  refine y_getI C 11 _ _ fX12_codes_126 rfl rfl ft_11_11 sb_11_11 hM0 dX12_codes_1 (fun a101 ea101 la101 ua101 => ?_)
  obtain rfl : a101 = (M0.1 98 11).toInt := ea101
  refine y_if_eq C 8 dX12_codes_4 (by decide) (by omega) (fun h103 => ?_) (fun h103 => ?_)
  · have u104 := cb_e (M := M0) (by omega) (by omega)
    refine j_aload_n C 0 0 dX12_codes_8 rfl rfl ?_
    refine y_getC C 11 102 fX12_codes_24 rfl rfl ft_11_4 sm_11_4 rfl hM0 dX12_codes_9 ?_
    refine y_sipush C dX12_codes_12 rfl ?_
    refine j_aload_n C 0 0 dX12_codes_15 rfl rfl ?_
    refine y_getC C 11 102 fX12_codes_24 rfl rfl ft_11_4 sm_11_4 rfl hM0 dX12_codes_16 ?_
    refine y_sipush C dX12_codes_19 rfl ?_
    refine y_ialdH C 48 1181 rfl rfl rfl ak_48 an_48 rfl _ _ hM0 (hr_48_280_280 _ (by omega) (by omega)) dX12_codes_22 (by omega) (fun a105 ea105 la105 ua105 => ?_)
    obtain rfl : a105 = (M0.1 102 280).toInt := ea105
    refine y_iadd C dX12_codes_23 ?_
    refine j_iload_n C 1 1 dX12_codes_24 rfl rfl ?_
    refine y_iastR C 48 1181 rfl rfl rfl ak_48 an_48 rfl hM0 (PM.w hpr rfl rfl) dX12_codes_25 (by omega) (by omega) (b48_c (281 + (M0.1 102 280).toInt).toNat a1 (by omega)) (fun M106 eM106 hM106 => ?_)
    have pM106 := pi_o eM106 (by decide) (by decide) (by omega)
    refine j_aload_n C 0 0 dX12_codes_26 rfl rfl ?_
    refine y_getC C 11 102 fX12_codes_24 rfl rfl ft_11_4 sm_11_4 rfl hM106 dX12_codes_27 ?_
    refine y_sipush C dX12_codes_30 rfl ?_
    refine j_dup2 C dX12_codes_33 rfl rfl ?_
    refine y_ialdH C 48 1181 rfl rfl rfl ak_48 an_48 rfl _ _ hM106 (hr_48_280_280 _ (by omega) (by omega)) dX12_codes_34 (by omega) (fun a107 ea107 la107 ua107 => ?_)
    obtain rfl : a107 = (M0.1 102 280).toInt := s_fb eM106 (by omega) (ea107)
    refine y_iconst C dX12_codes_35 ?_
    refine y_iadd C dX12_codes_36 ?_
    refine y_iastH C 48 1181 rfl rfl rfl ak_48 an_48 rfl _ _ hM106 (PM.w hpr rfl rfl) (hs_48_280_280 _ (by omega) (by omega)) dX12_codes_37 (by omega) (by omega) (fun M108 eM108 hM108 => ?_)
    have pM108 := pi_o eM108 (by decide) (by decide) (by omega)
    have u109a : b01 (APP M0 M108 a1) = 1 := ap_w (n := (M0.1 102 280).toInt) eM106 eM108 (by omega)
    have u109 : b01 (AW M0 M108 a1) = 1 := b01_i (Or.inr (b01_e u109a))
    exact hret _ _ _ dX12_codes_38 ⟨hM108, ((FR.rf.wI eM106 (by decide)).wI eM108 (by decide)), by omega⟩
  · have u110 : b01 (AW M0 M0 a1) = 1 := b01_i (Or.inl (by omega))
    exact hret _ _ _ dX12_codes_7 ⟨hM0, FR.rf, by omega⟩
set_option maxHeartbeats 4000000 in
theorem s1_X12_readAtom {l : Launch} {dC : Nat → ClassId} {dI : Nat → Nat → Nat} {ad : Nat → Nat} {cA : Nat → ClassId} {pr : Nat → Nat → Bool} {Kz : mm_M} {M0 : mm_M} (hM0 : INV pr Kz M0) (hpr : PM pr)  (hp0 : b01 (RIP M0) = 1) (hp1 : b01 (CA M0) = 1) (hp2 : b01 (PI M0) = 1) : Cv l 7 yX12_readAtom wsX12_readAtom dC dI ad cA [.ref (ad 98), .int (sI 6)] M0 (fun M' => INV pr Kz M' ∧ FR [98, 102] M0 M' ∧ (b01 (RIP M') = 1) ∧ ((M'.1 98 8).toInt = (M0.1 98 8).toInt) ∧ ((M0.1 98 6).toInt ≤ (M'.1 98 6).toInt) ∧ (b01 (XW M0 M' 0 1 0) = 1) ∧ (b01 (CA M') = 1) ∧ (b01 (PI M') = 1)) := by
  refine cv_of (cc := cX12_readAtom) (maxL := 2) (lv := [(0, .ref (ad 98)), (1, .int (sI 6))]) (by decide) rfl (Nat.le_of_ble_eq_true rfl) rfl ?_
  intro p e s m args below meth c A Q C hret
  have u101z := xw_0 M0
  have u101l := ri_l (M := M0) (by omega)
  refine j_aload_n C 0 0 dX12_readAtom_0 rfl rfl ?_
  refine y_bipush C dX12_readAtom_1 rfl ?_
  refine j_callVi C (d := 0) (As := [.int (sI 23)]) (st := []) 98 (s_lt rfl rfl) (s_kc (c := 11) rfl rfl) (by decide) rfl (s1_X12_is hM0 23 (by omega)) gX12_readAtom_X12_is rfl hdX12_is (by decide) (Nat.le_of_ble_eq_true rfl) dX12_readAtom_3 rfl (fun r102 M103 h104 => ?_)
  obtain ⟨a106, rfl, rfl, h105⟩ := h104
  refine y_if_eq C 24 dX12_readAtom_6 (by decide) (by omega) (fun h107 => ?_) (fun h107 => ?_)
  · refine j_aload_n C 0 0 dX12_readAtom_24 rfl rfl ?_
    refine y_getI C 11 _ _ fX12_readAtom_126 rfl rfl ft_11_11 sb_11_11 hM0 dX12_readAtom_25 (fun a108 ea108 la108 ua108 => ?_)
    obtain rfl : a108 = (M0.1 98 11).toInt := ea108
    refine y_if_ne C 66 dX12_readAtom_28 (by decide) (by omega) (fun h110 => ?_) (fun h110 => ?_)
    · refine j_aload_n C 0 0 dX12_readAtom_66 rfl rfl ?_
      refine y_bipush C dX12_readAtom_67 rfl ?_
      refine j_callVi C (d := 0) (As := [.int (sI 35)]) (st := []) 98 (s_lt rfl rfl) (s_kc (c := 11) rfl rfl) (by decide) rfl (s1_X12_is hM0 35 (by omega)) gX12_readAtom_X12_is rfl hdX12_is (by decide) (Nat.le_of_ble_eq_true rfl) dX12_readAtom_69 rfl (fun r111 M112 h113 => ?_)
      obtain ⟨a115, rfl, rfl, h114⟩ := h113
      refine y_if_eq C 108 dX12_readAtom_72 (by decide) (by omega) (fun h116 => ?_) (fun h116 => ?_)
      · refine j_aload_n C 0 0 dX12_readAtom_108 rfl rfl ?_
        refine y_iconst C dX12_readAtom_109 ?_
        refine j_callVv C (d := 0) (As := [.int (sI 2)]) (st := []) 98 (s_lt rfl rfl) (s_kc (c := 11) rfl rfl) (by decide) rfl (s1_X12_fails hM0 hpr 2 (by omega) (by omega) (by omega) (by omega)) gX12_readAtom_X12_fails rfl hdX12_fails (by decide) (Nat.le_of_ble_eq_true rfl) dX12_readAtom_110 rfl (fun M118 h119 => ?_)
        obtain ⟨hM118, fM118, h120⟩ := h119
        have u121f : b01 (XW M0 M118 0 1 0) = 1 := b01_i (Or.inl (by omega))
        have u121a := ca_x (M := M0) (N := M118) (r := 0) (e := 1) (s := 0) (by decide) (by omega) (by omega)
        exact hret _ _ _ dX12_readAtom_113 ⟨hM118, (FR.rf.tr fM118 (by decide)), by omega⟩
      · have u122k := ri_k (M := M0) (by omega) (by omega)
        refine j_aload_n C 0 0 dX12_readAtom_75 rfl rfl ?_
        refine j_iload_n C 1 1 dX12_readAtom_76 rfl rfl ?_
        refine j_callVi C (d := 6) (As := [.int (sI 6)]) (st := []) 98 (s_lt rfl rfl) (s_kc (c := 11) rfl rfl) (by decide) rfl (s7_X12_goesIn hM0 hpr (by omega) (by omega)) gX12_readAtom_X12_goesIn rfl hdX12_goesIn (by decide) (Nat.le_of_ble_eq_true rfl) dX12_readAtom_77 rfl (fun r123 M124 h125 => ?_)
        obtain ⟨a127, rfl, hM124, fM124, h126⟩ := h125
        refine y_if_ne C 84 dX12_readAtom_80 (by decide) (by omega) (fun h128 => ?_) (fun h128 => ?_)
        · exfalso; omega
        · have u129c := xw_c (N := M0) (P := M124) 0 (FR.cell fM124 (by decide)) (by omega)
          have u129f : b01 (XW M0 M124 0 1 0) = 1 := b01_i (Or.inl (by omega))
          have u129a := ca_x (M := M0) (N := M124) (r := 0) (e := 1) (s := 0) (by decide) (by omega) (by omega)
          exact hret _ _ _ dX12_readAtom_83 ⟨hM124, (FR.rf.tr fM124 (by decide)), by omega⟩
    · refine j_aload_n C 0 0 dX12_readAtom_31 rfl rfl ?_
      refine j_aload_n C 0 0 dX12_readAtom_32 rfl rfl ?_
      refine y_getI C 11 _ _ fX12_readAtom_108 rfl rfl ft_11_9 sb_11_9 hM0 dX12_readAtom_33 (fun a131 ea131 la131 ua131 => ?_)
      obtain rfl : a131 = (M0.1 98 9).toInt := ea131
      refine j_callVi C (d := 0) (As := [.int (sI (M0.1 98 9).toInt)]) (st := []) 98 (s_lt rfl rfl) (s_kc (c := 11) rfl rfl) (by decide) rfl (s1_X12_wordOf hM0 (M0.1 98 9).toInt (by omega)) gX12_readAtom_X12_wordOf rfl hdX12_wordOf (by decide) (Nat.le_of_ble_eq_true rfl) dX12_readAtom_36 rfl (fun r133 M134 h135 => ?_)
      obtain ⟨a137, rfl, rfl, h136⟩ := h135
      obtain rfl : a137 = (woF (M0.1 98 9).toInt) := by omega
      refine y_iconst C dX12_readAtom_39 ?_
      refine y_icmp_eq C 66 dX12_readAtom_40 (by decide) (by omega) (fun h138 => ?_) (fun h138 => ?_)
      · refine j_aload_n C 0 0 dX12_readAtom_66 rfl rfl ?_
        refine y_bipush C dX12_readAtom_67 rfl ?_
        refine j_callVi C (d := 0) (As := [.int (sI 35)]) (st := []) 98 (s_lt rfl rfl) (s_kc (c := 11) rfl rfl) (by decide) rfl (s1_X12_is hM0 35 (by omega)) gX12_readAtom_X12_is rfl hdX12_is (by decide) (Nat.le_of_ble_eq_true rfl) dX12_readAtom_69 rfl (fun r139 M140 h141 => ?_)
        obtain ⟨a143, rfl, rfl, h142⟩ := h141
        refine y_if_eq C 108 dX12_readAtom_72 (by decide) (by omega) (fun h144 => ?_) (fun h144 => ?_)
        · refine j_aload_n C 0 0 dX12_readAtom_108 rfl rfl ?_
          refine y_iconst C dX12_readAtom_109 ?_
          refine j_callVv C (d := 0) (As := [.int (sI 2)]) (st := []) 98 (s_lt rfl rfl) (s_kc (c := 11) rfl rfl) (by decide) rfl (s1_X12_fails hM0 hpr 2 (by omega) (by omega) (by omega) (by omega)) gX12_readAtom_X12_fails rfl hdX12_fails (by decide) (Nat.le_of_ble_eq_true rfl) dX12_readAtom_110 rfl (fun M146 h147 => ?_)
          obtain ⟨hM146, fM146, h148⟩ := h147
          have u149f : b01 (XW M0 M146 0 1 0) = 1 := b01_i (Or.inl (by omega))
          have u149a := ca_x (M := M0) (N := M146) (r := 0) (e := 1) (s := 0) (by decide) (by omega) (by omega)
          exact hret _ _ _ dX12_readAtom_113 ⟨hM146, (FR.rf.tr fM146 (by decide)), by omega⟩
        · have u150k := ri_k (M := M0) (by omega) (by omega)
          refine j_aload_n C 0 0 dX12_readAtom_75 rfl rfl ?_
          refine j_iload_n C 1 1 dX12_readAtom_76 rfl rfl ?_
          refine j_callVi C (d := 6) (As := [.int (sI 6)]) (st := []) 98 (s_lt rfl rfl) (s_kc (c := 11) rfl rfl) (by decide) rfl (s7_X12_goesIn hM0 hpr (by omega) (by omega)) gX12_readAtom_X12_goesIn rfl hdX12_goesIn (by decide) (Nat.le_of_ble_eq_true rfl) dX12_readAtom_77 rfl (fun r151 M152 h153 => ?_)
          obtain ⟨a155, rfl, hM152, fM152, h154⟩ := h153
          refine y_if_ne C 84 dX12_readAtom_80 (by decide) (by omega) (fun h156 => ?_) (fun h156 => ?_)
          · exfalso; omega
          · have u157c := xw_c (N := M0) (P := M152) 0 (FR.cell fM152 (by decide)) (by omega)
            have u157f : b01 (XW M0 M152 0 1 0) = 1 := b01_i (Or.inl (by omega))
            have u157a := ca_x (M := M0) (N := M152) (r := 0) (e := 1) (s := 0) (by decide) (by omega) (by omega)
            exact hret _ _ _ dX12_readAtom_83 ⟨hM152, (FR.rf.tr fM152 (by decide)), by omega⟩
      · have u159w := woF_s (M0.1 98 9).toInt
        have u159k := ri_k (M := M0) (by omega) (by omega)
        have u159b := cb_0 (M := M0) (by omega) (by omega)
        refine j_aload_n C 0 0 dX12_readAtom_43 rfl rfl ?_
        refine y_sipush C dX12_readAtom_44 rfl ?_
        refine j_aload_n C 0 0 dX12_readAtom_47 rfl rfl ?_
        refine j_aload_n C 0 0 dX12_readAtom_48 rfl rfl ?_
        refine y_getI C 11 _ _ fX12_readAtom_108 rfl rfl ft_11_9 sb_11_9 hM0 dX12_readAtom_49 (fun a160 ea160 la160 ua160 => ?_)
        obtain rfl : a160 = (M0.1 98 9).toInt := ea160
        refine j_callVi C (d := 0) (As := [.int (sI (M0.1 98 9).toInt)]) (st := [.int (sI 1000), .ref (ad 98)]) 98 (s_lt rfl rfl) (s_kc (c := 11) rfl rfl) (by decide) rfl (s1_X12_wordOf hM0 (M0.1 98 9).toInt (by omega)) gX12_readAtom_X12_wordOf rfl hdX12_wordOf (by decide) (Nat.le_of_ble_eq_true rfl) dX12_readAtom_52 rfl (fun r162 M163 h164 => ?_)
        obtain ⟨a166, rfl, rfl, h165⟩ := h164
        obtain rfl : a166 = (woF (M0.1 98 9).toInt) := by omega
        refine y_iadd C dX12_readAtom_55 ?_
        refine j_callVv C (d := 0) (As := [.int (sI (1000 + (woF (M0.1 98 9).toInt)))]) (st := []) 98 (s_lt rfl rfl) (s_kc (c := 11) rfl rfl) (by decide) rfl (s1_X12_codes hM0 hpr (1000 + (woF (M0.1 98 9).toInt)) (by omega) (by omega) (by omega)) gX12_readAtom_X12_codes rfl hdX12_codes (by decide) (Nat.le_of_ble_eq_true rfl) dX12_readAtom_56 rfl (fun M168 h169 => ?_)
        obtain ⟨hM168, fM168, h170⟩ := h169
        have u171x := xw_a (M := M0) (N := M168) (c := (1000 + (woF (M0.1 98 9).toInt))) (r := 0) (e := 1) (FR.cell fM168 (by decide)) (ap_push ⟨(INV.rd hM0 (i := 102) (c := 48) (k := 280) rfl rfl).1, by omega, by omega⟩) (by omega)
        have u171t := xw_t (M := M0) (N := M0) (P := M168) (r1 := 0) (e1 := 0) (s1 := 0) (r2 := 0) (e2 := 1) (s2 := (-1)) 0 1 (-1) (by decide) (by omega) (by omega)
        have u171i := ri_c (M := M0) (N := M168) (FR.cell fM168 (by decide)) (by omega)
        have u171l := ri_l (M := M168) (by omega)
        have u171q6 : (M168.1 98 6).toInt = (M0.1 98 6).toInt := by rw [show M168.1 98 = M0.1 98 from FR.cell fM168 (by decide)]
        have u171q7 : (M168.1 98 7).toInt = (M0.1 98 7).toInt := by rw [show M168.1 98 = M0.1 98 from FR.cell fM168 (by decide)]
        have u171q8 : (M168.1 98 8).toInt = (M0.1 98 8).toInt := by rw [show M168.1 98 = M0.1 98 from FR.cell fM168 (by decide)]
        have u171q9 : (M168.1 98 9).toInt = (M0.1 98 9).toInt := by rw [show M168.1 98 = M0.1 98 from FR.cell fM168 (by decide)]
        have u171q11 : (M168.1 98 11).toInt = (M0.1 98 11).toInt := by rw [show M168.1 98 = M0.1 98 from FR.cell fM168 (by decide)]
        refine j_aload_n C 0 0 dX12_readAtom_59 rfl rfl ?_
        have zz98_7 : (M168.1 98 7).toInt = (M0.1 98 7).toInt := s_fF fM168 (by decide) (rfl)
        have zz98_8 : (M168.1 98 8).toInt = (M0.1 98 8).toInt := s_fF fM168 (by decide) (rfl)
        refine j_callVv C (d := 5) (As := []) (st := []) 98 (s_lt rfl rfl) (s_kc (c := 11) rfl rfl) (by decide) rfl (s1_X12_next hM168 hpr (by omega) (by omega) (by omega)) gX12_readAtom_X12_next rfl hdX12_next (by decide) (Nat.le_of_ble_eq_true rfl) dX12_readAtom_60 rfl (fun M173 h174 => ?_)
        obtain ⟨hM173, fM173, h175⟩ := h174
        have u176c := xw_c (N := M168) (P := M173) 1 (FR.cell fM173 (by decide)) (by omega)
        have u176t := xw_t (M := M0) (N := M168) (P := M173) (r1 := 0) (e1 := 1) (s1 := (-1)) (r2 := 0) (e2 := 0) (s2 := 1) 0 1 0 (by decide) (by omega) (by omega)
        have u176a := ca_x (M := M0) (N := M173) (r := 0) (e := 1) (s := 0) (by decide) (by omega) (by omega)
        refine j_goto C 113 dX12_readAtom_63 (by decide) ?_
        exact hret _ _ _ dX12_readAtom_113 ⟨hM173, ((FR.rf.tr fM168 (by decide)).tr fM173 (by decide)), by omega⟩
  · have u178k := ri_k (M := M0) (by omega) (by omega)
    have u178b := cb_0 (M := M0) (by omega) (by omega)
    refine j_aload_n C 0 0 dX12_readAtom_9 rfl rfl ?_
    refine j_aload_n C 0 0 dX12_readAtom_10 rfl rfl ?_
    refine y_getI C 11 _ _ fX12_readAtom_121 rfl rfl ft_11_10 sb_11_10 hM0 dX12_readAtom_11 (fun a179 ea179 la179 ua179 => ?_)
    obtain rfl : a179 = (M0.1 98 10).toInt := ea179
    refine j_callVv C (d := 0) (As := [.int (sI (M0.1 98 10).toInt)]) (st := []) 98 (s_lt rfl rfl) (s_kc (c := 11) rfl rfl) (by decide) rfl (s1_X12_codes hM0 hpr (M0.1 98 10).toInt (by omega) (by omega) (by omega)) gX12_readAtom_X12_codes rfl hdX12_codes (by decide) (Nat.le_of_ble_eq_true rfl) dX12_readAtom_14 rfl (fun M182 h183 => ?_)
    obtain ⟨hM182, fM182, h184⟩ := h183
    have u185x := xw_a (M := M0) (N := M182) (c := (M0.1 98 10).toInt) (r := 0) (e := 1) (FR.cell fM182 (by decide)) (ap_push ⟨(INV.rd hM0 (i := 102) (c := 48) (k := 280) rfl rfl).1, by omega, by omega⟩) (by omega)
    have u185t := xw_t (M := M0) (N := M0) (P := M182) (r1 := 0) (e1 := 0) (s1 := 0) (r2 := 0) (e2 := 1) (s2 := (-1)) 0 1 (-1) (by decide) (by omega) (by omega)
    have u185i := ri_c (M := M0) (N := M182) (FR.cell fM182 (by decide)) (by omega)
    have u185l := ri_l (M := M182) (by omega)
    have u185q6 : (M182.1 98 6).toInt = (M0.1 98 6).toInt := by rw [show M182.1 98 = M0.1 98 from FR.cell fM182 (by decide)]
    have u185q7 : (M182.1 98 7).toInt = (M0.1 98 7).toInt := by rw [show M182.1 98 = M0.1 98 from FR.cell fM182 (by decide)]
    have u185q8 : (M182.1 98 8).toInt = (M0.1 98 8).toInt := by rw [show M182.1 98 = M0.1 98 from FR.cell fM182 (by decide)]
    have u185q9 : (M182.1 98 9).toInt = (M0.1 98 9).toInt := by rw [show M182.1 98 = M0.1 98 from FR.cell fM182 (by decide)]
    have u185q11 : (M182.1 98 11).toInt = (M0.1 98 11).toInt := by rw [show M182.1 98 = M0.1 98 from FR.cell fM182 (by decide)]
    refine j_aload_n C 0 0 dX12_readAtom_17 rfl rfl ?_
    have zz98_7 : (M182.1 98 7).toInt = (M0.1 98 7).toInt := s_fF fM182 (by decide) (rfl)
    have zz98_8 : (M182.1 98 8).toInt = (M0.1 98 8).toInt := s_fF fM182 (by decide) (rfl)
    refine j_callVv C (d := 5) (As := []) (st := []) 98 (s_lt rfl rfl) (s_kc (c := 11) rfl rfl) (by decide) rfl (s1_X12_next hM182 hpr (by omega) (by omega) (by omega)) gX12_readAtom_X12_next rfl hdX12_next (by decide) (Nat.le_of_ble_eq_true rfl) dX12_readAtom_18 rfl (fun M187 h188 => ?_)
    obtain ⟨hM187, fM187, h189⟩ := h188
    have u190c := xw_c (N := M182) (P := M187) 1 (FR.cell fM187 (by decide)) (by omega)
    have u190t := xw_t (M := M0) (N := M182) (P := M187) (r1 := 0) (e1 := 1) (s1 := (-1)) (r2 := 0) (e2 := 0) (s2 := 1) 0 1 0 (by decide) (by omega) (by omega)
    have u190a := ca_x (M := M0) (N := M187) (r := 0) (e := 1) (s := 0) (by decide) (by omega) (by omega)
    refine j_goto C 113 dX12_readAtom_21 (by decide) ?_
    exact hret _ _ _ dX12_readAtom_113 ⟨hM187, ((FR.rf.tr fM182 (by decide)).tr fM187 (by decide)), by omega⟩
set_option maxHeartbeats 4000000 in
theorem s1_X12_readTerm {l : Launch} {dC : Nat → ClassId} {dI : Nat → Nat → Nat} {ad : Nat → Nat} {cA : Nat → ClassId} {pr : Nat → Nat → Bool} {Kz : mm_M} {M0 : mm_M} (hM0 : INV pr Kz M0) (hpr : PM pr)  (hp0 : b01 (RIP M0) = 1) (hp1 : b01 (CA M0) = 1) (hp2 : b01 (PI M0) = 1) : Cv l 8 yX12_readTerm wsX12_readTerm dC dI ad cA [.ref (ad 98), .int (sI 6)] M0 (fun M' => INV pr Kz M' ∧ FR [98, 102] M0 M' ∧ (b01 (RIP M') = 1) ∧ ((M'.1 98 8).toInt = (M0.1 98 8).toInt) ∧ ((M0.1 98 6).toInt ≤ (M'.1 98 6).toInt) ∧ (b01 (XW M0 M' 0 1 0) = 1) ∧ (b01 (CA M') = 1) ∧ (b01 (PI M') = 1)) := by
  refine cv_of (cc := cX12_readTerm) (maxL := 2) (lv := [(0, .ref (ad 98)), (1, .int (sI 6))]) (by decide) rfl (Nat.le_of_ble_eq_true rfl) rfl ?_
  intro p e s m args below meth c A Q C hret
  have u101z := xw_0 M0
  have u101l := ri_l (M := M0) (by omega)
  refine j_aload_n C 0 0 dX12_readTerm_0 rfl rfl ?_
  refine j_iload_n C 1 1 dX12_readTerm_1 rfl rfl ?_
  refine j_callVv C (d := 7) (As := [.int (sI 6)]) (st := []) 98 (s_lt rfl rfl) (s_kc (c := 11) rfl rfl) (by decide) rfl (s1_X12_readAtom hM0 hpr (by omega) (by omega) (by omega)) gX12_readTerm_X12_readAtom rfl hdX12_readAtom (by decide) (Nat.le_of_ble_eq_true rfl) dX12_readTerm_2 rfl (fun M103 h104 => ?_)
  obtain ⟨hM103, fM103, h105⟩ := h104
  have u106l := ri_l (M := M103) (by omega)
  have L128 : ∀ (n126 : Nat), ∀ (M129 : mm_M), ((b01 (RIP M129) = 1) ∧ ((M129.1 98 8).toInt = (M0.1 98 8).toInt) ∧ ((M0.1 98 6).toInt ≤ (M129.1 98 6).toInt) ∧ (b01 (XW M0 M129 0 1 0) = 1) ∧ ((M129.1 98 6).toInt ≤ 900) ∧ (b01 (PI M129) = 1) ∧ (900 - (M129.1 98 6).toInt) < (n126 : Int)) → INV pr Kz M129 → FR [98, 102] M0 M129 → jj p l e (cn_R 8) s m args below meth c 0 0 Q 2 dC dI ad cA A M129 5 [(0, .ref (ad 98)), (1, .int (sI 6))] [] := by
    intro n126
    induction n126 with
    | zero =>
      intro M129 h130 hM129 fM129
      exfalso; omega
    | succ n126 ih127 =>
      intro M129 h130 hM129 fM129
      have u131l := ri_l (M := M129) (by omega)
      refine j_aload_n C 0 0 dX12_readTerm_5 rfl rfl ?_
      refine y_bipush C dX12_readTerm_6 rfl ?_
      refine j_callVi C (d := 6) (As := [.int (sI 34)]) (st := []) 98 (s_lt rfl rfl) (s_kc (c := 11) rfl rfl) (by decide) rfl (s1_X12_eats hM129 hpr 34 (by omega) (by omega) (by omega) (by omega)) gX12_readTerm_X12_eats rfl hdX12_eats (by decide) (Nat.le_of_ble_eq_true rfl) dX12_readTerm_8 rfl (fun r132 M133 h134 => ?_)
      obtain ⟨a136, rfl, hM133, fM133, h135⟩ := h134
      refine y_if_eq C 29 dX12_readTerm_11 (by decide) (by omega) (fun h137 => ?_) (fun h137 => ?_)
      · have u149c := xw_c (N := M129) (P := M133) 0 (FR.cell fM133 (by decide)) (by omega)
        have u149t := xw_t (M := M0) (N := M129) (P := M133) (r1 := 0) (e1 := 1) (s1 := 0) (r2 := 0) (e2 := 0) (s2 := 0) 0 1 0 (by decide) (by omega) (by omega)
        have u149a := ca_x (M := M0) (N := M133) (r := 0) (e := 1) (s := 0) (by decide) (by omega) (by omega)
        exact hret _ _ _ dX12_readTerm_29 ⟨hM133, ((FR.rf.tr fM129 (by decide)).tr fM133 (by decide)), by omega⟩
      · have u138c := xw_c (N := M129) (P := M133) 1 (FR.cell fM133 (by decide)) (by omega)
        have u138t := xw_t (M := M0) (N := M129) (P := M133) (r1 := 0) (e1 := 1) (s1 := 0) (r2 := 0) (e2 := 0) (s2 := 1) 0 1 1 (by decide) (by omega) (by omega)
        have u138a := ca_x (M := M0) (N := M133) (r := 0) (e := 1) (s := 1) (by decide) (by omega) (by omega)
        have u138l := ri_l (M := M133) (by omega)
        refine j_aload_n C 0 0 dX12_readTerm_14 rfl rfl ?_
        refine j_iload_n C 1 1 dX12_readTerm_15 rfl rfl ?_
        refine j_callVv C (d := 7) (As := [.int (sI 6)]) (st := []) 98 (s_lt rfl rfl) (s_kc (c := 11) rfl rfl) (by decide) rfl (s1_X12_readAtom hM133 hpr (by omega) (by omega) (by omega)) gX12_readTerm_X12_readAtom rfl hdX12_readAtom (by decide) (Nat.le_of_ble_eq_true rfl) dX12_readTerm_16 rfl (fun M140 h141 => ?_)
        obtain ⟨hM140, fM140, h142⟩ := h141
        have u143t := xw_t (M := M0) (N := M133) (P := M140) (r1 := 0) (e1 := 1) (s1 := 1) (r2 := 0) (e2 := 1) (s2 := 0) 0 2 1 (by decide) (by omega) (by omega)
        have u143l := ri_l (M := M140) (by omega)
        have u143b := cb_x (M := M0) (N := M140) (r := 0) (e := 2) (s := 1) (by decide) (by omega) (by omega) (by omega)
        refine j_aload_n C 0 0 dX12_readTerm_19 rfl rfl ?_
        refine y_sipush C dX12_readTerm_20 rfl ?_
        refine j_callVv C (d := 0) (As := [.int (sI 3002)]) (st := []) 98 (s_lt rfl rfl) (s_kc (c := 11) rfl rfl) (by decide) rfl (s1_X12_codes hM140 hpr 3002 (by omega) (by omega) (by omega)) gX12_readTerm_X12_codes rfl hdX12_codes (by decide) (Nat.le_of_ble_eq_true rfl) dX12_readTerm_23 rfl (fun M145 h146 => ?_)
        obtain ⟨hM145, fM145, h147⟩ := h146
        refine j_goto C 5 dX12_readTerm_26 (by decide) ?_
        have u148x := xw_a (M := M140) (N := M145) (c := 3002) (r := 2) (e := (-1)) (FR.cell fM145 (by decide)) (ap_bin ⟨(INV.rd hM140 (i := 102) (c := 48) (k := 280) rfl rfl).1, by omega, by omega⟩) (by omega)
        have u148t := xw_t (M := M0) (N := M140) (P := M145) (r1 := 0) (e1 := 2) (s1 := 1) (r2 := 2) (e2 := (-1)) (s2 := (-1)) 0 1 0 (by decide) (by omega) (by omega)
        have u148i := ri_c (M := M140) (N := M145) (FR.cell fM145 (by decide)) (by omega)
        have u148l := ri_l (M := M145) (by omega)
        have zz98_8 : (M145.1 98 8).toInt = (M140.1 98 8).toInt := s_fF fM145 (by decide) (rfl); have zz98_6 : (M145.1 98 6).toInt = (M140.1 98 6).toInt := s_fF fM145 (by decide) (rfl); exact ih127 M145 (by omega) hM145 ((((FR.rf.tr fM129 (by decide)).tr fM133 (by decide)).tr fM140 (by decide)).tr fM145 (by decide))
  exact L128 2010 M103 (by omega) hM103 (FR.rf.tr fM103 (by decide))
set_option maxHeartbeats 4000000 in
theorem s1_X12_readSum {l : Launch} {dC : Nat → ClassId} {dI : Nat → Nat → Nat} {ad : Nat → Nat} {cA : Nat → ClassId} {pr : Nat → Nat → Bool} {Kz : mm_M} {M0 : mm_M} (hM0 : INV pr Kz M0) (hpr : PM pr)  (hp0 : b01 (RIP M0) = 1) (hp1 : b01 (CA M0) = 1) (hp2 : b01 (PI M0) = 1) : Cv l 9 yX12_readSum wsX12_readSum dC dI ad cA [.ref (ad 98), .int (sI 6)] M0 (fun M' => INV pr Kz M' ∧ FR [98, 102] M0 M' ∧ (b01 (RIP M') = 1) ∧ ((M'.1 98 8).toInt = (M0.1 98 8).toInt) ∧ ((M0.1 98 6).toInt ≤ (M'.1 98 6).toInt) ∧ (b01 (XW M0 M' 0 1 0) = 1) ∧ (b01 (CA M') = 1) ∧ (b01 (PI M') = 1)) := by
  refine cv_of (cc := cX12_readSum) (maxL := 3) (lv := [(0, .ref (ad 98)), (1, .int (sI 6))]) (by decide) rfl (Nat.le_of_ble_eq_true rfl) rfl ?_
  intro p e s m args below meth c A Q C hret
  have u101z := xw_0 M0
  have u101l := ri_l (M := M0) (by omega)
  refine j_aload_n C 0 0 dX12_readSum_0 rfl rfl ?_
  refine j_iload_n C 1 1 dX12_readSum_1 rfl rfl ?_
  refine j_callVv C (d := 8) (As := [.int (sI 6)]) (st := []) 98 (s_lt rfl rfl) (s_kc (c := 11) rfl rfl) (by decide) rfl (s1_X12_readTerm hM0 hpr (by omega) (by omega) (by omega)) gX12_readSum_X12_readTerm rfl hdX12_readTerm (by decide) (Nat.le_of_ble_eq_true rfl) dX12_readSum_2 rfl (fun M103 h104 => ?_)
  obtain ⟨hM103, fM103, h105⟩ := h104
  have u106l := ri_l (M := M103) (by omega)
  have L167 : ∀ (n165 : Nat), ∀ (M168 : mm_M), ((b01 (RIP M168) = 1) ∧ ((M168.1 98 8).toInt = (M0.1 98 8).toInt) ∧ ((M0.1 98 6).toInt ≤ (M168.1 98 6).toInt) ∧ (b01 (XW M0 M168 0 1 0) = 1) ∧ ((M168.1 98 6).toInt ≤ 900) ∧ (b01 (PI M168) = 1) ∧ (900 - (M168.1 98 6).toInt) < (n165 : Int)) → INV pr Kz M168 → FR [98, 102] M0 M168 → jj p l e (cn_R 9) s m args below meth c 0 0 Q 3 dC dI ad cA A M168 5 [(0, .ref (ad 98)), (1, .int (sI 6))] [] := by
    intro n165
    induction n165 with
    | zero =>
      intro M168 h169 hM168 fM168
      exfalso; omega
    | succ n165 ih166 =>
      intro M168 h169 hM168 fM168
      have u170l := ri_l (M := M168) (by omega)
      refine j_aload_n C 0 0 dX12_readSum_5 rfl rfl ?_
      refine y_bipush C dX12_readSum_6 rfl ?_
      refine j_callVi C (d := 0) (As := [.int (sI 32)]) (st := []) 98 (s_lt rfl rfl) (s_kc (c := 11) rfl rfl) (by decide) rfl (s1_X12_is hM168 32 (by omega)) gX12_readSum_X12_is rfl hdX12_is (by decide) (Nat.le_of_ble_eq_true rfl) dX12_readSum_8 rfl (fun r171 M172 h173 => ?_)
      obtain ⟨a175, rfl, rfl, h174⟩ := h173
      refine y_if_ne C 23 dX12_readSum_11 (by decide) (by omega) (fun h176 => ?_) (fun h176 => ?_)
      · refine j_aload_n C 0 0 dX12_readSum_23 rfl rfl ?_
        refine y_getI C 11 _ _ fX12_readSum_108 rfl rfl ft_11_9 sb_11_9 hM168 dX12_readSum_24 (fun a177 ea177 la177 ua177 => ?_)
        obtain rfl : a177 = (M168.1 98 9).toInt := ea177
        refine y_bipush C dX12_readSum_27 rfl ?_
        have J181 : ∀ (a180 : Int), (3000 ≤ a180 ∧ a180 ≤ 3001) → jj p l e (cn_R 9) s m args below meth c 0 0 Q 3 dC dI ad cA A M168 41 [(0, .ref (ad 98)), (1, .int (sI 6))] [.int (sI a180)] := by
          intro a180 h182
          refine j_istore_n C 2 [(2, .int (sI a180)), (0, .ref (ad 98)), (1, .int (sI 6))] dX12_readSum_41 rfl (by decide) rfl ?_
          have u183k := ri_k (M := M168) (by omega) (by omega)
          refine j_aload_n C 1 0 dX12_readSum_42 rfl rfl ?_
          refine j_callVv C (d := 5) (As := []) (st := []) 98 (s_lt rfl rfl) (s_kc (c := 11) rfl rfl) (by decide) rfl (s1_X12_next hM168 hpr (by omega) (by omega) (by omega)) gX12_readSum_X12_next rfl hdX12_next (by decide) (Nat.le_of_ble_eq_true rfl) dX12_readSum_43 rfl (fun M185 h186 => ?_)
          obtain ⟨hM185, fM185, h187⟩ := h186
          have u188c := xw_c (N := M168) (P := M185) 1 (FR.cell fM185 (by decide)) (by omega)
          have u188t := xw_t (M := M0) (N := M168) (P := M185) (r1 := 0) (e1 := 1) (s1 := 0) (r2 := 0) (e2 := 0) (s2 := 1) 0 1 1 (by decide) (by omega) (by omega)
          have u188a := ca_x (M := M0) (N := M185) (r := 0) (e := 1) (s := 1) (by decide) (by omega) (by omega)
          have u188l := ri_l (M := M185) (by omega)
          refine j_aload_n C 1 0 dX12_readSum_46 rfl rfl ?_
          refine j_iload_n C 2 1 dX12_readSum_47 rfl rfl ?_
          refine j_callVv C (d := 8) (As := [.int (sI 6)]) (st := []) 98 (s_lt rfl rfl) (s_kc (c := 11) rfl rfl) (by decide) rfl (s1_X12_readTerm hM185 hpr (by omega) (by omega) (by omega)) gX12_readSum_X12_readTerm rfl hdX12_readTerm (by decide) (Nat.le_of_ble_eq_true rfl) dX12_readSum_48 rfl (fun M190 h191 => ?_)
          obtain ⟨hM190, fM190, h192⟩ := h191
          have u193t := xw_t (M := M0) (N := M185) (P := M190) (r1 := 0) (e1 := 1) (s1 := 1) (r2 := 0) (e2 := 1) (s2 := 0) 0 2 1 (by decide) (by omega) (by omega)
          have u193l := ri_l (M := M190) (by omega)
          have u193b := cb_x (M := M0) (N := M190) (r := 0) (e := 2) (s := 1) (by decide) (by omega) (by omega) (by omega)
          refine j_aload_n C 1 0 dX12_readSum_51 rfl rfl ?_
          refine j_iload_n C 0 2 dX12_readSum_52 rfl rfl ?_
          refine j_callVv C (d := 0) (As := [.int (sI a180)]) (st := []) 98 (s_lt rfl rfl) (s_kc (c := 11) rfl rfl) (by decide) rfl (s1_X12_codes hM190 hpr a180 (by omega) (by omega) (by omega)) gX12_readSum_X12_codes rfl hdX12_codes (by decide) (Nat.le_of_ble_eq_true rfl) dX12_readSum_53 rfl (fun M195 h196 => ?_)
          obtain ⟨hM195, fM195, h197⟩ := h196
          refine j_goto C 5 dX12_readSum_56 (by decide) ?_
          have u198x := xw_a (M := M190) (N := M195) (c := a180) (r := 2) (e := (-1)) (FR.cell fM195 (by decide)) (ap_bin ⟨(INV.rd hM190 (i := 102) (c := 48) (k := 280) rfl rfl).1, by omega, by omega⟩) (by omega)
          have u198t := xw_t (M := M0) (N := M190) (P := M195) (r1 := 0) (e1 := 2) (s1 := 1) (r2 := 2) (e2 := (-1)) (s2 := (-1)) 0 1 0 (by decide) (by omega) (by omega)
          have u198i := ri_c (M := M190) (N := M195) (FR.cell fM195 (by decide)) (by omega)
          have u198l := ri_l (M := M195) (by omega)
          have zz98_8 : (M195.1 98 8).toInt = (M190.1 98 8).toInt := s_fF fM195 (by decide) (rfl); have zz98_6 : (M195.1 98 6).toInt = (M190.1 98 6).toInt := s_fF fM195 (by decide) (rfl); refine j_lv [1, 2] rfl ?_; exact ih166 M195 (by omega) hM195 ((((FR.rf.tr fM168 (by decide)).tr fM185 (by decide)).tr fM190 (by decide)).tr fM195 (by decide))
        refine y_icmp_ne C 38 dX12_readSum_29 (by decide) (by omega) (fun h179 => ?_) (fun h179 => ?_)
        · refine y_sipush C dX12_readSum_38 rfl ?_
          exact J181 3001 (by omega)
        · refine y_sipush C dX12_readSum_32 rfl ?_
          refine j_goto C 41 dX12_readSum_35 (by decide) ?_
          exact J181 3000 (by omega)
      · refine j_aload_n C 0 0 dX12_readSum_14 rfl rfl ?_
        refine y_bipush C dX12_readSum_15 rfl ?_
        refine j_callVi C (d := 0) (As := [.int (sI 33)]) (st := []) 98 (s_lt rfl rfl) (s_kc (c := 11) rfl rfl) (by decide) rfl (s1_X12_is hM168 33 (by omega)) gX12_readSum_X12_is rfl hdX12_is (by decide) (Nat.le_of_ble_eq_true rfl) dX12_readSum_17 rfl (fun r199 M200 h201 => ?_)
        obtain ⟨a203, rfl, rfl, h202⟩ := h201
        refine y_if_eq C 59 dX12_readSum_20 (by decide) (by omega) (fun h204 => ?_) (fun h204 => ?_)
        · have u227a := ca_x (M := M0) (N := M168) (r := 0) (e := 1) (s := 0) (by decide) (by omega) (by omega)
          exact hret _ _ _ dX12_readSum_59 ⟨hM168, (FR.rf.tr fM168 (by decide)), by omega⟩
        · refine j_aload_n C 0 0 dX12_readSum_23 rfl rfl ?_
          refine y_getI C 11 _ _ fX12_readSum_108 rfl rfl ft_11_9 sb_11_9 hM168 dX12_readSum_24 (fun a205 ea205 la205 ua205 => ?_)
          obtain rfl : a205 = (M168.1 98 9).toInt := ea205
          refine y_bipush C dX12_readSum_27 rfl ?_
          have J209 : ∀ (a208 : Int), (3000 ≤ a208 ∧ a208 ≤ 3001) → jj p l e (cn_R 9) s m args below meth c 0 0 Q 3 dC dI ad cA A M168 41 [(0, .ref (ad 98)), (1, .int (sI 6))] [.int (sI a208)] := by
            intro a208 h210
            refine j_istore_n C 2 [(2, .int (sI a208)), (0, .ref (ad 98)), (1, .int (sI 6))] dX12_readSum_41 rfl (by decide) rfl ?_
            have u211k := ri_k (M := M168) (by omega) (by omega)
            refine j_aload_n C 1 0 dX12_readSum_42 rfl rfl ?_
            refine j_callVv C (d := 5) (As := []) (st := []) 98 (s_lt rfl rfl) (s_kc (c := 11) rfl rfl) (by decide) rfl (s1_X12_next hM168 hpr (by omega) (by omega) (by omega)) gX12_readSum_X12_next rfl hdX12_next (by decide) (Nat.le_of_ble_eq_true rfl) dX12_readSum_43 rfl (fun M213 h214 => ?_)
            obtain ⟨hM213, fM213, h215⟩ := h214
            have u216c := xw_c (N := M168) (P := M213) 1 (FR.cell fM213 (by decide)) (by omega)
            have u216t := xw_t (M := M0) (N := M168) (P := M213) (r1 := 0) (e1 := 1) (s1 := 0) (r2 := 0) (e2 := 0) (s2 := 1) 0 1 1 (by decide) (by omega) (by omega)
            have u216a := ca_x (M := M0) (N := M213) (r := 0) (e := 1) (s := 1) (by decide) (by omega) (by omega)
            have u216l := ri_l (M := M213) (by omega)
            refine j_aload_n C 1 0 dX12_readSum_46 rfl rfl ?_
            refine j_iload_n C 2 1 dX12_readSum_47 rfl rfl ?_
            refine j_callVv C (d := 8) (As := [.int (sI 6)]) (st := []) 98 (s_lt rfl rfl) (s_kc (c := 11) rfl rfl) (by decide) rfl (s1_X12_readTerm hM213 hpr (by omega) (by omega) (by omega)) gX12_readSum_X12_readTerm rfl hdX12_readTerm (by decide) (Nat.le_of_ble_eq_true rfl) dX12_readSum_48 rfl (fun M218 h219 => ?_)
            obtain ⟨hM218, fM218, h220⟩ := h219
            have u221t := xw_t (M := M0) (N := M213) (P := M218) (r1 := 0) (e1 := 1) (s1 := 1) (r2 := 0) (e2 := 1) (s2 := 0) 0 2 1 (by decide) (by omega) (by omega)
            have u221l := ri_l (M := M218) (by omega)
            have u221b := cb_x (M := M0) (N := M218) (r := 0) (e := 2) (s := 1) (by decide) (by omega) (by omega) (by omega)
            refine j_aload_n C 1 0 dX12_readSum_51 rfl rfl ?_
            refine j_iload_n C 0 2 dX12_readSum_52 rfl rfl ?_
            refine j_callVv C (d := 0) (As := [.int (sI a208)]) (st := []) 98 (s_lt rfl rfl) (s_kc (c := 11) rfl rfl) (by decide) rfl (s1_X12_codes hM218 hpr a208 (by omega) (by omega) (by omega)) gX12_readSum_X12_codes rfl hdX12_codes (by decide) (Nat.le_of_ble_eq_true rfl) dX12_readSum_53 rfl (fun M223 h224 => ?_)
            obtain ⟨hM223, fM223, h225⟩ := h224
            refine j_goto C 5 dX12_readSum_56 (by decide) ?_
            have u226x := xw_a (M := M218) (N := M223) (c := a208) (r := 2) (e := (-1)) (FR.cell fM223 (by decide)) (ap_bin ⟨(INV.rd hM218 (i := 102) (c := 48) (k := 280) rfl rfl).1, by omega, by omega⟩) (by omega)
            have u226t := xw_t (M := M0) (N := M218) (P := M223) (r1 := 0) (e1 := 2) (s1 := 1) (r2 := 2) (e2 := (-1)) (s2 := (-1)) 0 1 0 (by decide) (by omega) (by omega)
            have u226i := ri_c (M := M218) (N := M223) (FR.cell fM223 (by decide)) (by omega)
            have u226l := ri_l (M := M223) (by omega)
            have zz98_8 : (M223.1 98 8).toInt = (M218.1 98 8).toInt := s_fF fM223 (by decide) (rfl); have zz98_6 : (M223.1 98 6).toInt = (M218.1 98 6).toInt := s_fF fM223 (by decide) (rfl); refine j_lv [1, 2] rfl ?_; exact ih166 M223 (by omega) hM223 ((((FR.rf.tr fM168 (by decide)).tr fM213 (by decide)).tr fM218 (by decide)).tr fM223 (by decide))
          refine y_icmp_ne C 38 dX12_readSum_29 (by decide) (by omega) (fun h207 => ?_) (fun h207 => ?_)
          · refine y_sipush C dX12_readSum_38 rfl ?_
            exact J209 3001 (by omega)
          · refine y_sipush C dX12_readSum_32 rfl ?_
            refine j_goto C 41 dX12_readSum_35 (by decide) ?_
            exact J209 3000 (by omega)
  exact L167 2010 M103 (by omega) hM103 (FR.rf.tr fM103 (by decide))
set_option maxHeartbeats 4000000 in
theorem s2_X12_readAtom {l : Launch} {dC : Nat → ClassId} {dI : Nat → Nat → Nat} {ad : Nat → Nat} {cA : Nat → ClassId} {pr : Nat → Nat → Bool} {Kz : mm_M} {M0 : mm_M} (hM0 : INV pr Kz M0) (hpr : PM pr)  (hp0 : b01 (RIP M0) = 1) (hp1 : b01 (CA M0) = 1) (hp2 : b01 (PI M0) = 1) : Cv l 10 yX12_readAtom wsX12_readAtom dC dI ad cA [.ref (ad 98), .int (sI 5)] M0 (fun M' => INV pr Kz M' ∧ FR [98, 102] M0 M' ∧ (b01 (RIP M') = 1) ∧ ((M'.1 98 8).toInt = (M0.1 98 8).toInt) ∧ ((M0.1 98 6).toInt ≤ (M'.1 98 6).toInt) ∧ (b01 (XW M0 M' 0 1 0) = 1) ∧ (b01 (CA M') = 1) ∧ (b01 (PI M') = 1)) := by
  refine cv_of (cc := cX12_readAtom) (maxL := 2) (lv := [(0, .ref (ad 98)), (1, .int (sI 5))]) (by decide) rfl (Nat.le_of_ble_eq_true rfl) rfl ?_
  intro p e s m args below meth c A Q C hret
  have u101z := xw_0 M0
  have u101l := ri_l (M := M0) (by omega)
  refine j_aload_n C 0 0 dX12_readAtom_0 rfl rfl ?_
  refine y_bipush C dX12_readAtom_1 rfl ?_
  refine j_callVi C (d := 0) (As := [.int (sI 23)]) (st := []) 98 (s_lt rfl rfl) (s_kc (c := 11) rfl rfl) (by decide) rfl (s1_X12_is hM0 23 (by omega)) gX12_readAtom_X12_is rfl hdX12_is (by decide) (Nat.le_of_ble_eq_true rfl) dX12_readAtom_3 rfl (fun r102 M103 h104 => ?_)
  obtain ⟨a106, rfl, rfl, h105⟩ := h104
  refine y_if_eq C 24 dX12_readAtom_6 (by decide) (by omega) (fun h107 => ?_) (fun h107 => ?_)
  · refine j_aload_n C 0 0 dX12_readAtom_24 rfl rfl ?_
    refine y_getI C 11 _ _ fX12_readAtom_126 rfl rfl ft_11_11 sb_11_11 hM0 dX12_readAtom_25 (fun a108 ea108 la108 ua108 => ?_)
    obtain rfl : a108 = (M0.1 98 11).toInt := ea108
    refine y_if_ne C 66 dX12_readAtom_28 (by decide) (by omega) (fun h110 => ?_) (fun h110 => ?_)
    · refine j_aload_n C 0 0 dX12_readAtom_66 rfl rfl ?_
      refine y_bipush C dX12_readAtom_67 rfl ?_
      refine j_callVi C (d := 0) (As := [.int (sI 35)]) (st := []) 98 (s_lt rfl rfl) (s_kc (c := 11) rfl rfl) (by decide) rfl (s1_X12_is hM0 35 (by omega)) gX12_readAtom_X12_is rfl hdX12_is (by decide) (Nat.le_of_ble_eq_true rfl) dX12_readAtom_69 rfl (fun r111 M112 h113 => ?_)
      obtain ⟨a115, rfl, rfl, h114⟩ := h113
      refine y_if_eq C 108 dX12_readAtom_72 (by decide) (by omega) (fun h116 => ?_) (fun h116 => ?_)
      · refine j_aload_n C 0 0 dX12_readAtom_108 rfl rfl ?_
        refine y_iconst C dX12_readAtom_109 ?_
        refine j_callVv C (d := 0) (As := [.int (sI 2)]) (st := []) 98 (s_lt rfl rfl) (s_kc (c := 11) rfl rfl) (by decide) rfl (s1_X12_fails hM0 hpr 2 (by omega) (by omega) (by omega) (by omega)) gX12_readAtom_X12_fails rfl hdX12_fails (by decide) (Nat.le_of_ble_eq_true rfl) dX12_readAtom_110 rfl (fun M118 h119 => ?_)
        obtain ⟨hM118, fM118, h120⟩ := h119
        have u121f : b01 (XW M0 M118 0 1 0) = 1 := b01_i (Or.inl (by omega))
        have u121a := ca_x (M := M0) (N := M118) (r := 0) (e := 1) (s := 0) (by decide) (by omega) (by omega)
        exact hret _ _ _ dX12_readAtom_113 ⟨hM118, (FR.rf.tr fM118 (by decide)), by omega⟩
      · have u122k := ri_k (M := M0) (by omega) (by omega)
        refine j_aload_n C 0 0 dX12_readAtom_75 rfl rfl ?_
        refine j_iload_n C 1 1 dX12_readAtom_76 rfl rfl ?_
        refine j_callVi C (d := 6) (As := [.int (sI 5)]) (st := []) 98 (s_lt rfl rfl) (s_kc (c := 11) rfl rfl) (by decide) rfl (s6_X12_goesIn hM0 hpr (by omega) (by omega)) gX12_readAtom_X12_goesIn rfl hdX12_goesIn (by decide) (Nat.le_of_ble_eq_true rfl) dX12_readAtom_77 rfl (fun r123 M124 h125 => ?_)
        obtain ⟨a127, rfl, hM124, fM124, h126⟩ := h125
        refine y_if_ne C 84 dX12_readAtom_80 (by decide) (by omega) (fun h128 => ?_) (fun h128 => ?_)
        · have u129c := xw_c (N := M0) (P := M124) 1 (FR.cell fM124 (by decide)) (by omega)
          have u129t := xw_t (M := M0) (N := M0) (P := M124) (r1 := 0) (e1 := 0) (s1 := 0) (r2 := 0) (e2 := 0) (s2 := 1) 0 0 1 (by decide) (by omega) (by omega)
          have u129a := ca_x (M := M0) (N := M124) (r := 0) (e := 0) (s := 1) (by decide) (by omega) (by omega)
          have u129l := ri_l (M := M124) (by omega)
          refine j_aload_n C 0 0 dX12_readAtom_84 rfl rfl ?_
          refine j_iload_n C 1 1 dX12_readAtom_85 rfl rfl ?_
          refine y_iconst C dX12_readAtom_86 ?_
          refine y_iadd C dX12_readAtom_87 ?_
          refine j_callVv C (d := 9) (As := [.int (sI (5 + 1))]) (st := []) 98 (s_lt rfl rfl) (s_kc (c := 11) rfl rfl) (by decide) rfl (s1_X12_readSum hM124 hpr (by omega) (by omega) (by omega)) gX12_readAtom_X12_readSum rfl hdX12_readSum (by decide) (Nat.le_of_ble_eq_true rfl) dX12_readAtom_88 rfl (fun M131 h132 => ?_)
          obtain ⟨hM131, fM131, h133⟩ := h132
          have u134t := xw_t (M := M0) (N := M124) (P := M131) (r1 := 0) (e1 := 0) (s1 := 1) (r2 := 0) (e2 := 1) (s2 := 0) 0 1 1 (by decide) (by omega) (by omega)
          have u134l := ri_l (M := M131) (by omega)
          refine j_aload_n C 0 0 dX12_readAtom_91 rfl rfl ?_
          refine y_bipush C dX12_readAtom_92 rfl ?_
          refine j_callVi C (d := 6) (As := [.int (sI 36)]) (st := []) 98 (s_lt rfl rfl) (s_kc (c := 11) rfl rfl) (by decide) rfl (s1_X12_eats hM131 hpr 36 (by omega) (by omega) (by omega) (by omega)) gX12_readAtom_X12_eats rfl hdX12_eats (by decide) (Nat.le_of_ble_eq_true rfl) dX12_readAtom_94 rfl (fun r135 M136 h137 => ?_)
          obtain ⟨a139, rfl, hM136, fM136, h138⟩ := h137
          have u140c := xw_c (N := M131) (P := M136) 0 (FR.cell fM136 (by decide)) (by omega)
          have u140t := xw_t (M := M0) (N := M131) (P := M136) (r1 := 0) (e1 := 1) (s1 := 1) (r2 := 0) (e2 := 0) (s2 := 0) 0 1 0 (by decide) (by omega) (by omega)
          have u140a := ca_x (M := M0) (N := M136) (r := 0) (e := 1) (s := 0) (by decide) (by omega) (by omega)
          have u140l := ri_l (M := M136) (by omega)
          refine y_if_ne C 113 dX12_readAtom_97 (by decide) (by omega) (fun h141 => ?_) (fun h141 => ?_)
          · exact hret _ _ _ dX12_readAtom_113 ⟨hM136, (((FR.rf.tr fM124 (by decide)).tr fM131 (by decide)).tr fM136 (by decide)), by omega⟩
          · refine j_aload_n C 0 0 dX12_readAtom_100 rfl rfl ?_
            refine y_iconst C dX12_readAtom_101 ?_
            refine j_callVv C (d := 0) (As := [.int (sI 2)]) (st := []) 98 (s_lt rfl rfl) (s_kc (c := 11) rfl rfl) (by decide) rfl (s1_X12_fails hM136 hpr 2 (by omega) (by omega) (by omega) (by omega)) gX12_readAtom_X12_fails rfl hdX12_fails (by decide) (Nat.le_of_ble_eq_true rfl) dX12_readAtom_102 rfl (fun M144 h145 => ?_)
            obtain ⟨hM144, fM144, h146⟩ := h145
            have u147f : b01 (XW M0 M144 0 1 0) = 1 := b01_i (Or.inl (by omega))
            have u147a := ca_x (M := M0) (N := M144) (r := 0) (e := 1) (s := 0) (by decide) (by omega) (by omega)
            refine j_goto C 113 dX12_readAtom_105 (by decide) ?_
            exact hret _ _ _ dX12_readAtom_113 ⟨hM144, ((((FR.rf.tr fM124 (by decide)).tr fM131 (by decide)).tr fM136 (by decide)).tr fM144 (by decide)), by omega⟩
        · have u149c := xw_c (N := M0) (P := M124) 0 (FR.cell fM124 (by decide)) (by omega)
          have u149f : b01 (XW M0 M124 0 1 0) = 1 := b01_i (Or.inl (by omega))
          have u149a := ca_x (M := M0) (N := M124) (r := 0) (e := 1) (s := 0) (by decide) (by omega) (by omega)
          exact hret _ _ _ dX12_readAtom_83 ⟨hM124, (FR.rf.tr fM124 (by decide)), by omega⟩
    · refine j_aload_n C 0 0 dX12_readAtom_31 rfl rfl ?_
      refine j_aload_n C 0 0 dX12_readAtom_32 rfl rfl ?_
      refine y_getI C 11 _ _ fX12_readAtom_108 rfl rfl ft_11_9 sb_11_9 hM0 dX12_readAtom_33 (fun a151 ea151 la151 ua151 => ?_)
      obtain rfl : a151 = (M0.1 98 9).toInt := ea151
      refine j_callVi C (d := 0) (As := [.int (sI (M0.1 98 9).toInt)]) (st := []) 98 (s_lt rfl rfl) (s_kc (c := 11) rfl rfl) (by decide) rfl (s1_X12_wordOf hM0 (M0.1 98 9).toInt (by omega)) gX12_readAtom_X12_wordOf rfl hdX12_wordOf (by decide) (Nat.le_of_ble_eq_true rfl) dX12_readAtom_36 rfl (fun r153 M154 h155 => ?_)
      obtain ⟨a157, rfl, rfl, h156⟩ := h155
      obtain rfl : a157 = (woF (M0.1 98 9).toInt) := by omega
      refine y_iconst C dX12_readAtom_39 ?_
      refine y_icmp_eq C 66 dX12_readAtom_40 (by decide) (by omega) (fun h158 => ?_) (fun h158 => ?_)
      · refine j_aload_n C 0 0 dX12_readAtom_66 rfl rfl ?_
        refine y_bipush C dX12_readAtom_67 rfl ?_
        refine j_callVi C (d := 0) (As := [.int (sI 35)]) (st := []) 98 (s_lt rfl rfl) (s_kc (c := 11) rfl rfl) (by decide) rfl (s1_X12_is hM0 35 (by omega)) gX12_readAtom_X12_is rfl hdX12_is (by decide) (Nat.le_of_ble_eq_true rfl) dX12_readAtom_69 rfl (fun r159 M160 h161 => ?_)
        obtain ⟨a163, rfl, rfl, h162⟩ := h161
        refine y_if_eq C 108 dX12_readAtom_72 (by decide) (by omega) (fun h164 => ?_) (fun h164 => ?_)
        · refine j_aload_n C 0 0 dX12_readAtom_108 rfl rfl ?_
          refine y_iconst C dX12_readAtom_109 ?_
          refine j_callVv C (d := 0) (As := [.int (sI 2)]) (st := []) 98 (s_lt rfl rfl) (s_kc (c := 11) rfl rfl) (by decide) rfl (s1_X12_fails hM0 hpr 2 (by omega) (by omega) (by omega) (by omega)) gX12_readAtom_X12_fails rfl hdX12_fails (by decide) (Nat.le_of_ble_eq_true rfl) dX12_readAtom_110 rfl (fun M166 h167 => ?_)
          obtain ⟨hM166, fM166, h168⟩ := h167
          have u169f : b01 (XW M0 M166 0 1 0) = 1 := b01_i (Or.inl (by omega))
          have u169a := ca_x (M := M0) (N := M166) (r := 0) (e := 1) (s := 0) (by decide) (by omega) (by omega)
          exact hret _ _ _ dX12_readAtom_113 ⟨hM166, (FR.rf.tr fM166 (by decide)), by omega⟩
        · have u170k := ri_k (M := M0) (by omega) (by omega)
          refine j_aload_n C 0 0 dX12_readAtom_75 rfl rfl ?_
          refine j_iload_n C 1 1 dX12_readAtom_76 rfl rfl ?_
          refine j_callVi C (d := 6) (As := [.int (sI 5)]) (st := []) 98 (s_lt rfl rfl) (s_kc (c := 11) rfl rfl) (by decide) rfl (s6_X12_goesIn hM0 hpr (by omega) (by omega)) gX12_readAtom_X12_goesIn rfl hdX12_goesIn (by decide) (Nat.le_of_ble_eq_true rfl) dX12_readAtom_77 rfl (fun r171 M172 h173 => ?_)
          obtain ⟨a175, rfl, hM172, fM172, h174⟩ := h173
          refine y_if_ne C 84 dX12_readAtom_80 (by decide) (by omega) (fun h176 => ?_) (fun h176 => ?_)
          · have u177c := xw_c (N := M0) (P := M172) 1 (FR.cell fM172 (by decide)) (by omega)
            have u177t := xw_t (M := M0) (N := M0) (P := M172) (r1 := 0) (e1 := 0) (s1 := 0) (r2 := 0) (e2 := 0) (s2 := 1) 0 0 1 (by decide) (by omega) (by omega)
            have u177a := ca_x (M := M0) (N := M172) (r := 0) (e := 0) (s := 1) (by decide) (by omega) (by omega)
            have u177l := ri_l (M := M172) (by omega)
            refine j_aload_n C 0 0 dX12_readAtom_84 rfl rfl ?_
            refine j_iload_n C 1 1 dX12_readAtom_85 rfl rfl ?_
            refine y_iconst C dX12_readAtom_86 ?_
            refine y_iadd C dX12_readAtom_87 ?_
            refine j_callVv C (d := 9) (As := [.int (sI (5 + 1))]) (st := []) 98 (s_lt rfl rfl) (s_kc (c := 11) rfl rfl) (by decide) rfl (s1_X12_readSum hM172 hpr (by omega) (by omega) (by omega)) gX12_readAtom_X12_readSum rfl hdX12_readSum (by decide) (Nat.le_of_ble_eq_true rfl) dX12_readAtom_88 rfl (fun M179 h180 => ?_)
            obtain ⟨hM179, fM179, h181⟩ := h180
            have u182t := xw_t (M := M0) (N := M172) (P := M179) (r1 := 0) (e1 := 0) (s1 := 1) (r2 := 0) (e2 := 1) (s2 := 0) 0 1 1 (by decide) (by omega) (by omega)
            have u182l := ri_l (M := M179) (by omega)
            refine j_aload_n C 0 0 dX12_readAtom_91 rfl rfl ?_
            refine y_bipush C dX12_readAtom_92 rfl ?_
            refine j_callVi C (d := 6) (As := [.int (sI 36)]) (st := []) 98 (s_lt rfl rfl) (s_kc (c := 11) rfl rfl) (by decide) rfl (s1_X12_eats hM179 hpr 36 (by omega) (by omega) (by omega) (by omega)) gX12_readAtom_X12_eats rfl hdX12_eats (by decide) (Nat.le_of_ble_eq_true rfl) dX12_readAtom_94 rfl (fun r183 M184 h185 => ?_)
            obtain ⟨a187, rfl, hM184, fM184, h186⟩ := h185
            have u188c := xw_c (N := M179) (P := M184) 0 (FR.cell fM184 (by decide)) (by omega)
            have u188t := xw_t (M := M0) (N := M179) (P := M184) (r1 := 0) (e1 := 1) (s1 := 1) (r2 := 0) (e2 := 0) (s2 := 0) 0 1 0 (by decide) (by omega) (by omega)
            have u188a := ca_x (M := M0) (N := M184) (r := 0) (e := 1) (s := 0) (by decide) (by omega) (by omega)
            have u188l := ri_l (M := M184) (by omega)
            refine y_if_ne C 113 dX12_readAtom_97 (by decide) (by omega) (fun h189 => ?_) (fun h189 => ?_)
            · exact hret _ _ _ dX12_readAtom_113 ⟨hM184, (((FR.rf.tr fM172 (by decide)).tr fM179 (by decide)).tr fM184 (by decide)), by omega⟩
            · refine j_aload_n C 0 0 dX12_readAtom_100 rfl rfl ?_
              refine y_iconst C dX12_readAtom_101 ?_
              refine j_callVv C (d := 0) (As := [.int (sI 2)]) (st := []) 98 (s_lt rfl rfl) (s_kc (c := 11) rfl rfl) (by decide) rfl (s1_X12_fails hM184 hpr 2 (by omega) (by omega) (by omega) (by omega)) gX12_readAtom_X12_fails rfl hdX12_fails (by decide) (Nat.le_of_ble_eq_true rfl) dX12_readAtom_102 rfl (fun M192 h193 => ?_)
              obtain ⟨hM192, fM192, h194⟩ := h193
              have u195f : b01 (XW M0 M192 0 1 0) = 1 := b01_i (Or.inl (by omega))
              have u195a := ca_x (M := M0) (N := M192) (r := 0) (e := 1) (s := 0) (by decide) (by omega) (by omega)
              refine j_goto C 113 dX12_readAtom_105 (by decide) ?_
              exact hret _ _ _ dX12_readAtom_113 ⟨hM192, ((((FR.rf.tr fM172 (by decide)).tr fM179 (by decide)).tr fM184 (by decide)).tr fM192 (by decide)), by omega⟩
          · have u197c := xw_c (N := M0) (P := M172) 0 (FR.cell fM172 (by decide)) (by omega)
            have u197f : b01 (XW M0 M172 0 1 0) = 1 := b01_i (Or.inl (by omega))
            have u197a := ca_x (M := M0) (N := M172) (r := 0) (e := 1) (s := 0) (by decide) (by omega) (by omega)
            exact hret _ _ _ dX12_readAtom_83 ⟨hM172, (FR.rf.tr fM172 (by decide)), by omega⟩
      · have u199w := woF_s (M0.1 98 9).toInt
        have u199k := ri_k (M := M0) (by omega) (by omega)
        have u199b := cb_0 (M := M0) (by omega) (by omega)
        refine j_aload_n C 0 0 dX12_readAtom_43 rfl rfl ?_
        refine y_sipush C dX12_readAtom_44 rfl ?_
        refine j_aload_n C 0 0 dX12_readAtom_47 rfl rfl ?_
        refine j_aload_n C 0 0 dX12_readAtom_48 rfl rfl ?_
        refine y_getI C 11 _ _ fX12_readAtom_108 rfl rfl ft_11_9 sb_11_9 hM0 dX12_readAtom_49 (fun a200 ea200 la200 ua200 => ?_)
        obtain rfl : a200 = (M0.1 98 9).toInt := ea200
        refine j_callVi C (d := 0) (As := [.int (sI (M0.1 98 9).toInt)]) (st := [.int (sI 1000), .ref (ad 98)]) 98 (s_lt rfl rfl) (s_kc (c := 11) rfl rfl) (by decide) rfl (s1_X12_wordOf hM0 (M0.1 98 9).toInt (by omega)) gX12_readAtom_X12_wordOf rfl hdX12_wordOf (by decide) (Nat.le_of_ble_eq_true rfl) dX12_readAtom_52 rfl (fun r202 M203 h204 => ?_)
        obtain ⟨a206, rfl, rfl, h205⟩ := h204
        obtain rfl : a206 = (woF (M0.1 98 9).toInt) := by omega
        refine y_iadd C dX12_readAtom_55 ?_
        refine j_callVv C (d := 0) (As := [.int (sI (1000 + (woF (M0.1 98 9).toInt)))]) (st := []) 98 (s_lt rfl rfl) (s_kc (c := 11) rfl rfl) (by decide) rfl (s1_X12_codes hM0 hpr (1000 + (woF (M0.1 98 9).toInt)) (by omega) (by omega) (by omega)) gX12_readAtom_X12_codes rfl hdX12_codes (by decide) (Nat.le_of_ble_eq_true rfl) dX12_readAtom_56 rfl (fun M208 h209 => ?_)
        obtain ⟨hM208, fM208, h210⟩ := h209
        have u211x := xw_a (M := M0) (N := M208) (c := (1000 + (woF (M0.1 98 9).toInt))) (r := 0) (e := 1) (FR.cell fM208 (by decide)) (ap_push ⟨(INV.rd hM0 (i := 102) (c := 48) (k := 280) rfl rfl).1, by omega, by omega⟩) (by omega)
        have u211t := xw_t (M := M0) (N := M0) (P := M208) (r1 := 0) (e1 := 0) (s1 := 0) (r2 := 0) (e2 := 1) (s2 := (-1)) 0 1 (-1) (by decide) (by omega) (by omega)
        have u211i := ri_c (M := M0) (N := M208) (FR.cell fM208 (by decide)) (by omega)
        have u211l := ri_l (M := M208) (by omega)
        have u211q6 : (M208.1 98 6).toInt = (M0.1 98 6).toInt := by rw [show M208.1 98 = M0.1 98 from FR.cell fM208 (by decide)]
        have u211q7 : (M208.1 98 7).toInt = (M0.1 98 7).toInt := by rw [show M208.1 98 = M0.1 98 from FR.cell fM208 (by decide)]
        have u211q8 : (M208.1 98 8).toInt = (M0.1 98 8).toInt := by rw [show M208.1 98 = M0.1 98 from FR.cell fM208 (by decide)]
        have u211q9 : (M208.1 98 9).toInt = (M0.1 98 9).toInt := by rw [show M208.1 98 = M0.1 98 from FR.cell fM208 (by decide)]
        have u211q11 : (M208.1 98 11).toInt = (M0.1 98 11).toInt := by rw [show M208.1 98 = M0.1 98 from FR.cell fM208 (by decide)]
        refine j_aload_n C 0 0 dX12_readAtom_59 rfl rfl ?_
        have zz98_7 : (M208.1 98 7).toInt = (M0.1 98 7).toInt := s_fF fM208 (by decide) (rfl)
        have zz98_8 : (M208.1 98 8).toInt = (M0.1 98 8).toInt := s_fF fM208 (by decide) (rfl)
        refine j_callVv C (d := 5) (As := []) (st := []) 98 (s_lt rfl rfl) (s_kc (c := 11) rfl rfl) (by decide) rfl (s1_X12_next hM208 hpr (by omega) (by omega) (by omega)) gX12_readAtom_X12_next rfl hdX12_next (by decide) (Nat.le_of_ble_eq_true rfl) dX12_readAtom_60 rfl (fun M213 h214 => ?_)
        obtain ⟨hM213, fM213, h215⟩ := h214
        have u216c := xw_c (N := M208) (P := M213) 1 (FR.cell fM213 (by decide)) (by omega)
        have u216t := xw_t (M := M0) (N := M208) (P := M213) (r1 := 0) (e1 := 1) (s1 := (-1)) (r2 := 0) (e2 := 0) (s2 := 1) 0 1 0 (by decide) (by omega) (by omega)
        have u216a := ca_x (M := M0) (N := M213) (r := 0) (e := 1) (s := 0) (by decide) (by omega) (by omega)
        refine j_goto C 113 dX12_readAtom_63 (by decide) ?_
        exact hret _ _ _ dX12_readAtom_113 ⟨hM213, ((FR.rf.tr fM208 (by decide)).tr fM213 (by decide)), by omega⟩
  · have u218k := ri_k (M := M0) (by omega) (by omega)
    have u218b := cb_0 (M := M0) (by omega) (by omega)
    refine j_aload_n C 0 0 dX12_readAtom_9 rfl rfl ?_
    refine j_aload_n C 0 0 dX12_readAtom_10 rfl rfl ?_
    refine y_getI C 11 _ _ fX12_readAtom_121 rfl rfl ft_11_10 sb_11_10 hM0 dX12_readAtom_11 (fun a219 ea219 la219 ua219 => ?_)
    obtain rfl : a219 = (M0.1 98 10).toInt := ea219
    refine j_callVv C (d := 0) (As := [.int (sI (M0.1 98 10).toInt)]) (st := []) 98 (s_lt rfl rfl) (s_kc (c := 11) rfl rfl) (by decide) rfl (s1_X12_codes hM0 hpr (M0.1 98 10).toInt (by omega) (by omega) (by omega)) gX12_readAtom_X12_codes rfl hdX12_codes (by decide) (Nat.le_of_ble_eq_true rfl) dX12_readAtom_14 rfl (fun M222 h223 => ?_)
    obtain ⟨hM222, fM222, h224⟩ := h223
    have u225x := xw_a (M := M0) (N := M222) (c := (M0.1 98 10).toInt) (r := 0) (e := 1) (FR.cell fM222 (by decide)) (ap_push ⟨(INV.rd hM0 (i := 102) (c := 48) (k := 280) rfl rfl).1, by omega, by omega⟩) (by omega)
    have u225t := xw_t (M := M0) (N := M0) (P := M222) (r1 := 0) (e1 := 0) (s1 := 0) (r2 := 0) (e2 := 1) (s2 := (-1)) 0 1 (-1) (by decide) (by omega) (by omega)
    have u225i := ri_c (M := M0) (N := M222) (FR.cell fM222 (by decide)) (by omega)
    have u225l := ri_l (M := M222) (by omega)
    have u225q6 : (M222.1 98 6).toInt = (M0.1 98 6).toInt := by rw [show M222.1 98 = M0.1 98 from FR.cell fM222 (by decide)]
    have u225q7 : (M222.1 98 7).toInt = (M0.1 98 7).toInt := by rw [show M222.1 98 = M0.1 98 from FR.cell fM222 (by decide)]
    have u225q8 : (M222.1 98 8).toInt = (M0.1 98 8).toInt := by rw [show M222.1 98 = M0.1 98 from FR.cell fM222 (by decide)]
    have u225q9 : (M222.1 98 9).toInt = (M0.1 98 9).toInt := by rw [show M222.1 98 = M0.1 98 from FR.cell fM222 (by decide)]
    have u225q11 : (M222.1 98 11).toInt = (M0.1 98 11).toInt := by rw [show M222.1 98 = M0.1 98 from FR.cell fM222 (by decide)]
    refine j_aload_n C 0 0 dX12_readAtom_17 rfl rfl ?_
    have zz98_7 : (M222.1 98 7).toInt = (M0.1 98 7).toInt := s_fF fM222 (by decide) (rfl)
    have zz98_8 : (M222.1 98 8).toInt = (M0.1 98 8).toInt := s_fF fM222 (by decide) (rfl)
    refine j_callVv C (d := 5) (As := []) (st := []) 98 (s_lt rfl rfl) (s_kc (c := 11) rfl rfl) (by decide) rfl (s1_X12_next hM222 hpr (by omega) (by omega) (by omega)) gX12_readAtom_X12_next rfl hdX12_next (by decide) (Nat.le_of_ble_eq_true rfl) dX12_readAtom_18 rfl (fun M227 h228 => ?_)
    obtain ⟨hM227, fM227, h229⟩ := h228
    have u230c := xw_c (N := M222) (P := M227) 1 (FR.cell fM227 (by decide)) (by omega)
    have u230t := xw_t (M := M0) (N := M222) (P := M227) (r1 := 0) (e1 := 1) (s1 := (-1)) (r2 := 0) (e2 := 0) (s2 := 1) 0 1 0 (by decide) (by omega) (by omega)
    have u230a := ca_x (M := M0) (N := M227) (r := 0) (e := 1) (s := 0) (by decide) (by omega) (by omega)
    refine j_goto C 113 dX12_readAtom_21 (by decide) ?_
    exact hret _ _ _ dX12_readAtom_113 ⟨hM227, ((FR.rf.tr fM222 (by decide)).tr fM227 (by decide)), by omega⟩
set_option maxHeartbeats 4000000 in
theorem s2_X12_readTerm {l : Launch} {dC : Nat → ClassId} {dI : Nat → Nat → Nat} {ad : Nat → Nat} {cA : Nat → ClassId} {pr : Nat → Nat → Bool} {Kz : mm_M} {M0 : mm_M} (hM0 : INV pr Kz M0) (hpr : PM pr)  (hp0 : b01 (RIP M0) = 1) (hp1 : b01 (CA M0) = 1) (hp2 : b01 (PI M0) = 1) : Cv l 11 yX12_readTerm wsX12_readTerm dC dI ad cA [.ref (ad 98), .int (sI 5)] M0 (fun M' => INV pr Kz M' ∧ FR [98, 102] M0 M' ∧ (b01 (RIP M') = 1) ∧ ((M'.1 98 8).toInt = (M0.1 98 8).toInt) ∧ ((M0.1 98 6).toInt ≤ (M'.1 98 6).toInt) ∧ (b01 (XW M0 M' 0 1 0) = 1) ∧ (b01 (CA M') = 1) ∧ (b01 (PI M') = 1)) := by
  refine cv_of (cc := cX12_readTerm) (maxL := 2) (lv := [(0, .ref (ad 98)), (1, .int (sI 5))]) (by decide) rfl (Nat.le_of_ble_eq_true rfl) rfl ?_
  intro p e s m args below meth c A Q C hret
  have u101z := xw_0 M0
  have u101l := ri_l (M := M0) (by omega)
  refine j_aload_n C 0 0 dX12_readTerm_0 rfl rfl ?_
  refine j_iload_n C 1 1 dX12_readTerm_1 rfl rfl ?_
  refine j_callVv C (d := 10) (As := [.int (sI 5)]) (st := []) 98 (s_lt rfl rfl) (s_kc (c := 11) rfl rfl) (by decide) rfl (s2_X12_readAtom hM0 hpr (by omega) (by omega) (by omega)) gX12_readTerm_X12_readAtom rfl hdX12_readAtom (by decide) (Nat.le_of_ble_eq_true rfl) dX12_readTerm_2 rfl (fun M103 h104 => ?_)
  obtain ⟨hM103, fM103, h105⟩ := h104
  have u106l := ri_l (M := M103) (by omega)
  have L128 : ∀ (n126 : Nat), ∀ (M129 : mm_M), ((b01 (RIP M129) = 1) ∧ ((M129.1 98 8).toInt = (M0.1 98 8).toInt) ∧ ((M0.1 98 6).toInt ≤ (M129.1 98 6).toInt) ∧ (b01 (XW M0 M129 0 1 0) = 1) ∧ ((M129.1 98 6).toInt ≤ 900) ∧ (b01 (PI M129) = 1) ∧ (900 - (M129.1 98 6).toInt) < (n126 : Int)) → INV pr Kz M129 → FR [98, 102] M0 M129 → jj p l e (cn_R 11) s m args below meth c 0 0 Q 2 dC dI ad cA A M129 5 [(0, .ref (ad 98)), (1, .int (sI 5))] [] := by
    intro n126
    induction n126 with
    | zero =>
      intro M129 h130 hM129 fM129
      exfalso; omega
    | succ n126 ih127 =>
      intro M129 h130 hM129 fM129
      have u131l := ri_l (M := M129) (by omega)
      refine j_aload_n C 0 0 dX12_readTerm_5 rfl rfl ?_
      refine y_bipush C dX12_readTerm_6 rfl ?_
      refine j_callVi C (d := 6) (As := [.int (sI 34)]) (st := []) 98 (s_lt rfl rfl) (s_kc (c := 11) rfl rfl) (by decide) rfl (s1_X12_eats hM129 hpr 34 (by omega) (by omega) (by omega) (by omega)) gX12_readTerm_X12_eats rfl hdX12_eats (by decide) (Nat.le_of_ble_eq_true rfl) dX12_readTerm_8 rfl (fun r132 M133 h134 => ?_)
      obtain ⟨a136, rfl, hM133, fM133, h135⟩ := h134
      refine y_if_eq C 29 dX12_readTerm_11 (by decide) (by omega) (fun h137 => ?_) (fun h137 => ?_)
      · have u149c := xw_c (N := M129) (P := M133) 0 (FR.cell fM133 (by decide)) (by omega)
        have u149t := xw_t (M := M0) (N := M129) (P := M133) (r1 := 0) (e1 := 1) (s1 := 0) (r2 := 0) (e2 := 0) (s2 := 0) 0 1 0 (by decide) (by omega) (by omega)
        have u149a := ca_x (M := M0) (N := M133) (r := 0) (e := 1) (s := 0) (by decide) (by omega) (by omega)
        exact hret _ _ _ dX12_readTerm_29 ⟨hM133, ((FR.rf.tr fM129 (by decide)).tr fM133 (by decide)), by omega⟩
      · have u138c := xw_c (N := M129) (P := M133) 1 (FR.cell fM133 (by decide)) (by omega)
        have u138t := xw_t (M := M0) (N := M129) (P := M133) (r1 := 0) (e1 := 1) (s1 := 0) (r2 := 0) (e2 := 0) (s2 := 1) 0 1 1 (by decide) (by omega) (by omega)
        have u138a := ca_x (M := M0) (N := M133) (r := 0) (e := 1) (s := 1) (by decide) (by omega) (by omega)
        have u138l := ri_l (M := M133) (by omega)
        refine j_aload_n C 0 0 dX12_readTerm_14 rfl rfl ?_
        refine j_iload_n C 1 1 dX12_readTerm_15 rfl rfl ?_
        refine j_callVv C (d := 10) (As := [.int (sI 5)]) (st := []) 98 (s_lt rfl rfl) (s_kc (c := 11) rfl rfl) (by decide) rfl (s2_X12_readAtom hM133 hpr (by omega) (by omega) (by omega)) gX12_readTerm_X12_readAtom rfl hdX12_readAtom (by decide) (Nat.le_of_ble_eq_true rfl) dX12_readTerm_16 rfl (fun M140 h141 => ?_)
        obtain ⟨hM140, fM140, h142⟩ := h141
        have u143t := xw_t (M := M0) (N := M133) (P := M140) (r1 := 0) (e1 := 1) (s1 := 1) (r2 := 0) (e2 := 1) (s2 := 0) 0 2 1 (by decide) (by omega) (by omega)
        have u143l := ri_l (M := M140) (by omega)
        have u143b := cb_x (M := M0) (N := M140) (r := 0) (e := 2) (s := 1) (by decide) (by omega) (by omega) (by omega)
        refine j_aload_n C 0 0 dX12_readTerm_19 rfl rfl ?_
        refine y_sipush C dX12_readTerm_20 rfl ?_
        refine j_callVv C (d := 0) (As := [.int (sI 3002)]) (st := []) 98 (s_lt rfl rfl) (s_kc (c := 11) rfl rfl) (by decide) rfl (s1_X12_codes hM140 hpr 3002 (by omega) (by omega) (by omega)) gX12_readTerm_X12_codes rfl hdX12_codes (by decide) (Nat.le_of_ble_eq_true rfl) dX12_readTerm_23 rfl (fun M145 h146 => ?_)
        obtain ⟨hM145, fM145, h147⟩ := h146
        refine j_goto C 5 dX12_readTerm_26 (by decide) ?_
        have u148x := xw_a (M := M140) (N := M145) (c := 3002) (r := 2) (e := (-1)) (FR.cell fM145 (by decide)) (ap_bin ⟨(INV.rd hM140 (i := 102) (c := 48) (k := 280) rfl rfl).1, by omega, by omega⟩) (by omega)
        have u148t := xw_t (M := M0) (N := M140) (P := M145) (r1 := 0) (e1 := 2) (s1 := 1) (r2 := 2) (e2 := (-1)) (s2 := (-1)) 0 1 0 (by decide) (by omega) (by omega)
        have u148i := ri_c (M := M140) (N := M145) (FR.cell fM145 (by decide)) (by omega)
        have u148l := ri_l (M := M145) (by omega)
        have zz98_8 : (M145.1 98 8).toInt = (M140.1 98 8).toInt := s_fF fM145 (by decide) (rfl); have zz98_6 : (M145.1 98 6).toInt = (M140.1 98 6).toInt := s_fF fM145 (by decide) (rfl); exact ih127 M145 (by omega) hM145 ((((FR.rf.tr fM129 (by decide)).tr fM133 (by decide)).tr fM140 (by decide)).tr fM145 (by decide))
  exact L128 2010 M103 (by omega) hM103 (FR.rf.tr fM103 (by decide))
set_option maxHeartbeats 4000000 in
theorem s2_X12_readSum {l : Launch} {dC : Nat → ClassId} {dI : Nat → Nat → Nat} {ad : Nat → Nat} {cA : Nat → ClassId} {pr : Nat → Nat → Bool} {Kz : mm_M} {M0 : mm_M} (hM0 : INV pr Kz M0) (hpr : PM pr)  (hp0 : b01 (RIP M0) = 1) (hp1 : b01 (CA M0) = 1) (hp2 : b01 (PI M0) = 1) : Cv l 12 yX12_readSum wsX12_readSum dC dI ad cA [.ref (ad 98), .int (sI 5)] M0 (fun M' => INV pr Kz M' ∧ FR [98, 102] M0 M' ∧ (b01 (RIP M') = 1) ∧ ((M'.1 98 8).toInt = (M0.1 98 8).toInt) ∧ ((M0.1 98 6).toInt ≤ (M'.1 98 6).toInt) ∧ (b01 (XW M0 M' 0 1 0) = 1) ∧ (b01 (CA M') = 1) ∧ (b01 (PI M') = 1)) := by
  refine cv_of (cc := cX12_readSum) (maxL := 3) (lv := [(0, .ref (ad 98)), (1, .int (sI 5))]) (by decide) rfl (Nat.le_of_ble_eq_true rfl) rfl ?_
  intro p e s m args below meth c A Q C hret
  have u101z := xw_0 M0
  have u101l := ri_l (M := M0) (by omega)
  refine j_aload_n C 0 0 dX12_readSum_0 rfl rfl ?_
  refine j_iload_n C 1 1 dX12_readSum_1 rfl rfl ?_
  refine j_callVv C (d := 11) (As := [.int (sI 5)]) (st := []) 98 (s_lt rfl rfl) (s_kc (c := 11) rfl rfl) (by decide) rfl (s2_X12_readTerm hM0 hpr (by omega) (by omega) (by omega)) gX12_readSum_X12_readTerm rfl hdX12_readTerm (by decide) (Nat.le_of_ble_eq_true rfl) dX12_readSum_2 rfl (fun M103 h104 => ?_)
  obtain ⟨hM103, fM103, h105⟩ := h104
  have u106l := ri_l (M := M103) (by omega)
  have L167 : ∀ (n165 : Nat), ∀ (M168 : mm_M), ((b01 (RIP M168) = 1) ∧ ((M168.1 98 8).toInt = (M0.1 98 8).toInt) ∧ ((M0.1 98 6).toInt ≤ (M168.1 98 6).toInt) ∧ (b01 (XW M0 M168 0 1 0) = 1) ∧ ((M168.1 98 6).toInt ≤ 900) ∧ (b01 (PI M168) = 1) ∧ (900 - (M168.1 98 6).toInt) < (n165 : Int)) → INV pr Kz M168 → FR [98, 102] M0 M168 → jj p l e (cn_R 12) s m args below meth c 0 0 Q 3 dC dI ad cA A M168 5 [(0, .ref (ad 98)), (1, .int (sI 5))] [] := by
    intro n165
    induction n165 with
    | zero =>
      intro M168 h169 hM168 fM168
      exfalso; omega
    | succ n165 ih166 =>
      intro M168 h169 hM168 fM168
      have u170l := ri_l (M := M168) (by omega)
      refine j_aload_n C 0 0 dX12_readSum_5 rfl rfl ?_
      refine y_bipush C dX12_readSum_6 rfl ?_
      refine j_callVi C (d := 0) (As := [.int (sI 32)]) (st := []) 98 (s_lt rfl rfl) (s_kc (c := 11) rfl rfl) (by decide) rfl (s1_X12_is hM168 32 (by omega)) gX12_readSum_X12_is rfl hdX12_is (by decide) (Nat.le_of_ble_eq_true rfl) dX12_readSum_8 rfl (fun r171 M172 h173 => ?_)
      obtain ⟨a175, rfl, rfl, h174⟩ := h173
      refine y_if_ne C 23 dX12_readSum_11 (by decide) (by omega) (fun h176 => ?_) (fun h176 => ?_)
      · refine j_aload_n C 0 0 dX12_readSum_23 rfl rfl ?_
        refine y_getI C 11 _ _ fX12_readSum_108 rfl rfl ft_11_9 sb_11_9 hM168 dX12_readSum_24 (fun a177 ea177 la177 ua177 => ?_)
        obtain rfl : a177 = (M168.1 98 9).toInt := ea177
        refine y_bipush C dX12_readSum_27 rfl ?_
        have J181 : ∀ (a180 : Int), (3000 ≤ a180 ∧ a180 ≤ 3001) → jj p l e (cn_R 12) s m args below meth c 0 0 Q 3 dC dI ad cA A M168 41 [(0, .ref (ad 98)), (1, .int (sI 5))] [.int (sI a180)] := by
          intro a180 h182
          refine j_istore_n C 2 [(2, .int (sI a180)), (0, .ref (ad 98)), (1, .int (sI 5))] dX12_readSum_41 rfl (by decide) rfl ?_
          have u183k := ri_k (M := M168) (by omega) (by omega)
          refine j_aload_n C 1 0 dX12_readSum_42 rfl rfl ?_
          refine j_callVv C (d := 5) (As := []) (st := []) 98 (s_lt rfl rfl) (s_kc (c := 11) rfl rfl) (by decide) rfl (s1_X12_next hM168 hpr (by omega) (by omega) (by omega)) gX12_readSum_X12_next rfl hdX12_next (by decide) (Nat.le_of_ble_eq_true rfl) dX12_readSum_43 rfl (fun M185 h186 => ?_)
          obtain ⟨hM185, fM185, h187⟩ := h186
          have u188c := xw_c (N := M168) (P := M185) 1 (FR.cell fM185 (by decide)) (by omega)
          have u188t := xw_t (M := M0) (N := M168) (P := M185) (r1 := 0) (e1 := 1) (s1 := 0) (r2 := 0) (e2 := 0) (s2 := 1) 0 1 1 (by decide) (by omega) (by omega)
          have u188a := ca_x (M := M0) (N := M185) (r := 0) (e := 1) (s := 1) (by decide) (by omega) (by omega)
          have u188l := ri_l (M := M185) (by omega)
          refine j_aload_n C 1 0 dX12_readSum_46 rfl rfl ?_
          refine j_iload_n C 2 1 dX12_readSum_47 rfl rfl ?_
          refine j_callVv C (d := 11) (As := [.int (sI 5)]) (st := []) 98 (s_lt rfl rfl) (s_kc (c := 11) rfl rfl) (by decide) rfl (s2_X12_readTerm hM185 hpr (by omega) (by omega) (by omega)) gX12_readSum_X12_readTerm rfl hdX12_readTerm (by decide) (Nat.le_of_ble_eq_true rfl) dX12_readSum_48 rfl (fun M190 h191 => ?_)
          obtain ⟨hM190, fM190, h192⟩ := h191
          have u193t := xw_t (M := M0) (N := M185) (P := M190) (r1 := 0) (e1 := 1) (s1 := 1) (r2 := 0) (e2 := 1) (s2 := 0) 0 2 1 (by decide) (by omega) (by omega)
          have u193l := ri_l (M := M190) (by omega)
          have u193b := cb_x (M := M0) (N := M190) (r := 0) (e := 2) (s := 1) (by decide) (by omega) (by omega) (by omega)
          refine j_aload_n C 1 0 dX12_readSum_51 rfl rfl ?_
          refine j_iload_n C 0 2 dX12_readSum_52 rfl rfl ?_
          refine j_callVv C (d := 0) (As := [.int (sI a180)]) (st := []) 98 (s_lt rfl rfl) (s_kc (c := 11) rfl rfl) (by decide) rfl (s1_X12_codes hM190 hpr a180 (by omega) (by omega) (by omega)) gX12_readSum_X12_codes rfl hdX12_codes (by decide) (Nat.le_of_ble_eq_true rfl) dX12_readSum_53 rfl (fun M195 h196 => ?_)
          obtain ⟨hM195, fM195, h197⟩ := h196
          refine j_goto C 5 dX12_readSum_56 (by decide) ?_
          have u198x := xw_a (M := M190) (N := M195) (c := a180) (r := 2) (e := (-1)) (FR.cell fM195 (by decide)) (ap_bin ⟨(INV.rd hM190 (i := 102) (c := 48) (k := 280) rfl rfl).1, by omega, by omega⟩) (by omega)
          have u198t := xw_t (M := M0) (N := M190) (P := M195) (r1 := 0) (e1 := 2) (s1 := 1) (r2 := 2) (e2 := (-1)) (s2 := (-1)) 0 1 0 (by decide) (by omega) (by omega)
          have u198i := ri_c (M := M190) (N := M195) (FR.cell fM195 (by decide)) (by omega)
          have u198l := ri_l (M := M195) (by omega)
          have zz98_8 : (M195.1 98 8).toInt = (M190.1 98 8).toInt := s_fF fM195 (by decide) (rfl); have zz98_6 : (M195.1 98 6).toInt = (M190.1 98 6).toInt := s_fF fM195 (by decide) (rfl); refine j_lv [1, 2] rfl ?_; exact ih166 M195 (by omega) hM195 ((((FR.rf.tr fM168 (by decide)).tr fM185 (by decide)).tr fM190 (by decide)).tr fM195 (by decide))
        refine y_icmp_ne C 38 dX12_readSum_29 (by decide) (by omega) (fun h179 => ?_) (fun h179 => ?_)
        · refine y_sipush C dX12_readSum_38 rfl ?_
          exact J181 3001 (by omega)
        · refine y_sipush C dX12_readSum_32 rfl ?_
          refine j_goto C 41 dX12_readSum_35 (by decide) ?_
          exact J181 3000 (by omega)
      · refine j_aload_n C 0 0 dX12_readSum_14 rfl rfl ?_
        refine y_bipush C dX12_readSum_15 rfl ?_
        refine j_callVi C (d := 0) (As := [.int (sI 33)]) (st := []) 98 (s_lt rfl rfl) (s_kc (c := 11) rfl rfl) (by decide) rfl (s1_X12_is hM168 33 (by omega)) gX12_readSum_X12_is rfl hdX12_is (by decide) (Nat.le_of_ble_eq_true rfl) dX12_readSum_17 rfl (fun r199 M200 h201 => ?_)
        obtain ⟨a203, rfl, rfl, h202⟩ := h201
        refine y_if_eq C 59 dX12_readSum_20 (by decide) (by omega) (fun h204 => ?_) (fun h204 => ?_)
        · have u227a := ca_x (M := M0) (N := M168) (r := 0) (e := 1) (s := 0) (by decide) (by omega) (by omega)
          exact hret _ _ _ dX12_readSum_59 ⟨hM168, (FR.rf.tr fM168 (by decide)), by omega⟩
        · refine j_aload_n C 0 0 dX12_readSum_23 rfl rfl ?_
          refine y_getI C 11 _ _ fX12_readSum_108 rfl rfl ft_11_9 sb_11_9 hM168 dX12_readSum_24 (fun a205 ea205 la205 ua205 => ?_)
          obtain rfl : a205 = (M168.1 98 9).toInt := ea205
          refine y_bipush C dX12_readSum_27 rfl ?_
          have J209 : ∀ (a208 : Int), (3000 ≤ a208 ∧ a208 ≤ 3001) → jj p l e (cn_R 12) s m args below meth c 0 0 Q 3 dC dI ad cA A M168 41 [(0, .ref (ad 98)), (1, .int (sI 5))] [.int (sI a208)] := by
            intro a208 h210
            refine j_istore_n C 2 [(2, .int (sI a208)), (0, .ref (ad 98)), (1, .int (sI 5))] dX12_readSum_41 rfl (by decide) rfl ?_
            have u211k := ri_k (M := M168) (by omega) (by omega)
            refine j_aload_n C 1 0 dX12_readSum_42 rfl rfl ?_
            refine j_callVv C (d := 5) (As := []) (st := []) 98 (s_lt rfl rfl) (s_kc (c := 11) rfl rfl) (by decide) rfl (s1_X12_next hM168 hpr (by omega) (by omega) (by omega)) gX12_readSum_X12_next rfl hdX12_next (by decide) (Nat.le_of_ble_eq_true rfl) dX12_readSum_43 rfl (fun M213 h214 => ?_)
            obtain ⟨hM213, fM213, h215⟩ := h214
            have u216c := xw_c (N := M168) (P := M213) 1 (FR.cell fM213 (by decide)) (by omega)
            have u216t := xw_t (M := M0) (N := M168) (P := M213) (r1 := 0) (e1 := 1) (s1 := 0) (r2 := 0) (e2 := 0) (s2 := 1) 0 1 1 (by decide) (by omega) (by omega)
            have u216a := ca_x (M := M0) (N := M213) (r := 0) (e := 1) (s := 1) (by decide) (by omega) (by omega)
            have u216l := ri_l (M := M213) (by omega)
            refine j_aload_n C 1 0 dX12_readSum_46 rfl rfl ?_
            refine j_iload_n C 2 1 dX12_readSum_47 rfl rfl ?_
            refine j_callVv C (d := 11) (As := [.int (sI 5)]) (st := []) 98 (s_lt rfl rfl) (s_kc (c := 11) rfl rfl) (by decide) rfl (s2_X12_readTerm hM213 hpr (by omega) (by omega) (by omega)) gX12_readSum_X12_readTerm rfl hdX12_readTerm (by decide) (Nat.le_of_ble_eq_true rfl) dX12_readSum_48 rfl (fun M218 h219 => ?_)
            obtain ⟨hM218, fM218, h220⟩ := h219
            have u221t := xw_t (M := M0) (N := M213) (P := M218) (r1 := 0) (e1 := 1) (s1 := 1) (r2 := 0) (e2 := 1) (s2 := 0) 0 2 1 (by decide) (by omega) (by omega)
            have u221l := ri_l (M := M218) (by omega)
            have u221b := cb_x (M := M0) (N := M218) (r := 0) (e := 2) (s := 1) (by decide) (by omega) (by omega) (by omega)
            refine j_aload_n C 1 0 dX12_readSum_51 rfl rfl ?_
            refine j_iload_n C 0 2 dX12_readSum_52 rfl rfl ?_
            refine j_callVv C (d := 0) (As := [.int (sI a208)]) (st := []) 98 (s_lt rfl rfl) (s_kc (c := 11) rfl rfl) (by decide) rfl (s1_X12_codes hM218 hpr a208 (by omega) (by omega) (by omega)) gX12_readSum_X12_codes rfl hdX12_codes (by decide) (Nat.le_of_ble_eq_true rfl) dX12_readSum_53 rfl (fun M223 h224 => ?_)
            obtain ⟨hM223, fM223, h225⟩ := h224
            refine j_goto C 5 dX12_readSum_56 (by decide) ?_
            have u226x := xw_a (M := M218) (N := M223) (c := a208) (r := 2) (e := (-1)) (FR.cell fM223 (by decide)) (ap_bin ⟨(INV.rd hM218 (i := 102) (c := 48) (k := 280) rfl rfl).1, by omega, by omega⟩) (by omega)
            have u226t := xw_t (M := M0) (N := M218) (P := M223) (r1 := 0) (e1 := 2) (s1 := 1) (r2 := 2) (e2 := (-1)) (s2 := (-1)) 0 1 0 (by decide) (by omega) (by omega)
            have u226i := ri_c (M := M218) (N := M223) (FR.cell fM223 (by decide)) (by omega)
            have u226l := ri_l (M := M223) (by omega)
            have zz98_8 : (M223.1 98 8).toInt = (M218.1 98 8).toInt := s_fF fM223 (by decide) (rfl); have zz98_6 : (M223.1 98 6).toInt = (M218.1 98 6).toInt := s_fF fM223 (by decide) (rfl); refine j_lv [1, 2] rfl ?_; exact ih166 M223 (by omega) hM223 ((((FR.rf.tr fM168 (by decide)).tr fM213 (by decide)).tr fM218 (by decide)).tr fM223 (by decide))
          refine y_icmp_ne C 38 dX12_readSum_29 (by decide) (by omega) (fun h207 => ?_) (fun h207 => ?_)
          · refine y_sipush C dX12_readSum_38 rfl ?_
            exact J209 3001 (by omega)
          · refine y_sipush C dX12_readSum_32 rfl ?_
            refine j_goto C 41 dX12_readSum_35 (by decide) ?_
            exact J209 3000 (by omega)
  exact L167 2010 M103 (by omega) hM103 (FR.rf.tr fM103 (by decide))
set_option maxHeartbeats 4000000 in
theorem s3_X12_readAtom {l : Launch} {dC : Nat → ClassId} {dI : Nat → Nat → Nat} {ad : Nat → Nat} {cA : Nat → ClassId} {pr : Nat → Nat → Bool} {Kz : mm_M} {M0 : mm_M} (hM0 : INV pr Kz M0) (hpr : PM pr)  (hp0 : b01 (RIP M0) = 1) (hp1 : b01 (CA M0) = 1) (hp2 : b01 (PI M0) = 1) : Cv l 13 yX12_readAtom wsX12_readAtom dC dI ad cA [.ref (ad 98), .int (sI 4)] M0 (fun M' => INV pr Kz M' ∧ FR [98, 102] M0 M' ∧ (b01 (RIP M') = 1) ∧ ((M'.1 98 8).toInt = (M0.1 98 8).toInt) ∧ ((M0.1 98 6).toInt ≤ (M'.1 98 6).toInt) ∧ (b01 (XW M0 M' 0 1 0) = 1) ∧ (b01 (CA M') = 1) ∧ (b01 (PI M') = 1)) := by
  refine cv_of (cc := cX12_readAtom) (maxL := 2) (lv := [(0, .ref (ad 98)), (1, .int (sI 4))]) (by decide) rfl (Nat.le_of_ble_eq_true rfl) rfl ?_
  intro p e s m args below meth c A Q C hret
  have u101z := xw_0 M0
  have u101l := ri_l (M := M0) (by omega)
  refine j_aload_n C 0 0 dX12_readAtom_0 rfl rfl ?_
  refine y_bipush C dX12_readAtom_1 rfl ?_
  refine j_callVi C (d := 0) (As := [.int (sI 23)]) (st := []) 98 (s_lt rfl rfl) (s_kc (c := 11) rfl rfl) (by decide) rfl (s1_X12_is hM0 23 (by omega)) gX12_readAtom_X12_is rfl hdX12_is (by decide) (Nat.le_of_ble_eq_true rfl) dX12_readAtom_3 rfl (fun r102 M103 h104 => ?_)
  obtain ⟨a106, rfl, rfl, h105⟩ := h104
  refine y_if_eq C 24 dX12_readAtom_6 (by decide) (by omega) (fun h107 => ?_) (fun h107 => ?_)
  · refine j_aload_n C 0 0 dX12_readAtom_24 rfl rfl ?_
    refine y_getI C 11 _ _ fX12_readAtom_126 rfl rfl ft_11_11 sb_11_11 hM0 dX12_readAtom_25 (fun a108 ea108 la108 ua108 => ?_)
    obtain rfl : a108 = (M0.1 98 11).toInt := ea108
    refine y_if_ne C 66 dX12_readAtom_28 (by decide) (by omega) (fun h110 => ?_) (fun h110 => ?_)
    · refine j_aload_n C 0 0 dX12_readAtom_66 rfl rfl ?_
      refine y_bipush C dX12_readAtom_67 rfl ?_
      refine j_callVi C (d := 0) (As := [.int (sI 35)]) (st := []) 98 (s_lt rfl rfl) (s_kc (c := 11) rfl rfl) (by decide) rfl (s1_X12_is hM0 35 (by omega)) gX12_readAtom_X12_is rfl hdX12_is (by decide) (Nat.le_of_ble_eq_true rfl) dX12_readAtom_69 rfl (fun r111 M112 h113 => ?_)
      obtain ⟨a115, rfl, rfl, h114⟩ := h113
      refine y_if_eq C 108 dX12_readAtom_72 (by decide) (by omega) (fun h116 => ?_) (fun h116 => ?_)
      · refine j_aload_n C 0 0 dX12_readAtom_108 rfl rfl ?_
        refine y_iconst C dX12_readAtom_109 ?_
        refine j_callVv C (d := 0) (As := [.int (sI 2)]) (st := []) 98 (s_lt rfl rfl) (s_kc (c := 11) rfl rfl) (by decide) rfl (s1_X12_fails hM0 hpr 2 (by omega) (by omega) (by omega) (by omega)) gX12_readAtom_X12_fails rfl hdX12_fails (by decide) (Nat.le_of_ble_eq_true rfl) dX12_readAtom_110 rfl (fun M118 h119 => ?_)
        obtain ⟨hM118, fM118, h120⟩ := h119
        have u121f : b01 (XW M0 M118 0 1 0) = 1 := b01_i (Or.inl (by omega))
        have u121a := ca_x (M := M0) (N := M118) (r := 0) (e := 1) (s := 0) (by decide) (by omega) (by omega)
        exact hret _ _ _ dX12_readAtom_113 ⟨hM118, (FR.rf.tr fM118 (by decide)), by omega⟩
      · have u122k := ri_k (M := M0) (by omega) (by omega)
        refine j_aload_n C 0 0 dX12_readAtom_75 rfl rfl ?_
        refine j_iload_n C 1 1 dX12_readAtom_76 rfl rfl ?_
        refine j_callVi C (d := 6) (As := [.int (sI 4)]) (st := []) 98 (s_lt rfl rfl) (s_kc (c := 11) rfl rfl) (by decide) rfl (s5_X12_goesIn hM0 hpr (by omega) (by omega)) gX12_readAtom_X12_goesIn rfl hdX12_goesIn (by decide) (Nat.le_of_ble_eq_true rfl) dX12_readAtom_77 rfl (fun r123 M124 h125 => ?_)
        obtain ⟨a127, rfl, hM124, fM124, h126⟩ := h125
        refine y_if_ne C 84 dX12_readAtom_80 (by decide) (by omega) (fun h128 => ?_) (fun h128 => ?_)
        · have u129c := xw_c (N := M0) (P := M124) 1 (FR.cell fM124 (by decide)) (by omega)
          have u129t := xw_t (M := M0) (N := M0) (P := M124) (r1 := 0) (e1 := 0) (s1 := 0) (r2 := 0) (e2 := 0) (s2 := 1) 0 0 1 (by decide) (by omega) (by omega)
          have u129a := ca_x (M := M0) (N := M124) (r := 0) (e := 0) (s := 1) (by decide) (by omega) (by omega)
          have u129l := ri_l (M := M124) (by omega)
          refine j_aload_n C 0 0 dX12_readAtom_84 rfl rfl ?_
          refine j_iload_n C 1 1 dX12_readAtom_85 rfl rfl ?_
          refine y_iconst C dX12_readAtom_86 ?_
          refine y_iadd C dX12_readAtom_87 ?_
          refine j_callVv C (d := 12) (As := [.int (sI (4 + 1))]) (st := []) 98 (s_lt rfl rfl) (s_kc (c := 11) rfl rfl) (by decide) rfl (s2_X12_readSum hM124 hpr (by omega) (by omega) (by omega)) gX12_readAtom_X12_readSum rfl hdX12_readSum (by decide) (Nat.le_of_ble_eq_true rfl) dX12_readAtom_88 rfl (fun M131 h132 => ?_)
          obtain ⟨hM131, fM131, h133⟩ := h132
          have u134t := xw_t (M := M0) (N := M124) (P := M131) (r1 := 0) (e1 := 0) (s1 := 1) (r2 := 0) (e2 := 1) (s2 := 0) 0 1 1 (by decide) (by omega) (by omega)
          have u134l := ri_l (M := M131) (by omega)
          refine j_aload_n C 0 0 dX12_readAtom_91 rfl rfl ?_
          refine y_bipush C dX12_readAtom_92 rfl ?_
          refine j_callVi C (d := 6) (As := [.int (sI 36)]) (st := []) 98 (s_lt rfl rfl) (s_kc (c := 11) rfl rfl) (by decide) rfl (s1_X12_eats hM131 hpr 36 (by omega) (by omega) (by omega) (by omega)) gX12_readAtom_X12_eats rfl hdX12_eats (by decide) (Nat.le_of_ble_eq_true rfl) dX12_readAtom_94 rfl (fun r135 M136 h137 => ?_)
          obtain ⟨a139, rfl, hM136, fM136, h138⟩ := h137
          have u140c := xw_c (N := M131) (P := M136) 0 (FR.cell fM136 (by decide)) (by omega)
          have u140t := xw_t (M := M0) (N := M131) (P := M136) (r1 := 0) (e1 := 1) (s1 := 1) (r2 := 0) (e2 := 0) (s2 := 0) 0 1 0 (by decide) (by omega) (by omega)
          have u140a := ca_x (M := M0) (N := M136) (r := 0) (e := 1) (s := 0) (by decide) (by omega) (by omega)
          have u140l := ri_l (M := M136) (by omega)
          refine y_if_ne C 113 dX12_readAtom_97 (by decide) (by omega) (fun h141 => ?_) (fun h141 => ?_)
          · exact hret _ _ _ dX12_readAtom_113 ⟨hM136, (((FR.rf.tr fM124 (by decide)).tr fM131 (by decide)).tr fM136 (by decide)), by omega⟩
          · refine j_aload_n C 0 0 dX12_readAtom_100 rfl rfl ?_
            refine y_iconst C dX12_readAtom_101 ?_
            refine j_callVv C (d := 0) (As := [.int (sI 2)]) (st := []) 98 (s_lt rfl rfl) (s_kc (c := 11) rfl rfl) (by decide) rfl (s1_X12_fails hM136 hpr 2 (by omega) (by omega) (by omega) (by omega)) gX12_readAtom_X12_fails rfl hdX12_fails (by decide) (Nat.le_of_ble_eq_true rfl) dX12_readAtom_102 rfl (fun M144 h145 => ?_)
            obtain ⟨hM144, fM144, h146⟩ := h145
            have u147f : b01 (XW M0 M144 0 1 0) = 1 := b01_i (Or.inl (by omega))
            have u147a := ca_x (M := M0) (N := M144) (r := 0) (e := 1) (s := 0) (by decide) (by omega) (by omega)
            refine j_goto C 113 dX12_readAtom_105 (by decide) ?_
            exact hret _ _ _ dX12_readAtom_113 ⟨hM144, ((((FR.rf.tr fM124 (by decide)).tr fM131 (by decide)).tr fM136 (by decide)).tr fM144 (by decide)), by omega⟩
        · have u149c := xw_c (N := M0) (P := M124) 0 (FR.cell fM124 (by decide)) (by omega)
          have u149f : b01 (XW M0 M124 0 1 0) = 1 := b01_i (Or.inl (by omega))
          have u149a := ca_x (M := M0) (N := M124) (r := 0) (e := 1) (s := 0) (by decide) (by omega) (by omega)
          exact hret _ _ _ dX12_readAtom_83 ⟨hM124, (FR.rf.tr fM124 (by decide)), by omega⟩
    · refine j_aload_n C 0 0 dX12_readAtom_31 rfl rfl ?_
      refine j_aload_n C 0 0 dX12_readAtom_32 rfl rfl ?_
      refine y_getI C 11 _ _ fX12_readAtom_108 rfl rfl ft_11_9 sb_11_9 hM0 dX12_readAtom_33 (fun a151 ea151 la151 ua151 => ?_)
      obtain rfl : a151 = (M0.1 98 9).toInt := ea151
      refine j_callVi C (d := 0) (As := [.int (sI (M0.1 98 9).toInt)]) (st := []) 98 (s_lt rfl rfl) (s_kc (c := 11) rfl rfl) (by decide) rfl (s1_X12_wordOf hM0 (M0.1 98 9).toInt (by omega)) gX12_readAtom_X12_wordOf rfl hdX12_wordOf (by decide) (Nat.le_of_ble_eq_true rfl) dX12_readAtom_36 rfl (fun r153 M154 h155 => ?_)
      obtain ⟨a157, rfl, rfl, h156⟩ := h155
      obtain rfl : a157 = (woF (M0.1 98 9).toInt) := by omega
      refine y_iconst C dX12_readAtom_39 ?_
      refine y_icmp_eq C 66 dX12_readAtom_40 (by decide) (by omega) (fun h158 => ?_) (fun h158 => ?_)
      · refine j_aload_n C 0 0 dX12_readAtom_66 rfl rfl ?_
        refine y_bipush C dX12_readAtom_67 rfl ?_
        refine j_callVi C (d := 0) (As := [.int (sI 35)]) (st := []) 98 (s_lt rfl rfl) (s_kc (c := 11) rfl rfl) (by decide) rfl (s1_X12_is hM0 35 (by omega)) gX12_readAtom_X12_is rfl hdX12_is (by decide) (Nat.le_of_ble_eq_true rfl) dX12_readAtom_69 rfl (fun r159 M160 h161 => ?_)
        obtain ⟨a163, rfl, rfl, h162⟩ := h161
        refine y_if_eq C 108 dX12_readAtom_72 (by decide) (by omega) (fun h164 => ?_) (fun h164 => ?_)
        · refine j_aload_n C 0 0 dX12_readAtom_108 rfl rfl ?_
          refine y_iconst C dX12_readAtom_109 ?_
          refine j_callVv C (d := 0) (As := [.int (sI 2)]) (st := []) 98 (s_lt rfl rfl) (s_kc (c := 11) rfl rfl) (by decide) rfl (s1_X12_fails hM0 hpr 2 (by omega) (by omega) (by omega) (by omega)) gX12_readAtom_X12_fails rfl hdX12_fails (by decide) (Nat.le_of_ble_eq_true rfl) dX12_readAtom_110 rfl (fun M166 h167 => ?_)
          obtain ⟨hM166, fM166, h168⟩ := h167
          have u169f : b01 (XW M0 M166 0 1 0) = 1 := b01_i (Or.inl (by omega))
          have u169a := ca_x (M := M0) (N := M166) (r := 0) (e := 1) (s := 0) (by decide) (by omega) (by omega)
          exact hret _ _ _ dX12_readAtom_113 ⟨hM166, (FR.rf.tr fM166 (by decide)), by omega⟩
        · have u170k := ri_k (M := M0) (by omega) (by omega)
          refine j_aload_n C 0 0 dX12_readAtom_75 rfl rfl ?_
          refine j_iload_n C 1 1 dX12_readAtom_76 rfl rfl ?_
          refine j_callVi C (d := 6) (As := [.int (sI 4)]) (st := []) 98 (s_lt rfl rfl) (s_kc (c := 11) rfl rfl) (by decide) rfl (s5_X12_goesIn hM0 hpr (by omega) (by omega)) gX12_readAtom_X12_goesIn rfl hdX12_goesIn (by decide) (Nat.le_of_ble_eq_true rfl) dX12_readAtom_77 rfl (fun r171 M172 h173 => ?_)
          obtain ⟨a175, rfl, hM172, fM172, h174⟩ := h173
          refine y_if_ne C 84 dX12_readAtom_80 (by decide) (by omega) (fun h176 => ?_) (fun h176 => ?_)
          · have u177c := xw_c (N := M0) (P := M172) 1 (FR.cell fM172 (by decide)) (by omega)
            have u177t := xw_t (M := M0) (N := M0) (P := M172) (r1 := 0) (e1 := 0) (s1 := 0) (r2 := 0) (e2 := 0) (s2 := 1) 0 0 1 (by decide) (by omega) (by omega)
            have u177a := ca_x (M := M0) (N := M172) (r := 0) (e := 0) (s := 1) (by decide) (by omega) (by omega)
            have u177l := ri_l (M := M172) (by omega)
            refine j_aload_n C 0 0 dX12_readAtom_84 rfl rfl ?_
            refine j_iload_n C 1 1 dX12_readAtom_85 rfl rfl ?_
            refine y_iconst C dX12_readAtom_86 ?_
            refine y_iadd C dX12_readAtom_87 ?_
            refine j_callVv C (d := 12) (As := [.int (sI (4 + 1))]) (st := []) 98 (s_lt rfl rfl) (s_kc (c := 11) rfl rfl) (by decide) rfl (s2_X12_readSum hM172 hpr (by omega) (by omega) (by omega)) gX12_readAtom_X12_readSum rfl hdX12_readSum (by decide) (Nat.le_of_ble_eq_true rfl) dX12_readAtom_88 rfl (fun M179 h180 => ?_)
            obtain ⟨hM179, fM179, h181⟩ := h180
            have u182t := xw_t (M := M0) (N := M172) (P := M179) (r1 := 0) (e1 := 0) (s1 := 1) (r2 := 0) (e2 := 1) (s2 := 0) 0 1 1 (by decide) (by omega) (by omega)
            have u182l := ri_l (M := M179) (by omega)
            refine j_aload_n C 0 0 dX12_readAtom_91 rfl rfl ?_
            refine y_bipush C dX12_readAtom_92 rfl ?_
            refine j_callVi C (d := 6) (As := [.int (sI 36)]) (st := []) 98 (s_lt rfl rfl) (s_kc (c := 11) rfl rfl) (by decide) rfl (s1_X12_eats hM179 hpr 36 (by omega) (by omega) (by omega) (by omega)) gX12_readAtom_X12_eats rfl hdX12_eats (by decide) (Nat.le_of_ble_eq_true rfl) dX12_readAtom_94 rfl (fun r183 M184 h185 => ?_)
            obtain ⟨a187, rfl, hM184, fM184, h186⟩ := h185
            have u188c := xw_c (N := M179) (P := M184) 0 (FR.cell fM184 (by decide)) (by omega)
            have u188t := xw_t (M := M0) (N := M179) (P := M184) (r1 := 0) (e1 := 1) (s1 := 1) (r2 := 0) (e2 := 0) (s2 := 0) 0 1 0 (by decide) (by omega) (by omega)
            have u188a := ca_x (M := M0) (N := M184) (r := 0) (e := 1) (s := 0) (by decide) (by omega) (by omega)
            have u188l := ri_l (M := M184) (by omega)
            refine y_if_ne C 113 dX12_readAtom_97 (by decide) (by omega) (fun h189 => ?_) (fun h189 => ?_)
            · exact hret _ _ _ dX12_readAtom_113 ⟨hM184, (((FR.rf.tr fM172 (by decide)).tr fM179 (by decide)).tr fM184 (by decide)), by omega⟩
            · refine j_aload_n C 0 0 dX12_readAtom_100 rfl rfl ?_
              refine y_iconst C dX12_readAtom_101 ?_
              refine j_callVv C (d := 0) (As := [.int (sI 2)]) (st := []) 98 (s_lt rfl rfl) (s_kc (c := 11) rfl rfl) (by decide) rfl (s1_X12_fails hM184 hpr 2 (by omega) (by omega) (by omega) (by omega)) gX12_readAtom_X12_fails rfl hdX12_fails (by decide) (Nat.le_of_ble_eq_true rfl) dX12_readAtom_102 rfl (fun M192 h193 => ?_)
              obtain ⟨hM192, fM192, h194⟩ := h193
              have u195f : b01 (XW M0 M192 0 1 0) = 1 := b01_i (Or.inl (by omega))
              have u195a := ca_x (M := M0) (N := M192) (r := 0) (e := 1) (s := 0) (by decide) (by omega) (by omega)
              refine j_goto C 113 dX12_readAtom_105 (by decide) ?_
              exact hret _ _ _ dX12_readAtom_113 ⟨hM192, ((((FR.rf.tr fM172 (by decide)).tr fM179 (by decide)).tr fM184 (by decide)).tr fM192 (by decide)), by omega⟩
          · have u197c := xw_c (N := M0) (P := M172) 0 (FR.cell fM172 (by decide)) (by omega)
            have u197f : b01 (XW M0 M172 0 1 0) = 1 := b01_i (Or.inl (by omega))
            have u197a := ca_x (M := M0) (N := M172) (r := 0) (e := 1) (s := 0) (by decide) (by omega) (by omega)
            exact hret _ _ _ dX12_readAtom_83 ⟨hM172, (FR.rf.tr fM172 (by decide)), by omega⟩
      · have u199w := woF_s (M0.1 98 9).toInt
        have u199k := ri_k (M := M0) (by omega) (by omega)
        have u199b := cb_0 (M := M0) (by omega) (by omega)
        refine j_aload_n C 0 0 dX12_readAtom_43 rfl rfl ?_
        refine y_sipush C dX12_readAtom_44 rfl ?_
        refine j_aload_n C 0 0 dX12_readAtom_47 rfl rfl ?_
        refine j_aload_n C 0 0 dX12_readAtom_48 rfl rfl ?_
        refine y_getI C 11 _ _ fX12_readAtom_108 rfl rfl ft_11_9 sb_11_9 hM0 dX12_readAtom_49 (fun a200 ea200 la200 ua200 => ?_)
        obtain rfl : a200 = (M0.1 98 9).toInt := ea200
        refine j_callVi C (d := 0) (As := [.int (sI (M0.1 98 9).toInt)]) (st := [.int (sI 1000), .ref (ad 98)]) 98 (s_lt rfl rfl) (s_kc (c := 11) rfl rfl) (by decide) rfl (s1_X12_wordOf hM0 (M0.1 98 9).toInt (by omega)) gX12_readAtom_X12_wordOf rfl hdX12_wordOf (by decide) (Nat.le_of_ble_eq_true rfl) dX12_readAtom_52 rfl (fun r202 M203 h204 => ?_)
        obtain ⟨a206, rfl, rfl, h205⟩ := h204
        obtain rfl : a206 = (woF (M0.1 98 9).toInt) := by omega
        refine y_iadd C dX12_readAtom_55 ?_
        refine j_callVv C (d := 0) (As := [.int (sI (1000 + (woF (M0.1 98 9).toInt)))]) (st := []) 98 (s_lt rfl rfl) (s_kc (c := 11) rfl rfl) (by decide) rfl (s1_X12_codes hM0 hpr (1000 + (woF (M0.1 98 9).toInt)) (by omega) (by omega) (by omega)) gX12_readAtom_X12_codes rfl hdX12_codes (by decide) (Nat.le_of_ble_eq_true rfl) dX12_readAtom_56 rfl (fun M208 h209 => ?_)
        obtain ⟨hM208, fM208, h210⟩ := h209
        have u211x := xw_a (M := M0) (N := M208) (c := (1000 + (woF (M0.1 98 9).toInt))) (r := 0) (e := 1) (FR.cell fM208 (by decide)) (ap_push ⟨(INV.rd hM0 (i := 102) (c := 48) (k := 280) rfl rfl).1, by omega, by omega⟩) (by omega)
        have u211t := xw_t (M := M0) (N := M0) (P := M208) (r1 := 0) (e1 := 0) (s1 := 0) (r2 := 0) (e2 := 1) (s2 := (-1)) 0 1 (-1) (by decide) (by omega) (by omega)
        have u211i := ri_c (M := M0) (N := M208) (FR.cell fM208 (by decide)) (by omega)
        have u211l := ri_l (M := M208) (by omega)
        have u211q6 : (M208.1 98 6).toInt = (M0.1 98 6).toInt := by rw [show M208.1 98 = M0.1 98 from FR.cell fM208 (by decide)]
        have u211q7 : (M208.1 98 7).toInt = (M0.1 98 7).toInt := by rw [show M208.1 98 = M0.1 98 from FR.cell fM208 (by decide)]
        have u211q8 : (M208.1 98 8).toInt = (M0.1 98 8).toInt := by rw [show M208.1 98 = M0.1 98 from FR.cell fM208 (by decide)]
        have u211q9 : (M208.1 98 9).toInt = (M0.1 98 9).toInt := by rw [show M208.1 98 = M0.1 98 from FR.cell fM208 (by decide)]
        have u211q11 : (M208.1 98 11).toInt = (M0.1 98 11).toInt := by rw [show M208.1 98 = M0.1 98 from FR.cell fM208 (by decide)]
        refine j_aload_n C 0 0 dX12_readAtom_59 rfl rfl ?_
        have zz98_7 : (M208.1 98 7).toInt = (M0.1 98 7).toInt := s_fF fM208 (by decide) (rfl)
        have zz98_8 : (M208.1 98 8).toInt = (M0.1 98 8).toInt := s_fF fM208 (by decide) (rfl)
        refine j_callVv C (d := 5) (As := []) (st := []) 98 (s_lt rfl rfl) (s_kc (c := 11) rfl rfl) (by decide) rfl (s1_X12_next hM208 hpr (by omega) (by omega) (by omega)) gX12_readAtom_X12_next rfl hdX12_next (by decide) (Nat.le_of_ble_eq_true rfl) dX12_readAtom_60 rfl (fun M213 h214 => ?_)
        obtain ⟨hM213, fM213, h215⟩ := h214
        have u216c := xw_c (N := M208) (P := M213) 1 (FR.cell fM213 (by decide)) (by omega)
        have u216t := xw_t (M := M0) (N := M208) (P := M213) (r1 := 0) (e1 := 1) (s1 := (-1)) (r2 := 0) (e2 := 0) (s2 := 1) 0 1 0 (by decide) (by omega) (by omega)
        have u216a := ca_x (M := M0) (N := M213) (r := 0) (e := 1) (s := 0) (by decide) (by omega) (by omega)
        refine j_goto C 113 dX12_readAtom_63 (by decide) ?_
        exact hret _ _ _ dX12_readAtom_113 ⟨hM213, ((FR.rf.tr fM208 (by decide)).tr fM213 (by decide)), by omega⟩
  · have u218k := ri_k (M := M0) (by omega) (by omega)
    have u218b := cb_0 (M := M0) (by omega) (by omega)
    refine j_aload_n C 0 0 dX12_readAtom_9 rfl rfl ?_
    refine j_aload_n C 0 0 dX12_readAtom_10 rfl rfl ?_
    refine y_getI C 11 _ _ fX12_readAtom_121 rfl rfl ft_11_10 sb_11_10 hM0 dX12_readAtom_11 (fun a219 ea219 la219 ua219 => ?_)
    obtain rfl : a219 = (M0.1 98 10).toInt := ea219
    refine j_callVv C (d := 0) (As := [.int (sI (M0.1 98 10).toInt)]) (st := []) 98 (s_lt rfl rfl) (s_kc (c := 11) rfl rfl) (by decide) rfl (s1_X12_codes hM0 hpr (M0.1 98 10).toInt (by omega) (by omega) (by omega)) gX12_readAtom_X12_codes rfl hdX12_codes (by decide) (Nat.le_of_ble_eq_true rfl) dX12_readAtom_14 rfl (fun M222 h223 => ?_)
    obtain ⟨hM222, fM222, h224⟩ := h223
    have u225x := xw_a (M := M0) (N := M222) (c := (M0.1 98 10).toInt) (r := 0) (e := 1) (FR.cell fM222 (by decide)) (ap_push ⟨(INV.rd hM0 (i := 102) (c := 48) (k := 280) rfl rfl).1, by omega, by omega⟩) (by omega)
    have u225t := xw_t (M := M0) (N := M0) (P := M222) (r1 := 0) (e1 := 0) (s1 := 0) (r2 := 0) (e2 := 1) (s2 := (-1)) 0 1 (-1) (by decide) (by omega) (by omega)
    have u225i := ri_c (M := M0) (N := M222) (FR.cell fM222 (by decide)) (by omega)
    have u225l := ri_l (M := M222) (by omega)
    have u225q6 : (M222.1 98 6).toInt = (M0.1 98 6).toInt := by rw [show M222.1 98 = M0.1 98 from FR.cell fM222 (by decide)]
    have u225q7 : (M222.1 98 7).toInt = (M0.1 98 7).toInt := by rw [show M222.1 98 = M0.1 98 from FR.cell fM222 (by decide)]
    have u225q8 : (M222.1 98 8).toInt = (M0.1 98 8).toInt := by rw [show M222.1 98 = M0.1 98 from FR.cell fM222 (by decide)]
    have u225q9 : (M222.1 98 9).toInt = (M0.1 98 9).toInt := by rw [show M222.1 98 = M0.1 98 from FR.cell fM222 (by decide)]
    have u225q11 : (M222.1 98 11).toInt = (M0.1 98 11).toInt := by rw [show M222.1 98 = M0.1 98 from FR.cell fM222 (by decide)]
    refine j_aload_n C 0 0 dX12_readAtom_17 rfl rfl ?_
    have zz98_7 : (M222.1 98 7).toInt = (M0.1 98 7).toInt := s_fF fM222 (by decide) (rfl)
    have zz98_8 : (M222.1 98 8).toInt = (M0.1 98 8).toInt := s_fF fM222 (by decide) (rfl)
    refine j_callVv C (d := 5) (As := []) (st := []) 98 (s_lt rfl rfl) (s_kc (c := 11) rfl rfl) (by decide) rfl (s1_X12_next hM222 hpr (by omega) (by omega) (by omega)) gX12_readAtom_X12_next rfl hdX12_next (by decide) (Nat.le_of_ble_eq_true rfl) dX12_readAtom_18 rfl (fun M227 h228 => ?_)
    obtain ⟨hM227, fM227, h229⟩ := h228
    have u230c := xw_c (N := M222) (P := M227) 1 (FR.cell fM227 (by decide)) (by omega)
    have u230t := xw_t (M := M0) (N := M222) (P := M227) (r1 := 0) (e1 := 1) (s1 := (-1)) (r2 := 0) (e2 := 0) (s2 := 1) 0 1 0 (by decide) (by omega) (by omega)
    have u230a := ca_x (M := M0) (N := M227) (r := 0) (e := 1) (s := 0) (by decide) (by omega) (by omega)
    refine j_goto C 113 dX12_readAtom_21 (by decide) ?_
    exact hret _ _ _ dX12_readAtom_113 ⟨hM227, ((FR.rf.tr fM222 (by decide)).tr fM227 (by decide)), by omega⟩
set_option maxHeartbeats 4000000 in
theorem s3_X12_readTerm {l : Launch} {dC : Nat → ClassId} {dI : Nat → Nat → Nat} {ad : Nat → Nat} {cA : Nat → ClassId} {pr : Nat → Nat → Bool} {Kz : mm_M} {M0 : mm_M} (hM0 : INV pr Kz M0) (hpr : PM pr)  (hp0 : b01 (RIP M0) = 1) (hp1 : b01 (CA M0) = 1) (hp2 : b01 (PI M0) = 1) : Cv l 14 yX12_readTerm wsX12_readTerm dC dI ad cA [.ref (ad 98), .int (sI 4)] M0 (fun M' => INV pr Kz M' ∧ FR [98, 102] M0 M' ∧ (b01 (RIP M') = 1) ∧ ((M'.1 98 8).toInt = (M0.1 98 8).toInt) ∧ ((M0.1 98 6).toInt ≤ (M'.1 98 6).toInt) ∧ (b01 (XW M0 M' 0 1 0) = 1) ∧ (b01 (CA M') = 1) ∧ (b01 (PI M') = 1)) := by
  refine cv_of (cc := cX12_readTerm) (maxL := 2) (lv := [(0, .ref (ad 98)), (1, .int (sI 4))]) (by decide) rfl (Nat.le_of_ble_eq_true rfl) rfl ?_
  intro p e s m args below meth c A Q C hret
  have u101z := xw_0 M0
  have u101l := ri_l (M := M0) (by omega)
  refine j_aload_n C 0 0 dX12_readTerm_0 rfl rfl ?_
  refine j_iload_n C 1 1 dX12_readTerm_1 rfl rfl ?_
  refine j_callVv C (d := 13) (As := [.int (sI 4)]) (st := []) 98 (s_lt rfl rfl) (s_kc (c := 11) rfl rfl) (by decide) rfl (s3_X12_readAtom hM0 hpr (by omega) (by omega) (by omega)) gX12_readTerm_X12_readAtom rfl hdX12_readAtom (by decide) (Nat.le_of_ble_eq_true rfl) dX12_readTerm_2 rfl (fun M103 h104 => ?_)
  obtain ⟨hM103, fM103, h105⟩ := h104
  have u106l := ri_l (M := M103) (by omega)
  have L128 : ∀ (n126 : Nat), ∀ (M129 : mm_M), ((b01 (RIP M129) = 1) ∧ ((M129.1 98 8).toInt = (M0.1 98 8).toInt) ∧ ((M0.1 98 6).toInt ≤ (M129.1 98 6).toInt) ∧ (b01 (XW M0 M129 0 1 0) = 1) ∧ ((M129.1 98 6).toInt ≤ 900) ∧ (b01 (PI M129) = 1) ∧ (900 - (M129.1 98 6).toInt) < (n126 : Int)) → INV pr Kz M129 → FR [98, 102] M0 M129 → jj p l e (cn_R 14) s m args below meth c 0 0 Q 2 dC dI ad cA A M129 5 [(0, .ref (ad 98)), (1, .int (sI 4))] [] := by
    intro n126
    induction n126 with
    | zero =>
      intro M129 h130 hM129 fM129
      exfalso; omega
    | succ n126 ih127 =>
      intro M129 h130 hM129 fM129
      have u131l := ri_l (M := M129) (by omega)
      refine j_aload_n C 0 0 dX12_readTerm_5 rfl rfl ?_
      refine y_bipush C dX12_readTerm_6 rfl ?_
      refine j_callVi C (d := 6) (As := [.int (sI 34)]) (st := []) 98 (s_lt rfl rfl) (s_kc (c := 11) rfl rfl) (by decide) rfl (s1_X12_eats hM129 hpr 34 (by omega) (by omega) (by omega) (by omega)) gX12_readTerm_X12_eats rfl hdX12_eats (by decide) (Nat.le_of_ble_eq_true rfl) dX12_readTerm_8 rfl (fun r132 M133 h134 => ?_)
      obtain ⟨a136, rfl, hM133, fM133, h135⟩ := h134
      refine y_if_eq C 29 dX12_readTerm_11 (by decide) (by omega) (fun h137 => ?_) (fun h137 => ?_)
      · have u149c := xw_c (N := M129) (P := M133) 0 (FR.cell fM133 (by decide)) (by omega)
        have u149t := xw_t (M := M0) (N := M129) (P := M133) (r1 := 0) (e1 := 1) (s1 := 0) (r2 := 0) (e2 := 0) (s2 := 0) 0 1 0 (by decide) (by omega) (by omega)
        have u149a := ca_x (M := M0) (N := M133) (r := 0) (e := 1) (s := 0) (by decide) (by omega) (by omega)
        exact hret _ _ _ dX12_readTerm_29 ⟨hM133, ((FR.rf.tr fM129 (by decide)).tr fM133 (by decide)), by omega⟩
      · have u138c := xw_c (N := M129) (P := M133) 1 (FR.cell fM133 (by decide)) (by omega)
        have u138t := xw_t (M := M0) (N := M129) (P := M133) (r1 := 0) (e1 := 1) (s1 := 0) (r2 := 0) (e2 := 0) (s2 := 1) 0 1 1 (by decide) (by omega) (by omega)
        have u138a := ca_x (M := M0) (N := M133) (r := 0) (e := 1) (s := 1) (by decide) (by omega) (by omega)
        have u138l := ri_l (M := M133) (by omega)
        refine j_aload_n C 0 0 dX12_readTerm_14 rfl rfl ?_
        refine j_iload_n C 1 1 dX12_readTerm_15 rfl rfl ?_
        refine j_callVv C (d := 13) (As := [.int (sI 4)]) (st := []) 98 (s_lt rfl rfl) (s_kc (c := 11) rfl rfl) (by decide) rfl (s3_X12_readAtom hM133 hpr (by omega) (by omega) (by omega)) gX12_readTerm_X12_readAtom rfl hdX12_readAtom (by decide) (Nat.le_of_ble_eq_true rfl) dX12_readTerm_16 rfl (fun M140 h141 => ?_)
        obtain ⟨hM140, fM140, h142⟩ := h141
        have u143t := xw_t (M := M0) (N := M133) (P := M140) (r1 := 0) (e1 := 1) (s1 := 1) (r2 := 0) (e2 := 1) (s2 := 0) 0 2 1 (by decide) (by omega) (by omega)
        have u143l := ri_l (M := M140) (by omega)
        have u143b := cb_x (M := M0) (N := M140) (r := 0) (e := 2) (s := 1) (by decide) (by omega) (by omega) (by omega)
        refine j_aload_n C 0 0 dX12_readTerm_19 rfl rfl ?_
        refine y_sipush C dX12_readTerm_20 rfl ?_
        refine j_callVv C (d := 0) (As := [.int (sI 3002)]) (st := []) 98 (s_lt rfl rfl) (s_kc (c := 11) rfl rfl) (by decide) rfl (s1_X12_codes hM140 hpr 3002 (by omega) (by omega) (by omega)) gX12_readTerm_X12_codes rfl hdX12_codes (by decide) (Nat.le_of_ble_eq_true rfl) dX12_readTerm_23 rfl (fun M145 h146 => ?_)
        obtain ⟨hM145, fM145, h147⟩ := h146
        refine j_goto C 5 dX12_readTerm_26 (by decide) ?_
        have u148x := xw_a (M := M140) (N := M145) (c := 3002) (r := 2) (e := (-1)) (FR.cell fM145 (by decide)) (ap_bin ⟨(INV.rd hM140 (i := 102) (c := 48) (k := 280) rfl rfl).1, by omega, by omega⟩) (by omega)
        have u148t := xw_t (M := M0) (N := M140) (P := M145) (r1 := 0) (e1 := 2) (s1 := 1) (r2 := 2) (e2 := (-1)) (s2 := (-1)) 0 1 0 (by decide) (by omega) (by omega)
        have u148i := ri_c (M := M140) (N := M145) (FR.cell fM145 (by decide)) (by omega)
        have u148l := ri_l (M := M145) (by omega)
        have zz98_8 : (M145.1 98 8).toInt = (M140.1 98 8).toInt := s_fF fM145 (by decide) (rfl); have zz98_6 : (M145.1 98 6).toInt = (M140.1 98 6).toInt := s_fF fM145 (by decide) (rfl); exact ih127 M145 (by omega) hM145 ((((FR.rf.tr fM129 (by decide)).tr fM133 (by decide)).tr fM140 (by decide)).tr fM145 (by decide))
  exact L128 2010 M103 (by omega) hM103 (FR.rf.tr fM103 (by decide))
set_option maxHeartbeats 4000000 in
theorem s3_X12_readSum {l : Launch} {dC : Nat → ClassId} {dI : Nat → Nat → Nat} {ad : Nat → Nat} {cA : Nat → ClassId} {pr : Nat → Nat → Bool} {Kz : mm_M} {M0 : mm_M} (hM0 : INV pr Kz M0) (hpr : PM pr)  (hp0 : b01 (RIP M0) = 1) (hp1 : b01 (CA M0) = 1) (hp2 : b01 (PI M0) = 1) : Cv l 15 yX12_readSum wsX12_readSum dC dI ad cA [.ref (ad 98), .int (sI 4)] M0 (fun M' => INV pr Kz M' ∧ FR [98, 102] M0 M' ∧ (b01 (RIP M') = 1) ∧ ((M'.1 98 8).toInt = (M0.1 98 8).toInt) ∧ ((M0.1 98 6).toInt ≤ (M'.1 98 6).toInt) ∧ (b01 (XW M0 M' 0 1 0) = 1) ∧ (b01 (CA M') = 1) ∧ (b01 (PI M') = 1)) := by
  refine cv_of (cc := cX12_readSum) (maxL := 3) (lv := [(0, .ref (ad 98)), (1, .int (sI 4))]) (by decide) rfl (Nat.le_of_ble_eq_true rfl) rfl ?_
  intro p e s m args below meth c A Q C hret
  have u101z := xw_0 M0
  have u101l := ri_l (M := M0) (by omega)
  refine j_aload_n C 0 0 dX12_readSum_0 rfl rfl ?_
  refine j_iload_n C 1 1 dX12_readSum_1 rfl rfl ?_
  refine j_callVv C (d := 14) (As := [.int (sI 4)]) (st := []) 98 (s_lt rfl rfl) (s_kc (c := 11) rfl rfl) (by decide) rfl (s3_X12_readTerm hM0 hpr (by omega) (by omega) (by omega)) gX12_readSum_X12_readTerm rfl hdX12_readTerm (by decide) (Nat.le_of_ble_eq_true rfl) dX12_readSum_2 rfl (fun M103 h104 => ?_)
  obtain ⟨hM103, fM103, h105⟩ := h104
  have u106l := ri_l (M := M103) (by omega)
  have L167 : ∀ (n165 : Nat), ∀ (M168 : mm_M), ((b01 (RIP M168) = 1) ∧ ((M168.1 98 8).toInt = (M0.1 98 8).toInt) ∧ ((M0.1 98 6).toInt ≤ (M168.1 98 6).toInt) ∧ (b01 (XW M0 M168 0 1 0) = 1) ∧ ((M168.1 98 6).toInt ≤ 900) ∧ (b01 (PI M168) = 1) ∧ (900 - (M168.1 98 6).toInt) < (n165 : Int)) → INV pr Kz M168 → FR [98, 102] M0 M168 → jj p l e (cn_R 15) s m args below meth c 0 0 Q 3 dC dI ad cA A M168 5 [(0, .ref (ad 98)), (1, .int (sI 4))] [] := by
    intro n165
    induction n165 with
    | zero =>
      intro M168 h169 hM168 fM168
      exfalso; omega
    | succ n165 ih166 =>
      intro M168 h169 hM168 fM168
      have u170l := ri_l (M := M168) (by omega)
      refine j_aload_n C 0 0 dX12_readSum_5 rfl rfl ?_
      refine y_bipush C dX12_readSum_6 rfl ?_
      refine j_callVi C (d := 0) (As := [.int (sI 32)]) (st := []) 98 (s_lt rfl rfl) (s_kc (c := 11) rfl rfl) (by decide) rfl (s1_X12_is hM168 32 (by omega)) gX12_readSum_X12_is rfl hdX12_is (by decide) (Nat.le_of_ble_eq_true rfl) dX12_readSum_8 rfl (fun r171 M172 h173 => ?_)
      obtain ⟨a175, rfl, rfl, h174⟩ := h173
      refine y_if_ne C 23 dX12_readSum_11 (by decide) (by omega) (fun h176 => ?_) (fun h176 => ?_)
      · refine j_aload_n C 0 0 dX12_readSum_23 rfl rfl ?_
        refine y_getI C 11 _ _ fX12_readSum_108 rfl rfl ft_11_9 sb_11_9 hM168 dX12_readSum_24 (fun a177 ea177 la177 ua177 => ?_)
        obtain rfl : a177 = (M168.1 98 9).toInt := ea177
        refine y_bipush C dX12_readSum_27 rfl ?_
        have J181 : ∀ (a180 : Int), (3000 ≤ a180 ∧ a180 ≤ 3001) → jj p l e (cn_R 15) s m args below meth c 0 0 Q 3 dC dI ad cA A M168 41 [(0, .ref (ad 98)), (1, .int (sI 4))] [.int (sI a180)] := by
          intro a180 h182
          refine j_istore_n C 2 [(2, .int (sI a180)), (0, .ref (ad 98)), (1, .int (sI 4))] dX12_readSum_41 rfl (by decide) rfl ?_
          have u183k := ri_k (M := M168) (by omega) (by omega)
          refine j_aload_n C 1 0 dX12_readSum_42 rfl rfl ?_
          refine j_callVv C (d := 5) (As := []) (st := []) 98 (s_lt rfl rfl) (s_kc (c := 11) rfl rfl) (by decide) rfl (s1_X12_next hM168 hpr (by omega) (by omega) (by omega)) gX12_readSum_X12_next rfl hdX12_next (by decide) (Nat.le_of_ble_eq_true rfl) dX12_readSum_43 rfl (fun M185 h186 => ?_)
          obtain ⟨hM185, fM185, h187⟩ := h186
          have u188c := xw_c (N := M168) (P := M185) 1 (FR.cell fM185 (by decide)) (by omega)
          have u188t := xw_t (M := M0) (N := M168) (P := M185) (r1 := 0) (e1 := 1) (s1 := 0) (r2 := 0) (e2 := 0) (s2 := 1) 0 1 1 (by decide) (by omega) (by omega)
          have u188a := ca_x (M := M0) (N := M185) (r := 0) (e := 1) (s := 1) (by decide) (by omega) (by omega)
          have u188l := ri_l (M := M185) (by omega)
          refine j_aload_n C 1 0 dX12_readSum_46 rfl rfl ?_
          refine j_iload_n C 2 1 dX12_readSum_47 rfl rfl ?_
          refine j_callVv C (d := 14) (As := [.int (sI 4)]) (st := []) 98 (s_lt rfl rfl) (s_kc (c := 11) rfl rfl) (by decide) rfl (s3_X12_readTerm hM185 hpr (by omega) (by omega) (by omega)) gX12_readSum_X12_readTerm rfl hdX12_readTerm (by decide) (Nat.le_of_ble_eq_true rfl) dX12_readSum_48 rfl (fun M190 h191 => ?_)
          obtain ⟨hM190, fM190, h192⟩ := h191
          have u193t := xw_t (M := M0) (N := M185) (P := M190) (r1 := 0) (e1 := 1) (s1 := 1) (r2 := 0) (e2 := 1) (s2 := 0) 0 2 1 (by decide) (by omega) (by omega)
          have u193l := ri_l (M := M190) (by omega)
          have u193b := cb_x (M := M0) (N := M190) (r := 0) (e := 2) (s := 1) (by decide) (by omega) (by omega) (by omega)
          refine j_aload_n C 1 0 dX12_readSum_51 rfl rfl ?_
          refine j_iload_n C 0 2 dX12_readSum_52 rfl rfl ?_
          refine j_callVv C (d := 0) (As := [.int (sI a180)]) (st := []) 98 (s_lt rfl rfl) (s_kc (c := 11) rfl rfl) (by decide) rfl (s1_X12_codes hM190 hpr a180 (by omega) (by omega) (by omega)) gX12_readSum_X12_codes rfl hdX12_codes (by decide) (Nat.le_of_ble_eq_true rfl) dX12_readSum_53 rfl (fun M195 h196 => ?_)
          obtain ⟨hM195, fM195, h197⟩ := h196
          refine j_goto C 5 dX12_readSum_56 (by decide) ?_
          have u198x := xw_a (M := M190) (N := M195) (c := a180) (r := 2) (e := (-1)) (FR.cell fM195 (by decide)) (ap_bin ⟨(INV.rd hM190 (i := 102) (c := 48) (k := 280) rfl rfl).1, by omega, by omega⟩) (by omega)
          have u198t := xw_t (M := M0) (N := M190) (P := M195) (r1 := 0) (e1 := 2) (s1 := 1) (r2 := 2) (e2 := (-1)) (s2 := (-1)) 0 1 0 (by decide) (by omega) (by omega)
          have u198i := ri_c (M := M190) (N := M195) (FR.cell fM195 (by decide)) (by omega)
          have u198l := ri_l (M := M195) (by omega)
          have zz98_8 : (M195.1 98 8).toInt = (M190.1 98 8).toInt := s_fF fM195 (by decide) (rfl); have zz98_6 : (M195.1 98 6).toInt = (M190.1 98 6).toInt := s_fF fM195 (by decide) (rfl); refine j_lv [1, 2] rfl ?_; exact ih166 M195 (by omega) hM195 ((((FR.rf.tr fM168 (by decide)).tr fM185 (by decide)).tr fM190 (by decide)).tr fM195 (by decide))
        refine y_icmp_ne C 38 dX12_readSum_29 (by decide) (by omega) (fun h179 => ?_) (fun h179 => ?_)
        · refine y_sipush C dX12_readSum_38 rfl ?_
          exact J181 3001 (by omega)
        · refine y_sipush C dX12_readSum_32 rfl ?_
          refine j_goto C 41 dX12_readSum_35 (by decide) ?_
          exact J181 3000 (by omega)
      · refine j_aload_n C 0 0 dX12_readSum_14 rfl rfl ?_
        refine y_bipush C dX12_readSum_15 rfl ?_
        refine j_callVi C (d := 0) (As := [.int (sI 33)]) (st := []) 98 (s_lt rfl rfl) (s_kc (c := 11) rfl rfl) (by decide) rfl (s1_X12_is hM168 33 (by omega)) gX12_readSum_X12_is rfl hdX12_is (by decide) (Nat.le_of_ble_eq_true rfl) dX12_readSum_17 rfl (fun r199 M200 h201 => ?_)
        obtain ⟨a203, rfl, rfl, h202⟩ := h201
        refine y_if_eq C 59 dX12_readSum_20 (by decide) (by omega) (fun h204 => ?_) (fun h204 => ?_)
        · have u227a := ca_x (M := M0) (N := M168) (r := 0) (e := 1) (s := 0) (by decide) (by omega) (by omega)
          exact hret _ _ _ dX12_readSum_59 ⟨hM168, (FR.rf.tr fM168 (by decide)), by omega⟩
        · refine j_aload_n C 0 0 dX12_readSum_23 rfl rfl ?_
          refine y_getI C 11 _ _ fX12_readSum_108 rfl rfl ft_11_9 sb_11_9 hM168 dX12_readSum_24 (fun a205 ea205 la205 ua205 => ?_)
          obtain rfl : a205 = (M168.1 98 9).toInt := ea205
          refine y_bipush C dX12_readSum_27 rfl ?_
          have J209 : ∀ (a208 : Int), (3000 ≤ a208 ∧ a208 ≤ 3001) → jj p l e (cn_R 15) s m args below meth c 0 0 Q 3 dC dI ad cA A M168 41 [(0, .ref (ad 98)), (1, .int (sI 4))] [.int (sI a208)] := by
            intro a208 h210
            refine j_istore_n C 2 [(2, .int (sI a208)), (0, .ref (ad 98)), (1, .int (sI 4))] dX12_readSum_41 rfl (by decide) rfl ?_
            have u211k := ri_k (M := M168) (by omega) (by omega)
            refine j_aload_n C 1 0 dX12_readSum_42 rfl rfl ?_
            refine j_callVv C (d := 5) (As := []) (st := []) 98 (s_lt rfl rfl) (s_kc (c := 11) rfl rfl) (by decide) rfl (s1_X12_next hM168 hpr (by omega) (by omega) (by omega)) gX12_readSum_X12_next rfl hdX12_next (by decide) (Nat.le_of_ble_eq_true rfl) dX12_readSum_43 rfl (fun M213 h214 => ?_)
            obtain ⟨hM213, fM213, h215⟩ := h214
            have u216c := xw_c (N := M168) (P := M213) 1 (FR.cell fM213 (by decide)) (by omega)
            have u216t := xw_t (M := M0) (N := M168) (P := M213) (r1 := 0) (e1 := 1) (s1 := 0) (r2 := 0) (e2 := 0) (s2 := 1) 0 1 1 (by decide) (by omega) (by omega)
            have u216a := ca_x (M := M0) (N := M213) (r := 0) (e := 1) (s := 1) (by decide) (by omega) (by omega)
            have u216l := ri_l (M := M213) (by omega)
            refine j_aload_n C 1 0 dX12_readSum_46 rfl rfl ?_
            refine j_iload_n C 2 1 dX12_readSum_47 rfl rfl ?_
            refine j_callVv C (d := 14) (As := [.int (sI 4)]) (st := []) 98 (s_lt rfl rfl) (s_kc (c := 11) rfl rfl) (by decide) rfl (s3_X12_readTerm hM213 hpr (by omega) (by omega) (by omega)) gX12_readSum_X12_readTerm rfl hdX12_readTerm (by decide) (Nat.le_of_ble_eq_true rfl) dX12_readSum_48 rfl (fun M218 h219 => ?_)
            obtain ⟨hM218, fM218, h220⟩ := h219
            have u221t := xw_t (M := M0) (N := M213) (P := M218) (r1 := 0) (e1 := 1) (s1 := 1) (r2 := 0) (e2 := 1) (s2 := 0) 0 2 1 (by decide) (by omega) (by omega)
            have u221l := ri_l (M := M218) (by omega)
            have u221b := cb_x (M := M0) (N := M218) (r := 0) (e := 2) (s := 1) (by decide) (by omega) (by omega) (by omega)
            refine j_aload_n C 1 0 dX12_readSum_51 rfl rfl ?_
            refine j_iload_n C 0 2 dX12_readSum_52 rfl rfl ?_
            refine j_callVv C (d := 0) (As := [.int (sI a208)]) (st := []) 98 (s_lt rfl rfl) (s_kc (c := 11) rfl rfl) (by decide) rfl (s1_X12_codes hM218 hpr a208 (by omega) (by omega) (by omega)) gX12_readSum_X12_codes rfl hdX12_codes (by decide) (Nat.le_of_ble_eq_true rfl) dX12_readSum_53 rfl (fun M223 h224 => ?_)
            obtain ⟨hM223, fM223, h225⟩ := h224
            refine j_goto C 5 dX12_readSum_56 (by decide) ?_
            have u226x := xw_a (M := M218) (N := M223) (c := a208) (r := 2) (e := (-1)) (FR.cell fM223 (by decide)) (ap_bin ⟨(INV.rd hM218 (i := 102) (c := 48) (k := 280) rfl rfl).1, by omega, by omega⟩) (by omega)
            have u226t := xw_t (M := M0) (N := M218) (P := M223) (r1 := 0) (e1 := 2) (s1 := 1) (r2 := 2) (e2 := (-1)) (s2 := (-1)) 0 1 0 (by decide) (by omega) (by omega)
            have u226i := ri_c (M := M218) (N := M223) (FR.cell fM223 (by decide)) (by omega)
            have u226l := ri_l (M := M223) (by omega)
            have zz98_8 : (M223.1 98 8).toInt = (M218.1 98 8).toInt := s_fF fM223 (by decide) (rfl); have zz98_6 : (M223.1 98 6).toInt = (M218.1 98 6).toInt := s_fF fM223 (by decide) (rfl); refine j_lv [1, 2] rfl ?_; exact ih166 M223 (by omega) hM223 ((((FR.rf.tr fM168 (by decide)).tr fM213 (by decide)).tr fM218 (by decide)).tr fM223 (by decide))
          refine y_icmp_ne C 38 dX12_readSum_29 (by decide) (by omega) (fun h207 => ?_) (fun h207 => ?_)
          · refine y_sipush C dX12_readSum_38 rfl ?_
            exact J209 3001 (by omega)
          · refine y_sipush C dX12_readSum_32 rfl ?_
            refine j_goto C 41 dX12_readSum_35 (by decide) ?_
            exact J209 3000 (by omega)
  exact L167 2010 M103 (by omega) hM103 (FR.rf.tr fM103 (by decide))
set_option maxHeartbeats 4000000 in
theorem s4_X12_readAtom {l : Launch} {dC : Nat → ClassId} {dI : Nat → Nat → Nat} {ad : Nat → Nat} {cA : Nat → ClassId} {pr : Nat → Nat → Bool} {Kz : mm_M} {M0 : mm_M} (hM0 : INV pr Kz M0) (hpr : PM pr)  (hp0 : b01 (RIP M0) = 1) (hp1 : b01 (CA M0) = 1) (hp2 : b01 (PI M0) = 1) : Cv l 16 yX12_readAtom wsX12_readAtom dC dI ad cA [.ref (ad 98), .int (sI 3)] M0 (fun M' => INV pr Kz M' ∧ FR [98, 102] M0 M' ∧ (b01 (RIP M') = 1) ∧ ((M'.1 98 8).toInt = (M0.1 98 8).toInt) ∧ ((M0.1 98 6).toInt ≤ (M'.1 98 6).toInt) ∧ (b01 (XW M0 M' 0 1 0) = 1) ∧ (b01 (CA M') = 1) ∧ (b01 (PI M') = 1)) := by
  refine cv_of (cc := cX12_readAtom) (maxL := 2) (lv := [(0, .ref (ad 98)), (1, .int (sI 3))]) (by decide) rfl (Nat.le_of_ble_eq_true rfl) rfl ?_
  intro p e s m args below meth c A Q C hret
  have u101z := xw_0 M0
  have u101l := ri_l (M := M0) (by omega)
  refine j_aload_n C 0 0 dX12_readAtom_0 rfl rfl ?_
  refine y_bipush C dX12_readAtom_1 rfl ?_
  refine j_callVi C (d := 0) (As := [.int (sI 23)]) (st := []) 98 (s_lt rfl rfl) (s_kc (c := 11) rfl rfl) (by decide) rfl (s1_X12_is hM0 23 (by omega)) gX12_readAtom_X12_is rfl hdX12_is (by decide) (Nat.le_of_ble_eq_true rfl) dX12_readAtom_3 rfl (fun r102 M103 h104 => ?_)
  obtain ⟨a106, rfl, rfl, h105⟩ := h104
  refine y_if_eq C 24 dX12_readAtom_6 (by decide) (by omega) (fun h107 => ?_) (fun h107 => ?_)
  · refine j_aload_n C 0 0 dX12_readAtom_24 rfl rfl ?_
    refine y_getI C 11 _ _ fX12_readAtom_126 rfl rfl ft_11_11 sb_11_11 hM0 dX12_readAtom_25 (fun a108 ea108 la108 ua108 => ?_)
    obtain rfl : a108 = (M0.1 98 11).toInt := ea108
    refine y_if_ne C 66 dX12_readAtom_28 (by decide) (by omega) (fun h110 => ?_) (fun h110 => ?_)
    · refine j_aload_n C 0 0 dX12_readAtom_66 rfl rfl ?_
      refine y_bipush C dX12_readAtom_67 rfl ?_
      refine j_callVi C (d := 0) (As := [.int (sI 35)]) (st := []) 98 (s_lt rfl rfl) (s_kc (c := 11) rfl rfl) (by decide) rfl (s1_X12_is hM0 35 (by omega)) gX12_readAtom_X12_is rfl hdX12_is (by decide) (Nat.le_of_ble_eq_true rfl) dX12_readAtom_69 rfl (fun r111 M112 h113 => ?_)
      obtain ⟨a115, rfl, rfl, h114⟩ := h113
      refine y_if_eq C 108 dX12_readAtom_72 (by decide) (by omega) (fun h116 => ?_) (fun h116 => ?_)
      · refine j_aload_n C 0 0 dX12_readAtom_108 rfl rfl ?_
        refine y_iconst C dX12_readAtom_109 ?_
        refine j_callVv C (d := 0) (As := [.int (sI 2)]) (st := []) 98 (s_lt rfl rfl) (s_kc (c := 11) rfl rfl) (by decide) rfl (s1_X12_fails hM0 hpr 2 (by omega) (by omega) (by omega) (by omega)) gX12_readAtom_X12_fails rfl hdX12_fails (by decide) (Nat.le_of_ble_eq_true rfl) dX12_readAtom_110 rfl (fun M118 h119 => ?_)
        obtain ⟨hM118, fM118, h120⟩ := h119
        have u121f : b01 (XW M0 M118 0 1 0) = 1 := b01_i (Or.inl (by omega))
        have u121a := ca_x (M := M0) (N := M118) (r := 0) (e := 1) (s := 0) (by decide) (by omega) (by omega)
        exact hret _ _ _ dX12_readAtom_113 ⟨hM118, (FR.rf.tr fM118 (by decide)), by omega⟩
      · have u122k := ri_k (M := M0) (by omega) (by omega)
        refine j_aload_n C 0 0 dX12_readAtom_75 rfl rfl ?_
        refine j_iload_n C 1 1 dX12_readAtom_76 rfl rfl ?_
        refine j_callVi C (d := 6) (As := [.int (sI 3)]) (st := []) 98 (s_lt rfl rfl) (s_kc (c := 11) rfl rfl) (by decide) rfl (s4_X12_goesIn hM0 hpr (by omega) (by omega)) gX12_readAtom_X12_goesIn rfl hdX12_goesIn (by decide) (Nat.le_of_ble_eq_true rfl) dX12_readAtom_77 rfl (fun r123 M124 h125 => ?_)
        obtain ⟨a127, rfl, hM124, fM124, h126⟩ := h125
        refine y_if_ne C 84 dX12_readAtom_80 (by decide) (by omega) (fun h128 => ?_) (fun h128 => ?_)
        · have u129c := xw_c (N := M0) (P := M124) 1 (FR.cell fM124 (by decide)) (by omega)
          have u129t := xw_t (M := M0) (N := M0) (P := M124) (r1 := 0) (e1 := 0) (s1 := 0) (r2 := 0) (e2 := 0) (s2 := 1) 0 0 1 (by decide) (by omega) (by omega)
          have u129a := ca_x (M := M0) (N := M124) (r := 0) (e := 0) (s := 1) (by decide) (by omega) (by omega)
          have u129l := ri_l (M := M124) (by omega)
          refine j_aload_n C 0 0 dX12_readAtom_84 rfl rfl ?_
          refine j_iload_n C 1 1 dX12_readAtom_85 rfl rfl ?_
          refine y_iconst C dX12_readAtom_86 ?_
          refine y_iadd C dX12_readAtom_87 ?_
          refine j_callVv C (d := 15) (As := [.int (sI (3 + 1))]) (st := []) 98 (s_lt rfl rfl) (s_kc (c := 11) rfl rfl) (by decide) rfl (s3_X12_readSum hM124 hpr (by omega) (by omega) (by omega)) gX12_readAtom_X12_readSum rfl hdX12_readSum (by decide) (Nat.le_of_ble_eq_true rfl) dX12_readAtom_88 rfl (fun M131 h132 => ?_)
          obtain ⟨hM131, fM131, h133⟩ := h132
          have u134t := xw_t (M := M0) (N := M124) (P := M131) (r1 := 0) (e1 := 0) (s1 := 1) (r2 := 0) (e2 := 1) (s2 := 0) 0 1 1 (by decide) (by omega) (by omega)
          have u134l := ri_l (M := M131) (by omega)
          refine j_aload_n C 0 0 dX12_readAtom_91 rfl rfl ?_
          refine y_bipush C dX12_readAtom_92 rfl ?_
          refine j_callVi C (d := 6) (As := [.int (sI 36)]) (st := []) 98 (s_lt rfl rfl) (s_kc (c := 11) rfl rfl) (by decide) rfl (s1_X12_eats hM131 hpr 36 (by omega) (by omega) (by omega) (by omega)) gX12_readAtom_X12_eats rfl hdX12_eats (by decide) (Nat.le_of_ble_eq_true rfl) dX12_readAtom_94 rfl (fun r135 M136 h137 => ?_)
          obtain ⟨a139, rfl, hM136, fM136, h138⟩ := h137
          have u140c := xw_c (N := M131) (P := M136) 0 (FR.cell fM136 (by decide)) (by omega)
          have u140t := xw_t (M := M0) (N := M131) (P := M136) (r1 := 0) (e1 := 1) (s1 := 1) (r2 := 0) (e2 := 0) (s2 := 0) 0 1 0 (by decide) (by omega) (by omega)
          have u140a := ca_x (M := M0) (N := M136) (r := 0) (e := 1) (s := 0) (by decide) (by omega) (by omega)
          have u140l := ri_l (M := M136) (by omega)
          refine y_if_ne C 113 dX12_readAtom_97 (by decide) (by omega) (fun h141 => ?_) (fun h141 => ?_)
          · exact hret _ _ _ dX12_readAtom_113 ⟨hM136, (((FR.rf.tr fM124 (by decide)).tr fM131 (by decide)).tr fM136 (by decide)), by omega⟩
          · refine j_aload_n C 0 0 dX12_readAtom_100 rfl rfl ?_
            refine y_iconst C dX12_readAtom_101 ?_
            refine j_callVv C (d := 0) (As := [.int (sI 2)]) (st := []) 98 (s_lt rfl rfl) (s_kc (c := 11) rfl rfl) (by decide) rfl (s1_X12_fails hM136 hpr 2 (by omega) (by omega) (by omega) (by omega)) gX12_readAtom_X12_fails rfl hdX12_fails (by decide) (Nat.le_of_ble_eq_true rfl) dX12_readAtom_102 rfl (fun M144 h145 => ?_)
            obtain ⟨hM144, fM144, h146⟩ := h145
            have u147f : b01 (XW M0 M144 0 1 0) = 1 := b01_i (Or.inl (by omega))
            have u147a := ca_x (M := M0) (N := M144) (r := 0) (e := 1) (s := 0) (by decide) (by omega) (by omega)
            refine j_goto C 113 dX12_readAtom_105 (by decide) ?_
            exact hret _ _ _ dX12_readAtom_113 ⟨hM144, ((((FR.rf.tr fM124 (by decide)).tr fM131 (by decide)).tr fM136 (by decide)).tr fM144 (by decide)), by omega⟩
        · have u149c := xw_c (N := M0) (P := M124) 0 (FR.cell fM124 (by decide)) (by omega)
          have u149f : b01 (XW M0 M124 0 1 0) = 1 := b01_i (Or.inl (by omega))
          have u149a := ca_x (M := M0) (N := M124) (r := 0) (e := 1) (s := 0) (by decide) (by omega) (by omega)
          exact hret _ _ _ dX12_readAtom_83 ⟨hM124, (FR.rf.tr fM124 (by decide)), by omega⟩
    · refine j_aload_n C 0 0 dX12_readAtom_31 rfl rfl ?_
      refine j_aload_n C 0 0 dX12_readAtom_32 rfl rfl ?_
      refine y_getI C 11 _ _ fX12_readAtom_108 rfl rfl ft_11_9 sb_11_9 hM0 dX12_readAtom_33 (fun a151 ea151 la151 ua151 => ?_)
      obtain rfl : a151 = (M0.1 98 9).toInt := ea151
      refine j_callVi C (d := 0) (As := [.int (sI (M0.1 98 9).toInt)]) (st := []) 98 (s_lt rfl rfl) (s_kc (c := 11) rfl rfl) (by decide) rfl (s1_X12_wordOf hM0 (M0.1 98 9).toInt (by omega)) gX12_readAtom_X12_wordOf rfl hdX12_wordOf (by decide) (Nat.le_of_ble_eq_true rfl) dX12_readAtom_36 rfl (fun r153 M154 h155 => ?_)
      obtain ⟨a157, rfl, rfl, h156⟩ := h155
      obtain rfl : a157 = (woF (M0.1 98 9).toInt) := by omega
      refine y_iconst C dX12_readAtom_39 ?_
      refine y_icmp_eq C 66 dX12_readAtom_40 (by decide) (by omega) (fun h158 => ?_) (fun h158 => ?_)
      · refine j_aload_n C 0 0 dX12_readAtom_66 rfl rfl ?_
        refine y_bipush C dX12_readAtom_67 rfl ?_
        refine j_callVi C (d := 0) (As := [.int (sI 35)]) (st := []) 98 (s_lt rfl rfl) (s_kc (c := 11) rfl rfl) (by decide) rfl (s1_X12_is hM0 35 (by omega)) gX12_readAtom_X12_is rfl hdX12_is (by decide) (Nat.le_of_ble_eq_true rfl) dX12_readAtom_69 rfl (fun r159 M160 h161 => ?_)
        obtain ⟨a163, rfl, rfl, h162⟩ := h161
        refine y_if_eq C 108 dX12_readAtom_72 (by decide) (by omega) (fun h164 => ?_) (fun h164 => ?_)
        · refine j_aload_n C 0 0 dX12_readAtom_108 rfl rfl ?_
          refine y_iconst C dX12_readAtom_109 ?_
          refine j_callVv C (d := 0) (As := [.int (sI 2)]) (st := []) 98 (s_lt rfl rfl) (s_kc (c := 11) rfl rfl) (by decide) rfl (s1_X12_fails hM0 hpr 2 (by omega) (by omega) (by omega) (by omega)) gX12_readAtom_X12_fails rfl hdX12_fails (by decide) (Nat.le_of_ble_eq_true rfl) dX12_readAtom_110 rfl (fun M166 h167 => ?_)
          obtain ⟨hM166, fM166, h168⟩ := h167
          have u169f : b01 (XW M0 M166 0 1 0) = 1 := b01_i (Or.inl (by omega))
          have u169a := ca_x (M := M0) (N := M166) (r := 0) (e := 1) (s := 0) (by decide) (by omega) (by omega)
          exact hret _ _ _ dX12_readAtom_113 ⟨hM166, (FR.rf.tr fM166 (by decide)), by omega⟩
        · have u170k := ri_k (M := M0) (by omega) (by omega)
          refine j_aload_n C 0 0 dX12_readAtom_75 rfl rfl ?_
          refine j_iload_n C 1 1 dX12_readAtom_76 rfl rfl ?_
          refine j_callVi C (d := 6) (As := [.int (sI 3)]) (st := []) 98 (s_lt rfl rfl) (s_kc (c := 11) rfl rfl) (by decide) rfl (s4_X12_goesIn hM0 hpr (by omega) (by omega)) gX12_readAtom_X12_goesIn rfl hdX12_goesIn (by decide) (Nat.le_of_ble_eq_true rfl) dX12_readAtom_77 rfl (fun r171 M172 h173 => ?_)
          obtain ⟨a175, rfl, hM172, fM172, h174⟩ := h173
          refine y_if_ne C 84 dX12_readAtom_80 (by decide) (by omega) (fun h176 => ?_) (fun h176 => ?_)
          · have u177c := xw_c (N := M0) (P := M172) 1 (FR.cell fM172 (by decide)) (by omega)
            have u177t := xw_t (M := M0) (N := M0) (P := M172) (r1 := 0) (e1 := 0) (s1 := 0) (r2 := 0) (e2 := 0) (s2 := 1) 0 0 1 (by decide) (by omega) (by omega)
            have u177a := ca_x (M := M0) (N := M172) (r := 0) (e := 0) (s := 1) (by decide) (by omega) (by omega)
            have u177l := ri_l (M := M172) (by omega)
            refine j_aload_n C 0 0 dX12_readAtom_84 rfl rfl ?_
            refine j_iload_n C 1 1 dX12_readAtom_85 rfl rfl ?_
            refine y_iconst C dX12_readAtom_86 ?_
            refine y_iadd C dX12_readAtom_87 ?_
            refine j_callVv C (d := 15) (As := [.int (sI (3 + 1))]) (st := []) 98 (s_lt rfl rfl) (s_kc (c := 11) rfl rfl) (by decide) rfl (s3_X12_readSum hM172 hpr (by omega) (by omega) (by omega)) gX12_readAtom_X12_readSum rfl hdX12_readSum (by decide) (Nat.le_of_ble_eq_true rfl) dX12_readAtom_88 rfl (fun M179 h180 => ?_)
            obtain ⟨hM179, fM179, h181⟩ := h180
            have u182t := xw_t (M := M0) (N := M172) (P := M179) (r1 := 0) (e1 := 0) (s1 := 1) (r2 := 0) (e2 := 1) (s2 := 0) 0 1 1 (by decide) (by omega) (by omega)
            have u182l := ri_l (M := M179) (by omega)
            refine j_aload_n C 0 0 dX12_readAtom_91 rfl rfl ?_
            refine y_bipush C dX12_readAtom_92 rfl ?_
            refine j_callVi C (d := 6) (As := [.int (sI 36)]) (st := []) 98 (s_lt rfl rfl) (s_kc (c := 11) rfl rfl) (by decide) rfl (s1_X12_eats hM179 hpr 36 (by omega) (by omega) (by omega) (by omega)) gX12_readAtom_X12_eats rfl hdX12_eats (by decide) (Nat.le_of_ble_eq_true rfl) dX12_readAtom_94 rfl (fun r183 M184 h185 => ?_)
            obtain ⟨a187, rfl, hM184, fM184, h186⟩ := h185
            have u188c := xw_c (N := M179) (P := M184) 0 (FR.cell fM184 (by decide)) (by omega)
            have u188t := xw_t (M := M0) (N := M179) (P := M184) (r1 := 0) (e1 := 1) (s1 := 1) (r2 := 0) (e2 := 0) (s2 := 0) 0 1 0 (by decide) (by omega) (by omega)
            have u188a := ca_x (M := M0) (N := M184) (r := 0) (e := 1) (s := 0) (by decide) (by omega) (by omega)
            have u188l := ri_l (M := M184) (by omega)
            refine y_if_ne C 113 dX12_readAtom_97 (by decide) (by omega) (fun h189 => ?_) (fun h189 => ?_)
            · exact hret _ _ _ dX12_readAtom_113 ⟨hM184, (((FR.rf.tr fM172 (by decide)).tr fM179 (by decide)).tr fM184 (by decide)), by omega⟩
            · refine j_aload_n C 0 0 dX12_readAtom_100 rfl rfl ?_
              refine y_iconst C dX12_readAtom_101 ?_
              refine j_callVv C (d := 0) (As := [.int (sI 2)]) (st := []) 98 (s_lt rfl rfl) (s_kc (c := 11) rfl rfl) (by decide) rfl (s1_X12_fails hM184 hpr 2 (by omega) (by omega) (by omega) (by omega)) gX12_readAtom_X12_fails rfl hdX12_fails (by decide) (Nat.le_of_ble_eq_true rfl) dX12_readAtom_102 rfl (fun M192 h193 => ?_)
              obtain ⟨hM192, fM192, h194⟩ := h193
              have u195f : b01 (XW M0 M192 0 1 0) = 1 := b01_i (Or.inl (by omega))
              have u195a := ca_x (M := M0) (N := M192) (r := 0) (e := 1) (s := 0) (by decide) (by omega) (by omega)
              refine j_goto C 113 dX12_readAtom_105 (by decide) ?_
              exact hret _ _ _ dX12_readAtom_113 ⟨hM192, ((((FR.rf.tr fM172 (by decide)).tr fM179 (by decide)).tr fM184 (by decide)).tr fM192 (by decide)), by omega⟩
          · have u197c := xw_c (N := M0) (P := M172) 0 (FR.cell fM172 (by decide)) (by omega)
            have u197f : b01 (XW M0 M172 0 1 0) = 1 := b01_i (Or.inl (by omega))
            have u197a := ca_x (M := M0) (N := M172) (r := 0) (e := 1) (s := 0) (by decide) (by omega) (by omega)
            exact hret _ _ _ dX12_readAtom_83 ⟨hM172, (FR.rf.tr fM172 (by decide)), by omega⟩
      · have u199w := woF_s (M0.1 98 9).toInt
        have u199k := ri_k (M := M0) (by omega) (by omega)
        have u199b := cb_0 (M := M0) (by omega) (by omega)
        refine j_aload_n C 0 0 dX12_readAtom_43 rfl rfl ?_
        refine y_sipush C dX12_readAtom_44 rfl ?_
        refine j_aload_n C 0 0 dX12_readAtom_47 rfl rfl ?_
        refine j_aload_n C 0 0 dX12_readAtom_48 rfl rfl ?_
        refine y_getI C 11 _ _ fX12_readAtom_108 rfl rfl ft_11_9 sb_11_9 hM0 dX12_readAtom_49 (fun a200 ea200 la200 ua200 => ?_)
        obtain rfl : a200 = (M0.1 98 9).toInt := ea200
        refine j_callVi C (d := 0) (As := [.int (sI (M0.1 98 9).toInt)]) (st := [.int (sI 1000), .ref (ad 98)]) 98 (s_lt rfl rfl) (s_kc (c := 11) rfl rfl) (by decide) rfl (s1_X12_wordOf hM0 (M0.1 98 9).toInt (by omega)) gX12_readAtom_X12_wordOf rfl hdX12_wordOf (by decide) (Nat.le_of_ble_eq_true rfl) dX12_readAtom_52 rfl (fun r202 M203 h204 => ?_)
        obtain ⟨a206, rfl, rfl, h205⟩ := h204
        obtain rfl : a206 = (woF (M0.1 98 9).toInt) := by omega
        refine y_iadd C dX12_readAtom_55 ?_
        refine j_callVv C (d := 0) (As := [.int (sI (1000 + (woF (M0.1 98 9).toInt)))]) (st := []) 98 (s_lt rfl rfl) (s_kc (c := 11) rfl rfl) (by decide) rfl (s1_X12_codes hM0 hpr (1000 + (woF (M0.1 98 9).toInt)) (by omega) (by omega) (by omega)) gX12_readAtom_X12_codes rfl hdX12_codes (by decide) (Nat.le_of_ble_eq_true rfl) dX12_readAtom_56 rfl (fun M208 h209 => ?_)
        obtain ⟨hM208, fM208, h210⟩ := h209
        have u211x := xw_a (M := M0) (N := M208) (c := (1000 + (woF (M0.1 98 9).toInt))) (r := 0) (e := 1) (FR.cell fM208 (by decide)) (ap_push ⟨(INV.rd hM0 (i := 102) (c := 48) (k := 280) rfl rfl).1, by omega, by omega⟩) (by omega)
        have u211t := xw_t (M := M0) (N := M0) (P := M208) (r1 := 0) (e1 := 0) (s1 := 0) (r2 := 0) (e2 := 1) (s2 := (-1)) 0 1 (-1) (by decide) (by omega) (by omega)
        have u211i := ri_c (M := M0) (N := M208) (FR.cell fM208 (by decide)) (by omega)
        have u211l := ri_l (M := M208) (by omega)
        have u211q6 : (M208.1 98 6).toInt = (M0.1 98 6).toInt := by rw [show M208.1 98 = M0.1 98 from FR.cell fM208 (by decide)]
        have u211q7 : (M208.1 98 7).toInt = (M0.1 98 7).toInt := by rw [show M208.1 98 = M0.1 98 from FR.cell fM208 (by decide)]
        have u211q8 : (M208.1 98 8).toInt = (M0.1 98 8).toInt := by rw [show M208.1 98 = M0.1 98 from FR.cell fM208 (by decide)]
        have u211q9 : (M208.1 98 9).toInt = (M0.1 98 9).toInt := by rw [show M208.1 98 = M0.1 98 from FR.cell fM208 (by decide)]
        have u211q11 : (M208.1 98 11).toInt = (M0.1 98 11).toInt := by rw [show M208.1 98 = M0.1 98 from FR.cell fM208 (by decide)]
        refine j_aload_n C 0 0 dX12_readAtom_59 rfl rfl ?_
        have zz98_7 : (M208.1 98 7).toInt = (M0.1 98 7).toInt := s_fF fM208 (by decide) (rfl)
        have zz98_8 : (M208.1 98 8).toInt = (M0.1 98 8).toInt := s_fF fM208 (by decide) (rfl)
        refine j_callVv C (d := 5) (As := []) (st := []) 98 (s_lt rfl rfl) (s_kc (c := 11) rfl rfl) (by decide) rfl (s1_X12_next hM208 hpr (by omega) (by omega) (by omega)) gX12_readAtom_X12_next rfl hdX12_next (by decide) (Nat.le_of_ble_eq_true rfl) dX12_readAtom_60 rfl (fun M213 h214 => ?_)
        obtain ⟨hM213, fM213, h215⟩ := h214
        have u216c := xw_c (N := M208) (P := M213) 1 (FR.cell fM213 (by decide)) (by omega)
        have u216t := xw_t (M := M0) (N := M208) (P := M213) (r1 := 0) (e1 := 1) (s1 := (-1)) (r2 := 0) (e2 := 0) (s2 := 1) 0 1 0 (by decide) (by omega) (by omega)
        have u216a := ca_x (M := M0) (N := M213) (r := 0) (e := 1) (s := 0) (by decide) (by omega) (by omega)
        refine j_goto C 113 dX12_readAtom_63 (by decide) ?_
        exact hret _ _ _ dX12_readAtom_113 ⟨hM213, ((FR.rf.tr fM208 (by decide)).tr fM213 (by decide)), by omega⟩
  · have u218k := ri_k (M := M0) (by omega) (by omega)
    have u218b := cb_0 (M := M0) (by omega) (by omega)
    refine j_aload_n C 0 0 dX12_readAtom_9 rfl rfl ?_
    refine j_aload_n C 0 0 dX12_readAtom_10 rfl rfl ?_
    refine y_getI C 11 _ _ fX12_readAtom_121 rfl rfl ft_11_10 sb_11_10 hM0 dX12_readAtom_11 (fun a219 ea219 la219 ua219 => ?_)
    obtain rfl : a219 = (M0.1 98 10).toInt := ea219
    refine j_callVv C (d := 0) (As := [.int (sI (M0.1 98 10).toInt)]) (st := []) 98 (s_lt rfl rfl) (s_kc (c := 11) rfl rfl) (by decide) rfl (s1_X12_codes hM0 hpr (M0.1 98 10).toInt (by omega) (by omega) (by omega)) gX12_readAtom_X12_codes rfl hdX12_codes (by decide) (Nat.le_of_ble_eq_true rfl) dX12_readAtom_14 rfl (fun M222 h223 => ?_)
    obtain ⟨hM222, fM222, h224⟩ := h223
    have u225x := xw_a (M := M0) (N := M222) (c := (M0.1 98 10).toInt) (r := 0) (e := 1) (FR.cell fM222 (by decide)) (ap_push ⟨(INV.rd hM0 (i := 102) (c := 48) (k := 280) rfl rfl).1, by omega, by omega⟩) (by omega)
    have u225t := xw_t (M := M0) (N := M0) (P := M222) (r1 := 0) (e1 := 0) (s1 := 0) (r2 := 0) (e2 := 1) (s2 := (-1)) 0 1 (-1) (by decide) (by omega) (by omega)
    have u225i := ri_c (M := M0) (N := M222) (FR.cell fM222 (by decide)) (by omega)
    have u225l := ri_l (M := M222) (by omega)
    have u225q6 : (M222.1 98 6).toInt = (M0.1 98 6).toInt := by rw [show M222.1 98 = M0.1 98 from FR.cell fM222 (by decide)]
    have u225q7 : (M222.1 98 7).toInt = (M0.1 98 7).toInt := by rw [show M222.1 98 = M0.1 98 from FR.cell fM222 (by decide)]
    have u225q8 : (M222.1 98 8).toInt = (M0.1 98 8).toInt := by rw [show M222.1 98 = M0.1 98 from FR.cell fM222 (by decide)]
    have u225q9 : (M222.1 98 9).toInt = (M0.1 98 9).toInt := by rw [show M222.1 98 = M0.1 98 from FR.cell fM222 (by decide)]
    have u225q11 : (M222.1 98 11).toInt = (M0.1 98 11).toInt := by rw [show M222.1 98 = M0.1 98 from FR.cell fM222 (by decide)]
    refine j_aload_n C 0 0 dX12_readAtom_17 rfl rfl ?_
    have zz98_7 : (M222.1 98 7).toInt = (M0.1 98 7).toInt := s_fF fM222 (by decide) (rfl)
    have zz98_8 : (M222.1 98 8).toInt = (M0.1 98 8).toInt := s_fF fM222 (by decide) (rfl)
    refine j_callVv C (d := 5) (As := []) (st := []) 98 (s_lt rfl rfl) (s_kc (c := 11) rfl rfl) (by decide) rfl (s1_X12_next hM222 hpr (by omega) (by omega) (by omega)) gX12_readAtom_X12_next rfl hdX12_next (by decide) (Nat.le_of_ble_eq_true rfl) dX12_readAtom_18 rfl (fun M227 h228 => ?_)
    obtain ⟨hM227, fM227, h229⟩ := h228
    have u230c := xw_c (N := M222) (P := M227) 1 (FR.cell fM227 (by decide)) (by omega)
    have u230t := xw_t (M := M0) (N := M222) (P := M227) (r1 := 0) (e1 := 1) (s1 := (-1)) (r2 := 0) (e2 := 0) (s2 := 1) 0 1 0 (by decide) (by omega) (by omega)
    have u230a := ca_x (M := M0) (N := M227) (r := 0) (e := 1) (s := 0) (by decide) (by omega) (by omega)
    refine j_goto C 113 dX12_readAtom_21 (by decide) ?_
    exact hret _ _ _ dX12_readAtom_113 ⟨hM227, ((FR.rf.tr fM222 (by decide)).tr fM227 (by decide)), by omega⟩
set_option maxHeartbeats 4000000 in
theorem s4_X12_readTerm {l : Launch} {dC : Nat → ClassId} {dI : Nat → Nat → Nat} {ad : Nat → Nat} {cA : Nat → ClassId} {pr : Nat → Nat → Bool} {Kz : mm_M} {M0 : mm_M} (hM0 : INV pr Kz M0) (hpr : PM pr)  (hp0 : b01 (RIP M0) = 1) (hp1 : b01 (CA M0) = 1) (hp2 : b01 (PI M0) = 1) : Cv l 17 yX12_readTerm wsX12_readTerm dC dI ad cA [.ref (ad 98), .int (sI 3)] M0 (fun M' => INV pr Kz M' ∧ FR [98, 102] M0 M' ∧ (b01 (RIP M') = 1) ∧ ((M'.1 98 8).toInt = (M0.1 98 8).toInt) ∧ ((M0.1 98 6).toInt ≤ (M'.1 98 6).toInt) ∧ (b01 (XW M0 M' 0 1 0) = 1) ∧ (b01 (CA M') = 1) ∧ (b01 (PI M') = 1)) := by
  refine cv_of (cc := cX12_readTerm) (maxL := 2) (lv := [(0, .ref (ad 98)), (1, .int (sI 3))]) (by decide) rfl (Nat.le_of_ble_eq_true rfl) rfl ?_
  intro p e s m args below meth c A Q C hret
  have u101z := xw_0 M0
  have u101l := ri_l (M := M0) (by omega)
  refine j_aload_n C 0 0 dX12_readTerm_0 rfl rfl ?_
  refine j_iload_n C 1 1 dX12_readTerm_1 rfl rfl ?_
  refine j_callVv C (d := 16) (As := [.int (sI 3)]) (st := []) 98 (s_lt rfl rfl) (s_kc (c := 11) rfl rfl) (by decide) rfl (s4_X12_readAtom hM0 hpr (by omega) (by omega) (by omega)) gX12_readTerm_X12_readAtom rfl hdX12_readAtom (by decide) (Nat.le_of_ble_eq_true rfl) dX12_readTerm_2 rfl (fun M103 h104 => ?_)
  obtain ⟨hM103, fM103, h105⟩ := h104
  have u106l := ri_l (M := M103) (by omega)
  have L128 : ∀ (n126 : Nat), ∀ (M129 : mm_M), ((b01 (RIP M129) = 1) ∧ ((M129.1 98 8).toInt = (M0.1 98 8).toInt) ∧ ((M0.1 98 6).toInt ≤ (M129.1 98 6).toInt) ∧ (b01 (XW M0 M129 0 1 0) = 1) ∧ ((M129.1 98 6).toInt ≤ 900) ∧ (b01 (PI M129) = 1) ∧ (900 - (M129.1 98 6).toInt) < (n126 : Int)) → INV pr Kz M129 → FR [98, 102] M0 M129 → jj p l e (cn_R 17) s m args below meth c 0 0 Q 2 dC dI ad cA A M129 5 [(0, .ref (ad 98)), (1, .int (sI 3))] [] := by
    intro n126
    induction n126 with
    | zero =>
      intro M129 h130 hM129 fM129
      exfalso; omega
    | succ n126 ih127 =>
      intro M129 h130 hM129 fM129
      have u131l := ri_l (M := M129) (by omega)
      refine j_aload_n C 0 0 dX12_readTerm_5 rfl rfl ?_
      refine y_bipush C dX12_readTerm_6 rfl ?_
      refine j_callVi C (d := 6) (As := [.int (sI 34)]) (st := []) 98 (s_lt rfl rfl) (s_kc (c := 11) rfl rfl) (by decide) rfl (s1_X12_eats hM129 hpr 34 (by omega) (by omega) (by omega) (by omega)) gX12_readTerm_X12_eats rfl hdX12_eats (by decide) (Nat.le_of_ble_eq_true rfl) dX12_readTerm_8 rfl (fun r132 M133 h134 => ?_)
      obtain ⟨a136, rfl, hM133, fM133, h135⟩ := h134
      refine y_if_eq C 29 dX12_readTerm_11 (by decide) (by omega) (fun h137 => ?_) (fun h137 => ?_)
      · have u149c := xw_c (N := M129) (P := M133) 0 (FR.cell fM133 (by decide)) (by omega)
        have u149t := xw_t (M := M0) (N := M129) (P := M133) (r1 := 0) (e1 := 1) (s1 := 0) (r2 := 0) (e2 := 0) (s2 := 0) 0 1 0 (by decide) (by omega) (by omega)
        have u149a := ca_x (M := M0) (N := M133) (r := 0) (e := 1) (s := 0) (by decide) (by omega) (by omega)
        exact hret _ _ _ dX12_readTerm_29 ⟨hM133, ((FR.rf.tr fM129 (by decide)).tr fM133 (by decide)), by omega⟩
      · have u138c := xw_c (N := M129) (P := M133) 1 (FR.cell fM133 (by decide)) (by omega)
        have u138t := xw_t (M := M0) (N := M129) (P := M133) (r1 := 0) (e1 := 1) (s1 := 0) (r2 := 0) (e2 := 0) (s2 := 1) 0 1 1 (by decide) (by omega) (by omega)
        have u138a := ca_x (M := M0) (N := M133) (r := 0) (e := 1) (s := 1) (by decide) (by omega) (by omega)
        have u138l := ri_l (M := M133) (by omega)
        refine j_aload_n C 0 0 dX12_readTerm_14 rfl rfl ?_
        refine j_iload_n C 1 1 dX12_readTerm_15 rfl rfl ?_
        refine j_callVv C (d := 16) (As := [.int (sI 3)]) (st := []) 98 (s_lt rfl rfl) (s_kc (c := 11) rfl rfl) (by decide) rfl (s4_X12_readAtom hM133 hpr (by omega) (by omega) (by omega)) gX12_readTerm_X12_readAtom rfl hdX12_readAtom (by decide) (Nat.le_of_ble_eq_true rfl) dX12_readTerm_16 rfl (fun M140 h141 => ?_)
        obtain ⟨hM140, fM140, h142⟩ := h141
        have u143t := xw_t (M := M0) (N := M133) (P := M140) (r1 := 0) (e1 := 1) (s1 := 1) (r2 := 0) (e2 := 1) (s2 := 0) 0 2 1 (by decide) (by omega) (by omega)
        have u143l := ri_l (M := M140) (by omega)
        have u143b := cb_x (M := M0) (N := M140) (r := 0) (e := 2) (s := 1) (by decide) (by omega) (by omega) (by omega)
        refine j_aload_n C 0 0 dX12_readTerm_19 rfl rfl ?_
        refine y_sipush C dX12_readTerm_20 rfl ?_
        refine j_callVv C (d := 0) (As := [.int (sI 3002)]) (st := []) 98 (s_lt rfl rfl) (s_kc (c := 11) rfl rfl) (by decide) rfl (s1_X12_codes hM140 hpr 3002 (by omega) (by omega) (by omega)) gX12_readTerm_X12_codes rfl hdX12_codes (by decide) (Nat.le_of_ble_eq_true rfl) dX12_readTerm_23 rfl (fun M145 h146 => ?_)
        obtain ⟨hM145, fM145, h147⟩ := h146
        refine j_goto C 5 dX12_readTerm_26 (by decide) ?_
        have u148x := xw_a (M := M140) (N := M145) (c := 3002) (r := 2) (e := (-1)) (FR.cell fM145 (by decide)) (ap_bin ⟨(INV.rd hM140 (i := 102) (c := 48) (k := 280) rfl rfl).1, by omega, by omega⟩) (by omega)
        have u148t := xw_t (M := M0) (N := M140) (P := M145) (r1 := 0) (e1 := 2) (s1 := 1) (r2 := 2) (e2 := (-1)) (s2 := (-1)) 0 1 0 (by decide) (by omega) (by omega)
        have u148i := ri_c (M := M140) (N := M145) (FR.cell fM145 (by decide)) (by omega)
        have u148l := ri_l (M := M145) (by omega)
        have zz98_8 : (M145.1 98 8).toInt = (M140.1 98 8).toInt := s_fF fM145 (by decide) (rfl); have zz98_6 : (M145.1 98 6).toInt = (M140.1 98 6).toInt := s_fF fM145 (by decide) (rfl); exact ih127 M145 (by omega) hM145 ((((FR.rf.tr fM129 (by decide)).tr fM133 (by decide)).tr fM140 (by decide)).tr fM145 (by decide))
  exact L128 2010 M103 (by omega) hM103 (FR.rf.tr fM103 (by decide))
set_option maxHeartbeats 4000000 in
theorem s4_X12_readSum {l : Launch} {dC : Nat → ClassId} {dI : Nat → Nat → Nat} {ad : Nat → Nat} {cA : Nat → ClassId} {pr : Nat → Nat → Bool} {Kz : mm_M} {M0 : mm_M} (hM0 : INV pr Kz M0) (hpr : PM pr)  (hp0 : b01 (RIP M0) = 1) (hp1 : b01 (CA M0) = 1) (hp2 : b01 (PI M0) = 1) : Cv l 18 yX12_readSum wsX12_readSum dC dI ad cA [.ref (ad 98), .int (sI 3)] M0 (fun M' => INV pr Kz M' ∧ FR [98, 102] M0 M' ∧ (b01 (RIP M') = 1) ∧ ((M'.1 98 8).toInt = (M0.1 98 8).toInt) ∧ ((M0.1 98 6).toInt ≤ (M'.1 98 6).toInt) ∧ (b01 (XW M0 M' 0 1 0) = 1) ∧ (b01 (CA M') = 1) ∧ (b01 (PI M') = 1)) := by
  refine cv_of (cc := cX12_readSum) (maxL := 3) (lv := [(0, .ref (ad 98)), (1, .int (sI 3))]) (by decide) rfl (Nat.le_of_ble_eq_true rfl) rfl ?_
  intro p e s m args below meth c A Q C hret
  have u101z := xw_0 M0
  have u101l := ri_l (M := M0) (by omega)
  refine j_aload_n C 0 0 dX12_readSum_0 rfl rfl ?_
  refine j_iload_n C 1 1 dX12_readSum_1 rfl rfl ?_
  refine j_callVv C (d := 17) (As := [.int (sI 3)]) (st := []) 98 (s_lt rfl rfl) (s_kc (c := 11) rfl rfl) (by decide) rfl (s4_X12_readTerm hM0 hpr (by omega) (by omega) (by omega)) gX12_readSum_X12_readTerm rfl hdX12_readTerm (by decide) (Nat.le_of_ble_eq_true rfl) dX12_readSum_2 rfl (fun M103 h104 => ?_)
  obtain ⟨hM103, fM103, h105⟩ := h104
  have u106l := ri_l (M := M103) (by omega)
  have L167 : ∀ (n165 : Nat), ∀ (M168 : mm_M), ((b01 (RIP M168) = 1) ∧ ((M168.1 98 8).toInt = (M0.1 98 8).toInt) ∧ ((M0.1 98 6).toInt ≤ (M168.1 98 6).toInt) ∧ (b01 (XW M0 M168 0 1 0) = 1) ∧ ((M168.1 98 6).toInt ≤ 900) ∧ (b01 (PI M168) = 1) ∧ (900 - (M168.1 98 6).toInt) < (n165 : Int)) → INV pr Kz M168 → FR [98, 102] M0 M168 → jj p l e (cn_R 18) s m args below meth c 0 0 Q 3 dC dI ad cA A M168 5 [(0, .ref (ad 98)), (1, .int (sI 3))] [] := by
    intro n165
    induction n165 with
    | zero =>
      intro M168 h169 hM168 fM168
      exfalso; omega
    | succ n165 ih166 =>
      intro M168 h169 hM168 fM168
      have u170l := ri_l (M := M168) (by omega)
      refine j_aload_n C 0 0 dX12_readSum_5 rfl rfl ?_
      refine y_bipush C dX12_readSum_6 rfl ?_
      refine j_callVi C (d := 0) (As := [.int (sI 32)]) (st := []) 98 (s_lt rfl rfl) (s_kc (c := 11) rfl rfl) (by decide) rfl (s1_X12_is hM168 32 (by omega)) gX12_readSum_X12_is rfl hdX12_is (by decide) (Nat.le_of_ble_eq_true rfl) dX12_readSum_8 rfl (fun r171 M172 h173 => ?_)
      obtain ⟨a175, rfl, rfl, h174⟩ := h173
      refine y_if_ne C 23 dX12_readSum_11 (by decide) (by omega) (fun h176 => ?_) (fun h176 => ?_)
      · refine j_aload_n C 0 0 dX12_readSum_23 rfl rfl ?_
        refine y_getI C 11 _ _ fX12_readSum_108 rfl rfl ft_11_9 sb_11_9 hM168 dX12_readSum_24 (fun a177 ea177 la177 ua177 => ?_)
        obtain rfl : a177 = (M168.1 98 9).toInt := ea177
        refine y_bipush C dX12_readSum_27 rfl ?_
        have J181 : ∀ (a180 : Int), (3000 ≤ a180 ∧ a180 ≤ 3001) → jj p l e (cn_R 18) s m args below meth c 0 0 Q 3 dC dI ad cA A M168 41 [(0, .ref (ad 98)), (1, .int (sI 3))] [.int (sI a180)] := by
          intro a180 h182
          refine j_istore_n C 2 [(2, .int (sI a180)), (0, .ref (ad 98)), (1, .int (sI 3))] dX12_readSum_41 rfl (by decide) rfl ?_
          have u183k := ri_k (M := M168) (by omega) (by omega)
          refine j_aload_n C 1 0 dX12_readSum_42 rfl rfl ?_
          refine j_callVv C (d := 5) (As := []) (st := []) 98 (s_lt rfl rfl) (s_kc (c := 11) rfl rfl) (by decide) rfl (s1_X12_next hM168 hpr (by omega) (by omega) (by omega)) gX12_readSum_X12_next rfl hdX12_next (by decide) (Nat.le_of_ble_eq_true rfl) dX12_readSum_43 rfl (fun M185 h186 => ?_)
          obtain ⟨hM185, fM185, h187⟩ := h186
          have u188c := xw_c (N := M168) (P := M185) 1 (FR.cell fM185 (by decide)) (by omega)
          have u188t := xw_t (M := M0) (N := M168) (P := M185) (r1 := 0) (e1 := 1) (s1 := 0) (r2 := 0) (e2 := 0) (s2 := 1) 0 1 1 (by decide) (by omega) (by omega)
          have u188a := ca_x (M := M0) (N := M185) (r := 0) (e := 1) (s := 1) (by decide) (by omega) (by omega)
          have u188l := ri_l (M := M185) (by omega)
          refine j_aload_n C 1 0 dX12_readSum_46 rfl rfl ?_
          refine j_iload_n C 2 1 dX12_readSum_47 rfl rfl ?_
          refine j_callVv C (d := 17) (As := [.int (sI 3)]) (st := []) 98 (s_lt rfl rfl) (s_kc (c := 11) rfl rfl) (by decide) rfl (s4_X12_readTerm hM185 hpr (by omega) (by omega) (by omega)) gX12_readSum_X12_readTerm rfl hdX12_readTerm (by decide) (Nat.le_of_ble_eq_true rfl) dX12_readSum_48 rfl (fun M190 h191 => ?_)
          obtain ⟨hM190, fM190, h192⟩ := h191
          have u193t := xw_t (M := M0) (N := M185) (P := M190) (r1 := 0) (e1 := 1) (s1 := 1) (r2 := 0) (e2 := 1) (s2 := 0) 0 2 1 (by decide) (by omega) (by omega)
          have u193l := ri_l (M := M190) (by omega)
          have u193b := cb_x (M := M0) (N := M190) (r := 0) (e := 2) (s := 1) (by decide) (by omega) (by omega) (by omega)
          refine j_aload_n C 1 0 dX12_readSum_51 rfl rfl ?_
          refine j_iload_n C 0 2 dX12_readSum_52 rfl rfl ?_
          refine j_callVv C (d := 0) (As := [.int (sI a180)]) (st := []) 98 (s_lt rfl rfl) (s_kc (c := 11) rfl rfl) (by decide) rfl (s1_X12_codes hM190 hpr a180 (by omega) (by omega) (by omega)) gX12_readSum_X12_codes rfl hdX12_codes (by decide) (Nat.le_of_ble_eq_true rfl) dX12_readSum_53 rfl (fun M195 h196 => ?_)
          obtain ⟨hM195, fM195, h197⟩ := h196
          refine j_goto C 5 dX12_readSum_56 (by decide) ?_
          have u198x := xw_a (M := M190) (N := M195) (c := a180) (r := 2) (e := (-1)) (FR.cell fM195 (by decide)) (ap_bin ⟨(INV.rd hM190 (i := 102) (c := 48) (k := 280) rfl rfl).1, by omega, by omega⟩) (by omega)
          have u198t := xw_t (M := M0) (N := M190) (P := M195) (r1 := 0) (e1 := 2) (s1 := 1) (r2 := 2) (e2 := (-1)) (s2 := (-1)) 0 1 0 (by decide) (by omega) (by omega)
          have u198i := ri_c (M := M190) (N := M195) (FR.cell fM195 (by decide)) (by omega)
          have u198l := ri_l (M := M195) (by omega)
          have zz98_8 : (M195.1 98 8).toInt = (M190.1 98 8).toInt := s_fF fM195 (by decide) (rfl); have zz98_6 : (M195.1 98 6).toInt = (M190.1 98 6).toInt := s_fF fM195 (by decide) (rfl); refine j_lv [1, 2] rfl ?_; exact ih166 M195 (by omega) hM195 ((((FR.rf.tr fM168 (by decide)).tr fM185 (by decide)).tr fM190 (by decide)).tr fM195 (by decide))
        refine y_icmp_ne C 38 dX12_readSum_29 (by decide) (by omega) (fun h179 => ?_) (fun h179 => ?_)
        · refine y_sipush C dX12_readSum_38 rfl ?_
          exact J181 3001 (by omega)
        · refine y_sipush C dX12_readSum_32 rfl ?_
          refine j_goto C 41 dX12_readSum_35 (by decide) ?_
          exact J181 3000 (by omega)
      · refine j_aload_n C 0 0 dX12_readSum_14 rfl rfl ?_
        refine y_bipush C dX12_readSum_15 rfl ?_
        refine j_callVi C (d := 0) (As := [.int (sI 33)]) (st := []) 98 (s_lt rfl rfl) (s_kc (c := 11) rfl rfl) (by decide) rfl (s1_X12_is hM168 33 (by omega)) gX12_readSum_X12_is rfl hdX12_is (by decide) (Nat.le_of_ble_eq_true rfl) dX12_readSum_17 rfl (fun r199 M200 h201 => ?_)
        obtain ⟨a203, rfl, rfl, h202⟩ := h201
        refine y_if_eq C 59 dX12_readSum_20 (by decide) (by omega) (fun h204 => ?_) (fun h204 => ?_)
        · have u227a := ca_x (M := M0) (N := M168) (r := 0) (e := 1) (s := 0) (by decide) (by omega) (by omega)
          exact hret _ _ _ dX12_readSum_59 ⟨hM168, (FR.rf.tr fM168 (by decide)), by omega⟩
        · refine j_aload_n C 0 0 dX12_readSum_23 rfl rfl ?_
          refine y_getI C 11 _ _ fX12_readSum_108 rfl rfl ft_11_9 sb_11_9 hM168 dX12_readSum_24 (fun a205 ea205 la205 ua205 => ?_)
          obtain rfl : a205 = (M168.1 98 9).toInt := ea205
          refine y_bipush C dX12_readSum_27 rfl ?_
          have J209 : ∀ (a208 : Int), (3000 ≤ a208 ∧ a208 ≤ 3001) → jj p l e (cn_R 18) s m args below meth c 0 0 Q 3 dC dI ad cA A M168 41 [(0, .ref (ad 98)), (1, .int (sI 3))] [.int (sI a208)] := by
            intro a208 h210
            refine j_istore_n C 2 [(2, .int (sI a208)), (0, .ref (ad 98)), (1, .int (sI 3))] dX12_readSum_41 rfl (by decide) rfl ?_
            have u211k := ri_k (M := M168) (by omega) (by omega)
            refine j_aload_n C 1 0 dX12_readSum_42 rfl rfl ?_
            refine j_callVv C (d := 5) (As := []) (st := []) 98 (s_lt rfl rfl) (s_kc (c := 11) rfl rfl) (by decide) rfl (s1_X12_next hM168 hpr (by omega) (by omega) (by omega)) gX12_readSum_X12_next rfl hdX12_next (by decide) (Nat.le_of_ble_eq_true rfl) dX12_readSum_43 rfl (fun M213 h214 => ?_)
            obtain ⟨hM213, fM213, h215⟩ := h214
            have u216c := xw_c (N := M168) (P := M213) 1 (FR.cell fM213 (by decide)) (by omega)
            have u216t := xw_t (M := M0) (N := M168) (P := M213) (r1 := 0) (e1 := 1) (s1 := 0) (r2 := 0) (e2 := 0) (s2 := 1) 0 1 1 (by decide) (by omega) (by omega)
            have u216a := ca_x (M := M0) (N := M213) (r := 0) (e := 1) (s := 1) (by decide) (by omega) (by omega)
            have u216l := ri_l (M := M213) (by omega)
            refine j_aload_n C 1 0 dX12_readSum_46 rfl rfl ?_
            refine j_iload_n C 2 1 dX12_readSum_47 rfl rfl ?_
            refine j_callVv C (d := 17) (As := [.int (sI 3)]) (st := []) 98 (s_lt rfl rfl) (s_kc (c := 11) rfl rfl) (by decide) rfl (s4_X12_readTerm hM213 hpr (by omega) (by omega) (by omega)) gX12_readSum_X12_readTerm rfl hdX12_readTerm (by decide) (Nat.le_of_ble_eq_true rfl) dX12_readSum_48 rfl (fun M218 h219 => ?_)
            obtain ⟨hM218, fM218, h220⟩ := h219
            have u221t := xw_t (M := M0) (N := M213) (P := M218) (r1 := 0) (e1 := 1) (s1 := 1) (r2 := 0) (e2 := 1) (s2 := 0) 0 2 1 (by decide) (by omega) (by omega)
            have u221l := ri_l (M := M218) (by omega)
            have u221b := cb_x (M := M0) (N := M218) (r := 0) (e := 2) (s := 1) (by decide) (by omega) (by omega) (by omega)
            refine j_aload_n C 1 0 dX12_readSum_51 rfl rfl ?_
            refine j_iload_n C 0 2 dX12_readSum_52 rfl rfl ?_
            refine j_callVv C (d := 0) (As := [.int (sI a208)]) (st := []) 98 (s_lt rfl rfl) (s_kc (c := 11) rfl rfl) (by decide) rfl (s1_X12_codes hM218 hpr a208 (by omega) (by omega) (by omega)) gX12_readSum_X12_codes rfl hdX12_codes (by decide) (Nat.le_of_ble_eq_true rfl) dX12_readSum_53 rfl (fun M223 h224 => ?_)
            obtain ⟨hM223, fM223, h225⟩ := h224
            refine j_goto C 5 dX12_readSum_56 (by decide) ?_
            have u226x := xw_a (M := M218) (N := M223) (c := a208) (r := 2) (e := (-1)) (FR.cell fM223 (by decide)) (ap_bin ⟨(INV.rd hM218 (i := 102) (c := 48) (k := 280) rfl rfl).1, by omega, by omega⟩) (by omega)
            have u226t := xw_t (M := M0) (N := M218) (P := M223) (r1 := 0) (e1 := 2) (s1 := 1) (r2 := 2) (e2 := (-1)) (s2 := (-1)) 0 1 0 (by decide) (by omega) (by omega)
            have u226i := ri_c (M := M218) (N := M223) (FR.cell fM223 (by decide)) (by omega)
            have u226l := ri_l (M := M223) (by omega)
            have zz98_8 : (M223.1 98 8).toInt = (M218.1 98 8).toInt := s_fF fM223 (by decide) (rfl); have zz98_6 : (M223.1 98 6).toInt = (M218.1 98 6).toInt := s_fF fM223 (by decide) (rfl); refine j_lv [1, 2] rfl ?_; exact ih166 M223 (by omega) hM223 ((((FR.rf.tr fM168 (by decide)).tr fM213 (by decide)).tr fM218 (by decide)).tr fM223 (by decide))
          refine y_icmp_ne C 38 dX12_readSum_29 (by decide) (by omega) (fun h207 => ?_) (fun h207 => ?_)
          · refine y_sipush C dX12_readSum_38 rfl ?_
            exact J209 3001 (by omega)
          · refine y_sipush C dX12_readSum_32 rfl ?_
            refine j_goto C 41 dX12_readSum_35 (by decide) ?_
            exact J209 3000 (by omega)
  exact L167 2010 M103 (by omega) hM103 (FR.rf.tr fM103 (by decide))
set_option maxHeartbeats 4000000 in
theorem s5_X12_readAtom {l : Launch} {dC : Nat → ClassId} {dI : Nat → Nat → Nat} {ad : Nat → Nat} {cA : Nat → ClassId} {pr : Nat → Nat → Bool} {Kz : mm_M} {M0 : mm_M} (hM0 : INV pr Kz M0) (hpr : PM pr)  (hp0 : b01 (RIP M0) = 1) (hp1 : b01 (CA M0) = 1) (hp2 : b01 (PI M0) = 1) : Cv l 19 yX12_readAtom wsX12_readAtom dC dI ad cA [.ref (ad 98), .int (sI 2)] M0 (fun M' => INV pr Kz M' ∧ FR [98, 102] M0 M' ∧ (b01 (RIP M') = 1) ∧ ((M'.1 98 8).toInt = (M0.1 98 8).toInt) ∧ ((M0.1 98 6).toInt ≤ (M'.1 98 6).toInt) ∧ (b01 (XW M0 M' 0 1 0) = 1) ∧ (b01 (CA M') = 1) ∧ (b01 (PI M') = 1)) := by
  refine cv_of (cc := cX12_readAtom) (maxL := 2) (lv := [(0, .ref (ad 98)), (1, .int (sI 2))]) (by decide) rfl (Nat.le_of_ble_eq_true rfl) rfl ?_
  intro p e s m args below meth c A Q C hret
  have u101z := xw_0 M0
  have u101l := ri_l (M := M0) (by omega)
  refine j_aload_n C 0 0 dX12_readAtom_0 rfl rfl ?_
  refine y_bipush C dX12_readAtom_1 rfl ?_
  refine j_callVi C (d := 0) (As := [.int (sI 23)]) (st := []) 98 (s_lt rfl rfl) (s_kc (c := 11) rfl rfl) (by decide) rfl (s1_X12_is hM0 23 (by omega)) gX12_readAtom_X12_is rfl hdX12_is (by decide) (Nat.le_of_ble_eq_true rfl) dX12_readAtom_3 rfl (fun r102 M103 h104 => ?_)
  obtain ⟨a106, rfl, rfl, h105⟩ := h104
  refine y_if_eq C 24 dX12_readAtom_6 (by decide) (by omega) (fun h107 => ?_) (fun h107 => ?_)
  · refine j_aload_n C 0 0 dX12_readAtom_24 rfl rfl ?_
    refine y_getI C 11 _ _ fX12_readAtom_126 rfl rfl ft_11_11 sb_11_11 hM0 dX12_readAtom_25 (fun a108 ea108 la108 ua108 => ?_)
    obtain rfl : a108 = (M0.1 98 11).toInt := ea108
    refine y_if_ne C 66 dX12_readAtom_28 (by decide) (by omega) (fun h110 => ?_) (fun h110 => ?_)
    · refine j_aload_n C 0 0 dX12_readAtom_66 rfl rfl ?_
      refine y_bipush C dX12_readAtom_67 rfl ?_
      refine j_callVi C (d := 0) (As := [.int (sI 35)]) (st := []) 98 (s_lt rfl rfl) (s_kc (c := 11) rfl rfl) (by decide) rfl (s1_X12_is hM0 35 (by omega)) gX12_readAtom_X12_is rfl hdX12_is (by decide) (Nat.le_of_ble_eq_true rfl) dX12_readAtom_69 rfl (fun r111 M112 h113 => ?_)
      obtain ⟨a115, rfl, rfl, h114⟩ := h113
      refine y_if_eq C 108 dX12_readAtom_72 (by decide) (by omega) (fun h116 => ?_) (fun h116 => ?_)
      · refine j_aload_n C 0 0 dX12_readAtom_108 rfl rfl ?_
        refine y_iconst C dX12_readAtom_109 ?_
        refine j_callVv C (d := 0) (As := [.int (sI 2)]) (st := []) 98 (s_lt rfl rfl) (s_kc (c := 11) rfl rfl) (by decide) rfl (s1_X12_fails hM0 hpr 2 (by omega) (by omega) (by omega) (by omega)) gX12_readAtom_X12_fails rfl hdX12_fails (by decide) (Nat.le_of_ble_eq_true rfl) dX12_readAtom_110 rfl (fun M118 h119 => ?_)
        obtain ⟨hM118, fM118, h120⟩ := h119
        have u121f : b01 (XW M0 M118 0 1 0) = 1 := b01_i (Or.inl (by omega))
        have u121a := ca_x (M := M0) (N := M118) (r := 0) (e := 1) (s := 0) (by decide) (by omega) (by omega)
        exact hret _ _ _ dX12_readAtom_113 ⟨hM118, (FR.rf.tr fM118 (by decide)), by omega⟩
      · have u122k := ri_k (M := M0) (by omega) (by omega)
        refine j_aload_n C 0 0 dX12_readAtom_75 rfl rfl ?_
        refine j_iload_n C 1 1 dX12_readAtom_76 rfl rfl ?_
        refine j_callVi C (d := 6) (As := [.int (sI 2)]) (st := []) 98 (s_lt rfl rfl) (s_kc (c := 11) rfl rfl) (by decide) rfl (s3_X12_goesIn hM0 hpr (by omega) (by omega)) gX12_readAtom_X12_goesIn rfl hdX12_goesIn (by decide) (Nat.le_of_ble_eq_true rfl) dX12_readAtom_77 rfl (fun r123 M124 h125 => ?_)
        obtain ⟨a127, rfl, hM124, fM124, h126⟩ := h125
        refine y_if_ne C 84 dX12_readAtom_80 (by decide) (by omega) (fun h128 => ?_) (fun h128 => ?_)
        · have u129c := xw_c (N := M0) (P := M124) 1 (FR.cell fM124 (by decide)) (by omega)
          have u129t := xw_t (M := M0) (N := M0) (P := M124) (r1 := 0) (e1 := 0) (s1 := 0) (r2 := 0) (e2 := 0) (s2 := 1) 0 0 1 (by decide) (by omega) (by omega)
          have u129a := ca_x (M := M0) (N := M124) (r := 0) (e := 0) (s := 1) (by decide) (by omega) (by omega)
          have u129l := ri_l (M := M124) (by omega)
          refine j_aload_n C 0 0 dX12_readAtom_84 rfl rfl ?_
          refine j_iload_n C 1 1 dX12_readAtom_85 rfl rfl ?_
          refine y_iconst C dX12_readAtom_86 ?_
          refine y_iadd C dX12_readAtom_87 ?_
          refine j_callVv C (d := 18) (As := [.int (sI (2 + 1))]) (st := []) 98 (s_lt rfl rfl) (s_kc (c := 11) rfl rfl) (by decide) rfl (s4_X12_readSum hM124 hpr (by omega) (by omega) (by omega)) gX12_readAtom_X12_readSum rfl hdX12_readSum (by decide) (Nat.le_of_ble_eq_true rfl) dX12_readAtom_88 rfl (fun M131 h132 => ?_)
          obtain ⟨hM131, fM131, h133⟩ := h132
          have u134t := xw_t (M := M0) (N := M124) (P := M131) (r1 := 0) (e1 := 0) (s1 := 1) (r2 := 0) (e2 := 1) (s2 := 0) 0 1 1 (by decide) (by omega) (by omega)
          have u134l := ri_l (M := M131) (by omega)
          refine j_aload_n C 0 0 dX12_readAtom_91 rfl rfl ?_
          refine y_bipush C dX12_readAtom_92 rfl ?_
          refine j_callVi C (d := 6) (As := [.int (sI 36)]) (st := []) 98 (s_lt rfl rfl) (s_kc (c := 11) rfl rfl) (by decide) rfl (s1_X12_eats hM131 hpr 36 (by omega) (by omega) (by omega) (by omega)) gX12_readAtom_X12_eats rfl hdX12_eats (by decide) (Nat.le_of_ble_eq_true rfl) dX12_readAtom_94 rfl (fun r135 M136 h137 => ?_)
          obtain ⟨a139, rfl, hM136, fM136, h138⟩ := h137
          have u140c := xw_c (N := M131) (P := M136) 0 (FR.cell fM136 (by decide)) (by omega)
          have u140t := xw_t (M := M0) (N := M131) (P := M136) (r1 := 0) (e1 := 1) (s1 := 1) (r2 := 0) (e2 := 0) (s2 := 0) 0 1 0 (by decide) (by omega) (by omega)
          have u140a := ca_x (M := M0) (N := M136) (r := 0) (e := 1) (s := 0) (by decide) (by omega) (by omega)
          have u140l := ri_l (M := M136) (by omega)
          refine y_if_ne C 113 dX12_readAtom_97 (by decide) (by omega) (fun h141 => ?_) (fun h141 => ?_)
          · exact hret _ _ _ dX12_readAtom_113 ⟨hM136, (((FR.rf.tr fM124 (by decide)).tr fM131 (by decide)).tr fM136 (by decide)), by omega⟩
          · refine j_aload_n C 0 0 dX12_readAtom_100 rfl rfl ?_
            refine y_iconst C dX12_readAtom_101 ?_
            refine j_callVv C (d := 0) (As := [.int (sI 2)]) (st := []) 98 (s_lt rfl rfl) (s_kc (c := 11) rfl rfl) (by decide) rfl (s1_X12_fails hM136 hpr 2 (by omega) (by omega) (by omega) (by omega)) gX12_readAtom_X12_fails rfl hdX12_fails (by decide) (Nat.le_of_ble_eq_true rfl) dX12_readAtom_102 rfl (fun M144 h145 => ?_)
            obtain ⟨hM144, fM144, h146⟩ := h145
            have u147f : b01 (XW M0 M144 0 1 0) = 1 := b01_i (Or.inl (by omega))
            have u147a := ca_x (M := M0) (N := M144) (r := 0) (e := 1) (s := 0) (by decide) (by omega) (by omega)
            refine j_goto C 113 dX12_readAtom_105 (by decide) ?_
            exact hret _ _ _ dX12_readAtom_113 ⟨hM144, ((((FR.rf.tr fM124 (by decide)).tr fM131 (by decide)).tr fM136 (by decide)).tr fM144 (by decide)), by omega⟩
        · have u149c := xw_c (N := M0) (P := M124) 0 (FR.cell fM124 (by decide)) (by omega)
          have u149f : b01 (XW M0 M124 0 1 0) = 1 := b01_i (Or.inl (by omega))
          have u149a := ca_x (M := M0) (N := M124) (r := 0) (e := 1) (s := 0) (by decide) (by omega) (by omega)
          exact hret _ _ _ dX12_readAtom_83 ⟨hM124, (FR.rf.tr fM124 (by decide)), by omega⟩
    · refine j_aload_n C 0 0 dX12_readAtom_31 rfl rfl ?_
      refine j_aload_n C 0 0 dX12_readAtom_32 rfl rfl ?_
      refine y_getI C 11 _ _ fX12_readAtom_108 rfl rfl ft_11_9 sb_11_9 hM0 dX12_readAtom_33 (fun a151 ea151 la151 ua151 => ?_)
      obtain rfl : a151 = (M0.1 98 9).toInt := ea151
      refine j_callVi C (d := 0) (As := [.int (sI (M0.1 98 9).toInt)]) (st := []) 98 (s_lt rfl rfl) (s_kc (c := 11) rfl rfl) (by decide) rfl (s1_X12_wordOf hM0 (M0.1 98 9).toInt (by omega)) gX12_readAtom_X12_wordOf rfl hdX12_wordOf (by decide) (Nat.le_of_ble_eq_true rfl) dX12_readAtom_36 rfl (fun r153 M154 h155 => ?_)
      obtain ⟨a157, rfl, rfl, h156⟩ := h155
      obtain rfl : a157 = (woF (M0.1 98 9).toInt) := by omega
      refine y_iconst C dX12_readAtom_39 ?_
      refine y_icmp_eq C 66 dX12_readAtom_40 (by decide) (by omega) (fun h158 => ?_) (fun h158 => ?_)
      · refine j_aload_n C 0 0 dX12_readAtom_66 rfl rfl ?_
        refine y_bipush C dX12_readAtom_67 rfl ?_
        refine j_callVi C (d := 0) (As := [.int (sI 35)]) (st := []) 98 (s_lt rfl rfl) (s_kc (c := 11) rfl rfl) (by decide) rfl (s1_X12_is hM0 35 (by omega)) gX12_readAtom_X12_is rfl hdX12_is (by decide) (Nat.le_of_ble_eq_true rfl) dX12_readAtom_69 rfl (fun r159 M160 h161 => ?_)
        obtain ⟨a163, rfl, rfl, h162⟩ := h161
        refine y_if_eq C 108 dX12_readAtom_72 (by decide) (by omega) (fun h164 => ?_) (fun h164 => ?_)
        · refine j_aload_n C 0 0 dX12_readAtom_108 rfl rfl ?_
          refine y_iconst C dX12_readAtom_109 ?_
          refine j_callVv C (d := 0) (As := [.int (sI 2)]) (st := []) 98 (s_lt rfl rfl) (s_kc (c := 11) rfl rfl) (by decide) rfl (s1_X12_fails hM0 hpr 2 (by omega) (by omega) (by omega) (by omega)) gX12_readAtom_X12_fails rfl hdX12_fails (by decide) (Nat.le_of_ble_eq_true rfl) dX12_readAtom_110 rfl (fun M166 h167 => ?_)
          obtain ⟨hM166, fM166, h168⟩ := h167
          have u169f : b01 (XW M0 M166 0 1 0) = 1 := b01_i (Or.inl (by omega))
          have u169a := ca_x (M := M0) (N := M166) (r := 0) (e := 1) (s := 0) (by decide) (by omega) (by omega)
          exact hret _ _ _ dX12_readAtom_113 ⟨hM166, (FR.rf.tr fM166 (by decide)), by omega⟩
        · have u170k := ri_k (M := M0) (by omega) (by omega)
          refine j_aload_n C 0 0 dX12_readAtom_75 rfl rfl ?_
          refine j_iload_n C 1 1 dX12_readAtom_76 rfl rfl ?_
          refine j_callVi C (d := 6) (As := [.int (sI 2)]) (st := []) 98 (s_lt rfl rfl) (s_kc (c := 11) rfl rfl) (by decide) rfl (s3_X12_goesIn hM0 hpr (by omega) (by omega)) gX12_readAtom_X12_goesIn rfl hdX12_goesIn (by decide) (Nat.le_of_ble_eq_true rfl) dX12_readAtom_77 rfl (fun r171 M172 h173 => ?_)
          obtain ⟨a175, rfl, hM172, fM172, h174⟩ := h173
          refine y_if_ne C 84 dX12_readAtom_80 (by decide) (by omega) (fun h176 => ?_) (fun h176 => ?_)
          · have u177c := xw_c (N := M0) (P := M172) 1 (FR.cell fM172 (by decide)) (by omega)
            have u177t := xw_t (M := M0) (N := M0) (P := M172) (r1 := 0) (e1 := 0) (s1 := 0) (r2 := 0) (e2 := 0) (s2 := 1) 0 0 1 (by decide) (by omega) (by omega)
            have u177a := ca_x (M := M0) (N := M172) (r := 0) (e := 0) (s := 1) (by decide) (by omega) (by omega)
            have u177l := ri_l (M := M172) (by omega)
            refine j_aload_n C 0 0 dX12_readAtom_84 rfl rfl ?_
            refine j_iload_n C 1 1 dX12_readAtom_85 rfl rfl ?_
            refine y_iconst C dX12_readAtom_86 ?_
            refine y_iadd C dX12_readAtom_87 ?_
            refine j_callVv C (d := 18) (As := [.int (sI (2 + 1))]) (st := []) 98 (s_lt rfl rfl) (s_kc (c := 11) rfl rfl) (by decide) rfl (s4_X12_readSum hM172 hpr (by omega) (by omega) (by omega)) gX12_readAtom_X12_readSum rfl hdX12_readSum (by decide) (Nat.le_of_ble_eq_true rfl) dX12_readAtom_88 rfl (fun M179 h180 => ?_)
            obtain ⟨hM179, fM179, h181⟩ := h180
            have u182t := xw_t (M := M0) (N := M172) (P := M179) (r1 := 0) (e1 := 0) (s1 := 1) (r2 := 0) (e2 := 1) (s2 := 0) 0 1 1 (by decide) (by omega) (by omega)
            have u182l := ri_l (M := M179) (by omega)
            refine j_aload_n C 0 0 dX12_readAtom_91 rfl rfl ?_
            refine y_bipush C dX12_readAtom_92 rfl ?_
            refine j_callVi C (d := 6) (As := [.int (sI 36)]) (st := []) 98 (s_lt rfl rfl) (s_kc (c := 11) rfl rfl) (by decide) rfl (s1_X12_eats hM179 hpr 36 (by omega) (by omega) (by omega) (by omega)) gX12_readAtom_X12_eats rfl hdX12_eats (by decide) (Nat.le_of_ble_eq_true rfl) dX12_readAtom_94 rfl (fun r183 M184 h185 => ?_)
            obtain ⟨a187, rfl, hM184, fM184, h186⟩ := h185
            have u188c := xw_c (N := M179) (P := M184) 0 (FR.cell fM184 (by decide)) (by omega)
            have u188t := xw_t (M := M0) (N := M179) (P := M184) (r1 := 0) (e1 := 1) (s1 := 1) (r2 := 0) (e2 := 0) (s2 := 0) 0 1 0 (by decide) (by omega) (by omega)
            have u188a := ca_x (M := M0) (N := M184) (r := 0) (e := 1) (s := 0) (by decide) (by omega) (by omega)
            have u188l := ri_l (M := M184) (by omega)
            refine y_if_ne C 113 dX12_readAtom_97 (by decide) (by omega) (fun h189 => ?_) (fun h189 => ?_)
            · exact hret _ _ _ dX12_readAtom_113 ⟨hM184, (((FR.rf.tr fM172 (by decide)).tr fM179 (by decide)).tr fM184 (by decide)), by omega⟩
            · refine j_aload_n C 0 0 dX12_readAtom_100 rfl rfl ?_
              refine y_iconst C dX12_readAtom_101 ?_
              refine j_callVv C (d := 0) (As := [.int (sI 2)]) (st := []) 98 (s_lt rfl rfl) (s_kc (c := 11) rfl rfl) (by decide) rfl (s1_X12_fails hM184 hpr 2 (by omega) (by omega) (by omega) (by omega)) gX12_readAtom_X12_fails rfl hdX12_fails (by decide) (Nat.le_of_ble_eq_true rfl) dX12_readAtom_102 rfl (fun M192 h193 => ?_)
              obtain ⟨hM192, fM192, h194⟩ := h193
              have u195f : b01 (XW M0 M192 0 1 0) = 1 := b01_i (Or.inl (by omega))
              have u195a := ca_x (M := M0) (N := M192) (r := 0) (e := 1) (s := 0) (by decide) (by omega) (by omega)
              refine j_goto C 113 dX12_readAtom_105 (by decide) ?_
              exact hret _ _ _ dX12_readAtom_113 ⟨hM192, ((((FR.rf.tr fM172 (by decide)).tr fM179 (by decide)).tr fM184 (by decide)).tr fM192 (by decide)), by omega⟩
          · have u197c := xw_c (N := M0) (P := M172) 0 (FR.cell fM172 (by decide)) (by omega)
            have u197f : b01 (XW M0 M172 0 1 0) = 1 := b01_i (Or.inl (by omega))
            have u197a := ca_x (M := M0) (N := M172) (r := 0) (e := 1) (s := 0) (by decide) (by omega) (by omega)
            exact hret _ _ _ dX12_readAtom_83 ⟨hM172, (FR.rf.tr fM172 (by decide)), by omega⟩
      · have u199w := woF_s (M0.1 98 9).toInt
        have u199k := ri_k (M := M0) (by omega) (by omega)
        have u199b := cb_0 (M := M0) (by omega) (by omega)
        refine j_aload_n C 0 0 dX12_readAtom_43 rfl rfl ?_
        refine y_sipush C dX12_readAtom_44 rfl ?_
        refine j_aload_n C 0 0 dX12_readAtom_47 rfl rfl ?_
        refine j_aload_n C 0 0 dX12_readAtom_48 rfl rfl ?_
        refine y_getI C 11 _ _ fX12_readAtom_108 rfl rfl ft_11_9 sb_11_9 hM0 dX12_readAtom_49 (fun a200 ea200 la200 ua200 => ?_)
        obtain rfl : a200 = (M0.1 98 9).toInt := ea200
        refine j_callVi C (d := 0) (As := [.int (sI (M0.1 98 9).toInt)]) (st := [.int (sI 1000), .ref (ad 98)]) 98 (s_lt rfl rfl) (s_kc (c := 11) rfl rfl) (by decide) rfl (s1_X12_wordOf hM0 (M0.1 98 9).toInt (by omega)) gX12_readAtom_X12_wordOf rfl hdX12_wordOf (by decide) (Nat.le_of_ble_eq_true rfl) dX12_readAtom_52 rfl (fun r202 M203 h204 => ?_)
        obtain ⟨a206, rfl, rfl, h205⟩ := h204
        obtain rfl : a206 = (woF (M0.1 98 9).toInt) := by omega
        refine y_iadd C dX12_readAtom_55 ?_
        refine j_callVv C (d := 0) (As := [.int (sI (1000 + (woF (M0.1 98 9).toInt)))]) (st := []) 98 (s_lt rfl rfl) (s_kc (c := 11) rfl rfl) (by decide) rfl (s1_X12_codes hM0 hpr (1000 + (woF (M0.1 98 9).toInt)) (by omega) (by omega) (by omega)) gX12_readAtom_X12_codes rfl hdX12_codes (by decide) (Nat.le_of_ble_eq_true rfl) dX12_readAtom_56 rfl (fun M208 h209 => ?_)
        obtain ⟨hM208, fM208, h210⟩ := h209
        have u211x := xw_a (M := M0) (N := M208) (c := (1000 + (woF (M0.1 98 9).toInt))) (r := 0) (e := 1) (FR.cell fM208 (by decide)) (ap_push ⟨(INV.rd hM0 (i := 102) (c := 48) (k := 280) rfl rfl).1, by omega, by omega⟩) (by omega)
        have u211t := xw_t (M := M0) (N := M0) (P := M208) (r1 := 0) (e1 := 0) (s1 := 0) (r2 := 0) (e2 := 1) (s2 := (-1)) 0 1 (-1) (by decide) (by omega) (by omega)
        have u211i := ri_c (M := M0) (N := M208) (FR.cell fM208 (by decide)) (by omega)
        have u211l := ri_l (M := M208) (by omega)
        have u211q6 : (M208.1 98 6).toInt = (M0.1 98 6).toInt := by rw [show M208.1 98 = M0.1 98 from FR.cell fM208 (by decide)]
        have u211q7 : (M208.1 98 7).toInt = (M0.1 98 7).toInt := by rw [show M208.1 98 = M0.1 98 from FR.cell fM208 (by decide)]
        have u211q8 : (M208.1 98 8).toInt = (M0.1 98 8).toInt := by rw [show M208.1 98 = M0.1 98 from FR.cell fM208 (by decide)]
        have u211q9 : (M208.1 98 9).toInt = (M0.1 98 9).toInt := by rw [show M208.1 98 = M0.1 98 from FR.cell fM208 (by decide)]
        have u211q11 : (M208.1 98 11).toInt = (M0.1 98 11).toInt := by rw [show M208.1 98 = M0.1 98 from FR.cell fM208 (by decide)]
        refine j_aload_n C 0 0 dX12_readAtom_59 rfl rfl ?_
        have zz98_7 : (M208.1 98 7).toInt = (M0.1 98 7).toInt := s_fF fM208 (by decide) (rfl)
        have zz98_8 : (M208.1 98 8).toInt = (M0.1 98 8).toInt := s_fF fM208 (by decide) (rfl)
        refine j_callVv C (d := 5) (As := []) (st := []) 98 (s_lt rfl rfl) (s_kc (c := 11) rfl rfl) (by decide) rfl (s1_X12_next hM208 hpr (by omega) (by omega) (by omega)) gX12_readAtom_X12_next rfl hdX12_next (by decide) (Nat.le_of_ble_eq_true rfl) dX12_readAtom_60 rfl (fun M213 h214 => ?_)
        obtain ⟨hM213, fM213, h215⟩ := h214
        have u216c := xw_c (N := M208) (P := M213) 1 (FR.cell fM213 (by decide)) (by omega)
        have u216t := xw_t (M := M0) (N := M208) (P := M213) (r1 := 0) (e1 := 1) (s1 := (-1)) (r2 := 0) (e2 := 0) (s2 := 1) 0 1 0 (by decide) (by omega) (by omega)
        have u216a := ca_x (M := M0) (N := M213) (r := 0) (e := 1) (s := 0) (by decide) (by omega) (by omega)
        refine j_goto C 113 dX12_readAtom_63 (by decide) ?_
        exact hret _ _ _ dX12_readAtom_113 ⟨hM213, ((FR.rf.tr fM208 (by decide)).tr fM213 (by decide)), by omega⟩
  · have u218k := ri_k (M := M0) (by omega) (by omega)
    have u218b := cb_0 (M := M0) (by omega) (by omega)
    refine j_aload_n C 0 0 dX12_readAtom_9 rfl rfl ?_
    refine j_aload_n C 0 0 dX12_readAtom_10 rfl rfl ?_
    refine y_getI C 11 _ _ fX12_readAtom_121 rfl rfl ft_11_10 sb_11_10 hM0 dX12_readAtom_11 (fun a219 ea219 la219 ua219 => ?_)
    obtain rfl : a219 = (M0.1 98 10).toInt := ea219
    refine j_callVv C (d := 0) (As := [.int (sI (M0.1 98 10).toInt)]) (st := []) 98 (s_lt rfl rfl) (s_kc (c := 11) rfl rfl) (by decide) rfl (s1_X12_codes hM0 hpr (M0.1 98 10).toInt (by omega) (by omega) (by omega)) gX12_readAtom_X12_codes rfl hdX12_codes (by decide) (Nat.le_of_ble_eq_true rfl) dX12_readAtom_14 rfl (fun M222 h223 => ?_)
    obtain ⟨hM222, fM222, h224⟩ := h223
    have u225x := xw_a (M := M0) (N := M222) (c := (M0.1 98 10).toInt) (r := 0) (e := 1) (FR.cell fM222 (by decide)) (ap_push ⟨(INV.rd hM0 (i := 102) (c := 48) (k := 280) rfl rfl).1, by omega, by omega⟩) (by omega)
    have u225t := xw_t (M := M0) (N := M0) (P := M222) (r1 := 0) (e1 := 0) (s1 := 0) (r2 := 0) (e2 := 1) (s2 := (-1)) 0 1 (-1) (by decide) (by omega) (by omega)
    have u225i := ri_c (M := M0) (N := M222) (FR.cell fM222 (by decide)) (by omega)
    have u225l := ri_l (M := M222) (by omega)
    have u225q6 : (M222.1 98 6).toInt = (M0.1 98 6).toInt := by rw [show M222.1 98 = M0.1 98 from FR.cell fM222 (by decide)]
    have u225q7 : (M222.1 98 7).toInt = (M0.1 98 7).toInt := by rw [show M222.1 98 = M0.1 98 from FR.cell fM222 (by decide)]
    have u225q8 : (M222.1 98 8).toInt = (M0.1 98 8).toInt := by rw [show M222.1 98 = M0.1 98 from FR.cell fM222 (by decide)]
    have u225q9 : (M222.1 98 9).toInt = (M0.1 98 9).toInt := by rw [show M222.1 98 = M0.1 98 from FR.cell fM222 (by decide)]
    have u225q11 : (M222.1 98 11).toInt = (M0.1 98 11).toInt := by rw [show M222.1 98 = M0.1 98 from FR.cell fM222 (by decide)]
    refine j_aload_n C 0 0 dX12_readAtom_17 rfl rfl ?_
    have zz98_7 : (M222.1 98 7).toInt = (M0.1 98 7).toInt := s_fF fM222 (by decide) (rfl)
    have zz98_8 : (M222.1 98 8).toInt = (M0.1 98 8).toInt := s_fF fM222 (by decide) (rfl)
    refine j_callVv C (d := 5) (As := []) (st := []) 98 (s_lt rfl rfl) (s_kc (c := 11) rfl rfl) (by decide) rfl (s1_X12_next hM222 hpr (by omega) (by omega) (by omega)) gX12_readAtom_X12_next rfl hdX12_next (by decide) (Nat.le_of_ble_eq_true rfl) dX12_readAtom_18 rfl (fun M227 h228 => ?_)
    obtain ⟨hM227, fM227, h229⟩ := h228
    have u230c := xw_c (N := M222) (P := M227) 1 (FR.cell fM227 (by decide)) (by omega)
    have u230t := xw_t (M := M0) (N := M222) (P := M227) (r1 := 0) (e1 := 1) (s1 := (-1)) (r2 := 0) (e2 := 0) (s2 := 1) 0 1 0 (by decide) (by omega) (by omega)
    have u230a := ca_x (M := M0) (N := M227) (r := 0) (e := 1) (s := 0) (by decide) (by omega) (by omega)
    refine j_goto C 113 dX12_readAtom_21 (by decide) ?_
    exact hret _ _ _ dX12_readAtom_113 ⟨hM227, ((FR.rf.tr fM222 (by decide)).tr fM227 (by decide)), by omega⟩
set_option maxHeartbeats 4000000 in
theorem s5_X12_readTerm {l : Launch} {dC : Nat → ClassId} {dI : Nat → Nat → Nat} {ad : Nat → Nat} {cA : Nat → ClassId} {pr : Nat → Nat → Bool} {Kz : mm_M} {M0 : mm_M} (hM0 : INV pr Kz M0) (hpr : PM pr)  (hp0 : b01 (RIP M0) = 1) (hp1 : b01 (CA M0) = 1) (hp2 : b01 (PI M0) = 1) : Cv l 20 yX12_readTerm wsX12_readTerm dC dI ad cA [.ref (ad 98), .int (sI 2)] M0 (fun M' => INV pr Kz M' ∧ FR [98, 102] M0 M' ∧ (b01 (RIP M') = 1) ∧ ((M'.1 98 8).toInt = (M0.1 98 8).toInt) ∧ ((M0.1 98 6).toInt ≤ (M'.1 98 6).toInt) ∧ (b01 (XW M0 M' 0 1 0) = 1) ∧ (b01 (CA M') = 1) ∧ (b01 (PI M') = 1)) := by
  refine cv_of (cc := cX12_readTerm) (maxL := 2) (lv := [(0, .ref (ad 98)), (1, .int (sI 2))]) (by decide) rfl (Nat.le_of_ble_eq_true rfl) rfl ?_
  intro p e s m args below meth c A Q C hret
  have u101z := xw_0 M0
  have u101l := ri_l (M := M0) (by omega)
  refine j_aload_n C 0 0 dX12_readTerm_0 rfl rfl ?_
  refine j_iload_n C 1 1 dX12_readTerm_1 rfl rfl ?_
  refine j_callVv C (d := 19) (As := [.int (sI 2)]) (st := []) 98 (s_lt rfl rfl) (s_kc (c := 11) rfl rfl) (by decide) rfl (s5_X12_readAtom hM0 hpr (by omega) (by omega) (by omega)) gX12_readTerm_X12_readAtom rfl hdX12_readAtom (by decide) (Nat.le_of_ble_eq_true rfl) dX12_readTerm_2 rfl (fun M103 h104 => ?_)
  obtain ⟨hM103, fM103, h105⟩ := h104
  have u106l := ri_l (M := M103) (by omega)
  have L128 : ∀ (n126 : Nat), ∀ (M129 : mm_M), ((b01 (RIP M129) = 1) ∧ ((M129.1 98 8).toInt = (M0.1 98 8).toInt) ∧ ((M0.1 98 6).toInt ≤ (M129.1 98 6).toInt) ∧ (b01 (XW M0 M129 0 1 0) = 1) ∧ ((M129.1 98 6).toInt ≤ 900) ∧ (b01 (PI M129) = 1) ∧ (900 - (M129.1 98 6).toInt) < (n126 : Int)) → INV pr Kz M129 → FR [98, 102] M0 M129 → jj p l e (cn_R 20) s m args below meth c 0 0 Q 2 dC dI ad cA A M129 5 [(0, .ref (ad 98)), (1, .int (sI 2))] [] := by
    intro n126
    induction n126 with
    | zero =>
      intro M129 h130 hM129 fM129
      exfalso; omega
    | succ n126 ih127 =>
      intro M129 h130 hM129 fM129
      have u131l := ri_l (M := M129) (by omega)
      refine j_aload_n C 0 0 dX12_readTerm_5 rfl rfl ?_
      refine y_bipush C dX12_readTerm_6 rfl ?_
      refine j_callVi C (d := 6) (As := [.int (sI 34)]) (st := []) 98 (s_lt rfl rfl) (s_kc (c := 11) rfl rfl) (by decide) rfl (s1_X12_eats hM129 hpr 34 (by omega) (by omega) (by omega) (by omega)) gX12_readTerm_X12_eats rfl hdX12_eats (by decide) (Nat.le_of_ble_eq_true rfl) dX12_readTerm_8 rfl (fun r132 M133 h134 => ?_)
      obtain ⟨a136, rfl, hM133, fM133, h135⟩ := h134
      refine y_if_eq C 29 dX12_readTerm_11 (by decide) (by omega) (fun h137 => ?_) (fun h137 => ?_)
      · have u149c := xw_c (N := M129) (P := M133) 0 (FR.cell fM133 (by decide)) (by omega)
        have u149t := xw_t (M := M0) (N := M129) (P := M133) (r1 := 0) (e1 := 1) (s1 := 0) (r2 := 0) (e2 := 0) (s2 := 0) 0 1 0 (by decide) (by omega) (by omega)
        have u149a := ca_x (M := M0) (N := M133) (r := 0) (e := 1) (s := 0) (by decide) (by omega) (by omega)
        exact hret _ _ _ dX12_readTerm_29 ⟨hM133, ((FR.rf.tr fM129 (by decide)).tr fM133 (by decide)), by omega⟩
      · have u138c := xw_c (N := M129) (P := M133) 1 (FR.cell fM133 (by decide)) (by omega)
        have u138t := xw_t (M := M0) (N := M129) (P := M133) (r1 := 0) (e1 := 1) (s1 := 0) (r2 := 0) (e2 := 0) (s2 := 1) 0 1 1 (by decide) (by omega) (by omega)
        have u138a := ca_x (M := M0) (N := M133) (r := 0) (e := 1) (s := 1) (by decide) (by omega) (by omega)
        have u138l := ri_l (M := M133) (by omega)
        refine j_aload_n C 0 0 dX12_readTerm_14 rfl rfl ?_
        refine j_iload_n C 1 1 dX12_readTerm_15 rfl rfl ?_
        refine j_callVv C (d := 19) (As := [.int (sI 2)]) (st := []) 98 (s_lt rfl rfl) (s_kc (c := 11) rfl rfl) (by decide) rfl (s5_X12_readAtom hM133 hpr (by omega) (by omega) (by omega)) gX12_readTerm_X12_readAtom rfl hdX12_readAtom (by decide) (Nat.le_of_ble_eq_true rfl) dX12_readTerm_16 rfl (fun M140 h141 => ?_)
        obtain ⟨hM140, fM140, h142⟩ := h141
        have u143t := xw_t (M := M0) (N := M133) (P := M140) (r1 := 0) (e1 := 1) (s1 := 1) (r2 := 0) (e2 := 1) (s2 := 0) 0 2 1 (by decide) (by omega) (by omega)
        have u143l := ri_l (M := M140) (by omega)
        have u143b := cb_x (M := M0) (N := M140) (r := 0) (e := 2) (s := 1) (by decide) (by omega) (by omega) (by omega)
        refine j_aload_n C 0 0 dX12_readTerm_19 rfl rfl ?_
        refine y_sipush C dX12_readTerm_20 rfl ?_
        refine j_callVv C (d := 0) (As := [.int (sI 3002)]) (st := []) 98 (s_lt rfl rfl) (s_kc (c := 11) rfl rfl) (by decide) rfl (s1_X12_codes hM140 hpr 3002 (by omega) (by omega) (by omega)) gX12_readTerm_X12_codes rfl hdX12_codes (by decide) (Nat.le_of_ble_eq_true rfl) dX12_readTerm_23 rfl (fun M145 h146 => ?_)
        obtain ⟨hM145, fM145, h147⟩ := h146
        refine j_goto C 5 dX12_readTerm_26 (by decide) ?_
        have u148x := xw_a (M := M140) (N := M145) (c := 3002) (r := 2) (e := (-1)) (FR.cell fM145 (by decide)) (ap_bin ⟨(INV.rd hM140 (i := 102) (c := 48) (k := 280) rfl rfl).1, by omega, by omega⟩) (by omega)
        have u148t := xw_t (M := M0) (N := M140) (P := M145) (r1 := 0) (e1 := 2) (s1 := 1) (r2 := 2) (e2 := (-1)) (s2 := (-1)) 0 1 0 (by decide) (by omega) (by omega)
        have u148i := ri_c (M := M140) (N := M145) (FR.cell fM145 (by decide)) (by omega)
        have u148l := ri_l (M := M145) (by omega)
        have zz98_8 : (M145.1 98 8).toInt = (M140.1 98 8).toInt := s_fF fM145 (by decide) (rfl); have zz98_6 : (M145.1 98 6).toInt = (M140.1 98 6).toInt := s_fF fM145 (by decide) (rfl); exact ih127 M145 (by omega) hM145 ((((FR.rf.tr fM129 (by decide)).tr fM133 (by decide)).tr fM140 (by decide)).tr fM145 (by decide))
  exact L128 2010 M103 (by omega) hM103 (FR.rf.tr fM103 (by decide))
set_option maxHeartbeats 4000000 in
theorem s5_X12_readSum {l : Launch} {dC : Nat → ClassId} {dI : Nat → Nat → Nat} {ad : Nat → Nat} {cA : Nat → ClassId} {pr : Nat → Nat → Bool} {Kz : mm_M} {M0 : mm_M} (hM0 : INV pr Kz M0) (hpr : PM pr)  (hp0 : b01 (RIP M0) = 1) (hp1 : b01 (CA M0) = 1) (hp2 : b01 (PI M0) = 1) : Cv l 21 yX12_readSum wsX12_readSum dC dI ad cA [.ref (ad 98), .int (sI 2)] M0 (fun M' => INV pr Kz M' ∧ FR [98, 102] M0 M' ∧ (b01 (RIP M') = 1) ∧ ((M'.1 98 8).toInt = (M0.1 98 8).toInt) ∧ ((M0.1 98 6).toInt ≤ (M'.1 98 6).toInt) ∧ (b01 (XW M0 M' 0 1 0) = 1) ∧ (b01 (CA M') = 1) ∧ (b01 (PI M') = 1)) := by
  refine cv_of (cc := cX12_readSum) (maxL := 3) (lv := [(0, .ref (ad 98)), (1, .int (sI 2))]) (by decide) rfl (Nat.le_of_ble_eq_true rfl) rfl ?_
  intro p e s m args below meth c A Q C hret
  have u101z := xw_0 M0
  have u101l := ri_l (M := M0) (by omega)
  refine j_aload_n C 0 0 dX12_readSum_0 rfl rfl ?_
  refine j_iload_n C 1 1 dX12_readSum_1 rfl rfl ?_
  refine j_callVv C (d := 20) (As := [.int (sI 2)]) (st := []) 98 (s_lt rfl rfl) (s_kc (c := 11) rfl rfl) (by decide) rfl (s5_X12_readTerm hM0 hpr (by omega) (by omega) (by omega)) gX12_readSum_X12_readTerm rfl hdX12_readTerm (by decide) (Nat.le_of_ble_eq_true rfl) dX12_readSum_2 rfl (fun M103 h104 => ?_)
  obtain ⟨hM103, fM103, h105⟩ := h104
  have u106l := ri_l (M := M103) (by omega)
  have L167 : ∀ (n165 : Nat), ∀ (M168 : mm_M), ((b01 (RIP M168) = 1) ∧ ((M168.1 98 8).toInt = (M0.1 98 8).toInt) ∧ ((M0.1 98 6).toInt ≤ (M168.1 98 6).toInt) ∧ (b01 (XW M0 M168 0 1 0) = 1) ∧ ((M168.1 98 6).toInt ≤ 900) ∧ (b01 (PI M168) = 1) ∧ (900 - (M168.1 98 6).toInt) < (n165 : Int)) → INV pr Kz M168 → FR [98, 102] M0 M168 → jj p l e (cn_R 21) s m args below meth c 0 0 Q 3 dC dI ad cA A M168 5 [(0, .ref (ad 98)), (1, .int (sI 2))] [] := by
    intro n165
    induction n165 with
    | zero =>
      intro M168 h169 hM168 fM168
      exfalso; omega
    | succ n165 ih166 =>
      intro M168 h169 hM168 fM168
      have u170l := ri_l (M := M168) (by omega)
      refine j_aload_n C 0 0 dX12_readSum_5 rfl rfl ?_
      refine y_bipush C dX12_readSum_6 rfl ?_
      refine j_callVi C (d := 0) (As := [.int (sI 32)]) (st := []) 98 (s_lt rfl rfl) (s_kc (c := 11) rfl rfl) (by decide) rfl (s1_X12_is hM168 32 (by omega)) gX12_readSum_X12_is rfl hdX12_is (by decide) (Nat.le_of_ble_eq_true rfl) dX12_readSum_8 rfl (fun r171 M172 h173 => ?_)
      obtain ⟨a175, rfl, rfl, h174⟩ := h173
      refine y_if_ne C 23 dX12_readSum_11 (by decide) (by omega) (fun h176 => ?_) (fun h176 => ?_)
      · refine j_aload_n C 0 0 dX12_readSum_23 rfl rfl ?_
        refine y_getI C 11 _ _ fX12_readSum_108 rfl rfl ft_11_9 sb_11_9 hM168 dX12_readSum_24 (fun a177 ea177 la177 ua177 => ?_)
        obtain rfl : a177 = (M168.1 98 9).toInt := ea177
        refine y_bipush C dX12_readSum_27 rfl ?_
        have J181 : ∀ (a180 : Int), (3000 ≤ a180 ∧ a180 ≤ 3001) → jj p l e (cn_R 21) s m args below meth c 0 0 Q 3 dC dI ad cA A M168 41 [(0, .ref (ad 98)), (1, .int (sI 2))] [.int (sI a180)] := by
          intro a180 h182
          refine j_istore_n C 2 [(2, .int (sI a180)), (0, .ref (ad 98)), (1, .int (sI 2))] dX12_readSum_41 rfl (by decide) rfl ?_
          have u183k := ri_k (M := M168) (by omega) (by omega)
          refine j_aload_n C 1 0 dX12_readSum_42 rfl rfl ?_
          refine j_callVv C (d := 5) (As := []) (st := []) 98 (s_lt rfl rfl) (s_kc (c := 11) rfl rfl) (by decide) rfl (s1_X12_next hM168 hpr (by omega) (by omega) (by omega)) gX12_readSum_X12_next rfl hdX12_next (by decide) (Nat.le_of_ble_eq_true rfl) dX12_readSum_43 rfl (fun M185 h186 => ?_)
          obtain ⟨hM185, fM185, h187⟩ := h186
          have u188c := xw_c (N := M168) (P := M185) 1 (FR.cell fM185 (by decide)) (by omega)
          have u188t := xw_t (M := M0) (N := M168) (P := M185) (r1 := 0) (e1 := 1) (s1 := 0) (r2 := 0) (e2 := 0) (s2 := 1) 0 1 1 (by decide) (by omega) (by omega)
          have u188a := ca_x (M := M0) (N := M185) (r := 0) (e := 1) (s := 1) (by decide) (by omega) (by omega)
          have u188l := ri_l (M := M185) (by omega)
          refine j_aload_n C 1 0 dX12_readSum_46 rfl rfl ?_
          refine j_iload_n C 2 1 dX12_readSum_47 rfl rfl ?_
          refine j_callVv C (d := 20) (As := [.int (sI 2)]) (st := []) 98 (s_lt rfl rfl) (s_kc (c := 11) rfl rfl) (by decide) rfl (s5_X12_readTerm hM185 hpr (by omega) (by omega) (by omega)) gX12_readSum_X12_readTerm rfl hdX12_readTerm (by decide) (Nat.le_of_ble_eq_true rfl) dX12_readSum_48 rfl (fun M190 h191 => ?_)
          obtain ⟨hM190, fM190, h192⟩ := h191
          have u193t := xw_t (M := M0) (N := M185) (P := M190) (r1 := 0) (e1 := 1) (s1 := 1) (r2 := 0) (e2 := 1) (s2 := 0) 0 2 1 (by decide) (by omega) (by omega)
          have u193l := ri_l (M := M190) (by omega)
          have u193b := cb_x (M := M0) (N := M190) (r := 0) (e := 2) (s := 1) (by decide) (by omega) (by omega) (by omega)
          refine j_aload_n C 1 0 dX12_readSum_51 rfl rfl ?_
          refine j_iload_n C 0 2 dX12_readSum_52 rfl rfl ?_
          refine j_callVv C (d := 0) (As := [.int (sI a180)]) (st := []) 98 (s_lt rfl rfl) (s_kc (c := 11) rfl rfl) (by decide) rfl (s1_X12_codes hM190 hpr a180 (by omega) (by omega) (by omega)) gX12_readSum_X12_codes rfl hdX12_codes (by decide) (Nat.le_of_ble_eq_true rfl) dX12_readSum_53 rfl (fun M195 h196 => ?_)
          obtain ⟨hM195, fM195, h197⟩ := h196
          refine j_goto C 5 dX12_readSum_56 (by decide) ?_
          have u198x := xw_a (M := M190) (N := M195) (c := a180) (r := 2) (e := (-1)) (FR.cell fM195 (by decide)) (ap_bin ⟨(INV.rd hM190 (i := 102) (c := 48) (k := 280) rfl rfl).1, by omega, by omega⟩) (by omega)
          have u198t := xw_t (M := M0) (N := M190) (P := M195) (r1 := 0) (e1 := 2) (s1 := 1) (r2 := 2) (e2 := (-1)) (s2 := (-1)) 0 1 0 (by decide) (by omega) (by omega)
          have u198i := ri_c (M := M190) (N := M195) (FR.cell fM195 (by decide)) (by omega)
          have u198l := ri_l (M := M195) (by omega)
          have zz98_8 : (M195.1 98 8).toInt = (M190.1 98 8).toInt := s_fF fM195 (by decide) (rfl); have zz98_6 : (M195.1 98 6).toInt = (M190.1 98 6).toInt := s_fF fM195 (by decide) (rfl); refine j_lv [1, 2] rfl ?_; exact ih166 M195 (by omega) hM195 ((((FR.rf.tr fM168 (by decide)).tr fM185 (by decide)).tr fM190 (by decide)).tr fM195 (by decide))
        refine y_icmp_ne C 38 dX12_readSum_29 (by decide) (by omega) (fun h179 => ?_) (fun h179 => ?_)
        · refine y_sipush C dX12_readSum_38 rfl ?_
          exact J181 3001 (by omega)
        · refine y_sipush C dX12_readSum_32 rfl ?_
          refine j_goto C 41 dX12_readSum_35 (by decide) ?_
          exact J181 3000 (by omega)
      · refine j_aload_n C 0 0 dX12_readSum_14 rfl rfl ?_
        refine y_bipush C dX12_readSum_15 rfl ?_
        refine j_callVi C (d := 0) (As := [.int (sI 33)]) (st := []) 98 (s_lt rfl rfl) (s_kc (c := 11) rfl rfl) (by decide) rfl (s1_X12_is hM168 33 (by omega)) gX12_readSum_X12_is rfl hdX12_is (by decide) (Nat.le_of_ble_eq_true rfl) dX12_readSum_17 rfl (fun r199 M200 h201 => ?_)
        obtain ⟨a203, rfl, rfl, h202⟩ := h201
        refine y_if_eq C 59 dX12_readSum_20 (by decide) (by omega) (fun h204 => ?_) (fun h204 => ?_)
        · have u227a := ca_x (M := M0) (N := M168) (r := 0) (e := 1) (s := 0) (by decide) (by omega) (by omega)
          exact hret _ _ _ dX12_readSum_59 ⟨hM168, (FR.rf.tr fM168 (by decide)), by omega⟩
        · refine j_aload_n C 0 0 dX12_readSum_23 rfl rfl ?_
          refine y_getI C 11 _ _ fX12_readSum_108 rfl rfl ft_11_9 sb_11_9 hM168 dX12_readSum_24 (fun a205 ea205 la205 ua205 => ?_)
          obtain rfl : a205 = (M168.1 98 9).toInt := ea205
          refine y_bipush C dX12_readSum_27 rfl ?_
          have J209 : ∀ (a208 : Int), (3000 ≤ a208 ∧ a208 ≤ 3001) → jj p l e (cn_R 21) s m args below meth c 0 0 Q 3 dC dI ad cA A M168 41 [(0, .ref (ad 98)), (1, .int (sI 2))] [.int (sI a208)] := by
            intro a208 h210
            refine j_istore_n C 2 [(2, .int (sI a208)), (0, .ref (ad 98)), (1, .int (sI 2))] dX12_readSum_41 rfl (by decide) rfl ?_
            have u211k := ri_k (M := M168) (by omega) (by omega)
            refine j_aload_n C 1 0 dX12_readSum_42 rfl rfl ?_
            refine j_callVv C (d := 5) (As := []) (st := []) 98 (s_lt rfl rfl) (s_kc (c := 11) rfl rfl) (by decide) rfl (s1_X12_next hM168 hpr (by omega) (by omega) (by omega)) gX12_readSum_X12_next rfl hdX12_next (by decide) (Nat.le_of_ble_eq_true rfl) dX12_readSum_43 rfl (fun M213 h214 => ?_)
            obtain ⟨hM213, fM213, h215⟩ := h214
            have u216c := xw_c (N := M168) (P := M213) 1 (FR.cell fM213 (by decide)) (by omega)
            have u216t := xw_t (M := M0) (N := M168) (P := M213) (r1 := 0) (e1 := 1) (s1 := 0) (r2 := 0) (e2 := 0) (s2 := 1) 0 1 1 (by decide) (by omega) (by omega)
            have u216a := ca_x (M := M0) (N := M213) (r := 0) (e := 1) (s := 1) (by decide) (by omega) (by omega)
            have u216l := ri_l (M := M213) (by omega)
            refine j_aload_n C 1 0 dX12_readSum_46 rfl rfl ?_
            refine j_iload_n C 2 1 dX12_readSum_47 rfl rfl ?_
            refine j_callVv C (d := 20) (As := [.int (sI 2)]) (st := []) 98 (s_lt rfl rfl) (s_kc (c := 11) rfl rfl) (by decide) rfl (s5_X12_readTerm hM213 hpr (by omega) (by omega) (by omega)) gX12_readSum_X12_readTerm rfl hdX12_readTerm (by decide) (Nat.le_of_ble_eq_true rfl) dX12_readSum_48 rfl (fun M218 h219 => ?_)
            obtain ⟨hM218, fM218, h220⟩ := h219
            have u221t := xw_t (M := M0) (N := M213) (P := M218) (r1 := 0) (e1 := 1) (s1 := 1) (r2 := 0) (e2 := 1) (s2 := 0) 0 2 1 (by decide) (by omega) (by omega)
            have u221l := ri_l (M := M218) (by omega)
            have u221b := cb_x (M := M0) (N := M218) (r := 0) (e := 2) (s := 1) (by decide) (by omega) (by omega) (by omega)
            refine j_aload_n C 1 0 dX12_readSum_51 rfl rfl ?_
            refine j_iload_n C 0 2 dX12_readSum_52 rfl rfl ?_
            refine j_callVv C (d := 0) (As := [.int (sI a208)]) (st := []) 98 (s_lt rfl rfl) (s_kc (c := 11) rfl rfl) (by decide) rfl (s1_X12_codes hM218 hpr a208 (by omega) (by omega) (by omega)) gX12_readSum_X12_codes rfl hdX12_codes (by decide) (Nat.le_of_ble_eq_true rfl) dX12_readSum_53 rfl (fun M223 h224 => ?_)
            obtain ⟨hM223, fM223, h225⟩ := h224
            refine j_goto C 5 dX12_readSum_56 (by decide) ?_
            have u226x := xw_a (M := M218) (N := M223) (c := a208) (r := 2) (e := (-1)) (FR.cell fM223 (by decide)) (ap_bin ⟨(INV.rd hM218 (i := 102) (c := 48) (k := 280) rfl rfl).1, by omega, by omega⟩) (by omega)
            have u226t := xw_t (M := M0) (N := M218) (P := M223) (r1 := 0) (e1 := 2) (s1 := 1) (r2 := 2) (e2 := (-1)) (s2 := (-1)) 0 1 0 (by decide) (by omega) (by omega)
            have u226i := ri_c (M := M218) (N := M223) (FR.cell fM223 (by decide)) (by omega)
            have u226l := ri_l (M := M223) (by omega)
            have zz98_8 : (M223.1 98 8).toInt = (M218.1 98 8).toInt := s_fF fM223 (by decide) (rfl); have zz98_6 : (M223.1 98 6).toInt = (M218.1 98 6).toInt := s_fF fM223 (by decide) (rfl); refine j_lv [1, 2] rfl ?_; exact ih166 M223 (by omega) hM223 ((((FR.rf.tr fM168 (by decide)).tr fM213 (by decide)).tr fM218 (by decide)).tr fM223 (by decide))
          refine y_icmp_ne C 38 dX12_readSum_29 (by decide) (by omega) (fun h207 => ?_) (fun h207 => ?_)
          · refine y_sipush C dX12_readSum_38 rfl ?_
            exact J209 3001 (by omega)
          · refine y_sipush C dX12_readSum_32 rfl ?_
            refine j_goto C 41 dX12_readSum_35 (by decide) ?_
            exact J209 3000 (by omega)
  exact L167 2010 M103 (by omega) hM103 (FR.rf.tr fM103 (by decide))
set_option maxHeartbeats 4000000 in
theorem s6_X12_readAtom {l : Launch} {dC : Nat → ClassId} {dI : Nat → Nat → Nat} {ad : Nat → Nat} {cA : Nat → ClassId} {pr : Nat → Nat → Bool} {Kz : mm_M} {M0 : mm_M} (hM0 : INV pr Kz M0) (hpr : PM pr)  (hp0 : b01 (RIP M0) = 1) (hp1 : b01 (CA M0) = 1) (hp2 : b01 (PI M0) = 1) : Cv l 22 yX12_readAtom wsX12_readAtom dC dI ad cA [.ref (ad 98), .int (sI 1)] M0 (fun M' => INV pr Kz M' ∧ FR [98, 102] M0 M' ∧ (b01 (RIP M') = 1) ∧ ((M'.1 98 8).toInt = (M0.1 98 8).toInt) ∧ ((M0.1 98 6).toInt ≤ (M'.1 98 6).toInt) ∧ (b01 (XW M0 M' 0 1 0) = 1) ∧ (b01 (CA M') = 1) ∧ (b01 (PI M') = 1)) := by
  refine cv_of (cc := cX12_readAtom) (maxL := 2) (lv := [(0, .ref (ad 98)), (1, .int (sI 1))]) (by decide) rfl (Nat.le_of_ble_eq_true rfl) rfl ?_
  intro p e s m args below meth c A Q C hret
  have u101z := xw_0 M0
  have u101l := ri_l (M := M0) (by omega)
  refine j_aload_n C 0 0 dX12_readAtom_0 rfl rfl ?_
  refine y_bipush C dX12_readAtom_1 rfl ?_
  refine j_callVi C (d := 0) (As := [.int (sI 23)]) (st := []) 98 (s_lt rfl rfl) (s_kc (c := 11) rfl rfl) (by decide) rfl (s1_X12_is hM0 23 (by omega)) gX12_readAtom_X12_is rfl hdX12_is (by decide) (Nat.le_of_ble_eq_true rfl) dX12_readAtom_3 rfl (fun r102 M103 h104 => ?_)
  obtain ⟨a106, rfl, rfl, h105⟩ := h104
  refine y_if_eq C 24 dX12_readAtom_6 (by decide) (by omega) (fun h107 => ?_) (fun h107 => ?_)
  · refine j_aload_n C 0 0 dX12_readAtom_24 rfl rfl ?_
    refine y_getI C 11 _ _ fX12_readAtom_126 rfl rfl ft_11_11 sb_11_11 hM0 dX12_readAtom_25 (fun a108 ea108 la108 ua108 => ?_)
    obtain rfl : a108 = (M0.1 98 11).toInt := ea108
    refine y_if_ne C 66 dX12_readAtom_28 (by decide) (by omega) (fun h110 => ?_) (fun h110 => ?_)
    · refine j_aload_n C 0 0 dX12_readAtom_66 rfl rfl ?_
      refine y_bipush C dX12_readAtom_67 rfl ?_
      refine j_callVi C (d := 0) (As := [.int (sI 35)]) (st := []) 98 (s_lt rfl rfl) (s_kc (c := 11) rfl rfl) (by decide) rfl (s1_X12_is hM0 35 (by omega)) gX12_readAtom_X12_is rfl hdX12_is (by decide) (Nat.le_of_ble_eq_true rfl) dX12_readAtom_69 rfl (fun r111 M112 h113 => ?_)
      obtain ⟨a115, rfl, rfl, h114⟩ := h113
      refine y_if_eq C 108 dX12_readAtom_72 (by decide) (by omega) (fun h116 => ?_) (fun h116 => ?_)
      · refine j_aload_n C 0 0 dX12_readAtom_108 rfl rfl ?_
        refine y_iconst C dX12_readAtom_109 ?_
        refine j_callVv C (d := 0) (As := [.int (sI 2)]) (st := []) 98 (s_lt rfl rfl) (s_kc (c := 11) rfl rfl) (by decide) rfl (s1_X12_fails hM0 hpr 2 (by omega) (by omega) (by omega) (by omega)) gX12_readAtom_X12_fails rfl hdX12_fails (by decide) (Nat.le_of_ble_eq_true rfl) dX12_readAtom_110 rfl (fun M118 h119 => ?_)
        obtain ⟨hM118, fM118, h120⟩ := h119
        have u121f : b01 (XW M0 M118 0 1 0) = 1 := b01_i (Or.inl (by omega))
        have u121a := ca_x (M := M0) (N := M118) (r := 0) (e := 1) (s := 0) (by decide) (by omega) (by omega)
        exact hret _ _ _ dX12_readAtom_113 ⟨hM118, (FR.rf.tr fM118 (by decide)), by omega⟩
      · have u122k := ri_k (M := M0) (by omega) (by omega)
        refine j_aload_n C 0 0 dX12_readAtom_75 rfl rfl ?_
        refine j_iload_n C 1 1 dX12_readAtom_76 rfl rfl ?_
        refine j_callVi C (d := 6) (As := [.int (sI 1)]) (st := []) 98 (s_lt rfl rfl) (s_kc (c := 11) rfl rfl) (by decide) rfl (s2_X12_goesIn hM0 hpr (by omega) (by omega)) gX12_readAtom_X12_goesIn rfl hdX12_goesIn (by decide) (Nat.le_of_ble_eq_true rfl) dX12_readAtom_77 rfl (fun r123 M124 h125 => ?_)
        obtain ⟨a127, rfl, hM124, fM124, h126⟩ := h125
        refine y_if_ne C 84 dX12_readAtom_80 (by decide) (by omega) (fun h128 => ?_) (fun h128 => ?_)
        · have u129c := xw_c (N := M0) (P := M124) 1 (FR.cell fM124 (by decide)) (by omega)
          have u129t := xw_t (M := M0) (N := M0) (P := M124) (r1 := 0) (e1 := 0) (s1 := 0) (r2 := 0) (e2 := 0) (s2 := 1) 0 0 1 (by decide) (by omega) (by omega)
          have u129a := ca_x (M := M0) (N := M124) (r := 0) (e := 0) (s := 1) (by decide) (by omega) (by omega)
          have u129l := ri_l (M := M124) (by omega)
          refine j_aload_n C 0 0 dX12_readAtom_84 rfl rfl ?_
          refine j_iload_n C 1 1 dX12_readAtom_85 rfl rfl ?_
          refine y_iconst C dX12_readAtom_86 ?_
          refine y_iadd C dX12_readAtom_87 ?_
          refine j_callVv C (d := 21) (As := [.int (sI (1 + 1))]) (st := []) 98 (s_lt rfl rfl) (s_kc (c := 11) rfl rfl) (by decide) rfl (s5_X12_readSum hM124 hpr (by omega) (by omega) (by omega)) gX12_readAtom_X12_readSum rfl hdX12_readSum (by decide) (Nat.le_of_ble_eq_true rfl) dX12_readAtom_88 rfl (fun M131 h132 => ?_)
          obtain ⟨hM131, fM131, h133⟩ := h132
          have u134t := xw_t (M := M0) (N := M124) (P := M131) (r1 := 0) (e1 := 0) (s1 := 1) (r2 := 0) (e2 := 1) (s2 := 0) 0 1 1 (by decide) (by omega) (by omega)
          have u134l := ri_l (M := M131) (by omega)
          refine j_aload_n C 0 0 dX12_readAtom_91 rfl rfl ?_
          refine y_bipush C dX12_readAtom_92 rfl ?_
          refine j_callVi C (d := 6) (As := [.int (sI 36)]) (st := []) 98 (s_lt rfl rfl) (s_kc (c := 11) rfl rfl) (by decide) rfl (s1_X12_eats hM131 hpr 36 (by omega) (by omega) (by omega) (by omega)) gX12_readAtom_X12_eats rfl hdX12_eats (by decide) (Nat.le_of_ble_eq_true rfl) dX12_readAtom_94 rfl (fun r135 M136 h137 => ?_)
          obtain ⟨a139, rfl, hM136, fM136, h138⟩ := h137
          have u140c := xw_c (N := M131) (P := M136) 0 (FR.cell fM136 (by decide)) (by omega)
          have u140t := xw_t (M := M0) (N := M131) (P := M136) (r1 := 0) (e1 := 1) (s1 := 1) (r2 := 0) (e2 := 0) (s2 := 0) 0 1 0 (by decide) (by omega) (by omega)
          have u140a := ca_x (M := M0) (N := M136) (r := 0) (e := 1) (s := 0) (by decide) (by omega) (by omega)
          have u140l := ri_l (M := M136) (by omega)
          refine y_if_ne C 113 dX12_readAtom_97 (by decide) (by omega) (fun h141 => ?_) (fun h141 => ?_)
          · exact hret _ _ _ dX12_readAtom_113 ⟨hM136, (((FR.rf.tr fM124 (by decide)).tr fM131 (by decide)).tr fM136 (by decide)), by omega⟩
          · refine j_aload_n C 0 0 dX12_readAtom_100 rfl rfl ?_
            refine y_iconst C dX12_readAtom_101 ?_
            refine j_callVv C (d := 0) (As := [.int (sI 2)]) (st := []) 98 (s_lt rfl rfl) (s_kc (c := 11) rfl rfl) (by decide) rfl (s1_X12_fails hM136 hpr 2 (by omega) (by omega) (by omega) (by omega)) gX12_readAtom_X12_fails rfl hdX12_fails (by decide) (Nat.le_of_ble_eq_true rfl) dX12_readAtom_102 rfl (fun M144 h145 => ?_)
            obtain ⟨hM144, fM144, h146⟩ := h145
            have u147f : b01 (XW M0 M144 0 1 0) = 1 := b01_i (Or.inl (by omega))
            have u147a := ca_x (M := M0) (N := M144) (r := 0) (e := 1) (s := 0) (by decide) (by omega) (by omega)
            refine j_goto C 113 dX12_readAtom_105 (by decide) ?_
            exact hret _ _ _ dX12_readAtom_113 ⟨hM144, ((((FR.rf.tr fM124 (by decide)).tr fM131 (by decide)).tr fM136 (by decide)).tr fM144 (by decide)), by omega⟩
        · have u149c := xw_c (N := M0) (P := M124) 0 (FR.cell fM124 (by decide)) (by omega)
          have u149f : b01 (XW M0 M124 0 1 0) = 1 := b01_i (Or.inl (by omega))
          have u149a := ca_x (M := M0) (N := M124) (r := 0) (e := 1) (s := 0) (by decide) (by omega) (by omega)
          exact hret _ _ _ dX12_readAtom_83 ⟨hM124, (FR.rf.tr fM124 (by decide)), by omega⟩
    · refine j_aload_n C 0 0 dX12_readAtom_31 rfl rfl ?_
      refine j_aload_n C 0 0 dX12_readAtom_32 rfl rfl ?_
      refine y_getI C 11 _ _ fX12_readAtom_108 rfl rfl ft_11_9 sb_11_9 hM0 dX12_readAtom_33 (fun a151 ea151 la151 ua151 => ?_)
      obtain rfl : a151 = (M0.1 98 9).toInt := ea151
      refine j_callVi C (d := 0) (As := [.int (sI (M0.1 98 9).toInt)]) (st := []) 98 (s_lt rfl rfl) (s_kc (c := 11) rfl rfl) (by decide) rfl (s1_X12_wordOf hM0 (M0.1 98 9).toInt (by omega)) gX12_readAtom_X12_wordOf rfl hdX12_wordOf (by decide) (Nat.le_of_ble_eq_true rfl) dX12_readAtom_36 rfl (fun r153 M154 h155 => ?_)
      obtain ⟨a157, rfl, rfl, h156⟩ := h155
      obtain rfl : a157 = (woF (M0.1 98 9).toInt) := by omega
      refine y_iconst C dX12_readAtom_39 ?_
      refine y_icmp_eq C 66 dX12_readAtom_40 (by decide) (by omega) (fun h158 => ?_) (fun h158 => ?_)
      · refine j_aload_n C 0 0 dX12_readAtom_66 rfl rfl ?_
        refine y_bipush C dX12_readAtom_67 rfl ?_
        refine j_callVi C (d := 0) (As := [.int (sI 35)]) (st := []) 98 (s_lt rfl rfl) (s_kc (c := 11) rfl rfl) (by decide) rfl (s1_X12_is hM0 35 (by omega)) gX12_readAtom_X12_is rfl hdX12_is (by decide) (Nat.le_of_ble_eq_true rfl) dX12_readAtom_69 rfl (fun r159 M160 h161 => ?_)
        obtain ⟨a163, rfl, rfl, h162⟩ := h161
        refine y_if_eq C 108 dX12_readAtom_72 (by decide) (by omega) (fun h164 => ?_) (fun h164 => ?_)
        · refine j_aload_n C 0 0 dX12_readAtom_108 rfl rfl ?_
          refine y_iconst C dX12_readAtom_109 ?_
          refine j_callVv C (d := 0) (As := [.int (sI 2)]) (st := []) 98 (s_lt rfl rfl) (s_kc (c := 11) rfl rfl) (by decide) rfl (s1_X12_fails hM0 hpr 2 (by omega) (by omega) (by omega) (by omega)) gX12_readAtom_X12_fails rfl hdX12_fails (by decide) (Nat.le_of_ble_eq_true rfl) dX12_readAtom_110 rfl (fun M166 h167 => ?_)
          obtain ⟨hM166, fM166, h168⟩ := h167
          have u169f : b01 (XW M0 M166 0 1 0) = 1 := b01_i (Or.inl (by omega))
          have u169a := ca_x (M := M0) (N := M166) (r := 0) (e := 1) (s := 0) (by decide) (by omega) (by omega)
          exact hret _ _ _ dX12_readAtom_113 ⟨hM166, (FR.rf.tr fM166 (by decide)), by omega⟩
        · have u170k := ri_k (M := M0) (by omega) (by omega)
          refine j_aload_n C 0 0 dX12_readAtom_75 rfl rfl ?_
          refine j_iload_n C 1 1 dX12_readAtom_76 rfl rfl ?_
          refine j_callVi C (d := 6) (As := [.int (sI 1)]) (st := []) 98 (s_lt rfl rfl) (s_kc (c := 11) rfl rfl) (by decide) rfl (s2_X12_goesIn hM0 hpr (by omega) (by omega)) gX12_readAtom_X12_goesIn rfl hdX12_goesIn (by decide) (Nat.le_of_ble_eq_true rfl) dX12_readAtom_77 rfl (fun r171 M172 h173 => ?_)
          obtain ⟨a175, rfl, hM172, fM172, h174⟩ := h173
          refine y_if_ne C 84 dX12_readAtom_80 (by decide) (by omega) (fun h176 => ?_) (fun h176 => ?_)
          · have u177c := xw_c (N := M0) (P := M172) 1 (FR.cell fM172 (by decide)) (by omega)
            have u177t := xw_t (M := M0) (N := M0) (P := M172) (r1 := 0) (e1 := 0) (s1 := 0) (r2 := 0) (e2 := 0) (s2 := 1) 0 0 1 (by decide) (by omega) (by omega)
            have u177a := ca_x (M := M0) (N := M172) (r := 0) (e := 0) (s := 1) (by decide) (by omega) (by omega)
            have u177l := ri_l (M := M172) (by omega)
            refine j_aload_n C 0 0 dX12_readAtom_84 rfl rfl ?_
            refine j_iload_n C 1 1 dX12_readAtom_85 rfl rfl ?_
            refine y_iconst C dX12_readAtom_86 ?_
            refine y_iadd C dX12_readAtom_87 ?_
            refine j_callVv C (d := 21) (As := [.int (sI (1 + 1))]) (st := []) 98 (s_lt rfl rfl) (s_kc (c := 11) rfl rfl) (by decide) rfl (s5_X12_readSum hM172 hpr (by omega) (by omega) (by omega)) gX12_readAtom_X12_readSum rfl hdX12_readSum (by decide) (Nat.le_of_ble_eq_true rfl) dX12_readAtom_88 rfl (fun M179 h180 => ?_)
            obtain ⟨hM179, fM179, h181⟩ := h180
            have u182t := xw_t (M := M0) (N := M172) (P := M179) (r1 := 0) (e1 := 0) (s1 := 1) (r2 := 0) (e2 := 1) (s2 := 0) 0 1 1 (by decide) (by omega) (by omega)
            have u182l := ri_l (M := M179) (by omega)
            refine j_aload_n C 0 0 dX12_readAtom_91 rfl rfl ?_
            refine y_bipush C dX12_readAtom_92 rfl ?_
            refine j_callVi C (d := 6) (As := [.int (sI 36)]) (st := []) 98 (s_lt rfl rfl) (s_kc (c := 11) rfl rfl) (by decide) rfl (s1_X12_eats hM179 hpr 36 (by omega) (by omega) (by omega) (by omega)) gX12_readAtom_X12_eats rfl hdX12_eats (by decide) (Nat.le_of_ble_eq_true rfl) dX12_readAtom_94 rfl (fun r183 M184 h185 => ?_)
            obtain ⟨a187, rfl, hM184, fM184, h186⟩ := h185
            have u188c := xw_c (N := M179) (P := M184) 0 (FR.cell fM184 (by decide)) (by omega)
            have u188t := xw_t (M := M0) (N := M179) (P := M184) (r1 := 0) (e1 := 1) (s1 := 1) (r2 := 0) (e2 := 0) (s2 := 0) 0 1 0 (by decide) (by omega) (by omega)
            have u188a := ca_x (M := M0) (N := M184) (r := 0) (e := 1) (s := 0) (by decide) (by omega) (by omega)
            have u188l := ri_l (M := M184) (by omega)
            refine y_if_ne C 113 dX12_readAtom_97 (by decide) (by omega) (fun h189 => ?_) (fun h189 => ?_)
            · exact hret _ _ _ dX12_readAtom_113 ⟨hM184, (((FR.rf.tr fM172 (by decide)).tr fM179 (by decide)).tr fM184 (by decide)), by omega⟩
            · refine j_aload_n C 0 0 dX12_readAtom_100 rfl rfl ?_
              refine y_iconst C dX12_readAtom_101 ?_
              refine j_callVv C (d := 0) (As := [.int (sI 2)]) (st := []) 98 (s_lt rfl rfl) (s_kc (c := 11) rfl rfl) (by decide) rfl (s1_X12_fails hM184 hpr 2 (by omega) (by omega) (by omega) (by omega)) gX12_readAtom_X12_fails rfl hdX12_fails (by decide) (Nat.le_of_ble_eq_true rfl) dX12_readAtom_102 rfl (fun M192 h193 => ?_)
              obtain ⟨hM192, fM192, h194⟩ := h193
              have u195f : b01 (XW M0 M192 0 1 0) = 1 := b01_i (Or.inl (by omega))
              have u195a := ca_x (M := M0) (N := M192) (r := 0) (e := 1) (s := 0) (by decide) (by omega) (by omega)
              refine j_goto C 113 dX12_readAtom_105 (by decide) ?_
              exact hret _ _ _ dX12_readAtom_113 ⟨hM192, ((((FR.rf.tr fM172 (by decide)).tr fM179 (by decide)).tr fM184 (by decide)).tr fM192 (by decide)), by omega⟩
          · have u197c := xw_c (N := M0) (P := M172) 0 (FR.cell fM172 (by decide)) (by omega)
            have u197f : b01 (XW M0 M172 0 1 0) = 1 := b01_i (Or.inl (by omega))
            have u197a := ca_x (M := M0) (N := M172) (r := 0) (e := 1) (s := 0) (by decide) (by omega) (by omega)
            exact hret _ _ _ dX12_readAtom_83 ⟨hM172, (FR.rf.tr fM172 (by decide)), by omega⟩
      · have u199w := woF_s (M0.1 98 9).toInt
        have u199k := ri_k (M := M0) (by omega) (by omega)
        have u199b := cb_0 (M := M0) (by omega) (by omega)
        refine j_aload_n C 0 0 dX12_readAtom_43 rfl rfl ?_
        refine y_sipush C dX12_readAtom_44 rfl ?_
        refine j_aload_n C 0 0 dX12_readAtom_47 rfl rfl ?_
        refine j_aload_n C 0 0 dX12_readAtom_48 rfl rfl ?_
        refine y_getI C 11 _ _ fX12_readAtom_108 rfl rfl ft_11_9 sb_11_9 hM0 dX12_readAtom_49 (fun a200 ea200 la200 ua200 => ?_)
        obtain rfl : a200 = (M0.1 98 9).toInt := ea200
        refine j_callVi C (d := 0) (As := [.int (sI (M0.1 98 9).toInt)]) (st := [.int (sI 1000), .ref (ad 98)]) 98 (s_lt rfl rfl) (s_kc (c := 11) rfl rfl) (by decide) rfl (s1_X12_wordOf hM0 (M0.1 98 9).toInt (by omega)) gX12_readAtom_X12_wordOf rfl hdX12_wordOf (by decide) (Nat.le_of_ble_eq_true rfl) dX12_readAtom_52 rfl (fun r202 M203 h204 => ?_)
        obtain ⟨a206, rfl, rfl, h205⟩ := h204
        obtain rfl : a206 = (woF (M0.1 98 9).toInt) := by omega
        refine y_iadd C dX12_readAtom_55 ?_
        refine j_callVv C (d := 0) (As := [.int (sI (1000 + (woF (M0.1 98 9).toInt)))]) (st := []) 98 (s_lt rfl rfl) (s_kc (c := 11) rfl rfl) (by decide) rfl (s1_X12_codes hM0 hpr (1000 + (woF (M0.1 98 9).toInt)) (by omega) (by omega) (by omega)) gX12_readAtom_X12_codes rfl hdX12_codes (by decide) (Nat.le_of_ble_eq_true rfl) dX12_readAtom_56 rfl (fun M208 h209 => ?_)
        obtain ⟨hM208, fM208, h210⟩ := h209
        have u211x := xw_a (M := M0) (N := M208) (c := (1000 + (woF (M0.1 98 9).toInt))) (r := 0) (e := 1) (FR.cell fM208 (by decide)) (ap_push ⟨(INV.rd hM0 (i := 102) (c := 48) (k := 280) rfl rfl).1, by omega, by omega⟩) (by omega)
        have u211t := xw_t (M := M0) (N := M0) (P := M208) (r1 := 0) (e1 := 0) (s1 := 0) (r2 := 0) (e2 := 1) (s2 := (-1)) 0 1 (-1) (by decide) (by omega) (by omega)
        have u211i := ri_c (M := M0) (N := M208) (FR.cell fM208 (by decide)) (by omega)
        have u211l := ri_l (M := M208) (by omega)
        have u211q6 : (M208.1 98 6).toInt = (M0.1 98 6).toInt := by rw [show M208.1 98 = M0.1 98 from FR.cell fM208 (by decide)]
        have u211q7 : (M208.1 98 7).toInt = (M0.1 98 7).toInt := by rw [show M208.1 98 = M0.1 98 from FR.cell fM208 (by decide)]
        have u211q8 : (M208.1 98 8).toInt = (M0.1 98 8).toInt := by rw [show M208.1 98 = M0.1 98 from FR.cell fM208 (by decide)]
        have u211q9 : (M208.1 98 9).toInt = (M0.1 98 9).toInt := by rw [show M208.1 98 = M0.1 98 from FR.cell fM208 (by decide)]
        have u211q11 : (M208.1 98 11).toInt = (M0.1 98 11).toInt := by rw [show M208.1 98 = M0.1 98 from FR.cell fM208 (by decide)]
        refine j_aload_n C 0 0 dX12_readAtom_59 rfl rfl ?_
        have zz98_7 : (M208.1 98 7).toInt = (M0.1 98 7).toInt := s_fF fM208 (by decide) (rfl)
        have zz98_8 : (M208.1 98 8).toInt = (M0.1 98 8).toInt := s_fF fM208 (by decide) (rfl)
        refine j_callVv C (d := 5) (As := []) (st := []) 98 (s_lt rfl rfl) (s_kc (c := 11) rfl rfl) (by decide) rfl (s1_X12_next hM208 hpr (by omega) (by omega) (by omega)) gX12_readAtom_X12_next rfl hdX12_next (by decide) (Nat.le_of_ble_eq_true rfl) dX12_readAtom_60 rfl (fun M213 h214 => ?_)
        obtain ⟨hM213, fM213, h215⟩ := h214
        have u216c := xw_c (N := M208) (P := M213) 1 (FR.cell fM213 (by decide)) (by omega)
        have u216t := xw_t (M := M0) (N := M208) (P := M213) (r1 := 0) (e1 := 1) (s1 := (-1)) (r2 := 0) (e2 := 0) (s2 := 1) 0 1 0 (by decide) (by omega) (by omega)
        have u216a := ca_x (M := M0) (N := M213) (r := 0) (e := 1) (s := 0) (by decide) (by omega) (by omega)
        refine j_goto C 113 dX12_readAtom_63 (by decide) ?_
        exact hret _ _ _ dX12_readAtom_113 ⟨hM213, ((FR.rf.tr fM208 (by decide)).tr fM213 (by decide)), by omega⟩
  · have u218k := ri_k (M := M0) (by omega) (by omega)
    have u218b := cb_0 (M := M0) (by omega) (by omega)
    refine j_aload_n C 0 0 dX12_readAtom_9 rfl rfl ?_
    refine j_aload_n C 0 0 dX12_readAtom_10 rfl rfl ?_
    refine y_getI C 11 _ _ fX12_readAtom_121 rfl rfl ft_11_10 sb_11_10 hM0 dX12_readAtom_11 (fun a219 ea219 la219 ua219 => ?_)
    obtain rfl : a219 = (M0.1 98 10).toInt := ea219
    refine j_callVv C (d := 0) (As := [.int (sI (M0.1 98 10).toInt)]) (st := []) 98 (s_lt rfl rfl) (s_kc (c := 11) rfl rfl) (by decide) rfl (s1_X12_codes hM0 hpr (M0.1 98 10).toInt (by omega) (by omega) (by omega)) gX12_readAtom_X12_codes rfl hdX12_codes (by decide) (Nat.le_of_ble_eq_true rfl) dX12_readAtom_14 rfl (fun M222 h223 => ?_)
    obtain ⟨hM222, fM222, h224⟩ := h223
    have u225x := xw_a (M := M0) (N := M222) (c := (M0.1 98 10).toInt) (r := 0) (e := 1) (FR.cell fM222 (by decide)) (ap_push ⟨(INV.rd hM0 (i := 102) (c := 48) (k := 280) rfl rfl).1, by omega, by omega⟩) (by omega)
    have u225t := xw_t (M := M0) (N := M0) (P := M222) (r1 := 0) (e1 := 0) (s1 := 0) (r2 := 0) (e2 := 1) (s2 := (-1)) 0 1 (-1) (by decide) (by omega) (by omega)
    have u225i := ri_c (M := M0) (N := M222) (FR.cell fM222 (by decide)) (by omega)
    have u225l := ri_l (M := M222) (by omega)
    have u225q6 : (M222.1 98 6).toInt = (M0.1 98 6).toInt := by rw [show M222.1 98 = M0.1 98 from FR.cell fM222 (by decide)]
    have u225q7 : (M222.1 98 7).toInt = (M0.1 98 7).toInt := by rw [show M222.1 98 = M0.1 98 from FR.cell fM222 (by decide)]
    have u225q8 : (M222.1 98 8).toInt = (M0.1 98 8).toInt := by rw [show M222.1 98 = M0.1 98 from FR.cell fM222 (by decide)]
    have u225q9 : (M222.1 98 9).toInt = (M0.1 98 9).toInt := by rw [show M222.1 98 = M0.1 98 from FR.cell fM222 (by decide)]
    have u225q11 : (M222.1 98 11).toInt = (M0.1 98 11).toInt := by rw [show M222.1 98 = M0.1 98 from FR.cell fM222 (by decide)]
    refine j_aload_n C 0 0 dX12_readAtom_17 rfl rfl ?_
    have zz98_7 : (M222.1 98 7).toInt = (M0.1 98 7).toInt := s_fF fM222 (by decide) (rfl)
    have zz98_8 : (M222.1 98 8).toInt = (M0.1 98 8).toInt := s_fF fM222 (by decide) (rfl)
    refine j_callVv C (d := 5) (As := []) (st := []) 98 (s_lt rfl rfl) (s_kc (c := 11) rfl rfl) (by decide) rfl (s1_X12_next hM222 hpr (by omega) (by omega) (by omega)) gX12_readAtom_X12_next rfl hdX12_next (by decide) (Nat.le_of_ble_eq_true rfl) dX12_readAtom_18 rfl (fun M227 h228 => ?_)
    obtain ⟨hM227, fM227, h229⟩ := h228
    have u230c := xw_c (N := M222) (P := M227) 1 (FR.cell fM227 (by decide)) (by omega)
    have u230t := xw_t (M := M0) (N := M222) (P := M227) (r1 := 0) (e1 := 1) (s1 := (-1)) (r2 := 0) (e2 := 0) (s2 := 1) 0 1 0 (by decide) (by omega) (by omega)
    have u230a := ca_x (M := M0) (N := M227) (r := 0) (e := 1) (s := 0) (by decide) (by omega) (by omega)
    refine j_goto C 113 dX12_readAtom_21 (by decide) ?_
    exact hret _ _ _ dX12_readAtom_113 ⟨hM227, ((FR.rf.tr fM222 (by decide)).tr fM227 (by decide)), by omega⟩
set_option maxHeartbeats 4000000 in
theorem s6_X12_readTerm {l : Launch} {dC : Nat → ClassId} {dI : Nat → Nat → Nat} {ad : Nat → Nat} {cA : Nat → ClassId} {pr : Nat → Nat → Bool} {Kz : mm_M} {M0 : mm_M} (hM0 : INV pr Kz M0) (hpr : PM pr)  (hp0 : b01 (RIP M0) = 1) (hp1 : b01 (CA M0) = 1) (hp2 : b01 (PI M0) = 1) : Cv l 23 yX12_readTerm wsX12_readTerm dC dI ad cA [.ref (ad 98), .int (sI 1)] M0 (fun M' => INV pr Kz M' ∧ FR [98, 102] M0 M' ∧ (b01 (RIP M') = 1) ∧ ((M'.1 98 8).toInt = (M0.1 98 8).toInt) ∧ ((M0.1 98 6).toInt ≤ (M'.1 98 6).toInt) ∧ (b01 (XW M0 M' 0 1 0) = 1) ∧ (b01 (CA M') = 1) ∧ (b01 (PI M') = 1)) := by
  refine cv_of (cc := cX12_readTerm) (maxL := 2) (lv := [(0, .ref (ad 98)), (1, .int (sI 1))]) (by decide) rfl (Nat.le_of_ble_eq_true rfl) rfl ?_
  intro p e s m args below meth c A Q C hret
  have u101z := xw_0 M0
  have u101l := ri_l (M := M0) (by omega)
  refine j_aload_n C 0 0 dX12_readTerm_0 rfl rfl ?_
  refine j_iload_n C 1 1 dX12_readTerm_1 rfl rfl ?_
  refine j_callVv C (d := 22) (As := [.int (sI 1)]) (st := []) 98 (s_lt rfl rfl) (s_kc (c := 11) rfl rfl) (by decide) rfl (s6_X12_readAtom hM0 hpr (by omega) (by omega) (by omega)) gX12_readTerm_X12_readAtom rfl hdX12_readAtom (by decide) (Nat.le_of_ble_eq_true rfl) dX12_readTerm_2 rfl (fun M103 h104 => ?_)
  obtain ⟨hM103, fM103, h105⟩ := h104
  have u106l := ri_l (M := M103) (by omega)
  have L128 : ∀ (n126 : Nat), ∀ (M129 : mm_M), ((b01 (RIP M129) = 1) ∧ ((M129.1 98 8).toInt = (M0.1 98 8).toInt) ∧ ((M0.1 98 6).toInt ≤ (M129.1 98 6).toInt) ∧ (b01 (XW M0 M129 0 1 0) = 1) ∧ ((M129.1 98 6).toInt ≤ 900) ∧ (b01 (PI M129) = 1) ∧ (900 - (M129.1 98 6).toInt) < (n126 : Int)) → INV pr Kz M129 → FR [98, 102] M0 M129 → jj p l e (cn_R 23) s m args below meth c 0 0 Q 2 dC dI ad cA A M129 5 [(0, .ref (ad 98)), (1, .int (sI 1))] [] := by
    intro n126
    induction n126 with
    | zero =>
      intro M129 h130 hM129 fM129
      exfalso; omega
    | succ n126 ih127 =>
      intro M129 h130 hM129 fM129
      have u131l := ri_l (M := M129) (by omega)
      refine j_aload_n C 0 0 dX12_readTerm_5 rfl rfl ?_
      refine y_bipush C dX12_readTerm_6 rfl ?_
      refine j_callVi C (d := 6) (As := [.int (sI 34)]) (st := []) 98 (s_lt rfl rfl) (s_kc (c := 11) rfl rfl) (by decide) rfl (s1_X12_eats hM129 hpr 34 (by omega) (by omega) (by omega) (by omega)) gX12_readTerm_X12_eats rfl hdX12_eats (by decide) (Nat.le_of_ble_eq_true rfl) dX12_readTerm_8 rfl (fun r132 M133 h134 => ?_)
      obtain ⟨a136, rfl, hM133, fM133, h135⟩ := h134
      refine y_if_eq C 29 dX12_readTerm_11 (by decide) (by omega) (fun h137 => ?_) (fun h137 => ?_)
      · have u149c := xw_c (N := M129) (P := M133) 0 (FR.cell fM133 (by decide)) (by omega)
        have u149t := xw_t (M := M0) (N := M129) (P := M133) (r1 := 0) (e1 := 1) (s1 := 0) (r2 := 0) (e2 := 0) (s2 := 0) 0 1 0 (by decide) (by omega) (by omega)
        have u149a := ca_x (M := M0) (N := M133) (r := 0) (e := 1) (s := 0) (by decide) (by omega) (by omega)
        exact hret _ _ _ dX12_readTerm_29 ⟨hM133, ((FR.rf.tr fM129 (by decide)).tr fM133 (by decide)), by omega⟩
      · have u138c := xw_c (N := M129) (P := M133) 1 (FR.cell fM133 (by decide)) (by omega)
        have u138t := xw_t (M := M0) (N := M129) (P := M133) (r1 := 0) (e1 := 1) (s1 := 0) (r2 := 0) (e2 := 0) (s2 := 1) 0 1 1 (by decide) (by omega) (by omega)
        have u138a := ca_x (M := M0) (N := M133) (r := 0) (e := 1) (s := 1) (by decide) (by omega) (by omega)
        have u138l := ri_l (M := M133) (by omega)
        refine j_aload_n C 0 0 dX12_readTerm_14 rfl rfl ?_
        refine j_iload_n C 1 1 dX12_readTerm_15 rfl rfl ?_
        refine j_callVv C (d := 22) (As := [.int (sI 1)]) (st := []) 98 (s_lt rfl rfl) (s_kc (c := 11) rfl rfl) (by decide) rfl (s6_X12_readAtom hM133 hpr (by omega) (by omega) (by omega)) gX12_readTerm_X12_readAtom rfl hdX12_readAtom (by decide) (Nat.le_of_ble_eq_true rfl) dX12_readTerm_16 rfl (fun M140 h141 => ?_)
        obtain ⟨hM140, fM140, h142⟩ := h141
        have u143t := xw_t (M := M0) (N := M133) (P := M140) (r1 := 0) (e1 := 1) (s1 := 1) (r2 := 0) (e2 := 1) (s2 := 0) 0 2 1 (by decide) (by omega) (by omega)
        have u143l := ri_l (M := M140) (by omega)
        have u143b := cb_x (M := M0) (N := M140) (r := 0) (e := 2) (s := 1) (by decide) (by omega) (by omega) (by omega)
        refine j_aload_n C 0 0 dX12_readTerm_19 rfl rfl ?_
        refine y_sipush C dX12_readTerm_20 rfl ?_
        refine j_callVv C (d := 0) (As := [.int (sI 3002)]) (st := []) 98 (s_lt rfl rfl) (s_kc (c := 11) rfl rfl) (by decide) rfl (s1_X12_codes hM140 hpr 3002 (by omega) (by omega) (by omega)) gX12_readTerm_X12_codes rfl hdX12_codes (by decide) (Nat.le_of_ble_eq_true rfl) dX12_readTerm_23 rfl (fun M145 h146 => ?_)
        obtain ⟨hM145, fM145, h147⟩ := h146
        refine j_goto C 5 dX12_readTerm_26 (by decide) ?_
        have u148x := xw_a (M := M140) (N := M145) (c := 3002) (r := 2) (e := (-1)) (FR.cell fM145 (by decide)) (ap_bin ⟨(INV.rd hM140 (i := 102) (c := 48) (k := 280) rfl rfl).1, by omega, by omega⟩) (by omega)
        have u148t := xw_t (M := M0) (N := M140) (P := M145) (r1 := 0) (e1 := 2) (s1 := 1) (r2 := 2) (e2 := (-1)) (s2 := (-1)) 0 1 0 (by decide) (by omega) (by omega)
        have u148i := ri_c (M := M140) (N := M145) (FR.cell fM145 (by decide)) (by omega)
        have u148l := ri_l (M := M145) (by omega)
        have zz98_8 : (M145.1 98 8).toInt = (M140.1 98 8).toInt := s_fF fM145 (by decide) (rfl); have zz98_6 : (M145.1 98 6).toInt = (M140.1 98 6).toInt := s_fF fM145 (by decide) (rfl); exact ih127 M145 (by omega) hM145 ((((FR.rf.tr fM129 (by decide)).tr fM133 (by decide)).tr fM140 (by decide)).tr fM145 (by decide))
  exact L128 2010 M103 (by omega) hM103 (FR.rf.tr fM103 (by decide))
set_option maxHeartbeats 4000000 in
theorem s6_X12_readSum {l : Launch} {dC : Nat → ClassId} {dI : Nat → Nat → Nat} {ad : Nat → Nat} {cA : Nat → ClassId} {pr : Nat → Nat → Bool} {Kz : mm_M} {M0 : mm_M} (hM0 : INV pr Kz M0) (hpr : PM pr)  (hp0 : b01 (RIP M0) = 1) (hp1 : b01 (CA M0) = 1) (hp2 : b01 (PI M0) = 1) : Cv l 24 yX12_readSum wsX12_readSum dC dI ad cA [.ref (ad 98), .int (sI 1)] M0 (fun M' => INV pr Kz M' ∧ FR [98, 102] M0 M' ∧ (b01 (RIP M') = 1) ∧ ((M'.1 98 8).toInt = (M0.1 98 8).toInt) ∧ ((M0.1 98 6).toInt ≤ (M'.1 98 6).toInt) ∧ (b01 (XW M0 M' 0 1 0) = 1) ∧ (b01 (CA M') = 1) ∧ (b01 (PI M') = 1)) := by
  refine cv_of (cc := cX12_readSum) (maxL := 3) (lv := [(0, .ref (ad 98)), (1, .int (sI 1))]) (by decide) rfl (Nat.le_of_ble_eq_true rfl) rfl ?_
  intro p e s m args below meth c A Q C hret
  have u101z := xw_0 M0
  have u101l := ri_l (M := M0) (by omega)
  refine j_aload_n C 0 0 dX12_readSum_0 rfl rfl ?_
  refine j_iload_n C 1 1 dX12_readSum_1 rfl rfl ?_
  refine j_callVv C (d := 23) (As := [.int (sI 1)]) (st := []) 98 (s_lt rfl rfl) (s_kc (c := 11) rfl rfl) (by decide) rfl (s6_X12_readTerm hM0 hpr (by omega) (by omega) (by omega)) gX12_readSum_X12_readTerm rfl hdX12_readTerm (by decide) (Nat.le_of_ble_eq_true rfl) dX12_readSum_2 rfl (fun M103 h104 => ?_)
  obtain ⟨hM103, fM103, h105⟩ := h104
  have u106l := ri_l (M := M103) (by omega)
  have L167 : ∀ (n165 : Nat), ∀ (M168 : mm_M), ((b01 (RIP M168) = 1) ∧ ((M168.1 98 8).toInt = (M0.1 98 8).toInt) ∧ ((M0.1 98 6).toInt ≤ (M168.1 98 6).toInt) ∧ (b01 (XW M0 M168 0 1 0) = 1) ∧ ((M168.1 98 6).toInt ≤ 900) ∧ (b01 (PI M168) = 1) ∧ (900 - (M168.1 98 6).toInt) < (n165 : Int)) → INV pr Kz M168 → FR [98, 102] M0 M168 → jj p l e (cn_R 24) s m args below meth c 0 0 Q 3 dC dI ad cA A M168 5 [(0, .ref (ad 98)), (1, .int (sI 1))] [] := by
    intro n165
    induction n165 with
    | zero =>
      intro M168 h169 hM168 fM168
      exfalso; omega
    | succ n165 ih166 =>
      intro M168 h169 hM168 fM168
      have u170l := ri_l (M := M168) (by omega)
      refine j_aload_n C 0 0 dX12_readSum_5 rfl rfl ?_
      refine y_bipush C dX12_readSum_6 rfl ?_
      refine j_callVi C (d := 0) (As := [.int (sI 32)]) (st := []) 98 (s_lt rfl rfl) (s_kc (c := 11) rfl rfl) (by decide) rfl (s1_X12_is hM168 32 (by omega)) gX12_readSum_X12_is rfl hdX12_is (by decide) (Nat.le_of_ble_eq_true rfl) dX12_readSum_8 rfl (fun r171 M172 h173 => ?_)
      obtain ⟨a175, rfl, rfl, h174⟩ := h173
      refine y_if_ne C 23 dX12_readSum_11 (by decide) (by omega) (fun h176 => ?_) (fun h176 => ?_)
      · refine j_aload_n C 0 0 dX12_readSum_23 rfl rfl ?_
        refine y_getI C 11 _ _ fX12_readSum_108 rfl rfl ft_11_9 sb_11_9 hM168 dX12_readSum_24 (fun a177 ea177 la177 ua177 => ?_)
        obtain rfl : a177 = (M168.1 98 9).toInt := ea177
        refine y_bipush C dX12_readSum_27 rfl ?_
        have J181 : ∀ (a180 : Int), (3000 ≤ a180 ∧ a180 ≤ 3001) → jj p l e (cn_R 24) s m args below meth c 0 0 Q 3 dC dI ad cA A M168 41 [(0, .ref (ad 98)), (1, .int (sI 1))] [.int (sI a180)] := by
          intro a180 h182
          refine j_istore_n C 2 [(2, .int (sI a180)), (0, .ref (ad 98)), (1, .int (sI 1))] dX12_readSum_41 rfl (by decide) rfl ?_
          have u183k := ri_k (M := M168) (by omega) (by omega)
          refine j_aload_n C 1 0 dX12_readSum_42 rfl rfl ?_
          refine j_callVv C (d := 5) (As := []) (st := []) 98 (s_lt rfl rfl) (s_kc (c := 11) rfl rfl) (by decide) rfl (s1_X12_next hM168 hpr (by omega) (by omega) (by omega)) gX12_readSum_X12_next rfl hdX12_next (by decide) (Nat.le_of_ble_eq_true rfl) dX12_readSum_43 rfl (fun M185 h186 => ?_)
          obtain ⟨hM185, fM185, h187⟩ := h186
          have u188c := xw_c (N := M168) (P := M185) 1 (FR.cell fM185 (by decide)) (by omega)
          have u188t := xw_t (M := M0) (N := M168) (P := M185) (r1 := 0) (e1 := 1) (s1 := 0) (r2 := 0) (e2 := 0) (s2 := 1) 0 1 1 (by decide) (by omega) (by omega)
          have u188a := ca_x (M := M0) (N := M185) (r := 0) (e := 1) (s := 1) (by decide) (by omega) (by omega)
          have u188l := ri_l (M := M185) (by omega)
          refine j_aload_n C 1 0 dX12_readSum_46 rfl rfl ?_
          refine j_iload_n C 2 1 dX12_readSum_47 rfl rfl ?_
          refine j_callVv C (d := 23) (As := [.int (sI 1)]) (st := []) 98 (s_lt rfl rfl) (s_kc (c := 11) rfl rfl) (by decide) rfl (s6_X12_readTerm hM185 hpr (by omega) (by omega) (by omega)) gX12_readSum_X12_readTerm rfl hdX12_readTerm (by decide) (Nat.le_of_ble_eq_true rfl) dX12_readSum_48 rfl (fun M190 h191 => ?_)
          obtain ⟨hM190, fM190, h192⟩ := h191
          have u193t := xw_t (M := M0) (N := M185) (P := M190) (r1 := 0) (e1 := 1) (s1 := 1) (r2 := 0) (e2 := 1) (s2 := 0) 0 2 1 (by decide) (by omega) (by omega)
          have u193l := ri_l (M := M190) (by omega)
          have u193b := cb_x (M := M0) (N := M190) (r := 0) (e := 2) (s := 1) (by decide) (by omega) (by omega) (by omega)
          refine j_aload_n C 1 0 dX12_readSum_51 rfl rfl ?_
          refine j_iload_n C 0 2 dX12_readSum_52 rfl rfl ?_
          refine j_callVv C (d := 0) (As := [.int (sI a180)]) (st := []) 98 (s_lt rfl rfl) (s_kc (c := 11) rfl rfl) (by decide) rfl (s1_X12_codes hM190 hpr a180 (by omega) (by omega) (by omega)) gX12_readSum_X12_codes rfl hdX12_codes (by decide) (Nat.le_of_ble_eq_true rfl) dX12_readSum_53 rfl (fun M195 h196 => ?_)
          obtain ⟨hM195, fM195, h197⟩ := h196
          refine j_goto C 5 dX12_readSum_56 (by decide) ?_
          have u198x := xw_a (M := M190) (N := M195) (c := a180) (r := 2) (e := (-1)) (FR.cell fM195 (by decide)) (ap_bin ⟨(INV.rd hM190 (i := 102) (c := 48) (k := 280) rfl rfl).1, by omega, by omega⟩) (by omega)
          have u198t := xw_t (M := M0) (N := M190) (P := M195) (r1 := 0) (e1 := 2) (s1 := 1) (r2 := 2) (e2 := (-1)) (s2 := (-1)) 0 1 0 (by decide) (by omega) (by omega)
          have u198i := ri_c (M := M190) (N := M195) (FR.cell fM195 (by decide)) (by omega)
          have u198l := ri_l (M := M195) (by omega)
          have zz98_8 : (M195.1 98 8).toInt = (M190.1 98 8).toInt := s_fF fM195 (by decide) (rfl); have zz98_6 : (M195.1 98 6).toInt = (M190.1 98 6).toInt := s_fF fM195 (by decide) (rfl); refine j_lv [1, 2] rfl ?_; exact ih166 M195 (by omega) hM195 ((((FR.rf.tr fM168 (by decide)).tr fM185 (by decide)).tr fM190 (by decide)).tr fM195 (by decide))
        refine y_icmp_ne C 38 dX12_readSum_29 (by decide) (by omega) (fun h179 => ?_) (fun h179 => ?_)
        · refine y_sipush C dX12_readSum_38 rfl ?_
          exact J181 3001 (by omega)
        · refine y_sipush C dX12_readSum_32 rfl ?_
          refine j_goto C 41 dX12_readSum_35 (by decide) ?_
          exact J181 3000 (by omega)
      · refine j_aload_n C 0 0 dX12_readSum_14 rfl rfl ?_
        refine y_bipush C dX12_readSum_15 rfl ?_
        refine j_callVi C (d := 0) (As := [.int (sI 33)]) (st := []) 98 (s_lt rfl rfl) (s_kc (c := 11) rfl rfl) (by decide) rfl (s1_X12_is hM168 33 (by omega)) gX12_readSum_X12_is rfl hdX12_is (by decide) (Nat.le_of_ble_eq_true rfl) dX12_readSum_17 rfl (fun r199 M200 h201 => ?_)
        obtain ⟨a203, rfl, rfl, h202⟩ := h201
        refine y_if_eq C 59 dX12_readSum_20 (by decide) (by omega) (fun h204 => ?_) (fun h204 => ?_)
        · have u227a := ca_x (M := M0) (N := M168) (r := 0) (e := 1) (s := 0) (by decide) (by omega) (by omega)
          exact hret _ _ _ dX12_readSum_59 ⟨hM168, (FR.rf.tr fM168 (by decide)), by omega⟩
        · refine j_aload_n C 0 0 dX12_readSum_23 rfl rfl ?_
          refine y_getI C 11 _ _ fX12_readSum_108 rfl rfl ft_11_9 sb_11_9 hM168 dX12_readSum_24 (fun a205 ea205 la205 ua205 => ?_)
          obtain rfl : a205 = (M168.1 98 9).toInt := ea205
          refine y_bipush C dX12_readSum_27 rfl ?_
          have J209 : ∀ (a208 : Int), (3000 ≤ a208 ∧ a208 ≤ 3001) → jj p l e (cn_R 24) s m args below meth c 0 0 Q 3 dC dI ad cA A M168 41 [(0, .ref (ad 98)), (1, .int (sI 1))] [.int (sI a208)] := by
            intro a208 h210
            refine j_istore_n C 2 [(2, .int (sI a208)), (0, .ref (ad 98)), (1, .int (sI 1))] dX12_readSum_41 rfl (by decide) rfl ?_
            have u211k := ri_k (M := M168) (by omega) (by omega)
            refine j_aload_n C 1 0 dX12_readSum_42 rfl rfl ?_
            refine j_callVv C (d := 5) (As := []) (st := []) 98 (s_lt rfl rfl) (s_kc (c := 11) rfl rfl) (by decide) rfl (s1_X12_next hM168 hpr (by omega) (by omega) (by omega)) gX12_readSum_X12_next rfl hdX12_next (by decide) (Nat.le_of_ble_eq_true rfl) dX12_readSum_43 rfl (fun M213 h214 => ?_)
            obtain ⟨hM213, fM213, h215⟩ := h214
            have u216c := xw_c (N := M168) (P := M213) 1 (FR.cell fM213 (by decide)) (by omega)
            have u216t := xw_t (M := M0) (N := M168) (P := M213) (r1 := 0) (e1 := 1) (s1 := 0) (r2 := 0) (e2 := 0) (s2 := 1) 0 1 1 (by decide) (by omega) (by omega)
            have u216a := ca_x (M := M0) (N := M213) (r := 0) (e := 1) (s := 1) (by decide) (by omega) (by omega)
            have u216l := ri_l (M := M213) (by omega)
            refine j_aload_n C 1 0 dX12_readSum_46 rfl rfl ?_
            refine j_iload_n C 2 1 dX12_readSum_47 rfl rfl ?_
            refine j_callVv C (d := 23) (As := [.int (sI 1)]) (st := []) 98 (s_lt rfl rfl) (s_kc (c := 11) rfl rfl) (by decide) rfl (s6_X12_readTerm hM213 hpr (by omega) (by omega) (by omega)) gX12_readSum_X12_readTerm rfl hdX12_readTerm (by decide) (Nat.le_of_ble_eq_true rfl) dX12_readSum_48 rfl (fun M218 h219 => ?_)
            obtain ⟨hM218, fM218, h220⟩ := h219
            have u221t := xw_t (M := M0) (N := M213) (P := M218) (r1 := 0) (e1 := 1) (s1 := 1) (r2 := 0) (e2 := 1) (s2 := 0) 0 2 1 (by decide) (by omega) (by omega)
            have u221l := ri_l (M := M218) (by omega)
            have u221b := cb_x (M := M0) (N := M218) (r := 0) (e := 2) (s := 1) (by decide) (by omega) (by omega) (by omega)
            refine j_aload_n C 1 0 dX12_readSum_51 rfl rfl ?_
            refine j_iload_n C 0 2 dX12_readSum_52 rfl rfl ?_
            refine j_callVv C (d := 0) (As := [.int (sI a208)]) (st := []) 98 (s_lt rfl rfl) (s_kc (c := 11) rfl rfl) (by decide) rfl (s1_X12_codes hM218 hpr a208 (by omega) (by omega) (by omega)) gX12_readSum_X12_codes rfl hdX12_codes (by decide) (Nat.le_of_ble_eq_true rfl) dX12_readSum_53 rfl (fun M223 h224 => ?_)
            obtain ⟨hM223, fM223, h225⟩ := h224
            refine j_goto C 5 dX12_readSum_56 (by decide) ?_
            have u226x := xw_a (M := M218) (N := M223) (c := a208) (r := 2) (e := (-1)) (FR.cell fM223 (by decide)) (ap_bin ⟨(INV.rd hM218 (i := 102) (c := 48) (k := 280) rfl rfl).1, by omega, by omega⟩) (by omega)
            have u226t := xw_t (M := M0) (N := M218) (P := M223) (r1 := 0) (e1 := 2) (s1 := 1) (r2 := 2) (e2 := (-1)) (s2 := (-1)) 0 1 0 (by decide) (by omega) (by omega)
            have u226i := ri_c (M := M218) (N := M223) (FR.cell fM223 (by decide)) (by omega)
            have u226l := ri_l (M := M223) (by omega)
            have zz98_8 : (M223.1 98 8).toInt = (M218.1 98 8).toInt := s_fF fM223 (by decide) (rfl); have zz98_6 : (M223.1 98 6).toInt = (M218.1 98 6).toInt := s_fF fM223 (by decide) (rfl); refine j_lv [1, 2] rfl ?_; exact ih166 M223 (by omega) hM223 ((((FR.rf.tr fM168 (by decide)).tr fM213 (by decide)).tr fM218 (by decide)).tr fM223 (by decide))
          refine y_icmp_ne C 38 dX12_readSum_29 (by decide) (by omega) (fun h207 => ?_) (fun h207 => ?_)
          · refine y_sipush C dX12_readSum_38 rfl ?_
            exact J209 3001 (by omega)
          · refine y_sipush C dX12_readSum_32 rfl ?_
            refine j_goto C 41 dX12_readSum_35 (by decide) ?_
            exact J209 3000 (by omega)
  exact L167 2010 M103 (by omega) hM103 (FR.rf.tr fM103 (by decide))
set_option maxHeartbeats 4000000 in
theorem s7_X12_readAtom {l : Launch} {dC : Nat → ClassId} {dI : Nat → Nat → Nat} {ad : Nat → Nat} {cA : Nat → ClassId} {pr : Nat → Nat → Bool} {Kz : mm_M} {M0 : mm_M} (hM0 : INV pr Kz M0) (hpr : PM pr)  (hp0 : b01 (RIP M0) = 1) (hp1 : b01 (CA M0) = 1) (hp2 : b01 (PI M0) = 1) : Cv l 25 yX12_readAtom wsX12_readAtom dC dI ad cA [.ref (ad 98), .int (sI 0)] M0 (fun M' => INV pr Kz M' ∧ FR [98, 102] M0 M' ∧ (b01 (RIP M') = 1) ∧ ((M'.1 98 8).toInt = (M0.1 98 8).toInt) ∧ ((M0.1 98 6).toInt ≤ (M'.1 98 6).toInt) ∧ (b01 (XW M0 M' 0 1 0) = 1) ∧ (b01 (CA M') = 1) ∧ (b01 (PI M') = 1)) := by
  refine cv_of (cc := cX12_readAtom) (maxL := 2) (lv := [(0, .ref (ad 98)), (1, .int (sI 0))]) (by decide) rfl (Nat.le_of_ble_eq_true rfl) rfl ?_
  intro p e s m args below meth c A Q C hret
  have u101z := xw_0 M0
  have u101l := ri_l (M := M0) (by omega)
  refine j_aload_n C 0 0 dX12_readAtom_0 rfl rfl ?_
  refine y_bipush C dX12_readAtom_1 rfl ?_
  refine j_callVi C (d := 0) (As := [.int (sI 23)]) (st := []) 98 (s_lt rfl rfl) (s_kc (c := 11) rfl rfl) (by decide) rfl (s1_X12_is hM0 23 (by omega)) gX12_readAtom_X12_is rfl hdX12_is (by decide) (Nat.le_of_ble_eq_true rfl) dX12_readAtom_3 rfl (fun r102 M103 h104 => ?_)
  obtain ⟨a106, rfl, rfl, h105⟩ := h104
  refine y_if_eq C 24 dX12_readAtom_6 (by decide) (by omega) (fun h107 => ?_) (fun h107 => ?_)
  · refine j_aload_n C 0 0 dX12_readAtom_24 rfl rfl ?_
    refine y_getI C 11 _ _ fX12_readAtom_126 rfl rfl ft_11_11 sb_11_11 hM0 dX12_readAtom_25 (fun a108 ea108 la108 ua108 => ?_)
    obtain rfl : a108 = (M0.1 98 11).toInt := ea108
    refine y_if_ne C 66 dX12_readAtom_28 (by decide) (by omega) (fun h110 => ?_) (fun h110 => ?_)
    · refine j_aload_n C 0 0 dX12_readAtom_66 rfl rfl ?_
      refine y_bipush C dX12_readAtom_67 rfl ?_
      refine j_callVi C (d := 0) (As := [.int (sI 35)]) (st := []) 98 (s_lt rfl rfl) (s_kc (c := 11) rfl rfl) (by decide) rfl (s1_X12_is hM0 35 (by omega)) gX12_readAtom_X12_is rfl hdX12_is (by decide) (Nat.le_of_ble_eq_true rfl) dX12_readAtom_69 rfl (fun r111 M112 h113 => ?_)
      obtain ⟨a115, rfl, rfl, h114⟩ := h113
      refine y_if_eq C 108 dX12_readAtom_72 (by decide) (by omega) (fun h116 => ?_) (fun h116 => ?_)
      · refine j_aload_n C 0 0 dX12_readAtom_108 rfl rfl ?_
        refine y_iconst C dX12_readAtom_109 ?_
        refine j_callVv C (d := 0) (As := [.int (sI 2)]) (st := []) 98 (s_lt rfl rfl) (s_kc (c := 11) rfl rfl) (by decide) rfl (s1_X12_fails hM0 hpr 2 (by omega) (by omega) (by omega) (by omega)) gX12_readAtom_X12_fails rfl hdX12_fails (by decide) (Nat.le_of_ble_eq_true rfl) dX12_readAtom_110 rfl (fun M118 h119 => ?_)
        obtain ⟨hM118, fM118, h120⟩ := h119
        have u121f : b01 (XW M0 M118 0 1 0) = 1 := b01_i (Or.inl (by omega))
        have u121a := ca_x (M := M0) (N := M118) (r := 0) (e := 1) (s := 0) (by decide) (by omega) (by omega)
        exact hret _ _ _ dX12_readAtom_113 ⟨hM118, (FR.rf.tr fM118 (by decide)), by omega⟩
      · have u122k := ri_k (M := M0) (by omega) (by omega)
        refine j_aload_n C 0 0 dX12_readAtom_75 rfl rfl ?_
        refine j_iload_n C 1 1 dX12_readAtom_76 rfl rfl ?_
        refine j_callVi C (d := 6) (As := [.int (sI 0)]) (st := []) 98 (s_lt rfl rfl) (s_kc (c := 11) rfl rfl) (by decide) rfl (s1_X12_goesIn hM0 hpr (by omega) (by omega)) gX12_readAtom_X12_goesIn rfl hdX12_goesIn (by decide) (Nat.le_of_ble_eq_true rfl) dX12_readAtom_77 rfl (fun r123 M124 h125 => ?_)
        obtain ⟨a127, rfl, hM124, fM124, h126⟩ := h125
        refine y_if_ne C 84 dX12_readAtom_80 (by decide) (by omega) (fun h128 => ?_) (fun h128 => ?_)
        · have u129c := xw_c (N := M0) (P := M124) 1 (FR.cell fM124 (by decide)) (by omega)
          have u129t := xw_t (M := M0) (N := M0) (P := M124) (r1 := 0) (e1 := 0) (s1 := 0) (r2 := 0) (e2 := 0) (s2 := 1) 0 0 1 (by decide) (by omega) (by omega)
          have u129a := ca_x (M := M0) (N := M124) (r := 0) (e := 0) (s := 1) (by decide) (by omega) (by omega)
          have u129l := ri_l (M := M124) (by omega)
          refine j_aload_n C 0 0 dX12_readAtom_84 rfl rfl ?_
          refine j_iload_n C 1 1 dX12_readAtom_85 rfl rfl ?_
          refine y_iconst C dX12_readAtom_86 ?_
          refine y_iadd C dX12_readAtom_87 ?_
          refine j_callVv C (d := 24) (As := [.int (sI (0 + 1))]) (st := []) 98 (s_lt rfl rfl) (s_kc (c := 11) rfl rfl) (by decide) rfl (s6_X12_readSum hM124 hpr (by omega) (by omega) (by omega)) gX12_readAtom_X12_readSum rfl hdX12_readSum (by decide) (Nat.le_of_ble_eq_true rfl) dX12_readAtom_88 rfl (fun M131 h132 => ?_)
          obtain ⟨hM131, fM131, h133⟩ := h132
          have u134t := xw_t (M := M0) (N := M124) (P := M131) (r1 := 0) (e1 := 0) (s1 := 1) (r2 := 0) (e2 := 1) (s2 := 0) 0 1 1 (by decide) (by omega) (by omega)
          have u134l := ri_l (M := M131) (by omega)
          refine j_aload_n C 0 0 dX12_readAtom_91 rfl rfl ?_
          refine y_bipush C dX12_readAtom_92 rfl ?_
          refine j_callVi C (d := 6) (As := [.int (sI 36)]) (st := []) 98 (s_lt rfl rfl) (s_kc (c := 11) rfl rfl) (by decide) rfl (s1_X12_eats hM131 hpr 36 (by omega) (by omega) (by omega) (by omega)) gX12_readAtom_X12_eats rfl hdX12_eats (by decide) (Nat.le_of_ble_eq_true rfl) dX12_readAtom_94 rfl (fun r135 M136 h137 => ?_)
          obtain ⟨a139, rfl, hM136, fM136, h138⟩ := h137
          have u140c := xw_c (N := M131) (P := M136) 0 (FR.cell fM136 (by decide)) (by omega)
          have u140t := xw_t (M := M0) (N := M131) (P := M136) (r1 := 0) (e1 := 1) (s1 := 1) (r2 := 0) (e2 := 0) (s2 := 0) 0 1 0 (by decide) (by omega) (by omega)
          have u140a := ca_x (M := M0) (N := M136) (r := 0) (e := 1) (s := 0) (by decide) (by omega) (by omega)
          have u140l := ri_l (M := M136) (by omega)
          refine y_if_ne C 113 dX12_readAtom_97 (by decide) (by omega) (fun h141 => ?_) (fun h141 => ?_)
          · exact hret _ _ _ dX12_readAtom_113 ⟨hM136, (((FR.rf.tr fM124 (by decide)).tr fM131 (by decide)).tr fM136 (by decide)), by omega⟩
          · refine j_aload_n C 0 0 dX12_readAtom_100 rfl rfl ?_
            refine y_iconst C dX12_readAtom_101 ?_
            refine j_callVv C (d := 0) (As := [.int (sI 2)]) (st := []) 98 (s_lt rfl rfl) (s_kc (c := 11) rfl rfl) (by decide) rfl (s1_X12_fails hM136 hpr 2 (by omega) (by omega) (by omega) (by omega)) gX12_readAtom_X12_fails rfl hdX12_fails (by decide) (Nat.le_of_ble_eq_true rfl) dX12_readAtom_102 rfl (fun M144 h145 => ?_)
            obtain ⟨hM144, fM144, h146⟩ := h145
            have u147f : b01 (XW M0 M144 0 1 0) = 1 := b01_i (Or.inl (by omega))
            have u147a := ca_x (M := M0) (N := M144) (r := 0) (e := 1) (s := 0) (by decide) (by omega) (by omega)
            refine j_goto C 113 dX12_readAtom_105 (by decide) ?_
            exact hret _ _ _ dX12_readAtom_113 ⟨hM144, ((((FR.rf.tr fM124 (by decide)).tr fM131 (by decide)).tr fM136 (by decide)).tr fM144 (by decide)), by omega⟩
        · have u149c := xw_c (N := M0) (P := M124) 0 (FR.cell fM124 (by decide)) (by omega)
          have u149f : b01 (XW M0 M124 0 1 0) = 1 := b01_i (Or.inl (by omega))
          have u149a := ca_x (M := M0) (N := M124) (r := 0) (e := 1) (s := 0) (by decide) (by omega) (by omega)
          exact hret _ _ _ dX12_readAtom_83 ⟨hM124, (FR.rf.tr fM124 (by decide)), by omega⟩
    · refine j_aload_n C 0 0 dX12_readAtom_31 rfl rfl ?_
      refine j_aload_n C 0 0 dX12_readAtom_32 rfl rfl ?_
      refine y_getI C 11 _ _ fX12_readAtom_108 rfl rfl ft_11_9 sb_11_9 hM0 dX12_readAtom_33 (fun a151 ea151 la151 ua151 => ?_)
      obtain rfl : a151 = (M0.1 98 9).toInt := ea151
      refine j_callVi C (d := 0) (As := [.int (sI (M0.1 98 9).toInt)]) (st := []) 98 (s_lt rfl rfl) (s_kc (c := 11) rfl rfl) (by decide) rfl (s1_X12_wordOf hM0 (M0.1 98 9).toInt (by omega)) gX12_readAtom_X12_wordOf rfl hdX12_wordOf (by decide) (Nat.le_of_ble_eq_true rfl) dX12_readAtom_36 rfl (fun r153 M154 h155 => ?_)
      obtain ⟨a157, rfl, rfl, h156⟩ := h155
      obtain rfl : a157 = (woF (M0.1 98 9).toInt) := by omega
      refine y_iconst C dX12_readAtom_39 ?_
      refine y_icmp_eq C 66 dX12_readAtom_40 (by decide) (by omega) (fun h158 => ?_) (fun h158 => ?_)
      · refine j_aload_n C 0 0 dX12_readAtom_66 rfl rfl ?_
        refine y_bipush C dX12_readAtom_67 rfl ?_
        refine j_callVi C (d := 0) (As := [.int (sI 35)]) (st := []) 98 (s_lt rfl rfl) (s_kc (c := 11) rfl rfl) (by decide) rfl (s1_X12_is hM0 35 (by omega)) gX12_readAtom_X12_is rfl hdX12_is (by decide) (Nat.le_of_ble_eq_true rfl) dX12_readAtom_69 rfl (fun r159 M160 h161 => ?_)
        obtain ⟨a163, rfl, rfl, h162⟩ := h161
        refine y_if_eq C 108 dX12_readAtom_72 (by decide) (by omega) (fun h164 => ?_) (fun h164 => ?_)
        · refine j_aload_n C 0 0 dX12_readAtom_108 rfl rfl ?_
          refine y_iconst C dX12_readAtom_109 ?_
          refine j_callVv C (d := 0) (As := [.int (sI 2)]) (st := []) 98 (s_lt rfl rfl) (s_kc (c := 11) rfl rfl) (by decide) rfl (s1_X12_fails hM0 hpr 2 (by omega) (by omega) (by omega) (by omega)) gX12_readAtom_X12_fails rfl hdX12_fails (by decide) (Nat.le_of_ble_eq_true rfl) dX12_readAtom_110 rfl (fun M166 h167 => ?_)
          obtain ⟨hM166, fM166, h168⟩ := h167
          have u169f : b01 (XW M0 M166 0 1 0) = 1 := b01_i (Or.inl (by omega))
          have u169a := ca_x (M := M0) (N := M166) (r := 0) (e := 1) (s := 0) (by decide) (by omega) (by omega)
          exact hret _ _ _ dX12_readAtom_113 ⟨hM166, (FR.rf.tr fM166 (by decide)), by omega⟩
        · have u170k := ri_k (M := M0) (by omega) (by omega)
          refine j_aload_n C 0 0 dX12_readAtom_75 rfl rfl ?_
          refine j_iload_n C 1 1 dX12_readAtom_76 rfl rfl ?_
          refine j_callVi C (d := 6) (As := [.int (sI 0)]) (st := []) 98 (s_lt rfl rfl) (s_kc (c := 11) rfl rfl) (by decide) rfl (s1_X12_goesIn hM0 hpr (by omega) (by omega)) gX12_readAtom_X12_goesIn rfl hdX12_goesIn (by decide) (Nat.le_of_ble_eq_true rfl) dX12_readAtom_77 rfl (fun r171 M172 h173 => ?_)
          obtain ⟨a175, rfl, hM172, fM172, h174⟩ := h173
          refine y_if_ne C 84 dX12_readAtom_80 (by decide) (by omega) (fun h176 => ?_) (fun h176 => ?_)
          · have u177c := xw_c (N := M0) (P := M172) 1 (FR.cell fM172 (by decide)) (by omega)
            have u177t := xw_t (M := M0) (N := M0) (P := M172) (r1 := 0) (e1 := 0) (s1 := 0) (r2 := 0) (e2 := 0) (s2 := 1) 0 0 1 (by decide) (by omega) (by omega)
            have u177a := ca_x (M := M0) (N := M172) (r := 0) (e := 0) (s := 1) (by decide) (by omega) (by omega)
            have u177l := ri_l (M := M172) (by omega)
            refine j_aload_n C 0 0 dX12_readAtom_84 rfl rfl ?_
            refine j_iload_n C 1 1 dX12_readAtom_85 rfl rfl ?_
            refine y_iconst C dX12_readAtom_86 ?_
            refine y_iadd C dX12_readAtom_87 ?_
            refine j_callVv C (d := 24) (As := [.int (sI (0 + 1))]) (st := []) 98 (s_lt rfl rfl) (s_kc (c := 11) rfl rfl) (by decide) rfl (s6_X12_readSum hM172 hpr (by omega) (by omega) (by omega)) gX12_readAtom_X12_readSum rfl hdX12_readSum (by decide) (Nat.le_of_ble_eq_true rfl) dX12_readAtom_88 rfl (fun M179 h180 => ?_)
            obtain ⟨hM179, fM179, h181⟩ := h180
            have u182t := xw_t (M := M0) (N := M172) (P := M179) (r1 := 0) (e1 := 0) (s1 := 1) (r2 := 0) (e2 := 1) (s2 := 0) 0 1 1 (by decide) (by omega) (by omega)
            have u182l := ri_l (M := M179) (by omega)
            refine j_aload_n C 0 0 dX12_readAtom_91 rfl rfl ?_
            refine y_bipush C dX12_readAtom_92 rfl ?_
            refine j_callVi C (d := 6) (As := [.int (sI 36)]) (st := []) 98 (s_lt rfl rfl) (s_kc (c := 11) rfl rfl) (by decide) rfl (s1_X12_eats hM179 hpr 36 (by omega) (by omega) (by omega) (by omega)) gX12_readAtom_X12_eats rfl hdX12_eats (by decide) (Nat.le_of_ble_eq_true rfl) dX12_readAtom_94 rfl (fun r183 M184 h185 => ?_)
            obtain ⟨a187, rfl, hM184, fM184, h186⟩ := h185
            have u188c := xw_c (N := M179) (P := M184) 0 (FR.cell fM184 (by decide)) (by omega)
            have u188t := xw_t (M := M0) (N := M179) (P := M184) (r1 := 0) (e1 := 1) (s1 := 1) (r2 := 0) (e2 := 0) (s2 := 0) 0 1 0 (by decide) (by omega) (by omega)
            have u188a := ca_x (M := M0) (N := M184) (r := 0) (e := 1) (s := 0) (by decide) (by omega) (by omega)
            have u188l := ri_l (M := M184) (by omega)
            refine y_if_ne C 113 dX12_readAtom_97 (by decide) (by omega) (fun h189 => ?_) (fun h189 => ?_)
            · exact hret _ _ _ dX12_readAtom_113 ⟨hM184, (((FR.rf.tr fM172 (by decide)).tr fM179 (by decide)).tr fM184 (by decide)), by omega⟩
            · refine j_aload_n C 0 0 dX12_readAtom_100 rfl rfl ?_
              refine y_iconst C dX12_readAtom_101 ?_
              refine j_callVv C (d := 0) (As := [.int (sI 2)]) (st := []) 98 (s_lt rfl rfl) (s_kc (c := 11) rfl rfl) (by decide) rfl (s1_X12_fails hM184 hpr 2 (by omega) (by omega) (by omega) (by omega)) gX12_readAtom_X12_fails rfl hdX12_fails (by decide) (Nat.le_of_ble_eq_true rfl) dX12_readAtom_102 rfl (fun M192 h193 => ?_)
              obtain ⟨hM192, fM192, h194⟩ := h193
              have u195f : b01 (XW M0 M192 0 1 0) = 1 := b01_i (Or.inl (by omega))
              have u195a := ca_x (M := M0) (N := M192) (r := 0) (e := 1) (s := 0) (by decide) (by omega) (by omega)
              refine j_goto C 113 dX12_readAtom_105 (by decide) ?_
              exact hret _ _ _ dX12_readAtom_113 ⟨hM192, ((((FR.rf.tr fM172 (by decide)).tr fM179 (by decide)).tr fM184 (by decide)).tr fM192 (by decide)), by omega⟩
          · have u197c := xw_c (N := M0) (P := M172) 0 (FR.cell fM172 (by decide)) (by omega)
            have u197f : b01 (XW M0 M172 0 1 0) = 1 := b01_i (Or.inl (by omega))
            have u197a := ca_x (M := M0) (N := M172) (r := 0) (e := 1) (s := 0) (by decide) (by omega) (by omega)
            exact hret _ _ _ dX12_readAtom_83 ⟨hM172, (FR.rf.tr fM172 (by decide)), by omega⟩
      · have u199w := woF_s (M0.1 98 9).toInt
        have u199k := ri_k (M := M0) (by omega) (by omega)
        have u199b := cb_0 (M := M0) (by omega) (by omega)
        refine j_aload_n C 0 0 dX12_readAtom_43 rfl rfl ?_
        refine y_sipush C dX12_readAtom_44 rfl ?_
        refine j_aload_n C 0 0 dX12_readAtom_47 rfl rfl ?_
        refine j_aload_n C 0 0 dX12_readAtom_48 rfl rfl ?_
        refine y_getI C 11 _ _ fX12_readAtom_108 rfl rfl ft_11_9 sb_11_9 hM0 dX12_readAtom_49 (fun a200 ea200 la200 ua200 => ?_)
        obtain rfl : a200 = (M0.1 98 9).toInt := ea200
        refine j_callVi C (d := 0) (As := [.int (sI (M0.1 98 9).toInt)]) (st := [.int (sI 1000), .ref (ad 98)]) 98 (s_lt rfl rfl) (s_kc (c := 11) rfl rfl) (by decide) rfl (s1_X12_wordOf hM0 (M0.1 98 9).toInt (by omega)) gX12_readAtom_X12_wordOf rfl hdX12_wordOf (by decide) (Nat.le_of_ble_eq_true rfl) dX12_readAtom_52 rfl (fun r202 M203 h204 => ?_)
        obtain ⟨a206, rfl, rfl, h205⟩ := h204
        obtain rfl : a206 = (woF (M0.1 98 9).toInt) := by omega
        refine y_iadd C dX12_readAtom_55 ?_
        refine j_callVv C (d := 0) (As := [.int (sI (1000 + (woF (M0.1 98 9).toInt)))]) (st := []) 98 (s_lt rfl rfl) (s_kc (c := 11) rfl rfl) (by decide) rfl (s1_X12_codes hM0 hpr (1000 + (woF (M0.1 98 9).toInt)) (by omega) (by omega) (by omega)) gX12_readAtom_X12_codes rfl hdX12_codes (by decide) (Nat.le_of_ble_eq_true rfl) dX12_readAtom_56 rfl (fun M208 h209 => ?_)
        obtain ⟨hM208, fM208, h210⟩ := h209
        have u211x := xw_a (M := M0) (N := M208) (c := (1000 + (woF (M0.1 98 9).toInt))) (r := 0) (e := 1) (FR.cell fM208 (by decide)) (ap_push ⟨(INV.rd hM0 (i := 102) (c := 48) (k := 280) rfl rfl).1, by omega, by omega⟩) (by omega)
        have u211t := xw_t (M := M0) (N := M0) (P := M208) (r1 := 0) (e1 := 0) (s1 := 0) (r2 := 0) (e2 := 1) (s2 := (-1)) 0 1 (-1) (by decide) (by omega) (by omega)
        have u211i := ri_c (M := M0) (N := M208) (FR.cell fM208 (by decide)) (by omega)
        have u211l := ri_l (M := M208) (by omega)
        have u211q6 : (M208.1 98 6).toInt = (M0.1 98 6).toInt := by rw [show M208.1 98 = M0.1 98 from FR.cell fM208 (by decide)]
        have u211q7 : (M208.1 98 7).toInt = (M0.1 98 7).toInt := by rw [show M208.1 98 = M0.1 98 from FR.cell fM208 (by decide)]
        have u211q8 : (M208.1 98 8).toInt = (M0.1 98 8).toInt := by rw [show M208.1 98 = M0.1 98 from FR.cell fM208 (by decide)]
        have u211q9 : (M208.1 98 9).toInt = (M0.1 98 9).toInt := by rw [show M208.1 98 = M0.1 98 from FR.cell fM208 (by decide)]
        have u211q11 : (M208.1 98 11).toInt = (M0.1 98 11).toInt := by rw [show M208.1 98 = M0.1 98 from FR.cell fM208 (by decide)]
        refine j_aload_n C 0 0 dX12_readAtom_59 rfl rfl ?_
        have zz98_7 : (M208.1 98 7).toInt = (M0.1 98 7).toInt := s_fF fM208 (by decide) (rfl)
        have zz98_8 : (M208.1 98 8).toInt = (M0.1 98 8).toInt := s_fF fM208 (by decide) (rfl)
        refine j_callVv C (d := 5) (As := []) (st := []) 98 (s_lt rfl rfl) (s_kc (c := 11) rfl rfl) (by decide) rfl (s1_X12_next hM208 hpr (by omega) (by omega) (by omega)) gX12_readAtom_X12_next rfl hdX12_next (by decide) (Nat.le_of_ble_eq_true rfl) dX12_readAtom_60 rfl (fun M213 h214 => ?_)
        obtain ⟨hM213, fM213, h215⟩ := h214
        have u216c := xw_c (N := M208) (P := M213) 1 (FR.cell fM213 (by decide)) (by omega)
        have u216t := xw_t (M := M0) (N := M208) (P := M213) (r1 := 0) (e1 := 1) (s1 := (-1)) (r2 := 0) (e2 := 0) (s2 := 1) 0 1 0 (by decide) (by omega) (by omega)
        have u216a := ca_x (M := M0) (N := M213) (r := 0) (e := 1) (s := 0) (by decide) (by omega) (by omega)
        refine j_goto C 113 dX12_readAtom_63 (by decide) ?_
        exact hret _ _ _ dX12_readAtom_113 ⟨hM213, ((FR.rf.tr fM208 (by decide)).tr fM213 (by decide)), by omega⟩
  · have u218k := ri_k (M := M0) (by omega) (by omega)
    have u218b := cb_0 (M := M0) (by omega) (by omega)
    refine j_aload_n C 0 0 dX12_readAtom_9 rfl rfl ?_
    refine j_aload_n C 0 0 dX12_readAtom_10 rfl rfl ?_
    refine y_getI C 11 _ _ fX12_readAtom_121 rfl rfl ft_11_10 sb_11_10 hM0 dX12_readAtom_11 (fun a219 ea219 la219 ua219 => ?_)
    obtain rfl : a219 = (M0.1 98 10).toInt := ea219
    refine j_callVv C (d := 0) (As := [.int (sI (M0.1 98 10).toInt)]) (st := []) 98 (s_lt rfl rfl) (s_kc (c := 11) rfl rfl) (by decide) rfl (s1_X12_codes hM0 hpr (M0.1 98 10).toInt (by omega) (by omega) (by omega)) gX12_readAtom_X12_codes rfl hdX12_codes (by decide) (Nat.le_of_ble_eq_true rfl) dX12_readAtom_14 rfl (fun M222 h223 => ?_)
    obtain ⟨hM222, fM222, h224⟩ := h223
    have u225x := xw_a (M := M0) (N := M222) (c := (M0.1 98 10).toInt) (r := 0) (e := 1) (FR.cell fM222 (by decide)) (ap_push ⟨(INV.rd hM0 (i := 102) (c := 48) (k := 280) rfl rfl).1, by omega, by omega⟩) (by omega)
    have u225t := xw_t (M := M0) (N := M0) (P := M222) (r1 := 0) (e1 := 0) (s1 := 0) (r2 := 0) (e2 := 1) (s2 := (-1)) 0 1 (-1) (by decide) (by omega) (by omega)
    have u225i := ri_c (M := M0) (N := M222) (FR.cell fM222 (by decide)) (by omega)
    have u225l := ri_l (M := M222) (by omega)
    have u225q6 : (M222.1 98 6).toInt = (M0.1 98 6).toInt := by rw [show M222.1 98 = M0.1 98 from FR.cell fM222 (by decide)]
    have u225q7 : (M222.1 98 7).toInt = (M0.1 98 7).toInt := by rw [show M222.1 98 = M0.1 98 from FR.cell fM222 (by decide)]
    have u225q8 : (M222.1 98 8).toInt = (M0.1 98 8).toInt := by rw [show M222.1 98 = M0.1 98 from FR.cell fM222 (by decide)]
    have u225q9 : (M222.1 98 9).toInt = (M0.1 98 9).toInt := by rw [show M222.1 98 = M0.1 98 from FR.cell fM222 (by decide)]
    have u225q11 : (M222.1 98 11).toInt = (M0.1 98 11).toInt := by rw [show M222.1 98 = M0.1 98 from FR.cell fM222 (by decide)]
    refine j_aload_n C 0 0 dX12_readAtom_17 rfl rfl ?_
    have zz98_7 : (M222.1 98 7).toInt = (M0.1 98 7).toInt := s_fF fM222 (by decide) (rfl)
    have zz98_8 : (M222.1 98 8).toInt = (M0.1 98 8).toInt := s_fF fM222 (by decide) (rfl)
    refine j_callVv C (d := 5) (As := []) (st := []) 98 (s_lt rfl rfl) (s_kc (c := 11) rfl rfl) (by decide) rfl (s1_X12_next hM222 hpr (by omega) (by omega) (by omega)) gX12_readAtom_X12_next rfl hdX12_next (by decide) (Nat.le_of_ble_eq_true rfl) dX12_readAtom_18 rfl (fun M227 h228 => ?_)
    obtain ⟨hM227, fM227, h229⟩ := h228
    have u230c := xw_c (N := M222) (P := M227) 1 (FR.cell fM227 (by decide)) (by omega)
    have u230t := xw_t (M := M0) (N := M222) (P := M227) (r1 := 0) (e1 := 1) (s1 := (-1)) (r2 := 0) (e2 := 0) (s2 := 1) 0 1 0 (by decide) (by omega) (by omega)
    have u230a := ca_x (M := M0) (N := M227) (r := 0) (e := 1) (s := 0) (by decide) (by omega) (by omega)
    refine j_goto C 113 dX12_readAtom_21 (by decide) ?_
    exact hret _ _ _ dX12_readAtom_113 ⟨hM227, ((FR.rf.tr fM222 (by decide)).tr fM227 (by decide)), by omega⟩
set_option maxHeartbeats 4000000 in
theorem s7_X12_readTerm {l : Launch} {dC : Nat → ClassId} {dI : Nat → Nat → Nat} {ad : Nat → Nat} {cA : Nat → ClassId} {pr : Nat → Nat → Bool} {Kz : mm_M} {M0 : mm_M} (hM0 : INV pr Kz M0) (hpr : PM pr)  (hp0 : b01 (RIP M0) = 1) (hp1 : b01 (CA M0) = 1) (hp2 : b01 (PI M0) = 1) : Cv l 26 yX12_readTerm wsX12_readTerm dC dI ad cA [.ref (ad 98), .int (sI 0)] M0 (fun M' => INV pr Kz M' ∧ FR [98, 102] M0 M' ∧ (b01 (RIP M') = 1) ∧ ((M'.1 98 8).toInt = (M0.1 98 8).toInt) ∧ ((M0.1 98 6).toInt ≤ (M'.1 98 6).toInt) ∧ (b01 (XW M0 M' 0 1 0) = 1) ∧ (b01 (CA M') = 1) ∧ (b01 (PI M') = 1)) := by
  refine cv_of (cc := cX12_readTerm) (maxL := 2) (lv := [(0, .ref (ad 98)), (1, .int (sI 0))]) (by decide) rfl (Nat.le_of_ble_eq_true rfl) rfl ?_
  intro p e s m args below meth c A Q C hret
  have u101z := xw_0 M0
  have u101l := ri_l (M := M0) (by omega)
  refine j_aload_n C 0 0 dX12_readTerm_0 rfl rfl ?_
  refine j_iload_n C 1 1 dX12_readTerm_1 rfl rfl ?_
  refine j_callVv C (d := 25) (As := [.int (sI 0)]) (st := []) 98 (s_lt rfl rfl) (s_kc (c := 11) rfl rfl) (by decide) rfl (s7_X12_readAtom hM0 hpr (by omega) (by omega) (by omega)) gX12_readTerm_X12_readAtom rfl hdX12_readAtom (by decide) (Nat.le_of_ble_eq_true rfl) dX12_readTerm_2 rfl (fun M103 h104 => ?_)
  obtain ⟨hM103, fM103, h105⟩ := h104
  have u106l := ri_l (M := M103) (by omega)
  have L128 : ∀ (n126 : Nat), ∀ (M129 : mm_M), ((b01 (RIP M129) = 1) ∧ ((M129.1 98 8).toInt = (M0.1 98 8).toInt) ∧ ((M0.1 98 6).toInt ≤ (M129.1 98 6).toInt) ∧ (b01 (XW M0 M129 0 1 0) = 1) ∧ ((M129.1 98 6).toInt ≤ 900) ∧ (b01 (PI M129) = 1) ∧ (900 - (M129.1 98 6).toInt) < (n126 : Int)) → INV pr Kz M129 → FR [98, 102] M0 M129 → jj p l e (cn_R 26) s m args below meth c 0 0 Q 2 dC dI ad cA A M129 5 [(0, .ref (ad 98)), (1, .int (sI 0))] [] := by
    intro n126
    induction n126 with
    | zero =>
      intro M129 h130 hM129 fM129
      exfalso; omega
    | succ n126 ih127 =>
      intro M129 h130 hM129 fM129
      have u131l := ri_l (M := M129) (by omega)
      refine j_aload_n C 0 0 dX12_readTerm_5 rfl rfl ?_
      refine y_bipush C dX12_readTerm_6 rfl ?_
      refine j_callVi C (d := 6) (As := [.int (sI 34)]) (st := []) 98 (s_lt rfl rfl) (s_kc (c := 11) rfl rfl) (by decide) rfl (s1_X12_eats hM129 hpr 34 (by omega) (by omega) (by omega) (by omega)) gX12_readTerm_X12_eats rfl hdX12_eats (by decide) (Nat.le_of_ble_eq_true rfl) dX12_readTerm_8 rfl (fun r132 M133 h134 => ?_)
      obtain ⟨a136, rfl, hM133, fM133, h135⟩ := h134
      refine y_if_eq C 29 dX12_readTerm_11 (by decide) (by omega) (fun h137 => ?_) (fun h137 => ?_)
      · have u149c := xw_c (N := M129) (P := M133) 0 (FR.cell fM133 (by decide)) (by omega)
        have u149t := xw_t (M := M0) (N := M129) (P := M133) (r1 := 0) (e1 := 1) (s1 := 0) (r2 := 0) (e2 := 0) (s2 := 0) 0 1 0 (by decide) (by omega) (by omega)
        have u149a := ca_x (M := M0) (N := M133) (r := 0) (e := 1) (s := 0) (by decide) (by omega) (by omega)
        exact hret _ _ _ dX12_readTerm_29 ⟨hM133, ((FR.rf.tr fM129 (by decide)).tr fM133 (by decide)), by omega⟩
      · have u138c := xw_c (N := M129) (P := M133) 1 (FR.cell fM133 (by decide)) (by omega)
        have u138t := xw_t (M := M0) (N := M129) (P := M133) (r1 := 0) (e1 := 1) (s1 := 0) (r2 := 0) (e2 := 0) (s2 := 1) 0 1 1 (by decide) (by omega) (by omega)
        have u138a := ca_x (M := M0) (N := M133) (r := 0) (e := 1) (s := 1) (by decide) (by omega) (by omega)
        have u138l := ri_l (M := M133) (by omega)
        refine j_aload_n C 0 0 dX12_readTerm_14 rfl rfl ?_
        refine j_iload_n C 1 1 dX12_readTerm_15 rfl rfl ?_
        refine j_callVv C (d := 25) (As := [.int (sI 0)]) (st := []) 98 (s_lt rfl rfl) (s_kc (c := 11) rfl rfl) (by decide) rfl (s7_X12_readAtom hM133 hpr (by omega) (by omega) (by omega)) gX12_readTerm_X12_readAtom rfl hdX12_readAtom (by decide) (Nat.le_of_ble_eq_true rfl) dX12_readTerm_16 rfl (fun M140 h141 => ?_)
        obtain ⟨hM140, fM140, h142⟩ := h141
        have u143t := xw_t (M := M0) (N := M133) (P := M140) (r1 := 0) (e1 := 1) (s1 := 1) (r2 := 0) (e2 := 1) (s2 := 0) 0 2 1 (by decide) (by omega) (by omega)
        have u143l := ri_l (M := M140) (by omega)
        have u143b := cb_x (M := M0) (N := M140) (r := 0) (e := 2) (s := 1) (by decide) (by omega) (by omega) (by omega)
        refine j_aload_n C 0 0 dX12_readTerm_19 rfl rfl ?_
        refine y_sipush C dX12_readTerm_20 rfl ?_
        refine j_callVv C (d := 0) (As := [.int (sI 3002)]) (st := []) 98 (s_lt rfl rfl) (s_kc (c := 11) rfl rfl) (by decide) rfl (s1_X12_codes hM140 hpr 3002 (by omega) (by omega) (by omega)) gX12_readTerm_X12_codes rfl hdX12_codes (by decide) (Nat.le_of_ble_eq_true rfl) dX12_readTerm_23 rfl (fun M145 h146 => ?_)
        obtain ⟨hM145, fM145, h147⟩ := h146
        refine j_goto C 5 dX12_readTerm_26 (by decide) ?_
        have u148x := xw_a (M := M140) (N := M145) (c := 3002) (r := 2) (e := (-1)) (FR.cell fM145 (by decide)) (ap_bin ⟨(INV.rd hM140 (i := 102) (c := 48) (k := 280) rfl rfl).1, by omega, by omega⟩) (by omega)
        have u148t := xw_t (M := M0) (N := M140) (P := M145) (r1 := 0) (e1 := 2) (s1 := 1) (r2 := 2) (e2 := (-1)) (s2 := (-1)) 0 1 0 (by decide) (by omega) (by omega)
        have u148i := ri_c (M := M140) (N := M145) (FR.cell fM145 (by decide)) (by omega)
        have u148l := ri_l (M := M145) (by omega)
        have zz98_8 : (M145.1 98 8).toInt = (M140.1 98 8).toInt := s_fF fM145 (by decide) (rfl); have zz98_6 : (M145.1 98 6).toInt = (M140.1 98 6).toInt := s_fF fM145 (by decide) (rfl); exact ih127 M145 (by omega) hM145 ((((FR.rf.tr fM129 (by decide)).tr fM133 (by decide)).tr fM140 (by decide)).tr fM145 (by decide))
  exact L128 2010 M103 (by omega) hM103 (FR.rf.tr fM103 (by decide))
set_option maxHeartbeats 4000000 in
theorem s7_X12_readSum {l : Launch} {dC : Nat → ClassId} {dI : Nat → Nat → Nat} {ad : Nat → Nat} {cA : Nat → ClassId} {pr : Nat → Nat → Bool} {Kz : mm_M} {M0 : mm_M} (hM0 : INV pr Kz M0) (hpr : PM pr)  (hp0 : b01 (RIP M0) = 1) (hp1 : b01 (CA M0) = 1) (hp2 : b01 (PI M0) = 1) : Cv l 27 yX12_readSum wsX12_readSum dC dI ad cA [.ref (ad 98), .int (sI 0)] M0 (fun M' => INV pr Kz M' ∧ FR [98, 102] M0 M' ∧ (b01 (RIP M') = 1) ∧ ((M'.1 98 8).toInt = (M0.1 98 8).toInt) ∧ ((M0.1 98 6).toInt ≤ (M'.1 98 6).toInt) ∧ (b01 (XW M0 M' 0 1 0) = 1) ∧ (b01 (CA M') = 1) ∧ (b01 (PI M') = 1)) := by
  refine cv_of (cc := cX12_readSum) (maxL := 3) (lv := [(0, .ref (ad 98)), (1, .int (sI 0))]) (by decide) rfl (Nat.le_of_ble_eq_true rfl) rfl ?_
  intro p e s m args below meth c A Q C hret
  have u101z := xw_0 M0
  have u101l := ri_l (M := M0) (by omega)
  refine j_aload_n C 0 0 dX12_readSum_0 rfl rfl ?_
  refine j_iload_n C 1 1 dX12_readSum_1 rfl rfl ?_
  refine j_callVv C (d := 26) (As := [.int (sI 0)]) (st := []) 98 (s_lt rfl rfl) (s_kc (c := 11) rfl rfl) (by decide) rfl (s7_X12_readTerm hM0 hpr (by omega) (by omega) (by omega)) gX12_readSum_X12_readTerm rfl hdX12_readTerm (by decide) (Nat.le_of_ble_eq_true rfl) dX12_readSum_2 rfl (fun M103 h104 => ?_)
  obtain ⟨hM103, fM103, h105⟩ := h104
  have u106l := ri_l (M := M103) (by omega)
  have L167 : ∀ (n165 : Nat), ∀ (M168 : mm_M), ((b01 (RIP M168) = 1) ∧ ((M168.1 98 8).toInt = (M0.1 98 8).toInt) ∧ ((M0.1 98 6).toInt ≤ (M168.1 98 6).toInt) ∧ (b01 (XW M0 M168 0 1 0) = 1) ∧ ((M168.1 98 6).toInt ≤ 900) ∧ (b01 (PI M168) = 1) ∧ (900 - (M168.1 98 6).toInt) < (n165 : Int)) → INV pr Kz M168 → FR [98, 102] M0 M168 → jj p l e (cn_R 27) s m args below meth c 0 0 Q 3 dC dI ad cA A M168 5 [(0, .ref (ad 98)), (1, .int (sI 0))] [] := by
    intro n165
    induction n165 with
    | zero =>
      intro M168 h169 hM168 fM168
      exfalso; omega
    | succ n165 ih166 =>
      intro M168 h169 hM168 fM168
      have u170l := ri_l (M := M168) (by omega)
      refine j_aload_n C 0 0 dX12_readSum_5 rfl rfl ?_
      refine y_bipush C dX12_readSum_6 rfl ?_
      refine j_callVi C (d := 0) (As := [.int (sI 32)]) (st := []) 98 (s_lt rfl rfl) (s_kc (c := 11) rfl rfl) (by decide) rfl (s1_X12_is hM168 32 (by omega)) gX12_readSum_X12_is rfl hdX12_is (by decide) (Nat.le_of_ble_eq_true rfl) dX12_readSum_8 rfl (fun r171 M172 h173 => ?_)
      obtain ⟨a175, rfl, rfl, h174⟩ := h173
      refine y_if_ne C 23 dX12_readSum_11 (by decide) (by omega) (fun h176 => ?_) (fun h176 => ?_)
      · refine j_aload_n C 0 0 dX12_readSum_23 rfl rfl ?_
        refine y_getI C 11 _ _ fX12_readSum_108 rfl rfl ft_11_9 sb_11_9 hM168 dX12_readSum_24 (fun a177 ea177 la177 ua177 => ?_)
        obtain rfl : a177 = (M168.1 98 9).toInt := ea177
        refine y_bipush C dX12_readSum_27 rfl ?_
        have J181 : ∀ (a180 : Int), (3000 ≤ a180 ∧ a180 ≤ 3001) → jj p l e (cn_R 27) s m args below meth c 0 0 Q 3 dC dI ad cA A M168 41 [(0, .ref (ad 98)), (1, .int (sI 0))] [.int (sI a180)] := by
          intro a180 h182
          refine j_istore_n C 2 [(2, .int (sI a180)), (0, .ref (ad 98)), (1, .int (sI 0))] dX12_readSum_41 rfl (by decide) rfl ?_
          have u183k := ri_k (M := M168) (by omega) (by omega)
          refine j_aload_n C 1 0 dX12_readSum_42 rfl rfl ?_
          refine j_callVv C (d := 5) (As := []) (st := []) 98 (s_lt rfl rfl) (s_kc (c := 11) rfl rfl) (by decide) rfl (s1_X12_next hM168 hpr (by omega) (by omega) (by omega)) gX12_readSum_X12_next rfl hdX12_next (by decide) (Nat.le_of_ble_eq_true rfl) dX12_readSum_43 rfl (fun M185 h186 => ?_)
          obtain ⟨hM185, fM185, h187⟩ := h186
          have u188c := xw_c (N := M168) (P := M185) 1 (FR.cell fM185 (by decide)) (by omega)
          have u188t := xw_t (M := M0) (N := M168) (P := M185) (r1 := 0) (e1 := 1) (s1 := 0) (r2 := 0) (e2 := 0) (s2 := 1) 0 1 1 (by decide) (by omega) (by omega)
          have u188a := ca_x (M := M0) (N := M185) (r := 0) (e := 1) (s := 1) (by decide) (by omega) (by omega)
          have u188l := ri_l (M := M185) (by omega)
          refine j_aload_n C 1 0 dX12_readSum_46 rfl rfl ?_
          refine j_iload_n C 2 1 dX12_readSum_47 rfl rfl ?_
          refine j_callVv C (d := 26) (As := [.int (sI 0)]) (st := []) 98 (s_lt rfl rfl) (s_kc (c := 11) rfl rfl) (by decide) rfl (s7_X12_readTerm hM185 hpr (by omega) (by omega) (by omega)) gX12_readSum_X12_readTerm rfl hdX12_readTerm (by decide) (Nat.le_of_ble_eq_true rfl) dX12_readSum_48 rfl (fun M190 h191 => ?_)
          obtain ⟨hM190, fM190, h192⟩ := h191
          have u193t := xw_t (M := M0) (N := M185) (P := M190) (r1 := 0) (e1 := 1) (s1 := 1) (r2 := 0) (e2 := 1) (s2 := 0) 0 2 1 (by decide) (by omega) (by omega)
          have u193l := ri_l (M := M190) (by omega)
          have u193b := cb_x (M := M0) (N := M190) (r := 0) (e := 2) (s := 1) (by decide) (by omega) (by omega) (by omega)
          refine j_aload_n C 1 0 dX12_readSum_51 rfl rfl ?_
          refine j_iload_n C 0 2 dX12_readSum_52 rfl rfl ?_
          refine j_callVv C (d := 0) (As := [.int (sI a180)]) (st := []) 98 (s_lt rfl rfl) (s_kc (c := 11) rfl rfl) (by decide) rfl (s1_X12_codes hM190 hpr a180 (by omega) (by omega) (by omega)) gX12_readSum_X12_codes rfl hdX12_codes (by decide) (Nat.le_of_ble_eq_true rfl) dX12_readSum_53 rfl (fun M195 h196 => ?_)
          obtain ⟨hM195, fM195, h197⟩ := h196
          refine j_goto C 5 dX12_readSum_56 (by decide) ?_
          have u198x := xw_a (M := M190) (N := M195) (c := a180) (r := 2) (e := (-1)) (FR.cell fM195 (by decide)) (ap_bin ⟨(INV.rd hM190 (i := 102) (c := 48) (k := 280) rfl rfl).1, by omega, by omega⟩) (by omega)
          have u198t := xw_t (M := M0) (N := M190) (P := M195) (r1 := 0) (e1 := 2) (s1 := 1) (r2 := 2) (e2 := (-1)) (s2 := (-1)) 0 1 0 (by decide) (by omega) (by omega)
          have u198i := ri_c (M := M190) (N := M195) (FR.cell fM195 (by decide)) (by omega)
          have u198l := ri_l (M := M195) (by omega)
          have zz98_8 : (M195.1 98 8).toInt = (M190.1 98 8).toInt := s_fF fM195 (by decide) (rfl); have zz98_6 : (M195.1 98 6).toInt = (M190.1 98 6).toInt := s_fF fM195 (by decide) (rfl); refine j_lv [1, 2] rfl ?_; exact ih166 M195 (by omega) hM195 ((((FR.rf.tr fM168 (by decide)).tr fM185 (by decide)).tr fM190 (by decide)).tr fM195 (by decide))
        refine y_icmp_ne C 38 dX12_readSum_29 (by decide) (by omega) (fun h179 => ?_) (fun h179 => ?_)
        · refine y_sipush C dX12_readSum_38 rfl ?_
          exact J181 3001 (by omega)
        · refine y_sipush C dX12_readSum_32 rfl ?_
          refine j_goto C 41 dX12_readSum_35 (by decide) ?_
          exact J181 3000 (by omega)
      · refine j_aload_n C 0 0 dX12_readSum_14 rfl rfl ?_
        refine y_bipush C dX12_readSum_15 rfl ?_
        refine j_callVi C (d := 0) (As := [.int (sI 33)]) (st := []) 98 (s_lt rfl rfl) (s_kc (c := 11) rfl rfl) (by decide) rfl (s1_X12_is hM168 33 (by omega)) gX12_readSum_X12_is rfl hdX12_is (by decide) (Nat.le_of_ble_eq_true rfl) dX12_readSum_17 rfl (fun r199 M200 h201 => ?_)
        obtain ⟨a203, rfl, rfl, h202⟩ := h201
        refine y_if_eq C 59 dX12_readSum_20 (by decide) (by omega) (fun h204 => ?_) (fun h204 => ?_)
        · have u227a := ca_x (M := M0) (N := M168) (r := 0) (e := 1) (s := 0) (by decide) (by omega) (by omega)
          exact hret _ _ _ dX12_readSum_59 ⟨hM168, (FR.rf.tr fM168 (by decide)), by omega⟩
        · refine j_aload_n C 0 0 dX12_readSum_23 rfl rfl ?_
          refine y_getI C 11 _ _ fX12_readSum_108 rfl rfl ft_11_9 sb_11_9 hM168 dX12_readSum_24 (fun a205 ea205 la205 ua205 => ?_)
          obtain rfl : a205 = (M168.1 98 9).toInt := ea205
          refine y_bipush C dX12_readSum_27 rfl ?_
          have J209 : ∀ (a208 : Int), (3000 ≤ a208 ∧ a208 ≤ 3001) → jj p l e (cn_R 27) s m args below meth c 0 0 Q 3 dC dI ad cA A M168 41 [(0, .ref (ad 98)), (1, .int (sI 0))] [.int (sI a208)] := by
            intro a208 h210
            refine j_istore_n C 2 [(2, .int (sI a208)), (0, .ref (ad 98)), (1, .int (sI 0))] dX12_readSum_41 rfl (by decide) rfl ?_
            have u211k := ri_k (M := M168) (by omega) (by omega)
            refine j_aload_n C 1 0 dX12_readSum_42 rfl rfl ?_
            refine j_callVv C (d := 5) (As := []) (st := []) 98 (s_lt rfl rfl) (s_kc (c := 11) rfl rfl) (by decide) rfl (s1_X12_next hM168 hpr (by omega) (by omega) (by omega)) gX12_readSum_X12_next rfl hdX12_next (by decide) (Nat.le_of_ble_eq_true rfl) dX12_readSum_43 rfl (fun M213 h214 => ?_)
            obtain ⟨hM213, fM213, h215⟩ := h214
            have u216c := xw_c (N := M168) (P := M213) 1 (FR.cell fM213 (by decide)) (by omega)
            have u216t := xw_t (M := M0) (N := M168) (P := M213) (r1 := 0) (e1 := 1) (s1 := 0) (r2 := 0) (e2 := 0) (s2 := 1) 0 1 1 (by decide) (by omega) (by omega)
            have u216a := ca_x (M := M0) (N := M213) (r := 0) (e := 1) (s := 1) (by decide) (by omega) (by omega)
            have u216l := ri_l (M := M213) (by omega)
            refine j_aload_n C 1 0 dX12_readSum_46 rfl rfl ?_
            refine j_iload_n C 2 1 dX12_readSum_47 rfl rfl ?_
            refine j_callVv C (d := 26) (As := [.int (sI 0)]) (st := []) 98 (s_lt rfl rfl) (s_kc (c := 11) rfl rfl) (by decide) rfl (s7_X12_readTerm hM213 hpr (by omega) (by omega) (by omega)) gX12_readSum_X12_readTerm rfl hdX12_readTerm (by decide) (Nat.le_of_ble_eq_true rfl) dX12_readSum_48 rfl (fun M218 h219 => ?_)
            obtain ⟨hM218, fM218, h220⟩ := h219
            have u221t := xw_t (M := M0) (N := M213) (P := M218) (r1 := 0) (e1 := 1) (s1 := 1) (r2 := 0) (e2 := 1) (s2 := 0) 0 2 1 (by decide) (by omega) (by omega)
            have u221l := ri_l (M := M218) (by omega)
            have u221b := cb_x (M := M0) (N := M218) (r := 0) (e := 2) (s := 1) (by decide) (by omega) (by omega) (by omega)
            refine j_aload_n C 1 0 dX12_readSum_51 rfl rfl ?_
            refine j_iload_n C 0 2 dX12_readSum_52 rfl rfl ?_
            refine j_callVv C (d := 0) (As := [.int (sI a208)]) (st := []) 98 (s_lt rfl rfl) (s_kc (c := 11) rfl rfl) (by decide) rfl (s1_X12_codes hM218 hpr a208 (by omega) (by omega) (by omega)) gX12_readSum_X12_codes rfl hdX12_codes (by decide) (Nat.le_of_ble_eq_true rfl) dX12_readSum_53 rfl (fun M223 h224 => ?_)
            obtain ⟨hM223, fM223, h225⟩ := h224
            refine j_goto C 5 dX12_readSum_56 (by decide) ?_
            have u226x := xw_a (M := M218) (N := M223) (c := a208) (r := 2) (e := (-1)) (FR.cell fM223 (by decide)) (ap_bin ⟨(INV.rd hM218 (i := 102) (c := 48) (k := 280) rfl rfl).1, by omega, by omega⟩) (by omega)
            have u226t := xw_t (M := M0) (N := M218) (P := M223) (r1 := 0) (e1 := 2) (s1 := 1) (r2 := 2) (e2 := (-1)) (s2 := (-1)) 0 1 0 (by decide) (by omega) (by omega)
            have u226i := ri_c (M := M218) (N := M223) (FR.cell fM223 (by decide)) (by omega)
            have u226l := ri_l (M := M223) (by omega)
            have zz98_8 : (M223.1 98 8).toInt = (M218.1 98 8).toInt := s_fF fM223 (by decide) (rfl); have zz98_6 : (M223.1 98 6).toInt = (M218.1 98 6).toInt := s_fF fM223 (by decide) (rfl); refine j_lv [1, 2] rfl ?_; exact ih166 M223 (by omega) hM223 ((((FR.rf.tr fM168 (by decide)).tr fM213 (by decide)).tr fM218 (by decide)).tr fM223 (by decide))
          refine y_icmp_ne C 38 dX12_readSum_29 (by decide) (by omega) (fun h207 => ?_) (fun h207 => ?_)
          · refine y_sipush C dX12_readSum_38 rfl ?_
            exact J209 3001 (by omega)
          · refine y_sipush C dX12_readSum_32 rfl ?_
            refine j_goto C 41 dX12_readSum_35 (by decide) ?_
            exact J209 3000 (by omega)
  exact L167 2010 M103 (by omega) hM103 (FR.rf.tr fM103 (by decide))
set_option maxHeartbeats 4000000 in
theorem s1_X12_readUnit {l : Launch} {dC : Nat → ClassId} {dI : Nat → Nat → Nat} {ad : Nat → Nat} {cA : Nat → ClassId} {pr : Nat → Nat → Bool} {Kz : mm_M} {M0 : mm_M} (hM0 : INV pr Kz M0) (hpr : PM pr)  (hp0 : b01 (RIP M0) = 1) (hp1 : b01 (CA M0) = 1) (hp2 : b01 (PI M0) = 1) : Cv l 10 yX12_readUnit wsX12_readUnit dC dI ad cA [.ref (ad 98), .int (sI 6)] M0 (fun M' => INV pr Kz M' ∧ FR [98, 102] M0 M' ∧ (b01 (RIP M') = 1) ∧ ((M'.1 98 8).toInt = (M0.1 98 8).toInt) ∧ ((M0.1 98 6).toInt ≤ (M'.1 98 6).toInt) ∧ (b01 (XW M0 M' 0 1 0) = 1) ∧ (b01 (CA M') = 1) ∧ (b01 (PI M') = 1)) := by
  refine cv_of (cc := cX12_readUnit) (maxL := 3) (lv := [(0, .ref (ad 98)), (1, .int (sI 6))]) (by decide) rfl (Nat.le_of_ble_eq_true rfl) rfl ?_
  intro p e s m args below meth c A Q C hret
  have u101z := xw_0 M0
  have u101l := ri_l (M := M0) (by omega)
  refine j_aload_n C 0 0 dX12_readUnit_0 rfl rfl ?_
  refine y_bipush C dX12_readUnit_1 rfl ?_
  refine j_callVi C (d := 0) (As := [.int (sI 16)]) (st := []) 98 (s_lt rfl rfl) (s_kc (c := 11) rfl rfl) (by decide) rfl (s1_X12_is hM0 16 (by omega)) gX12_readUnit_X12_is rfl hdX12_is (by decide) (Nat.le_of_ble_eq_true rfl) dX12_readUnit_3 rfl (fun r102 M103 h104 => ?_)
  obtain ⟨a106, rfl, rfl, h105⟩ := h104
  refine y_if_eq C 33 dX12_readUnit_6 (by decide) (by omega) (fun h107 => ?_) (fun h107 => ?_)
  · refine j_aload_n C 0 0 dX12_readUnit_33 rfl rfl ?_
    refine y_bipush C dX12_readUnit_34 rfl ?_
    refine j_callVi C (d := 0) (As := [.int (sI 37)]) (st := []) 98 (s_lt rfl rfl) (s_kc (c := 11) rfl rfl) (by decide) rfl (s1_X12_is hM0 37 (by omega)) gX12_readUnit_X12_is rfl hdX12_is (by decide) (Nat.le_of_ble_eq_true rfl) dX12_readUnit_36 rfl (fun r108 M109 h110 => ?_)
    obtain ⟨a112, rfl, rfl, h111⟩ := h110
    refine y_if_eq C 73 dX12_readUnit_39 (by decide) (by omega) (fun h113 => ?_) (fun h113 => ?_)
    · refine j_aload_n C 0 0 dX12_readUnit_73 rfl rfl ?_
      refine j_iload_n C 1 1 dX12_readUnit_74 rfl rfl ?_
      refine j_callVv C (d := 9) (As := [.int (sI 6)]) (st := []) 98 (s_lt rfl rfl) (s_kc (c := 11) rfl rfl) (by decide) rfl (s1_X12_readSum hM0 hpr (by omega) (by omega) (by omega)) gX12_readUnit_X12_readSum rfl hdX12_readSum (by decide) (Nat.le_of_ble_eq_true rfl) dX12_readUnit_75 rfl (fun M115 h116 => ?_)
      obtain ⟨hM115, fM115, h117⟩ := h116
      have u118l := ri_l (M := M115) (by omega)
      refine j_aload_n C 0 0 dX12_readUnit_78 rfl rfl ?_
      refine y_bipush C dX12_readUnit_79 rfl ?_
      refine j_callVi C (d := 0) (As := [.int (sI 39)]) (st := []) 98 (s_lt rfl rfl) (s_kc (c := 11) rfl rfl) (by decide) rfl (s1_X12_is hM115 39 (by omega)) gX12_readUnit_X12_is rfl hdX12_is (by decide) (Nat.le_of_ble_eq_true rfl) dX12_readUnit_81 rfl (fun r119 M120 h121 => ?_)
      obtain ⟨a123, rfl, rfl, h122⟩ := h121
      have J132 : ∀ (a131 : Int), (3003 ≤ a131 ∧ a131 ≤ 3005) → jj p l e (cn_R 10) s m args below meth c 0 0 Q 3 dC dI ad cA A M115 111 [(0, .ref (ad 98)), (1, .int (sI 6))] [.int (sI a131)] := by
        intro a131 h133
        refine j_istore_n C 2 [(2, .int (sI a131)), (0, .ref (ad 98)), (1, .int (sI 6))] dX12_readUnit_111 rfl (by decide) rfl ?_
        refine j_aload_n C 1 0 dX12_readUnit_112 rfl rfl ?_
        refine y_bipush C dX12_readUnit_113 rfl ?_
        refine j_callVi C (d := 0) (As := [.int (sI 39)]) (st := []) 98 (s_lt rfl rfl) (s_kc (c := 11) rfl rfl) (by decide) rfl (s1_X12_is hM115 39 (by omega)) gX12_readUnit_X12_is rfl hdX12_is (by decide) (Nat.le_of_ble_eq_true rfl) dX12_readUnit_115 rfl (fun r134 M135 h136 => ?_)
        obtain ⟨a138, rfl, rfl, h137⟩ := h136
        have J176 : ∀ (M175 : mm_M), ((b01 (RIP M175) = 1) ∧ ((M175.1 98 8).toInt = (M0.1 98 8).toInt) ∧ ((M0.1 98 6).toInt ≤ (M175.1 98 6).toInt) ∧ (b01 (XW M0 M175 0 1 1) = 1) ∧ (b01 (PI M175) = 1)) → INV pr Kz M175 → FR [98, 102] M0 M175 → jj p l e (cn_R 10) s m args below meth c 0 0 Q 3 dC dI ad cA A M175 151 [(0, .ref (ad 98)), (1, .int (sI 6)), (2, .int (sI a131))] [] := by
          intro M175 h177 hM175 fM175
          have u179a := ca_x (M := M0) (N := M175) (r := 0) (e := 1) (s := 1) (by decide) (by omega) (by omega)
          have u179l := ri_l (M := M175) (by omega)
          refine j_aload_n C 0 0 dX12_readUnit_151 rfl rfl ?_
          refine j_iload_n C 1 1 dX12_readUnit_152 rfl rfl ?_
          refine j_callVv C (d := 9) (As := [.int (sI 6)]) (st := []) 98 (s_lt rfl rfl) (s_kc (c := 11) rfl rfl) (by decide) rfl (s1_X12_readSum hM175 hpr (by omega) (by omega) (by omega)) gX12_readUnit_X12_readSum rfl hdX12_readSum (by decide) (Nat.le_of_ble_eq_true rfl) dX12_readUnit_153 rfl (fun M181 h182 => ?_)
          obtain ⟨hM181, fM181, h183⟩ := h182
          have u184t := xw_t (M := M0) (N := M175) (P := M181) (r1 := 0) (e1 := 1) (s1 := 1) (r2 := 0) (e2 := 1) (s2 := 0) 0 2 1 (by decide) (by omega) (by omega)
          have u184l := ri_l (M := M181) (by omega)
          have u184b := cb_x (M := M0) (N := M181) (r := 0) (e := 2) (s := 1) (by decide) (by omega) (by omega) (by omega)
          refine j_aload_n C 0 0 dX12_readUnit_156 rfl rfl ?_
          refine j_iload_n C 2 2 dX12_readUnit_157 rfl rfl ?_
          refine j_callVv C (d := 0) (As := [.int (sI a131)]) (st := []) 98 (s_lt rfl rfl) (s_kc (c := 11) rfl rfl) (by decide) rfl (s1_X12_codes hM181 hpr a131 (by omega) (by omega) (by omega)) gX12_readUnit_X12_codes rfl hdX12_codes (by decide) (Nat.le_of_ble_eq_true rfl) dX12_readUnit_158 rfl (fun M186 h187 => ?_)
          obtain ⟨hM186, fM186, h188⟩ := h187
          have u189x := xw_a (M := M181) (N := M186) (c := a131) (r := 2) (e := (-1)) (FR.cell fM186 (by decide)) (ap_bin ⟨(INV.rd hM181 (i := 102) (c := 48) (k := 280) rfl rfl).1, by omega, by omega⟩) (by omega)
          have u189t := xw_t (M := M0) (N := M181) (P := M186) (r1 := 0) (e1 := 2) (s1 := 1) (r2 := 2) (e2 := (-1)) (s2 := (-1)) 0 1 0 (by decide) (by omega) (by omega)
          have u189i := ri_c (M := M181) (N := M186) (FR.cell fM186 (by decide)) (by omega)
          have u189l := ri_l (M := M186) (by omega)
          have u189a := ca_x (M := M0) (N := M186) (r := 0) (e := 1) (s := 0) (by decide) (by omega) (by omega)
          have zz98_6 : (M186.1 98 6).toInt = (M181.1 98 6).toInt := s_fF fM186 (by decide) (rfl); have zz98_8 : (M186.1 98 8).toInt = (M181.1 98 8).toInt := s_fF fM186 (by decide) (rfl); exact hret _ _ _ dX12_readUnit_161 ⟨hM186, (((FR.rf.tr fM175 (by decide)).tr fM181 (by decide)).tr fM186 (by decide)), by omega⟩
        refine y_if_ne C 139 dX12_readUnit_118 (by decide) (by omega) (fun h139 => ?_) (fun h139 => ?_)
        · have u140k := ri_k (M := M115) (by omega) (by omega)
          refine j_aload_n C 1 0 dX12_readUnit_139 rfl rfl ?_
          refine j_callVv C (d := 5) (As := []) (st := []) 98 (s_lt rfl rfl) (s_kc (c := 11) rfl rfl) (by decide) rfl (s1_X12_next hM115 hpr (by omega) (by omega) (by omega)) gX12_readUnit_X12_next rfl hdX12_next (by decide) (Nat.le_of_ble_eq_true rfl) dX12_readUnit_140 rfl (fun M142 h143 => ?_)
          obtain ⟨hM142, fM142, h144⟩ := h143
          refine j_goto C 151 dX12_readUnit_143 (by decide) ?_
          have u145c := xw_c (N := M115) (P := M142) 1 (FR.cell fM142 (by decide)) (by omega)
          have u145t := xw_t (M := M0) (N := M115) (P := M142) (r1 := 0) (e1 := 1) (s1 := 0) (r2 := 0) (e2 := 0) (s2 := 1) 0 1 1 (by decide) (by omega) (by omega)
          have u145l := ri_l (M := M142) (by omega)
          refine j_lv [1, 2, 0] rfl ?_; exact J176 M142 (by omega) hM142 ((FR.rf.tr fM115 (by decide)).tr fM142 (by decide))
        · refine j_aload_n C 1 0 dX12_readUnit_121 rfl rfl ?_
          refine y_bipush C dX12_readUnit_122 rfl ?_
          refine j_callVi C (d := 0) (As := [.int (sI 40)]) (st := []) 98 (s_lt rfl rfl) (s_kc (c := 11) rfl rfl) (by decide) rfl (s1_X12_is hM115 40 (by omega)) gX12_readUnit_X12_is rfl hdX12_is (by decide) (Nat.le_of_ble_eq_true rfl) dX12_readUnit_124 rfl (fun r146 M147 h148 => ?_)
          obtain ⟨a150, rfl, rfl, h149⟩ := h148
          refine y_if_ne C 139 dX12_readUnit_127 (by decide) (by omega) (fun h151 => ?_) (fun h151 => ?_)
          · have u152k := ri_k (M := M115) (by omega) (by omega)
            refine j_aload_n C 1 0 dX12_readUnit_139 rfl rfl ?_
            refine j_callVv C (d := 5) (As := []) (st := []) 98 (s_lt rfl rfl) (s_kc (c := 11) rfl rfl) (by decide) rfl (s1_X12_next hM115 hpr (by omega) (by omega) (by omega)) gX12_readUnit_X12_next rfl hdX12_next (by decide) (Nat.le_of_ble_eq_true rfl) dX12_readUnit_140 rfl (fun M154 h155 => ?_)
            obtain ⟨hM154, fM154, h156⟩ := h155
            refine j_goto C 151 dX12_readUnit_143 (by decide) ?_
            have u157c := xw_c (N := M115) (P := M154) 1 (FR.cell fM154 (by decide)) (by omega)
            have u157t := xw_t (M := M0) (N := M115) (P := M154) (r1 := 0) (e1 := 1) (s1 := 0) (r2 := 0) (e2 := 0) (s2 := 1) 0 1 1 (by decide) (by omega) (by omega)
            have u157l := ri_l (M := M154) (by omega)
            refine j_lv [1, 2, 0] rfl ?_; exact J176 M154 (by omega) hM154 ((FR.rf.tr fM115 (by decide)).tr fM154 (by decide))
          · refine j_aload_n C 1 0 dX12_readUnit_130 rfl rfl ?_
            refine y_bipush C dX12_readUnit_131 rfl ?_
            refine j_callVi C (d := 0) (As := [.int (sI 41)]) (st := []) 98 (s_lt rfl rfl) (s_kc (c := 11) rfl rfl) (by decide) rfl (s1_X12_is hM115 41 (by omega)) gX12_readUnit_X12_is rfl hdX12_is (by decide) (Nat.le_of_ble_eq_true rfl) dX12_readUnit_133 rfl (fun r158 M159 h160 => ?_)
            obtain ⟨a162, rfl, rfl, h161⟩ := h160
            refine y_if_eq C 146 dX12_readUnit_136 (by decide) (by omega) (fun h163 => ?_) (fun h163 => ?_)
            · refine j_aload_n C 1 0 dX12_readUnit_146 rfl rfl ?_
              refine y_iconst C dX12_readUnit_147 ?_
              refine j_callVv C (d := 0) (As := [.int (sI 2)]) (st := []) 98 (s_lt rfl rfl) (s_kc (c := 11) rfl rfl) (by decide) rfl (s1_X12_fails hM115 hpr 2 (by omega) (by omega) (by omega) (by omega)) gX12_readUnit_X12_fails rfl hdX12_fails (by decide) (Nat.le_of_ble_eq_true rfl) dX12_readUnit_148 rfl (fun M165 h166 => ?_)
              obtain ⟨hM165, fM165, h167⟩ := h166
              have u168f : b01 (XW M0 M165 0 1 1) = 1 := b01_i (Or.inl (by omega))
              have u168l := ri_l (M := M165) (by omega)
              refine j_lv [1, 2, 0] rfl ?_; exact J176 M165 (by omega) hM165 ((FR.rf.tr fM115 (by decide)).tr fM165 (by decide))
            · have u169k := ri_k (M := M115) (by omega) (by omega)
              refine j_aload_n C 1 0 dX12_readUnit_139 rfl rfl ?_
              refine j_callVv C (d := 5) (As := []) (st := []) 98 (s_lt rfl rfl) (s_kc (c := 11) rfl rfl) (by decide) rfl (s1_X12_next hM115 hpr (by omega) (by omega) (by omega)) gX12_readUnit_X12_next rfl hdX12_next (by decide) (Nat.le_of_ble_eq_true rfl) dX12_readUnit_140 rfl (fun M171 h172 => ?_)
              obtain ⟨hM171, fM171, h173⟩ := h172
              refine j_goto C 151 dX12_readUnit_143 (by decide) ?_
              have u174c := xw_c (N := M115) (P := M171) 1 (FR.cell fM171 (by decide)) (by omega)
              have u174t := xw_t (M := M0) (N := M115) (P := M171) (r1 := 0) (e1 := 1) (s1 := 0) (r2 := 0) (e2 := 0) (s2 := 1) 0 1 1 (by decide) (by omega) (by omega)
              have u174l := ri_l (M := M171) (by omega)
              refine j_lv [1, 2, 0] rfl ?_; exact J176 M171 (by omega) hM171 ((FR.rf.tr fM115 (by decide)).tr fM171 (by decide))
      refine y_if_eq C 93 dX12_readUnit_84 (by decide) (by omega) (fun h124 => ?_) (fun h124 => ?_)
      · refine j_aload_n C 0 0 dX12_readUnit_93 rfl rfl ?_
        refine y_bipush C dX12_readUnit_94 rfl ?_
        refine j_callVi C (d := 0) (As := [.int (sI 40)]) (st := []) 98 (s_lt rfl rfl) (s_kc (c := 11) rfl rfl) (by decide) rfl (s1_X12_is hM115 40 (by omega)) gX12_readUnit_X12_is rfl hdX12_is (by decide) (Nat.le_of_ble_eq_true rfl) dX12_readUnit_96 rfl (fun r125 M126 h127 => ?_)
        obtain ⟨a129, rfl, rfl, h128⟩ := h127
        refine y_if_eq C 108 dX12_readUnit_99 (by decide) (by omega) (fun h130 => ?_) (fun h130 => ?_)
        · refine y_sipush C dX12_readUnit_108 rfl ?_
          exact J132 3005 (by omega)
        · refine y_sipush C dX12_readUnit_102 rfl ?_
          refine j_goto C 111 dX12_readUnit_105 (by decide) ?_
          exact J132 3004 (by omega)
      · refine y_sipush C dX12_readUnit_87 rfl ?_
        refine j_goto C 111 dX12_readUnit_90 (by decide) ?_
        exact J132 3003 (by omega)
    · have u190k := ri_k (M := M0) (by omega) (by omega)
      refine j_aload_n C 0 0 dX12_readUnit_42 rfl rfl ?_
      refine j_iload_n C 1 1 dX12_readUnit_43 rfl rfl ?_
      refine j_callVi C (d := 6) (As := [.int (sI 6)]) (st := []) 98 (s_lt rfl rfl) (s_kc (c := 11) rfl rfl) (by decide) rfl (s7_X12_goesIn hM0 hpr (by omega) (by omega)) gX12_readUnit_X12_goesIn rfl hdX12_goesIn (by decide) (Nat.le_of_ble_eq_true rfl) dX12_readUnit_44 rfl (fun r191 M192 h193 => ?_)
      obtain ⟨a195, rfl, hM192, fM192, h194⟩ := h193
      refine y_if_ne C 51 dX12_readUnit_47 (by decide) (by omega) (fun h196 => ?_) (fun h196 => ?_)
      · exfalso; omega
      · have u197f : b01 (XW M0 M192 0 1 0) = 1 := b01_i (Or.inl (by omega))
        have u197a := ca_x (M := M0) (N := M192) (r := 0) (e := 1) (s := 0) (by decide) (by omega) (by omega)
        exact hret _ _ _ dX12_readUnit_50 ⟨hM192, (FR.rf.tr fM192 (by decide)), by omega⟩
  · have u198k := ri_k (M := M0) (by omega) (by omega)
    refine j_aload_n C 0 0 dX12_readUnit_9 rfl rfl ?_
    refine j_iload_n C 1 1 dX12_readUnit_10 rfl rfl ?_
    refine j_callVi C (d := 6) (As := [.int (sI 6)]) (st := []) 98 (s_lt rfl rfl) (s_kc (c := 11) rfl rfl) (by decide) rfl (s7_X12_goesIn hM0 hpr (by omega) (by omega)) gX12_readUnit_X12_goesIn rfl hdX12_goesIn (by decide) (Nat.le_of_ble_eq_true rfl) dX12_readUnit_11 rfl (fun r199 M200 h201 => ?_)
    obtain ⟨a203, rfl, hM200, fM200, h202⟩ := h201
    refine y_if_ne C 18 dX12_readUnit_14 (by decide) (by omega) (fun h204 => ?_) (fun h204 => ?_)
    · exfalso; omega
    · have u205f : b01 (XW M0 M200 0 1 0) = 1 := b01_i (Or.inl (by omega))
      have u205a := ca_x (M := M0) (N := M200) (r := 0) (e := 1) (s := 0) (by decide) (by omega) (by omega)
      exact hret _ _ _ dX12_readUnit_17 ⟨hM200, (FR.rf.tr fM200 (by decide)), by omega⟩
set_option maxHeartbeats 4000000 in
theorem s1_X12_readBoth {l : Launch} {dC : Nat → ClassId} {dI : Nat → Nat → Nat} {ad : Nat → Nat} {cA : Nat → ClassId} {pr : Nat → Nat → Bool} {Kz : mm_M} {M0 : mm_M} (hM0 : INV pr Kz M0) (hpr : PM pr)  (hp0 : b01 (RIP M0) = 1) (hp1 : b01 (CA M0) = 1) (hp2 : b01 (PI M0) = 1) : Cv l 11 yX12_readBoth wsX12_readBoth dC dI ad cA [.ref (ad 98), .int (sI 6)] M0 (fun M' => INV pr Kz M' ∧ FR [98, 102] M0 M' ∧ (b01 (RIP M') = 1) ∧ ((M'.1 98 8).toInt = (M0.1 98 8).toInt) ∧ ((M0.1 98 6).toInt ≤ (M'.1 98 6).toInt) ∧ (b01 (XW M0 M' 0 1 0) = 1) ∧ (b01 (CA M') = 1) ∧ (b01 (PI M') = 1)) := by
  refine cv_of (cc := cX12_readBoth) (maxL := 2) (lv := [(0, .ref (ad 98)), (1, .int (sI 6))]) (by decide) rfl (Nat.le_of_ble_eq_true rfl) rfl ?_
  intro p e s m args below meth c A Q C hret
  have u101z := xw_0 M0
  have u101l := ri_l (M := M0) (by omega)
  refine j_aload_n C 0 0 dX12_readBoth_0 rfl rfl ?_
  refine j_iload_n C 1 1 dX12_readBoth_1 rfl rfl ?_
  refine j_callVv C (d := 10) (As := [.int (sI 6)]) (st := []) 98 (s_lt rfl rfl) (s_kc (c := 11) rfl rfl) (by decide) rfl (s1_X12_readUnit hM0 hpr (by omega) (by omega) (by omega)) gX12_readBoth_X12_readUnit rfl hdX12_readUnit (by decide) (Nat.le_of_ble_eq_true rfl) dX12_readBoth_2 rfl (fun M103 h104 => ?_)
  obtain ⟨hM103, fM103, h105⟩ := h104
  have u106l := ri_l (M := M103) (by omega)
  have L128 : ∀ (n126 : Nat), ∀ (M129 : mm_M), ((b01 (RIP M129) = 1) ∧ ((M129.1 98 8).toInt = (M0.1 98 8).toInt) ∧ ((M0.1 98 6).toInt ≤ (M129.1 98 6).toInt) ∧ (b01 (XW M0 M129 0 1 0) = 1) ∧ ((M129.1 98 6).toInt ≤ 900) ∧ (b01 (PI M129) = 1) ∧ (900 - (M129.1 98 6).toInt) < (n126 : Int)) → INV pr Kz M129 → FR [98, 102] M0 M129 → jj p l e (cn_R 11) s m args below meth c 0 0 Q 2 dC dI ad cA A M129 5 [(0, .ref (ad 98)), (1, .int (sI 6))] [] := by
    intro n126
    induction n126 with
    | zero =>
      intro M129 h130 hM129 fM129
      exfalso; omega
    | succ n126 ih127 =>
      intro M129 h130 hM129 fM129
      have u131l := ri_l (M := M129) (by omega)
      refine j_aload_n C 0 0 dX12_readBoth_5 rfl rfl ?_
      refine y_bipush C dX12_readBoth_6 rfl ?_
      refine j_callVi C (d := 6) (As := [.int (sI 14)]) (st := []) 98 (s_lt rfl rfl) (s_kc (c := 11) rfl rfl) (by decide) rfl (s1_X12_eats hM129 hpr 14 (by omega) (by omega) (by omega) (by omega)) gX12_readBoth_X12_eats rfl hdX12_eats (by decide) (Nat.le_of_ble_eq_true rfl) dX12_readBoth_8 rfl (fun r132 M133 h134 => ?_)
      obtain ⟨a136, rfl, hM133, fM133, h135⟩ := h134
      refine y_if_eq C 29 dX12_readBoth_11 (by decide) (by omega) (fun h137 => ?_) (fun h137 => ?_)
      · have u149c := xw_c (N := M129) (P := M133) 0 (FR.cell fM133 (by decide)) (by omega)
        have u149t := xw_t (M := M0) (N := M129) (P := M133) (r1 := 0) (e1 := 1) (s1 := 0) (r2 := 0) (e2 := 0) (s2 := 0) 0 1 0 (by decide) (by omega) (by omega)
        have u149a := ca_x (M := M0) (N := M133) (r := 0) (e := 1) (s := 0) (by decide) (by omega) (by omega)
        exact hret _ _ _ dX12_readBoth_29 ⟨hM133, ((FR.rf.tr fM129 (by decide)).tr fM133 (by decide)), by omega⟩
      · have u138c := xw_c (N := M129) (P := M133) 1 (FR.cell fM133 (by decide)) (by omega)
        have u138t := xw_t (M := M0) (N := M129) (P := M133) (r1 := 0) (e1 := 1) (s1 := 0) (r2 := 0) (e2 := 0) (s2 := 1) 0 1 1 (by decide) (by omega) (by omega)
        have u138a := ca_x (M := M0) (N := M133) (r := 0) (e := 1) (s := 1) (by decide) (by omega) (by omega)
        have u138l := ri_l (M := M133) (by omega)
        refine j_aload_n C 0 0 dX12_readBoth_14 rfl rfl ?_
        refine j_iload_n C 1 1 dX12_readBoth_15 rfl rfl ?_
        refine j_callVv C (d := 10) (As := [.int (sI 6)]) (st := []) 98 (s_lt rfl rfl) (s_kc (c := 11) rfl rfl) (by decide) rfl (s1_X12_readUnit hM133 hpr (by omega) (by omega) (by omega)) gX12_readBoth_X12_readUnit rfl hdX12_readUnit (by decide) (Nat.le_of_ble_eq_true rfl) dX12_readBoth_16 rfl (fun M140 h141 => ?_)
        obtain ⟨hM140, fM140, h142⟩ := h141
        have u143t := xw_t (M := M0) (N := M133) (P := M140) (r1 := 0) (e1 := 1) (s1 := 1) (r2 := 0) (e2 := 1) (s2 := 0) 0 2 1 (by decide) (by omega) (by omega)
        have u143l := ri_l (M := M140) (by omega)
        have u143b := cb_x (M := M0) (N := M140) (r := 0) (e := 2) (s := 1) (by decide) (by omega) (by omega) (by omega)
        refine j_aload_n C 0 0 dX12_readBoth_19 rfl rfl ?_
        refine y_sipush C dX12_readBoth_20 rfl ?_
        refine j_callVv C (d := 0) (As := [.int (sI 3007)]) (st := []) 98 (s_lt rfl rfl) (s_kc (c := 11) rfl rfl) (by decide) rfl (s1_X12_codes hM140 hpr 3007 (by omega) (by omega) (by omega)) gX12_readBoth_X12_codes rfl hdX12_codes (by decide) (Nat.le_of_ble_eq_true rfl) dX12_readBoth_23 rfl (fun M145 h146 => ?_)
        obtain ⟨hM145, fM145, h147⟩ := h146
        refine j_goto C 5 dX12_readBoth_26 (by decide) ?_
        have u148x := xw_a (M := M140) (N := M145) (c := 3007) (r := 2) (e := (-1)) (FR.cell fM145 (by decide)) (ap_bin ⟨(INV.rd hM140 (i := 102) (c := 48) (k := 280) rfl rfl).1, by omega, by omega⟩) (by omega)
        have u148t := xw_t (M := M0) (N := M140) (P := M145) (r1 := 0) (e1 := 2) (s1 := 1) (r2 := 2) (e2 := (-1)) (s2 := (-1)) 0 1 0 (by decide) (by omega) (by omega)
        have u148i := ri_c (M := M140) (N := M145) (FR.cell fM145 (by decide)) (by omega)
        have u148l := ri_l (M := M145) (by omega)
        have zz98_8 : (M145.1 98 8).toInt = (M140.1 98 8).toInt := s_fF fM145 (by decide) (rfl); have zz98_6 : (M145.1 98 6).toInt = (M140.1 98 6).toInt := s_fF fM145 (by decide) (rfl); exact ih127 M145 (by omega) hM145 ((((FR.rf.tr fM129 (by decide)).tr fM133 (by decide)).tr fM140 (by decide)).tr fM145 (by decide))
  exact L128 2010 M103 (by omega) hM103 (FR.rf.tr fM103 (by decide))
set_option maxHeartbeats 4000000 in
theorem s1_X12_readTruth {l : Launch} {dC : Nat → ClassId} {dI : Nat → Nat → Nat} {ad : Nat → Nat} {cA : Nat → ClassId} {pr : Nat → Nat → Bool} {Kz : mm_M} {M0 : mm_M} (hM0 : INV pr Kz M0) (hpr : PM pr)  (hp0 : b01 (RIP M0) = 1) (hp1 : b01 (CA M0) = 1) (hp2 : b01 (PI M0) = 1) : Cv l 12 yX12_readTruth wsX12_readTruth dC dI ad cA [.ref (ad 98), .int (sI 6)] M0 (fun M' => INV pr Kz M' ∧ FR [98, 102] M0 M' ∧ (b01 (RIP M') = 1) ∧ ((M'.1 98 8).toInt = (M0.1 98 8).toInt) ∧ ((M0.1 98 6).toInt ≤ (M'.1 98 6).toInt) ∧ (b01 (XW M0 M' 0 1 0) = 1) ∧ (b01 (CA M') = 1) ∧ (b01 (PI M') = 1)) := by
  refine cv_of (cc := cX12_readTruth) (maxL := 2) (lv := [(0, .ref (ad 98)), (1, .int (sI 6))]) (by decide) rfl (Nat.le_of_ble_eq_true rfl) rfl ?_
  intro p e s m args below meth c A Q C hret
  have u101z := xw_0 M0
  have u101l := ri_l (M := M0) (by omega)
  refine j_aload_n C 0 0 dX12_readTruth_0 rfl rfl ?_
  refine j_iload_n C 1 1 dX12_readTruth_1 rfl rfl ?_
  refine j_callVv C (d := 11) (As := [.int (sI 6)]) (st := []) 98 (s_lt rfl rfl) (s_kc (c := 11) rfl rfl) (by decide) rfl (s1_X12_readBoth hM0 hpr (by omega) (by omega) (by omega)) gX12_readTruth_X12_readBoth rfl hdX12_readBoth (by decide) (Nat.le_of_ble_eq_true rfl) dX12_readTruth_2 rfl (fun M103 h104 => ?_)
  obtain ⟨hM103, fM103, h105⟩ := h104
  have u106l := ri_l (M := M103) (by omega)
  have L128 : ∀ (n126 : Nat), ∀ (M129 : mm_M), ((b01 (RIP M129) = 1) ∧ ((M129.1 98 8).toInt = (M0.1 98 8).toInt) ∧ ((M0.1 98 6).toInt ≤ (M129.1 98 6).toInt) ∧ (b01 (XW M0 M129 0 1 0) = 1) ∧ ((M129.1 98 6).toInt ≤ 900) ∧ (b01 (PI M129) = 1) ∧ (900 - (M129.1 98 6).toInt) < (n126 : Int)) → INV pr Kz M129 → FR [98, 102] M0 M129 → jj p l e (cn_R 12) s m args below meth c 0 0 Q 2 dC dI ad cA A M129 5 [(0, .ref (ad 98)), (1, .int (sI 6))] [] := by
    intro n126
    induction n126 with
    | zero =>
      intro M129 h130 hM129 fM129
      exfalso; omega
    | succ n126 ih127 =>
      intro M129 h130 hM129 fM129
      have u131l := ri_l (M := M129) (by omega)
      refine j_aload_n C 0 0 dX12_readTruth_5 rfl rfl ?_
      refine y_bipush C dX12_readTruth_6 rfl ?_
      refine j_callVi C (d := 6) (As := [.int (sI 15)]) (st := []) 98 (s_lt rfl rfl) (s_kc (c := 11) rfl rfl) (by decide) rfl (s1_X12_eats hM129 hpr 15 (by omega) (by omega) (by omega) (by omega)) gX12_readTruth_X12_eats rfl hdX12_eats (by decide) (Nat.le_of_ble_eq_true rfl) dX12_readTruth_8 rfl (fun r132 M133 h134 => ?_)
      obtain ⟨a136, rfl, hM133, fM133, h135⟩ := h134
      refine y_if_eq C 29 dX12_readTruth_11 (by decide) (by omega) (fun h137 => ?_) (fun h137 => ?_)
      · have u149c := xw_c (N := M129) (P := M133) 0 (FR.cell fM133 (by decide)) (by omega)
        have u149t := xw_t (M := M0) (N := M129) (P := M133) (r1 := 0) (e1 := 1) (s1 := 0) (r2 := 0) (e2 := 0) (s2 := 0) 0 1 0 (by decide) (by omega) (by omega)
        have u149a := ca_x (M := M0) (N := M133) (r := 0) (e := 1) (s := 0) (by decide) (by omega) (by omega)
        exact hret _ _ _ dX12_readTruth_29 ⟨hM133, ((FR.rf.tr fM129 (by decide)).tr fM133 (by decide)), by omega⟩
      · have u138c := xw_c (N := M129) (P := M133) 1 (FR.cell fM133 (by decide)) (by omega)
        have u138t := xw_t (M := M0) (N := M129) (P := M133) (r1 := 0) (e1 := 1) (s1 := 0) (r2 := 0) (e2 := 0) (s2 := 1) 0 1 1 (by decide) (by omega) (by omega)
        have u138a := ca_x (M := M0) (N := M133) (r := 0) (e := 1) (s := 1) (by decide) (by omega) (by omega)
        have u138l := ri_l (M := M133) (by omega)
        refine j_aload_n C 0 0 dX12_readTruth_14 rfl rfl ?_
        refine j_iload_n C 1 1 dX12_readTruth_15 rfl rfl ?_
        refine j_callVv C (d := 11) (As := [.int (sI 6)]) (st := []) 98 (s_lt rfl rfl) (s_kc (c := 11) rfl rfl) (by decide) rfl (s1_X12_readBoth hM133 hpr (by omega) (by omega) (by omega)) gX12_readTruth_X12_readBoth rfl hdX12_readBoth (by decide) (Nat.le_of_ble_eq_true rfl) dX12_readTruth_16 rfl (fun M140 h141 => ?_)
        obtain ⟨hM140, fM140, h142⟩ := h141
        have u143t := xw_t (M := M0) (N := M133) (P := M140) (r1 := 0) (e1 := 1) (s1 := 1) (r2 := 0) (e2 := 1) (s2 := 0) 0 2 1 (by decide) (by omega) (by omega)
        have u143l := ri_l (M := M140) (by omega)
        have u143b := cb_x (M := M0) (N := M140) (r := 0) (e := 2) (s := 1) (by decide) (by omega) (by omega) (by omega)
        refine j_aload_n C 0 0 dX12_readTruth_19 rfl rfl ?_
        refine y_sipush C dX12_readTruth_20 rfl ?_
        refine j_callVv C (d := 0) (As := [.int (sI 3008)]) (st := []) 98 (s_lt rfl rfl) (s_kc (c := 11) rfl rfl) (by decide) rfl (s1_X12_codes hM140 hpr 3008 (by omega) (by omega) (by omega)) gX12_readTruth_X12_codes rfl hdX12_codes (by decide) (Nat.le_of_ble_eq_true rfl) dX12_readTruth_23 rfl (fun M145 h146 => ?_)
        obtain ⟨hM145, fM145, h147⟩ := h146
        refine j_goto C 5 dX12_readTruth_26 (by decide) ?_
        have u148x := xw_a (M := M140) (N := M145) (c := 3008) (r := 2) (e := (-1)) (FR.cell fM145 (by decide)) (ap_bin ⟨(INV.rd hM140 (i := 102) (c := 48) (k := 280) rfl rfl).1, by omega, by omega⟩) (by omega)
        have u148t := xw_t (M := M0) (N := M140) (P := M145) (r1 := 0) (e1 := 2) (s1 := 1) (r2 := 2) (e2 := (-1)) (s2 := (-1)) 0 1 0 (by decide) (by omega) (by omega)
        have u148i := ri_c (M := M140) (N := M145) (FR.cell fM145 (by decide)) (by omega)
        have u148l := ri_l (M := M145) (by omega)
        have zz98_8 : (M145.1 98 8).toInt = (M140.1 98 8).toInt := s_fF fM145 (by decide) (rfl); have zz98_6 : (M145.1 98 6).toInt = (M140.1 98 6).toInt := s_fF fM145 (by decide) (rfl); exact ih127 M145 (by omega) hM145 ((((FR.rf.tr fM129 (by decide)).tr fM133 (by decide)).tr fM140 (by decide)).tr fM145 (by decide))
  exact L128 2010 M103 (by omega) hM103 (FR.rf.tr fM103 (by decide))
set_option maxHeartbeats 4000000 in
theorem s2_X12_readUnit {l : Launch} {dC : Nat → ClassId} {dI : Nat → Nat → Nat} {ad : Nat → Nat} {cA : Nat → ClassId} {pr : Nat → Nat → Bool} {Kz : mm_M} {M0 : mm_M} (hM0 : INV pr Kz M0) (hpr : PM pr)  (hp0 : b01 (RIP M0) = 1) (hp1 : b01 (CA M0) = 1) (hp2 : b01 (PI M0) = 1) : Cv l 13 yX12_readUnit wsX12_readUnit dC dI ad cA [.ref (ad 98), .int (sI 5)] M0 (fun M' => INV pr Kz M' ∧ FR [98, 102] M0 M' ∧ (b01 (RIP M') = 1) ∧ ((M'.1 98 8).toInt = (M0.1 98 8).toInt) ∧ ((M0.1 98 6).toInt ≤ (M'.1 98 6).toInt) ∧ (b01 (XW M0 M' 0 1 0) = 1) ∧ (b01 (CA M') = 1) ∧ (b01 (PI M') = 1)) := by
  refine cv_of (cc := cX12_readUnit) (maxL := 3) (lv := [(0, .ref (ad 98)), (1, .int (sI 5))]) (by decide) rfl (Nat.le_of_ble_eq_true rfl) rfl ?_
  intro p e s m args below meth c A Q C hret
  have u101z := xw_0 M0
  have u101l := ri_l (M := M0) (by omega)
  refine j_aload_n C 0 0 dX12_readUnit_0 rfl rfl ?_
  refine y_bipush C dX12_readUnit_1 rfl ?_
  refine j_callVi C (d := 0) (As := [.int (sI 16)]) (st := []) 98 (s_lt rfl rfl) (s_kc (c := 11) rfl rfl) (by decide) rfl (s1_X12_is hM0 16 (by omega)) gX12_readUnit_X12_is rfl hdX12_is (by decide) (Nat.le_of_ble_eq_true rfl) dX12_readUnit_3 rfl (fun r102 M103 h104 => ?_)
  obtain ⟨a106, rfl, rfl, h105⟩ := h104
  refine y_if_eq C 33 dX12_readUnit_6 (by decide) (by omega) (fun h107 => ?_) (fun h107 => ?_)
  · refine j_aload_n C 0 0 dX12_readUnit_33 rfl rfl ?_
    refine y_bipush C dX12_readUnit_34 rfl ?_
    refine j_callVi C (d := 0) (As := [.int (sI 37)]) (st := []) 98 (s_lt rfl rfl) (s_kc (c := 11) rfl rfl) (by decide) rfl (s1_X12_is hM0 37 (by omega)) gX12_readUnit_X12_is rfl hdX12_is (by decide) (Nat.le_of_ble_eq_true rfl) dX12_readUnit_36 rfl (fun r108 M109 h110 => ?_)
    obtain ⟨a112, rfl, rfl, h111⟩ := h110
    refine y_if_eq C 73 dX12_readUnit_39 (by decide) (by omega) (fun h113 => ?_) (fun h113 => ?_)
    · refine j_aload_n C 0 0 dX12_readUnit_73 rfl rfl ?_
      refine j_iload_n C 1 1 dX12_readUnit_74 rfl rfl ?_
      refine j_callVv C (d := 12) (As := [.int (sI 5)]) (st := []) 98 (s_lt rfl rfl) (s_kc (c := 11) rfl rfl) (by decide) rfl (s2_X12_readSum hM0 hpr (by omega) (by omega) (by omega)) gX12_readUnit_X12_readSum rfl hdX12_readSum (by decide) (Nat.le_of_ble_eq_true rfl) dX12_readUnit_75 rfl (fun M115 h116 => ?_)
      obtain ⟨hM115, fM115, h117⟩ := h116
      have u118l := ri_l (M := M115) (by omega)
      refine j_aload_n C 0 0 dX12_readUnit_78 rfl rfl ?_
      refine y_bipush C dX12_readUnit_79 rfl ?_
      refine j_callVi C (d := 0) (As := [.int (sI 39)]) (st := []) 98 (s_lt rfl rfl) (s_kc (c := 11) rfl rfl) (by decide) rfl (s1_X12_is hM115 39 (by omega)) gX12_readUnit_X12_is rfl hdX12_is (by decide) (Nat.le_of_ble_eq_true rfl) dX12_readUnit_81 rfl (fun r119 M120 h121 => ?_)
      obtain ⟨a123, rfl, rfl, h122⟩ := h121
      have J132 : ∀ (a131 : Int), (3003 ≤ a131 ∧ a131 ≤ 3005) → jj p l e (cn_R 13) s m args below meth c 0 0 Q 3 dC dI ad cA A M115 111 [(0, .ref (ad 98)), (1, .int (sI 5))] [.int (sI a131)] := by
        intro a131 h133
        refine j_istore_n C 2 [(2, .int (sI a131)), (0, .ref (ad 98)), (1, .int (sI 5))] dX12_readUnit_111 rfl (by decide) rfl ?_
        refine j_aload_n C 1 0 dX12_readUnit_112 rfl rfl ?_
        refine y_bipush C dX12_readUnit_113 rfl ?_
        refine j_callVi C (d := 0) (As := [.int (sI 39)]) (st := []) 98 (s_lt rfl rfl) (s_kc (c := 11) rfl rfl) (by decide) rfl (s1_X12_is hM115 39 (by omega)) gX12_readUnit_X12_is rfl hdX12_is (by decide) (Nat.le_of_ble_eq_true rfl) dX12_readUnit_115 rfl (fun r134 M135 h136 => ?_)
        obtain ⟨a138, rfl, rfl, h137⟩ := h136
        have J176 : ∀ (M175 : mm_M), ((b01 (RIP M175) = 1) ∧ ((M175.1 98 8).toInt = (M0.1 98 8).toInt) ∧ ((M0.1 98 6).toInt ≤ (M175.1 98 6).toInt) ∧ (b01 (XW M0 M175 0 1 1) = 1) ∧ (b01 (PI M175) = 1)) → INV pr Kz M175 → FR [98, 102] M0 M175 → jj p l e (cn_R 13) s m args below meth c 0 0 Q 3 dC dI ad cA A M175 151 [(0, .ref (ad 98)), (1, .int (sI 5)), (2, .int (sI a131))] [] := by
          intro M175 h177 hM175 fM175
          have u179a := ca_x (M := M0) (N := M175) (r := 0) (e := 1) (s := 1) (by decide) (by omega) (by omega)
          have u179l := ri_l (M := M175) (by omega)
          refine j_aload_n C 0 0 dX12_readUnit_151 rfl rfl ?_
          refine j_iload_n C 1 1 dX12_readUnit_152 rfl rfl ?_
          refine j_callVv C (d := 12) (As := [.int (sI 5)]) (st := []) 98 (s_lt rfl rfl) (s_kc (c := 11) rfl rfl) (by decide) rfl (s2_X12_readSum hM175 hpr (by omega) (by omega) (by omega)) gX12_readUnit_X12_readSum rfl hdX12_readSum (by decide) (Nat.le_of_ble_eq_true rfl) dX12_readUnit_153 rfl (fun M181 h182 => ?_)
          obtain ⟨hM181, fM181, h183⟩ := h182
          have u184t := xw_t (M := M0) (N := M175) (P := M181) (r1 := 0) (e1 := 1) (s1 := 1) (r2 := 0) (e2 := 1) (s2 := 0) 0 2 1 (by decide) (by omega) (by omega)
          have u184l := ri_l (M := M181) (by omega)
          have u184b := cb_x (M := M0) (N := M181) (r := 0) (e := 2) (s := 1) (by decide) (by omega) (by omega) (by omega)
          refine j_aload_n C 0 0 dX12_readUnit_156 rfl rfl ?_
          refine j_iload_n C 2 2 dX12_readUnit_157 rfl rfl ?_
          refine j_callVv C (d := 0) (As := [.int (sI a131)]) (st := []) 98 (s_lt rfl rfl) (s_kc (c := 11) rfl rfl) (by decide) rfl (s1_X12_codes hM181 hpr a131 (by omega) (by omega) (by omega)) gX12_readUnit_X12_codes rfl hdX12_codes (by decide) (Nat.le_of_ble_eq_true rfl) dX12_readUnit_158 rfl (fun M186 h187 => ?_)
          obtain ⟨hM186, fM186, h188⟩ := h187
          have u189x := xw_a (M := M181) (N := M186) (c := a131) (r := 2) (e := (-1)) (FR.cell fM186 (by decide)) (ap_bin ⟨(INV.rd hM181 (i := 102) (c := 48) (k := 280) rfl rfl).1, by omega, by omega⟩) (by omega)
          have u189t := xw_t (M := M0) (N := M181) (P := M186) (r1 := 0) (e1 := 2) (s1 := 1) (r2 := 2) (e2 := (-1)) (s2 := (-1)) 0 1 0 (by decide) (by omega) (by omega)
          have u189i := ri_c (M := M181) (N := M186) (FR.cell fM186 (by decide)) (by omega)
          have u189l := ri_l (M := M186) (by omega)
          have u189a := ca_x (M := M0) (N := M186) (r := 0) (e := 1) (s := 0) (by decide) (by omega) (by omega)
          have zz98_6 : (M186.1 98 6).toInt = (M181.1 98 6).toInt := s_fF fM186 (by decide) (rfl); have zz98_8 : (M186.1 98 8).toInt = (M181.1 98 8).toInt := s_fF fM186 (by decide) (rfl); exact hret _ _ _ dX12_readUnit_161 ⟨hM186, (((FR.rf.tr fM175 (by decide)).tr fM181 (by decide)).tr fM186 (by decide)), by omega⟩
        refine y_if_ne C 139 dX12_readUnit_118 (by decide) (by omega) (fun h139 => ?_) (fun h139 => ?_)
        · have u140k := ri_k (M := M115) (by omega) (by omega)
          refine j_aload_n C 1 0 dX12_readUnit_139 rfl rfl ?_
          refine j_callVv C (d := 5) (As := []) (st := []) 98 (s_lt rfl rfl) (s_kc (c := 11) rfl rfl) (by decide) rfl (s1_X12_next hM115 hpr (by omega) (by omega) (by omega)) gX12_readUnit_X12_next rfl hdX12_next (by decide) (Nat.le_of_ble_eq_true rfl) dX12_readUnit_140 rfl (fun M142 h143 => ?_)
          obtain ⟨hM142, fM142, h144⟩ := h143
          refine j_goto C 151 dX12_readUnit_143 (by decide) ?_
          have u145c := xw_c (N := M115) (P := M142) 1 (FR.cell fM142 (by decide)) (by omega)
          have u145t := xw_t (M := M0) (N := M115) (P := M142) (r1 := 0) (e1 := 1) (s1 := 0) (r2 := 0) (e2 := 0) (s2 := 1) 0 1 1 (by decide) (by omega) (by omega)
          have u145l := ri_l (M := M142) (by omega)
          refine j_lv [1, 2, 0] rfl ?_; exact J176 M142 (by omega) hM142 ((FR.rf.tr fM115 (by decide)).tr fM142 (by decide))
        · refine j_aload_n C 1 0 dX12_readUnit_121 rfl rfl ?_
          refine y_bipush C dX12_readUnit_122 rfl ?_
          refine j_callVi C (d := 0) (As := [.int (sI 40)]) (st := []) 98 (s_lt rfl rfl) (s_kc (c := 11) rfl rfl) (by decide) rfl (s1_X12_is hM115 40 (by omega)) gX12_readUnit_X12_is rfl hdX12_is (by decide) (Nat.le_of_ble_eq_true rfl) dX12_readUnit_124 rfl (fun r146 M147 h148 => ?_)
          obtain ⟨a150, rfl, rfl, h149⟩ := h148
          refine y_if_ne C 139 dX12_readUnit_127 (by decide) (by omega) (fun h151 => ?_) (fun h151 => ?_)
          · have u152k := ri_k (M := M115) (by omega) (by omega)
            refine j_aload_n C 1 0 dX12_readUnit_139 rfl rfl ?_
            refine j_callVv C (d := 5) (As := []) (st := []) 98 (s_lt rfl rfl) (s_kc (c := 11) rfl rfl) (by decide) rfl (s1_X12_next hM115 hpr (by omega) (by omega) (by omega)) gX12_readUnit_X12_next rfl hdX12_next (by decide) (Nat.le_of_ble_eq_true rfl) dX12_readUnit_140 rfl (fun M154 h155 => ?_)
            obtain ⟨hM154, fM154, h156⟩ := h155
            refine j_goto C 151 dX12_readUnit_143 (by decide) ?_
            have u157c := xw_c (N := M115) (P := M154) 1 (FR.cell fM154 (by decide)) (by omega)
            have u157t := xw_t (M := M0) (N := M115) (P := M154) (r1 := 0) (e1 := 1) (s1 := 0) (r2 := 0) (e2 := 0) (s2 := 1) 0 1 1 (by decide) (by omega) (by omega)
            have u157l := ri_l (M := M154) (by omega)
            refine j_lv [1, 2, 0] rfl ?_; exact J176 M154 (by omega) hM154 ((FR.rf.tr fM115 (by decide)).tr fM154 (by decide))
          · refine j_aload_n C 1 0 dX12_readUnit_130 rfl rfl ?_
            refine y_bipush C dX12_readUnit_131 rfl ?_
            refine j_callVi C (d := 0) (As := [.int (sI 41)]) (st := []) 98 (s_lt rfl rfl) (s_kc (c := 11) rfl rfl) (by decide) rfl (s1_X12_is hM115 41 (by omega)) gX12_readUnit_X12_is rfl hdX12_is (by decide) (Nat.le_of_ble_eq_true rfl) dX12_readUnit_133 rfl (fun r158 M159 h160 => ?_)
            obtain ⟨a162, rfl, rfl, h161⟩ := h160
            refine y_if_eq C 146 dX12_readUnit_136 (by decide) (by omega) (fun h163 => ?_) (fun h163 => ?_)
            · refine j_aload_n C 1 0 dX12_readUnit_146 rfl rfl ?_
              refine y_iconst C dX12_readUnit_147 ?_
              refine j_callVv C (d := 0) (As := [.int (sI 2)]) (st := []) 98 (s_lt rfl rfl) (s_kc (c := 11) rfl rfl) (by decide) rfl (s1_X12_fails hM115 hpr 2 (by omega) (by omega) (by omega) (by omega)) gX12_readUnit_X12_fails rfl hdX12_fails (by decide) (Nat.le_of_ble_eq_true rfl) dX12_readUnit_148 rfl (fun M165 h166 => ?_)
              obtain ⟨hM165, fM165, h167⟩ := h166
              have u168f : b01 (XW M0 M165 0 1 1) = 1 := b01_i (Or.inl (by omega))
              have u168l := ri_l (M := M165) (by omega)
              refine j_lv [1, 2, 0] rfl ?_; exact J176 M165 (by omega) hM165 ((FR.rf.tr fM115 (by decide)).tr fM165 (by decide))
            · have u169k := ri_k (M := M115) (by omega) (by omega)
              refine j_aload_n C 1 0 dX12_readUnit_139 rfl rfl ?_
              refine j_callVv C (d := 5) (As := []) (st := []) 98 (s_lt rfl rfl) (s_kc (c := 11) rfl rfl) (by decide) rfl (s1_X12_next hM115 hpr (by omega) (by omega) (by omega)) gX12_readUnit_X12_next rfl hdX12_next (by decide) (Nat.le_of_ble_eq_true rfl) dX12_readUnit_140 rfl (fun M171 h172 => ?_)
              obtain ⟨hM171, fM171, h173⟩ := h172
              refine j_goto C 151 dX12_readUnit_143 (by decide) ?_
              have u174c := xw_c (N := M115) (P := M171) 1 (FR.cell fM171 (by decide)) (by omega)
              have u174t := xw_t (M := M0) (N := M115) (P := M171) (r1 := 0) (e1 := 1) (s1 := 0) (r2 := 0) (e2 := 0) (s2 := 1) 0 1 1 (by decide) (by omega) (by omega)
              have u174l := ri_l (M := M171) (by omega)
              refine j_lv [1, 2, 0] rfl ?_; exact J176 M171 (by omega) hM171 ((FR.rf.tr fM115 (by decide)).tr fM171 (by decide))
      refine y_if_eq C 93 dX12_readUnit_84 (by decide) (by omega) (fun h124 => ?_) (fun h124 => ?_)
      · refine j_aload_n C 0 0 dX12_readUnit_93 rfl rfl ?_
        refine y_bipush C dX12_readUnit_94 rfl ?_
        refine j_callVi C (d := 0) (As := [.int (sI 40)]) (st := []) 98 (s_lt rfl rfl) (s_kc (c := 11) rfl rfl) (by decide) rfl (s1_X12_is hM115 40 (by omega)) gX12_readUnit_X12_is rfl hdX12_is (by decide) (Nat.le_of_ble_eq_true rfl) dX12_readUnit_96 rfl (fun r125 M126 h127 => ?_)
        obtain ⟨a129, rfl, rfl, h128⟩ := h127
        refine y_if_eq C 108 dX12_readUnit_99 (by decide) (by omega) (fun h130 => ?_) (fun h130 => ?_)
        · refine y_sipush C dX12_readUnit_108 rfl ?_
          exact J132 3005 (by omega)
        · refine y_sipush C dX12_readUnit_102 rfl ?_
          refine j_goto C 111 dX12_readUnit_105 (by decide) ?_
          exact J132 3004 (by omega)
      · refine y_sipush C dX12_readUnit_87 rfl ?_
        refine j_goto C 111 dX12_readUnit_90 (by decide) ?_
        exact J132 3003 (by omega)
    · have u190k := ri_k (M := M0) (by omega) (by omega)
      refine j_aload_n C 0 0 dX12_readUnit_42 rfl rfl ?_
      refine j_iload_n C 1 1 dX12_readUnit_43 rfl rfl ?_
      refine j_callVi C (d := 6) (As := [.int (sI 5)]) (st := []) 98 (s_lt rfl rfl) (s_kc (c := 11) rfl rfl) (by decide) rfl (s6_X12_goesIn hM0 hpr (by omega) (by omega)) gX12_readUnit_X12_goesIn rfl hdX12_goesIn (by decide) (Nat.le_of_ble_eq_true rfl) dX12_readUnit_44 rfl (fun r191 M192 h193 => ?_)
      obtain ⟨a195, rfl, hM192, fM192, h194⟩ := h193
      refine y_if_ne C 51 dX12_readUnit_47 (by decide) (by omega) (fun h196 => ?_) (fun h196 => ?_)
      · have u197c := xw_c (N := M0) (P := M192) 1 (FR.cell fM192 (by decide)) (by omega)
        have u197t := xw_t (M := M0) (N := M0) (P := M192) (r1 := 0) (e1 := 0) (s1 := 0) (r2 := 0) (e2 := 0) (s2 := 1) 0 0 1 (by decide) (by omega) (by omega)
        have u197a := ca_x (M := M0) (N := M192) (r := 0) (e := 0) (s := 1) (by decide) (by omega) (by omega)
        have u197l := ri_l (M := M192) (by omega)
        refine j_aload_n C 0 0 dX12_readUnit_51 rfl rfl ?_
        refine j_iload_n C 1 1 dX12_readUnit_52 rfl rfl ?_
        refine y_iconst C dX12_readUnit_53 ?_
        refine y_iadd C dX12_readUnit_54 ?_
        refine j_callVv C (d := 12) (As := [.int (sI (5 + 1))]) (st := []) 98 (s_lt rfl rfl) (s_kc (c := 11) rfl rfl) (by decide) rfl (s1_X12_readTruth hM192 hpr (by omega) (by omega) (by omega)) gX12_readUnit_X12_readTruth rfl hdX12_readTruth (by decide) (Nat.le_of_ble_eq_true rfl) dX12_readUnit_55 rfl (fun M199 h200 => ?_)
        obtain ⟨hM199, fM199, h201⟩ := h200
        have u202t := xw_t (M := M0) (N := M192) (P := M199) (r1 := 0) (e1 := 0) (s1 := 1) (r2 := 0) (e2 := 1) (s2 := 0) 0 1 1 (by decide) (by omega) (by omega)
        have u202l := ri_l (M := M199) (by omega)
        refine j_aload_n C 0 0 dX12_readUnit_58 rfl rfl ?_
        refine y_bipush C dX12_readUnit_59 rfl ?_
        refine j_callVi C (d := 6) (As := [.int (sI 38)]) (st := []) 98 (s_lt rfl rfl) (s_kc (c := 11) rfl rfl) (by decide) rfl (s1_X12_eats hM199 hpr 38 (by omega) (by omega) (by omega) (by omega)) gX12_readUnit_X12_eats rfl hdX12_eats (by decide) (Nat.le_of_ble_eq_true rfl) dX12_readUnit_61 rfl (fun r203 M204 h205 => ?_)
        obtain ⟨a207, rfl, hM204, fM204, h206⟩ := h205
        have u208c := xw_c (N := M199) (P := M204) 0 (FR.cell fM204 (by decide)) (by omega)
        have u208t := xw_t (M := M0) (N := M199) (P := M204) (r1 := 0) (e1 := 1) (s1 := 1) (r2 := 0) (e2 := 0) (s2 := 0) 0 1 0 (by decide) (by omega) (by omega)
        have u208l := ri_l (M := M204) (by omega)
        refine y_if_ne C 72 dX12_readUnit_64 (by decide) (by omega) (fun h209 => ?_) (fun h209 => ?_)
        · have u210a := ca_x (M := M0) (N := M204) (r := 0) (e := 1) (s := 0) (by decide) (by omega) (by omega)
          exact hret _ _ _ dX12_readUnit_72 ⟨hM204, (((FR.rf.tr fM192 (by decide)).tr fM199 (by decide)).tr fM204 (by decide)), by omega⟩
        · refine j_aload_n C 0 0 dX12_readUnit_67 rfl rfl ?_
          refine y_iconst C dX12_readUnit_68 ?_
          refine j_callVv C (d := 0) (As := [.int (sI 2)]) (st := []) 98 (s_lt rfl rfl) (s_kc (c := 11) rfl rfl) (by decide) rfl (s1_X12_fails hM204 hpr 2 (by omega) (by omega) (by omega) (by omega)) gX12_readUnit_X12_fails rfl hdX12_fails (by decide) (Nat.le_of_ble_eq_true rfl) dX12_readUnit_69 rfl (fun M212 h213 => ?_)
          obtain ⟨hM212, fM212, h214⟩ := h213
          have u215f : b01 (XW M0 M212 0 1 0) = 1 := b01_i (Or.inl (by omega))
          have u215a := ca_x (M := M0) (N := M212) (r := 0) (e := 1) (s := 0) (by decide) (by omega) (by omega)
          exact hret _ _ _ dX12_readUnit_72 ⟨hM212, ((((FR.rf.tr fM192 (by decide)).tr fM199 (by decide)).tr fM204 (by decide)).tr fM212 (by decide)), by omega⟩
      · have u216f : b01 (XW M0 M192 0 1 0) = 1 := b01_i (Or.inl (by omega))
        have u216a := ca_x (M := M0) (N := M192) (r := 0) (e := 1) (s := 0) (by decide) (by omega) (by omega)
        exact hret _ _ _ dX12_readUnit_50 ⟨hM192, (FR.rf.tr fM192 (by decide)), by omega⟩
  · have u217k := ri_k (M := M0) (by omega) (by omega)
    refine j_aload_n C 0 0 dX12_readUnit_9 rfl rfl ?_
    refine j_iload_n C 1 1 dX12_readUnit_10 rfl rfl ?_
    refine j_callVi C (d := 6) (As := [.int (sI 5)]) (st := []) 98 (s_lt rfl rfl) (s_kc (c := 11) rfl rfl) (by decide) rfl (s6_X12_goesIn hM0 hpr (by omega) (by omega)) gX12_readUnit_X12_goesIn rfl hdX12_goesIn (by decide) (Nat.le_of_ble_eq_true rfl) dX12_readUnit_11 rfl (fun r218 M219 h220 => ?_)
    obtain ⟨a222, rfl, hM219, fM219, h221⟩ := h220
    refine y_if_ne C 18 dX12_readUnit_14 (by decide) (by omega) (fun h223 => ?_) (fun h223 => ?_)
    · have u224c := xw_c (N := M0) (P := M219) 1 (FR.cell fM219 (by decide)) (by omega)
      have u224t := xw_t (M := M0) (N := M0) (P := M219) (r1 := 0) (e1 := 0) (s1 := 0) (r2 := 0) (e2 := 0) (s2 := 1) 0 0 1 (by decide) (by omega) (by omega)
      have u224a := ca_x (M := M0) (N := M219) (r := 0) (e := 0) (s := 1) (by decide) (by omega) (by omega)
      have u224l := ri_l (M := M219) (by omega)
      refine j_aload_n C 0 0 dX12_readUnit_18 rfl rfl ?_
      refine j_iload_n C 1 1 dX12_readUnit_19 rfl rfl ?_
      refine y_iconst C dX12_readUnit_20 ?_
      refine y_iadd C dX12_readUnit_21 ?_
      refine j_callVv C (d := 10) (As := [.int (sI (5 + 1))]) (st := []) 98 (s_lt rfl rfl) (s_kc (c := 11) rfl rfl) (by decide) rfl (s1_X12_readUnit hM219 hpr (by omega) (by omega) (by omega)) gX12_readUnit_X12_readUnit rfl hdX12_readUnit (by decide) (Nat.le_of_ble_eq_true rfl) dX12_readUnit_22 rfl (fun M226 h227 => ?_)
      obtain ⟨hM226, fM226, h228⟩ := h227
      have u229t := xw_t (M := M0) (N := M219) (P := M226) (r1 := 0) (e1 := 0) (s1 := 1) (r2 := 0) (e2 := 1) (s2 := 0) 0 1 1 (by decide) (by omega) (by omega)
      have u229l := ri_l (M := M226) (by omega)
      have u229b := cb_x (M := M0) (N := M226) (r := 0) (e := 1) (s := 1) (by decide) (by omega) (by omega) (by omega)
      refine j_aload_n C 0 0 dX12_readUnit_25 rfl rfl ?_
      refine y_sipush C dX12_readUnit_26 rfl ?_
      refine j_callVv C (d := 0) (As := [.int (sI 3006)]) (st := []) 98 (s_lt rfl rfl) (s_kc (c := 11) rfl rfl) (by decide) rfl (s1_X12_codes hM226 hpr 3006 (by omega) (by omega) (by omega)) gX12_readUnit_X12_codes rfl hdX12_codes (by decide) (Nat.le_of_ble_eq_true rfl) dX12_readUnit_29 rfl (fun M231 h232 => ?_)
      obtain ⟨hM231, fM231, h233⟩ := h232
      have u234x := xw_a (M := M226) (N := M231) (c := 3006) (r := 1) (e := 0) (FR.cell fM231 (by decide)) (ap_not (INV.rd hM226 (i := 102) (c := 48) (k := 280) rfl rfl).1) (by omega)
      have u234t := xw_t (M := M0) (N := M226) (P := M231) (r1 := 0) (e1 := 1) (s1 := 1) (r2 := 1) (e2 := 0) (s2 := (-1)) 0 1 0 (by decide) (by omega) (by omega)
      have u234i := ri_c (M := M226) (N := M231) (FR.cell fM231 (by decide)) (by omega)
      have u234l := ri_l (M := M231) (by omega)
      have u234a := ca_x (M := M0) (N := M231) (r := 0) (e := 1) (s := 0) (by decide) (by omega) (by omega)
      have zz98_6 : (M231.1 98 6).toInt = (M226.1 98 6).toInt := s_fF fM231 (by decide) (rfl); have zz98_8 : (M231.1 98 8).toInt = (M226.1 98 8).toInt := s_fF fM231 (by decide) (rfl); exact hret _ _ _ dX12_readUnit_32 ⟨hM231, (((FR.rf.tr fM219 (by decide)).tr fM226 (by decide)).tr fM231 (by decide)), by omega⟩
    · have u235f : b01 (XW M0 M219 0 1 0) = 1 := b01_i (Or.inl (by omega))
      have u235a := ca_x (M := M0) (N := M219) (r := 0) (e := 1) (s := 0) (by decide) (by omega) (by omega)
      exact hret _ _ _ dX12_readUnit_17 ⟨hM219, (FR.rf.tr fM219 (by decide)), by omega⟩
set_option maxHeartbeats 4000000 in
theorem s2_X12_readBoth {l : Launch} {dC : Nat → ClassId} {dI : Nat → Nat → Nat} {ad : Nat → Nat} {cA : Nat → ClassId} {pr : Nat → Nat → Bool} {Kz : mm_M} {M0 : mm_M} (hM0 : INV pr Kz M0) (hpr : PM pr)  (hp0 : b01 (RIP M0) = 1) (hp1 : b01 (CA M0) = 1) (hp2 : b01 (PI M0) = 1) : Cv l 14 yX12_readBoth wsX12_readBoth dC dI ad cA [.ref (ad 98), .int (sI 5)] M0 (fun M' => INV pr Kz M' ∧ FR [98, 102] M0 M' ∧ (b01 (RIP M') = 1) ∧ ((M'.1 98 8).toInt = (M0.1 98 8).toInt) ∧ ((M0.1 98 6).toInt ≤ (M'.1 98 6).toInt) ∧ (b01 (XW M0 M' 0 1 0) = 1) ∧ (b01 (CA M') = 1) ∧ (b01 (PI M') = 1)) := by
  refine cv_of (cc := cX12_readBoth) (maxL := 2) (lv := [(0, .ref (ad 98)), (1, .int (sI 5))]) (by decide) rfl (Nat.le_of_ble_eq_true rfl) rfl ?_
  intro p e s m args below meth c A Q C hret
  have u101z := xw_0 M0
  have u101l := ri_l (M := M0) (by omega)
  refine j_aload_n C 0 0 dX12_readBoth_0 rfl rfl ?_
  refine j_iload_n C 1 1 dX12_readBoth_1 rfl rfl ?_
  refine j_callVv C (d := 13) (As := [.int (sI 5)]) (st := []) 98 (s_lt rfl rfl) (s_kc (c := 11) rfl rfl) (by decide) rfl (s2_X12_readUnit hM0 hpr (by omega) (by omega) (by omega)) gX12_readBoth_X12_readUnit rfl hdX12_readUnit (by decide) (Nat.le_of_ble_eq_true rfl) dX12_readBoth_2 rfl (fun M103 h104 => ?_)
  obtain ⟨hM103, fM103, h105⟩ := h104
  have u106l := ri_l (M := M103) (by omega)
  have L128 : ∀ (n126 : Nat), ∀ (M129 : mm_M), ((b01 (RIP M129) = 1) ∧ ((M129.1 98 8).toInt = (M0.1 98 8).toInt) ∧ ((M0.1 98 6).toInt ≤ (M129.1 98 6).toInt) ∧ (b01 (XW M0 M129 0 1 0) = 1) ∧ ((M129.1 98 6).toInt ≤ 900) ∧ (b01 (PI M129) = 1) ∧ (900 - (M129.1 98 6).toInt) < (n126 : Int)) → INV pr Kz M129 → FR [98, 102] M0 M129 → jj p l e (cn_R 14) s m args below meth c 0 0 Q 2 dC dI ad cA A M129 5 [(0, .ref (ad 98)), (1, .int (sI 5))] [] := by
    intro n126
    induction n126 with
    | zero =>
      intro M129 h130 hM129 fM129
      exfalso; omega
    | succ n126 ih127 =>
      intro M129 h130 hM129 fM129
      have u131l := ri_l (M := M129) (by omega)
      refine j_aload_n C 0 0 dX12_readBoth_5 rfl rfl ?_
      refine y_bipush C dX12_readBoth_6 rfl ?_
      refine j_callVi C (d := 6) (As := [.int (sI 14)]) (st := []) 98 (s_lt rfl rfl) (s_kc (c := 11) rfl rfl) (by decide) rfl (s1_X12_eats hM129 hpr 14 (by omega) (by omega) (by omega) (by omega)) gX12_readBoth_X12_eats rfl hdX12_eats (by decide) (Nat.le_of_ble_eq_true rfl) dX12_readBoth_8 rfl (fun r132 M133 h134 => ?_)
      obtain ⟨a136, rfl, hM133, fM133, h135⟩ := h134
      refine y_if_eq C 29 dX12_readBoth_11 (by decide) (by omega) (fun h137 => ?_) (fun h137 => ?_)
      · have u149c := xw_c (N := M129) (P := M133) 0 (FR.cell fM133 (by decide)) (by omega)
        have u149t := xw_t (M := M0) (N := M129) (P := M133) (r1 := 0) (e1 := 1) (s1 := 0) (r2 := 0) (e2 := 0) (s2 := 0) 0 1 0 (by decide) (by omega) (by omega)
        have u149a := ca_x (M := M0) (N := M133) (r := 0) (e := 1) (s := 0) (by decide) (by omega) (by omega)
        exact hret _ _ _ dX12_readBoth_29 ⟨hM133, ((FR.rf.tr fM129 (by decide)).tr fM133 (by decide)), by omega⟩
      · have u138c := xw_c (N := M129) (P := M133) 1 (FR.cell fM133 (by decide)) (by omega)
        have u138t := xw_t (M := M0) (N := M129) (P := M133) (r1 := 0) (e1 := 1) (s1 := 0) (r2 := 0) (e2 := 0) (s2 := 1) 0 1 1 (by decide) (by omega) (by omega)
        have u138a := ca_x (M := M0) (N := M133) (r := 0) (e := 1) (s := 1) (by decide) (by omega) (by omega)
        have u138l := ri_l (M := M133) (by omega)
        refine j_aload_n C 0 0 dX12_readBoth_14 rfl rfl ?_
        refine j_iload_n C 1 1 dX12_readBoth_15 rfl rfl ?_
        refine j_callVv C (d := 13) (As := [.int (sI 5)]) (st := []) 98 (s_lt rfl rfl) (s_kc (c := 11) rfl rfl) (by decide) rfl (s2_X12_readUnit hM133 hpr (by omega) (by omega) (by omega)) gX12_readBoth_X12_readUnit rfl hdX12_readUnit (by decide) (Nat.le_of_ble_eq_true rfl) dX12_readBoth_16 rfl (fun M140 h141 => ?_)
        obtain ⟨hM140, fM140, h142⟩ := h141
        have u143t := xw_t (M := M0) (N := M133) (P := M140) (r1 := 0) (e1 := 1) (s1 := 1) (r2 := 0) (e2 := 1) (s2 := 0) 0 2 1 (by decide) (by omega) (by omega)
        have u143l := ri_l (M := M140) (by omega)
        have u143b := cb_x (M := M0) (N := M140) (r := 0) (e := 2) (s := 1) (by decide) (by omega) (by omega) (by omega)
        refine j_aload_n C 0 0 dX12_readBoth_19 rfl rfl ?_
        refine y_sipush C dX12_readBoth_20 rfl ?_
        refine j_callVv C (d := 0) (As := [.int (sI 3007)]) (st := []) 98 (s_lt rfl rfl) (s_kc (c := 11) rfl rfl) (by decide) rfl (s1_X12_codes hM140 hpr 3007 (by omega) (by omega) (by omega)) gX12_readBoth_X12_codes rfl hdX12_codes (by decide) (Nat.le_of_ble_eq_true rfl) dX12_readBoth_23 rfl (fun M145 h146 => ?_)
        obtain ⟨hM145, fM145, h147⟩ := h146
        refine j_goto C 5 dX12_readBoth_26 (by decide) ?_
        have u148x := xw_a (M := M140) (N := M145) (c := 3007) (r := 2) (e := (-1)) (FR.cell fM145 (by decide)) (ap_bin ⟨(INV.rd hM140 (i := 102) (c := 48) (k := 280) rfl rfl).1, by omega, by omega⟩) (by omega)
        have u148t := xw_t (M := M0) (N := M140) (P := M145) (r1 := 0) (e1 := 2) (s1 := 1) (r2 := 2) (e2 := (-1)) (s2 := (-1)) 0 1 0 (by decide) (by omega) (by omega)
        have u148i := ri_c (M := M140) (N := M145) (FR.cell fM145 (by decide)) (by omega)
        have u148l := ri_l (M := M145) (by omega)
        have zz98_8 : (M145.1 98 8).toInt = (M140.1 98 8).toInt := s_fF fM145 (by decide) (rfl); have zz98_6 : (M145.1 98 6).toInt = (M140.1 98 6).toInt := s_fF fM145 (by decide) (rfl); exact ih127 M145 (by omega) hM145 ((((FR.rf.tr fM129 (by decide)).tr fM133 (by decide)).tr fM140 (by decide)).tr fM145 (by decide))
  exact L128 2010 M103 (by omega) hM103 (FR.rf.tr fM103 (by decide))
set_option maxHeartbeats 4000000 in
theorem s2_X12_readTruth {l : Launch} {dC : Nat → ClassId} {dI : Nat → Nat → Nat} {ad : Nat → Nat} {cA : Nat → ClassId} {pr : Nat → Nat → Bool} {Kz : mm_M} {M0 : mm_M} (hM0 : INV pr Kz M0) (hpr : PM pr)  (hp0 : b01 (RIP M0) = 1) (hp1 : b01 (CA M0) = 1) (hp2 : b01 (PI M0) = 1) : Cv l 15 yX12_readTruth wsX12_readTruth dC dI ad cA [.ref (ad 98), .int (sI 5)] M0 (fun M' => INV pr Kz M' ∧ FR [98, 102] M0 M' ∧ (b01 (RIP M') = 1) ∧ ((M'.1 98 8).toInt = (M0.1 98 8).toInt) ∧ ((M0.1 98 6).toInt ≤ (M'.1 98 6).toInt) ∧ (b01 (XW M0 M' 0 1 0) = 1) ∧ (b01 (CA M') = 1) ∧ (b01 (PI M') = 1)) := by
  refine cv_of (cc := cX12_readTruth) (maxL := 2) (lv := [(0, .ref (ad 98)), (1, .int (sI 5))]) (by decide) rfl (Nat.le_of_ble_eq_true rfl) rfl ?_
  intro p e s m args below meth c A Q C hret
  have u101z := xw_0 M0
  have u101l := ri_l (M := M0) (by omega)
  refine j_aload_n C 0 0 dX12_readTruth_0 rfl rfl ?_
  refine j_iload_n C 1 1 dX12_readTruth_1 rfl rfl ?_
  refine j_callVv C (d := 14) (As := [.int (sI 5)]) (st := []) 98 (s_lt rfl rfl) (s_kc (c := 11) rfl rfl) (by decide) rfl (s2_X12_readBoth hM0 hpr (by omega) (by omega) (by omega)) gX12_readTruth_X12_readBoth rfl hdX12_readBoth (by decide) (Nat.le_of_ble_eq_true rfl) dX12_readTruth_2 rfl (fun M103 h104 => ?_)
  obtain ⟨hM103, fM103, h105⟩ := h104
  have u106l := ri_l (M := M103) (by omega)
  have L128 : ∀ (n126 : Nat), ∀ (M129 : mm_M), ((b01 (RIP M129) = 1) ∧ ((M129.1 98 8).toInt = (M0.1 98 8).toInt) ∧ ((M0.1 98 6).toInt ≤ (M129.1 98 6).toInt) ∧ (b01 (XW M0 M129 0 1 0) = 1) ∧ ((M129.1 98 6).toInt ≤ 900) ∧ (b01 (PI M129) = 1) ∧ (900 - (M129.1 98 6).toInt) < (n126 : Int)) → INV pr Kz M129 → FR [98, 102] M0 M129 → jj p l e (cn_R 15) s m args below meth c 0 0 Q 2 dC dI ad cA A M129 5 [(0, .ref (ad 98)), (1, .int (sI 5))] [] := by
    intro n126
    induction n126 with
    | zero =>
      intro M129 h130 hM129 fM129
      exfalso; omega
    | succ n126 ih127 =>
      intro M129 h130 hM129 fM129
      have u131l := ri_l (M := M129) (by omega)
      refine j_aload_n C 0 0 dX12_readTruth_5 rfl rfl ?_
      refine y_bipush C dX12_readTruth_6 rfl ?_
      refine j_callVi C (d := 6) (As := [.int (sI 15)]) (st := []) 98 (s_lt rfl rfl) (s_kc (c := 11) rfl rfl) (by decide) rfl (s1_X12_eats hM129 hpr 15 (by omega) (by omega) (by omega) (by omega)) gX12_readTruth_X12_eats rfl hdX12_eats (by decide) (Nat.le_of_ble_eq_true rfl) dX12_readTruth_8 rfl (fun r132 M133 h134 => ?_)
      obtain ⟨a136, rfl, hM133, fM133, h135⟩ := h134
      refine y_if_eq C 29 dX12_readTruth_11 (by decide) (by omega) (fun h137 => ?_) (fun h137 => ?_)
      · have u149c := xw_c (N := M129) (P := M133) 0 (FR.cell fM133 (by decide)) (by omega)
        have u149t := xw_t (M := M0) (N := M129) (P := M133) (r1 := 0) (e1 := 1) (s1 := 0) (r2 := 0) (e2 := 0) (s2 := 0) 0 1 0 (by decide) (by omega) (by omega)
        have u149a := ca_x (M := M0) (N := M133) (r := 0) (e := 1) (s := 0) (by decide) (by omega) (by omega)
        exact hret _ _ _ dX12_readTruth_29 ⟨hM133, ((FR.rf.tr fM129 (by decide)).tr fM133 (by decide)), by omega⟩
      · have u138c := xw_c (N := M129) (P := M133) 1 (FR.cell fM133 (by decide)) (by omega)
        have u138t := xw_t (M := M0) (N := M129) (P := M133) (r1 := 0) (e1 := 1) (s1 := 0) (r2 := 0) (e2 := 0) (s2 := 1) 0 1 1 (by decide) (by omega) (by omega)
        have u138a := ca_x (M := M0) (N := M133) (r := 0) (e := 1) (s := 1) (by decide) (by omega) (by omega)
        have u138l := ri_l (M := M133) (by omega)
        refine j_aload_n C 0 0 dX12_readTruth_14 rfl rfl ?_
        refine j_iload_n C 1 1 dX12_readTruth_15 rfl rfl ?_
        refine j_callVv C (d := 14) (As := [.int (sI 5)]) (st := []) 98 (s_lt rfl rfl) (s_kc (c := 11) rfl rfl) (by decide) rfl (s2_X12_readBoth hM133 hpr (by omega) (by omega) (by omega)) gX12_readTruth_X12_readBoth rfl hdX12_readBoth (by decide) (Nat.le_of_ble_eq_true rfl) dX12_readTruth_16 rfl (fun M140 h141 => ?_)
        obtain ⟨hM140, fM140, h142⟩ := h141
        have u143t := xw_t (M := M0) (N := M133) (P := M140) (r1 := 0) (e1 := 1) (s1 := 1) (r2 := 0) (e2 := 1) (s2 := 0) 0 2 1 (by decide) (by omega) (by omega)
        have u143l := ri_l (M := M140) (by omega)
        have u143b := cb_x (M := M0) (N := M140) (r := 0) (e := 2) (s := 1) (by decide) (by omega) (by omega) (by omega)
        refine j_aload_n C 0 0 dX12_readTruth_19 rfl rfl ?_
        refine y_sipush C dX12_readTruth_20 rfl ?_
        refine j_callVv C (d := 0) (As := [.int (sI 3008)]) (st := []) 98 (s_lt rfl rfl) (s_kc (c := 11) rfl rfl) (by decide) rfl (s1_X12_codes hM140 hpr 3008 (by omega) (by omega) (by omega)) gX12_readTruth_X12_codes rfl hdX12_codes (by decide) (Nat.le_of_ble_eq_true rfl) dX12_readTruth_23 rfl (fun M145 h146 => ?_)
        obtain ⟨hM145, fM145, h147⟩ := h146
        refine j_goto C 5 dX12_readTruth_26 (by decide) ?_
        have u148x := xw_a (M := M140) (N := M145) (c := 3008) (r := 2) (e := (-1)) (FR.cell fM145 (by decide)) (ap_bin ⟨(INV.rd hM140 (i := 102) (c := 48) (k := 280) rfl rfl).1, by omega, by omega⟩) (by omega)
        have u148t := xw_t (M := M0) (N := M140) (P := M145) (r1 := 0) (e1 := 2) (s1 := 1) (r2 := 2) (e2 := (-1)) (s2 := (-1)) 0 1 0 (by decide) (by omega) (by omega)
        have u148i := ri_c (M := M140) (N := M145) (FR.cell fM145 (by decide)) (by omega)
        have u148l := ri_l (M := M145) (by omega)
        have zz98_8 : (M145.1 98 8).toInt = (M140.1 98 8).toInt := s_fF fM145 (by decide) (rfl); have zz98_6 : (M145.1 98 6).toInt = (M140.1 98 6).toInt := s_fF fM145 (by decide) (rfl); exact ih127 M145 (by omega) hM145 ((((FR.rf.tr fM129 (by decide)).tr fM133 (by decide)).tr fM140 (by decide)).tr fM145 (by decide))
  exact L128 2010 M103 (by omega) hM103 (FR.rf.tr fM103 (by decide))
set_option maxHeartbeats 4000000 in
theorem s3_X12_readUnit {l : Launch} {dC : Nat → ClassId} {dI : Nat → Nat → Nat} {ad : Nat → Nat} {cA : Nat → ClassId} {pr : Nat → Nat → Bool} {Kz : mm_M} {M0 : mm_M} (hM0 : INV pr Kz M0) (hpr : PM pr)  (hp0 : b01 (RIP M0) = 1) (hp1 : b01 (CA M0) = 1) (hp2 : b01 (PI M0) = 1) : Cv l 16 yX12_readUnit wsX12_readUnit dC dI ad cA [.ref (ad 98), .int (sI 4)] M0 (fun M' => INV pr Kz M' ∧ FR [98, 102] M0 M' ∧ (b01 (RIP M') = 1) ∧ ((M'.1 98 8).toInt = (M0.1 98 8).toInt) ∧ ((M0.1 98 6).toInt ≤ (M'.1 98 6).toInt) ∧ (b01 (XW M0 M' 0 1 0) = 1) ∧ (b01 (CA M') = 1) ∧ (b01 (PI M') = 1)) := by
  refine cv_of (cc := cX12_readUnit) (maxL := 3) (lv := [(0, .ref (ad 98)), (1, .int (sI 4))]) (by decide) rfl (Nat.le_of_ble_eq_true rfl) rfl ?_
  intro p e s m args below meth c A Q C hret
  have u101z := xw_0 M0
  have u101l := ri_l (M := M0) (by omega)
  refine j_aload_n C 0 0 dX12_readUnit_0 rfl rfl ?_
  refine y_bipush C dX12_readUnit_1 rfl ?_
  refine j_callVi C (d := 0) (As := [.int (sI 16)]) (st := []) 98 (s_lt rfl rfl) (s_kc (c := 11) rfl rfl) (by decide) rfl (s1_X12_is hM0 16 (by omega)) gX12_readUnit_X12_is rfl hdX12_is (by decide) (Nat.le_of_ble_eq_true rfl) dX12_readUnit_3 rfl (fun r102 M103 h104 => ?_)
  obtain ⟨a106, rfl, rfl, h105⟩ := h104
  refine y_if_eq C 33 dX12_readUnit_6 (by decide) (by omega) (fun h107 => ?_) (fun h107 => ?_)
  · refine j_aload_n C 0 0 dX12_readUnit_33 rfl rfl ?_
    refine y_bipush C dX12_readUnit_34 rfl ?_
    refine j_callVi C (d := 0) (As := [.int (sI 37)]) (st := []) 98 (s_lt rfl rfl) (s_kc (c := 11) rfl rfl) (by decide) rfl (s1_X12_is hM0 37 (by omega)) gX12_readUnit_X12_is rfl hdX12_is (by decide) (Nat.le_of_ble_eq_true rfl) dX12_readUnit_36 rfl (fun r108 M109 h110 => ?_)
    obtain ⟨a112, rfl, rfl, h111⟩ := h110
    refine y_if_eq C 73 dX12_readUnit_39 (by decide) (by omega) (fun h113 => ?_) (fun h113 => ?_)
    · refine j_aload_n C 0 0 dX12_readUnit_73 rfl rfl ?_
      refine j_iload_n C 1 1 dX12_readUnit_74 rfl rfl ?_
      refine j_callVv C (d := 15) (As := [.int (sI 4)]) (st := []) 98 (s_lt rfl rfl) (s_kc (c := 11) rfl rfl) (by decide) rfl (s3_X12_readSum hM0 hpr (by omega) (by omega) (by omega)) gX12_readUnit_X12_readSum rfl hdX12_readSum (by decide) (Nat.le_of_ble_eq_true rfl) dX12_readUnit_75 rfl (fun M115 h116 => ?_)
      obtain ⟨hM115, fM115, h117⟩ := h116
      have u118l := ri_l (M := M115) (by omega)
      refine j_aload_n C 0 0 dX12_readUnit_78 rfl rfl ?_
      refine y_bipush C dX12_readUnit_79 rfl ?_
      refine j_callVi C (d := 0) (As := [.int (sI 39)]) (st := []) 98 (s_lt rfl rfl) (s_kc (c := 11) rfl rfl) (by decide) rfl (s1_X12_is hM115 39 (by omega)) gX12_readUnit_X12_is rfl hdX12_is (by decide) (Nat.le_of_ble_eq_true rfl) dX12_readUnit_81 rfl (fun r119 M120 h121 => ?_)
      obtain ⟨a123, rfl, rfl, h122⟩ := h121
      have J132 : ∀ (a131 : Int), (3003 ≤ a131 ∧ a131 ≤ 3005) → jj p l e (cn_R 16) s m args below meth c 0 0 Q 3 dC dI ad cA A M115 111 [(0, .ref (ad 98)), (1, .int (sI 4))] [.int (sI a131)] := by
        intro a131 h133
        refine j_istore_n C 2 [(2, .int (sI a131)), (0, .ref (ad 98)), (1, .int (sI 4))] dX12_readUnit_111 rfl (by decide) rfl ?_
        refine j_aload_n C 1 0 dX12_readUnit_112 rfl rfl ?_
        refine y_bipush C dX12_readUnit_113 rfl ?_
        refine j_callVi C (d := 0) (As := [.int (sI 39)]) (st := []) 98 (s_lt rfl rfl) (s_kc (c := 11) rfl rfl) (by decide) rfl (s1_X12_is hM115 39 (by omega)) gX12_readUnit_X12_is rfl hdX12_is (by decide) (Nat.le_of_ble_eq_true rfl) dX12_readUnit_115 rfl (fun r134 M135 h136 => ?_)
        obtain ⟨a138, rfl, rfl, h137⟩ := h136
        have J176 : ∀ (M175 : mm_M), ((b01 (RIP M175) = 1) ∧ ((M175.1 98 8).toInt = (M0.1 98 8).toInt) ∧ ((M0.1 98 6).toInt ≤ (M175.1 98 6).toInt) ∧ (b01 (XW M0 M175 0 1 1) = 1) ∧ (b01 (PI M175) = 1)) → INV pr Kz M175 → FR [98, 102] M0 M175 → jj p l e (cn_R 16) s m args below meth c 0 0 Q 3 dC dI ad cA A M175 151 [(0, .ref (ad 98)), (1, .int (sI 4)), (2, .int (sI a131))] [] := by
          intro M175 h177 hM175 fM175
          have u179a := ca_x (M := M0) (N := M175) (r := 0) (e := 1) (s := 1) (by decide) (by omega) (by omega)
          have u179l := ri_l (M := M175) (by omega)
          refine j_aload_n C 0 0 dX12_readUnit_151 rfl rfl ?_
          refine j_iload_n C 1 1 dX12_readUnit_152 rfl rfl ?_
          refine j_callVv C (d := 15) (As := [.int (sI 4)]) (st := []) 98 (s_lt rfl rfl) (s_kc (c := 11) rfl rfl) (by decide) rfl (s3_X12_readSum hM175 hpr (by omega) (by omega) (by omega)) gX12_readUnit_X12_readSum rfl hdX12_readSum (by decide) (Nat.le_of_ble_eq_true rfl) dX12_readUnit_153 rfl (fun M181 h182 => ?_)
          obtain ⟨hM181, fM181, h183⟩ := h182
          have u184t := xw_t (M := M0) (N := M175) (P := M181) (r1 := 0) (e1 := 1) (s1 := 1) (r2 := 0) (e2 := 1) (s2 := 0) 0 2 1 (by decide) (by omega) (by omega)
          have u184l := ri_l (M := M181) (by omega)
          have u184b := cb_x (M := M0) (N := M181) (r := 0) (e := 2) (s := 1) (by decide) (by omega) (by omega) (by omega)
          refine j_aload_n C 0 0 dX12_readUnit_156 rfl rfl ?_
          refine j_iload_n C 2 2 dX12_readUnit_157 rfl rfl ?_
          refine j_callVv C (d := 0) (As := [.int (sI a131)]) (st := []) 98 (s_lt rfl rfl) (s_kc (c := 11) rfl rfl) (by decide) rfl (s1_X12_codes hM181 hpr a131 (by omega) (by omega) (by omega)) gX12_readUnit_X12_codes rfl hdX12_codes (by decide) (Nat.le_of_ble_eq_true rfl) dX12_readUnit_158 rfl (fun M186 h187 => ?_)
          obtain ⟨hM186, fM186, h188⟩ := h187
          have u189x := xw_a (M := M181) (N := M186) (c := a131) (r := 2) (e := (-1)) (FR.cell fM186 (by decide)) (ap_bin ⟨(INV.rd hM181 (i := 102) (c := 48) (k := 280) rfl rfl).1, by omega, by omega⟩) (by omega)
          have u189t := xw_t (M := M0) (N := M181) (P := M186) (r1 := 0) (e1 := 2) (s1 := 1) (r2 := 2) (e2 := (-1)) (s2 := (-1)) 0 1 0 (by decide) (by omega) (by omega)
          have u189i := ri_c (M := M181) (N := M186) (FR.cell fM186 (by decide)) (by omega)
          have u189l := ri_l (M := M186) (by omega)
          have u189a := ca_x (M := M0) (N := M186) (r := 0) (e := 1) (s := 0) (by decide) (by omega) (by omega)
          have zz98_6 : (M186.1 98 6).toInt = (M181.1 98 6).toInt := s_fF fM186 (by decide) (rfl); have zz98_8 : (M186.1 98 8).toInt = (M181.1 98 8).toInt := s_fF fM186 (by decide) (rfl); exact hret _ _ _ dX12_readUnit_161 ⟨hM186, (((FR.rf.tr fM175 (by decide)).tr fM181 (by decide)).tr fM186 (by decide)), by omega⟩
        refine y_if_ne C 139 dX12_readUnit_118 (by decide) (by omega) (fun h139 => ?_) (fun h139 => ?_)
        · have u140k := ri_k (M := M115) (by omega) (by omega)
          refine j_aload_n C 1 0 dX12_readUnit_139 rfl rfl ?_
          refine j_callVv C (d := 5) (As := []) (st := []) 98 (s_lt rfl rfl) (s_kc (c := 11) rfl rfl) (by decide) rfl (s1_X12_next hM115 hpr (by omega) (by omega) (by omega)) gX12_readUnit_X12_next rfl hdX12_next (by decide) (Nat.le_of_ble_eq_true rfl) dX12_readUnit_140 rfl (fun M142 h143 => ?_)
          obtain ⟨hM142, fM142, h144⟩ := h143
          refine j_goto C 151 dX12_readUnit_143 (by decide) ?_
          have u145c := xw_c (N := M115) (P := M142) 1 (FR.cell fM142 (by decide)) (by omega)
          have u145t := xw_t (M := M0) (N := M115) (P := M142) (r1 := 0) (e1 := 1) (s1 := 0) (r2 := 0) (e2 := 0) (s2 := 1) 0 1 1 (by decide) (by omega) (by omega)
          have u145l := ri_l (M := M142) (by omega)
          refine j_lv [1, 2, 0] rfl ?_; exact J176 M142 (by omega) hM142 ((FR.rf.tr fM115 (by decide)).tr fM142 (by decide))
        · refine j_aload_n C 1 0 dX12_readUnit_121 rfl rfl ?_
          refine y_bipush C dX12_readUnit_122 rfl ?_
          refine j_callVi C (d := 0) (As := [.int (sI 40)]) (st := []) 98 (s_lt rfl rfl) (s_kc (c := 11) rfl rfl) (by decide) rfl (s1_X12_is hM115 40 (by omega)) gX12_readUnit_X12_is rfl hdX12_is (by decide) (Nat.le_of_ble_eq_true rfl) dX12_readUnit_124 rfl (fun r146 M147 h148 => ?_)
          obtain ⟨a150, rfl, rfl, h149⟩ := h148
          refine y_if_ne C 139 dX12_readUnit_127 (by decide) (by omega) (fun h151 => ?_) (fun h151 => ?_)
          · have u152k := ri_k (M := M115) (by omega) (by omega)
            refine j_aload_n C 1 0 dX12_readUnit_139 rfl rfl ?_
            refine j_callVv C (d := 5) (As := []) (st := []) 98 (s_lt rfl rfl) (s_kc (c := 11) rfl rfl) (by decide) rfl (s1_X12_next hM115 hpr (by omega) (by omega) (by omega)) gX12_readUnit_X12_next rfl hdX12_next (by decide) (Nat.le_of_ble_eq_true rfl) dX12_readUnit_140 rfl (fun M154 h155 => ?_)
            obtain ⟨hM154, fM154, h156⟩ := h155
            refine j_goto C 151 dX12_readUnit_143 (by decide) ?_
            have u157c := xw_c (N := M115) (P := M154) 1 (FR.cell fM154 (by decide)) (by omega)
            have u157t := xw_t (M := M0) (N := M115) (P := M154) (r1 := 0) (e1 := 1) (s1 := 0) (r2 := 0) (e2 := 0) (s2 := 1) 0 1 1 (by decide) (by omega) (by omega)
            have u157l := ri_l (M := M154) (by omega)
            refine j_lv [1, 2, 0] rfl ?_; exact J176 M154 (by omega) hM154 ((FR.rf.tr fM115 (by decide)).tr fM154 (by decide))
          · refine j_aload_n C 1 0 dX12_readUnit_130 rfl rfl ?_
            refine y_bipush C dX12_readUnit_131 rfl ?_
            refine j_callVi C (d := 0) (As := [.int (sI 41)]) (st := []) 98 (s_lt rfl rfl) (s_kc (c := 11) rfl rfl) (by decide) rfl (s1_X12_is hM115 41 (by omega)) gX12_readUnit_X12_is rfl hdX12_is (by decide) (Nat.le_of_ble_eq_true rfl) dX12_readUnit_133 rfl (fun r158 M159 h160 => ?_)
            obtain ⟨a162, rfl, rfl, h161⟩ := h160
            refine y_if_eq C 146 dX12_readUnit_136 (by decide) (by omega) (fun h163 => ?_) (fun h163 => ?_)
            · refine j_aload_n C 1 0 dX12_readUnit_146 rfl rfl ?_
              refine y_iconst C dX12_readUnit_147 ?_
              refine j_callVv C (d := 0) (As := [.int (sI 2)]) (st := []) 98 (s_lt rfl rfl) (s_kc (c := 11) rfl rfl) (by decide) rfl (s1_X12_fails hM115 hpr 2 (by omega) (by omega) (by omega) (by omega)) gX12_readUnit_X12_fails rfl hdX12_fails (by decide) (Nat.le_of_ble_eq_true rfl) dX12_readUnit_148 rfl (fun M165 h166 => ?_)
              obtain ⟨hM165, fM165, h167⟩ := h166
              have u168f : b01 (XW M0 M165 0 1 1) = 1 := b01_i (Or.inl (by omega))
              have u168l := ri_l (M := M165) (by omega)
              refine j_lv [1, 2, 0] rfl ?_; exact J176 M165 (by omega) hM165 ((FR.rf.tr fM115 (by decide)).tr fM165 (by decide))
            · have u169k := ri_k (M := M115) (by omega) (by omega)
              refine j_aload_n C 1 0 dX12_readUnit_139 rfl rfl ?_
              refine j_callVv C (d := 5) (As := []) (st := []) 98 (s_lt rfl rfl) (s_kc (c := 11) rfl rfl) (by decide) rfl (s1_X12_next hM115 hpr (by omega) (by omega) (by omega)) gX12_readUnit_X12_next rfl hdX12_next (by decide) (Nat.le_of_ble_eq_true rfl) dX12_readUnit_140 rfl (fun M171 h172 => ?_)
              obtain ⟨hM171, fM171, h173⟩ := h172
              refine j_goto C 151 dX12_readUnit_143 (by decide) ?_
              have u174c := xw_c (N := M115) (P := M171) 1 (FR.cell fM171 (by decide)) (by omega)
              have u174t := xw_t (M := M0) (N := M115) (P := M171) (r1 := 0) (e1 := 1) (s1 := 0) (r2 := 0) (e2 := 0) (s2 := 1) 0 1 1 (by decide) (by omega) (by omega)
              have u174l := ri_l (M := M171) (by omega)
              refine j_lv [1, 2, 0] rfl ?_; exact J176 M171 (by omega) hM171 ((FR.rf.tr fM115 (by decide)).tr fM171 (by decide))
      refine y_if_eq C 93 dX12_readUnit_84 (by decide) (by omega) (fun h124 => ?_) (fun h124 => ?_)
      · refine j_aload_n C 0 0 dX12_readUnit_93 rfl rfl ?_
        refine y_bipush C dX12_readUnit_94 rfl ?_
        refine j_callVi C (d := 0) (As := [.int (sI 40)]) (st := []) 98 (s_lt rfl rfl) (s_kc (c := 11) rfl rfl) (by decide) rfl (s1_X12_is hM115 40 (by omega)) gX12_readUnit_X12_is rfl hdX12_is (by decide) (Nat.le_of_ble_eq_true rfl) dX12_readUnit_96 rfl (fun r125 M126 h127 => ?_)
        obtain ⟨a129, rfl, rfl, h128⟩ := h127
        refine y_if_eq C 108 dX12_readUnit_99 (by decide) (by omega) (fun h130 => ?_) (fun h130 => ?_)
        · refine y_sipush C dX12_readUnit_108 rfl ?_
          exact J132 3005 (by omega)
        · refine y_sipush C dX12_readUnit_102 rfl ?_
          refine j_goto C 111 dX12_readUnit_105 (by decide) ?_
          exact J132 3004 (by omega)
      · refine y_sipush C dX12_readUnit_87 rfl ?_
        refine j_goto C 111 dX12_readUnit_90 (by decide) ?_
        exact J132 3003 (by omega)
    · have u190k := ri_k (M := M0) (by omega) (by omega)
      refine j_aload_n C 0 0 dX12_readUnit_42 rfl rfl ?_
      refine j_iload_n C 1 1 dX12_readUnit_43 rfl rfl ?_
      refine j_callVi C (d := 6) (As := [.int (sI 4)]) (st := []) 98 (s_lt rfl rfl) (s_kc (c := 11) rfl rfl) (by decide) rfl (s5_X12_goesIn hM0 hpr (by omega) (by omega)) gX12_readUnit_X12_goesIn rfl hdX12_goesIn (by decide) (Nat.le_of_ble_eq_true rfl) dX12_readUnit_44 rfl (fun r191 M192 h193 => ?_)
      obtain ⟨a195, rfl, hM192, fM192, h194⟩ := h193
      refine y_if_ne C 51 dX12_readUnit_47 (by decide) (by omega) (fun h196 => ?_) (fun h196 => ?_)
      · have u197c := xw_c (N := M0) (P := M192) 1 (FR.cell fM192 (by decide)) (by omega)
        have u197t := xw_t (M := M0) (N := M0) (P := M192) (r1 := 0) (e1 := 0) (s1 := 0) (r2 := 0) (e2 := 0) (s2 := 1) 0 0 1 (by decide) (by omega) (by omega)
        have u197a := ca_x (M := M0) (N := M192) (r := 0) (e := 0) (s := 1) (by decide) (by omega) (by omega)
        have u197l := ri_l (M := M192) (by omega)
        refine j_aload_n C 0 0 dX12_readUnit_51 rfl rfl ?_
        refine j_iload_n C 1 1 dX12_readUnit_52 rfl rfl ?_
        refine y_iconst C dX12_readUnit_53 ?_
        refine y_iadd C dX12_readUnit_54 ?_
        refine j_callVv C (d := 15) (As := [.int (sI (4 + 1))]) (st := []) 98 (s_lt rfl rfl) (s_kc (c := 11) rfl rfl) (by decide) rfl (s2_X12_readTruth hM192 hpr (by omega) (by omega) (by omega)) gX12_readUnit_X12_readTruth rfl hdX12_readTruth (by decide) (Nat.le_of_ble_eq_true rfl) dX12_readUnit_55 rfl (fun M199 h200 => ?_)
        obtain ⟨hM199, fM199, h201⟩ := h200
        have u202t := xw_t (M := M0) (N := M192) (P := M199) (r1 := 0) (e1 := 0) (s1 := 1) (r2 := 0) (e2 := 1) (s2 := 0) 0 1 1 (by decide) (by omega) (by omega)
        have u202l := ri_l (M := M199) (by omega)
        refine j_aload_n C 0 0 dX12_readUnit_58 rfl rfl ?_
        refine y_bipush C dX12_readUnit_59 rfl ?_
        refine j_callVi C (d := 6) (As := [.int (sI 38)]) (st := []) 98 (s_lt rfl rfl) (s_kc (c := 11) rfl rfl) (by decide) rfl (s1_X12_eats hM199 hpr 38 (by omega) (by omega) (by omega) (by omega)) gX12_readUnit_X12_eats rfl hdX12_eats (by decide) (Nat.le_of_ble_eq_true rfl) dX12_readUnit_61 rfl (fun r203 M204 h205 => ?_)
        obtain ⟨a207, rfl, hM204, fM204, h206⟩ := h205
        have u208c := xw_c (N := M199) (P := M204) 0 (FR.cell fM204 (by decide)) (by omega)
        have u208t := xw_t (M := M0) (N := M199) (P := M204) (r1 := 0) (e1 := 1) (s1 := 1) (r2 := 0) (e2 := 0) (s2 := 0) 0 1 0 (by decide) (by omega) (by omega)
        have u208l := ri_l (M := M204) (by omega)
        refine y_if_ne C 72 dX12_readUnit_64 (by decide) (by omega) (fun h209 => ?_) (fun h209 => ?_)
        · have u210a := ca_x (M := M0) (N := M204) (r := 0) (e := 1) (s := 0) (by decide) (by omega) (by omega)
          exact hret _ _ _ dX12_readUnit_72 ⟨hM204, (((FR.rf.tr fM192 (by decide)).tr fM199 (by decide)).tr fM204 (by decide)), by omega⟩
        · refine j_aload_n C 0 0 dX12_readUnit_67 rfl rfl ?_
          refine y_iconst C dX12_readUnit_68 ?_
          refine j_callVv C (d := 0) (As := [.int (sI 2)]) (st := []) 98 (s_lt rfl rfl) (s_kc (c := 11) rfl rfl) (by decide) rfl (s1_X12_fails hM204 hpr 2 (by omega) (by omega) (by omega) (by omega)) gX12_readUnit_X12_fails rfl hdX12_fails (by decide) (Nat.le_of_ble_eq_true rfl) dX12_readUnit_69 rfl (fun M212 h213 => ?_)
          obtain ⟨hM212, fM212, h214⟩ := h213
          have u215f : b01 (XW M0 M212 0 1 0) = 1 := b01_i (Or.inl (by omega))
          have u215a := ca_x (M := M0) (N := M212) (r := 0) (e := 1) (s := 0) (by decide) (by omega) (by omega)
          exact hret _ _ _ dX12_readUnit_72 ⟨hM212, ((((FR.rf.tr fM192 (by decide)).tr fM199 (by decide)).tr fM204 (by decide)).tr fM212 (by decide)), by omega⟩
      · have u216f : b01 (XW M0 M192 0 1 0) = 1 := b01_i (Or.inl (by omega))
        have u216a := ca_x (M := M0) (N := M192) (r := 0) (e := 1) (s := 0) (by decide) (by omega) (by omega)
        exact hret _ _ _ dX12_readUnit_50 ⟨hM192, (FR.rf.tr fM192 (by decide)), by omega⟩
  · have u217k := ri_k (M := M0) (by omega) (by omega)
    refine j_aload_n C 0 0 dX12_readUnit_9 rfl rfl ?_
    refine j_iload_n C 1 1 dX12_readUnit_10 rfl rfl ?_
    refine j_callVi C (d := 6) (As := [.int (sI 4)]) (st := []) 98 (s_lt rfl rfl) (s_kc (c := 11) rfl rfl) (by decide) rfl (s5_X12_goesIn hM0 hpr (by omega) (by omega)) gX12_readUnit_X12_goesIn rfl hdX12_goesIn (by decide) (Nat.le_of_ble_eq_true rfl) dX12_readUnit_11 rfl (fun r218 M219 h220 => ?_)
    obtain ⟨a222, rfl, hM219, fM219, h221⟩ := h220
    refine y_if_ne C 18 dX12_readUnit_14 (by decide) (by omega) (fun h223 => ?_) (fun h223 => ?_)
    · have u224c := xw_c (N := M0) (P := M219) 1 (FR.cell fM219 (by decide)) (by omega)
      have u224t := xw_t (M := M0) (N := M0) (P := M219) (r1 := 0) (e1 := 0) (s1 := 0) (r2 := 0) (e2 := 0) (s2 := 1) 0 0 1 (by decide) (by omega) (by omega)
      have u224a := ca_x (M := M0) (N := M219) (r := 0) (e := 0) (s := 1) (by decide) (by omega) (by omega)
      have u224l := ri_l (M := M219) (by omega)
      refine j_aload_n C 0 0 dX12_readUnit_18 rfl rfl ?_
      refine j_iload_n C 1 1 dX12_readUnit_19 rfl rfl ?_
      refine y_iconst C dX12_readUnit_20 ?_
      refine y_iadd C dX12_readUnit_21 ?_
      refine j_callVv C (d := 13) (As := [.int (sI (4 + 1))]) (st := []) 98 (s_lt rfl rfl) (s_kc (c := 11) rfl rfl) (by decide) rfl (s2_X12_readUnit hM219 hpr (by omega) (by omega) (by omega)) gX12_readUnit_X12_readUnit rfl hdX12_readUnit (by decide) (Nat.le_of_ble_eq_true rfl) dX12_readUnit_22 rfl (fun M226 h227 => ?_)
      obtain ⟨hM226, fM226, h228⟩ := h227
      have u229t := xw_t (M := M0) (N := M219) (P := M226) (r1 := 0) (e1 := 0) (s1 := 1) (r2 := 0) (e2 := 1) (s2 := 0) 0 1 1 (by decide) (by omega) (by omega)
      have u229l := ri_l (M := M226) (by omega)
      have u229b := cb_x (M := M0) (N := M226) (r := 0) (e := 1) (s := 1) (by decide) (by omega) (by omega) (by omega)
      refine j_aload_n C 0 0 dX12_readUnit_25 rfl rfl ?_
      refine y_sipush C dX12_readUnit_26 rfl ?_
      refine j_callVv C (d := 0) (As := [.int (sI 3006)]) (st := []) 98 (s_lt rfl rfl) (s_kc (c := 11) rfl rfl) (by decide) rfl (s1_X12_codes hM226 hpr 3006 (by omega) (by omega) (by omega)) gX12_readUnit_X12_codes rfl hdX12_codes (by decide) (Nat.le_of_ble_eq_true rfl) dX12_readUnit_29 rfl (fun M231 h232 => ?_)
      obtain ⟨hM231, fM231, h233⟩ := h232
      have u234x := xw_a (M := M226) (N := M231) (c := 3006) (r := 1) (e := 0) (FR.cell fM231 (by decide)) (ap_not (INV.rd hM226 (i := 102) (c := 48) (k := 280) rfl rfl).1) (by omega)
      have u234t := xw_t (M := M0) (N := M226) (P := M231) (r1 := 0) (e1 := 1) (s1 := 1) (r2 := 1) (e2 := 0) (s2 := (-1)) 0 1 0 (by decide) (by omega) (by omega)
      have u234i := ri_c (M := M226) (N := M231) (FR.cell fM231 (by decide)) (by omega)
      have u234l := ri_l (M := M231) (by omega)
      have u234a := ca_x (M := M0) (N := M231) (r := 0) (e := 1) (s := 0) (by decide) (by omega) (by omega)
      have zz98_6 : (M231.1 98 6).toInt = (M226.1 98 6).toInt := s_fF fM231 (by decide) (rfl); have zz98_8 : (M231.1 98 8).toInt = (M226.1 98 8).toInt := s_fF fM231 (by decide) (rfl); exact hret _ _ _ dX12_readUnit_32 ⟨hM231, (((FR.rf.tr fM219 (by decide)).tr fM226 (by decide)).tr fM231 (by decide)), by omega⟩
    · have u235f : b01 (XW M0 M219 0 1 0) = 1 := b01_i (Or.inl (by omega))
      have u235a := ca_x (M := M0) (N := M219) (r := 0) (e := 1) (s := 0) (by decide) (by omega) (by omega)
      exact hret _ _ _ dX12_readUnit_17 ⟨hM219, (FR.rf.tr fM219 (by decide)), by omega⟩
