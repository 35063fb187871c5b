set_option maxHeartbeats 4000000 in
theorem s1_X12_plain {l : Launch} {dC : Nat → ClassId} {dI : Nat → Nat → Nat} {ad : Nat → Nat} {cA : Nat → ClassId} {pr : Nat → Nat → Bool} {Kz : mm_M} {M0 : mm_M} (hM0 : INV pr Kz M0) (hpr : PM pr)  (hp0 : b01 (PI M0) = 1) : Cv l 0 yX12_plain wsX12_plain dC dI ad cA [.ref (ad 102)] M0 (fun M' => INV pr Kz M' ∧ FR [102] M0 M' ∧ (b01 (ZR M' 1181) = 1) ∧ (b01 (PI M') = 1)) := by
  refine cv_of (cc := cX12_plain) (maxL := 2) (lv := [(0, .ref (ad 102))]) (by decide) rfl (Nat.le_of_ble_eq_true rfl) rfl ?_
  intro p e s m args below meth c A Q C hret
  refine y_iconst C dX12_plain_0 ?_
  refine j_istore_n C 1 [(1, .int (sI 0)), (0, .ref (ad 102))] dX12_plain_1 rfl (by decide) rfl ?_
  have u101 := zr_0 M0
  have L110 : ∀ (n108 : Nat), ∀ (a111 : Int) (M112 : mm_M), (0 ≤ a111 ∧ a111 ≤ 1181 ∧ (b01 (ZR M112 a111) = 1) ∧ (b01 (PI M112) = 1) ∧ (1181 - a111) < (n108 : Int)) → INV pr Kz M112 → FR [102] M0 M112 → jj p l e (cn_R 0) s m args below meth c 0 0 Q 2 dC dI ad cA A M112 2 [(0, .ref (ad 102)), (1, .int (sI a111))] [] := by
    intro n108
    induction n108 with
    | zero =>
      intro a111 M112 h113 hM112 fM112
      exfalso; omega
    | succ n108 ih109 =>
      intro a111 M112 h113 hM112 fM112
      refine j_iload_n C 1 1 dX12_plain_2 rfl rfl ?_
      refine y_sipush C dX12_plain_3 rfl ?_
      refine y_icmp_ge C 19 dX12_plain_6 (by decide) (by exact ⟨⟨(by omega), (by omega)⟩, ⟨(by decide), (by decide)⟩⟩) (fun h114 => ?_) (fun h114 => ?_)
      · obtain rfl : a111 = 1181 := by omega
        exact hret _ _ _ dX12_plain_19 ⟨hM112, (FR.rf.tr fM112 (by decide)), by exact ⟨h113.2.2.1, h113.2.2.2.1⟩⟩
      · refine j_aload_n C 0 0 dX12_plain_9 rfl rfl ?_
        refine j_iload_n C 1 1 dX12_plain_10 rfl rfl ?_
        refine y_iconst C dX12_plain_11 ?_
        refine y_iastR C 48 1181 rfl rfl rfl ak_48 an_48 rfl hM112 (PM.w hpr rfl rfl) dX12_plain_12 (by exact ⟨h113.1, (by omega)⟩) (by exact ⟨(by decide), (by decide)⟩) (b48_0 _) (fun M115 eM115 hM115 => ?_)
        have pM115 := pi_o eM115 (by decide) (by decide) (by exact h113.2.2.2.1)
        have u116 := zr_s (k := a111) eM115 (by exact h113.1) (by exact h113.2.2.1)
        refine y_iinc C 1 [(1, .int (sI (a111 + 1))), (0, .ref (ad 102))] dX12_plain_13 rfl (by decide) rfl ?_
        refine j_goto C 2 dX12_plain_16 (by decide) ?_
        refine j_lv [1, 0] rfl ?_; exact ih109 (a111 + 1) M115 (by exact ⟨(by (clear hM115 eM115 fM112 hM112 ih109 u101 hret C hp0 hpr hM0; omega)), ⟨(by (clear hM115 eM115 fM112 hM112 ih109 u101 hret C hp0 hpr hM0; omega)), ⟨u116, ⟨pM115, (by (clear hM115 eM115 fM112 hM112 ih109 u101 hret C hp0 hpr hM0; omega))⟩⟩⟩⟩) hM115 ((FR.rf.tr fM112 (by decide)).wI eM115 (by decide))
  refine j_lv [1, 0] rfl ?_; exact L110 2372 0 M0 (by exact ⟨(by decide), ⟨(by decide), ⟨u101, ⟨hp0, (by decide)⟩⟩⟩⟩) hM0 FR.rf
set_option maxHeartbeats 4000000 in
theorem s1_X12_see {l : Launch} {dC : Nat → ClassId} {dI : Nat → Nat → Nat} {ad : Nat → Nat} {cA : Nat → ClassId} {pr : Nat → Nat → Bool} {Kz : mm_M} {M0 : mm_M} (hM0 : INV pr Kz M0) (a1 : Int) (ha1 : -2147483648 ≤ a1 ∧ a1 ≤ 2147483647) (hp0 : 0 ≤ a1 ∧ a1 ≤ 900) : Ci l 0 yX12_see wsX12_see dC dI ad cA [.ref (ad 98), .int (sI a1)] M0 (fun r M' => ∃ a : Int, r = sI a ∧ M0 = M' ∧ (-1) ≤ a ∧ a ≤ 255 ∧ (a1 < (M0.1 98 8).toInt ∧ a = (M0.1 101 (a1).toNat).toInt ∨ ¬ a1 < (M0.1 98 8).toInt ∧ a = -1)) := by
  refine ci_of (cc := cX12_see) (maxL := 2) (ty := .int) (lv := [(0, .ref (ad 98)), (1, .int (sI a1))]) (by decide) rfl (fun r M' hp => rfl) (Nat.le_of_ble_eq_true rfl) rfl ?_
  intro p e s m args below meth c A Q C hret
  refine j_iload_n C 1 1 dX12_see_0 rfl rfl ?_
  refine j_aload_n C 0 0 dX12_see_1 rfl rfl ?_
  refine y_getI C 11 _ _ fX12_see_83 rfl rfl ft_11_8 sb_11_8 hM0 dX12_see_2 (fun a101 ea101 la101 ua101 => ?_)
  obtain rfl : a101 = (M0.1 98 8).toInt := ea101
  refine y_icmp_ge C 17 dX12_see_5 (by decide) (by exact ⟨⟨ha1.1, ha1.2⟩, ⟨(by omega), (by omega)⟩⟩) (fun h103 => ?_) (fun h103 => ?_)
  · refine y_iconst C dX12_see_17 ?_
    exact hret _ _ _ _ dX12_see_18 ⟨(-1), rfl, rfl, by exact ⟨(by decide), ⟨(by decide), (by omega)⟩⟩⟩
  · refine j_aload_n C 0 0 dX12_see_8 rfl rfl ?_
    refine y_getC C 11 101 fX12_see_21 rfl rfl ft_11_3 sm_11_3 rfl hM0 dX12_see_9 ?_
    refine j_iload_n C 1 1 dX12_see_12 rfl rfl ?_
    refine y_iald C 47 900 _ _ rfl rfl rfl ak_47 an_47 rfl (sb_47 _) hM0 dX12_see_13 (by exact ⟨hp0.1, (by omega)⟩) (fun a104 ea104 la104 ua104 => ?_)
    obtain rfl : a104 = (M0.1 101 (a1).toNat).toInt := ea104
    refine j_goto C 18 dX12_see_14 (by decide) ?_
    exact hret _ _ _ _ dX12_see_18 ⟨(M0.1 101 (a1).toNat).toInt, rfl, rfl, by exact ⟨(by (clear ua101 la101 hret C hp0 ha1 hM0; omega)), ⟨ua104, (by (clear ua101 la101 hret C hp0 ha1 hM0; omega))⟩⟩⟩
set_option maxHeartbeats 4000000 in
theorem s1_X12_isSmall {l : Launch} {dC : Nat → ClassId} {dI : Nat → Nat → Nat} {ad : Nat → Nat} {cA : Nat → ClassId} {pr : Nat → Nat → Bool} {Kz : mm_M} {M0 : mm_M} (hM0 : INV pr Kz M0) (a0 : Int) (ha0 : -2147483648 ≤ a0 ∧ a0 ≤ 2147483647) : Ci l 0 yX12_isSmall wsX12_isSmall dC dI ad cA [.int (sI a0)] M0 (fun r M' => ∃ a : Int, r = sI a ∧ M0 = M' ∧ 0 ≤ a ∧ a ≤ 1 ∧ ((a0 < 97 ∧ a = 0) ∨ (97 ≤ a0 ∧ 122 < a0 ∧ a = 0) ∨ (97 ≤ a0 ∧ a0 ≤ 122 ∧ a = 1))) := by
  refine ci_of (cc := cX12_isSmall) (maxL := 1) (ty := .boolean) (lv := [(0, .int (sI a0))]) (by decide) rfl (fun r M' hp => by obtain ⟨a, rfl, -, h⟩ := hp; rcases (show a = 0 ∨ a = 1 by omega) with rfl | rfl <;> rfl) (Nat.le_of_ble_eq_true rfl) rfl ?_
  intro p e s m args below meth c A Q C hret
  refine j_iload_n C 0 0 dX12_isSmall_0 rfl rfl ?_
  refine y_bipush C dX12_isSmall_1 rfl ?_
  refine y_icmp_lt C 16 dX12_isSmall_3 (by decide) (by exact ⟨⟨ha0.1, ha0.2⟩, ⟨(by decide), (by decide)⟩⟩) (fun h101 => ?_) (fun h101 => ?_)
  · refine y_iconst C dX12_isSmall_16 ?_
    exact hret _ _ _ _ dX12_isSmall_17 ⟨0, rfl, rfl, by exact ⟨(by decide), ⟨(by decide), (by omega)⟩⟩⟩
  · refine j_iload_n C 0 0 dX12_isSmall_6 rfl rfl ?_
    refine y_bipush C dX12_isSmall_7 rfl ?_
    refine y_icmp_gt C 16 dX12_isSmall_9 (by decide) (by exact ⟨⟨ha0.1, ha0.2⟩, ⟨(by decide), (by decide)⟩⟩) (fun h102 => ?_) (fun h102 => ?_)
    · refine y_iconst C dX12_isSmall_16 ?_
      exact hret _ _ _ _ dX12_isSmall_17 ⟨0, rfl, rfl, by exact ⟨(by decide), ⟨(by decide), (by omega)⟩⟩⟩
    · refine y_iconst C dX12_isSmall_12 ?_
      refine j_goto C 17 dX12_isSmall_13 (by decide) ?_
      exact hret _ _ _ _ dX12_isSmall_17 ⟨1, rfl, rfl, by exact ⟨(by decide), ⟨(by decide), (by omega)⟩⟩⟩
set_option maxHeartbeats 4000000 in
theorem s1_X12_isDigit {l : Launch} {dC : Nat → ClassId} {dI : Nat → Nat → Nat} {ad : Nat → Nat} {cA : Nat → ClassId} {pr : Nat → Nat → Bool} {Kz : mm_M} {M0 : mm_M} (hM0 : INV pr Kz M0) (a0 : Int) (ha0 : -2147483648 ≤ a0 ∧ a0 ≤ 2147483647) : Ci l 0 yX12_isDigit wsX12_isDigit dC dI ad cA [.int (sI a0)] M0 (fun r M' => ∃ a : Int, r = sI a ∧ M0 = M' ∧ 0 ≤ a ∧ a ≤ 1 ∧ ((a0 < 48 ∧ a = 0) ∨ (48 ≤ a0 ∧ 57 < a0 ∧ a = 0) ∨ (48 ≤ a0 ∧ a0 ≤ 57 ∧ a = 1))) := by
  refine ci_of (cc := cX12_isDigit) (maxL := 1) (ty := .boolean) (lv := [(0, .int (sI a0))]) (by decide) rfl (fun r M' hp => by obtain ⟨a, rfl, -, h⟩ := hp; rcases (show a = 0 ∨ a = 1 by omega) with rfl | rfl <;> rfl) (Nat.le_of_ble_eq_true rfl) rfl ?_
  intro p e s m args below meth c A Q C hret
  refine j_iload_n C 0 0 dX12_isDigit_0 rfl rfl ?_
  refine y_bipush C dX12_isDigit_1 rfl ?_
  refine y_icmp_lt C 16 dX12_isDigit_3 (by decide) (by exact ⟨⟨ha0.1, ha0.2⟩, ⟨(by decide), (by decide)⟩⟩) (fun h101 => ?_) (fun h101 => ?_)
  · refine y_iconst C dX12_isDigit_16 ?_
    exact hret _ _ _ _ dX12_isDigit_17 ⟨0, rfl, rfl, by exact ⟨(by decide), ⟨(by decide), (by omega)⟩⟩⟩
  · refine j_iload_n C 0 0 dX12_isDigit_6 rfl rfl ?_
    refine y_bipush C dX12_isDigit_7 rfl ?_
    refine y_icmp_gt C 16 dX12_isDigit_9 (by decide) (by exact ⟨⟨ha0.1, ha0.2⟩, ⟨(by decide), (by decide)⟩⟩) (fun h102 => ?_) (fun h102 => ?_)
    · refine y_iconst C dX12_isDigit_16 ?_
      exact hret _ _ _ _ dX12_isDigit_17 ⟨0, rfl, rfl, by exact ⟨(by decide), ⟨(by decide), (by omega)⟩⟩⟩
    · refine y_iconst C dX12_isDigit_12 ?_
      refine j_goto C 17 dX12_isDigit_13 (by decide) ?_
      exact hret _ _ _ _ dX12_isDigit_17 ⟨1, rfl, rfl, by exact ⟨(by decide), ⟨(by decide), (by omega)⟩⟩⟩
set_option maxHeartbeats 4000000 in
theorem s2_J0_coder_7d493 {l : Launch} {dC : Nat → ClassId} {dI : Nat → Nat → Nat} {ad : Nat → Nat} {cA : Nat → ClassId} {pr : Nat → Nat → Bool} {Kz : mm_M} {M0 : mm_M} (hM0 : INV pr Kz M0)  : Ci l 0 yJ0_coder_7d493 wsJ0_coder_7d493 dC dI ad cA [.ref (dI 1000 3)] M0 (fun r M' => ∃ a : Int, r = sI a ∧ M0 = M' ∧ 0 ≤ a ∧ a ≤ 0 ∧ ((a = 0))) := by
  refine ci_of (cc := cJ0_coder_7d493) (maxL := 1) (ty := .byte) (lv := [(0, .ref (dI 1000 3))]) (by decide) rfl (fun r M' hp => by obtain ⟨a, rfl, -, h⟩ := hp; exact nar_byte (by exact ⟨h.1, (by omega)⟩)) (Nat.le_of_ble_eq_true rfl) rfl ?_
  intro p e s m args below meth c A Q C hret
  refine j_getsC C fJ0_coder_7d493_38 dJ0_coder_7d493_0 ?_
  refine y_if_eq C 13 dJ0_coder_7d493_3 (by decide) (by exact ⟨(by decide), (by decide)⟩) (fun h101 => ?_) (fun h101 => ?_)
  · exfalso; omega
  · refine j_aload_n C 0 0 dJ0_coder_7d493_6 rfl rfl ?_
    refine j_strC C (by decide) fJ0_coder_7d493_15 dJ0_coder_7d493_7 ?_
    refine j_goto C 14 dJ0_coder_7d493_10 (by decide) ?_
    exact hret _ _ _ _ dJ0_coder_7d493_14 ⟨0, rfl, rfl, by omega⟩
set_option maxHeartbeats 4000000 in
theorem s2_J0_length_8abf5 {l : Launch} {dC : Nat → ClassId} {dI : Nat → Nat → Nat} {ad : Nat → Nat} {cA : Nat → ClassId} {pr : Nat → Nat → Bool} {Kz : mm_M} {M0 : mm_M} (hM0 : INV pr Kz M0)  : Ci l 1 yJ0_length_8abf5 wsJ0_length_8abf5 dC dI ad cA [.ref (dI 1000 3)] M0 (fun r M' => ∃ a : Int, r = sI a ∧ M0 = M' ∧ 0 ≤ a ∧ a ≤ 12 ∧ (a = 12)) := by
  refine ci_of (cc := cJ0_length_8abf5) (maxL := 1) (ty := .int) (lv := [(0, .ref (dI 1000 3))]) (by decide) rfl (fun r M' hp => rfl) (Nat.le_of_ble_eq_true rfl) rfl ?_
  intro p e s m args below meth c A Q C hret
  refine j_aload_n C 0 0 dJ0_length_8abf5_0 rfl rfl ?_
  refine j_strV C (by decide) fJ0_length_8abf5_9 dJ0_length_8abf5_1 ?_
  refine j_strL C 12 (by decide) rfl dJ0_length_8abf5_4 ?_
  refine j_aload_n C 0 0 dJ0_length_8abf5_5 rfl rfl ?_
  refine j_callSS C (d := 0) (As := []) (st := [.int (sI 12)]) 3 (by decide) (s2_J0_coder_7d493 hM0) gJ0_length_8abf5_J0_coder_7d493 rfl hdJ0_coder_7d493 (by decide) (Nat.le_of_ble_eq_true rfl) dJ0_length_8abf5_6 rfl (fun r101 M102 h103 => ?_)
  obtain ⟨a105, rfl, rfl, h104⟩ := h103
  refine e_ishrP C dJ0_length_8abf5_9 (by exact ⟨(by decide), (by decide)⟩) (fun lb106 ub106 => ?_)
  have u107k : (shrI 12 a105) = 12 := by rw [show a105 = 0 by exact h104.2.2]; decide
  exact hret _ _ _ _ dJ0_length_8abf5_10 ⟨(shrI 12 a105), rfl, rfl, by exact ⟨lb106, ⟨ub106, u107k⟩⟩⟩
set_option maxHeartbeats 4000000 in
theorem s3_J0_isLatin1_aae02 {l : Launch} {dC : Nat → ClassId} {dI : Nat → Nat → Nat} {ad : Nat → Nat} {cA : Nat → ClassId} {pr : Nat → Nat → Bool} {Kz : mm_M} {M0 : mm_M} (hM0 : INV pr Kz M0)  : Ci l 0 yJ0_isLatin1_aae02 wsJ0_isLatin1_aae02 dC dI ad cA [.ref (dI 1000 3)] M0 (fun r M' => ∃ a : Int, r = sI a ∧ M0 = M' ∧ 1 ≤ a ∧ a ≤ 1 ∧ ((a = 1))) := by
  refine ci_of (cc := cJ0_isLatin1_aae02) (maxL := 1) (ty := .boolean) (lv := [(0, .ref (dI 1000 3))]) (by decide) rfl (fun r M' hp => by obtain ⟨a, rfl, -, h⟩ := hp; rcases (show a = 0 ∨ a = 1 by omega) with rfl | rfl <;> rfl) (Nat.le_of_ble_eq_true rfl) rfl ?_
  intro p e s m args below meth c A Q C hret
  refine j_getsC C fJ0_isLatin1_aae02_38 dJ0_isLatin1_aae02_0 ?_
  refine y_if_eq C 17 dJ0_isLatin1_aae02_3 (by decide) (by exact ⟨(by decide), (by decide)⟩) (fun h101 => ?_) (fun h101 => ?_)
  · exfalso; omega
  · refine j_aload_n C 0 0 dJ0_isLatin1_aae02_6 rfl rfl ?_
    refine j_strC C (by decide) fJ0_isLatin1_aae02_15 dJ0_isLatin1_aae02_7 ?_
    refine y_if_ne C 17 dJ0_isLatin1_aae02_10 (by decide) (by exact ⟨(by decide), (by decide)⟩) (fun h102 => ?_) (fun h102 => ?_)
    · exfalso; omega
    · refine y_iconst C dJ0_isLatin1_aae02_13 ?_
      refine j_goto C 18 dJ0_isLatin1_aae02_14 (by decide) ?_
      exact hret _ _ _ _ dJ0_isLatin1_aae02_18 ⟨1, rfl, rfl, by omega⟩
set_option maxHeartbeats 4000000 in
theorem s2_J0_charAt_5068e {l : Launch} {dC : Nat → ClassId} {dI : Nat → Nat → Nat} {ad : Nat → Nat} {cA : Nat → ClassId} {pr : Nat → Nat → Bool} {Kz : mm_M} {M0 : mm_M} (hM0 : INV pr Kz M0) (a1 : Int) (ha1 : -2147483648 ≤ a1 ∧ a1 ≤ 2147483647) (hp0 : 0 ≤ a1 ∧ a1 ≤ 11) : Ci l 3 yJ0_charAt_5068e wsJ0_charAt_5068e dC dI ad cA [.ref (dI 1000 3), .int (sI a1)] M0 (fun r M' => ∃ a : Int, r = sI a ∧ M0 = M' ∧ 0 ≤ a ∧ a ≤ 127 ∧ (a = ((js_byt 3).getD (a1).toNat 0).toInt)) := by
  refine ci_of (cc := cJ0_charAt_5068e) (maxL := 2) (ty := .char) (lv := [(0, .ref (dI 1000 3)), (1, .int (sI a1))]) (by decide) rfl (fun r M' hp => by obtain ⟨a, rfl, -, h⟩ := hp; exact nar_char (by exact ⟨h.1, h.2.1⟩)) (Nat.le_of_ble_eq_true rfl) rfl ?_
  intro p e s m args below meth c A Q C hret
  refine j_aload_n C 0 0 dJ0_charAt_5068e_0 rfl rfl ?_
  refine j_callSS C (d := 0) (As := []) (st := []) 3 (by decide) (s3_J0_isLatin1_aae02 hM0) gJ0_charAt_5068e_J0_isLatin1_aae02 rfl hdJ0_isLatin1_aae02 (by decide) (Nat.le_of_ble_eq_true rfl) dJ0_charAt_5068e_1 rfl (fun r101 M102 h103 => ?_)
  obtain ⟨a105, rfl, rfl, h104⟩ := h103
  refine y_if_eq C 16 dJ0_charAt_5068e_4 (by decide) (by omega) (fun h106 => ?_) (fun h106 => ?_)
  · exfalso; omega
  · refine j_aload_n C 0 0 dJ0_charAt_5068e_7 rfl rfl ?_
    refine j_strV C (by decide) fJ0_charAt_5068e_9 dJ0_charAt_5068e_8 ?_
    refine j_iload_n C 1 1 dJ0_charAt_5068e_11 rfl rfl ?_
    refine j_callSi C (d := 2) (As := [.ref (dI 1001 3), .int (sI a1)]) (st := []) (h_J1_charAt_3 (fun a b h => s1_J0_checkIndex_df160 hM0 a (by omega) b (by exact ⟨(by omega), h.2.2⟩) (by exact h.2.1) (by exact ⟨h.1, (by omega)⟩)) a1 (by exact ⟨hp0.1, (by omega)⟩)) gJ0_charAt_5068e_J1_charAt_3b067 rfl hdJ1_charAt_3b067s (by decide) (Nat.le_of_ble_eq_true rfl) dJ0_charAt_5068e_12 rfl (fun r107 M108 h109 => ?_)
    obtain ⟨a111, rfl, rfl, h110⟩ := h109
    exact hret _ _ _ _ dJ0_charAt_5068e_15 ⟨a111, rfl, rfl, by exact ⟨h110.1, ⟨h110.2.1, h110.2.2⟩⟩⟩
set_option maxHeartbeats 4000000 in
theorem s3_J0_coder_7d493 {l : Launch} {dC : Nat → ClassId} {dI : Nat → Nat → Nat} {ad : Nat → Nat} {cA : Nat → ClassId} {pr : Nat → Nat → Bool} {Kz : mm_M} {M0 : mm_M} (hM0 : INV pr Kz M0)  : Ci l 0 yJ0_coder_7d493 wsJ0_coder_7d493 dC dI ad cA [.ref (dI 1000 2)] M0 (fun r M' => ∃ a : Int, r = sI a ∧ M0 = M' ∧ 0 ≤ a ∧ a ≤ 0 ∧ ((a = 0))) := by
  refine ci_of (cc := cJ0_coder_7d493) (maxL := 1) (ty := .byte) (lv := [(0, .ref (dI 1000 2))]) (by decide) rfl (fun r M' hp => by obtain ⟨a, rfl, -, h⟩ := hp; exact nar_byte (by exact ⟨h.1, (by omega)⟩)) (Nat.le_of_ble_eq_true rfl) rfl ?_
  intro p e s m args below meth c A Q C hret
  refine j_getsC C fJ0_coder_7d493_38 dJ0_coder_7d493_0 ?_
  refine y_if_eq C 13 dJ0_coder_7d493_3 (by decide) (by exact ⟨(by decide), (by decide)⟩) (fun h101 => ?_) (fun h101 => ?_)
  · exfalso; omega
  · refine j_aload_n C 0 0 dJ0_coder_7d493_6 rfl rfl ?_
    refine j_strC C (by decide) fJ0_coder_7d493_15 dJ0_coder_7d493_7 ?_
    refine j_goto C 14 dJ0_coder_7d493_10 (by decide) ?_
    exact hret _ _ _ _ dJ0_coder_7d493_14 ⟨0, rfl, rfl, by omega⟩
set_option maxHeartbeats 4000000 in
theorem s3_J0_length_8abf5 {l : Launch} {dC : Nat → ClassId} {dI : Nat → Nat → Nat} {ad : Nat → Nat} {cA : Nat → ClassId} {pr : Nat → Nat → Bool} {Kz : mm_M} {M0 : mm_M} (hM0 : INV pr Kz M0)  : Ci l 1 yJ0_length_8abf5 wsJ0_length_8abf5 dC dI ad cA [.ref (dI 1000 2)] M0 (fun r M' => ∃ a : Int, r = sI a ∧ M0 = M' ∧ 0 ≤ a ∧ a ≤ 88 ∧ (a = 88)) := by
  refine ci_of (cc := cJ0_length_8abf5) (maxL := 1) (ty := .int) (lv := [(0, .ref (dI 1000 2))]) (by decide) rfl (fun r M' hp => rfl) (Nat.le_of_ble_eq_true rfl) rfl ?_
  intro p e s m args below meth c A Q C hret
  refine j_aload_n C 0 0 dJ0_length_8abf5_0 rfl rfl ?_
  refine j_strV C (by decide) fJ0_length_8abf5_9 dJ0_length_8abf5_1 ?_
  refine j_strL C 88 (by decide) rfl dJ0_length_8abf5_4 ?_
  refine j_aload_n C 0 0 dJ0_length_8abf5_5 rfl rfl ?_
  refine j_callSS C (d := 0) (As := []) (st := [.int (sI 88)]) 2 (by decide) (s3_J0_coder_7d493 hM0) gJ0_length_8abf5_J0_coder_7d493 rfl hdJ0_coder_7d493 (by decide) (Nat.le_of_ble_eq_true rfl) dJ0_length_8abf5_6 rfl (fun r101 M102 h103 => ?_)
  obtain ⟨a105, rfl, rfl, h104⟩ := h103
  refine e_ishrP C dJ0_length_8abf5_9 (by exact ⟨(by decide), (by decide)⟩) (fun lb106 ub106 => ?_)
  have u107k : (shrI 88 a105) = 88 := by rw [show a105 = 0 by exact h104.2.2]; decide
  exact hret _ _ _ _ dJ0_length_8abf5_10 ⟨(shrI 88 a105), rfl, rfl, by exact ⟨lb106, ⟨ub106, u107k⟩⟩⟩
set_option maxHeartbeats 4000000 in
theorem s4_J0_isLatin1_aae02 {l : Launch} {dC : Nat → ClassId} {dI : Nat → Nat → Nat} {ad : Nat → Nat} {cA : Nat → ClassId} {pr : Nat → Nat → Bool} {Kz : mm_M} {M0 : mm_M} (hM0 : INV pr Kz M0)  : Ci l 0 yJ0_isLatin1_aae02 wsJ0_isLatin1_aae02 dC dI ad cA [.ref (dI 1000 2)] M0 (fun r M' => ∃ a : Int, r = sI a ∧ M0 = M' ∧ 1 ≤ a ∧ a ≤ 1 ∧ ((a = 1))) := by
  refine ci_of (cc := cJ0_isLatin1_aae02) (maxL := 1) (ty := .boolean) (lv := [(0, .ref (dI 1000 2))]) (by decide) rfl (fun r M' hp => by obtain ⟨a, rfl, -, h⟩ := hp; rcases (show a = 0 ∨ a = 1 by omega) with rfl | rfl <;> rfl) (Nat.le_of_ble_eq_true rfl) rfl ?_
  intro p e s m args below meth c A Q C hret
  refine j_getsC C fJ0_isLatin1_aae02_38 dJ0_isLatin1_aae02_0 ?_
  refine y_if_eq C 17 dJ0_isLatin1_aae02_3 (by decide) (by exact ⟨(by decide), (by decide)⟩) (fun h101 => ?_) (fun h101 => ?_)
  · exfalso; omega
  · refine j_aload_n C 0 0 dJ0_isLatin1_aae02_6 rfl rfl ?_
    refine j_strC C (by decide) fJ0_isLatin1_aae02_15 dJ0_isLatin1_aae02_7 ?_
    refine y_if_ne C 17 dJ0_isLatin1_aae02_10 (by decide) (by exact ⟨(by decide), (by decide)⟩) (fun h102 => ?_) (fun h102 => ?_)
    · exfalso; omega
    · refine y_iconst C dJ0_isLatin1_aae02_13 ?_
      refine j_goto C 18 dJ0_isLatin1_aae02_14 (by decide) ?_
      exact hret _ _ _ _ dJ0_isLatin1_aae02_18 ⟨1, rfl, rfl, by omega⟩
set_option maxHeartbeats 4000000 in
theorem s3_J0_charAt_5068e {l : Launch} {dC : Nat → ClassId} {dI : Nat → Nat → Nat} {ad : Nat → Nat} {cA : Nat → ClassId} {pr : Nat → Nat → Bool} {Kz : mm_M} {M0 : mm_M} (hM0 : INV pr Kz M0) (a1 : Int) (ha1 : -2147483648 ≤ a1 ∧ a1 ≤ 2147483647) (hp0 : 0 ≤ a1 ∧ a1 ≤ 87) : Ci l 3 yJ0_charAt_5068e wsJ0_charAt_5068e dC dI ad cA [.ref (dI 1000 2), .int (sI a1)] M0 (fun r M' => ∃ a : Int, r = sI a ∧ M0 = M' ∧ 0 ≤ a ∧ a ≤ 127 ∧ (a = 32 ∨ a1 + 1 < 88) ∧ (a = ((js_byt 2).getD (a1).toNat 0).toInt)) := by
  refine ci_of (cc := cJ0_charAt_5068e) (maxL := 2) (ty := .char) (lv := [(0, .ref (dI 1000 2)), (1, .int (sI a1))]) (by decide) rfl (fun r M' hp => by obtain ⟨a, rfl, -, h⟩ := hp; exact nar_char (by exact ⟨h.1, h.2.1⟩)) (Nat.le_of_ble_eq_true rfl) rfl ?_
  intro p e s m args below meth c A Q C hret
  refine j_aload_n C 0 0 dJ0_charAt_5068e_0 rfl rfl ?_
  refine j_callSS C (d := 0) (As := []) (st := []) 2 (by decide) (s4_J0_isLatin1_aae02 hM0) gJ0_charAt_5068e_J0_isLatin1_aae02 rfl hdJ0_isLatin1_aae02 (by decide) (Nat.le_of_ble_eq_true rfl) dJ0_charAt_5068e_1 rfl (fun r101 M102 h103 => ?_)
  obtain ⟨a105, rfl, rfl, h104⟩ := h103
  refine y_if_eq C 16 dJ0_charAt_5068e_4 (by decide) (by omega) (fun h106 => ?_) (fun h106 => ?_)
  · exfalso; omega
  · refine j_aload_n C 0 0 dJ0_charAt_5068e_7 rfl rfl ?_
    refine j_strV C (by decide) fJ0_charAt_5068e_9 dJ0_charAt_5068e_8 ?_
    refine j_iload_n C 1 1 dJ0_charAt_5068e_11 rfl rfl ?_
    refine j_callSi C (d := 2) (As := [.ref (dI 1001 2), .int (sI a1)]) (st := []) (h_J1_charAt_2 (fun a b h => s1_J0_checkIndex_df160 hM0 a (by omega) b (by exact ⟨(by omega), h.2.2⟩) (by exact h.2.1) (by exact ⟨h.1, (by omega)⟩)) a1 (by exact ⟨hp0.1, (by omega)⟩)) gJ0_charAt_5068e_J1_charAt_3b067 rfl hdJ1_charAt_3b067s (by decide) (Nat.le_of_ble_eq_true rfl) dJ0_charAt_5068e_12 rfl (fun r107 M108 h109 => ?_)
    obtain ⟨a111, rfl, rfl, h110⟩ := h109
    exact hret _ _ _ _ dJ0_charAt_5068e_15 ⟨a111, rfl, rfl, by exact ⟨h110.1, ⟨h110.2.1, ⟨h110.2.2.2, h110.2.2.1⟩⟩⟩⟩
set_option maxHeartbeats 4000000 in
theorem s1_X12_keyAt {l : Launch} {dC : Nat → ClassId} {dI : Nat → Nat → Nat} {ad : Nat → Nat} {cA : Nat → ClassId} {pr : Nat → Nat → Bool} {Kz : mm_M} {M0 : mm_M} (hM0 : INV pr Kz M0) (gf : Nat → Int) (gn : Int) (hp0 : b01 (TPM gf gn M0) = 1) (hp1 : 0 ≤ (M0.1 98 6).toInt ∧ (M0.1 98 6).toInt < (M0.1 98 7).toInt) (hp2 : (M0.1 98 7).toInt ≤ gn) : Ci l 4 yX12_keyAt wsX12_keyAt dC dI ad cA [.ref (ad 98)] M0 (fun r M' => ∃ a : Int, r = sI a ∧ M0 = M' ∧ 0 ≤ a ∧ a ≤ 88 ∧ (a = kdF (twF gf (M0.1 98 6).toInt ((M0.1 98 7).toInt - (M0.1 98 6).toInt)))) := by
  refine ci_of (cc := cX12_keyAt) (maxL := 4) (ty := .int) (lv := [(0, .ref (ad 98))]) (by decide) rfl (fun r M' hp => rfl) (Nat.le_of_ble_eq_true rfl) rfl ?_
  intro p e s m args below meth c A Q C hret
  refine y_iconst C dX12_keyAt_0 ?_
  refine j_istore_n C 1 [(1, .int (sI 0)), (0, .ref (ad 98))] dX12_keyAt_1 rfl (by decide) rfl ?_
  refine y_iconst C dX12_keyAt_2 ?_
  refine j_istore_n C 2 [(2, .int (sI 1)), (1, .int (sI 0)), (0, .ref (ad 98))] dX12_keyAt_3 rfl (by decide) rfl ?_
  have u101z := nk_0 gf (M0.1 98 6).toInt ((M0.1 98 7).toInt - (M0.1 98 6).toInt)
  have u101k : ((koF (0 : Int).toNat : Nat) : Int) = 1 := by decide
  have L230 : ∀ (n228 : Nat), ∀ (a231 : Int) (a232 : Int), (0 ≤ a231 ∧ a231 ≤ 88 ∧ 1 ≤ a232 ∧ a232 ≤ 88 ∧ (a231 < a232) ∧ (a232 = (koF (a231).toNat : Int)) ∧ (b01 (NOK gf (M0.1 98 6).toInt ((M0.1 98 7).toInt - (M0.1 98 6).toInt) a231) = 1) ∧ (a231 ≤ 17) ∧ (88 - a232) < (n228 : Int)) → jj p l e (cn_R 4) s m args below meth c 0 0 Q 4 dC dI ad cA A M0 4 [(0, .ref (ad 98)), (1, .int (sI a231)), (2, .int (sI a232))] [] := by
    intro n228
    induction n228 with
    | zero =>
      intro a231 a232 h233
      exfalso; omega
    | succ n228 ih229 =>
      intro a231 a232 h233
      have u234o := ko_o a231
      refine j_iload_n C 2 2 dX12_keyAt_4 rfl rfl ?_
      refine j_ldcS C 2 (by decide) rfl rfl dX12_keyAt_5 ?_
      refine j_callSS C (d := 1) (As := []) (st := [.int (sI a232)]) 2 (by decide) (s3_J0_length_8abf5 hM0) gX12_keyAt_J0_length_8abf5 rfl hdJ0_length_8abf5 (by decide) (Nat.le_of_ble_eq_true rfl) dX12_keyAt_7 rfl (fun r235 M236 h237 => ?_)
      obtain ⟨a239, rfl, rfl, h238⟩ := h237
      refine y_icmp_ge C 123 dX12_keyAt_10 (by decide) (by (clear u234o ih229 u101k u101z hret C hp2 hp1 hp0 hM0; omega)) (fun h240 => ?_) (fun h240 => ?_)
      · have u241o := ko_o a231
        obtain rfl : a231 = 17 := by (clear u234o ih229 u101k u101z hret C hp2 hp1 hp0 hM0; omega)
        have u241e := nk_e (f := gf) (i := (M0.1 98 6).toInt) (m := (M0.1 98 7).toInt - (M0.1 98 6).toInt) (by exact h233.2.2.2.2.2.2.1)
        refine y_bipush C dX12_keyAt_123 rfl ?_
        exact hret _ _ _ _ dX12_keyAt_125 ⟨22, rfl, rfl, by exact ⟨(by decide), ⟨(by decide), u241e.symm⟩⟩⟩
      · refine y_iconst C dX12_keyAt_13 ?_
        refine j_istore_n C 3 [(3, .int (sI 0)), (0, .ref (ad 98)), (1, .int (sI a231)), (2, .int (sI a232))] dX12_keyAt_14 rfl (by decide) rfl ?_
        have u242z := sk_0 gf (M0.1 98 6).toInt (a231).toNat
        have X296 : ∀ (a295 : Int), (0 ≤ a295 ∧ a295 ≤ 87 ∧ (a232 + a295 ≤ 87) ∧ (b01 (SMK gf (M0.1 98 6).toInt (a231).toNat a295) = 1) ∧ ((M0.1 98 6).toInt + a295 ≤ (M0.1 98 7).toInt) ∧ (((js_byt 2).getD (a232 + a295).toNat 0).toInt = 32 ∨ ¬ ((js_byt 2).getD (a232 + a295).toNat 0).toInt = 32 ∧ ((M0.1 98 7).toInt ≤ (M0.1 98 6).toInt + a295 ∨ ¬ gf ((M0.1 98 6).toInt + a295).toNat = ((js_byt 2).getD (a232 + a295).toNat 0).toInt))) → jj p l e (cn_R 4) s m args below meth c 0 0 Q 4 dC dI ad cA A M0 69 [(0, .ref (ad 98)), (1, .int (sI a231)), (2, .int (sI a232)), (3, .int (sI a295))] [] := by
          intro a295 h297
          refine j_ldcS C 2 (by decide) rfl rfl dX12_keyAt_69 ?_
          refine j_iload_n C 2 2 dX12_keyAt_71 rfl rfl ?_
          refine j_iload_n C 3 3 dX12_keyAt_72 rfl rfl ?_
          refine y_iadd C dX12_keyAt_73 ?_
          refine j_callSS C (d := 3) (As := [.int (sI (a232 + a295))]) (st := []) 2 (by decide) (s3_J0_charAt_5068e hM0 (a232 + a295) (by (clear u242z h240 h238 u234o ih229 u101k u101z hret C hp2 hp1 hp0 hM0; omega)) (by exact ⟨(by (clear u242z h240 h238 u234o ih229 u101k u101z hret C hp2 hp1 hp0 hM0; omega)), h297.2.2.1⟩)) gX12_keyAt_J0_charAt_5068e rfl hdJ0_charAt_5068e (by decide) (Nat.le_of_ble_eq_true rfl) dX12_keyAt_74 rfl (fun r298 M299 h300 => ?_)
          obtain ⟨a302, rfl, rfl, h301⟩ := h300
          refine y_bipush C dX12_keyAt_77 rfl ?_
          refine y_icmp_ne C 97 dX12_keyAt_79 (by decide) (by exact ⟨⟨(by (clear h297 u242z h240 h238 u234o h233 ih229 u101k u101z hret C hp2 hp1 hp0 hM0; omega)), (by (clear h297 u242z h240 h238 u234o h233 ih229 u101k u101z hret C hp2 hp1 hp0 hM0; omega))⟩, ⟨(by decide), (by decide)⟩⟩) (fun h303 => ?_) (fun h303 => ?_)
          · have u304n := nk_s (f := gf) (i := (M0.1 98 6).toInt) (m := (M0.1 98 7).toInt - (M0.1 98 6).toInt) (n := a231) (by exact h233.1) (by exact h233.2.2.2.2.2.2.1) (kq_n (f := gf) (i := (M0.1 98 6).toInt) (n := a231) (m := a295) (k := a232) (b := (M0.1 98 7).toInt) (by exact ⟨h233.1, ⟨(by (clear u242z h240 h238 ih229 u101k u101z hret C hp2 hp0 hM0; omega)), h297.1⟩⟩) (by exact h233.2.2.2.2.2.1) (by exact h297.2.2.2.1) (by exact h297.2.2.2.2.1) (by (clear u242z h240 h238 u234o h233 ih229 u101k u101z hret C hp2 hp1 hp0 hM0; omega)))
            have L316 : ∀ (n314 : Nat), ∀ (a317 : Int), (1 ≤ a317 ∧ a317 ≤ 87 ∧ (a231 < a317) ∧ (a232 ≤ a317) ∧ (b01 (NOK gf (M0.1 98 6).toInt ((M0.1 98 7).toInt - (M0.1 98 6).toInt) (a231 + 1)) = 1) ∧ ((koF (a231).toNat : Int) ≤ a317) ∧ (a317 ≤ keN (a231).toNat) ∧ (88 - a317) < (n314 : Int)) → jj p l e (cn_R 4) s m args below meth c 0 0 Q 4 dC dI ad cA A M0 97 [(0, .ref (ad 98)), (1, .int (sI a231)), (2, .int (sI a317))] [] := by
              intro n314
              induction n314 with
              | zero =>
                intro a317 h318
                exfalso; (clear u304n h303 h301 h297 u242z h240 h238 u234o h233 ih229 u101k u101z hret C hp2 hp1 hp0 hM0; omega)
              | succ n314 ih315 =>
                intro a317 h318
                have u319e := ke_o a231 a317 (by exact ⟨h233.1, (by (clear h318 ih315 u304n u242z h240 h238 ih229 u101k u101z hret C hp2 hp0 hM0; omega))⟩)
                have u319o := ko_o a231
                have u319O := ko_o (a231 + 1)
                refine j_ldcS C 2 (by decide) rfl rfl dX12_keyAt_97 ?_
                refine j_iload_n C 2 2 dX12_keyAt_99 rfl rfl ?_
                refine j_callSS C (d := 3) (As := [.int (sI a317)]) (st := []) 2 (by decide) (s3_J0_charAt_5068e hM0 a317 (by (clear u319O u319o u319e ih315 u304n h303 h301 h297 u242z h240 h238 u234o h233 ih229 u101k u101z hret C hp2 hp1 hp0 hM0; omega)) (by exact ⟨(by (clear u319O u319o u319e ih315 u304n h303 h301 h297 u242z h240 h238 u234o h233 ih229 u101k u101z hret C hp2 hp1 hp0 hM0; omega)), h318.2.1⟩)) gX12_keyAt_J0_charAt_5068e rfl hdJ0_charAt_5068e (by decide) (Nat.le_of_ble_eq_true rfl) dX12_keyAt_100 rfl (fun r320 M321 h322 => ?_)
                obtain ⟨a324, rfl, rfl, h323⟩ := h322
                refine y_bipush C dX12_keyAt_103 rfl ?_
                refine y_icmp_eq C 114 dX12_keyAt_105 (by decide) (by exact ⟨⟨(by (clear u319O u319o u319e h318 ih315 u304n h303 h301 h297 u242z h240 h238 u234o h233 ih229 u101k u101z hret C hp2 hp1 hp0 hM0; omega)), (by (clear u319O u319o u319e h318 ih315 u304n h303 h301 h297 u242z h240 h238 u234o h233 ih229 u101k u101z hret C hp2 hp1 hp0 hM0; omega))⟩, ⟨(by decide), (by decide)⟩⟩) (fun h325 => ?_) (fun h325 => ?_)
                · refine y_iinc C 2 [(2, .int (sI (a317 + 1))), (0, .ref (ad 98)), (1, .int (sI a231))] dX12_keyAt_114 rfl (by decide) rfl ?_
                  refine y_iinc C 2 [(1, .int (sI (a231 + 1))), (2, .int (sI (a317 + 1))), (0, .ref (ad 98))] dX12_keyAt_117 rfl (by decide) rfl ?_
                  refine j_goto C 4 dX12_keyAt_120 (by decide) ?_
                  have u327z := nk_0 gf (M0.1 98 6).toInt ((M0.1 98 7).toInt - (M0.1 98 6).toInt)
                  have u327k : ((koF (0 : Int).toNat : Nat) : Int) = 1 := by decide
                  refine j_lv [2, 0, 1] rfl ?_; exact ih229 (a231 + 1) (a317 + 1) (by (clear u327k u327z u319O ih315 u304n h303 h301 h297 u242z h240 h238 u234o ih229 u101k u101z hret C hp2 hp1 hp0 hM0; omega))
                · refine y_iinc C 2 [(2, .int (sI (a317 + 1))), (0, .ref (ad 98)), (1, .int (sI a231))] dX12_keyAt_108 rfl (by decide) rfl ?_
                  refine j_goto C 97 dX12_keyAt_111 (by decide) ?_
                  refine j_lv [1, 2, 0] rfl ?_; exact ih315 (a317 + 1) (by (clear ih315 h303 h301 u242z h240 h238 u234o ih229 u101k u101z hret C hp2 hp1 hp0 hM0; omega))
            refine j_lv [0, 1, 2] rfl ?_; exact L316 2010 a232 (by exact ⟨h233.2.2.1, ⟨(by (clear L316 u242z h240 h238 ih229 u101k u101z hret C hp2 hp0 hM0; omega)), ⟨h233.2.2.2.2.1, ⟨(by (clear L316 u242z h240 h238 ih229 u101k u101z hret C hp2 hp0 hM0; omega)), ⟨u304n, ⟨(by (clear L316 u242z h240 h238 ih229 u101k u101z hret C hp2 hp0 hM0; omega)), ⟨(by (clear L316 u242z h240 h238 ih229 u101k u101z hret C hp2 hp0 hM0; omega)), (by (clear L316 u242z h240 h238 ih229 u101k u101z hret C hp2 hp0 hM0; omega))⟩⟩⟩⟩⟩⟩⟩)
          · refine j_aload_n C 0 0 dX12_keyAt_82 rfl rfl ?_
            refine y_getI C 11 _ _ fX12_keyAt_98 rfl rfl ft_11_6 sb_11_6 hM0 dX12_keyAt_83 (fun a328 ea328 la328 ua328 => ?_)
            obtain rfl : a328 = (M0.1 98 6).toInt := ea328
            refine j_iload_n C 3 3 dX12_keyAt_86 rfl rfl ?_
            refine y_iadd C dX12_keyAt_87 ?_
            refine j_aload_n C 0 0 dX12_keyAt_88 rfl rfl ?_
            refine y_getI C 11 _ _ fX12_keyAt_101 rfl rfl ft_11_7 sb_11_7 hM0 dX12_keyAt_89 (fun a330 ea330 la330 ua330 => ?_)
            obtain rfl : a330 = (M0.1 98 7).toInt := ea330
            refine y_icmp_ne C 97 dX12_keyAt_92 (by decide) (by (clear la328 h303 h301 u242z h240 h238 u234o h233 ih229 u101k u101z hret C hp2 hp0 hM0; omega)) (fun h332 => ?_) (fun h332 => ?_)
            · have u333n := nk_s (f := gf) (i := (M0.1 98 6).toInt) (m := (M0.1 98 7).toInt - (M0.1 98 6).toInt) (n := a231) (by exact h233.1) (by exact h233.2.2.2.2.2.2.1) (kq_n (f := gf) (i := (M0.1 98 6).toInt) (n := a231) (m := a295) (k := a232) (b := (M0.1 98 7).toInt) (by exact ⟨h233.1, ⟨(by (clear ua330 la330 ua328 la328 u242z h240 h238 ih229 u101k u101z hret C hp2 hp1 hp0 hM0; omega)), h297.1⟩⟩) (by exact h233.2.2.2.2.2.1) (by exact h297.2.2.2.1) (by exact h297.2.2.2.2.1) (by (clear ua330 la330 ua328 la328 h297 u242z h240 h238 u234o h233 ih229 u101k u101z hret C hp2 hp1 hp0 hM0; omega)))
              have L345 : ∀ (n343 : Nat), ∀ (a346 : Int), (1 ≤ a346 ∧ a346 ≤ 87 ∧ (a231 < a346) ∧ (a232 ≤ a346) ∧ (b01 (NOK gf (M0.1 98 6).toInt ((M0.1 98 7).toInt - (M0.1 98 6).toInt) (a231 + 1)) = 1) ∧ ((koF (a231).toNat : Int) ≤ a346) ∧ (a346 ≤ keN (a231).toNat) ∧ (88 - a346) < (n343 : Int)) → jj p l e (cn_R 4) s m args below meth c 0 0 Q 4 dC dI ad cA A M0 97 [(0, .ref (ad 98)), (1, .int (sI a231)), (2, .int (sI a346))] [] := by
                intro n343
                induction n343 with
                | zero =>
                  intro a346 h347
                  exfalso; omega
                | succ n343 ih344 =>
                  intro a346 h347
                  have u348e := ke_o a231 a346 (by exact ⟨h233.1, (by (clear h347 ih344 u333n ua330 la330 ua328 la328 u242z h240 h238 ih229 u101k u101z hret C hp2 hp1 hp0 hM0; omega))⟩)
                  have u348o := ko_o a231
                  have u348O := ko_o (a231 + 1)
                  refine j_ldcS C 2 (by decide) rfl rfl dX12_keyAt_97 ?_
                  refine j_iload_n C 2 2 dX12_keyAt_99 rfl rfl ?_
                  refine j_callSS C (d := 3) (As := [.int (sI a346)]) (st := []) 2 (by decide) (s3_J0_charAt_5068e hM0 a346 (by omega) (by exact ⟨(by omega), h347.2.1⟩)) gX12_keyAt_J0_charAt_5068e rfl hdJ0_charAt_5068e (by decide) (Nat.le_of_ble_eq_true rfl) dX12_keyAt_100 rfl (fun r349 M350 h351 => ?_)
                  obtain ⟨a353, rfl, rfl, h352⟩ := h351
                  refine y_bipush C dX12_keyAt_103 rfl ?_
                  refine y_icmp_eq C 114 dX12_keyAt_105 (by decide) (by exact ⟨⟨(by omega), (by omega)⟩, ⟨(by decide), (by decide)⟩⟩) (fun h354 => ?_) (fun h354 => ?_)
                  · refine y_iinc C 2 [(2, .int (sI (a346 + 1))), (0, .ref (ad 98)), (1, .int (sI a231))] dX12_keyAt_114 rfl (by decide) rfl ?_
                    refine y_iinc C 2 [(1, .int (sI (a231 + 1))), (2, .int (sI (a346 + 1))), (0, .ref (ad 98))] dX12_keyAt_117 rfl (by decide) rfl ?_
                    refine j_goto C 4 dX12_keyAt_120 (by decide) ?_
                    have u356z := nk_0 gf (M0.1 98 6).toInt ((M0.1 98 7).toInt - (M0.1 98 6).toInt)
                    have u356k : ((koF (0 : Int).toNat : Nat) : Int) = 1 := by decide
                    refine j_lv [2, 0, 1] rfl ?_; exact ih229 (a231 + 1) (a346 + 1) (by (clear u356k u356z ih344 h332 ua330 la330 ua328 la328 h303 h301 u242z h240 h238 u234o ih229 u101k u101z hret C hp2 hp1 hp0 hM0; omega))
                  · refine y_iinc C 2 [(2, .int (sI (a346 + 1))), (0, .ref (ad 98)), (1, .int (sI a231))] dX12_keyAt_108 rfl (by decide) rfl ?_
                    refine j_goto C 97 dX12_keyAt_111 (by decide) ?_
                    refine j_lv [1, 2, 0] rfl ?_; exact ih344 (a346 + 1) (by (clear ih344 h332 ua330 la330 ua328 la328 h303 h301 u242z h240 h238 u234o ih229 u101k u101z hret C hp2 hp1 hp0 hM0; omega))
              refine j_lv [0, 1, 2] rfl ?_; exact L345 2010 a232 (by exact ⟨h233.2.2.1, ⟨(by (clear L345 ua330 la330 ua328 la328 u242z h240 h238 ih229 u101k u101z hret C hp2 hp1 hp0 hM0; omega)), ⟨h233.2.2.2.2.1, ⟨(by (clear L345 ua330 la330 ua328 la328 u242z h240 h238 ih229 u101k u101z hret C hp2 hp1 hp0 hM0; omega)), ⟨u333n, ⟨(by (clear L345 ua330 la330 ua328 la328 u242z h240 h238 ih229 u101k u101z hret C hp2 hp1 hp0 hM0; omega)), ⟨(by (clear L345 ua330 la330 ua328 la328 u242z h240 h238 ih229 u101k u101z hret C hp2 hp1 hp0 hM0; omega)), (by (clear L345 ua330 la330 ua328 la328 u242z h240 h238 ih229 u101k u101z hret C hp2 hp1 hp0 hM0; omega))⟩⟩⟩⟩⟩⟩⟩)
            · have u357q := kq_y (f := gf) (i := (M0.1 98 6).toInt) (n := a231) (m := a295) (k := a232) (b := (M0.1 98 7).toInt) (by exact ⟨h233.1, ⟨(by (clear ua330 la330 ua328 la328 u242z h240 h238 ih229 u101k u101z hret C hp2 hp0 hM0; omega)), h297.1⟩⟩) (by exact h233.2.2.2.2.2.1) (by exact h297.2.2.2.1) (by (clear h332 ua330 la330 ua328 la328 h297 u242z h240 h238 u234o h233 ih229 u101k u101z hret C hp2 hp1 hp0 hM0; omega)) (by exact h332)
              refine j_iload_n C 1 1 dX12_keyAt_95 rfl rfl ?_
              exact hret _ _ _ _ dX12_keyAt_96 ⟨a231, rfl, rfl, by exact ⟨h233.1, ⟨h233.2.1, u357q.symm⟩⟩⟩
        have L269 : ∀ (n267 : Nat), ∀ (a270 : Int), (0 ≤ a270 ∧ a270 ≤ 87 ∧ (a232 + a270 ≤ 87) ∧ (b01 (SMK gf (M0.1 98 6).toInt (a231).toNat a270) = 1) ∧ ((M0.1 98 6).toInt + a270 ≤ (M0.1 98 7).toInt) ∧ (88 - a270) < (n267 : Int)) → jj p l e (cn_R 4) s m args below meth c 0 0 Q 4 dC dI ad cA A M0 15 [(0, .ref (ad 98)), (1, .int (sI a231)), (2, .int (sI a232)), (3, .int (sI a270))] [] := by
          intro n267
          induction n267 with
          | zero =>
            intro a270 h271
            exfalso; omega
          | succ n267 ih268 =>
            intro a270 h271
            refine j_ldcS C 2 (by decide) rfl rfl dX12_keyAt_15 ?_
            refine j_iload_n C 2 2 dX12_keyAt_17 rfl rfl ?_
            refine j_iload_n C 3 3 dX12_keyAt_18 rfl rfl ?_
            refine y_iadd C dX12_keyAt_19 ?_
            refine j_callSS C (d := 3) (As := [.int (sI (a232 + a270))]) (st := []) 2 (by decide) (s3_J0_charAt_5068e hM0 (a232 + a270) (by (clear ih268 X296 u242z h240 h238 u234o ih229 u101k u101z hret C hp2 hp1 hp0 hM0; omega)) (by exact ⟨(by (clear ih268 X296 u242z h240 h238 u234o ih229 u101k u101z hret C hp2 hp1 hp0 hM0; omega)), h271.2.2.1⟩)) gX12_keyAt_J0_charAt_5068e rfl hdJ0_charAt_5068e (by decide) (Nat.le_of_ble_eq_true rfl) dX12_keyAt_20 rfl (fun r272 M273 h274 => ?_)
            obtain ⟨a276, rfl, rfl, h275⟩ := h274
            refine y_bipush C dX12_keyAt_23 rfl ?_
            refine y_icmp_eq C 69 dX12_keyAt_25 (by decide) (by exact ⟨⟨(by (clear h271 ih268 X296 u242z h240 h238 u234o h233 ih229 u101k u101z hret C hp2 hp1 hp0 hM0; omega)), (by (clear h271 ih268 X296 u242z h240 h238 u234o h233 ih229 u101k u101z hret C hp2 hp1 hp0 hM0; omega))⟩, ⟨(by decide), (by decide)⟩⟩) (fun h277 => ?_) (fun h277 => ?_)
            · exact X296 a270 (by exact ⟨h271.1, ⟨h271.2.1, ⟨h271.2.2.1, ⟨h271.2.2.2.1, ⟨h271.2.2.2.2.1, (by (clear ih268 X296 u242z h240 h238 u234o ih229 u101k u101z hret C hp2 hp1 hp0 hM0; omega))⟩⟩⟩⟩⟩)
            · refine j_aload_n C 0 0 dX12_keyAt_28 rfl rfl ?_
              refine y_getI C 11 _ _ fX12_keyAt_98 rfl rfl ft_11_6 sb_11_6 hM0 dX12_keyAt_29 (fun a278 ea278 la278 ua278 => ?_)
              obtain rfl : a278 = (M0.1 98 6).toInt := ea278
              refine j_iload_n C 3 3 dX12_keyAt_32 rfl rfl ?_
              refine y_iadd C dX12_keyAt_33 ?_
              refine j_aload_n C 0 0 dX12_keyAt_34 rfl rfl ?_
              refine y_getI C 11 _ _ fX12_keyAt_101 rfl rfl ft_11_7 sb_11_7 hM0 dX12_keyAt_35 (fun a280 ea280 la280 ua280 => ?_)
              obtain rfl : a280 = (M0.1 98 7).toInt := ea280
              refine y_icmp_ge C 69 dX12_keyAt_38 (by decide) (by (clear la278 h277 h275 ih268 X296 u242z h240 h238 u234o h233 ih229 u101k u101z hret C hp2 hp0 hM0; omega)) (fun h282 => ?_) (fun h282 => ?_)
              · exact X296 a270 (by exact ⟨h271.1, ⟨h271.2.1, ⟨h271.2.2.1, ⟨h271.2.2.2.1, ⟨h271.2.2.2.2.1, (by (clear ua280 la280 ua278 la278 h277 h275 ih268 X296 u242z h240 h238 u234o ih229 u101k u101z hret C hp2 hp0 hM0; omega))⟩⟩⟩⟩⟩)
              · refine j_aload_n C 0 0 dX12_keyAt_41 rfl rfl ?_
                refine y_getC C 11 101 fX12_keyAt_21 rfl rfl ft_11_3 sm_11_3 rfl hM0 dX12_keyAt_42 ?_
                refine j_aload_n C 0 0 dX12_keyAt_45 rfl rfl ?_
                refine y_getI C 11 _ _ fX12_keyAt_98 rfl rfl ft_11_6 sb_11_6 hM0 dX12_keyAt_46 (fun a283 ea283 la283 ua283 => ?_)
                obtain rfl : a283 = (M0.1 98 6).toInt := ea283
                refine j_iload_n C 3 3 dX12_keyAt_49 rfl rfl ?_
                refine y_iadd C dX12_keyAt_50 ?_
                have u285p := tpm_r (f := gf) (n := gn) (M := M0) (a := ((M0.1 98 6).toInt + a270)) (by exact hp0) (by (clear ua283 la283 ua280 la280 la278 h277 h275 ih268 X296 u242z h240 h238 u234o h233 ih229 u101k u101z hret C hp0 hM0; omega))
                refine y_iald C 47 900 _ _ rfl rfl rfl ak_47 an_47 rfl (sb_47 _) hM0 dX12_keyAt_51 (by (clear u285p ua283 la283 la278 h277 h275 ih268 X296 u242z h240 h238 u234o h233 ih229 u101k u101z hret C hp2 hp0 hM0; omega)) (fun a286 ea286 la286 ua286 => ?_)
                obtain rfl : a286 = (M0.1 101 (((M0.1 98 6).toInt + a270)).toNat).toInt := ea286
                refine j_ldcS C 2 (by decide) rfl rfl dX12_keyAt_52 ?_
                refine j_iload_n C 2 2 dX12_keyAt_54 rfl rfl ?_
                refine j_iload_n C 3 3 dX12_keyAt_55 rfl rfl ?_
                refine y_iadd C dX12_keyAt_56 ?_
                refine j_callSS C (d := 3) (As := [.int (sI (a232 + a270))]) (st := [.int (sI (M0.1 101 (((M0.1 98 6).toInt + a270)).toNat).toInt)]) 2 (by decide) (s3_J0_charAt_5068e hM0 (a232 + a270) (by (clear ua286 la286 u285p ua283 la283 h282 ua280 la280 ua278 la278 h277 h275 ih268 X296 u242z h240 h238 u234o ih229 u101k u101z hret C hp2 hp1 hp0 hM0; omega)) (by exact ⟨(by (clear ua286 la286 u285p ua283 la283 h282 ua280 la280 ua278 la278 h277 h275 ih268 X296 u242z h240 h238 u234o ih229 u101k u101z hret C hp2 hp1 hp0 hM0; omega)), h271.2.2.1⟩)) gX12_keyAt_J0_charAt_5068e rfl hdJ0_charAt_5068e (by decide) (Nat.le_of_ble_eq_true rfl) dX12_keyAt_57 rfl (fun r287 M288 h289 => ?_)
                obtain ⟨a291, rfl, rfl, h290⟩ := h289
                refine y_icmp_ne C 69 dX12_keyAt_60 (by decide) (by (clear u285p ua283 la283 h282 ua280 la280 ua278 la278 h277 h275 h271 ih268 X296 u242z h240 h238 u234o h233 ih229 u101k u101z hret C hp2 hp1 hp0 hM0; omega)) (fun h292 => ?_) (fun h292 => ?_)
                · exact X296 a270 (by exact ⟨h271.1, ⟨h271.2.1, ⟨h271.2.2.1, ⟨h271.2.2.2.1, ⟨h271.2.2.2.2.1, (by (clear ua286 la286 ua283 la283 ua280 la280 ua278 la278 h277 h275 ih268 X296 u242z h240 h238 u234o ih229 u101k u101z hret C hp2 hp1 hp0 hM0; omega))⟩⟩⟩⟩⟩)
                · have u293w := sk_s (f := gf) (i := (M0.1 98 6).toInt) (n := a231) (m := a270) (k := a232) (by exact ⟨h233.1, ⟨(by (clear h292 ua286 la286 u285p ua283 la283 h282 ua280 la280 ua278 la278 ih268 X296 u242z h240 h238 ih229 u101k u101z hret C hp2 hp1 hp0 hM0; omega)), h271.1⟩⟩) (by exact h233.2.2.2.2.2.1) (by exact h271.2.2.2.1) (by (clear h292 ua286 la286 u285p ua283 la283 h282 ua280 la280 ua278 la278 h271 ih268 X296 u242z h240 h238 u234o h233 ih229 u101k u101z hret C hp2 hp1 hp0 hM0; omega)) (by (clear ua286 la286 ua283 la283 h282 ua280 la280 ua278 la278 h277 h275 h271 ih268 X296 u242z h240 h238 u234o h233 ih229 u101k u101z hret C hp2 hp1 hp0 hM0; omega))
                  refine y_iinc C 3 [(3, .int (sI (a270 + 1))), (0, .ref (ad 98)), (1, .int (sI a231)), (2, .int (sI a232))] dX12_keyAt_63 rfl (by decide) rfl ?_
                  refine j_goto C 15 dX12_keyAt_66 (by decide) ?_
                  have u294z := sk_0 gf (M0.1 98 6).toInt (a231).toNat
                  refine j_lv [1, 2, 3, 0] rfl ?_; exact ih268 (a270 + 1) (by exact ⟨(by (clear u294z h292 ua286 la286 u285p ua283 la283 ua280 la280 ua278 la278 ih268 X296 u242z h240 h238 u234o ih229 u101k u101z hret C hp2 hp1 hp0 hM0; omega)), ⟨(by (clear u294z h292 ua286 la286 u285p ua283 la283 ua280 la280 ua278 la278 ih268 X296 u242z h240 h238 u234o ih229 u101k u101z hret C hp2 hp1 hp0 hM0; omega)), ⟨(by (clear u294z h292 ua286 la286 u285p ua283 la283 ua280 la280 ua278 la278 ih268 X296 u242z h240 h238 u234o ih229 u101k u101z hret C hp2 hp1 hp0 hM0; omega)), ⟨u293w, ⟨(by (clear u294z h292 ua286 la286 u285p ua283 la283 ua280 la280 ua278 la278 ih268 X296 u242z h240 h238 u234o ih229 u101k u101z hret C hp2 hp1 hp0 hM0; omega)), (by (clear u294z h292 ua286 la286 u285p ua283 la283 ua280 la280 ua278 la278 ih268 X296 u242z h240 h238 u234o ih229 u101k u101z hret C hp2 hp1 hp0 hM0; omega))⟩⟩⟩⟩⟩)
        refine j_lv [1, 2, 3, 0] rfl ?_; exact L269 2010 0 (by exact ⟨(by decide), ⟨(by decide), ⟨(by (clear L269 X296 u234o ih229 u101k u101z hret C hp2 hp0 hM0; omega)), ⟨u242z, ⟨(by (clear L269 X296 u234o ih229 u101k u101z hret C hp2 hp0 hM0; omega)), (by decide)⟩⟩⟩⟩⟩)
  refine j_lv [2, 1, 0] rfl ?_; exact L230 2010 0 1 (by exact ⟨(by decide), ⟨(by decide), ⟨(by decide), ⟨(by decide), ⟨(by decide), ⟨u101k.symm, ⟨u101z, ⟨(by decide), (by decide)⟩⟩⟩⟩⟩⟩⟩⟩)
set_option maxHeartbeats 4000000 in
theorem s1_X12_next {l : Launch} {dC : Nat → ClassId} {dI : Nat → Nat → Nat} {ad : Nat → Nat} {cA : Nat → ClassId} {pr : Nat → Nat → Bool} {Kz : mm_M} {M0 : mm_M} (hM0 : INV pr Kz M0) (hpr : PM pr) (gf : Nat → Int) (gn : Int) (hp0 : (M0.1 98 7).toInt ≤ (M0.1 98 8).toInt) (hp1 : (M0.1 98 8).toInt ≤ 900) (hp2 : b01 (TPM gf gn M0) = 1) (hp3 : b01 (PI M0) = 1) : Cv l 5 yX12_next wsX12_next dC dI ad cA [.ref (ad 98)] M0 (fun M' => INV pr Kz M' ∧ FR [98] M0 M' ∧ (b01 (RIP M') = 1) ∧ ((M'.1 98 8).toInt = (M0.1 98 8).toInt) ∧ ((M0.1 98 7).toInt ≤ (M'.1 98 6).toInt) ∧ ((M'.1 98 11).toInt = (M0.1 98 11).toInt) ∧ (b01 (TKM gf gn M') = 1) ∧ ((M'.1 98 6).toInt = runE blB gf gn (M0.1 98 7).toInt) ∧ ((M'.1 98 12).toInt = (M0.1 98 12).toInt) ∧ (b01 (PI M') = 1)) := by
  refine cv_of (cc := cX12_next) (maxL := 2) (lv := [(0, .ref (ad 98))]) (by decide) rfl (Nat.le_of_ble_eq_true rfl) rfl ?_
  intro p e s m args below meth c A Q C hret
  have u101T := tpm_z (f := gf) (n := gn) (M := M0) (by exact hp2)
  refine j_aload_n C 0 0 dX12_next_0 rfl rfl ?_
  refine j_aload_n C 0 0 dX12_next_1 rfl rfl ?_
  refine y_getI C 11 _ _ fX12_next_101 rfl rfl ft_11_7 sb_11_7 hM0 dX12_next_2 (fun a102 ea102 la102 ua102 => ?_)
  obtain rfl : a102 = (M0.1 98 7).toInt := ea102
  refine y_putI C 11 _ _ qX12_next_98 rfl rfl ft_11_6 sb_11_6 hM0 (PM.w hpr rfl rfl) dX12_next_5 (by exact ⟨⟨(by (clear u101T hret C hp3 hp2 hp1 hp0 hpr hM0; omega)), (by (clear u101T hret C hp3 hp2 hp1 hp0 hpr hM0; omega))⟩, ⟨la102, ua102⟩⟩) (fun M104 eM104 hM104 => ?_)
  have pM104 := pi_o eM104 (by decide) (by decide) (by exact hp3)
  have u105c := run_c blB gf gn (M104.1 98 6).toInt ((M0.1 98 7).toInt)
  have L136 : ∀ (n134 : Nat), ∀ (M137 : mm_M), ((0 ≤ (M137.1 98 6).toInt) ∧ ((M137.1 98 8).toInt = (M0.1 98 8).toInt) ∧ ((M137.1 98 11).toInt = (M0.1 98 11).toInt) ∧ ((M0.1 98 7).toInt ≤ (M137.1 98 6).toInt) ∧ ((M137.1 98 6).toInt ≤ (M137.1 98 8).toInt) ∧ ((M137.1 98 8).toInt ≤ 900) ∧ (runE blB gf gn (M137.1 98 6).toInt = runE blB gf gn (M0.1 98 7).toInt) ∧ ((M137.1 98 12).toInt = (M0.1 98 12).toInt) ∧ (b01 (PI M137) = 1) ∧ (900 - (M137.1 98 6).toInt) < (n134 : Int)) → INV pr Kz M137 → FR [98] M0 M137 → jj p l e (cn_R 5) s m args below meth c 0 0 Q 2 dC dI ad cA A M137 8 [(0, .ref (ad 98))] [] := by
    intro n134
    induction n134 with
    | zero =>
      intro M137 h138 hM137 fM137
      exfalso; (clear fM137 hM137 u105c pM104 hM104 eM104 ua102 la102 hret C hp3 hp2 hp0 hpr hM0; omega)
    | succ n134 ih135 =>
      intro M137 h138 hM137 fM137
      have u139R := rx_bl gf gn (M137.1 98 6).toInt (by exact h138.1)
      refine j_aload_n C 0 0 dX12_next_8 rfl rfl ?_
      refine j_aload_n C 0 0 dX12_next_9 rfl rfl ?_
      refine y_getI C 11 _ _ fX12_next_98 rfl rfl ft_11_6 sb_11_6 hM137 dX12_next_10 (fun a140 ea140 la140 ua140 => ?_)
      obtain rfl : a140 = (M137.1 98 6).toInt := ea140
      have k142 := tpm_s (f := gf) (n := gn) (a := (M137.1 98 6).toInt) (M := M0) (M' := M137) (by exact hp2) (show M137.1 101 = M0.1 101 from (FR.cell fM137 (by decide)))
      refine j_callVi C (d := 0) (As := [.int (sI (M137.1 98 6).toInt)]) (st := []) 98 (s_lt rfl rfl) (s_kc (c := 11) rfl rfl) (by decide) rfl (s1_X12_see hM137 (M137.1 98 6).toInt (by omega) (by exact ⟨h138.1, ua140⟩)) gX12_next_X12_see rfl hdX12_see (by decide) (Nat.le_of_ble_eq_true rfl) dX12_next_13 rfl (fun r143 M144 h145 => ?_)
      obtain ⟨a147, rfl, rfl, h146⟩ := h145
      refine y_bipush C dX12_next_16 rfl ?_
      refine y_icmp_eq C 34 dX12_next_18 (by decide) (by exact ⟨⟨(by (clear k142 ua140 la140 u139R fM137 hM137 h138 ih135 u105c pM104 hM104 eM104 ua102 la102 u101T hret C hp3 hp2 hp1 hp0 hpr hM0; omega)), (by (clear k142 ua140 la140 u139R fM137 hM137 h138 ih135 u105c pM104 hM104 eM104 ua102 la102 u101T hret C hp3 hp2 hp1 hp0 hpr hM0; omega))⟩, ⟨(by decide), (by decide)⟩⟩) (fun h148 => ?_) (fun h148 => ?_)
      · refine j_aload_n C 0 0 dX12_next_34 rfl rfl ?_
        refine j_dup C dX12_next_35 rfl ?_
        refine y_getI C 11 _ _ fX12_next_98 rfl rfl ft_11_6 sb_11_6 hM137 dX12_next_36 (fun a149 ea149 la149 ua149 => ?_)
        obtain rfl : a149 = (M137.1 98 6).toInt := ea149
        refine y_iconst C dX12_next_39 ?_
        refine y_iadd C dX12_next_40 ?_
        refine y_putI C 11 _ _ qX12_next_98 rfl rfl ft_11_6 sb_11_6 hM137 (PM.w hpr rfl rfl) dX12_next_41 (by (clear ua149 la149 k142 la140 u139R fM137 hM137 ih135 u105c pM104 hM104 eM104 ua102 la102 hret C hp3 hp2 hp0 hpr hM0; omega)) (fun M151 eM151 hM151 => ?_)
        have pM151 := pi_o eM151 (by decide) (by decide) (by exact h138.2.2.2.2.2.2.2.2.1)
        refine j_goto C 8 dX12_next_44 (by decide) ?_
        have u152c := run_c blB gf gn (M151.1 98 6).toInt (((M137.1 98 6).toInt + 1))
        have zz98_8 : (M151.1 98 8).toInt = (M137.1 98 8).toInt := s_fb eM151 (by decide) (rfl); have zz98_6 := (Eq.trans (rfl : (M151.1 98 6).toInt = (M151.1 98 6).toInt) (s_wr eM151 (by (clear zz98_8 u152c pM151 hM151 eM151 ua149 la149 h148 h146 k142 la140 u139R fM137 hM137 ih135 u105c pM104 hM104 eM104 ua102 la102 u101T hret C hp3 hp2 hp1 hp0 hpr hM0; omega)))); have zz98_12 : (M151.1 98 12).toInt = (M137.1 98 12).toInt := s_fb eM151 (by decide) (rfl); have zz98_11 : (M151.1 98 11).toInt = (M137.1 98 11).toInt := s_fb eM151 (by decide) (rfl); exact ih135 M151 (by (clear hM151 eM151 ua149 la149 la140 fM137 hM137 ih135 u105c pM104 hM104 eM104 ua102 la102 hret C hp3 hp2 hp0 hpr hM0; omega)) hM151 ((FR.rf.tr fM137 (by decide)).wI eM151 (by decide))
      · refine j_aload_n C 0 0 dX12_next_21 rfl rfl ?_
        refine j_aload_n C 0 0 dX12_next_22 rfl rfl ?_
        refine y_getI C 11 _ _ fX12_next_98 rfl rfl ft_11_6 sb_11_6 hM137 dX12_next_23 (fun a153 ea153 la153 ua153 => ?_)
        obtain rfl : a153 = (M137.1 98 6).toInt := ea153
        have k155 := tpm_s (f := gf) (n := gn) (a := (M137.1 98 6).toInt) (M := M0) (M' := M137) (by exact hp2) (show M137.1 101 = M0.1 101 from (FR.cell fM137 (by decide)))
        refine j_callVi C (d := 0) (As := [.int (sI (M137.1 98 6).toInt)]) (st := []) 98 (s_lt rfl rfl) (s_kc (c := 11) rfl rfl) (by decide) rfl (s1_X12_see hM137 (M137.1 98 6).toInt (by omega) (by exact ⟨h138.1, ua140⟩)) gX12_next_X12_see rfl hdX12_see (by decide) (Nat.le_of_ble_eq_true rfl) dX12_next_26 rfl (fun r156 M157 h158 => ?_)
        obtain ⟨a160, rfl, rfl, h159⟩ := h158
        refine y_bipush C dX12_next_29 rfl ?_
        refine y_icmp_ne C 47 dX12_next_31 (by decide) (by exact ⟨⟨(by (clear k155 ua153 la153 h148 h146 k142 ua140 la140 u139R fM137 hM137 h138 ih135 u105c pM104 hM104 eM104 ua102 la102 u101T hret C hp3 hp2 hp1 hp0 hpr hM0; omega)), (by (clear k155 ua153 la153 h148 h146 k142 ua140 la140 u139R fM137 hM137 h138 ih135 u105c pM104 hM104 eM104 ua102 la102 u101T hret C hp3 hp2 hp1 hp0 hpr hM0; omega))⟩, ⟨(by decide), (by decide)⟩⟩) (fun h161 => ?_) (fun h161 => ?_)
        · have u166E := nt_e gf gn (M137.1 98 6).toInt
          refine j_aload_n C 0 0 dX12_next_47 rfl rfl ?_
          refine j_aload_n C 0 0 dX12_next_48 rfl rfl ?_
          refine y_getI C 11 _ _ fX12_next_98 rfl rfl ft_11_6 sb_11_6 hM137 dX12_next_49 (fun a167 ea167 la167 ua167 => ?_)
          obtain rfl : a167 = (M137.1 98 6).toInt := ea167
          refine y_putI C 11 _ _ qX12_next_101 rfl rfl ft_11_7 sb_11_7 hM137 (PM.w hpr rfl rfl) dX12_next_52 (by exact ⟨⟨(by (clear ua167 la167 u166E h161 h159 k155 ua153 la153 h148 h146 k142 la140 u139R fM137 hM137 ih135 u105c pM104 hM104 eM104 ua102 la102 u101T hret C hp3 hp2 hp1 hp0 hpr hM0; omega)), (by (clear ua167 la167 u166E h161 h159 k155 ua153 la153 h148 h146 k142 la140 u139R fM137 hM137 ih135 u105c pM104 hM104 eM104 ua102 la102 u101T hret C hp3 hp2 hp1 hp0 hpr hM0; omega))⟩, ⟨h138.1, ua140⟩⟩) (fun M169 eM169 hM169 => ?_)
          have pM169 := pi_o eM169 (by decide) (by decide) (by exact h138.2.2.2.2.2.2.2.2.1)
          refine j_aload_n C 0 0 dX12_next_55 rfl rfl ?_
          refine y_getI C 11 _ _ fX12_next_98 rfl rfl ft_11_6 sb_11_6 hM169 dX12_next_56 (fun a170 ea170 la170 ua170 => ?_)
          obtain rfl : a170 = (M137.1 98 6).toInt := s_fb eM169 (by decide) (ea170)
          refine j_aload_n C 0 0 dX12_next_59 rfl rfl ?_
          refine y_getI C 11 _ _ fX12_next_83 rfl rfl ft_11_8 sb_11_8 hM169 dX12_next_60 (fun a172 ea172 la172 ua172 => ?_)
          obtain rfl : a172 = (M137.1 98 8).toInt := s_fb eM169 (by decide) (ea172)
          refine y_icmp_lt C 75 dX12_next_63 (by decide) (by (clear ua172 la172 ua170 la170 pM169 hM169 eM169 ua167 la167 u166E h161 h159 k155 ua153 la153 h148 h146 k142 la140 u139R fM137 hM137 ih135 u105c pM104 hM104 eM104 ua102 la102 hret C hp3 hp2 hp0 hpr hM0; omega)) (fun h174 => ?_) (fun h174 => ?_)
          · refine j_aload_n C 0 0 dX12_next_75 rfl rfl ?_
            refine j_aload_n C 0 0 dX12_next_76 rfl rfl ?_
            refine y_getI C 11 _ _ fX12_next_98 rfl rfl ft_11_6 sb_11_6 hM169 dX12_next_77 (fun a175 ea175 la175 ua175 => ?_)
            obtain rfl : a175 = (M137.1 98 6).toInt := s_fb eM169 (by decide) (ea175)
            have k177 := tpm_s (f := gf) (n := gn) (a := (M137.1 98 6).toInt) (M := M0) (M' := M169) (by exact hp2) (show M169.1 101 = M0.1 101 from ((wI_cell eM169 (by decide)).trans (FR.cell fM137 (by decide))))
            refine j_callVi C (d := 0) (As := [.int (sI (M137.1 98 6).toInt)]) (st := []) 98 (s_lt rfl rfl) (s_kc (c := 11) rfl rfl) (by decide) rfl (s1_X12_see hM169 (M137.1 98 6).toInt (by (clear k177 ua175 la175 ea175 h174 ua172 la172 ea172 ua170 la170 pM169 hM169 eM169 ua167 la167 u166E h161 h159 k155 ua153 la153 h148 h146 k142 la140 u139R fM137 hM137 ih135 u105c pM104 hM104 eM104 ua102 la102 u101T hret C hp3 hp2 hp1 hp0 hpr hM0; omega)) (by exact ⟨h138.1, ua140⟩)) gX12_next_X12_see rfl hdX12_see (by decide) (Nat.le_of_ble_eq_true rfl) dX12_next_80 rfl (fun r178 M179 h180 => ?_)
            obtain ⟨a182, rfl, rfl, h181⟩ := h180
            refine j_callSi C (d := 0) (As := [.int (sI a182)]) (st := []) (s1_X12_isSmall hM169 a182 (by (clear k177 ua175 la175 ea175 h174 ua172 la172 ea172 ua170 la170 ea170 pM169 hM169 eM169 ua167 la167 u166E h161 h159 k155 ua153 la153 h148 h146 k142 ua140 la140 u139R fM137 hM137 h138 ih135 u105c pM104 hM104 eM104 ua102 la102 u101T hret C hp3 hp2 hp1 hp0 hpr hM0; omega))) gX12_next_X12_isSmall rfl hdX12_isSmalls (by decide) (Nat.le_of_ble_eq_true rfl) dX12_next_83 rfl (fun r183 M184 h185 => ?_)
            obtain ⟨a187, rfl, rfl, h186⟩ := h185
            refine y_if_eq C 127 dX12_next_86 (by decide) (by (clear h181 k177 ua175 la175 ea175 h174 ua172 la172 ea172 ua170 la170 ea170 pM169 hM169 eM169 ua167 la167 u166E h161 h159 k155 ua153 la153 h148 h146 k142 ua140 la140 u139R fM137 hM137 h138 ih135 u105c pM104 hM104 eM104 ua102 la102 u101T hret C hp3 hp2 hp1 hp0 hpr hM0; omega)) (fun h188 => ?_) (fun h188 => ?_)
            · refine j_aload_n C 0 0 dX12_next_127 rfl rfl ?_
              refine j_aload_n C 0 0 dX12_next_128 rfl rfl ?_
              refine y_getI C 11 _ _ fX12_next_98 rfl rfl ft_11_6 sb_11_6 hM169 dX12_next_129 (fun a189 ea189 la189 ua189 => ?_)
              obtain rfl : a189 = (M137.1 98 6).toInt := s_fb eM169 (by decide) (ea189)
              have k191 := tpm_s (f := gf) (n := gn) (a := (M137.1 98 6).toInt) (M := M0) (M' := M169) (by exact hp2) (show M169.1 101 = M0.1 101 from ((wI_cell eM169 (by decide)).trans (FR.cell fM137 (by decide))))
              refine j_callVi C (d := 0) (As := [.int (sI (M137.1 98 6).toInt)]) (st := []) 98 (s_lt rfl rfl) (s_kc (c := 11) rfl rfl) (by decide) rfl (s1_X12_see hM169 (M137.1 98 6).toInt (by (clear k191 ua189 la189 ea189 h188 h186 h181 k177 ua175 la175 ea175 h174 ua172 la172 ea172 ua170 la170 pM169 hM169 eM169 ua167 la167 u166E h161 h159 k155 ua153 la153 h148 h146 k142 la140 u139R fM137 hM137 ih135 u105c pM104 hM104 eM104 ua102 la102 u101T hret C hp3 hp2 hp1 hp0 hpr hM0; omega)) (by exact ⟨h138.1, ua140⟩)) gX12_next_X12_see rfl hdX12_see (by decide) (Nat.le_of_ble_eq_true rfl) dX12_next_132 rfl (fun r192 M193 h194 => ?_)
              obtain ⟨a196, rfl, rfl, h195⟩ := h194
              refine j_callSi C (d := 0) (As := [.int (sI a196)]) (st := []) (s1_X12_isDigit hM169 a196 (by (clear k191 ua189 la189 ea189 h188 h186 h181 k177 ua175 la175 ea175 h174 ua172 la172 ea172 ua170 la170 ea170 pM169 hM169 eM169 ua167 la167 u166E h161 h159 k155 ua153 la153 h148 h146 k142 ua140 la140 u139R fM137 hM137 h138 ih135 u105c pM104 hM104 eM104 ua102 la102 u101T hret C hp3 hp2 hp1 hp0 hpr hM0; omega))) gX12_next_X12_isDigit rfl hdX12_isDigits (by decide) (Nat.le_of_ble_eq_true rfl) dX12_next_135 rfl (fun r197 M198 h199 => ?_)
              obtain ⟨a201, rfl, rfl, h200⟩ := h199
              refine y_if_eq C 236 dX12_next_138 (by decide) (by (clear h195 k191 ua189 la189 ea189 h188 h186 h181 k177 ua175 la175 ea175 h174 ua172 la172 ea172 ua170 la170 ea170 pM169 hM169 eM169 ua167 la167 u166E h161 h159 k155 ua153 la153 h148 h146 k142 ua140 la140 u139R fM137 hM137 h138 ih135 u105c pM104 hM104 eM104 ua102 la102 u101T hret C hp3 hp2 hp1 hp0 hpr hM0; omega)) (fun h202 => ?_) (fun h202 => ?_)
              · refine j_aload_n C 0 0 dX12_next_236 rfl rfl ?_
                refine j_dup C dX12_next_237 rfl ?_
                refine y_getI C 11 _ _ fX12_next_101 rfl rfl ft_11_7 sb_11_7 hM169 dX12_next_238 (fun a203 ea203 la203 ua203 => ?_)
                obtain rfl : a203 = (M137.1 98 6).toInt := (ea203).trans (s_wr eM169 (by (clear ua203 la203 ea203 h202 h200 h195 k191 ua189 la189 ea189 h188 h186 h181 k177 ua175 la175 ea175 h174 ua172 la172 ea172 ua170 la170 pM169 hM169 eM169 ua167 la167 u166E h161 h159 k155 ua153 la153 h148 h146 k142 la140 u139R fM137 hM137 ih135 u105c pM104 hM104 eM104 ua102 la102 u101T hret C hp3 hp2 hp1 hp0 hpr hM0; omega)))
                refine y_iconst C dX12_next_241 ?_
                refine y_iadd C dX12_next_242 ?_
                refine y_putI C 11 _ _ qX12_next_101 rfl rfl ft_11_7 sb_11_7 hM169 (PM.w hpr rfl rfl) dX12_next_243 (by (clear ua203 la203 h202 h200 h195 k191 ua189 la189 ea189 h188 h186 h181 k177 ua175 la175 ea175 ua172 la172 ua170 la170 pM169 hM169 eM169 ua167 la167 u166E h161 h159 k155 ua153 la153 h148 h146 k142 la140 u139R fM137 hM137 ih135 u105c pM104 hM104 eM104 ua102 la102 hret C hp3 hp2 hp0 hpr hM0; omega)) (fun M205 eM205 hM205 => ?_)
                have pM205 := pi_o eM205 (by decide) (by decide) (by exact pM169)
                refine j_aload_n C 0 0 dX12_next_246 rfl rfl ?_
                refine y_bipush C dX12_next_247 rfl ?_
                refine y_putIF C 11 qX12_next_108 rfl rfl ft_11_9 sb_11_9 hM205 (PM.w hpr rfl rfl) dX12_next_249 (fun M206 eM206 hM206 => ?_)
                have pM206 := pi_o eM206 (by decide) (by decide) (by exact pM205)
                refine y_iconst C dX12_next_252 ?_
                refine j_istore_n C 1 [(1, .int (sI 0)), (0, .ref (ad 98))] dX12_next_253 rfl (by decide) rfl ?_
                have zz98_6 : (M206.1 98 6).toInt = (M137.1 98 6).toInt := s_fb eM169 (by decide) (s_fb eM205 (by decide) (s_fb eM206 (by decide) (rfl)))
                have zz98_7 := (Eq.trans (s_fb eM206 (by decide) (rfl) : (M206.1 98 7).toInt = (M205.1 98 7).toInt) (s_wr eM205 (by (clear pM206 hM206 eM206 pM205 hM205 eM205 ua203 la203 h202 h200 h195 k191 ua189 la189 ea189 h188 h186 h181 k177 ua175 la175 ea175 h174 ua172 la172 ea172 ua170 la170 pM169 hM169 eM169 ua167 la167 u166E h161 h159 k155 ua153 la153 h148 h146 k142 la140 u139R fM137 hM137 ih135 u105c pM104 hM104 eM104 ua102 la102 u101T hret C hp3 hp2 hp1 hp0 hpr hM0; omega))))
                have zz98_9 := (Eq.trans (rfl : (M206.1 98 9).toInt = (M206.1 98 9).toInt) (s_wr eM206 (by exact ⟨(by decide), (by decide)⟩)))
                have u207z := sgK_0 (gf ((M206.1 98 6).toInt).toNat)
                have L237 : ∀ (n235 : Nat), ∀ (a238 : Int) (M239 : mm_M), (0 ≤ a238 ∧ a238 ≤ 12 ∧ (0 ≤ (M239.1 98 6).toInt) ∧ ((M239.1 98 8).toInt = (M0.1 98 8).toInt) ∧ ((M239.1 98 11).toInt = (M0.1 98 11).toInt) ∧ ((M0.1 98 7).toInt ≤ (M239.1 98 6).toInt) ∧ ((M239.1 98 6).toInt ≤ (M239.1 98 8).toInt) ∧ ((M239.1 98 8).toInt ≤ 900) ∧ ((M239.1 98 7).toInt ≤ (M239.1 98 8).toInt) ∧ ((M239.1 98 6).toInt < (M239.1 98 7).toInt) ∧ ((M239.1 98 9).toInt = sgK (gf ((M239.1 98 6).toInt).toNat) a238) ∧ ((M239.1 98 6).toInt = (M206.1 98 6).toInt) ∧ ((M239.1 98 7).toInt = (M239.1 98 6).toInt + 1) ∧ ((M239.1 98 6).toInt = runE blB gf gn (M0.1 98 7).toInt) ∧ ((M239.1 98 6).toInt < gn) ∧ ((M239.1 98 12).toInt = (M0.1 98 12).toInt) ∧ (b01 (PI M239) = 1) ∧ (12 - a238) < (n235 : Int)) → INV pr Kz M239 → FR [98] M0 M239 → jj p l e (cn_R 5) s m args below meth c 0 0 Q 2 dC dI ad cA A M239 254 [(0, .ref (ad 98)), (1, .int (sI a238))] [] := by
                  intro n235
                  induction n235 with
                  | zero =>
                    intro a238 M239 h240 hM239 fM239
                    exfalso; (clear fM239 hM239 u207z zz98_9 zz98_7 zz98_6 pM206 hM206 eM206 pM205 hM205 eM205 ua203 la203 ea203 h202 h200 h195 k191 ua189 la189 ea189 h188 h186 h181 k177 ua175 la175 ea175 h174 ua172 la172 ea172 ua170 la170 ea170 pM169 hM169 eM169 ua167 la167 u166E h161 h159 k155 ua153 la153 h148 h146 k142 ua140 la140 u139R fM137 hM137 h138 ih135 u105c pM104 hM104 eM104 ua102 la102 u101T hret C hp3 hp2 hp1 hp0 hpr hM0; omega)
                  | succ n235 ih236 =>
                    intro a238 M239 h240 hM239 fM239
                    refine j_iload_n C 1 1 dX12_next_254 rfl rfl ?_
                    refine j_ldcS C 3 (by decide) rfl rfl dX12_next_255 ?_
                    refine j_callSS C (d := 1) (As := []) (st := [.int (sI a238)]) 3 (by decide) (s2_J0_length_8abf5 hM239) gX12_next_J0_length_8abf5 rfl hdJ0_length_8abf5 (by decide) (Nat.le_of_ble_eq_true rfl) dX12_next_257 rfl (fun r242 M243 h244 => ?_)
                    obtain ⟨a246, rfl, rfl, h245⟩ := h244
                    refine y_icmp_ge C 294 dX12_next_260 (by decide) (by (clear fM239 hM239 ih236 u207z zz98_9 zz98_7 zz98_6 pM206 hM206 eM206 pM205 hM205 eM205 ua203 la203 ea203 h202 h200 h195 k191 ua189 la189 ea189 h188 h186 h181 k177 ua175 la175 ea175 h174 ua172 la172 ea172 ua170 la170 ea170 pM169 hM169 eM169 ua167 la167 u166E h161 h159 k155 ua153 la153 h148 h146 k142 ua140 la140 u139R fM137 hM137 h138 ih135 u105c pM104 hM104 eM104 ua102 la102 u101T hret C hp3 hp2 hp1 hp0 hpr hM0; omega)) (fun h247 => ?_) (fun h247 => ?_)
                    · have u266H := gf_c gf (M239.1 98 6).toInt (M137.1 98 6).toInt
                      have u266G := nt_g (f := gf) (n := gn) (i := (M239.1 98 6).toInt) (by exact ⟨h240.2.2.1, h240.2.2.2.2.2.2.2.2.2.2.2.2.2.2.1⟩) (by (clear h247 h245 fM239 hM239 ih236 u207z zz98_9 pM206 hM206 eM206 pM205 hM205 eM205 ua203 la203 ua189 la189 ea189 k177 ua175 la175 ea175 h174 ua172 la172 ua170 la170 pM169 hM169 eM169 ua167 la167 u166E h161 h159 k155 ua153 la153 h148 h146 k142 la140 u139R fM137 hM137 ih135 u105c pM104 hM104 eM104 ua102 la102 hret C hp3 hp2 hp1 hp0 hpr hM0; omega)) (by (clear h247 h245 fM239 hM239 ih236 u207z zz98_9 pM206 hM206 eM206 pM205 hM205 eM205 ua203 la203 ua189 la189 ea189 h188 h186 h181 k177 ua175 la175 ea175 h174 ua172 la172 ua170 la170 pM169 hM169 eM169 ua167 la167 u166E h161 h159 k155 ua153 la153 h148 h146 k142 la140 u139R fM137 hM137 ih135 u105c pM104 hM104 eM104 ua102 la102 hret C hp3 hp2 hp1 hp0 hpr hM0; omega))
                      have u266K := sgK_c (gf ((M239.1 98 6).toInt).toNat) (gf ((M239.1 98 6).toInt).toNat) 12 a238
                      have u266M := tkm_mk (f := gf) (n := gn) (i := (M239.1 98 6).toInt) (M := M0) (M' := M239) (by exact hp2) (show M239.1 101 = M0.1 101 from (FR.cell fM239 (by decide))) (by (clear u266K u266G u266H h247 h245 fM239 hM239 h240 ih236 u207z zz98_9 zz98_7 zz98_6 pM206 hM206 eM206 pM205 hM205 eM205 ua203 la203 ea203 h202 h200 h195 k191 ua189 la189 ea189 h188 h186 h181 k177 ua175 la175 ea175 h174 ua172 la172 ea172 ua170 la170 ea170 pM169 hM169 eM169 ua167 la167 u166E h161 h159 k155 ua153 la153 h148 h146 k142 ua140 la140 u139R fM137 hM137 h138 ih135 u105c pM104 hM104 eM104 ua102 la102 u101T hret C hp3 hp2 hp1 hp0 hpr hM0; omega)) (by exact ⟨(by (clear u266K u266H h247 h245 fM239 hM239 ih236 u207z zz98_9 pM206 hM206 eM206 pM205 hM205 eM205 ua203 la203 h202 h200 h195 k191 ua189 la189 ea189 h188 h186 h181 k177 ua175 la175 ea175 h174 ua172 la172 ua170 la170 pM169 hM169 eM169 ua167 la167 u166E h161 h159 k155 ua153 la153 h148 h146 k142 la140 u139R fM137 hM137 ih135 u105c pM104 hM104 eM104 ua102 la102 hret C hp3 hp2 hp1 hp0 hpr hM0; omega)), ⟨h240.2.2.1, (by (clear u266K u266H h247 h245 fM239 hM239 ih236 u207z zz98_9 pM206 hM206 eM206 pM205 hM205 eM205 ua203 la203 h202 h200 h195 k191 ua189 la189 ea189 h188 h186 h181 k177 ua175 la175 ea175 h174 ua172 la172 ua170 la170 pM169 hM169 eM169 ua167 la167 u166E h161 h159 k155 ua153 la153 h148 h146 k142 la140 u139R fM137 hM137 ih135 u105c pM104 hM104 eM104 ua102 la102 hret C hp3 hp2 hp1 hp0 hpr hM0; omega))⟩⟩) (by (clear u266H fM239 hM239 ih236 u207z zz98_9 zz98_7 zz98_6 pM206 hM206 eM206 pM205 hM205 eM205 ua203 la203 ea203 h202 h200 h195 k191 ua189 la189 ea189 h188 h186 h181 k177 ua175 la175 ea175 h174 ua172 la172 ea172 ua170 la170 ea170 pM169 hM169 eM169 ua167 la167 u166E h161 h159 k155 ua153 la153 h148 h146 k142 ua140 la140 u139R fM137 hM137 h138 ih135 u105c pM104 hM104 eM104 ua102 la102 u101T hret C hp3 hp2 hp1 hp0 hpr hM0; omega)) (by (clear u266K u266H h247 h245 fM239 hM239 ih236 u207z zz98_9 zz98_7 zz98_6 pM206 hM206 eM206 pM205 hM205 eM205 ua203 la203 ea203 h202 h200 h195 k191 ua189 la189 ea189 h188 h186 h181 k177 ua175 la175 ea175 h174 ua172 la172 ea172 ua170 la170 ea170 pM169 hM169 eM169 ua167 la167 u166E h161 h159 k155 ua153 la153 h148 h146 k142 ua140 la140 u139R fM137 hM137 h138 ih135 u105c pM104 hM104 eM104 ua102 la102 u101T hret C hp3 hp2 hp1 hp0 hpr hM0; omega)) (by (clear u266K u266H h247 h245 fM239 hM239 h240 ih236 u207z zz98_9 zz98_7 zz98_6 pM206 hM206 eM206 pM205 hM205 eM205 ua203 la203 ea203 h202 h200 h195 k191 ua189 la189 ea189 h188 h186 h181 k177 ua175 la175 ea175 h174 ua172 la172 ea172 ua170 la170 ea170 pM169 hM169 eM169 ua167 la167 u166E h161 h159 k155 ua153 la153 h148 h146 k142 ua140 la140 u139R fM137 hM137 h138 ih135 u105c pM104 hM104 eM104 ua102 la102 u101T hret C hp3 hp2 hp1 hp0 hpr hM0; omega))
                      have u267 : b01 (RIP M239) = 1 := b01_i (by unfold RIP; exact ⟨h240.2.2.1, ⟨(by (clear u266M u266K u266H h247 h245 fM239 hM239 ih236 u207z zz98_9 pM206 hM206 eM206 pM205 hM205 eM205 ua203 la203 h202 h200 h195 k191 ua189 la189 ea189 h188 h186 h181 k177 ua175 la175 ea175 h174 ua172 la172 ua170 la170 pM169 hM169 eM169 ua167 la167 u166E h161 h159 k155 ua153 la153 h148 h146 k142 la140 u139R fM137 hM137 ih135 u105c pM104 hM104 eM104 ua102 la102 hret C hp3 hp2 hp0 hpr hM0; omega)), ⟨h240.2.2.2.2.2.2.2.2.1, ⟨h240.2.2.2.2.2.2.2.1, (by (clear u266M u266K u266H h247 h245 fM239 hM239 ih236 u207z zz98_9 pM206 hM206 eM206 pM205 hM205 eM205 ua203 la203 h202 h200 h195 k191 ua189 la189 ea189 h188 h186 h181 k177 ua175 la175 ea175 h174 ua172 la172 ua170 la170 pM169 hM169 eM169 ua167 la167 u166E h161 h159 k155 ua153 la153 h148 h146 k142 la140 u139R fM137 hM137 ih135 u105c pM104 hM104 eM104 ua102 la102 hret C hp3 hp2 hp0 hpr hM0; omega))⟩⟩⟩⟩)
                      exact hret _ _ _ dX12_next_294 ⟨hM239, (FR.rf.tr fM239 (by decide)), by exact ⟨u267, ⟨h240.2.2.2.1, ⟨h240.2.2.2.2.2.1, ⟨h240.2.2.2.2.1, ⟨u266M, ⟨h240.2.2.2.2.2.2.2.2.2.2.2.2.2.1, ⟨h240.2.2.2.2.2.2.2.2.2.2.2.2.2.2.2.1, h240.2.2.2.2.2.2.2.2.2.2.2.2.2.2.2.2.1⟩⟩⟩⟩⟩⟩⟩⟩
                    · have u248s := sgK_s (gf ((M239.1 98 6).toInt).toNat) a238 (by exact ⟨h240.1, (by (clear fM239 hM239 ih236 u207z zz98_9 zz98_7 zz98_6 pM206 hM206 eM206 pM205 hM205 eM205 ua203 la203 ea203 h202 h200 h195 k191 ua189 la189 ea189 h188 h186 h181 k177 ua175 la175 ea175 h174 ua172 la172 ea172 ua170 la170 ea170 pM169 hM169 eM169 ua167 la167 u166E h161 h159 k155 ua153 la153 h148 h146 k142 ua140 la140 u139R fM137 hM137 h138 ih135 u105c pM104 hM104 eM104 ua102 la102 u101T hret C hp3 hp2 hp1 hp0 hpr hM0; omega))⟩)
                      refine j_aload_n C 0 0 dX12_next_263 rfl rfl ?_
                      refine j_aload_n C 0 0 dX12_next_264 rfl rfl ?_
                      refine y_getI C 11 _ _ fX12_next_98 rfl rfl ft_11_6 sb_11_6 hM239 dX12_next_265 (fun a249 ea249 la249 ua249 => ?_)
                      obtain rfl : a249 = (M239.1 98 6).toInt := ea249
                      have k251 := tpm_s (f := gf) (n := gn) (a := (M239.1 98 6).toInt) (M := M0) (M' := M239) (by exact hp2) (show M239.1 101 = M0.1 101 from (FR.cell fM239 (by decide)))
                      refine j_callVi C (d := 0) (As := [.int (sI (M239.1 98 6).toInt)]) (st := []) 98 (s_lt rfl rfl) (s_kc (c := 11) rfl rfl) (by decide) rfl (s1_X12_see hM239 (M239.1 98 6).toInt (by (clear k251 ua249 la249 u248s h247 h245 fM239 hM239 ih236 u207z zz98_9 pM206 hM206 eM206 pM205 hM205 eM205 ua203 la203 h202 h200 h195 k191 ua189 la189 ea189 h188 h186 h181 k177 ua175 la175 ea175 h174 ua172 la172 ea172 ua170 la170 pM169 hM169 eM169 ua167 la167 u166E h161 h159 k155 ua153 la153 h148 h146 k142 la140 u139R fM137 hM137 ih135 u105c pM104 hM104 eM104 ua102 la102 u101T hret C hp3 hp2 hp1 hp0 hpr hM0; omega)) (by exact ⟨h240.2.2.1, ua249⟩)) gX12_next_X12_see rfl hdX12_see (by decide) (Nat.le_of_ble_eq_true rfl) dX12_next_268 rfl (fun r252 M253 h254 => ?_)
                      obtain ⟨a256, rfl, rfl, h255⟩ := h254
                      refine j_ldcS C 3 (by decide) rfl rfl dX12_next_271 ?_
                      refine j_iload_n C 1 1 dX12_next_273 rfl rfl ?_
                      refine j_callSS C (d := 3) (As := [.int (sI a238)]) (st := [.int (sI a256)]) 3 (by decide) (s2_J0_charAt_5068e hM239 a238 (by (clear h255 k251 ua249 la249 u248s h247 h245 fM239 hM239 ih236 u207z zz98_9 zz98_7 zz98_6 pM206 hM206 eM206 pM205 hM205 eM205 ua203 la203 ea203 h202 h200 h195 k191 ua189 la189 ea189 h188 h186 h181 k177 ua175 la175 ea175 h174 ua172 la172 ea172 ua170 la170 ea170 pM169 hM169 eM169 ua167 la167 u166E h161 h159 k155 ua153 la153 h148 h146 k142 ua140 la140 u139R fM137 hM137 h138 ih135 u105c pM104 hM104 eM104 ua102 la102 u101T hret C hp3 hp2 hp1 hp0 hpr hM0; omega)) (by exact ⟨h240.1, (by (clear h255 k251 ua249 la249 u248s fM239 hM239 ih236 u207z zz98_9 zz98_7 zz98_6 pM206 hM206 eM206 pM205 hM205 eM205 ua203 la203 ea203 h202 h200 h195 k191 ua189 la189 ea189 h188 h186 h181 k177 ua175 la175 ea175 h174 ua172 la172 ea172 ua170 la170 ea170 pM169 hM169 eM169 ua167 la167 u166E h161 h159 k155 ua153 la153 h148 h146 k142 ua140 la140 u139R fM137 hM137 h138 ih135 u105c pM104 hM104 eM104 ua102 la102 u101T hret C hp3 hp2 hp1 hp0 hpr hM0; omega))⟩)) gX12_next_J0_charAt_5068e rfl hdJ0_charAt_5068e (by decide) (Nat.le_of_ble_eq_true rfl) dX12_next_274 rfl (fun r257 M258 h259 => ?_)
                      obtain ⟨a261, rfl, rfl, h260⟩ := h259
                      refine y_icmp_ne C 288 dX12_next_277 (by decide) (by (clear k251 ua249 la249 u248s h247 h245 fM239 hM239 h240 ih236 u207z zz98_9 zz98_7 zz98_6 pM206 hM206 eM206 pM205 hM205 eM205 ua203 la203 ea203 h202 h200 h195 k191 ua189 la189 ea189 h188 h186 h181 k177 ua175 la175 ea175 h174 ua172 la172 ea172 ua170 la170 ea170 pM169 hM169 eM169 ua167 la167 u166E h161 h159 k155 ua153 la153 h148 h146 k142 ua140 la140 u139R fM137 hM137 h138 ih135 u105c pM104 hM104 eM104 ua102 la102 u101T hret C hp3 hp2 hp1 hp0 hpr hM0; omega)) (fun h262 => ?_) (fun h262 => ?_)
                      · refine y_iinc C 1 [(1, .int (sI (a238 + 1))), (0, .ref (ad 98))] dX12_next_288 rfl (by decide) rfl ?_
                        refine j_goto C 254 dX12_next_291 (by decide) ?_
                        have u263c := sgK_c (gf ((M239.1 98 6).toInt).toNat) (gf ((M239.1 98 6).toInt).toNat) (a238 + 1) (a238 + 1)
                        have u263g := gf_c gf (M239.1 98 6).toInt (M239.1 98 6).toInt
                        refine j_lv [1, 0] rfl ?_; exact ih236 (a238 + 1) M239 (by (clear u263g u263c ua249 la249 fM239 hM239 ih236 u207z zz98_9 zz98_7 zz98_6 pM206 hM206 eM206 pM205 hM205 eM205 ua203 la203 ea203 h202 h200 h195 k191 ua189 la189 ea189 h188 h186 h181 k177 ua175 la175 ea175 h174 ua172 la172 ea172 ua170 la170 ea170 pM169 hM169 eM169 ua167 la167 u166E h161 h159 k155 ua153 la153 h148 h146 k142 ua140 la140 u139R fM137 hM137 h138 ih135 u105c pM104 hM104 eM104 ua102 la102 u101T hret C hp3 hp2 hp1 hp0 hpr hM0; exact ⟨(by omega), ⟨(by omega), ⟨h240.2.2.1, ⟨h240.2.2.2.1, ⟨h240.2.2.2.2.1, ⟨h240.2.2.2.2.2.1, ⟨h240.2.2.2.2.2.2.1, ⟨h240.2.2.2.2.2.2.2.1, ⟨h240.2.2.2.2.2.2.2.2.1, ⟨h240.2.2.2.2.2.2.2.2.2.1, ⟨(by omega), ⟨h240.2.2.2.2.2.2.2.2.2.2.2.1, ⟨h240.2.2.2.2.2.2.2.2.2.2.2.2.1, ⟨h240.2.2.2.2.2.2.2.2.2.2.2.2.2.1, ⟨h240.2.2.2.2.2.2.2.2.2.2.2.2.2.2.1, ⟨h240.2.2.2.2.2.2.2.2.2.2.2.2.2.2.2.1, ⟨h240.2.2.2.2.2.2.2.2.2.2.2.2.2.2.2.2.1, (by omega)⟩⟩⟩⟩⟩⟩⟩⟩⟩⟩⟩⟩⟩⟩⟩⟩⟩)) hM239 (FR.rf.tr fM239 (by decide))
                      · refine j_aload_n C 0 0 dX12_next_280 rfl rfl ?_
                        refine y_bipush C dX12_next_281 rfl ?_
                        refine j_iload_n C 1 1 dX12_next_283 rfl rfl ?_
                        refine y_iadd C dX12_next_284 ?_
                        refine y_putIF C 11 qX12_next_108 rfl rfl ft_11_9 sb_11_9 hM239 (PM.w hpr rfl rfl) dX12_next_285 (fun M264 eM264 hM264 => ?_)
                        have pM264 := pi_o eM264 (by decide) (by decide) (by exact h240.2.2.2.2.2.2.2.2.2.2.2.2.2.2.2.2.1)
                        refine y_iinc C 1 [(1, .int (sI (a238 + 1))), (0, .ref (ad 98))] dX12_next_288 rfl (by decide) rfl ?_
                        refine j_goto C 254 dX12_next_291 (by decide) ?_
                        have zz98_6 : (M264.1 98 6).toInt = (M239.1 98 6).toInt := s_fb eM264 (by decide) (rfl)
                        have zz98_9 := (Eq.trans (rfl : (M264.1 98 9).toInt = (M264.1 98 9).toInt) (s_wr eM264 (by omega)))
                        have u265c := sgK_c (gf ((M264.1 98 6).toInt).toNat) (gf ((M239.1 98 6).toInt).toNat) (a238 + 1) (a238 + 1)
                        have u265g := gf_c gf (M264.1 98 6).toInt (M239.1 98 6).toInt
                        have zz98_9 := (Eq.trans (rfl : (M264.1 98 9).toInt = (M264.1 98 9).toInt) (s_wr eM264 (by omega))); have zz98_8 : (M264.1 98 8).toInt = (M239.1 98 8).toInt := s_fb eM264 (by decide) (rfl); have zz98_7 : (M264.1 98 7).toInt = (M239.1 98 7).toInt := s_fb eM264 (by decide) (rfl); have zz98_6 : (M264.1 98 6).toInt = (M239.1 98 6).toInt := s_fb eM264 (by decide) (rfl); have zz98_12 : (M264.1 98 12).toInt = (M239.1 98 12).toInt := s_fb eM264 (by decide) (rfl); have zz98_11 : (M264.1 98 11).toInt = (M239.1 98 11).toInt := s_fb eM264 (by decide) (rfl); refine j_lv [1, 0] rfl ?_; exact ih236 (a238 + 1) M264 (by (clear zz98_6 zz98_9 hM264 eM264 ua249 la249 fM239 hM239 ih236 u207z pM206 hM206 eM206 pM205 hM205 eM205 ua203 la203 ea203 h202 h200 h195 k191 ua189 la189 ea189 h188 h186 h181 k177 ua175 la175 ea175 h174 ua172 la172 ea172 ua170 la170 ea170 pM169 hM169 eM169 ua167 la167 u166E h161 h159 k155 ua153 la153 h148 h146 k142 ua140 la140 u139R fM137 hM137 h138 ih135 u105c pM104 hM104 eM104 ua102 la102 u101T hret C hp3 hp2 hp1 hp0 hpr hM0; omega)) hM264 ((FR.rf.tr fM239 (by decide)).wI eM264 (by decide))
                have zz98_9 := (Eq.trans (rfl : (M206.1 98 9).toInt = (M206.1 98 9).toInt) (s_wr eM206 (by exact ⟨(by decide), (by decide)⟩))); have zz98_8 : (M206.1 98 8).toInt = (M137.1 98 8).toInt := s_fb eM169 (by decide) (s_fb eM205 (by decide) (s_fb eM206 (by decide) (rfl))); have zz98_7 := (Eq.trans (s_fb eM206 (by decide) (rfl) : (M206.1 98 7).toInt = (M205.1 98 7).toInt) (s_wr eM205 (by omega))); have zz98_6 : (M206.1 98 6).toInt = (M137.1 98 6).toInt := s_fb eM169 (by decide) (s_fb eM205 (by decide) (s_fb eM206 (by decide) (rfl))); have zz98_12 : (M206.1 98 12).toInt = (M137.1 98 12).toInt := s_fb eM169 (by decide) (s_fb eM205 (by decide) (s_fb eM206 (by decide) (rfl))); have zz98_11 : (M206.1 98 11).toInt = (M137.1 98 11).toInt := s_fb eM169 (by decide) (s_fb eM205 (by decide) (s_fb eM206 (by decide) (rfl))); refine j_lv [1, 0] rfl ?_; exact L237 2010 0 M206 (by (clear zz98_6 zz98_7 zz98_9 L237 hM206 eM206 pM205 hM205 eM205 ua203 la203 ua189 la189 ea189 ua175 la175 ea175 ua172 la172 ua170 la170 pM169 hM169 eM169 ua167 la167 ua153 la153 la140 fM137 hM137 ih135 u105c pM104 hM104 eM104 ua102 la102 hret C hp3 hp2 hp0 hpr hM0; omega)) hM206 ((((FR.rf.tr fM137 (by decide)).wI eM169 (by decide)).wI eM205 (by decide)).wI eM206 (by decide))
              · refine j_aload_n C 0 0 dX12_next_141 rfl rfl ?_
                refine y_iconst C dX12_next_142 ?_
                refine y_putI C 11 _ _ qX12_next_121 rfl rfl ft_11_10 sb_11_10 hM169 (PM.w hpr rfl rfl) dX12_next_143 (by exact ⟨⟨(by decide), (by decide)⟩, ⟨(by decide), (by decide)⟩⟩) (fun M268 eM268 hM268 => ?_)
                have pM268 := pi_o eM268 (by decide) (by decide) (by exact pM169)
                have u269a : (M169.1 98 7).toInt = (M137.1 98 6).toInt := s_wr eM169 (by (clear pM268 hM268 eM268 h202 h200 h195 k191 ua189 la189 ea189 h188 h186 h181 k177 ua175 la175 ea175 h174 ua172 la172 ea172 ua170 la170 pM169 hM169 eM169 ua167 la167 u166E h161 h159 k155 ua153 la153 h148 h146 k142 la140 u139R fM137 hM137 ih135 u105c pM104 hM104 eM104 ua102 la102 u101T hret C hp3 hp2 hp1 hp0 hpr hM0; omega))
                have u269b : (M268.1 98 7).toInt = (M169.1 98 7).toInt := congrArg Int32.toInt (wI_ne eM268 (by decide))
                have u269c : (M268.1 101 ((M268.1 98 7).toInt).toNat).toInt = (M169.1 101 ((M137.1 98 6).toInt).toNat).toInt := by rw [u269b, u269a, wI_cell eM268 (show (101 : Nat) ≠ 98 by decide)]
                have u269c := run_c dgB gf gn (M268.1 98 7).toInt ((M137.1 98 6).toInt)
                have zz98_6 : (M268.1 98 6).toInt = (M137.1 98 6).toInt := s_fb eM169 (by decide) (s_fb eM268 (by decide) (rfl))
                have zz98_7 := (Eq.trans (s_fb eM268 (by decide) (rfl) : (M268.1 98 7).toInt = (M169.1 98 7).toInt) (s_wr eM169 (by omega)))
                have u269g := gf_c gf (M137.1 98 6).toInt (M268.1 98 6).toInt
                have u269n := nt_d (f := gf) (n := gn) (i := (M268.1 98 6).toInt) (by omega) (by omega)
                have u269r := rx_dg gf gn (M268.1 98 6).toInt (by omega)
                have u269d := run_c dgB gf gn (M268.1 98 7).toInt (M268.1 98 6).toInt
                have u269V := val_c gf (M268.1 98 6).toInt ((M268.1 98 7).toInt - (M268.1 98 6).toInt) 0
                have u269W : valF gf (M268.1 98 6).toInt (0 : Int).toNat = 0 := rfl
                have L312 : ∀ (n310 : Nat), ∀ (M313 : mm_M), ((0 ≤ (M313.1 98 6).toInt) ∧ ((M313.1 98 8).toInt = (M0.1 98 8).toInt) ∧ ((M313.1 98 11).toInt = (M0.1 98 11).toInt) ∧ ((M0.1 98 7).toInt ≤ (M313.1 98 6).toInt) ∧ ((M313.1 98 6).toInt ≤ (M313.1 98 8).toInt) ∧ ((M313.1 98 8).toInt ≤ 900) ∧ ((M313.1 98 7).toInt ≤ (M313.1 98 8).toInt) ∧ ((M313.1 98 6).toInt < (M313.1 98 7).toInt ∨ (M313.1 98 7).toInt = (M313.1 98 6).toInt ∧ (M313.1 98 7).toInt < (M313.1 98 8).toInt ∧ 48 ≤ (M313.1 101 (M313.1 98 7).toInt.toNat).toInt ∧ (M313.1 101 (M313.1 98 7).toInt.toNat).toInt ≤ 57) ∧ ((M313.1 98 7).toInt = (M313.1 98 6).toInt ∧ (M313.1 98 10).toInt = 0 ∨ (M313.1 98 7).toInt = (M313.1 98 6).toInt + 1 ∧ (M313.1 98 10).toInt ≤ 9 ∨ (M313.1 98 7).toInt = (M313.1 98 6).toInt + 2 ∧ (M313.1 98 10).toInt ≤ 99 ∨ (M313.1 98 6).toInt + 3 ≤ (M313.1 98 7).toInt) ∧ (runE dgB gf gn (M313.1 98 7).toInt = runE dgB gf gn ((M268.1 98 6).toInt + 1)) ∧ ((M313.1 98 6).toInt = (M268.1 98 6).toInt) ∧ ((M313.1 98 6).toInt = runE blB gf gn (M0.1 98 7).toInt) ∧ ((M313.1 98 12).toInt = (M0.1 98 12).toInt) ∧ ((M313.1 98 7).toInt - (M268.1 98 6).toInt ≤ 3 ∧ (M313.1 98 10).toInt = valF gf (M268.1 98 6).toInt ((M313.1 98 7).toInt - (M268.1 98 6).toInt).toNat ∨ 3 < (M313.1 98 7).toInt - (M268.1 98 6).toInt) ∧ (b01 (PI M313) = 1) ∧ (900 - (M313.1 98 7).toInt) < (n310 : Int)) → INV pr Kz M313 → FR [98] M0 M313 → jj p l e (cn_R 5) s m args below meth c 0 0 Q 2 dC dI ad cA A M313 146 [(0, .ref (ad 98))] [] := by
                  intro n310
                  induction n310 with
                  | zero =>
                    intro M313 h314 hM313 fM313
                    exfalso; omega
                  | succ n310 ih311 =>
                    intro M313 h314 hM313 fM313
                    have u315R := rx_dg gf gn (M313.1 98 7).toInt (by omega)
                    refine j_aload_n C 0 0 dX12_next_146 rfl rfl ?_
                    refine j_aload_n C 0 0 dX12_next_147 rfl rfl ?_
                    refine y_getI C 11 _ _ fX12_next_101 rfl rfl ft_11_7 sb_11_7 hM313 dX12_next_148 (fun a316 ea316 la316 ua316 => ?_)
                    obtain rfl : a316 = (M313.1 98 7).toInt := ea316
                    have k318 := tpm_s (f := gf) (n := gn) (a := (M313.1 98 7).toInt) (M := M0) (M' := M313) (by exact hp2) (show M313.1 101 = M0.1 101 from (FR.cell fM313 (by decide)))
                    refine j_callVi C (d := 0) (As := [.int (sI (M313.1 98 7).toInt)]) (st := []) 98 (s_lt rfl rfl) (s_kc (c := 11) rfl rfl) (by decide) rfl (s1_X12_see hM313 (M313.1 98 7).toInt (by omega) (by exact ⟨la316, ua316⟩)) gX12_next_X12_see rfl hdX12_see (by decide) (Nat.le_of_ble_eq_true rfl) dX12_next_151 rfl (fun r319 M320 h321 => ?_)
                    obtain ⟨a323, rfl, rfl, h322⟩ := h321
                    refine j_callSi C (d := 0) (As := [.int (sI a323)]) (st := []) (s1_X12_isDigit hM313 a323 (by omega)) gX12_next_X12_isDigit rfl hdX12_isDigits (by decide) (Nat.le_of_ble_eq_true rfl) dX12_next_154 rfl (fun r324 M325 h326 => ?_)
                    obtain ⟨a328, rfl, rfl, h327⟩ := h326
                    refine y_if_eq C 209 dX12_next_157 (by decide) (by omega) (fun h329 => ?_) (fun h329 => ?_)
                    · have u354V := val_c gf (M268.1 98 6).toInt ((M313.1 98 7).toInt - (M268.1 98 6).toInt) (runE dgB gf gn ((M268.1 98 6).toInt + 1) - (M268.1 98 6).toInt)
                      refine j_aload_n C 0 0 dX12_next_209 rfl rfl ?_
                      refine j_aload_n C 0 0 dX12_next_210 rfl rfl ?_
                      refine y_getI C 11 _ _ fX12_next_101 rfl rfl ft_11_7 sb_11_7 hM313 dX12_next_211 (fun a355 ea355 la355 ua355 => ?_)
                      obtain rfl : a355 = (M313.1 98 7).toInt := ea355
                      refine j_aload_n C 0 0 dX12_next_214 rfl rfl ?_
                      refine y_getI C 11 _ _ fX12_next_98 rfl rfl ft_11_6 sb_11_6 hM313 dX12_next_215 (fun a357 ea357 la357 ua357 => ?_)
                      obtain rfl : a357 = (M313.1 98 6).toInt := ea357
                      refine y_isub C dX12_next_218 ?_
                      refine y_iconst C dX12_next_219 ?_
                      refine y_icmp_le C 228 dX12_next_220 (by decide) (by omega) (fun h359 => ?_) (fun h359 => ?_)
                      · refine y_bipush C dX12_next_228 rfl ?_
                        refine y_putIF C 11 qX12_next_108 rfl rfl ft_11_9 sb_11_9 hM313 (PM.w hpr rfl rfl) dX12_next_230 (fun M360 eM360 hM360 => ?_)
                        have pM360 := pi_o eM360 (by decide) (by decide) (by exact h314.2.2.2.2.2.2.2.2.2.2.2.2.2.2.1)
                        refine j_goto C 294 dX12_next_233 (by decide) ?_
                        have zz98_6 : (M360.1 98 6).toInt = (M313.1 98 6).toInt := s_fb eM360 (by decide) (rfl)
                        have zz98_7 : (M360.1 98 7).toInt = (M313.1 98 7).toInt := s_fb eM360 (by decide) (rfl)
                        have zz98_8 : (M360.1 98 8).toInt = (M313.1 98 8).toInt := s_fb eM360 (by decide) (rfl)
                        have zz98_9 := (Eq.trans (rfl : (M360.1 98 9).toInt = (M360.1 98 9).toInt) (s_wr eM360 (by exact ⟨(by decide), (by decide)⟩)))
                        have zz98_10 : (M360.1 98 10).toInt = (M313.1 98 10).toInt := s_fb eM360 (by decide) (rfl)
                        have u361M := tkm_mk (f := gf) (n := gn) (i := (M268.1 98 6).toInt) (M := M0) (M' := M360) (by exact hp2) (show M360.1 101 = M0.1 101 from ((wI_cell eM360 (by decide)).trans (FR.cell fM313 (by decide)))) (by omega) (by omega) (by (clear zz98_10 pM360 hM360 eM360 ua357 la357 ua355 la355 fM313 hM313 ih311 u269W u269g u269c pM268 hM268 eM268 h202 h200 h195 k191 ua189 la189 ea189 h188 h186 h181 k177 ua175 la175 ea175 ua172 la172 ua170 la170 pM169 hM169 eM169 ua167 la167 u166E h161 h159 k155 ua153 la153 h148 h146 k142 ua140 la140 u139R fM137 hM137 ih135 u105c pM104 hM104 eM104 ua102 la102 hret C hp3 hp2 hp1 hp0 hpr hM0; omega)) (by (clear zz98_10 zz98_9 zz98_8 zz98_6 pM360 hM360 eM360 h359 ua357 la357 ua355 la355 u354V ua316 la316 fM313 hM313 ih311 u269W u269V u269d u269r u269g u269c u269b u269a pM268 hM268 eM268 h202 h200 h195 k191 ua189 la189 ea189 h188 h186 h181 k177 ua175 la175 ea175 h174 ua172 la172 ea172 ua170 la170 ea170 pM169 hM169 eM169 ua167 la167 u166E h161 h159 k155 ua153 la153 h148 h146 k142 ua140 la140 u139R fM137 hM137 h138 ih135 u105c pM104 hM104 eM104 ua102 la102 hret C hp3 hp2 hp1 hp0 hpr hM0; omega)) (by (clear zz98_9 pM360 hM360 eM360 ua357 la357 ua355 la355 fM313 hM313 ih311 u269W u269g u269c pM268 hM268 eM268 h202 h200 h195 k191 ua189 la189 ea189 h188 h186 h181 k177 ua175 la175 ea175 ua172 la172 ua170 la170 pM169 hM169 eM169 ua167 la167 u166E h161 h159 k155 ua153 la153 h148 h146 k142 ua140 la140 u139R fM137 hM137 ih135 u105c pM104 hM104 eM104 ua102 la102 hret C hp3 hp2 hp1 hp0 hpr hM0; omega))
                        have zz98_6 : (M360.1 98 6).toInt = (M313.1 98 6).toInt := s_fb eM360 (by decide) (rfl)
                        have zz98_7 : (M360.1 98 7).toInt = (M313.1 98 7).toInt := s_fb eM360 (by decide) (rfl)
                        have zz98_8 : (M360.1 98 8).toInt = (M313.1 98 8).toInt := s_fb eM360 (by decide) (rfl)
                        have zz98_9 := (Eq.trans (rfl : (M360.1 98 9).toInt = (M360.1 98 9).toInt) (s_wr eM360 (by exact ⟨(by decide), (by decide)⟩)))
                        have u362 : b01 (RIP M360) = 1 := b01_i (by unfold RIP; (clear zz98_9 zz98_8 zz98_7 zz98_6 u361M zz98_10 pM360 hM360 eM360 h359 ua357 la357 ua355 la355 u354V k318 ua316 la316 u315R fM313 hM313 ih311 u269W u269V u269d u269r u269n u269g u269c u269b u269a pM268 hM268 eM268 h202 h200 h195 k191 ua189 la189 ea189 h188 h186 h181 k177 ua175 la175 ea175 h174 ua172 la172 ea172 ua170 la170 ea170 pM169 hM169 eM169 ua167 la167 u166E h161 h159 k155 ua153 la153 h148 h146 k142 ua140 la140 u139R fM137 hM137 h138 ih135 u105c pM104 hM104 eM104 ua102 la102 u101T hret C hp3 hp2 hp1 hp0 hpr hM0; omega))
                        have zz98_11 : (M360.1 98 11).toInt = (M313.1 98 11).toInt := s_fb eM360 (by decide) (rfl); have zz98_12 : (M360.1 98 12).toInt = (M313.1 98 12).toInt := s_fb eM360 (by decide) (rfl); have zz98_6 : (M360.1 98 6).toInt = (M313.1 98 6).toInt := s_fb eM360 (by decide) (rfl); have zz98_8 : (M360.1 98 8).toInt = (M313.1 98 8).toInt := s_fb eM360 (by decide) (rfl); exact hret _ _ _ dX12_next_294 ⟨hM360, ((FR.rf.tr fM313 (by decide)).wI eM360 (by decide)), by omega⟩
                      · refine y_bipush C dX12_next_223 rfl ?_
                        refine j_goto C 230 dX12_next_225 (by decide) ?_
                        refine y_putIF C 11 qX12_next_108 rfl rfl ft_11_9 sb_11_9 hM313 (PM.w hpr rfl rfl) dX12_next_230 (fun M363 eM363 hM363 => ?_)
                        have pM363 := pi_o eM363 (by decide) (by decide) (by exact h314.2.2.2.2.2.2.2.2.2.2.2.2.2.2.1)
                        refine j_goto C 294 dX12_next_233 (by decide) ?_
                        have zz98_6 : (M363.1 98 6).toInt = (M313.1 98 6).toInt := s_fb eM363 (by decide) (rfl)
                        have zz98_7 : (M363.1 98 7).toInt = (M313.1 98 7).toInt := s_fb eM363 (by decide) (rfl)
                        have zz98_8 : (M363.1 98 8).toInt = (M313.1 98 8).toInt := s_fb eM363 (by decide) (rfl)
                        have zz98_9 := (Eq.trans (rfl : (M363.1 98 9).toInt = (M363.1 98 9).toInt) (s_wr eM363 (by exact ⟨(by decide), (by decide)⟩)))
                        have zz98_10 : (M363.1 98 10).toInt = (M313.1 98 10).toInt := s_fb eM363 (by decide) (rfl)
                        have u364M := tkm_mk (f := gf) (n := gn) (i := (M268.1 98 6).toInt) (M := M0) (M' := M363) (by exact hp2) (show M363.1 101 = M0.1 101 from ((wI_cell eM363 (by decide)).trans (FR.cell fM313 (by decide)))) (by omega) (by omega) (by (clear zz98_10 zz98_8 zz98_7 zz98_6 pM363 hM363 eM363 ua357 la357 ua355 la355 u354V ua316 la316 fM313 hM313 ih311 u269W u269V u269d u269r u269g u269c pM268 hM268 eM268 h202 h200 h195 k191 ua189 la189 ea189 h188 h186 h181 k177 ua175 la175 ea175 h174 ua172 la172 ea172 ua170 la170 ea170 pM169 hM169 eM169 ua167 la167 u166E h161 h159 k155 ua153 la153 h148 h146 k142 ua140 la140 u139R fM137 hM137 h138 ih135 u105c pM104 hM104 eM104 ua102 la102 hret C hp3 hp2 hp1 hp0 hpr hM0; (clear zz98_7 zz98_6 u269c u269b u269a; omega))) (by (clear zz98_10 zz98_9 zz98_8 zz98_6 pM363 hM363 eM363 h359 ua357 la357 ua355 la355 u354V ua316 la316 fM313 hM313 ih311 u269W u269V u269d u269r u269g u269c u269b u269a pM268 hM268 eM268 h202 h200 h195 k191 ua189 la189 ea189 h188 h186 h181 k177 ua175 la175 ea175 h174 ua172 la172 ea172 ua170 la170 ea170 pM169 hM169 eM169 ua167 la167 u166E h161 h159 k155 ua153 la153 h148 h146 k142 ua140 la140 u139R fM137 hM137 h138 ih135 u105c pM104 hM104 eM104 ua102 la102 hret C hp3 hp2 hp1 hp0 hpr hM0; omega)) (by (clear zz98_10 zz98_9 zz98_8 zz98_7 zz98_6 pM363 hM363 eM363 ua357 la357 ua355 la355 u354V ua316 la316 fM313 hM313 ih311 u269W u269V u269d u269r u269g u269c pM268 hM268 eM268 h202 h200 h195 k191 ua189 la189 ea189 h188 h186 h181 k177 ua175 la175 ea175 h174 ua172 la172 ea172 ua170 la170 ea170 pM169 hM169 eM169 ua167 la167 u166E h161 h159 k155 ua153 la153 h148 h146 k142 ua140 la140 u139R fM137 hM137 h138 ih135 u105c pM104 hM104 eM104 ua102 la102 hret C hp3 hp2 hp1 hp0 hpr hM0; (clear zz98_7 zz98_6 u269c u269b u269a; omega)))
                        have zz98_6 : (M363.1 98 6).toInt = (M313.1 98 6).toInt := s_fb eM363 (by decide) (rfl)
                        have zz98_7 : (M363.1 98 7).toInt = (M313.1 98 7).toInt := s_fb eM363 (by decide) (rfl)
                        have zz98_8 : (M363.1 98 8).toInt = (M313.1 98 8).toInt := s_fb eM363 (by decide) (rfl)
                        have zz98_9 := (Eq.trans (rfl : (M363.1 98 9).toInt = (M363.1 98 9).toInt) (s_wr eM363 (by exact ⟨(by decide), (by decide)⟩)))
                        have u365 : b01 (RIP M363) = 1 := b01_i (by unfold RIP; omega)
                        have zz98_11 : (M363.1 98 11).toInt = (M313.1 98 11).toInt := s_fb eM363 (by decide) (rfl); have zz98_12 : (M363.1 98 12).toInt = (M313.1 98 12).toInt := s_fb eM363 (by decide) (rfl); have zz98_6 : (M363.1 98 6).toInt = (M313.1 98 6).toInt := s_fb eM363 (by decide) (rfl); have zz98_8 : (M363.1 98 8).toInt = (M313.1 98 8).toInt := s_fb eM363 (by decide) (rfl); exact hret _ _ _ dX12_next_294 ⟨hM363, ((FR.rf.tr fM313 (by decide)).wI eM363 (by decide)), by omega⟩
                    · refine j_aload_n C 0 0 dX12_next_160 rfl rfl ?_
                      refine y_getI C 11 _ _ fX12_next_101 rfl rfl ft_11_7 sb_11_7 hM313 dX12_next_161 (fun a330 ea330 la330 ua330 => ?_)
                      obtain rfl : a330 = (M313.1 98 7).toInt := ea330
                      refine j_aload_n C 0 0 dX12_next_164 rfl rfl ?_
                      refine y_getI C 11 _ _ fX12_next_98 rfl rfl ft_11_6 sb_11_6 hM313 dX12_next_165 (fun a332 ea332 la332 ua332 => ?_)
                      obtain rfl : a332 = (M313.1 98 6).toInt := ea332
                      refine y_isub C dX12_next_168 ?_
                      refine y_iconst C dX12_next_169 ?_
                      refine y_icmp_ge C 196 dX12_next_170 (by decide) (by omega) (fun h334 => ?_) (fun h334 => ?_)
                      · refine j_aload_n C 0 0 dX12_next_196 rfl rfl ?_
                        refine j_dup C dX12_next_197 rfl ?_
                        refine y_getI C 11 _ _ fX12_next_101 rfl rfl ft_11_7 sb_11_7 hM313 dX12_next_198 (fun a335 ea335 la335 ua335 => ?_)
                        obtain rfl : a335 = (M313.1 98 7).toInt := ea335
                        refine y_iconst C dX12_next_201 ?_
                        refine y_iadd C dX12_next_202 ?_
                        refine y_putI C 11 _ _ qX12_next_101 rfl rfl ft_11_7 sb_11_7 hM313 (PM.w hpr rfl rfl) dX12_next_203 (by omega) (fun M337 eM337 hM337 => ?_)
                        have pM337 := pi_o eM337 (by decide) (by decide) (by exact h314.2.2.2.2.2.2.2.2.2.2.2.2.2.2.1)
                        refine j_goto C 146 dX12_next_206 (by decide) ?_
                        have u338c := run_c dgB gf gn (M337.1 98 7).toInt (((M313.1 98 7).toInt + 1))
                        have u338V := val_c gf (M268.1 98 6).toInt ((M337.1 98 7).toInt - (M268.1 98 6).toInt) ((M313.1 98 7).toInt + 1 - (M268.1 98 6).toInt)
                        have u338W := val_s gf (M268.1 98 6).toInt (M313.1 98 7).toInt (by omega)
                        have zz98_8 : (M337.1 98 8).toInt = (M313.1 98 8).toInt := s_fb eM337 (by decide) (rfl); have zz98_7 := (Eq.trans (rfl : (M337.1 98 7).toInt = (M337.1 98 7).toInt) (s_wr eM337 (by omega))); have zz98_6 : (M337.1 98 6).toInt = (M313.1 98 6).toInt := s_fb eM337 (by decide) (rfl); have zz98_12 : (M337.1 98 12).toInt = (M313.1 98 12).toInt := s_fb eM337 (by decide) (rfl); have zz98_11 : (M337.1 98 11).toInt = (M313.1 98 11).toInt := s_fb eM337 (by decide) (rfl); have zz98_10 : (M337.1 98 10).toInt = (M313.1 98 10).toInt := s_fb eM337 (by decide) (rfl); exact ih311 M337 (by (clear zz98_10 u338W u338V hM337 eM337 ua335 la335 ua332 la332 ua330 la330 ua316 la316 fM313 hM313 ih311 u269W u269V u269d u269r u269n u269g u269c u269b u269a pM268 hM268 eM268 h202 h200 h195 k191 ua189 la189 ea189 h188 h186 h181 k177 ua175 la175 ea175 h174 ua172 la172 ea172 ua170 la170 ea170 pM169 hM169 eM169 ua167 la167 u166E h161 h159 k155 ua153 la153 h148 h146 k142 ua140 la140 u139R fM137 hM137 h138 ih135 u105c pM104 hM104 eM104 ua102 la102 hret C hp3 hp2 hp1 hp0 hpr hM0; omega)) hM337 ((FR.rf.tr fM313 (by decide)).wI eM337 (by decide))
                      · refine j_aload_n C 0 0 dX12_next_173 rfl rfl ?_
                        refine y_bipush C dX12_next_174 rfl ?_
                        refine j_aload_n C 0 0 dX12_next_176 rfl rfl ?_
                        refine y_getI C 11 _ _ fX12_next_121 rfl rfl ft_11_10 sb_11_10 hM313 dX12_next_177 (fun a339 ea339 la339 ua339 => ?_)
                        obtain rfl : a339 = (M313.1 98 10).toInt := ea339
                        refine y_imul C dX12_next_180 ?_
                        refine j_aload_n C 0 0 dX12_next_181 rfl rfl ?_
                        refine j_aload_n C 0 0 dX12_next_182 rfl rfl ?_
                        refine y_getI C 11 _ _ fX12_next_101 rfl rfl ft_11_7 sb_11_7 hM313 dX12_next_183 (fun a341 ea341 la341 ua341 => ?_)
                        obtain rfl : a341 = (M313.1 98 7).toInt := ea341
                        have k343 := tpm_s (f := gf) (n := gn) (a := (M313.1 98 7).toInt) (M := M0) (M' := M313) (by exact hp2) (show M313.1 101 = M0.1 101 from (FR.cell fM313 (by decide)))
                        refine j_callVi C (d := 0) (As := [.int (sI (M313.1 98 7).toInt)]) (st := [.int (sI (10 * (M313.1 98 10).toInt)), .ref (ad 98)]) 98 (s_lt rfl rfl) (s_kc (c := 11) rfl rfl) (by decide) rfl (s1_X12_see hM313 (M313.1 98 7).toInt (by omega) (by exact ⟨la316, ua316⟩)) gX12_next_X12_see rfl hdX12_see (by decide) (Nat.le_of_ble_eq_true rfl) dX12_next_186 rfl (fun r344 M345 h346 => ?_)
                        obtain ⟨a348, rfl, rfl, h347⟩ := h346
                        refine y_iadd C dX12_next_189 ?_
                        refine y_bipush C dX12_next_190 rfl ?_
                        refine y_isub C dX12_next_192 ?_
                        refine y_putI C 11 _ _ qX12_next_121 rfl rfl ft_11_10 sb_11_10 hM313 (PM.w hpr rfl rfl) dX12_next_193 (by (clear k343 ua341 la341 ua339 ua332 la332 ua330 la330 k318 ua316 la316 u315R fM313 hM313 ih311 u269W u269V u269d u269r u269n u269g zz98_7 zz98_6 u269c u269b u269a pM268 hM268 eM268 h202 h200 h195 k191 ua189 la189 ea189 h188 h186 h181 k177 ua175 la175 ea175 h174 ua172 la172 ea172 ua170 la170 ea170 pM169 hM169 eM169 ua167 la167 u166E h161 h159 k155 ua153 la153 h148 h146 k142 ua140 la140 u139R fM137 hM137 h138 ih135 u105c pM104 hM104 eM104 ua102 la102 u101T hret C hp3 hp2 hp1 hp0 hpr hM0; omega)) (fun M349 eM349 hM349 => ?_)
                        have pM349 := pi_o eM349 (by decide) (by decide) (by exact h314.2.2.2.2.2.2.2.2.2.2.2.2.2.2.1)
                        refine j_aload_n C 0 0 dX12_next_196 rfl rfl ?_
                        refine j_dup C dX12_next_197 rfl ?_
                        refine y_getI C 11 _ _ fX12_next_101 rfl rfl ft_11_7 sb_11_7 hM349 dX12_next_198 (fun a350 ea350 la350 ua350 => ?_)
                        obtain rfl : a350 = (M313.1 98 7).toInt := s_fb eM349 (by decide) (ea350)
                        refine y_iconst C dX12_next_201 ?_
                        refine y_iadd C dX12_next_202 ?_
                        refine y_putI C 11 _ _ qX12_next_101 rfl rfl ft_11_7 sb_11_7 hM349 (PM.w hpr rfl rfl) dX12_next_203 (by omega) (fun M352 eM352 hM352 => ?_)
                        have pM352 := pi_o eM352 (by decide) (by decide) (by exact pM349)
                        refine j_goto C 146 dX12_next_206 (by decide) ?_
                        have u353c := run_c dgB gf gn (M352.1 98 7).toInt (((M313.1 98 7).toInt + 1))
                        have u353V := val_c gf (M268.1 98 6).toInt ((M352.1 98 7).toInt - (M268.1 98 6).toInt) ((M313.1 98 7).toInt + 1 - (M268.1 98 6).toInt)
                        have u353W := val_s gf (M268.1 98 6).toInt (M313.1 98 7).toInt (by (clear u353V u353c pM352 hM352 eM352 ua350 la350 ea350 pM349 hM349 eM349 h347 k343 ua341 la341 ua339 la339 h334 ua332 la332 ua330 la330 h329 h327 h322 k318 ua316 la316 u315R fM313 hM313 ih311 u269W u269V u269d u269r u269n u269g zz98_7 zz98_6 u269c u269b u269a pM268 hM268 eM268 h202 h200 h195 k191 ua189 la189 ea189 h188 h186 h181 k177 ua175 la175 ea175 h174 ua172 la172 ea172 ua170 la170 ea170 pM169 hM169 eM169 ua167 la167 u166E h161 h159 k155 ua153 la153 h148 h146 k142 ua140 la140 u139R fM137 hM137 h138 ih135 u105c pM104 hM104 eM104 ua102 la102 u101T hret C hp3 hp2 hp1 hp0 hpr hM0; omega))
                        have zz98_8 : (M352.1 98 8).toInt = (M313.1 98 8).toInt := s_fb eM349 (by decide) (s_fb eM352 (by decide) (rfl)); have zz98_7 := (Eq.trans (rfl : (M352.1 98 7).toInt = (M352.1 98 7).toInt) (s_wr eM352 (by omega))); have zz98_6 : (M352.1 98 6).toInt = (M313.1 98 6).toInt := s_fb eM349 (by decide) (s_fb eM352 (by decide) (rfl)); have zz98_12 : (M352.1 98 12).toInt = (M313.1 98 12).toInt := s_fb eM349 (by decide) (s_fb eM352 (by decide) (rfl)); have zz98_11 : (M352.1 98 11).toInt = (M313.1 98 11).toInt := s_fb eM349 (by decide) (s_fb eM352 (by decide) (rfl)); have zz98_10 := (Eq.trans (s_fb eM352 (by decide) (rfl) : (M352.1 98 10).toInt = (M349.1 98 10).toInt) (s_wr eM349 (by omega))); exact ih311 M352 (by (clear hM352 eM352 ua350 la350 pM349 hM349 eM349 ua341 la341 ua332 la332 ua330 la330 fM313 hM313 ih311 u269W u269V u269d u269r u269n u269g u269c pM268 hM268 eM268 h202 h200 h195 k191 ua189 la189 ea189 h188 h186 h181 k177 ua175 la175 ea175 ua172 la172 ua170 la170 pM169 hM169 eM169 ua167 la167 u166E h161 h159 k155 ua153 la153 h148 h146 k142 la140 u139R fM137 hM137 ih135 u105c pM104 hM104 eM104 ua102 la102 hret C hp3 hp2 hp0 hpr hM0; omega)) hM352 (((FR.rf.tr fM313 (by decide)).wI eM349 (by decide)).wI eM352 (by decide))
                have zz98_8 : (M268.1 98 8).toInt = (M137.1 98 8).toInt := s_fb eM169 (by decide) (s_fb eM268 (by decide) (rfl)); have zz98_7 := (Eq.trans (s_fb eM268 (by decide) (rfl) : (M268.1 98 7).toInt = (M169.1 98 7).toInt) (s_wr eM169 (by omega))); have zz98_6 : (M268.1 98 6).toInt = (M137.1 98 6).toInt := s_fb eM169 (by decide) (s_fb eM268 (by decide) (rfl)); have zz98_12 : (M268.1 98 12).toInt = (M137.1 98 12).toInt := s_fb eM169 (by decide) (s_fb eM268 (by decide) (rfl)); have zz98_11 : (M268.1 98 11).toInt = (M137.1 98 11).toInt := s_fb eM169 (by decide) (s_fb eM268 (by decide) (rfl)); have zz98_10 := (Eq.trans (rfl : (M268.1 98 10).toInt = (M268.1 98 10).toInt) (s_wr eM268 (by exact ⟨(by decide), (by decide)⟩))); exact L312 2010 M268 (by (clear zz98_6 zz98_7 L312 hM268 eM268 ua189 la189 ea189 ua175 la175 ea175 ua172 la172 ua170 la170 pM169 hM169 eM169 ua167 la167 ua153 la153 la140 fM137 hM137 ih135 u105c pM104 hM104 eM104 ua102 la102 hret C hp3 hp2 hp0 hpr hM0; omega)) hM268 (((FR.rf.tr fM137 (by decide)).wI eM169 (by decide)).wI eM268 (by decide))
            · have u366a : (M169.1 98 7).toInt = (M137.1 98 6).toInt := s_wr eM169 (by omega)
              have u366b : (M169.1 98 7).toInt = (M169.1 98 7).toInt := rfl
              have u366c : (M169.1 101 ((M169.1 98 7).toInt).toNat).toInt = (M169.1 101 ((M137.1 98 6).toInt).toNat).toInt := by rw [u366b, u366a]
              have u366c := run_c smB gf gn (M169.1 98 7).toInt ((M137.1 98 6).toInt)
              have zz98_6 : (M169.1 98 6).toInt = (M137.1 98 6).toInt := s_fb eM169 (by decide) (rfl)
              have zz98_7 := (Eq.trans (rfl : (M169.1 98 7).toInt = (M169.1 98 7).toInt) (s_wr eM169 (by omega)))
              have u366g := gf_c gf (M137.1 98 6).toInt (M169.1 98 6).toInt
              have u366n := nt_s (f := gf) (n := gn) (i := (M169.1 98 6).toInt) (by omega) (by omega)
              have u366r := rx_sm gf gn (M169.1 98 6).toInt (by omega)
              have u366d := run_c smB gf gn (M169.1 98 7).toInt (M169.1 98 6).toInt
              have L389 : ∀ (n387 : Nat), ∀ (M390 : mm_M), ((0 ≤ (M390.1 98 6).toInt) ∧ ((M390.1 98 8).toInt = (M0.1 98 8).toInt) ∧ ((M390.1 98 11).toInt = (M0.1 98 11).toInt) ∧ ((M0.1 98 7).toInt ≤ (M390.1 98 6).toInt) ∧ ((M390.1 98 6).toInt ≤ (M390.1 98 8).toInt) ∧ ((M390.1 98 8).toInt ≤ 900) ∧ ((M390.1 98 7).toInt ≤ (M390.1 98 8).toInt) ∧ ((M390.1 98 6).toInt < (M390.1 98 7).toInt ∨ (M390.1 98 7).toInt = (M390.1 98 6).toInt ∧ (M390.1 98 7).toInt < (M390.1 98 8).toInt ∧ 97 ≤ (M390.1 101 (M390.1 98 7).toInt.toNat).toInt ∧ (M390.1 101 (M390.1 98 7).toInt.toNat).toInt ≤ 122) ∧ (runE smB gf gn (M390.1 98 7).toInt = runE smB gf gn ((M169.1 98 6).toInt + 1)) ∧ ((M390.1 98 6).toInt = (M169.1 98 6).toInt) ∧ ((M390.1 98 6).toInt = runE blB gf gn (M0.1 98 7).toInt) ∧ ((M390.1 98 12).toInt = (M0.1 98 12).toInt) ∧ (b01 (PI M390) = 1) ∧ (900 - (M390.1 98 7).toInt) < (n387 : Int)) → INV pr Kz M390 → FR [98] M0 M390 → jj p l e (cn_R 5) s m args below meth c 0 0 Q 2 dC dI ad cA A M390 89 [(0, .ref (ad 98))] [] := by
                intro n387
                induction n387 with
                | zero =>
                  intro M390 h391 hM390 fM390
                  exfalso; omega
                | succ n387 ih388 =>
                  intro M390 h391 hM390 fM390
                  have u392R := rx_sm gf gn (M390.1 98 7).toInt (by omega)
                  refine j_aload_n C 0 0 dX12_next_89 rfl rfl ?_
                  refine j_aload_n C 0 0 dX12_next_90 rfl rfl ?_
                  refine y_getI C 11 _ _ fX12_next_101 rfl rfl ft_11_7 sb_11_7 hM390 dX12_next_91 (fun a393 ea393 la393 ua393 => ?_)
                  obtain rfl : a393 = (M390.1 98 7).toInt := ea393
                  have k395 := tpm_s (f := gf) (n := gn) (a := (M390.1 98 7).toInt) (M := M0) (M' := M390) (by exact hp2) (show M390.1 101 = M0.1 101 from (FR.cell fM390 (by decide)))
                  refine j_callVi C (d := 0) (As := [.int (sI (M390.1 98 7).toInt)]) (st := []) 98 (s_lt rfl rfl) (s_kc (c := 11) rfl rfl) (by decide) rfl (s1_X12_see hM390 (M390.1 98 7).toInt (by omega) (by exact ⟨la393, ua393⟩)) gX12_next_X12_see rfl hdX12_see (by decide) (Nat.le_of_ble_eq_true rfl) dX12_next_94 rfl (fun r396 M397 h398 => ?_)
                  obtain ⟨a400, rfl, rfl, h399⟩ := h398
                  refine j_callSi C (d := 0) (As := [.int (sI a400)]) (st := []) (s1_X12_isSmall hM390 a400 (by omega)) gX12_next_X12_isSmall rfl hdX12_isSmalls (by decide) (Nat.le_of_ble_eq_true rfl) dX12_next_97 rfl (fun r401 M402 h403 => ?_)
                  obtain ⟨a405, rfl, rfl, h404⟩ := h403
                  refine y_if_eq C 116 dX12_next_100 (by decide) (by omega) (fun h406 => ?_) (fun h406 => ?_)
                  · refine j_aload_n C 0 0 dX12_next_116 rfl rfl ?_
                    refine j_aload_n C 0 0 dX12_next_117 rfl rfl ?_
                    have u411T := tpm_c2 (f := gf) (n := gn) (M := M0) (M' := M390) (by exact hp2) (show M390.1 101 = M0.1 101 from (FR.cell fM390 (by decide))) (by omega)
                    refine j_callVi C (d := 4) (As := []) (st := [.ref (ad 98)]) 98 (s_lt rfl rfl) (s_kc (c := 11) rfl rfl) (by decide) rfl (s1_X12_keyAt hM390 gf gn (by exact u411T) (by omega) (by omega)) gX12_next_X12_keyAt rfl hdX12_keyAt (by decide) (Nat.le_of_ble_eq_true rfl) dX12_next_118 rfl (fun r412 M413 h414 => ?_)
                    obtain ⟨a416, rfl, rfl, h415⟩ := h414
                    have u417w := tw_c2 gf (M390.1 98 6).toInt (M169.1 98 6).toInt ((M390.1 98 7).toInt - (M390.1 98 6).toInt) (runE smB gf gn ((M169.1 98 6).toInt + 1) - (M169.1 98 6).toInt)
                    refine y_putIF C 11 qX12_next_108 rfl rfl ft_11_9 sb_11_9 hM390 (PM.w hpr rfl rfl) dX12_next_121 (fun M418 eM418 hM418 => ?_)
                    have pM418 := pi_o eM418 (by decide) (by decide) (by exact h391.2.2.2.2.2.2.2.2.2.2.2.2.1)
                    refine j_goto C 294 dX12_next_124 (by decide) ?_
                    have zz98_6 : (M418.1 98 6).toInt = (M390.1 98 6).toInt := s_fb eM418 (by decide) (rfl)
                    have zz98_7 : (M418.1 98 7).toInt = (M390.1 98 7).toInt := s_fb eM418 (by decide) (rfl)
                    have zz98_8 : (M418.1 98 8).toInt = (M390.1 98 8).toInt := s_fb eM418 (by decide) (rfl)
                    have zz98_9 := (Eq.trans (rfl : (M418.1 98 9).toInt = (M418.1 98 9).toInt) (s_wr eM418 (by omega)))
                    have zz98_10 : (M418.1 98 10).toInt = (M390.1 98 10).toInt := s_fb eM418 (by decide) (rfl)
                    have u419M := tkm_mk (f := gf) (n := gn) (i := (M169.1 98 6).toInt) (M := M0) (M' := M418) (by exact hp2) (show M418.1 101 = M0.1 101 from ((wI_cell eM418 (by decide)).trans (FR.cell fM390 (by decide)))) (by omega) (by omega) (by (clear zz98_10 zz98_8 zz98_7 zz98_6 pM418 hM418 eM418 u411T ua393 la393 fM390 hM390 ih388 u366d u366r u366g u366c u366b u366a h188 h186 h181 k177 ua175 la175 ea175 h174 ua172 la172 ea172 ua170 la170 ea170 pM169 hM169 eM169 ua167 la167 u166E h161 h159 k155 ua153 la153 h148 h146 k142 ua140 la140 u139R fM137 hM137 h138 ih135 u105c pM104 hM104 eM104 ua102 la102 hret C hp3 hp2 hp1 hp0 hpr hM0; omega)) (by (clear zz98_10 zz98_9 zz98_8 zz98_6 pM418 hM418 eM418 u417w h415 u411T ua393 la393 fM390 hM390 ih388 u366d u366r u366g u366c u366b u366a h188 h186 h181 k177 ua175 la175 ea175 h174 ua172 la172 ea172 ua170 la170 ea170 pM169 hM169 eM169 ua167 la167 u166E h161 h159 k155 ua153 la153 h148 h146 k142 ua140 la140 u139R fM137 hM137 h138 ih135 u105c pM104 hM104 eM104 ua102 la102 hret C hp3 hp2 hp1 hp0 hpr hM0; omega)) (by omega)
                    have zz98_6 : (M418.1 98 6).toInt = (M390.1 98 6).toInt := s_fb eM418 (by decide) (rfl)
                    have zz98_7 : (M418.1 98 7).toInt = (M390.1 98 7).toInt := s_fb eM418 (by decide) (rfl)
                    have zz98_8 : (M418.1 98 8).toInt = (M390.1 98 8).toInt := s_fb eM418 (by decide) (rfl)
                    have zz98_9 := (Eq.trans (rfl : (M418.1 98 9).toInt = (M418.1 98 9).toInt) (s_wr eM418 (by omega)))
                    have u420 : b01 (RIP M418) = 1 := b01_i (by unfold RIP; (clear zz98_9 zz98_8 zz98_7 zz98_6 u419M zz98_10 pM418 hM418 eM418 u417w h415 u411T k395 ua393 la393 u392R fM390 hM390 ih388 u366d u366r u366n u366g u366c u366b u366a h188 h186 h181 k177 ua175 la175 ea175 h174 ua172 la172 ea172 ua170 la170 ea170 pM169 hM169 eM169 ua167 la167 u166E h161 h159 k155 ua153 la153 h148 h146 k142 ua140 la140 u139R fM137 hM137 h138 ih135 u105c pM104 hM104 eM104 ua102 la102 u101T hret C hp3 hp2 hp1 hp0 hpr hM0; omega))
                    have zz98_11 : (M418.1 98 11).toInt = (M390.1 98 11).toInt := s_fb eM418 (by decide) (rfl); have zz98_12 : (M418.1 98 12).toInt = (M390.1 98 12).toInt := s_fb eM418 (by decide) (rfl); have zz98_6 : (M418.1 98 6).toInt = (M390.1 98 6).toInt := s_fb eM418 (by decide) (rfl); have zz98_8 : (M418.1 98 8).toInt = (M390.1 98 8).toInt := s_fb eM418 (by decide) (rfl); exact hret _ _ _ dX12_next_294 ⟨hM418, ((FR.rf.tr fM390 (by decide)).wI eM418 (by decide)), by omega⟩
                  · refine j_aload_n C 0 0 dX12_next_103 rfl rfl ?_
                    refine j_dup C dX12_next_104 rfl ?_
                    refine y_getI C 11 _ _ fX12_next_101 rfl rfl ft_11_7 sb_11_7 hM390 dX12_next_105 (fun a407 ea407 la407 ua407 => ?_)
                    obtain rfl : a407 = (M390.1 98 7).toInt := ea407
                    refine y_iconst C dX12_next_108 ?_
                    refine y_iadd C dX12_next_109 ?_
                    refine y_putI C 11 _ _ qX12_next_101 rfl rfl ft_11_7 sb_11_7 hM390 (PM.w hpr rfl rfl) dX12_next_110 (by omega) (fun M409 eM409 hM409 => ?_)
                    have pM409 := pi_o eM409 (by decide) (by decide) (by exact h391.2.2.2.2.2.2.2.2.2.2.2.2.1)
                    refine j_goto C 89 dX12_next_113 (by decide) ?_
                    have u410c := run_c smB gf gn (M409.1 98 7).toInt (((M390.1 98 7).toInt + 1))
                    have zz98_8 : (M409.1 98 8).toInt = (M390.1 98 8).toInt := s_fb eM409 (by decide) (rfl); have zz98_7 := (Eq.trans (rfl : (M409.1 98 7).toInt = (M409.1 98 7).toInt) (s_wr eM409 (by omega))); have zz98_6 : (M409.1 98 6).toInt = (M390.1 98 6).toInt := s_fb eM409 (by decide) (rfl); have zz98_12 : (M409.1 98 12).toInt = (M390.1 98 12).toInt := s_fb eM409 (by decide) (rfl); have zz98_11 : (M409.1 98 11).toInt = (M390.1 98 11).toInt := s_fb eM409 (by decide) (rfl); exact ih388 M409 (by omega) hM409 ((FR.rf.tr fM390 (by decide)).wI eM409 (by decide))
              have zz98_8 : (M169.1 98 8).toInt = (M137.1 98 8).toInt := s_fb eM169 (by decide) (rfl); have zz98_7 := (Eq.trans (rfl : (M169.1 98 7).toInt = (M169.1 98 7).toInt) (s_wr eM169 (by omega))); have zz98_6 : (M169.1 98 6).toInt = (M137.1 98 6).toInt := s_fb eM169 (by decide) (rfl); have zz98_12 : (M169.1 98 12).toInt = (M137.1 98 12).toInt := s_fb eM169 (by decide) (rfl); have zz98_11 : (M169.1 98 11).toInt = (M137.1 98 11).toInt := s_fb eM169 (by decide) (rfl); exact L389 2010 M169 (by (clear zz98_6 zz98_7 zz98_8 L389 u366n u366c u366b ua175 la175 ea175 h174 ua172 la172 ua170 la170 hM169 eM169 ua167 la167 u166E h161 h159 k155 ua153 la153 h148 h146 k142 ua140 la140 fM137 hM137 ih135 u105c pM104 hM104 eM104 ua102 la102 hret C hp3 hp2 hp1 hp0 hpr hM0; omega)) hM169 ((FR.rf.tr fM137 (by decide)).wI eM169 (by decide))
          · refine j_aload_n C 0 0 dX12_next_66 rfl rfl ?_
            refine y_bipush C dX12_next_67 rfl ?_
            refine y_putIF C 11 qX12_next_108 rfl rfl ft_11_9 sb_11_9 hM169 (PM.w hpr rfl rfl) dX12_next_69 (fun M421 eM421 hM421 => ?_)
            have pM421 := pi_o eM421 (by decide) (by decide) (by exact pM169)
            refine j_goto C 294 dX12_next_72 (by decide) ?_
            have zz98_6 : (M421.1 98 6).toInt = (M137.1 98 6).toInt := s_fb eM169 (by decide) (s_fb eM421 (by decide) (rfl))
            have zz98_7 := (Eq.trans (s_fb eM421 (by decide) (rfl) : (M421.1 98 7).toInt = (M169.1 98 7).toInt) (s_wr eM169 (by (clear pM421 hM421 eM421 ua172 la172 ua170 la170 pM169 hM169 eM169 ua167 la167 u166E h161 h159 k155 ua153 la153 h148 h146 k142 la140 u139R fM137 hM137 ih135 u105c pM104 hM104 eM104 ua102 la102 u101T hret C hp3 hp2 hp1 hp0 hpr hM0; omega))))
            have zz98_8 : (M421.1 98 8).toInt = (M137.1 98 8).toInt := s_fb eM169 (by decide) (s_fb eM421 (by decide) (rfl))
            have zz98_9 := (Eq.trans (rfl : (M421.1 98 9).toInt = (M421.1 98 9).toInt) (s_wr eM421 (by exact ⟨(by decide), (by decide)⟩)))
            have zz98_10 : (M421.1 98 10).toInt = (M137.1 98 10).toInt := s_fb eM169 (by decide) (s_fb eM421 (by decide) (rfl))
            have u422M := tkm_mk (f := gf) (n := gn) (i := (M137.1 98 6).toInt) (M := M0) (M' := M421) (by exact hp2) (show M421.1 101 = M0.1 101 from (((wI_cell eM421 (by decide)).trans (wI_cell eM169 (by decide))).trans (FR.cell fM137 (by decide)))) (by exact zz98_6) (by exact ⟨(by (clear zz98_10 zz98_9 pM421 hM421 eM421 ua172 la172 ua170 la170 pM169 hM169 eM169 ua167 la167 u166E h161 h159 k155 ua153 la153 h148 h146 k142 la140 u139R fM137 hM137 ih135 u105c pM104 hM104 eM104 ua102 la102 hret C hp3 hp2 hp1 hp0 hpr hM0; omega)), ⟨h138.1, (by (clear zz98_10 zz98_9 pM421 hM421 eM421 ua172 la172 ua170 la170 pM169 hM169 eM169 ua167 la167 u166E h161 h159 k155 ua153 la153 h148 h146 k142 la140 u139R fM137 hM137 ih135 u105c pM104 hM104 eM104 ua102 la102 hret C hp3 hp2 hp1 hp0 hpr hM0; omega))⟩⟩) (by (clear zz98_10 zz98_8 zz98_7 zz98_6 pM421 hM421 eM421 ua172 la172 ua170 la170 pM169 hM169 eM169 ua167 la167 h161 h159 k155 ua153 la153 h148 h146 k142 ua140 la140 u139R fM137 hM137 ih135 u105c pM104 hM104 eM104 ua102 la102 hret C hp3 hp2 hp1 hp0 hpr hM0; omega)) (by (clear zz98_10 zz98_9 pM421 hM421 eM421 ua172 la172 ua170 la170 pM169 hM169 eM169 ua167 la167 h161 h159 k155 ua153 la153 h148 h146 k142 ua140 la140 u139R fM137 hM137 ih135 u105c pM104 hM104 eM104 ua102 la102 hret C hp3 hp2 hp1 hp0 hpr hM0; omega)) (by (clear zz98_10 zz98_9 zz98_8 zz98_7 zz98_6 pM421 hM421 eM421 ua172 la172 ua170 la170 pM169 hM169 eM169 ua167 la167 h161 h159 k155 ua153 la153 h148 h146 k142 ua140 la140 u139R fM137 hM137 ih135 u105c pM104 hM104 eM104 ua102 la102 hret C hp3 hp2 hp1 hp0 hpr hM0; omega))
            have zz98_6 : (M421.1 98 6).toInt = (M137.1 98 6).toInt := s_fb eM169 (by decide) (s_fb eM421 (by decide) (rfl))
            have zz98_7 := (Eq.trans (s_fb eM421 (by decide) (rfl) : (M421.1 98 7).toInt = (M169.1 98 7).toInt) (s_wr eM169 (by omega)))
            have zz98_8 : (M421.1 98 8).toInt = (M137.1 98 8).toInt := s_fb eM169 (by decide) (s_fb eM421 (by decide) (rfl))
            have zz98_9 := (Eq.trans (rfl : (M421.1 98 9).toInt = (M421.1 98 9).toInt) (s_wr eM421 (by exact ⟨(by decide), (by decide)⟩)))
            have u423 : b01 (RIP M421) = 1 := b01_i (by unfold RIP; omega)
            have zz98_11 : (M421.1 98 11).toInt = (M137.1 98 11).toInt := s_fb eM169 (by decide) (s_fb eM421 (by decide) (rfl)); have zz98_12 : (M421.1 98 12).toInt = (M137.1 98 12).toInt := s_fb eM169 (by decide) (s_fb eM421 (by decide) (rfl)); have zz98_6 : (M421.1 98 6).toInt = (M137.1 98 6).toInt := s_fb eM169 (by decide) (s_fb eM421 (by decide) (rfl)); have zz98_8 : (M421.1 98 8).toInt = (M137.1 98 8).toInt := s_fb eM169 (by decide) (s_fb eM421 (by decide) (rfl)); exact hret _ _ _ dX12_next_294 ⟨hM421, (((FR.rf.tr fM137 (by decide)).wI eM169 (by decide)).wI eM421 (by decide)), by (clear zz98_8 zz98_6 zz98_9 zz98_7 zz98_10 hM421 eM421 ua172 la172 ea172 ua170 la170 ea170 pM169 hM169 eM169 ua167 la167 u166E h161 h159 k155 ua153 la153 h148 h146 k142 ua140 la140 fM137 hM137 ih135 u105c pM104 hM104 eM104 ua102 la102 hret C hp3 hp2 hp1 hp0 hpr hM0; omega)⟩
        · refine j_aload_n C 0 0 dX12_next_34 rfl rfl ?_
          refine j_dup C dX12_next_35 rfl ?_
          refine y_getI C 11 _ _ fX12_next_98 rfl rfl ft_11_6 sb_11_6 hM137 dX12_next_36 (fun a162 ea162 la162 ua162 => ?_)
          obtain rfl : a162 = (M137.1 98 6).toInt := ea162
          refine y_iconst C dX12_next_39 ?_
          refine y_iadd C dX12_next_40 ?_
          refine y_putI C 11 _ _ qX12_next_98 rfl rfl ft_11_6 sb_11_6 hM137 (PM.w hpr rfl rfl) dX12_next_41 (by (clear ua162 la162 k155 ua153 la153 h148 h146 k142 la140 u139R fM137 hM137 ih135 u105c pM104 hM104 eM104 ua102 la102 hret C hp3 hp2 hp0 hpr hM0; omega)) (fun M164 eM164 hM164 => ?_)
          have pM164 := pi_o eM164 (by decide) (by decide) (by exact h138.2.2.2.2.2.2.2.2.1)
          refine j_goto C 8 dX12_next_44 (by decide) ?_
          have u165c := run_c blB gf gn (M164.1 98 6).toInt (((M137.1 98 6).toInt + 1))
          have zz98_8 : (M164.1 98 8).toInt = (M137.1 98 8).toInt := s_fb eM164 (by decide) (rfl); have zz98_6 := (Eq.trans (rfl : (M164.1 98 6).toInt = (M164.1 98 6).toInt) (s_wr eM164 (by (clear zz98_8 u165c pM164 hM164 eM164 ua162 la162 h161 h159 k155 ua153 la153 h148 h146 k142 la140 u139R fM137 hM137 ih135 u105c pM104 hM104 eM104 ua102 la102 u101T hret C hp3 hp2 hp1 hp0 hpr hM0; omega)))); have zz98_12 : (M164.1 98 12).toInt = (M137.1 98 12).toInt := s_fb eM164 (by decide) (rfl); have zz98_11 : (M164.1 98 11).toInt = (M137.1 98 11).toInt := s_fb eM164 (by decide) (rfl); exact ih135 M164 (by (clear hM164 eM164 ua162 la162 ua153 la153 la140 fM137 hM137 ih135 u105c pM104 hM104 eM104 ua102 la102 hret C hp3 hp2 hp0 hpr hM0; omega)) hM164 ((FR.rf.tr fM137 (by decide)).wI eM164 (by decide))
  have zz98_8 : (M104.1 98 8).toInt = (M0.1 98 8).toInt := s_fb eM104 (by decide) (rfl); have zz98_6 := (Eq.trans (rfl : (M104.1 98 6).toInt = (M104.1 98 6).toInt) (s_wr eM104 (by omega))); have zz98_12 : (M104.1 98 12).toInt = (M0.1 98 12).toInt := s_fb eM104 (by decide) (rfl); have zz98_11 : (M104.1 98 11).toInt = (M0.1 98 11).toInt := s_fb eM104 (by decide) (rfl); exact L136 2010 M104 (by exact ⟨(by (clear L136 hM104 eM104 hret C hp3 hp2 hpr hM0; omega)), ⟨zz98_8, ⟨zz98_11, ⟨(by (clear L136 hM104 eM104 hret C hp3 hp2 hpr hM0; omega)), ⟨(by (clear L136 hM104 eM104 hret C hp3 hp2 hpr hM0; omega)), ⟨(by (clear L136 hM104 eM104 hret C hp3 hp2 hpr hM0; omega)), ⟨(by (clear L136 hM104 eM104 hret C hp3 hp2 hpr hM0; omega)), ⟨zz98_12, ⟨pM104, (by (clear L136 hM104 eM104 hret C hp3 hp2 hpr hM0; omega))⟩⟩⟩⟩⟩⟩⟩⟩⟩) hM104 (FR.rf.wI eM104 (by decide))
set_option maxHeartbeats 4000000 in
theorem s1_X12_is {l : Launch} {dC : Nat → ClassId} {dI : Nat → Nat → Nat} {ad : Nat → Nat} {cA : Nat → ClassId} {pr : Nat → Nat → Bool} {Kz : mm_M} {M0 : mm_M} (hM0 : INV pr Kz M0) (a1 : Int) (ha1 : -2147483648 ≤ a1 ∧ a1 ≤ 2147483647) : Ci l 0 yX12_is wsX12_is dC dI ad cA [.ref (ad 98), .int (sI a1)] M0 (fun r M' => ∃ a : Int, r = sI a ∧ M0 = M' ∧ 0 ≤ a ∧ a ≤ 1 ∧ ((¬ (M0.1 98 11).toInt = 0 ∧ a = 0) ∨ (0 ≤ (M0.1 98 11).toInt ∧ (M0.1 98 11).toInt ≤ 0 ∧ (M0.1 98 11).toInt = 0 ∧ ¬ (M0.1 98 9).toInt = a1 ∧ a = 0) ∨ (0 ≤ (M0.1 98 11).toInt ∧ (M0.1 98 11).toInt ≤ 0 ∧ (M0.1 98 11).toInt = 0 ∧ (M0.1 98 9).toInt = a1 ∧ a = 1))) := by
  refine ci_of (cc := cX12_is) (maxL := 2) (ty := .boolean) (lv := [(0, .ref (ad 98)), (1, .int (sI a1))]) (by decide) rfl (fun r M' hp => by obtain ⟨a, rfl, -, h⟩ := hp; rcases (show a = 0 ∨ a = 1 by omega) with rfl | rfl <;> rfl) (Nat.le_of_ble_eq_true rfl) rfl ?_
  intro p e s m args below meth c A Q C hret
  refine j_aload_n C 0 0 dX12_is_0 rfl rfl ?_
  refine y_getI C 11 _ _ fX12_is_126 rfl rfl ft_11_11 sb_11_11 hM0 dX12_is_1 (fun a101 ea101 la101 ua101 => ?_)
  obtain rfl : a101 = (M0.1 98 11).toInt := ea101
  refine y_if_ne C 19 dX12_is_4 (by decide) (by exact ⟨la101, ua101⟩) (fun h103 => ?_) (fun h103 => ?_)
  · refine y_iconst C dX12_is_19 ?_
    exact hret _ _ _ _ dX12_is_20 ⟨0, rfl, rfl, by exact ⟨(by decide), ⟨(by decide), (by (clear hret C ha1 hM0; omega))⟩⟩⟩
  · refine j_aload_n C 0 0 dX12_is_7 rfl rfl ?_
    refine y_getI C 11 _ _ fX12_is_108 rfl rfl ft_11_9 sb_11_9 hM0 dX12_is_8 (fun a104 ea104 la104 ua104 => ?_)
    obtain rfl : a104 = (M0.1 98 9).toInt := ea104
    refine j_iload_n C 1 1 dX12_is_11 rfl rfl ?_
    refine y_icmp_ne C 19 dX12_is_12 (by decide) (by exact ⟨⟨la104, ua104⟩, ⟨ha1.1, ha1.2⟩⟩) (fun h106 => ?_) (fun h106 => ?_)
    · refine y_iconst C dX12_is_19 ?_
      exact hret _ _ _ _ dX12_is_20 ⟨0, rfl, rfl, by exact ⟨(by decide), ⟨(by decide), (by (clear ua104 la104 ua101 la101 hret C ha1 hM0; omega))⟩⟩⟩
    · refine y_iconst C dX12_is_15 ?_
      refine j_goto C 20 dX12_is_16 (by decide) ?_
      exact hret _ _ _ _ dX12_is_20 ⟨1, rfl, rfl, by exact ⟨(by decide), ⟨(by decide), (by (clear ua104 la104 ua101 la101 hret C ha1 hM0; omega))⟩⟩⟩
set_option maxHeartbeats 4000000 in
theorem s1_X12_eats {l : Launch} {dC : Nat → ClassId} {dI : Nat → Nat → Nat} {ad : Nat → Nat} {cA : Nat → ClassId} {pr : Nat → Nat → Bool} {Kz : mm_M} {M0 : mm_M} (hM0 : INV pr Kz M0) (hpr : PM pr) (a1 : Int) (ha1 : -2147483648 ≤ a1 ∧ a1 ≤ 2147483647) (gf : Nat → Int) (gn : Int) (gi : Int) (hp0 : b01 (RIP M0) = 1) (hp1 : ¬ a1 = 24) (hp2 : b01 (TKM gf gn M0) = 1) (hp3 : b01 (PO gn gi (M0.1 98 11).toInt (M0.1 98 6).toInt) = 1) (hp4 : b01 (PI M0) = 1) : Ci l 6 yX12_eats wsX12_eats dC dI ad cA [.ref (ad 98), .int (sI a1)] M0 (fun r M' => ∃ a : Int, r = sI a ∧ INV pr Kz M' ∧ FR [98] M0 M' ∧ 0 ≤ a ∧ a ≤ 1 ∧ (b01 (RIP M') = 1) ∧ ((M'.1 98 8).toInt = (M0.1 98 8).toInt) ∧ (a = 0 ∧ (M'.1 98 6).toInt = (M0.1 98 6).toInt ∧ (M'.1 98 11).toInt = (M0.1 98 11).toInt ∨ a = 1 ∧ (M0.1 98 11).toInt = 0 ∧ (M'.1 98 11).toInt = 0 ∧ (M0.1 98 6).toInt + 1 ≤ (M'.1 98 6).toInt) ∧ (a = 1 ∧ (M0.1 98 11).toInt = 0 ∧ kdF (tkF gf gn (M0.1 98 6).toInt) = a1 ∧ (M'.1 98 11).toInt = 0 ∧ (M'.1 98 12).toInt = (M0.1 98 12).toInt ∧ b01 (PO gn (nxF gf gn gi) (M'.1 98 11).toInt (M'.1 98 6).toInt) = 1 ∨ a = 0 ∧ (M'.1 98 11).toInt = (M0.1 98 11).toInt ∧ (M'.1 98 12).toInt = (M0.1 98 12).toInt ∧ (M'.1 98 6).toInt = (M0.1 98 6).toInt ∧ (¬ (M0.1 98 11).toInt = 0 ∨ ¬ kdF (tkF gf gn (M0.1 98 6).toInt) = a1)) ∧ (b01 (PI M') = 1) ∧ (b01 (TKM gf gn M') = 1)) := by
  refine ci_of (cc := cX12_eats) (maxL := 2) (ty := .boolean) (lv := [(0, .ref (ad 98)), (1, .int (sI a1))]) (by decide) rfl (fun r M' hp => by obtain ⟨a, rfl, -, h⟩ := hp; rcases (show a = 0 ∨ a = 1 by (clear hp4 hp3 hp2 hp1 hp0 ha1 hpr hM0; omega)) with rfl | rfl <;> rfl) (Nat.le_of_ble_eq_true rfl) rfl ?_
  intro p e s m args below meth c A Q C hret
  have u101l := ri_l (M := M0) (by exact hp0)
  have k102 := tkm_K (f := gf) (n := gn) (M := M0) (by exact hp2)
  have k103 := kd_2 (kdk_24 gf gn (M0.1 98 6).toInt) (by exact u101l.1)
  refine j_aload_n C 0 0 dX12_eats_0 rfl rfl ?_
  refine j_iload_n C 1 1 dX12_eats_1 rfl rfl ?_
  have k104 := tkm_K (f := gf) (n := gn) (M := M0) (by exact hp2)
  refine j_callVi C (d := 0) (As := [.int (sI a1)]) (st := []) 98 (s_lt rfl rfl) (s_kc (c := 11) rfl rfl) (by decide) rfl (s1_X12_is hM0 a1 (by exact ⟨ha1.1, ha1.2⟩)) gX12_eats_X12_is rfl hdX12_is (by decide) (Nat.le_of_ble_eq_true rfl) dX12_eats_2 rfl (fun r105 M106 h107 => ?_)
  obtain ⟨a109, rfl, rfl, h108⟩ := h107
  refine y_if_ne C 10 dX12_eats_5 (by decide) (by (clear k104 k103 k102 u101l hret C hp4 hp3 hp2 hp1 hp0 ha1 hpr hM0; omega)) (fun h110 => ?_) (fun h110 => ?_)
  · have u111k := ri_k (M := M0) (by exact hp0) (by (clear k104 u101l hret C hp4 hp3 hp2 hp0 ha1 hpr hM0; omega))
    refine j_aload_n C 0 0 dX12_eats_10 rfl rfl ?_
    have k112 := tkm_p (f := gf) (n := gn) (M := M0) (by exact hp2)
    have k113 := tkm_K (f := gf) (n := gn) (M := M0) (by exact hp2)
    refine j_callVv C (d := 5) (As := []) (st := []) 98 (s_lt rfl rfl) (s_kc (c := 11) rfl rfl) (by decide) rfl (s1_X12_next hM0 hpr gf gn (by exact u101l.2.2.1) (by exact u101l.2.2.2) (by exact k112) (by exact hp4)) gX12_eats_X12_next rfl hdX12_next (by decide) (Nat.le_of_ble_eq_true rfl) dX12_eats_11 rfl (fun M115 h116 => ?_)
    obtain ⟨hM115, fM115, h117⟩ := h116
    have bM115 := tkm_b (f := gf) (n := gn) (M := M115) (by exact h117.2.2.2.2.1)
    have qM115 := nx_po (f := gf) (n := gn) (i := gi) (M := M0) (M' := M115) (by exact hp2) (by exact hp3) (by (clear bM115 h117 fM115 hM115 k113 k112 u111k k104 u101l hret C hp4 hp3 hp2 hp0 ha1 hpr hM0; omega)) (by exact h117.2.2.2.2.2.1) (by exact h117.2.2.2.1)
    refine y_iconst C dX12_eats_14 ?_
    exact hret _ _ _ _ dX12_eats_15 ⟨1, rfl, hM115, (FR.rf.tr fM115 (by decide)), by exact ⟨(by decide), ⟨(by decide), ⟨h117.1, ⟨h117.2.1, ⟨(by (clear bM115 fM115 hM115 k113 k112 k104 k103 u101l hret C hp4 hp3 hp2 hp1 hp0 ha1 hpr hM0; omega)), ⟨(by (clear bM115 fM115 hM115 k113 k112 k104 k103 u101l hret C hp4 hp3 hp2 hp1 hp0 ha1 hpr hM0; omega)), ⟨h117.2.2.2.2.2.2.2, h117.2.2.2.2.1⟩⟩⟩⟩⟩⟩⟩⟩
  · refine y_iconst C dX12_eats_8 ?_
    exact hret _ _ _ _ dX12_eats_9 ⟨0, rfl, hM0, FR.rf, by (clear k104 k103 u101l hret C hp3 hp1 ha1 hpr hM0; omega)⟩
set_option maxHeartbeats 4000000 in
theorem s1_X12_fails {l : Launch} {dC : Nat → ClassId} {dI : Nat → Nat → Nat} {ad : Nat → Nat} {cA : Nat → ClassId} {pr : Nat → Nat → Bool} {Kz : mm_M} {M0 : mm_M} (hM0 : INV pr Kz M0) (hpr : PM pr) (a1 : Int) (ha1 : -2147483648 ≤ a1 ∧ a1 ≤ 2147483647) (gf : Nat → Int) (gn : Int) (gi : Int) (hp0 : b01 (RIP M0) = 1) (hp1 : 2 ≤ a1 ∧ a1 ≤ 4) (hp2 : b01 (TKM gf gn M0) = 1) (hp3 : b01 (PO gn gi (M0.1 98 11).toInt (M0.1 98 6).toInt) = 1) (hp4 : b01 (PI M0) = 1) : Cv l 0 yX12_fails wsX12_fails dC dI ad cA [.ref (ad 98), .int (sI a1)] M0 (fun M' => INV pr Kz M' ∧ FR [98] M0 M' ∧ (¬ (M'.1 98 11).toInt = 0) ∧ ((M'.1 98 6).toInt = (M0.1 98 6).toInt ∧ (M'.1 98 8).toInt = (M0.1 98 8).toInt) ∧ (b01 (RIP M') = 1) ∧ (b01 (PI M') = 1) ∧ (b01 (TKM gf gn M') = 1) ∧ b01 (RR ((faQ gf gn a1) gi) (M0.1 98 11).toInt (M0.1 98 12).toInt (M'.1 98 11).toInt (M'.1 98 12).toInt (M'.1 98 6).toInt) = 1) := by
  refine cv_of (cc := cX12_fails) (maxL := 2) (lv := [(0, .ref (ad 98)), (1, .int (sI a1))]) (by decide) rfl (Nat.le_of_ble_eq_true rfl) rfl ?_
  intro p e s m args below meth c A Q C hret
  have u101l := ri_l (M := M0) (by exact hp0)
  have u101k := fun h => ri_k (M := M0) (by exact hp0) h
  have u101f := flP_s gf gn gi a1
  have k102 := tkm_K (f := gf) (n := gn) (M := M0) (by exact hp2)
  have k103 := kd_2 (kdk_25 gf gn (M0.1 98 6).toInt) (by exact u101l.1)
  have u101c := tk_c gf gn (M0.1 98 6).toInt gi
  have u101e := po_e (n := gn) (i := gi) (a := (M0.1 98 11).toInt) (p := (M0.1 98 6).toInt) (by exact hp3)
  refine j_aload_n C 0 0 dX12_fails_0 rfl rfl ?_
  refine y_getI C 11 _ _ fX12_fails_126 rfl rfl ft_11_11 sb_11_11 hM0 dX12_fails_1 (fun a104 ea104 la104 ua104 => ?_)
  obtain rfl : a104 = (M0.1 98 11).toInt := ea104
  refine y_if_eq C 8 dX12_fails_4 (by decide) (by exact ⟨la104, ua104⟩) (fun h106 => ?_) (fun h106 => ?_)
  · refine j_aload_n C 0 0 dX12_fails_8 rfl rfl ?_
    refine j_aload_n C 0 0 dX12_fails_9 rfl rfl ?_
    refine y_getI C 11 _ _ fX12_fails_108 rfl rfl ft_11_9 sb_11_9 hM0 dX12_fails_10 (fun a107 ea107 la107 ua107 => ?_)
    obtain rfl : a107 = (M0.1 98 9).toInt := ea107
    refine y_bipush C dX12_fails_13 rfl ?_
    refine y_icmp_ne C 22 dX12_fails_15 (by decide) (by exact ⟨⟨la107, ua107⟩, ⟨(by decide), (by decide)⟩⟩) (fun h109 => ?_) (fun h109 => ?_)
    · refine j_iload_n C 1 1 dX12_fails_22 rfl rfl ?_
      refine y_putIF C 11 qX12_fails_126 rfl rfl ft_11_11 sb_11_11 hM0 (PM.w hpr rfl rfl) dX12_fails_23 (fun M110 eM110 hM110 => ?_)
      have xM110 := tkm_f (f := gf) (n := gn) eM110 (by decide) (by exact hp2)
      have pM110 := pi_o eM110 (by decide) (by decide) (by exact hp4)
      refine j_aload_n C 0 0 dX12_fails_26 rfl rfl ?_
      refine j_aload_n C 0 0 dX12_fails_27 rfl rfl ?_
      refine y_getI C 11 _ _ fX12_fails_98 rfl rfl ft_11_6 sb_11_6 hM110 dX12_fails_28 (fun a111 ea111 la111 ua111 => ?_)
      obtain rfl : a111 = (M0.1 98 6).toInt := s_fb eM110 (by decide) (ea111)
      refine y_putIF C 11 qX12_fails_129 rfl rfl ft_11_12 sb_11_12 hM110 (PM.w hpr rfl rfl) dX12_fails_31 (fun M113 eM113 hM113 => ?_)
      have xM113 := tkm_f (f := gf) (n := gn) eM113 (by decide) (by exact xM110)
      have pM113 := pi_o eM113 (by decide) (by decide) (by exact pM110)
      have zz98_6 : (M113.1 98 6).toInt = (M0.1 98 6).toInt := s_fb eM110 (by decide) (s_fb eM113 (by decide) (rfl))
      have zz98_7 : (M113.1 98 7).toInt = (M0.1 98 7).toInt := s_fb eM110 (by decide) (s_fb eM113 (by decide) (rfl))
      have zz98_8 : (M113.1 98 8).toInt = (M0.1 98 8).toInt := s_fb eM110 (by decide) (s_fb eM113 (by decide) (rfl))
      have zz98_9 : (M113.1 98 9).toInt = (M0.1 98 9).toInt := s_fb eM110 (by decide) (s_fb eM113 (by decide) (rfl))
      have u114 : b01 (RIP M113) = 1 := b01_i (by unfold RIP; (clear pM113 xM113 hM113 eM113 la111 pM110 xM110 hM110 eM110 ua104 la104 hret C hp4 hp3 hp2 hp1 hp0 ha1 hpr hM0; omega))
      have u1141 : (faQ gf gn a1 gi).1 = flP gf gn gi a1 := rfl
      have u1142 : (faQ gf gn a1 gi).2.1 = gi := rfl
      have zz98_11 := (Eq.trans (s_fb eM113 (by decide) (rfl) : (M113.1 98 11).toInt = (M110.1 98 11).toInt) (s_wr eM110 (by exact ⟨ha1.1, ha1.2⟩)))
      have zz98_12 := (Eq.trans (rfl : (M113.1 98 12).toInt = (M113.1 98 12).toInt) (s_wr eM113 (by (clear zz98_11 u1142 u1141 u114 zz98_9 zz98_8 zz98_7 pM113 xM113 hM113 eM113 la111 pM110 xM110 hM110 eM110 h109 ua107 la107 h106 ua104 la104 u101e u101c k103 k102 u101f u101k hret C hp4 hp3 hp2 hp1 hp0 ha1 hpr hM0; omega))))
      have zz98_6 : (M113.1 98 6).toInt = (M0.1 98 6).toInt := s_fb eM110 (by decide) (s_fb eM113 (by decide) (rfl))
      have u114r : b01 (RR (faQ gf gn a1 gi) (M0.1 98 11).toInt (M0.1 98 12).toInt (M113.1 98 11).toInt (M113.1 98 12).toInt (M113.1 98 6).toInt) = 1 := b01_i (by unfold RR; (clear zz98_6 u114 zz98_9 zz98_8 zz98_7 pM113 xM113 hM113 eM113 ua111 la111 ea111 pM110 xM110 hM110 eM110 ua107 la107 ua104 la104 u101k u101l hret C hp4 hp3 hp2 hp0 ha1 hpr hM0; omega))
      have zz98_11 := (Eq.trans (s_fb eM113 (by decide) (rfl) : (M113.1 98 11).toInt = (M110.1 98 11).toInt) (s_wr eM110 (by exact ⟨ha1.1, ha1.2⟩))); have zz98_12 := (Eq.trans (rfl : (M113.1 98 12).toInt = (M113.1 98 12).toInt) (s_wr eM113 (by omega))); have zz98_6 : (M113.1 98 6).toInt = (M0.1 98 6).toInt := s_fb eM110 (by decide) (s_fb eM113 (by decide) (rfl)); have zz98_8 : (M113.1 98 8).toInt = (M0.1 98 8).toInt := s_fb eM110 (by decide) (s_fb eM113 (by decide) (rfl)); exact hret _ _ _ dX12_fails_34 ⟨hM113, ((FR.rf.wI eM110 (by decide)).wI eM113 (by decide)), by omega⟩
    · refine y_iconst C dX12_fails_18 ?_
      refine j_goto C 23 dX12_fails_19 (by decide) ?_
      refine y_putIF C 11 qX12_fails_126 rfl rfl ft_11_11 sb_11_11 hM0 (PM.w hpr rfl rfl) dX12_fails_23 (fun M115 eM115 hM115 => ?_)
      have xM115 := tkm_f (f := gf) (n := gn) eM115 (by decide) (by exact hp2)
      have pM115 := pi_o eM115 (by decide) (by decide) (by exact hp4)
      refine j_aload_n C 0 0 dX12_fails_26 rfl rfl ?_
      refine j_aload_n C 0 0 dX12_fails_27 rfl rfl ?_
      refine y_getI C 11 _ _ fX12_fails_98 rfl rfl ft_11_6 sb_11_6 hM115 dX12_fails_28 (fun a116 ea116 la116 ua116 => ?_)
      obtain rfl : a116 = (M0.1 98 6).toInt := s_fb eM115 (by decide) (ea116)
      refine y_putIF C 11 qX12_fails_129 rfl rfl ft_11_12 sb_11_12 hM115 (PM.w hpr rfl rfl) dX12_fails_31 (fun M118 eM118 hM118 => ?_)
      have xM118 := tkm_f (f := gf) (n := gn) eM118 (by decide) (by exact xM115)
      have pM118 := pi_o eM118 (by decide) (by decide) (by exact pM115)
      have zz98_6 : (M118.1 98 6).toInt = (M0.1 98 6).toInt := s_fb eM115 (by decide) (s_fb eM118 (by decide) (rfl))
      have zz98_7 : (M118.1 98 7).toInt = (M0.1 98 7).toInt := s_fb eM115 (by decide) (s_fb eM118 (by decide) (rfl))
      have zz98_8 : (M118.1 98 8).toInt = (M0.1 98 8).toInt := s_fb eM115 (by decide) (s_fb eM118 (by decide) (rfl))
      have zz98_9 : (M118.1 98 9).toInt = (M0.1 98 9).toInt := s_fb eM115 (by decide) (s_fb eM118 (by decide) (rfl))
      have u119 : b01 (RIP M118) = 1 := b01_i (by unfold RIP; (clear pM118 xM118 hM118 eM118 la116 pM115 xM115 hM115 eM115 ua107 la107 ua104 la104 hret C hp4 hp3 hp2 hp1 hp0 ha1 hpr hM0; omega))
      have u1191 : (faQ gf gn a1 gi).1 = flP gf gn gi a1 := rfl
      have u1192 : (faQ gf gn a1 gi).2.1 = gi := rfl
      have zz98_11 := (Eq.trans (s_fb eM118 (by decide) (rfl) : (M118.1 98 11).toInt = (M115.1 98 11).toInt) (s_wr eM115 (by exact ⟨(by decide), (by decide)⟩)))
      have zz98_12 := (Eq.trans (rfl : (M118.1 98 12).toInt = (M118.1 98 12).toInt) (s_wr eM118 (by omega)))
      have zz98_6 : (M118.1 98 6).toInt = (M0.1 98 6).toInt := s_fb eM115 (by decide) (s_fb eM118 (by decide) (rfl))
      have u119r : b01 (RR (faQ gf gn a1 gi) (M0.1 98 11).toInt (M0.1 98 12).toInt (M118.1 98 11).toInt (M118.1 98 12).toInt (M118.1 98 6).toInt) = 1 := b01_i (by unfold RR; (clear zz98_6 u119 zz98_9 zz98_8 zz98_7 pM118 xM118 hM118 eM118 ua116 la116 ea116 pM115 xM115 hM115 eM115 ua107 la107 ua104 la104 u101k u101l hret C hp4 hp3 hp2 hp1 hp0 ha1 hpr hM0; omega))
      have zz98_11 := (Eq.trans (s_fb eM118 (by decide) (rfl) : (M118.1 98 11).toInt = (M115.1 98 11).toInt) (s_wr eM115 (by exact ⟨(by decide), (by decide)⟩))); have zz98_12 := (Eq.trans (rfl : (M118.1 98 12).toInt = (M118.1 98 12).toInt) (s_wr eM118 (by omega))); have zz98_6 : (M118.1 98 6).toInt = (M0.1 98 6).toInt := s_fb eM115 (by decide) (s_fb eM118 (by decide) (rfl)); have zz98_8 : (M118.1 98 8).toInt = (M0.1 98 8).toInt := s_fb eM115 (by decide) (s_fb eM118 (by decide) (rfl)); exact hret _ _ _ dX12_fails_34 ⟨hM118, ((FR.rf.wI eM115 (by decide)).wI eM118 (by decide)), by omega⟩
  · have u1201 : (faQ gf gn a1 gi).1 = flP gf gn gi a1 := rfl
    have u1202 : (faQ gf gn a1 gi).2.1 = gi := rfl
    have u120r : b01 (RR (faQ gf gn a1 gi) (M0.1 98 11).toInt (M0.1 98 12).toInt (M0.1 98 11).toInt (M0.1 98 12).toInt (M0.1 98 6).toInt) = 1 := b01_i (by unfold RR; (clear u1202 u1201 u101e u101c k103 k102 u101f u101k u101l hret C hp4 hp3 hp2 hp1 hp0 ha1 hpr hM0; omega))
    exact hret _ _ _ dX12_fails_7 ⟨hM0, FR.rf, by (clear u1202 u1201 ua104 la104 u101e u101c k103 k102 u101f u101k u101l hret C hp3 hp1 ha1 hpr hM0; omega)⟩
set_option maxHeartbeats 4000000 in
theorem s1_X12_ends {l : Launch} {dC : Nat → ClassId} {dI : Nat → Nat → Nat} {ad : Nat → Nat} {cA : Nat → ClassId} {pr : Nat → Nat → Bool} {Kz : mm_M} {M0 : mm_M} (hM0 : INV pr Kz M0) (hpr : PM pr) (gf : Nat → Int) (gn : Int) (gi : Int) (hp0 : b01 (RIP M0) = 1) (hp1 : b01 (LV M0) = 1) (hp2 : ¬ (M0.1 98 11).toInt = 0 ∨ 0 ≤ (M0.1 102 0).toInt ∧ (M0.1 102 0).toInt ≤ 2000) (hp3 : b01 (TKM gf gn M0) = 1) (hp4 : b01 (PO gn gi (M0.1 98 11).toInt (M0.1 98 6).toInt) = 1) (hp5 : b01 (PI M0) = 1) : Cv l 7 yX12_ends wsX12_ends dC dI ad cA [.ref (ad 98)] M0 (fun M' => INV pr Kz M' ∧ FR [98, 102] M0 M' ∧ (b01 (RIP M') = 1) ∧ ((M'.1 98 8).toInt = (M0.1 98 8).toInt) ∧ ((M0.1 98 6).toInt ≤ (M'.1 98 6).toInt) ∧ (b01 (LV M') = 1) ∧ (¬ (M'.1 98 11).toInt = 0 ∨ (M0.1 98 11).toInt = 0 ∧ (M0.1 98 6).toInt + 1 ≤ (M'.1 98 6).toInt) ∧ (b01 (CK (M'.1 98 11).toInt (M'.1 102 26).toInt (M'.1 102 1).toInt (M'.1 102 0).toInt (M0.1 102 26).toInt (M0.1 102 1).toInt ((M0.1 102 0).toInt + 1)) = 1) ∧ (b01 (CT AGM (M'.1 98 11).toInt M0 M' (fun T => uT T 0 (T 0 + 1))) = 1) ∧ (b01 (PI M') = 1) ∧ (b01 (TKM gf gn M') = 1) ∧ b01 (RR ((exP gf gn 2059) gi) (M0.1 98 11).toInt (M0.1 98 12).toInt (M'.1 98 11).toInt (M'.1 98 12).toInt (M'.1 98 6).toInt) = 1) := by
  refine cv_of (cc := cX12_ends) (maxL := 1) (lv := [(0, .ref (ad 98))]) (by decide) rfl (Nat.le_of_ble_eq_true rfl) rfl ?_
  intro p e s m args below meth c A Q C hret
  have u101l := ri_l (M := M0) (by exact hp0)
  refine j_aload_n C 0 0 dX12_ends_0 rfl rfl ?_
  refine y_bipush C dX12_ends_1 rfl ?_
  have k102 := tkm_K (f := gf) (n := gn) (M := M0) (by exact hp3)
  have k103 := kd_2 (kdk_30 gf gn (M0.1 98 6).toInt) (by exact u101l.1)
  refine j_callVi C (d := 6) (As := [.int (sI 30)]) (st := []) 98 (s_lt rfl rfl) (s_kc (c := 11) rfl rfl) (by decide) rfl (s1_X12_eats hM0 hpr 30 (by exact ⟨(by decide), (by decide)⟩) gf gn gi (by exact hp0) (by exact (by decide)) (by exact hp3) (by exact hp4) (by exact hp5)) gX12_ends_X12_eats rfl hdX12_eats (by decide) (Nat.le_of_ble_eq_true rfl) dX12_ends_3 rfl (fun r104 M105 h106 => ?_)
  obtain ⟨a108, rfl, hM105, fM105, h107⟩ := h106
  have k109 := tk_c gf gn (M105.1 98 6).toInt (M0.1 98 6).toInt
  have bM105 := tkm_b (f := gf) (n := gn) (M := M105) (by exact h107.2.2.2.2.2.2.2)
  have u110v := lv_c (M := M0) (N := M105) (FR.cell fM105 (by decide)) (by (clear bM105 fM105 hM105 k103 k102 u101l hret C hp5 hp4 hp3 hp2 hp1 hp0 hpr hM0; omega)) (by exact hp1)
  have u110l := ri_l (M := M105) (by exact h107.2.2.1)
  have J120 : ∀ (M119 : mm_M), ((b01 (RIP M119) = 1) ∧ ((M119.1 98 8).toInt = (M0.1 98 8).toInt) ∧ ((M0.1 98 6).toInt ≤ (M119.1 98 6).toInt) ∧ (b01 (LV M119) = 1) ∧ (¬ (M119.1 98 11).toInt = 0 ∨ (M0.1 98 11).toInt = 0 ∧ (M0.1 98 6).toInt + 1 ≤ (M119.1 98 6).toInt) ∧ (b01 (RR (exP gf gn 2059 gi) (M0.1 98 11).toInt (M0.1 98 12).toInt (M119.1 98 11).toInt (M119.1 98 12).toInt (M119.1 98 6).toInt) = 1) ∧ ((M119.1 102 26).toInt = (M0.1 102 26).toInt ∧ (M119.1 102 1).toInt = (M0.1 102 1).toInt ∧ (M119.1 102 0).toInt = (M0.1 102 0).toInt) ∧ (b01 (CT AGR 0 M0 M119 (fun T => T)) = 1) ∧ (b01 (TKM gf gn M119) = 1) ∧ (b01 (PO gn (exP gf gn 2059 gi).2.2 (M119.1 98 11).toInt (M119.1 98 6).toInt) = 1) ∧ (b01 (PI M119) = 1)) → INV pr Kz M119 → FR [98, 102] M0 M119 → jj p l e (cn_R 7) s m args below meth c 0 0 Q 1 dC dI ad cA A M119 14 [(0, .ref (ad 98))] [] := by
    intro M119 h121 hM119 fM119
    refine j_aload_n C 0 0 dX12_ends_14 rfl rfl ?_
    refine y_getC C 11 102 fX12_ends_24 rfl rfl ft_11_4 sm_11_4 rfl hM119 dX12_ends_15 ?_
    refine y_iconst C dX12_ends_18 ?_
    refine j_dup2 C dX12_ends_19 rfl rfl ?_
    refine y_ialdF C 48 1181 rfl rfl rfl ak_48 an_48 rfl dX12_ends_20 (by exact ⟨(by decide), (by decide)⟩) (fun a123 ea123 la123 ua123 => ?_)
    obtain rfl : a123 = (M119.1 102 0).toInt := ea123
    refine y_iconst C dX12_ends_21 ?_
    refine e_iadd C dX12_ends_22 (fun lb124 ub124 => ?_)
    refine y_iastH C 48 1181 rfl rfl rfl ak_48 an_48 rfl _ _ hM119 (PM.w hpr rfl rfl) (hs_48_0_0 _ (by exact (by decide)) (by exact (by decide))) dX12_ends_23 (by exact ⟨(by decide), (by decide)⟩) (by exact ⟨⟨lb124, ub124⟩, ⟨lb124, ub124⟩⟩) (fun M125 eM125 hM125 => ?_)
    have xM125 := tkm_w (f := gf) (n := gn) eM125 (by decide) (by decide) (by exact h121.2.2.2.2.2.2.2.2.1)
    have qM125 := po_eq gn (exP gf gn 2059 gi).2.2 (M119.1 98 11).toInt (M119.1 98 6).toInt (M125.1 98 11).toInt (M125.1 98 6).toInt (by exact h121.2.2.2.2.2.2.2.2.2.1) (s_fa eM125 (by decide) rfl) (s_fa eM125 (by decide) rfl)
    have pM125 := pi_o eM125 (by decide) (by decide) (by exact h121.2.2.2.2.2.2.2.2.2.2)
    have u126v := lv_w eM125 (h4b hM119) (by decide) (by exact h121.2.2.2.1)
    have u126i := ri_c (M := M119) (N := M125) (wI_cell eM125 (by decide)) (by exact h121.1)
    have u126q6 : (M125.1 98 6).toInt = (M119.1 98 6).toInt := by rw [show M125.1 98 = M119.1 98 from wI_cell eM125 (by decide)]
    have u126q8 : (M125.1 98 8).toInt = (M119.1 98 8).toInt := by rw [show M125.1 98 = M119.1 98 from wI_cell eM125 (by decide)]
    have u126q11 : (M125.1 98 11).toInt = (M119.1 98 11).toInt := by rw [show M125.1 98 = M119.1 98 from wI_cell eM125 (by decide)]
    have u127w12 : (M125.1 98 12).toInt = (M119.1 98 12).toInt := by rw [show M125.1 98 = M119.1 98 from wI_cell eM125 (by decide)]
    have u127r := rr_eq (exP gf gn 2059 gi) (M0.1 98 11).toInt (M0.1 98 12).toInt (M119.1 98 11).toInt (M119.1 98 12).toInt (M119.1 98 6).toInt (M125.1 98 11).toInt (M125.1 98 12).toInt (M125.1 98 6).toInt (by exact h121.2.2.2.2.2.1) (by exact u126q11) (by exact u127w12) (by exact u126q6)
    have zz102_26 : (M125.1 102 26).toInt = (M119.1 102 26).toInt := s_fb eM125 (by decide) (rfl)
    have zz102_1 : (M125.1 102 1).toInt = (M119.1 102 1).toInt := s_fb eM125 (by decide) (rfl)
    have zz102_0 : (M125.1 102 0).toInt = (addI (M119.1 102 0).toInt 1) := (Eq.trans (rfl : (M125.1 102 0).toInt = (M125.1 102 0).toInt) (s_wr eM125 (by exact ⟨lb124, ub124⟩)))
    have u127a := addI_x (M119.1 102 0).toInt 1
    have u127k := rr_c (exP gf gn 2059 gi) (M0.1 98 11).toInt (M0.1 98 12).toInt (M119.1 98 11).toInt (M119.1 98 12).toInt (M119.1 98 6).toInt (by exact h121.2.2.2.2.2.1)
    have u127c := ck_i (M125.1 98 11).toInt (M125.1 102 26).toInt (M125.1 102 1).toInt (M125.1 102 0).toInt (M0.1 102 26).toInt (M0.1 102 1).toInt ((M0.1 102 0).toInt + 1) (by (clear u127r u127w12 u126q8 u126q6 u126i u126v pM125 qM125 xM125 hM125 eM125 fM119 hM119 u110l u110v bM105 fM105 hM105 k102 u101l hret C hp5 hp4 hp3 hp1 hp0 hpr hM0; omega))
    have u127t := lnm_x (a := (M125.1 98 11).toInt) (x := (addI (M119.1 102 0).toInt 1)) (M := M0) (M1 := M119) (N := M125) (ct_i (show b01 (CT AGR 0 M0 M119 (fun T => T)) = 1 by exact h121.2.2.2.2.2.2.2.1)) eM125 (by (clear u127c zz102_1 zz102_26 u127r u127w12 u126q8 u126q6 u126i u126v pM125 qM125 xM125 hM125 eM125 fM119 hM119 u110l u110v bM105 fM105 hM105 k102 u101l hret C hp5 hp4 hp3 hp1 hp0 hpr hM0; omega))
    have zz102_0 : (M125.1 102 0).toInt = (addI (M119.1 102 0).toInt 1) := (Eq.trans (rfl : (M125.1 102 0).toInt = (M125.1 102 0).toInt) (s_wr eM125 (by exact ⟨lb124, ub124⟩))); have zz102_1 : (M125.1 102 1).toInt = (M119.1 102 1).toInt := s_fb eM125 (by decide) (rfl); have zz102_26 : (M125.1 102 26).toInt = (M119.1 102 26).toInt := s_fb eM125 (by decide) (rfl); have zz98_11 : (M125.1 98 11).toInt = (M119.1 98 11).toInt := s_fa eM125 (by decide) (rfl); have zz98_12 : (M125.1 98 12).toInt = (M119.1 98 12).toInt := s_fa eM125 (by decide) (rfl); have zz98_6 : (M125.1 98 6).toInt = (M119.1 98 6).toInt := s_fa eM125 (by decide) (rfl); have zz98_8 : (M125.1 98 8).toInt = (M119.1 98 8).toInt := s_fa eM125 (by decide) (rfl); exact hret _ _ _ dX12_ends_24 ⟨hM125, ((FR.rf.tr fM119 (by decide)).wI eM125 (by decide)), by omega⟩
  refine y_if_ne C 14 dX12_ends_6 (by decide) (by (clear J120 u110l u110v bM105 k109 fM105 hM105 k103 k102 u101l hret C hp5 hp4 hp3 hp2 hp1 hp0 hpr hM0; omega)) (fun h111 => ?_) (fun h111 => ?_)
  · have u112x := ex_1 gf gn 2059 gi (M0.1 98 11).toInt (M0.1 98 12).toInt (M0.1 98 6).toInt (M105.1 98 11).toInt (M105.1 98 12).toInt (M105.1 98 6).toInt (by exact hp4) (by (clear J120 u110l u110v bM105 fM105 hM105 k103 k102 u101l hret C hp5 hp4 hp3 hp2 hp1 hp0 hpr hM0; omega)) (by (clear J120 u110l u110v bM105 fM105 hM105 k102 u101l hret C hp5 hp4 hp3 hp2 hp1 hp0 hpr hM0; omega)) (by (clear J120 u110l u110v bM105 fM105 hM105 k103 k102 u101l hret C hp5 hp4 hp3 hp2 hp1 hp0 hpr hM0; omega)) (by (clear J120 u110l u110v bM105 fM105 hM105 k103 k102 u101l hret C hp5 hp4 hp3 hp2 hp1 hp0 hpr hM0; omega)) (by (clear J120 u110l u110v bM105 fM105 hM105 k103 k102 u101l hret C hp5 hp4 hp3 hp2 hp1 hp0 hpr hM0; omega))
    have u112p := po_rr (exP gf gn 2059) gn gi (M0.1 98 11).toInt (M0.1 98 12).toInt (M0.1 98 6).toInt (M105.1 98 11).toInt (M105.1 98 12).toInt (M105.1 98 6).toInt (ex_g gf gn 2059 (by decide)) (by exact hp4) (by exact u112x)
    have u112I := ct_r (A := AGR) 0 (agr_c (FR.cell fM105 (by decide)))
    have zz102_26 : (M105.1 102 26).toInt = (M0.1 102 26).toInt := s_fF fM105 (by decide) (rfl); have zz102_1 : (M105.1 102 1).toInt = (M0.1 102 1).toInt := s_fF fM105 (by decide) (rfl); have zz102_0 : (M105.1 102 0).toInt = (M0.1 102 0).toInt := s_fF fM105 (by decide) (rfl); exact J120 M105 (by exact ⟨h107.2.2.1, ⟨h107.2.2.2.1, ⟨(by (clear J120 u110l bM105 fM105 hM105 k103 k102 u101l hret C hp5 hp4 hp3 hp2 hp1 hp0 hpr hM0; omega)), ⟨u110v, ⟨(by (clear J120 u110l bM105 fM105 hM105 k103 k102 u101l hret C hp5 hp4 hp3 hp2 hp1 hp0 hpr hM0; omega)), ⟨u112x, ⟨⟨zz102_26, ⟨zz102_1, zz102_0⟩⟩, ⟨u112I, ⟨h107.2.2.2.2.2.2.2, ⟨u112p, h107.2.2.2.2.2.2.1⟩⟩⟩⟩⟩⟩⟩⟩⟩⟩) hM105 (FR.rf.tr fM105 (by decide))
  · refine j_aload_n C 0 0 dX12_ends_9 rfl rfl ?_
    refine y_iconst C dX12_ends_10 ?_
    have p113 := po_eq gn gi (M0.1 98 11).toInt (M0.1 98 6).toInt (M105.1 98 11).toInt (M105.1 98 6).toInt (by exact hp4) (by (clear J120 u110l u110v bM105 fM105 hM105 k103 k102 u101l hret C hp5 hp4 hp3 hp2 hp1 hp0 hpr hM0; omega)) (by (clear J120 u110l u110v bM105 fM105 hM105 k103 k102 u101l hret C hp5 hp4 hp3 hp2 hp1 hp0 hpr hM0; omega))
    refine j_callVv C (d := 0) (As := [.int (sI 2)]) (st := []) 98 (s_lt rfl rfl) (s_kc (c := 11) rfl rfl) (by decide) rfl (s1_X12_fails hM105 hpr 2 (by exact ⟨(by decide), (by decide)⟩) gf gn gi (by exact h107.2.2.1) (by exact ⟨(by decide), (by decide)⟩) (by exact h107.2.2.2.2.2.2.2) (by exact p113) (by exact h107.2.2.2.2.2.2.1)) gX12_ends_X12_fails rfl hdX12_fails (by decide) (Nat.le_of_ble_eq_true rfl) dX12_ends_11 rfl (fun M115 h116 => ?_)
    obtain ⟨hM115, fM115, h117⟩ := h116
    have bM115 := tkm_b (f := gf) (n := gn) (M := M115) (by exact h117.2.2.2.2.1)
    have qM115 := po_f gn ((faQ gf gn 2) gi).2.2 (M115.1 98 11).toInt (M115.1 98 6).toInt (by exact h117.1)
    have u118v := lv_c (M := M105) (N := M115) (FR.cell fM115 (by decide)) (by (clear qM115 bM115 fM115 hM115 p113 h111 J120 u110l u110v bM105 k109 h107 fM105 hM105 k103 k102 u101l hret C hp5 hp4 hp3 hp2 hp1 hp0 hpr hM0; omega)) (by exact u110v)
    have u118l := ri_l (M := M115) (by exact h117.2.2.1)
    have u118x := ex_2z gf gn 2059 gi (M0.1 98 11).toInt (M0.1 98 12).toInt (M0.1 98 6).toInt (M115.1 98 11).toInt (M115.1 98 12).toInt (M115.1 98 6).toInt (by exact hp4) (by (clear u118l u118v qM115 bM115 fM115 hM115 p113 J120 u110l u110v bM105 fM105 hM105 k102 u101l hret C hp5 hp4 hp3 hp2 hp1 hp0 hpr hM0; omega)) (rr_fr (faQ gf gn 2 gi) (M0.1 98 11).toInt (M0.1 98 12).toInt (M105.1 98 11).toInt (M105.1 98 12).toInt (M115.1 98 11).toInt (M115.1 98 12).toInt (M115.1 98 6).toInt (by exact h117.2.2.2.2.2) (by (clear u118l u118v qM115 bM115 fM115 hM115 p113 J120 u110l u110v bM105 fM105 hM105 k103 k102 u101l hret C hp5 hp4 hp3 hp2 hp1 hp0 hpr hM0; omega)) (by (clear u118l u118v qM115 bM115 fM115 hM115 p113 J120 u110l u110v bM105 fM105 hM105 k103 k102 u101l hret C hp5 hp4 hp3 hp2 hp1 hp0 hpr hM0; omega)))
    have u118p := po_rr (exP gf gn 2059) gn gi (M0.1 98 11).toInt (M0.1 98 12).toInt (M0.1 98 6).toInt (M115.1 98 11).toInt (M115.1 98 12).toInt (M115.1 98 6).toInt (ex_g gf gn 2059 (by decide)) (by exact hp4) (by exact u118x)
    have u118I := ct_r (A := AGR) 0 (agr_c ((FR.cell fM115 (by decide)).trans (FR.cell fM105 (by decide))))
    have zz102_26 : (M115.1 102 26).toInt = (M0.1 102 26).toInt := s_fF fM105 (by decide) (s_fF fM115 (by decide) (rfl)); have zz102_1 : (M115.1 102 1).toInt = (M0.1 102 1).toInt := s_fF fM105 (by decide) (s_fF fM115 (by decide) (rfl)); have zz102_0 : (M115.1 102 0).toInt = (M0.1 102 0).toInt := s_fF fM105 (by decide) (s_fF fM115 (by decide) (rfl)); exact J120 M115 (by exact ⟨h117.2.2.1, ⟨(by (clear u118l qM115 bM115 fM115 hM115 p113 J120 u110l u110v bM105 fM105 hM105 k103 k102 u101l hret C hp5 hp4 hp3 hp2 hp1 hp0 hpr hM0; omega)), ⟨(by (clear u118l qM115 bM115 fM115 hM115 p113 J120 u110l u110v bM105 fM105 hM105 k103 k102 u101l hret C hp5 hp4 hp3 hp2 hp1 hp0 hpr hM0; omega)), ⟨u118v, ⟨(by (clear u118l qM115 bM115 fM115 hM115 p113 J120 u110l u110v bM105 fM105 hM105 k103 k102 u101l hret C hp5 hp4 hp3 hp2 hp1 hp0 hpr hM0; omega)), ⟨u118x, ⟨⟨zz102_26, ⟨zz102_1, zz102_0⟩⟩, ⟨u118I, ⟨h117.2.2.2.2.1, ⟨u118p, h117.2.2.2.1⟩⟩⟩⟩⟩⟩⟩⟩⟩⟩) hM115 ((FR.rf.tr fM105 (by decide)).tr fM115 (by decide))
set_option maxHeartbeats 4000000 in
theorem s1_X12_goesIn {l : Launch} {dC : Nat → ClassId} {dI : Nat → Nat → Nat} {ad : Nat → Nat} {cA : Nat → ClassId} {pr : Nat → Nat → Bool} {Kz : mm_M} {M0 : mm_M} (hM0 : INV pr Kz M0) (hpr : PM pr) (gf : Nat → Int) (gn : Int) (gi : Int) (hp0 : b01 (RIP M0) = 1) (hp1 : ¬ tkF gf gn (M0.1 98 6).toInt = 3000) (hp2 : ¬ tkF gf gn (M0.1 98 6).toInt = 3001) (hp3 : (M0.1 98 11).toInt = 0) (hp4 : b01 (TKM gf gn M0) = 1) (hp5 : b01 (PO gn gi (M0.1 98 11).toInt (M0.1 98 6).toInt) = 1) (hp6 : b01 (PI M0) = 1) : Ci l 6 yX12_goesIn wsX12_goesIn dC dI ad cA [.ref (ad 98), .int (sI 0)] M0 (fun r M' => ∃ a : Int, r = sI a ∧ INV pr Kz M' ∧ FR [98] M0 M' ∧ 1 ≤ a ∧ a ≤ 1 ∧ (b01 (RIP M') = 1) ∧ ((M'.1 98 8).toInt = (M0.1 98 8).toInt) ∧ ((M0.1 98 6).toInt ≤ (M'.1 98 6).toInt) ∧ (a = 0 ∧ ¬ (M'.1 98 11).toInt = 0 ∨ a = 1 ∧ (M'.1 98 11).toInt = 0 ∧ (M0.1 98 11).toInt = 0 ∧ (M0.1 98 7).toInt ≤ (M'.1 98 6).toInt) ∧ (a = 1 ∧ (M'.1 98 11).toInt = 0 ∧ (M'.1 98 12).toInt = (M0.1 98 12).toInt ∧ b01 (PO gn (nxF gf gn gi) (M'.1 98 11).toInt (M'.1 98 6).toInt) = 1) ∧ (b01 (PI M') = 1) ∧ (b01 (TKM gf gn M') = 1)) := by
  refine ci_of (cc := cX12_goesIn) (maxL := 2) (ty := .boolean) (lv := [(0, .ref (ad 98)), (1, .int (sI 0))]) (by decide) rfl (fun r M' hp => by obtain ⟨a, rfl, -, h⟩ := hp; rcases (show a = 0 ∨ a = 1 by (clear hp6 hp5 hp4 hp3 hp2 hp1 hp0 hpr hM0; omega)) with rfl | rfl <;> rfl) (Nat.le_of_ble_eq_true rfl) rfl ?_
  intro p e s m args below meth c A Q C hret
  have u101l := ri_l (M := M0) (by exact hp0)
  refine j_iload_n C 1 1 dX12_goesIn_0 rfl rfl ?_
  refine y_bipush C dX12_goesIn_1 rfl ?_
  refine y_icmp_ne C 11 dX12_goesIn_3 (by decide) (by exact ⟨⟨(by decide), (by decide)⟩, ⟨(by decide), (by decide)⟩⟩) (fun h102 => ?_) (fun h102 => ?_)
  · have u103l := ri_l (M := M0) (by exact hp0)
    refine j_aload_n C 0 0 dX12_goesIn_11 rfl rfl ?_
    refine y_getI C 11 _ _ fX12_goesIn_126 rfl rfl ft_11_11 sb_11_11 hM0 dX12_goesIn_12 (fun a104 ea104 la104 ua104 => ?_)
    obtain rfl : a104 = (M0.1 98 11).toInt := ea104
    refine y_if_ne C 22 dX12_goesIn_15 (by decide) (by exact ⟨la104, ua104⟩) (fun h106 => ?_) (fun h106 => ?_)
    · refine j_aload_n C 0 0 dX12_goesIn_22 rfl rfl ?_
      refine y_getI C 11 _ _ fX12_goesIn_126 rfl rfl ft_11_11 sb_11_11 hM0 dX12_goesIn_23 (fun a107 ea107 la107 ua107 => ?_)
      obtain rfl : a107 = (M0.1 98 11).toInt := ea107
      refine y_if_ne C 33 dX12_goesIn_26 (by decide) (by exact ⟨la104, ua104⟩) (fun h109 => ?_) (fun h109 => ?_)
      · refine y_iconst C dX12_goesIn_33 ?_
        exact hret _ _ _ _ dX12_goesIn_34 ⟨0, rfl, hM0, FR.rf, by (clear ua107 la107 h106 ua104 la104 u103l h102 u101l hret C hp5 hp2 hp1 hpr hM0; omega)⟩
      · exfalso; omega
    · refine j_aload_n C 0 0 dX12_goesIn_18 rfl rfl ?_
      have k110 := tkm_p (f := gf) (n := gn) (M := M0) (by exact hp4)
      have k111 := tkm_K (f := gf) (n := gn) (M := M0) (by exact hp4)
      refine j_callVv C (d := 5) (As := []) (st := []) 98 (s_lt rfl rfl) (s_kc (c := 11) rfl rfl) (by decide) rfl (s1_X12_next hM0 hpr gf gn (by exact u101l.2.2.1) (by exact u101l.2.2.2) (by exact k110) (by exact hp6)) gX12_goesIn_X12_next rfl hdX12_next (by decide) (Nat.le_of_ble_eq_true rfl) dX12_goesIn_19 rfl (fun M113 h114 => ?_)
      obtain ⟨hM113, fM113, h115⟩ := h114
      have bM113 := tkm_b (f := gf) (n := gn) (M := M113) (by exact h115.2.2.2.2.1)
      have qM113 := nx_po (f := gf) (n := gn) (i := gi) (M := M0) (M' := M113) (by exact hp4) (by exact hp5) (by exact hp2) (by exact h115.2.2.2.2.2.1) (by exact h115.2.2.2.1)
      refine j_aload_n C 0 0 dX12_goesIn_22 rfl rfl ?_
      refine y_getI C 11 _ _ fX12_goesIn_126 rfl rfl ft_11_11 sb_11_11 hM113 dX12_goesIn_23 (fun a116 ea116 la116 ua116 => ?_)
      obtain rfl : a116 = (M113.1 98 11).toInt := ea116
      refine y_if_ne C 33 dX12_goesIn_26 (by decide) (by exact ⟨la116, ua116⟩) (fun h118 => ?_) (fun h118 => ?_)
      · refine y_iconst C dX12_goesIn_33 ?_
        exact hret _ _ _ _ dX12_goesIn_34 ⟨0, rfl, hM113, (FR.rf.tr fM113 (by decide)), by exact ⟨(by (clear ua116 la116 bM113 fM113 hM113 k111 k110 h106 ua104 la104 u103l h102 hret C hp6 hp5 hp4 hp2 hp1 hp0 hpr hM0; omega)), ⟨(by decide), ⟨h115.1, ⟨h115.2.1, ⟨(by (clear ua116 la116 bM113 fM113 hM113 k111 k110 h106 ua104 la104 u103l h102 hret C hp6 hp5 hp4 hp2 hp1 hp0 hpr hM0; omega)), ⟨(by (clear ua116 la116 bM113 fM113 hM113 k111 k110 h106 ua104 la104 u103l h102 hret C hp6 hp5 hp4 hp2 hp1 hp0 hpr hM0; omega)), ⟨⟨(by (clear ua116 la116 bM113 fM113 hM113 k111 k110 h106 ua104 la104 u103l h102 hret C hp6 hp5 hp4 hp2 hp1 hp0 hpr hM0; omega)), ⟨(by (clear ua116 la116 bM113 fM113 hM113 k111 k110 h106 ua104 la104 u103l h102 hret C hp6 hp5 hp4 hp2 hp1 hp0 hpr hM0; omega)), ⟨h115.2.2.2.2.2.2.1, qM113⟩⟩⟩, ⟨h115.2.2.2.2.2.2.2, h115.2.2.2.2.1⟩⟩⟩⟩⟩⟩⟩⟩⟩
      · refine y_iconst C dX12_goesIn_29 ?_
        refine j_goto C 34 dX12_goesIn_30 (by decide) ?_
        exact hret _ _ _ _ dX12_goesIn_34 ⟨1, rfl, hM113, (FR.rf.tr fM113 (by decide)), by (clear h118 ua116 la116 bM113 fM113 hM113 k111 k110 h106 ua104 la104 u103l h102 hret C hp6 hp5 hp4 hp2 hp1 hp0 hpr hM0; omega)⟩
  · refine j_aload_n C 0 0 dX12_goesIn_6 rfl rfl ?_
    refine y_iconst C dX12_goesIn_7 ?_
    refine j_callVv C (d := 0) (As := [.int (sI 4)]) (st := []) 98 (s_lt rfl rfl) (s_kc (c := 11) rfl rfl) (by decide) rfl (s1_X12_fails hM0 hpr 4 (by exact ⟨(by decide), (by decide)⟩) gf gn gi (by exact hp0) (by exact ⟨(by decide), (by decide)⟩) (by exact hp4) (by exact hp5) (by exact hp6)) gX12_goesIn_X12_fails rfl hdX12_fails (by decide) (Nat.le_of_ble_eq_true rfl) dX12_goesIn_8 rfl (fun M120 h121 => ?_)
    obtain ⟨hM120, fM120, h122⟩ := h121
    have bM120 := tkm_b (f := gf) (n := gn) (M := M120) (by exact h122.2.2.2.2.1)
    have qM120 := po_f gn ((faQ gf gn 4) gi).2.2 (M120.1 98 11).toInt (M120.1 98 6).toInt (by exact h122.1)
    have u123l := ri_l (M := M120) (by exact h122.2.2.1)
    refine j_aload_n C 0 0 dX12_goesIn_11 rfl rfl ?_
    refine y_getI C 11 _ _ fX12_goesIn_126 rfl rfl ft_11_11 sb_11_11 hM120 dX12_goesIn_12 (fun a124 ea124 la124 ua124 => ?_)
    obtain rfl : a124 = (M120.1 98 11).toInt := ea124
    refine y_if_ne C 22 dX12_goesIn_15 (by decide) (by exact ⟨la124, ua124⟩) (fun h126 => ?_) (fun h126 => ?_)
    · refine j_aload_n C 0 0 dX12_goesIn_22 rfl rfl ?_
      refine y_getI C 11 _ _ fX12_goesIn_126 rfl rfl ft_11_11 sb_11_11 hM120 dX12_goesIn_23 (fun a127 ea127 la127 ua127 => ?_)
      obtain rfl : a127 = (M120.1 98 11).toInt := ea127
      refine y_if_ne C 33 dX12_goesIn_26 (by decide) (by exact ⟨la124, ua124⟩) (fun h129 => ?_) (fun h129 => ?_)
      · refine y_iconst C dX12_goesIn_33 ?_
        exact hret _ _ _ _ dX12_goesIn_34 ⟨0, rfl, hM120, (FR.rf.tr fM120 (by decide)), by omega⟩
      · exfalso; omega
    · refine j_aload_n C 0 0 dX12_goesIn_18 rfl rfl ?_
      have k130 := tkm_p (f := gf) (n := gn) (M := M120) (by exact h122.2.2.2.2.1)
      have k131 := tkm_K (f := gf) (n := gn) (M := M120) (by exact h122.2.2.2.2.1)
      refine j_callVv C (d := 5) (As := []) (st := []) 98 (s_lt rfl rfl) (s_kc (c := 11) rfl rfl) (by decide) rfl (s1_X12_next hM120 hpr gf gn (by exact u123l.2.2.1) (by exact u123l.2.2.2) (by exact k130) (by exact h122.2.2.2.1)) gX12_goesIn_X12_next rfl hdX12_next (by decide) (Nat.le_of_ble_eq_true rfl) dX12_goesIn_19 rfl (fun M133 h134 => ?_)
      obtain ⟨hM133, fM133, h135⟩ := h134
      have bM133 := tkm_b (f := gf) (n := gn) (M := M133) (by exact h135.2.2.2.2.1)
      have qM133 := nx_po (f := gf) (n := gn) (i := ((faQ gf gn 4) gi).2.2) (M := M120) (M' := M133) (by exact h122.2.2.2.2.1) (by exact qM120) (by omega) (by exact h135.2.2.2.2.2.1) (by exact h135.2.2.2.1)
      refine j_aload_n C 0 0 dX12_goesIn_22 rfl rfl ?_
      refine y_getI C 11 _ _ fX12_goesIn_126 rfl rfl ft_11_11 sb_11_11 hM133 dX12_goesIn_23 (fun a136 ea136 la136 ua136 => ?_)
      obtain rfl : a136 = (M133.1 98 11).toInt := ea136
      refine y_if_ne C 33 dX12_goesIn_26 (by decide) (by exact ⟨la136, ua136⟩) (fun h138 => ?_) (fun h138 => ?_)
      · refine y_iconst C dX12_goesIn_33 ?_
        exact hret _ _ _ _ dX12_goesIn_34 ⟨0, rfl, hM133, ((FR.rf.tr fM120 (by decide)).tr fM133 (by decide)), by omega⟩
      · refine y_iconst C dX12_goesIn_29 ?_
        refine j_goto C 34 dX12_goesIn_30 (by decide) ?_
        exact hret _ _ _ _ dX12_goesIn_34 ⟨1, rfl, hM133, ((FR.rf.tr fM120 (by decide)).tr fM133 (by decide)), by omega⟩
set_option maxHeartbeats 4000000 in
theorem s2_X12_goesIn {l : Launch} {dC : Nat → ClassId} {dI : Nat → Nat → Nat} {ad : Nat → Nat} {cA : Nat → ClassId} {pr : Nat → Nat → Bool} {Kz : mm_M} {M0 : mm_M} (hM0 : INV pr Kz M0) (hpr : PM pr) (gf : Nat → Int) (gn : Int) (gi : Int) (hp0 : b01 (RIP M0) = 1) (hp1 : ¬ tkF gf gn (M0.1 98 6).toInt = 3000) (hp2 : ¬ tkF gf gn (M0.1 98 6).toInt = 3001) (hp3 : (M0.1 98 11).toInt = 0) (hp4 : b01 (TKM gf gn M0) = 1) (hp5 : b01 (PO gn gi (M0.1 98 11).toInt (M0.1 98 6).toInt) = 1) (hp6 : b01 (PI M0) = 1) : Ci l 6 yX12_goesIn wsX12_goesIn dC dI ad cA [.ref (ad 98), .int (sI 1)] M0 (fun r M' => ∃ a : Int, r = sI a ∧ INV pr Kz M' ∧ FR [98] M0 M' ∧ 1 ≤ a ∧ a ≤ 1 ∧ (b01 (RIP M') = 1) ∧ ((M'.1 98 8).toInt = (M0.1 98 8).toInt) ∧ ((M0.1 98 6).toInt ≤ (M'.1 98 6).toInt) ∧ (a = 0 ∧ ¬ (M'.1 98 11).toInt = 0 ∨ a = 1 ∧ (M'.1 98 11).toInt = 0 ∧ (M0.1 98 11).toInt = 0 ∧ (M0.1 98 7).toInt ≤ (M'.1 98 6).toInt) ∧ (a = 1 ∧ (M'.1 98 11).toInt = 0 ∧ (M'.1 98 12).toInt = (M0.1 98 12).toInt ∧ b01 (PO gn (nxF gf gn gi) (M'.1 98 11).toInt (M'.1 98 6).toInt) = 1) ∧ (b01 (PI M') = 1) ∧ (b01 (TKM gf gn M') = 1)) := by
  refine ci_of (cc := cX12_goesIn) (maxL := 2) (ty := .boolean) (lv := [(0, .ref (ad 98)), (1, .int (sI 1))]) (by decide) rfl (fun r M' hp => by obtain ⟨a, rfl, -, h⟩ := hp; rcases (show a = 0 ∨ a = 1 by omega) with rfl | rfl <;> rfl) (Nat.le_of_ble_eq_true rfl) rfl ?_
  intro p e s m args below meth c A Q C hret
  have u101l := ri_l (M := M0) (by exact hp0)
  refine j_iload_n C 1 1 dX12_goesIn_0 rfl rfl ?_
  refine y_bipush C dX12_goesIn_1 rfl ?_
  refine y_icmp_ne C 11 dX12_goesIn_3 (by decide) (by exact ⟨⟨(by decide), (by decide)⟩, ⟨(by decide), (by decide)⟩⟩) (fun h102 => ?_) (fun h102 => ?_)
  · have u103l := ri_l (M := M0) (by exact hp0)
    refine j_aload_n C 0 0 dX12_goesIn_11 rfl rfl ?_
    refine y_getI C 11 _ _ fX12_goesIn_126 rfl rfl ft_11_11 sb_11_11 hM0 dX12_goesIn_12 (fun a104 ea104 la104 ua104 => ?_)
    obtain rfl : a104 = (M0.1 98 11).toInt := ea104
    refine y_if_ne C 22 dX12_goesIn_15 (by decide) (by exact ⟨la104, ua104⟩) (fun h106 => ?_) (fun h106 => ?_)
    · refine j_aload_n C 0 0 dX12_goesIn_22 rfl rfl ?_
      refine y_getI C 11 _ _ fX12_goesIn_126 rfl rfl ft_11_11 sb_11_11 hM0 dX12_goesIn_23 (fun a107 ea107 la107 ua107 => ?_)
      obtain rfl : a107 = (M0.1 98 11).toInt := ea107
      refine y_if_ne C 33 dX12_goesIn_26 (by decide) (by exact ⟨la104, ua104⟩) (fun h109 => ?_) (fun h109 => ?_)
      · refine y_iconst C dX12_goesIn_33 ?_
        exact hret _ _ _ _ dX12_goesIn_34 ⟨0, rfl, hM0, FR.rf, by (clear ua107 la107 h106 ua104 la104 u103l h102 u101l hret C hp5 hp2 hp1 hpr hM0; omega)⟩
      · exfalso; omega
    · refine j_aload_n C 0 0 dX12_goesIn_18 rfl rfl ?_
      have k110 := tkm_p (f := gf) (n := gn) (M := M0) (by exact hp4)
      have k111 := tkm_K (f := gf) (n := gn) (M := M0) (by exact hp4)
      refine j_callVv C (d := 5) (As := []) (st := []) 98 (s_lt rfl rfl) (s_kc (c := 11) rfl rfl) (by decide) rfl (s1_X12_next hM0 hpr gf gn (by exact u101l.2.2.1) (by exact u101l.2.2.2) (by exact k110) (by exact hp6)) gX12_goesIn_X12_next rfl hdX12_next (by decide) (Nat.le_of_ble_eq_true rfl) dX12_goesIn_19 rfl (fun M113 h114 => ?_)
      obtain ⟨hM113, fM113, h115⟩ := h114
      have bM113 := tkm_b (f := gf) (n := gn) (M := M113) (by exact h115.2.2.2.2.1)
      have qM113 := nx_po (f := gf) (n := gn) (i := gi) (M := M0) (M' := M113) (by exact hp4) (by exact hp5) (by exact hp2) (by exact h115.2.2.2.2.2.1) (by exact h115.2.2.2.1)
      refine j_aload_n C 0 0 dX12_goesIn_22 rfl rfl ?_
      refine y_getI C 11 _ _ fX12_goesIn_126 rfl rfl ft_11_11 sb_11_11 hM113 dX12_goesIn_23 (fun a116 ea116 la116 ua116 => ?_)
      obtain rfl : a116 = (M113.1 98 11).toInt := ea116
      refine y_if_ne C 33 dX12_goesIn_26 (by decide) (by exact ⟨la116, ua116⟩) (fun h118 => ?_) (fun h118 => ?_)
      · refine y_iconst C dX12_goesIn_33 ?_
        exact hret _ _ _ _ dX12_goesIn_34 ⟨0, rfl, hM113, (FR.rf.tr fM113 (by decide)), by exact ⟨(by (clear ua116 la116 bM113 fM113 hM113 k111 k110 h106 ua104 la104 u103l h102 hret C hp6 hp5 hp4 hp2 hp1 hp0 hpr hM0; omega)), ⟨(by decide), ⟨h115.1, ⟨h115.2.1, ⟨(by (clear ua116 la116 bM113 fM113 hM113 k111 k110 h106 ua104 la104 u103l h102 hret C hp6 hp5 hp4 hp2 hp1 hp0 hpr hM0; omega)), ⟨(by (clear ua116 la116 bM113 fM113 hM113 k111 k110 h106 ua104 la104 u103l h102 hret C hp6 hp5 hp4 hp2 hp1 hp0 hpr hM0; omega)), ⟨⟨(by (clear ua116 la116 bM113 fM113 hM113 k111 k110 h106 ua104 la104 u103l h102 hret C hp6 hp5 hp4 hp2 hp1 hp0 hpr hM0; omega)), ⟨(by (clear ua116 la116 bM113 fM113 hM113 k111 k110 h106 ua104 la104 u103l h102 hret C hp6 hp5 hp4 hp2 hp1 hp0 hpr hM0; omega)), ⟨h115.2.2.2.2.2.2.1, qM113⟩⟩⟩, ⟨h115.2.2.2.2.2.2.2, h115.2.2.2.2.1⟩⟩⟩⟩⟩⟩⟩⟩⟩
      · refine y_iconst C dX12_goesIn_29 ?_
        refine j_goto C 34 dX12_goesIn_30 (by decide) ?_
        exact hret _ _ _ _ dX12_goesIn_34 ⟨1, rfl, hM113, (FR.rf.tr fM113 (by decide)), by (clear h118 ua116 la116 bM113 fM113 hM113 k111 k110 h106 ua104 la104 u103l h102 hret C hp6 hp5 hp4 hp2 hp1 hp0 hpr hM0; omega)⟩
  · refine j_aload_n C 0 0 dX12_goesIn_6 rfl rfl ?_
    refine y_iconst C dX12_goesIn_7 ?_
    refine j_callVv C (d := 0) (As := [.int (sI 4)]) (st := []) 98 (s_lt rfl rfl) (s_kc (c := 11) rfl rfl) (by decide) rfl (s1_X12_fails hM0 hpr 4 (by exact ⟨(by decide), (by decide)⟩) gf gn gi (by exact hp0) (by exact ⟨(by decide), (by decide)⟩) (by exact hp4) (by exact hp5) (by exact hp6)) gX12_goesIn_X12_fails rfl hdX12_fails (by decide) (Nat.le_of_ble_eq_true rfl) dX12_goesIn_8 rfl (fun M120 h121 => ?_)
    obtain ⟨hM120, fM120, h122⟩ := h121
    have bM120 := tkm_b (f := gf) (n := gn) (M := M120) (by exact h122.2.2.2.2.1)
    have qM120 := po_f gn ((faQ gf gn 4) gi).2.2 (M120.1 98 11).toInt (M120.1 98 6).toInt (by exact h122.1)
    have u123l := ri_l (M := M120) (by exact h122.2.2.1)
    refine j_aload_n C 0 0 dX12_goesIn_11 rfl rfl ?_
    refine y_getI C 11 _ _ fX12_goesIn_126 rfl rfl ft_11_11 sb_11_11 hM120 dX12_goesIn_12 (fun a124 ea124 la124 ua124 => ?_)
    obtain rfl : a124 = (M120.1 98 11).toInt := ea124
    refine y_if_ne C 22 dX12_goesIn_15 (by decide) (by exact ⟨la124, ua124⟩) (fun h126 => ?_) (fun h126 => ?_)
    · refine j_aload_n C 0 0 dX12_goesIn_22 rfl rfl ?_
      refine y_getI C 11 _ _ fX12_goesIn_126 rfl rfl ft_11_11 sb_11_11 hM120 dX12_goesIn_23 (fun a127 ea127 la127 ua127 => ?_)
      obtain rfl : a127 = (M120.1 98 11).toInt := ea127
      refine y_if_ne C 33 dX12_goesIn_26 (by decide) (by exact ⟨la124, ua124⟩) (fun h129 => ?_) (fun h129 => ?_)
      · refine y_iconst C dX12_goesIn_33 ?_
        exact hret _ _ _ _ dX12_goesIn_34 ⟨0, rfl, hM120, (FR.rf.tr fM120 (by decide)), by omega⟩
      · exfalso; omega
    · refine j_aload_n C 0 0 dX12_goesIn_18 rfl rfl ?_
      have k130 := tkm_p (f := gf) (n := gn) (M := M120) (by exact h122.2.2.2.2.1)
      have k131 := tkm_K (f := gf) (n := gn) (M := M120) (by exact h122.2.2.2.2.1)
      refine j_callVv C (d := 5) (As := []) (st := []) 98 (s_lt rfl rfl) (s_kc (c := 11) rfl rfl) (by decide) rfl (s1_X12_next hM120 hpr gf gn (by exact u123l.2.2.1) (by exact u123l.2.2.2) (by exact k130) (by exact h122.2.2.2.1)) gX12_goesIn_X12_next rfl hdX12_next (by decide) (Nat.le_of_ble_eq_true rfl) dX12_goesIn_19 rfl (fun M133 h134 => ?_)
      obtain ⟨hM133, fM133, h135⟩ := h134
      have bM133 := tkm_b (f := gf) (n := gn) (M := M133) (by exact h135.2.2.2.2.1)
      have qM133 := nx_po (f := gf) (n := gn) (i := ((faQ gf gn 4) gi).2.2) (M := M120) (M' := M133) (by exact h122.2.2.2.2.1) (by exact qM120) (by omega) (by exact h135.2.2.2.2.2.1) (by exact h135.2.2.2.1)
      refine j_aload_n C 0 0 dX12_goesIn_22 rfl rfl ?_
      refine y_getI C 11 _ _ fX12_goesIn_126 rfl rfl ft_11_11 sb_11_11 hM133 dX12_goesIn_23 (fun a136 ea136 la136 ua136 => ?_)
      obtain rfl : a136 = (M133.1 98 11).toInt := ea136
      refine y_if_ne C 33 dX12_goesIn_26 (by decide) (by exact ⟨la136, ua136⟩) (fun h138 => ?_) (fun h138 => ?_)
      · refine y_iconst C dX12_goesIn_33 ?_
        exact hret _ _ _ _ dX12_goesIn_34 ⟨0, rfl, hM133, ((FR.rf.tr fM120 (by decide)).tr fM133 (by decide)), by omega⟩
      · refine y_iconst C dX12_goesIn_29 ?_
        refine j_goto C 34 dX12_goesIn_30 (by decide) ?_
        exact hret _ _ _ _ dX12_goesIn_34 ⟨1, rfl, hM133, ((FR.rf.tr fM120 (by decide)).tr fM133 (by decide)), by omega⟩
set_option maxHeartbeats 4000000 in
theorem s3_X12_goesIn {l : Launch} {dC : Nat → ClassId} {dI : Nat → Nat → Nat} {ad : Nat → Nat} {cA : Nat → ClassId} {pr : Nat → Nat → Bool} {Kz : mm_M} {M0 : mm_M} (hM0 : INV pr Kz M0) (hpr : PM pr) (gf : Nat → Int) (gn : Int) (gi : Int) (hp0 : b01 (RIP M0) = 1) (hp1 : ¬ tkF gf gn (M0.1 98 6).toInt = 3000) (hp2 : ¬ tkF gf gn (M0.1 98 6).toInt = 3001) (hp3 : (M0.1 98 11).toInt = 0) (hp4 : b01 (TKM gf gn M0) = 1) (hp5 : b01 (PO gn gi (M0.1 98 11).toInt (M0.1 98 6).toInt) = 1) (hp6 : b01 (PI M0) = 1) : Ci l 6 yX12_goesIn wsX12_goesIn dC dI ad cA [.ref (ad 98), .int (sI 2)] M0 (fun r M' => ∃ a : Int, r = sI a ∧ INV pr Kz M' ∧ FR [98] M0 M' ∧ 1 ≤ a ∧ a ≤ 1 ∧ (b01 (RIP M') = 1) ∧ ((M'.1 98 8).toInt = (M0.1 98 8).toInt) ∧ ((M0.1 98 6).toInt ≤ (M'.1 98 6).toInt) ∧ (a = 0 ∧ ¬ (M'.1 98 11).toInt = 0 ∨ a = 1 ∧ (M'.1 98 11).toInt = 0 ∧ (M0.1 98 11).toInt = 0 ∧ (M0.1 98 7).toInt ≤ (M'.1 98 6).toInt) ∧ (a = 1 ∧ (M'.1 98 11).toInt = 0 ∧ (M'.1 98 12).toInt = (M0.1 98 12).toInt ∧ b01 (PO gn (nxF gf gn gi) (M'.1 98 11).toInt (M'.1 98 6).toInt) = 1) ∧ (b01 (PI M') = 1) ∧ (b01 (TKM gf gn M') = 1)) := by
  refine ci_of (cc := cX12_goesIn) (maxL := 2) (ty := .boolean) (lv := [(0, .ref (ad 98)), (1, .int (sI 2))]) (by decide) rfl (fun r M' hp => by obtain ⟨a, rfl, -, h⟩ := hp; rcases (show a = 0 ∨ a = 1 by omega) with rfl | rfl <;> rfl) (Nat.le_of_ble_eq_true rfl) rfl ?_
  intro p e s m args below meth c A Q C hret
  have u101l := ri_l (M := M0) (by exact hp0)
  refine j_iload_n C 1 1 dX12_goesIn_0 rfl rfl ?_
  refine y_bipush C dX12_goesIn_1 rfl ?_
  refine y_icmp_ne C 11 dX12_goesIn_3 (by decide) (by exact ⟨⟨(by decide), (by decide)⟩, ⟨(by decide), (by decide)⟩⟩) (fun h102 => ?_) (fun h102 => ?_)
  · have u103l := ri_l (M := M0) (by exact hp0)
    refine j_aload_n C 0 0 dX12_goesIn_11 rfl rfl ?_
    refine y_getI C 11 _ _ fX12_goesIn_126 rfl rfl ft_11_11 sb_11_11 hM0 dX12_goesIn_12 (fun a104 ea104 la104 ua104 => ?_)
    obtain rfl : a104 = (M0.1 98 11).toInt := ea104
    refine y_if_ne C 22 dX12_goesIn_15 (by decide) (by exact ⟨la104, ua104⟩) (fun h106 => ?_) (fun h106 => ?_)
    · refine j_aload_n C 0 0 dX12_goesIn_22 rfl rfl ?_
      refine y_getI C 11 _ _ fX12_goesIn_126 rfl rfl ft_11_11 sb_11_11 hM0 dX12_goesIn_23 (fun a107 ea107 la107 ua107 => ?_)
      obtain rfl : a107 = (M0.1 98 11).toInt := ea107
      refine y_if_ne C 33 dX12_goesIn_26 (by decide) (by exact ⟨la104, ua104⟩) (fun h109 => ?_) (fun h109 => ?_)
      · refine y_iconst C dX12_goesIn_33 ?_
        exact hret _ _ _ _ dX12_goesIn_34 ⟨0, rfl, hM0, FR.rf, by (clear ua107 la107 h106 ua104 la104 u103l h102 u101l hret C hp5 hp2 hp1 hpr hM0; omega)⟩
      · exfalso; omega
    · refine j_aload_n C 0 0 dX12_goesIn_18 rfl rfl ?_
      have k110 := tkm_p (f := gf) (n := gn) (M := M0) (by exact hp4)
      have k111 := tkm_K (f := gf) (n := gn) (M := M0) (by exact hp4)
      refine j_callVv C (d := 5) (As := []) (st := []) 98 (s_lt rfl rfl) (s_kc (c := 11) rfl rfl) (by decide) rfl (s1_X12_next hM0 hpr gf gn (by exact u101l.2.2.1) (by exact u101l.2.2.2) (by exact k110) (by exact hp6)) gX12_goesIn_X12_next rfl hdX12_next (by decide) (Nat.le_of_ble_eq_true rfl) dX12_goesIn_19 rfl (fun M113 h114 => ?_)
      obtain ⟨hM113, fM113, h115⟩ := h114
      have bM113 := tkm_b (f := gf) (n := gn) (M := M113) (by exact h115.2.2.2.2.1)
      have qM113 := nx_po (f := gf) (n := gn) (i := gi) (M := M0) (M' := M113) (by exact hp4) (by exact hp5) (by exact hp2) (by exact h115.2.2.2.2.2.1) (by exact h115.2.2.2.1)
      refine j_aload_n C 0 0 dX12_goesIn_22 rfl rfl ?_
      refine y_getI C 11 _ _ fX12_goesIn_126 rfl rfl ft_11_11 sb_11_11 hM113 dX12_goesIn_23 (fun a116 ea116 la116 ua116 => ?_)
      obtain rfl : a116 = (M113.1 98 11).toInt := ea116
      refine y_if_ne C 33 dX12_goesIn_26 (by decide) (by exact ⟨la116, ua116⟩) (fun h118 => ?_) (fun h118 => ?_)
      · refine y_iconst C dX12_goesIn_33 ?_
        exact hret _ _ _ _ dX12_goesIn_34 ⟨0, rfl, hM113, (FR.rf.tr fM113 (by decide)), by exact ⟨(by (clear ua116 la116 bM113 fM113 hM113 k111 k110 h106 ua104 la104 u103l h102 hret C hp6 hp5 hp4 hp2 hp1 hp0 hpr hM0; omega)), ⟨(by decide), ⟨h115.1, ⟨h115.2.1, ⟨(by (clear ua116 la116 bM113 fM113 hM113 k111 k110 h106 ua104 la104 u103l h102 hret C hp6 hp5 hp4 hp2 hp1 hp0 hpr hM0; omega)), ⟨(by (clear ua116 la116 bM113 fM113 hM113 k111 k110 h106 ua104 la104 u103l h102 hret C hp6 hp5 hp4 hp2 hp1 hp0 hpr hM0; omega)), ⟨⟨(by (clear ua116 la116 bM113 fM113 hM113 k111 k110 h106 ua104 la104 u103l h102 hret C hp6 hp5 hp4 hp2 hp1 hp0 hpr hM0; omega)), ⟨(by (clear ua116 la116 bM113 fM113 hM113 k111 k110 h106 ua104 la104 u103l h102 hret C hp6 hp5 hp4 hp2 hp1 hp0 hpr hM0; omega)), ⟨h115.2.2.2.2.2.2.1, qM113⟩⟩⟩, ⟨h115.2.2.2.2.2.2.2, h115.2.2.2.2.1⟩⟩⟩⟩⟩⟩⟩⟩⟩
      · refine y_iconst C dX12_goesIn_29 ?_
        refine j_goto C 34 dX12_goesIn_30 (by decide) ?_
        exact hret _ _ _ _ dX12_goesIn_34 ⟨1, rfl, hM113, (FR.rf.tr fM113 (by decide)), by (clear h118 ua116 la116 bM113 fM113 hM113 k111 k110 h106 ua104 la104 u103l h102 hret C hp6 hp5 hp4 hp2 hp1 hp0 hpr hM0; omega)⟩
  · refine j_aload_n C 0 0 dX12_goesIn_6 rfl rfl ?_
    refine y_iconst C dX12_goesIn_7 ?_
    refine j_callVv C (d := 0) (As := [.int (sI 4)]) (st := []) 98 (s_lt rfl rfl) (s_kc (c := 11) rfl rfl) (by decide) rfl (s1_X12_fails hM0 hpr 4 (by exact ⟨(by decide), (by decide)⟩) gf gn gi (by exact hp0) (by exact ⟨(by decide), (by decide)⟩) (by exact hp4) (by exact hp5) (by exact hp6)) gX12_goesIn_X12_fails rfl hdX12_fails (by decide) (Nat.le_of_ble_eq_true rfl) dX12_goesIn_8 rfl (fun M120 h121 => ?_)
    obtain ⟨hM120, fM120, h122⟩ := h121
    have bM120 := tkm_b (f := gf) (n := gn) (M := M120) (by exact h122.2.2.2.2.1)
    have qM120 := po_f gn ((faQ gf gn 4) gi).2.2 (M120.1 98 11).toInt (M120.1 98 6).toInt (by exact h122.1)
    have u123l := ri_l (M := M120) (by exact h122.2.2.1)
    refine j_aload_n C 0 0 dX12_goesIn_11 rfl rfl ?_
    refine y_getI C 11 _ _ fX12_goesIn_126 rfl rfl ft_11_11 sb_11_11 hM120 dX12_goesIn_12 (fun a124 ea124 la124 ua124 => ?_)
    obtain rfl : a124 = (M120.1 98 11).toInt := ea124
    refine y_if_ne C 22 dX12_goesIn_15 (by decide) (by exact ⟨la124, ua124⟩) (fun h126 => ?_) (fun h126 => ?_)
    · refine j_aload_n C 0 0 dX12_goesIn_22 rfl rfl ?_
      refine y_getI C 11 _ _ fX12_goesIn_126 rfl rfl ft_11_11 sb_11_11 hM120 dX12_goesIn_23 (fun a127 ea127 la127 ua127 => ?_)
      obtain rfl : a127 = (M120.1 98 11).toInt := ea127
      refine y_if_ne C 33 dX12_goesIn_26 (by decide) (by exact ⟨la124, ua124⟩) (fun h129 => ?_) (fun h129 => ?_)
      · refine y_iconst C dX12_goesIn_33 ?_
        exact hret _ _ _ _ dX12_goesIn_34 ⟨0, rfl, hM120, (FR.rf.tr fM120 (by decide)), by omega⟩
      · exfalso; omega
    · refine j_aload_n C 0 0 dX12_goesIn_18 rfl rfl ?_
      have k130 := tkm_p (f := gf) (n := gn) (M := M120) (by exact h122.2.2.2.2.1)
      have k131 := tkm_K (f := gf) (n := gn) (M := M120) (by exact h122.2.2.2.2.1)
      refine j_callVv C (d := 5) (As := []) (st := []) 98 (s_lt rfl rfl) (s_kc (c := 11) rfl rfl) (by decide) rfl (s1_X12_next hM120 hpr gf gn (by exact u123l.2.2.1) (by exact u123l.2.2.2) (by exact k130) (by exact h122.2.2.2.1)) gX12_goesIn_X12_next rfl hdX12_next (by decide) (Nat.le_of_ble_eq_true rfl) dX12_goesIn_19 rfl (fun M133 h134 => ?_)
      obtain ⟨hM133, fM133, h135⟩ := h134
      have bM133 := tkm_b (f := gf) (n := gn) (M := M133) (by exact h135.2.2.2.2.1)
      have qM133 := nx_po (f := gf) (n := gn) (i := ((faQ gf gn 4) gi).2.2) (M := M120) (M' := M133) (by exact h122.2.2.2.2.1) (by exact qM120) (by omega) (by exact h135.2.2.2.2.2.1) (by exact h135.2.2.2.1)
      refine j_aload_n C 0 0 dX12_goesIn_22 rfl rfl ?_
      refine y_getI C 11 _ _ fX12_goesIn_126 rfl rfl ft_11_11 sb_11_11 hM133 dX12_goesIn_23 (fun a136 ea136 la136 ua136 => ?_)
      obtain rfl : a136 = (M133.1 98 11).toInt := ea136
      refine y_if_ne C 33 dX12_goesIn_26 (by decide) (by exact ⟨la136, ua136⟩) (fun h138 => ?_) (fun h138 => ?_)
      · refine y_iconst C dX12_goesIn_33 ?_
        exact hret _ _ _ _ dX12_goesIn_34 ⟨0, rfl, hM133, ((FR.rf.tr fM120 (by decide)).tr fM133 (by decide)), by omega⟩
      · refine y_iconst C dX12_goesIn_29 ?_
        refine j_goto C 34 dX12_goesIn_30 (by decide) ?_
        exact hret _ _ _ _ dX12_goesIn_34 ⟨1, rfl, hM133, ((FR.rf.tr fM120 (by decide)).tr fM133 (by decide)), by omega⟩
set_option maxHeartbeats 4000000 in
theorem s4_X12_goesIn {l : Launch} {dC : Nat → ClassId} {dI : Nat → Nat → Nat} {ad : Nat → Nat} {cA : Nat → ClassId} {pr : Nat → Nat → Bool} {Kz : mm_M} {M0 : mm_M} (hM0 : INV pr Kz M0) (hpr : PM pr) (gf : Nat → Int) (gn : Int) (gi : Int) (hp0 : b01 (RIP M0) = 1) (hp1 : ¬ tkF gf gn (M0.1 98 6).toInt = 3000) (hp2 : ¬ tkF gf gn (M0.1 98 6).toInt = 3001) (hp3 : (M0.1 98 11).toInt = 0) (hp4 : b01 (TKM gf gn M0) = 1) (hp5 : b01 (PO gn gi (M0.1 98 11).toInt (M0.1 98 6).toInt) = 1) (hp6 : b01 (PI M0) = 1) : Ci l 6 yX12_goesIn wsX12_goesIn dC dI ad cA [.ref (ad 98), .int (sI 3)] M0 (fun r M' => ∃ a : Int, r = sI a ∧ INV pr Kz M' ∧ FR [98] M0 M' ∧ 1 ≤ a ∧ a ≤ 1 ∧ (b01 (RIP M') = 1) ∧ ((M'.1 98 8).toInt = (M0.1 98 8).toInt) ∧ ((M0.1 98 6).toInt ≤ (M'.1 98 6).toInt) ∧ (a = 0 ∧ ¬ (M'.1 98 11).toInt = 0 ∨ a = 1 ∧ (M'.1 98 11).toInt = 0 ∧ (M0.1 98 11).toInt = 0 ∧ (M0.1 98 7).toInt ≤ (M'.1 98 6).toInt) ∧ (a = 1 ∧ (M'.1 98 11).toInt = 0 ∧ (M'.1 98 12).toInt = (M0.1 98 12).toInt ∧ b01 (PO gn (nxF gf gn gi) (M'.1 98 11).toInt (M'.1 98 6).toInt) = 1) ∧ (b01 (PI M') = 1) ∧ (b01 (TKM gf gn M') = 1)) := by
  refine ci_of (cc := cX12_goesIn) (maxL := 2) (ty := .boolean) (lv := [(0, .ref (ad 98)), (1, .int (sI 3))]) (by decide) rfl (fun r M' hp => by obtain ⟨a, rfl, -, h⟩ := hp; rcases (show a = 0 ∨ a = 1 by omega) with rfl | rfl <;> rfl) (Nat.le_of_ble_eq_true rfl) rfl ?_
  intro p e s m args below meth c A Q C hret
  have u101l := ri_l (M := M0) (by exact hp0)
  refine j_iload_n C 1 1 dX12_goesIn_0 rfl rfl ?_
  refine y_bipush C dX12_goesIn_1 rfl ?_
  refine y_icmp_ne C 11 dX12_goesIn_3 (by decide) (by exact ⟨⟨(by decide), (by decide)⟩, ⟨(by decide), (by decide)⟩⟩) (fun h102 => ?_) (fun h102 => ?_)
  · have u103l := ri_l (M := M0) (by exact hp0)
    refine j_aload_n C 0 0 dX12_goesIn_11 rfl rfl ?_
    refine y_getI C 11 _ _ fX12_goesIn_126 rfl rfl ft_11_11 sb_11_11 hM0 dX12_goesIn_12 (fun a104 ea104 la104 ua104 => ?_)
    obtain rfl : a104 = (M0.1 98 11).toInt := ea104
    refine y_if_ne C 22 dX12_goesIn_15 (by decide) (by exact ⟨la104, ua104⟩) (fun h106 => ?_) (fun h106 => ?_)
    · refine j_aload_n C 0 0 dX12_goesIn_22 rfl rfl ?_
      refine y_getI C 11 _ _ fX12_goesIn_126 rfl rfl ft_11_11 sb_11_11 hM0 dX12_goesIn_23 (fun a107 ea107 la107 ua107 => ?_)
      obtain rfl : a107 = (M0.1 98 11).toInt := ea107
      refine y_if_ne C 33 dX12_goesIn_26 (by decide) (by exact ⟨la104, ua104⟩) (fun h109 => ?_) (fun h109 => ?_)
      · refine y_iconst C dX12_goesIn_33 ?_
        exact hret _ _ _ _ dX12_goesIn_34 ⟨0, rfl, hM0, FR.rf, by (clear ua107 la107 h106 ua104 la104 u103l h102 u101l hret C hp5 hp2 hp1 hpr hM0; omega)⟩
      · exfalso; omega
    · refine j_aload_n C 0 0 dX12_goesIn_18 rfl rfl ?_
      have k110 := tkm_p (f := gf) (n := gn) (M := M0) (by exact hp4)
      have k111 := tkm_K (f := gf) (n := gn) (M := M0) (by exact hp4)
      refine j_callVv C (d := 5) (As := []) (st := []) 98 (s_lt rfl rfl) (s_kc (c := 11) rfl rfl) (by decide) rfl (s1_X12_next hM0 hpr gf gn (by exact u101l.2.2.1) (by exact u101l.2.2.2) (by exact k110) (by exact hp6)) gX12_goesIn_X12_next rfl hdX12_next (by decide) (Nat.le_of_ble_eq_true rfl) dX12_goesIn_19 rfl (fun M113 h114 => ?_)
      obtain ⟨hM113, fM113, h115⟩ := h114
      have bM113 := tkm_b (f := gf) (n := gn) (M := M113) (by exact h115.2.2.2.2.1)
      have qM113 := nx_po (f := gf) (n := gn) (i := gi) (M := M0) (M' := M113) (by exact hp4) (by exact hp5) (by exact hp2) (by exact h115.2.2.2.2.2.1) (by exact h115.2.2.2.1)
      refine j_aload_n C 0 0 dX12_goesIn_22 rfl rfl ?_
      refine y_getI C 11 _ _ fX12_goesIn_126 rfl rfl ft_11_11 sb_11_11 hM113 dX12_goesIn_23 (fun a116 ea116 la116 ua116 => ?_)
      obtain rfl : a116 = (M113.1 98 11).toInt := ea116
      refine y_if_ne C 33 dX12_goesIn_26 (by decide) (by exact ⟨la116, ua116⟩) (fun h118 => ?_) (fun h118 => ?_)
      · refine y_iconst C dX12_goesIn_33 ?_
        exact hret _ _ _ _ dX12_goesIn_34 ⟨0, rfl, hM113, (FR.rf.tr fM113 (by decide)), by exact ⟨(by (clear ua116 la116 bM113 fM113 hM113 k111 k110 h106 ua104 la104 u103l h102 hret C hp6 hp5 hp4 hp2 hp1 hp0 hpr hM0; omega)), ⟨(by decide), ⟨h115.1, ⟨h115.2.1, ⟨(by (clear ua116 la116 bM113 fM113 hM113 k111 k110 h106 ua104 la104 u103l h102 hret C hp6 hp5 hp4 hp2 hp1 hp0 hpr hM0; omega)), ⟨(by (clear ua116 la116 bM113 fM113 hM113 k111 k110 h106 ua104 la104 u103l h102 hret C hp6 hp5 hp4 hp2 hp1 hp0 hpr hM0; omega)), ⟨⟨(by (clear ua116 la116 bM113 fM113 hM113 k111 k110 h106 ua104 la104 u103l h102 hret C hp6 hp5 hp4 hp2 hp1 hp0 hpr hM0; omega)), ⟨(by (clear ua116 la116 bM113 fM113 hM113 k111 k110 h106 ua104 la104 u103l h102 hret C hp6 hp5 hp4 hp2 hp1 hp0 hpr hM0; omega)), ⟨h115.2.2.2.2.2.2.1, qM113⟩⟩⟩, ⟨h115.2.2.2.2.2.2.2, h115.2.2.2.2.1⟩⟩⟩⟩⟩⟩⟩⟩⟩
      · refine y_iconst C dX12_goesIn_29 ?_
        refine j_goto C 34 dX12_goesIn_30 (by decide) ?_
        exact hret _ _ _ _ dX12_goesIn_34 ⟨1, rfl, hM113, (FR.rf.tr fM113 (by decide)), by (clear h118 ua116 la116 bM113 fM113 hM113 k111 k110 h106 ua104 la104 u103l h102 hret C hp6 hp5 hp4 hp2 hp1 hp0 hpr hM0; omega)⟩
  · refine j_aload_n C 0 0 dX12_goesIn_6 rfl rfl ?_
    refine y_iconst C dX12_goesIn_7 ?_
    refine j_callVv C (d := 0) (As := [.int (sI 4)]) (st := []) 98 (s_lt rfl rfl) (s_kc (c := 11) rfl rfl) (by decide) rfl (s1_X12_fails hM0 hpr 4 (by exact ⟨(by decide), (by decide)⟩) gf gn gi (by exact hp0) (by exact ⟨(by decide), (by decide)⟩) (by exact hp4) (by exact hp5) (by exact hp6)) gX12_goesIn_X12_fails rfl hdX12_fails (by decide) (Nat.le_of_ble_eq_true rfl) dX12_goesIn_8 rfl (fun M120 h121 => ?_)
    obtain ⟨hM120, fM120, h122⟩ := h121
    have bM120 := tkm_b (f := gf) (n := gn) (M := M120) (by exact h122.2.2.2.2.1)
    have qM120 := po_f gn ((faQ gf gn 4) gi).2.2 (M120.1 98 11).toInt (M120.1 98 6).toInt (by exact h122.1)
    have u123l := ri_l (M := M120) (by exact h122.2.2.1)
    refine j_aload_n C 0 0 dX12_goesIn_11 rfl rfl ?_
    refine y_getI C 11 _ _ fX12_goesIn_126 rfl rfl ft_11_11 sb_11_11 hM120 dX12_goesIn_12 (fun a124 ea124 la124 ua124 => ?_)
    obtain rfl : a124 = (M120.1 98 11).toInt := ea124
    refine y_if_ne C 22 dX12_goesIn_15 (by decide) (by exact ⟨la124, ua124⟩) (fun h126 => ?_) (fun h126 => ?_)
    · refine j_aload_n C 0 0 dX12_goesIn_22 rfl rfl ?_
      refine y_getI C 11 _ _ fX12_goesIn_126 rfl rfl ft_11_11 sb_11_11 hM120 dX12_goesIn_23 (fun a127 ea127 la127 ua127 => ?_)
      obtain rfl : a127 = (M120.1 98 11).toInt := ea127
      refine y_if_ne C 33 dX12_goesIn_26 (by decide) (by exact ⟨la124, ua124⟩) (fun h129 => ?_) (fun h129 => ?_)
      · refine y_iconst C dX12_goesIn_33 ?_
        exact hret _ _ _ _ dX12_goesIn_34 ⟨0, rfl, hM120, (FR.rf.tr fM120 (by decide)), by omega⟩
      · exfalso; omega
    · refine j_aload_n C 0 0 dX12_goesIn_18 rfl rfl ?_
      have k130 := tkm_p (f := gf) (n := gn) (M := M120) (by exact h122.2.2.2.2.1)
      have k131 := tkm_K (f := gf) (n := gn) (M := M120) (by exact h122.2.2.2.2.1)
      refine j_callVv C (d := 5) (As := []) (st := []) 98 (s_lt rfl rfl) (s_kc (c := 11) rfl rfl) (by decide) rfl (s1_X12_next hM120 hpr gf gn (by exact u123l.2.2.1) (by exact u123l.2.2.2) (by exact k130) (by exact h122.2.2.2.1)) gX12_goesIn_X12_next rfl hdX12_next (by decide) (Nat.le_of_ble_eq_true rfl) dX12_goesIn_19 rfl (fun M133 h134 => ?_)
      obtain ⟨hM133, fM133, h135⟩ := h134
      have bM133 := tkm_b (f := gf) (n := gn) (M := M133) (by exact h135.2.2.2.2.1)
      have qM133 := nx_po (f := gf) (n := gn) (i := ((faQ gf gn 4) gi).2.2) (M := M120) (M' := M133) (by exact h122.2.2.2.2.1) (by exact qM120) (by omega) (by exact h135.2.2.2.2.2.1) (by exact h135.2.2.2.1)
      refine j_aload_n C 0 0 dX12_goesIn_22 rfl rfl ?_
      refine y_getI C 11 _ _ fX12_goesIn_126 rfl rfl ft_11_11 sb_11_11 hM133 dX12_goesIn_23 (fun a136 ea136 la136 ua136 => ?_)
      obtain rfl : a136 = (M133.1 98 11).toInt := ea136
      refine y_if_ne C 33 dX12_goesIn_26 (by decide) (by exact ⟨la136, ua136⟩) (fun h138 => ?_) (fun h138 => ?_)
      · refine y_iconst C dX12_goesIn_33 ?_
        exact hret _ _ _ _ dX12_goesIn_34 ⟨0, rfl, hM133, ((FR.rf.tr fM120 (by decide)).tr fM133 (by decide)), by omega⟩
      · refine y_iconst C dX12_goesIn_29 ?_
        refine j_goto C 34 dX12_goesIn_30 (by decide) ?_
        exact hret _ _ _ _ dX12_goesIn_34 ⟨1, rfl, hM133, ((FR.rf.tr fM120 (by decide)).tr fM133 (by decide)), by omega⟩
set_option maxHeartbeats 4000000 in
theorem s5_X12_goesIn {l : Launch} {dC : Nat → ClassId} {dI : Nat → Nat → Nat} {ad : Nat → Nat} {cA : Nat → ClassId} {pr : Nat → Nat → Bool} {Kz : mm_M} {M0 : mm_M} (hM0 : INV pr Kz M0) (hpr : PM pr) (gf : Nat → Int) (gn : Int) (gi : Int) (hp0 : b01 (RIP M0) = 1) (hp1 : ¬ tkF gf gn (M0.1 98 6).toInt = 3000) (hp2 : ¬ tkF gf gn (M0.1 98 6).toInt = 3001) (hp3 : (M0.1 98 11).toInt = 0) (hp4 : b01 (TKM gf gn M0) = 1) (hp5 : b01 (PO gn gi (M0.1 98 11).toInt (M0.1 98 6).toInt) = 1) (hp6 : b01 (PI M0) = 1) : Ci l 6 yX12_goesIn wsX12_goesIn dC dI ad cA [.ref (ad 98), .int (sI 4)] M0 (fun r M' => ∃ a : Int, r = sI a ∧ INV pr Kz M' ∧ FR [98] M0 M' ∧ 1 ≤ a ∧ a ≤ 1 ∧ (b01 (RIP M') = 1) ∧ ((M'.1 98 8).toInt = (M0.1 98 8).toInt) ∧ ((M0.1 98 6).toInt ≤ (M'.1 98 6).toInt) ∧ (a = 0 ∧ ¬ (M'.1 98 11).toInt = 0 ∨ a = 1 ∧ (M'.1 98 11).toInt = 0 ∧ (M0.1 98 11).toInt = 0 ∧ (M0.1 98 7).toInt ≤ (M'.1 98 6).toInt) ∧ (a = 1 ∧ (M'.1 98 11).toInt = 0 ∧ (M'.1 98 12).toInt = (M0.1 98 12).toInt ∧ b01 (PO gn (nxF gf gn gi) (M'.1 98 11).toInt (M'.1 98 6).toInt) = 1) ∧ (b01 (PI M') = 1) ∧ (b01 (TKM gf gn M') = 1)) := by
  refine ci_of (cc := cX12_goesIn) (maxL := 2) (ty := .boolean) (lv := [(0, .ref (ad 98)), (1, .int (sI 4))]) (by decide) rfl (fun r M' hp => by obtain ⟨a, rfl, -, h⟩ := hp; rcases (show a = 0 ∨ a = 1 by omega) with rfl | rfl <;> rfl) (Nat.le_of_ble_eq_true rfl) rfl ?_
  intro p e s m args below meth c A Q C hret
  have u101l := ri_l (M := M0) (by exact hp0)
  refine j_iload_n C 1 1 dX12_goesIn_0 rfl rfl ?_
  refine y_bipush C dX12_goesIn_1 rfl ?_
  refine y_icmp_ne C 11 dX12_goesIn_3 (by decide) (by exact ⟨⟨(by decide), (by decide)⟩, ⟨(by decide), (by decide)⟩⟩) (fun h102 => ?_) (fun h102 => ?_)
  · have u103l := ri_l (M := M0) (by exact hp0)
    refine j_aload_n C 0 0 dX12_goesIn_11 rfl rfl ?_
    refine y_getI C 11 _ _ fX12_goesIn_126 rfl rfl ft_11_11 sb_11_11 hM0 dX12_goesIn_12 (fun a104 ea104 la104 ua104 => ?_)
    obtain rfl : a104 = (M0.1 98 11).toInt := ea104
    refine y_if_ne C 22 dX12_goesIn_15 (by decide) (by exact ⟨la104, ua104⟩) (fun h106 => ?_) (fun h106 => ?_)
    · refine j_aload_n C 0 0 dX12_goesIn_22 rfl rfl ?_
      refine y_getI C 11 _ _ fX12_goesIn_126 rfl rfl ft_11_11 sb_11_11 hM0 dX12_goesIn_23 (fun a107 ea107 la107 ua107 => ?_)
      obtain rfl : a107 = (M0.1 98 11).toInt := ea107
      refine y_if_ne C 33 dX12_goesIn_26 (by decide) (by exact ⟨la104, ua104⟩) (fun h109 => ?_) (fun h109 => ?_)
      · refine y_iconst C dX12_goesIn_33 ?_
        exact hret _ _ _ _ dX12_goesIn_34 ⟨0, rfl, hM0, FR.rf, by (clear ua107 la107 h106 ua104 la104 u103l h102 u101l hret C hp5 hp2 hp1 hpr hM0; omega)⟩
      · exfalso; omega
    · refine j_aload_n C 0 0 dX12_goesIn_18 rfl rfl ?_
      have k110 := tkm_p (f := gf) (n := gn) (M := M0) (by exact hp4)
      have k111 := tkm_K (f := gf) (n := gn) (M := M0) (by exact hp4)
      refine j_callVv C (d := 5) (As := []) (st := []) 98 (s_lt rfl rfl) (s_kc (c := 11) rfl rfl) (by decide) rfl (s1_X12_next hM0 hpr gf gn (by exact u101l.2.2.1) (by exact u101l.2.2.2) (by exact k110) (by exact hp6)) gX12_goesIn_X12_next rfl hdX12_next (by decide) (Nat.le_of_ble_eq_true rfl) dX12_goesIn_19 rfl (fun M113 h114 => ?_)
      obtain ⟨hM113, fM113, h115⟩ := h114
      have bM113 := tkm_b (f := gf) (n := gn) (M := M113) (by exact h115.2.2.2.2.1)
      have qM113 := nx_po (f := gf) (n := gn) (i := gi) (M := M0) (M' := M113) (by exact hp4) (by exact hp5) (by exact hp2) (by exact h115.2.2.2.2.2.1) (by exact h115.2.2.2.1)
      refine j_aload_n C 0 0 dX12_goesIn_22 rfl rfl ?_
      refine y_getI C 11 _ _ fX12_goesIn_126 rfl rfl ft_11_11 sb_11_11 hM113 dX12_goesIn_23 (fun a116 ea116 la116 ua116 => ?_)
      obtain rfl : a116 = (M113.1 98 11).toInt := ea116
      refine y_if_ne C 33 dX12_goesIn_26 (by decide) (by exact ⟨la116, ua116⟩) (fun h118 => ?_) (fun h118 => ?_)
      · refine y_iconst C dX12_goesIn_33 ?_
        exact hret _ _ _ _ dX12_goesIn_34 ⟨0, rfl, hM113, (FR.rf.tr fM113 (by decide)), by exact ⟨(by (clear ua116 la116 bM113 fM113 hM113 k111 k110 h106 ua104 la104 u103l h102 hret C hp6 hp5 hp4 hp2 hp1 hp0 hpr hM0; omega)), ⟨(by decide), ⟨h115.1, ⟨h115.2.1, ⟨(by (clear ua116 la116 bM113 fM113 hM113 k111 k110 h106 ua104 la104 u103l h102 hret C hp6 hp5 hp4 hp2 hp1 hp0 hpr hM0; omega)), ⟨(by (clear ua116 la116 bM113 fM113 hM113 k111 k110 h106 ua104 la104 u103l h102 hret C hp6 hp5 hp4 hp2 hp1 hp0 hpr hM0; omega)), ⟨⟨(by (clear ua116 la116 bM113 fM113 hM113 k111 k110 h106 ua104 la104 u103l h102 hret C hp6 hp5 hp4 hp2 hp1 hp0 hpr hM0; omega)), ⟨(by (clear ua116 la116 bM113 fM113 hM113 k111 k110 h106 ua104 la104 u103l h102 hret C hp6 hp5 hp4 hp2 hp1 hp0 hpr hM0; omega)), ⟨h115.2.2.2.2.2.2.1, qM113⟩⟩⟩, ⟨h115.2.2.2.2.2.2.2, h115.2.2.2.2.1⟩⟩⟩⟩⟩⟩⟩⟩⟩
      · refine y_iconst C dX12_goesIn_29 ?_
        refine j_goto C 34 dX12_goesIn_30 (by decide) ?_
        exact hret _ _ _ _ dX12_goesIn_34 ⟨1, rfl, hM113, (FR.rf.tr fM113 (by decide)), by (clear h118 ua116 la116 bM113 fM113 hM113 k111 k110 h106 ua104 la104 u103l h102 hret C hp6 hp5 hp4 hp2 hp1 hp0 hpr hM0; omega)⟩
  · refine j_aload_n C 0 0 dX12_goesIn_6 rfl rfl ?_
    refine y_iconst C dX12_goesIn_7 ?_
    refine j_callVv C (d := 0) (As := [.int (sI 4)]) (st := []) 98 (s_lt rfl rfl) (s_kc (c := 11) rfl rfl) (by decide) rfl (s1_X12_fails hM0 hpr 4 (by exact ⟨(by decide), (by decide)⟩) gf gn gi (by exact hp0) (by exact ⟨(by decide), (by decide)⟩) (by exact hp4) (by exact hp5) (by exact hp6)) gX12_goesIn_X12_fails rfl hdX12_fails (by decide) (Nat.le_of_ble_eq_true rfl) dX12_goesIn_8 rfl (fun M120 h121 => ?_)
    obtain ⟨hM120, fM120, h122⟩ := h121
    have bM120 := tkm_b (f := gf) (n := gn) (M := M120) (by exact h122.2.2.2.2.1)
    have qM120 := po_f gn ((faQ gf gn 4) gi).2.2 (M120.1 98 11).toInt (M120.1 98 6).toInt (by exact h122.1)
    have u123l := ri_l (M := M120) (by exact h122.2.2.1)
    refine j_aload_n C 0 0 dX12_goesIn_11 rfl rfl ?_
    refine y_getI C 11 _ _ fX12_goesIn_126 rfl rfl ft_11_11 sb_11_11 hM120 dX12_goesIn_12 (fun a124 ea124 la124 ua124 => ?_)
    obtain rfl : a124 = (M120.1 98 11).toInt := ea124
    refine y_if_ne C 22 dX12_goesIn_15 (by decide) (by exact ⟨la124, ua124⟩) (fun h126 => ?_) (fun h126 => ?_)
    · refine j_aload_n C 0 0 dX12_goesIn_22 rfl rfl ?_
      refine y_getI C 11 _ _ fX12_goesIn_126 rfl rfl ft_11_11 sb_11_11 hM120 dX12_goesIn_23 (fun a127 ea127 la127 ua127 => ?_)
      obtain rfl : a127 = (M120.1 98 11).toInt := ea127
      refine y_if_ne C 33 dX12_goesIn_26 (by decide) (by exact ⟨la124, ua124⟩) (fun h129 => ?_) (fun h129 => ?_)
      · refine y_iconst C dX12_goesIn_33 ?_
        exact hret _ _ _ _ dX12_goesIn_34 ⟨0, rfl, hM120, (FR.rf.tr fM120 (by decide)), by omega⟩
      · exfalso; omega
    · refine j_aload_n C 0 0 dX12_goesIn_18 rfl rfl ?_
      have k130 := tkm_p (f := gf) (n := gn) (M := M120) (by exact h122.2.2.2.2.1)
      have k131 := tkm_K (f := gf) (n := gn) (M := M120) (by exact h122.2.2.2.2.1)
      refine j_callVv C (d := 5) (As := []) (st := []) 98 (s_lt rfl rfl) (s_kc (c := 11) rfl rfl) (by decide) rfl (s1_X12_next hM120 hpr gf gn (by exact u123l.2.2.1) (by exact u123l.2.2.2) (by exact k130) (by exact h122.2.2.2.1)) gX12_goesIn_X12_next rfl hdX12_next (by decide) (Nat.le_of_ble_eq_true rfl) dX12_goesIn_19 rfl (fun M133 h134 => ?_)
      obtain ⟨hM133, fM133, h135⟩ := h134
      have bM133 := tkm_b (f := gf) (n := gn) (M := M133) (by exact h135.2.2.2.2.1)
      have qM133 := nx_po (f := gf) (n := gn) (i := ((faQ gf gn 4) gi).2.2) (M := M120) (M' := M133) (by exact h122.2.2.2.2.1) (by exact qM120) (by omega) (by exact h135.2.2.2.2.2.1) (by exact h135.2.2.2.1)
      refine j_aload_n C 0 0 dX12_goesIn_22 rfl rfl ?_
      refine y_getI C 11 _ _ fX12_goesIn_126 rfl rfl ft_11_11 sb_11_11 hM133 dX12_goesIn_23 (fun a136 ea136 la136 ua136 => ?_)
      obtain rfl : a136 = (M133.1 98 11).toInt := ea136
      refine y_if_ne C 33 dX12_goesIn_26 (by decide) (by exact ⟨la136, ua136⟩) (fun h138 => ?_) (fun h138 => ?_)
      · refine y_iconst C dX12_goesIn_33 ?_
        exact hret _ _ _ _ dX12_goesIn_34 ⟨0, rfl, hM133, ((FR.rf.tr fM120 (by decide)).tr fM133 (by decide)), by omega⟩
      · refine y_iconst C dX12_goesIn_29 ?_
        refine j_goto C 34 dX12_goesIn_30 (by decide) ?_
        exact hret _ _ _ _ dX12_goesIn_34 ⟨1, rfl, hM133, ((FR.rf.tr fM120 (by decide)).tr fM133 (by decide)), by omega⟩
set_option maxHeartbeats 4000000 in
theorem s6_X12_goesIn {l : Launch} {dC : Nat → ClassId} {dI : Nat → Nat → Nat} {ad : Nat → Nat} {cA : Nat → ClassId} {pr : Nat → Nat → Bool} {Kz : mm_M} {M0 : mm_M} (hM0 : INV pr Kz M0) (hpr : PM pr) (gf : Nat → Int) (gn : Int) (gi : Int) (hp0 : b01 (RIP M0) = 1) (hp1 : ¬ tkF gf gn (M0.1 98 6).toInt = 3000) (hp2 : ¬ tkF gf gn (M0.1 98 6).toInt = 3001) (hp3 : (M0.1 98 11).toInt = 0) (hp4 : b01 (TKM gf gn M0) = 1) (hp5 : b01 (PO gn gi (M0.1 98 11).toInt (M0.1 98 6).toInt) = 1) (hp6 : b01 (PI M0) = 1) : Ci l 6 yX12_goesIn wsX12_goesIn dC dI ad cA [.ref (ad 98), .int (sI 5)] M0 (fun r M' => ∃ a : Int, r = sI a ∧ INV pr Kz M' ∧ FR [98] M0 M' ∧ 1 ≤ a ∧ a ≤ 1 ∧ (b01 (RIP M') = 1) ∧ ((M'.1 98 8).toInt = (M0.1 98 8).toInt) ∧ ((M0.1 98 6).toInt ≤ (M'.1 98 6).toInt) ∧ (a = 0 ∧ ¬ (M'.1 98 11).toInt = 0 ∨ a = 1 ∧ (M'.1 98 11).toInt = 0 ∧ (M0.1 98 11).toInt = 0 ∧ (M0.1 98 7).toInt ≤ (M'.1 98 6).toInt) ∧ (a = 1 ∧ (M'.1 98 11).toInt = 0 ∧ (M'.1 98 12).toInt = (M0.1 98 12).toInt ∧ b01 (PO gn (nxF gf gn gi) (M'.1 98 11).toInt (M'.1 98 6).toInt) = 1) ∧ (b01 (PI M') = 1) ∧ (b01 (TKM gf gn M') = 1)) := by
  refine ci_of (cc := cX12_goesIn) (maxL := 2) (ty := .boolean) (lv := [(0, .ref (ad 98)), (1, .int (sI 5))]) (by decide) rfl (fun r M' hp => by obtain ⟨a, rfl, -, h⟩ := hp; rcases (show a = 0 ∨ a = 1 by omega) with rfl | rfl <;> rfl) (Nat.le_of_ble_eq_true rfl) rfl ?_
  intro p e s m args below meth c A Q C hret
  have u101l := ri_l (M := M0) (by exact hp0)
  refine j_iload_n C 1 1 dX12_goesIn_0 rfl rfl ?_
  refine y_bipush C dX12_goesIn_1 rfl ?_
  refine y_icmp_ne C 11 dX12_goesIn_3 (by decide) (by exact ⟨⟨(by decide), (by decide)⟩, ⟨(by decide), (by decide)⟩⟩) (fun h102 => ?_) (fun h102 => ?_)
  · have u103l := ri_l (M := M0) (by exact hp0)
    refine j_aload_n C 0 0 dX12_goesIn_11 rfl rfl ?_
    refine y_getI C 11 _ _ fX12_goesIn_126 rfl rfl ft_11_11 sb_11_11 hM0 dX12_goesIn_12 (fun a104 ea104 la104 ua104 => ?_)
    obtain rfl : a104 = (M0.1 98 11).toInt := ea104
    refine y_if_ne C 22 dX12_goesIn_15 (by decide) (by exact ⟨la104, ua104⟩) (fun h106 => ?_) (fun h106 => ?_)
    · refine j_aload_n C 0 0 dX12_goesIn_22 rfl rfl ?_
      refine y_getI C 11 _ _ fX12_goesIn_126 rfl rfl ft_11_11 sb_11_11 hM0 dX12_goesIn_23 (fun a107 ea107 la107 ua107 => ?_)
      obtain rfl : a107 = (M0.1 98 11).toInt := ea107
      refine y_if_ne C 33 dX12_goesIn_26 (by decide) (by exact ⟨la104, ua104⟩) (fun h109 => ?_) (fun h109 => ?_)
      · refine y_iconst C dX12_goesIn_33 ?_
        exact hret _ _ _ _ dX12_goesIn_34 ⟨0, rfl, hM0, FR.rf, by (clear ua107 la107 h106 ua104 la104 u103l h102 u101l hret C hp5 hp2 hp1 hpr hM0; omega)⟩
      · exfalso; omega
    · refine j_aload_n C 0 0 dX12_goesIn_18 rfl rfl ?_
      have k110 := tkm_p (f := gf) (n := gn) (M := M0) (by exact hp4)
      have k111 := tkm_K (f := gf) (n := gn) (M := M0) (by exact hp4)
      refine j_callVv C (d := 5) (As := []) (st := []) 98 (s_lt rfl rfl) (s_kc (c := 11) rfl rfl) (by decide) rfl (s1_X12_next hM0 hpr gf gn (by exact u101l.2.2.1) (by exact u101l.2.2.2) (by exact k110) (by exact hp6)) gX12_goesIn_X12_next rfl hdX12_next (by decide) (Nat.le_of_ble_eq_true rfl) dX12_goesIn_19 rfl (fun M113 h114 => ?_)
      obtain ⟨hM113, fM113, h115⟩ := h114
      have bM113 := tkm_b (f := gf) (n := gn) (M := M113) (by exact h115.2.2.2.2.1)
      have qM113 := nx_po (f := gf) (n := gn) (i := gi) (M := M0) (M' := M113) (by exact hp4) (by exact hp5) (by exact hp2) (by exact h115.2.2.2.2.2.1) (by exact h115.2.2.2.1)
      refine j_aload_n C 0 0 dX12_goesIn_22 rfl rfl ?_
      refine y_getI C 11 _ _ fX12_goesIn_126 rfl rfl ft_11_11 sb_11_11 hM113 dX12_goesIn_23 (fun a116 ea116 la116 ua116 => ?_)
      obtain rfl : a116 = (M113.1 98 11).toInt := ea116
      refine y_if_ne C 33 dX12_goesIn_26 (by decide) (by exact ⟨la116, ua116⟩) (fun h118 => ?_) (fun h118 => ?_)
      · refine y_iconst C dX12_goesIn_33 ?_
        exact hret _ _ _ _ dX12_goesIn_34 ⟨0, rfl, hM113, (FR.rf.tr fM113 (by decide)), by exact ⟨(by (clear ua116 la116 bM113 fM113 hM113 k111 k110 h106 ua104 la104 u103l h102 hret C hp6 hp5 hp4 hp2 hp1 hp0 hpr hM0; omega)), ⟨(by decide), ⟨h115.1, ⟨h115.2.1, ⟨(by (clear ua116 la116 bM113 fM113 hM113 k111 k110 h106 ua104 la104 u103l h102 hret C hp6 hp5 hp4 hp2 hp1 hp0 hpr hM0; omega)), ⟨(by (clear ua116 la116 bM113 fM113 hM113 k111 k110 h106 ua104 la104 u103l h102 hret C hp6 hp5 hp4 hp2 hp1 hp0 hpr hM0; omega)), ⟨⟨(by (clear ua116 la116 bM113 fM113 hM113 k111 k110 h106 ua104 la104 u103l h102 hret C hp6 hp5 hp4 hp2 hp1 hp0 hpr hM0; omega)), ⟨(by (clear ua116 la116 bM113 fM113 hM113 k111 k110 h106 ua104 la104 u103l h102 hret C hp6 hp5 hp4 hp2 hp1 hp0 hpr hM0; omega)), ⟨h115.2.2.2.2.2.2.1, qM113⟩⟩⟩, ⟨h115.2.2.2.2.2.2.2, h115.2.2.2.2.1⟩⟩⟩⟩⟩⟩⟩⟩⟩
      · refine y_iconst C dX12_goesIn_29 ?_
        refine j_goto C 34 dX12_goesIn_30 (by decide) ?_
        exact hret _ _ _ _ dX12_goesIn_34 ⟨1, rfl, hM113, (FR.rf.tr fM113 (by decide)), by (clear h118 ua116 la116 bM113 fM113 hM113 k111 k110 h106 ua104 la104 u103l h102 hret C hp6 hp5 hp4 hp2 hp1 hp0 hpr hM0; omega)⟩
  · refine j_aload_n C 0 0 dX12_goesIn_6 rfl rfl ?_
    refine y_iconst C dX12_goesIn_7 ?_
    refine j_callVv C (d := 0) (As := [.int (sI 4)]) (st := []) 98 (s_lt rfl rfl) (s_kc (c := 11) rfl rfl) (by decide) rfl (s1_X12_fails hM0 hpr 4 (by exact ⟨(by decide), (by decide)⟩) gf gn gi (by exact hp0) (by exact ⟨(by decide), (by decide)⟩) (by exact hp4) (by exact hp5) (by exact hp6)) gX12_goesIn_X12_fails rfl hdX12_fails (by decide) (Nat.le_of_ble_eq_true rfl) dX12_goesIn_8 rfl (fun M120 h121 => ?_)
    obtain ⟨hM120, fM120, h122⟩ := h121
    have bM120 := tkm_b (f := gf) (n := gn) (M := M120) (by exact h122.2.2.2.2.1)
    have qM120 := po_f gn ((faQ gf gn 4) gi).2.2 (M120.1 98 11).toInt (M120.1 98 6).toInt (by exact h122.1)
    have u123l := ri_l (M := M120) (by exact h122.2.2.1)
    refine j_aload_n C 0 0 dX12_goesIn_11 rfl rfl ?_
    refine y_getI C 11 _ _ fX12_goesIn_126 rfl rfl ft_11_11 sb_11_11 hM120 dX12_goesIn_12 (fun a124 ea124 la124 ua124 => ?_)
    obtain rfl : a124 = (M120.1 98 11).toInt := ea124
    refine y_if_ne C 22 dX12_goesIn_15 (by decide) (by exact ⟨la124, ua124⟩) (fun h126 => ?_) (fun h126 => ?_)
    · refine j_aload_n C 0 0 dX12_goesIn_22 rfl rfl ?_
      refine y_getI C 11 _ _ fX12_goesIn_126 rfl rfl ft_11_11 sb_11_11 hM120 dX12_goesIn_23 (fun a127 ea127 la127 ua127 => ?_)
      obtain rfl : a127 = (M120.1 98 11).toInt := ea127
      refine y_if_ne C 33 dX12_goesIn_26 (by decide) (by exact ⟨la124, ua124⟩) (fun h129 => ?_) (fun h129 => ?_)
      · refine y_iconst C dX12_goesIn_33 ?_
        exact hret _ _ _ _ dX12_goesIn_34 ⟨0, rfl, hM120, (FR.rf.tr fM120 (by decide)), by omega⟩
      · exfalso; omega
    · refine j_aload_n C 0 0 dX12_goesIn_18 rfl rfl ?_
      have k130 := tkm_p (f := gf) (n := gn) (M := M120) (by exact h122.2.2.2.2.1)
      have k131 := tkm_K (f := gf) (n := gn) (M := M120) (by exact h122.2.2.2.2.1)
      refine j_callVv C (d := 5) (As := []) (st := []) 98 (s_lt rfl rfl) (s_kc (c := 11) rfl rfl) (by decide) rfl (s1_X12_next hM120 hpr gf gn (by exact u123l.2.2.1) (by exact u123l.2.2.2) (by exact k130) (by exact h122.2.2.2.1)) gX12_goesIn_X12_next rfl hdX12_next (by decide) (Nat.le_of_ble_eq_true rfl) dX12_goesIn_19 rfl (fun M133 h134 => ?_)
      obtain ⟨hM133, fM133, h135⟩ := h134
      have bM133 := tkm_b (f := gf) (n := gn) (M := M133) (by exact h135.2.2.2.2.1)
      have qM133 := nx_po (f := gf) (n := gn) (i := ((faQ gf gn 4) gi).2.2) (M := M120) (M' := M133) (by exact h122.2.2.2.2.1) (by exact qM120) (by omega) (by exact h135.2.2.2.2.2.1) (by exact h135.2.2.2.1)
      refine j_aload_n C 0 0 dX12_goesIn_22 rfl rfl ?_
      refine y_getI C 11 _ _ fX12_goesIn_126 rfl rfl ft_11_11 sb_11_11 hM133 dX12_goesIn_23 (fun a136 ea136 la136 ua136 => ?_)
      obtain rfl : a136 = (M133.1 98 11).toInt := ea136
      refine y_if_ne C 33 dX12_goesIn_26 (by decide) (by exact ⟨la136, ua136⟩) (fun h138 => ?_) (fun h138 => ?_)
      · refine y_iconst C dX12_goesIn_33 ?_
        exact hret _ _ _ _ dX12_goesIn_34 ⟨0, rfl, hM133, ((FR.rf.tr fM120 (by decide)).tr fM133 (by decide)), by omega⟩
      · refine y_iconst C dX12_goesIn_29 ?_
        refine j_goto C 34 dX12_goesIn_30 (by decide) ?_
        exact hret _ _ _ _ dX12_goesIn_34 ⟨1, rfl, hM133, ((FR.rf.tr fM120 (by decide)).tr fM133 (by decide)), by omega⟩
