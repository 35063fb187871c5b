set_option maxHeartbeats 4000000 in
theorem s1_X12_within {l : Launch} {dC : Nat → ClassId} {dI : Nat → Nat → Nat} {ad : Nat → Nat} {cA : Nat → ClassId} {pr : Nat → Nat → Bool} {Kz : mm_M} {M0 : mm_M} (hM0 : INV pr Kz M0) (a0 : Int) (ha0 : -9223372036854775808 ≤ a0 ∧ a0 ≤ 9223372036854775807) (a2 : Int) (ha2 : -9223372036854775808 ≤ a2 ∧ a2 ≤ 9223372036854775807) (a4 : Int) (ha4 : -9223372036854775808 ≤ a4 ∧ a4 ≤ 9223372036854775807) : Ci l 0 yX12_within wsX12_within dC dI ad cA [.long (sJ a0), .long (sJ a2), .long (sJ a4)] M0 (fun r M' => ∃ a : Int, r = sI a ∧ M0 = M' ∧ 0 ≤ a ∧ a ≤ 1 ∧ ((a0 < a2 ∧ a = 0) ∨ (a2 ≤ a0 ∧ a4 < a0 ∧ a = 0) ∨ (a2 ≤ a0 ∧ a0 ≤ a4 ∧ a = 1))) := by
  refine ci_of (cc := cX12_within) (maxL := 6) (ty := .boolean) (lv := [(0, .long (sJ a0)), (2, .long (sJ a2)), (4, .long (sJ a4))]) (by decide) rfl (fun r M' hp => by obtain ⟨a, rfl, -, h⟩ := hp; rcases (show a = 0 ∨ a = 1 by omega) with rfl | rfl <;> rfl) (Nat.le_of_ble_eq_true rfl) rfl ?_
  intro p e s m args below meth c A Q C hret
  refine j_lload_n C 0 0 dX12_within_0 rfl rfl ?_
  refine j_lload_n C 1 2 dX12_within_1 rfl rfl ?_
  refine y_lcmp_lt C 17 dX12_within_2 dX12_within_3 (by decide) (by omega) (fun h101 => ?_) (fun h101 => ?_)
  · refine y_iconst C dX12_within_17 ?_
    exact hret _ _ _ _ dX12_within_18 ⟨0, rfl, rfl, by omega⟩
  · refine j_lload_n C 0 0 dX12_within_6 rfl rfl ?_
    refine j_lload C 2 dX12_within_7 rfl ?_
    refine y_lcmp_gt C 17 dX12_within_9 dX12_within_10 (by decide) (by omega) (fun h102 => ?_) (fun h102 => ?_)
    · refine y_iconst C dX12_within_17 ?_
      exact hret _ _ _ _ dX12_within_18 ⟨0, rfl, rfl, by omega⟩
    · refine y_iconst C dX12_within_13 ?_
      refine j_goto C 18 dX12_within_14 (by decide) ?_
      exact hret _ _ _ _ dX12_within_18 ⟨1, rfl, rfl, by omega⟩
set_option maxHeartbeats 4000000 in
theorem s1_X12_isBuyer {l : Launch} {dC : Nat → ClassId} {dI : Nat → Nat → Nat} {ad : Nat → Nat} {cA : Nat → ClassId} {pr : Nat → Nat → Bool} {Kz : mm_M} {M0 : mm_M} (hM0 : INV pr Kz M0) (a1 : Int) (ha1 : -9223372036854775808 ≤ a1 ∧ a1 ≤ 9223372036854775807) : Ci l 1 yX12_isBuyer wsX12_isBuyer dC dI ad cA [.ref (ad 98), .long (sJ a1)] M0 (fun r M' => ∃ a : Int, r = sI a ∧ M0 = M' ∧ 0 ≤ a ∧ a ≤ 1 ∧ ((0 ≤ a ∧ a ≤ 1))) := by
  refine ci_of (cc := cX12_isBuyer) (maxL := 3) (ty := .boolean) (lv := [(0, .ref (ad 98)), (1, .long (sJ a1))]) (by decide) rfl (fun r M' hp => by obtain ⟨a, rfl, -, h⟩ := hp; rcases (show a = 0 ∨ a = 1 by omega) with rfl | rfl <;> rfl) (Nat.le_of_ble_eq_true rfl) rfl ?_
  intro p e s m args below meth c A Q C hret
  refine j_lload_n C 1 1 dX12_isBuyer_0 rfl rfl ?_
  refine y_lconst C 0 dX12_isBuyer_1 rfl ?_
  refine j_aload_n C 0 0 dX12_isBuyer_2 rfl rfl ?_
  refine y_getC C 11 99 fX12_isBuyer_13 rfl rfl ft_11_1 sm_11_1 rfl hM0 dX12_isBuyer_3 ?_
  refine y_iconst C dX12_isBuyer_6 ?_
  refine y_ialdH C 45 3543 rfl rfl rfl ak_45 an_45 rfl _ _ hM0 (hr_45_1_1 _ (by omega) (by omega)) dX12_isBuyer_7 (by omega) (fun a101 ea101 la101 ua101 => ?_)
  refine y_iconst C dX12_isBuyer_8 ?_
  refine y_isub C dX12_isBuyer_9 ?_
  refine y_i2l C dX12_isBuyer_10 (by omega) ?_
  refine j_callSi C (d := 0) (As := [.long (sJ a1), .long (sJ 0), .long (sJ (a101 - 1))]) (st := []) (s1_X12_within hM0 a1 (by omega) 0 (by omega) (a101 - 1) (by omega)) gX12_isBuyer_X12_within rfl hdX12_withins (by decide) (Nat.le_of_ble_eq_true rfl) dX12_isBuyer_11 rfl (fun r102 M103 h104 => ?_)
  obtain ⟨a106, rfl, rfl, h105⟩ := h104
  exact hret _ _ _ _ dX12_isBuyer_14 ⟨a106, rfl, rfl, by omega⟩
set_option maxHeartbeats 4000000 in
theorem s1_X12_isKind {l : Launch} {dC : Nat → ClassId} {dI : Nat → Nat → Nat} {ad : Nat → Nat} {cA : Nat → ClassId} {pr : Nat → Nat → Bool} {Kz : mm_M} {M0 : mm_M} (hM0 : INV pr Kz M0) (a1 : Int) (ha1 : -9223372036854775808 ≤ a1 ∧ a1 ≤ 9223372036854775807) : Ci l 1 yX12_isKind wsX12_isKind dC dI ad cA [.ref (ad 98), .long (sJ a1)] M0 (fun r M' => ∃ a : Int, r = sI a ∧ M0 = M' ∧ 0 ≤ a ∧ a ≤ 1 ∧ ((0 ≤ a ∧ a ≤ 1))) := by
  refine ci_of (cc := cX12_isKind) (maxL := 3) (ty := .boolean) (lv := [(0, .ref (ad 98)), (1, .long (sJ a1))]) (by decide) rfl (fun r M' hp => by obtain ⟨a, rfl, -, h⟩ := hp; rcases (show a = 0 ∨ a = 1 by omega) with rfl | rfl <;> rfl) (Nat.le_of_ble_eq_true rfl) rfl ?_
  intro p e s m args below meth c A Q C hret
  refine j_lload_n C 1 1 dX12_isKind_0 rfl rfl ?_
  refine y_lconst C 0 dX12_isKind_1 rfl ?_
  refine j_aload_n C 0 0 dX12_isKind_2 rfl rfl ?_
  refine y_getC C 11 99 fX12_isKind_13 rfl rfl ft_11_1 sm_11_1 rfl hM0 dX12_isKind_3 ?_
  refine y_bipush C dX12_isKind_6 rfl ?_
  refine y_ialdH C 45 3543 rfl rfl rfl ak_45 an_45 rfl _ _ hM0 (hr_45_26_26 _ (by omega) (by omega)) dX12_isKind_8 (by omega) (fun a101 ea101 la101 ua101 => ?_)
  refine y_iconst C dX12_isKind_9 ?_
  refine y_isub C dX12_isKind_10 ?_
  refine y_i2l C dX12_isKind_11 (by omega) ?_
  refine j_callSi C (d := 0) (As := [.long (sJ a1), .long (sJ 0), .long (sJ (a101 - 1))]) (st := []) (s1_X12_within hM0 a1 (by omega) 0 (by omega) (a101 - 1) (by omega)) gX12_isKind_X12_within rfl hdX12_withins (by decide) (Nat.le_of_ble_eq_true rfl) dX12_isKind_12 rfl (fun r102 M103 h104 => ?_)
  obtain ⟨a106, rfl, rfl, h105⟩ := h104
  exact hret _ _ _ _ dX12_isKind_15 ⟨a106, rfl, rfl, by omega⟩
set_option maxHeartbeats 4000000 in
theorem s1_X12_bitsOf {l : Launch} {dC : Nat → ClassId} {dI : Nat → Nat → Nat} {ad : Nat → Nat} {cA : Nat → ClassId} {pr : Nat → Nat → Bool} {Kz : mm_M} {M0 : mm_M} (hM0 : INV pr Kz M0) (a0 : Int) (ha0 : -2147483648 ≤ a0 ∧ a0 ≤ 2147483647) : Ci l 0 yX12_bitsOf wsX12_bitsOf dC dI ad cA [.int (sI a0)] M0 (fun r M' => ∃ a : Int, r = sI a ∧ M0 = M' ∧ 0 ≤ a ∧ a ≤ 8 ∧ (a = (bsF a0 (8 : Int).toNat))) := by
  refine ci_of (cc := cX12_bitsOf) (maxL := 3) (ty := .int) (lv := [(0, .int (sI a0))]) (by decide) rfl (fun r M' hp => rfl) (Nat.le_of_ble_eq_true rfl) rfl ?_
  intro p e s m args below meth c A Q C hret
  refine y_iconst C dX12_bitsOf_0 ?_
  refine j_istore_n C 1 [(1, .int (sI 0)), (0, .int (sI a0))] dX12_bitsOf_1 rfl (by decide) rfl ?_
  have u101 : bsF a0 (0 : Int).toNat = 0 := rfl
  refine y_iconst C dX12_bitsOf_2 ?_
  refine j_istore_n C 2 [(2, .int (sI 0)), (1, .int (sI 0)), (0, .int (sI a0))] dX12_bitsOf_3 rfl (by decide) rfl ?_
  have L110 : ∀ (n108 : Nat), ∀ (a111 : Int) (a112 : Int), (0 ≤ a111 ∧ a111 ≤ 8 ∧ 0 ≤ a112 ∧ a112 ≤ 8 ∧ (a111 = bsF a0 (a112).toNat) ∧ (a111 ≤ a112) ∧ (8 - a112) < (n108 : Int)) → jj p l e (cn_R 0) s m args below meth c 0 0 Q 3 dC dI ad cA A M0 4 [(0, .int (sI a0)), (1, .int (sI a111)), (2, .int (sI a112))] [] := by
    intro n108
    induction n108 with
    | zero =>
      intro a111 a112 h113
      exfalso; omega
    | succ n108 ih109 =>
      intro a111 a112 h113
      refine j_iload_n C 2 2 dX12_bitsOf_4 rfl rfl ?_
      refine y_bipush C dX12_bitsOf_5 rfl ?_
      refine y_icmp_ge C 24 dX12_bitsOf_7 (by decide) (by omega) (fun h114 => ?_) (fun h114 => ?_)
      · obtain rfl : a112 = 8 := by omega
        refine j_iload_n C 1 1 dX12_bitsOf_24 rfl rfl ?_
        exact hret _ _ _ _ dX12_bitsOf_25 ⟨a111, rfl, rfl, by omega⟩
      · refine j_iload_n C 1 1 dX12_bitsOf_10 rfl rfl ?_
        refine j_iload_n C 0 0 dX12_bitsOf_11 rfl rfl ?_
        refine j_iload_n C 2 2 dX12_bitsOf_12 rfl rfl ?_
        refine e_ishr C dX12_bitsOf_13 (fun lb115 ub115 => ?_)
        refine y_iconst C dX12_bitsOf_14 ?_
        refine e_iandR C dX12_bitsOf_15 (by omega) (fun lb116 ub116 => ?_)
        refine y_iadd C dX12_bitsOf_16 ?_
        refine j_istore_n C 1 [(1, .int (sI (a111 + (andI (shrI a0 a112) 1)))), (0, .int (sI a0)), (2, .int (sI a112))] dX12_bitsOf_17 rfl (by decide) rfl ?_
        have u117 := bsF_s a0 a112 (by omega)
        refine y_iinc C 2 [(2, .int (sI (a112 + 1))), (1, .int (sI (a111 + (andI (shrI a0 a112) 1)))), (0, .int (sI a0))] dX12_bitsOf_18 rfl (by decide) rfl ?_
        refine j_goto C 4 dX12_bitsOf_21 (by decide) ?_
        refine j_lv [2, 1, 0] rfl ?_; exact ih109 (a111 + (andI (shrI a0 a112) 1)) (a112 + 1) (by omega)
  refine j_lv [2, 1, 0] rfl ?_; exact L110 2010 0 0 (by omega)
set_option maxHeartbeats 4000000 in
theorem s1_X12_between {l : Launch} {dC : Nat → ClassId} {dI : Nat → Nat → Nat} {ad : Nat → Nat} {cA : Nat → ClassId} {pr : Nat → Nat → Bool} {Kz : mm_M} {M0 : mm_M} (hM0 : INV pr Kz M0) (a0 : Int) (ha0 : -2147483648 ≤ a0 ∧ a0 ≤ 2147483647) (a1 : Int) (ha1 : -2147483648 ≤ a1 ∧ a1 ≤ 2147483647) (a2 : Int) (ha2 : -2147483648 ≤ a2 ∧ a2 ≤ 2147483647) : Ci l 0 yX12_between wsX12_between dC dI ad cA [.int (sI a0), .int (sI a1), .int (sI a2)] M0 (fun r M' => ∃ a : Int, r = sI a ∧ M0 = M' ∧ (-2147483648) ≤ a ∧ a ≤ 2147483647 ∧ (a = (btF a0 a1 a2))) := by
  refine ci_of (cc := cX12_between) (maxL := 5) (ty := .int) (lv := [(0, .int (sI a0)), (1, .int (sI a1)), (2, .int (sI a2))]) (by decide) rfl (fun r M' hp => rfl) (Nat.le_of_ble_eq_true rfl) rfl ?_
  intro p e s m args below meth c A Q C hret
  refine j_iload_n C 0 0 dX12_between_0 rfl rfl ?_
  rcases (show (a0 < 3003 ∨ 3008 < a0) ∨ a0 = 3003 ∨ a0 = 3004 ∨ a0 = 3005 ∨ a0 = 3006 ∨ a0 = 3007 ∨ a0 = 3008 by omega) with h101 | h101 | h101 | h101 | h101 | h101 | h101
  · refine y_tabO C 81 dX12_between_1 (by decide) (by omega) ?_
    refine j_iload_n C 0 0 dX12_between_81 rfl rfl ?_
    refine y_sipush C dX12_between_82 rfl ?_
    refine y_icmp_ne C 96 dX12_between_85 (by decide) (by omega) (fun h102 => ?_) (fun h102 => ?_)
    · refine j_iload_n C 0 0 dX12_between_96 rfl rfl ?_
      refine y_sipush C dX12_between_97 rfl ?_
      refine y_icmp_ne C 111 dX12_between_100 (by decide) (by omega) (fun h103 => ?_) (fun h103 => ?_)
      · refine j_iload_n C 1 1 dX12_between_111 rfl rfl ?_
        refine y_i2l C dX12_between_112 (by omega) ?_
        refine j_iload_n C 2 2 dX12_between_113 rfl rfl ?_
        refine y_i2l C dX12_between_114 (by omega) ?_
        refine e_lmul C dX12_between_115 (fun lb104 ub104 => ?_)
        refine j_lstore_n C 3 [(3, .long (sJ (mulJ a1 a2))), (0, .int (sI a0)), (1, .int (sI a1)), (2, .int (sI a2))] dX12_between_116 rfl (by decide) rfl ?_
        have u105 := clF_s (mulJ a1 a2)
        refine j_lload_n C 0 3 dX12_between_117 rfl rfl ?_
        refine y_ldc2 C 1000000 dX12_between_118 kX12_between_213 rfl ?_
        refine y_lcmp_le C 131 dX12_between_121 dX12_between_122 (by decide) (by omega) (fun h106 => ?_) (fun h106 => ?_)
        · refine j_lload_n C 0 3 dX12_between_131 rfl rfl ?_
          refine y_ldc2 C (-1000000) dX12_between_132 kX12_between_215 rfl ?_
          refine y_lcmp_ge C 145 dX12_between_135 dX12_between_136 (by decide) (by omega) (fun h107 => ?_) (fun h107 => ?_)
          · refine j_lload_n C 0 3 dX12_between_145 rfl rfl ?_
            refine y_l2i C dX12_between_146 ?_
            have u108 := btF_s a0 a1 a2
            exact hret _ _ _ _ dX12_between_147 ⟨(mulJ a1 a2), rfl, rfl, by omega⟩
          · refine y_ldc2 C (-1000000) dX12_between_139 kX12_between_215 rfl ?_
            refine j_goto C 146 dX12_between_142 (by decide) ?_
            refine y_l2i C dX12_between_146 ?_
            have u109 := btF_s a0 a1 a2
            exact hret _ _ _ _ dX12_between_147 ⟨(-1000000), rfl, rfl, by omega⟩
        · refine y_ldc2 C 1000000 dX12_between_125 kX12_between_213 rfl ?_
          refine j_goto C 146 dX12_between_128 (by decide) ?_
          refine y_l2i C dX12_between_146 ?_
          have u110 := btF_s a0 a1 a2
          exact hret _ _ _ _ dX12_between_147 ⟨1000000, rfl, rfl, by omega⟩
      · refine j_iload_n C 1 1 dX12_between_103 rfl rfl ?_
        refine y_i2l C dX12_between_104 (by omega) ?_
        refine j_iload_n C 2 2 dX12_between_105 rfl rfl ?_
        refine y_i2l C dX12_between_106 (by omega) ?_
        refine y_lsub C dX12_between_107 ?_
        refine j_goto C 116 dX12_between_108 (by decide) ?_
        refine j_lstore_n C 3 [(3, .long (sJ (a1 - a2))), (0, .int (sI a0)), (1, .int (sI a1)), (2, .int (sI a2))] dX12_between_116 rfl (by decide) rfl ?_
        have u111 := clF_s (a1 - a2)
        refine j_lload_n C 0 3 dX12_between_117 rfl rfl ?_
        refine y_ldc2 C 1000000 dX12_between_118 kX12_between_213 rfl ?_
        refine y_lcmp_le C 131 dX12_between_121 dX12_between_122 (by decide) (by omega) (fun h112 => ?_) (fun h112 => ?_)
        · refine j_lload_n C 0 3 dX12_between_131 rfl rfl ?_
          refine y_ldc2 C (-1000000) dX12_between_132 kX12_between_215 rfl ?_
          refine y_lcmp_ge C 145 dX12_between_135 dX12_between_136 (by decide) (by omega) (fun h113 => ?_) (fun h113 => ?_)
          · refine j_lload_n C 0 3 dX12_between_145 rfl rfl ?_
            refine y_l2i C dX12_between_146 ?_
            refine y_topI (fun a114 la114 ua114 => ?_)
            have u115 := btF_s a0 a1 a2
            exact hret _ _ _ _ dX12_between_147 ⟨a114, rfl, rfl, by omega⟩
          · refine y_ldc2 C (-1000000) dX12_between_139 kX12_between_215 rfl ?_
            refine j_goto C 146 dX12_between_142 (by decide) ?_
            refine y_l2i C dX12_between_146 ?_
            have u116 := btF_s a0 a1 a2
            exact hret _ _ _ _ dX12_between_147 ⟨(-1000000), rfl, rfl, by omega⟩
        · refine y_ldc2 C 1000000 dX12_between_125 kX12_between_213 rfl ?_
          refine j_goto C 146 dX12_between_128 (by decide) ?_
          refine y_l2i C dX12_between_146 ?_
          have u117 := btF_s a0 a1 a2
          exact hret _ _ _ _ dX12_between_147 ⟨1000000, rfl, rfl, by omega⟩
    · refine j_iload_n C 1 1 dX12_between_88 rfl rfl ?_
      refine y_i2l C dX12_between_89 (by omega) ?_
      refine j_iload_n C 2 2 dX12_between_90 rfl rfl ?_
      refine y_i2l C dX12_between_91 (by omega) ?_
      refine y_ladd C dX12_between_92 ?_
      refine j_goto C 116 dX12_between_93 (by decide) ?_
      refine j_lstore_n C 3 [(3, .long (sJ (a1 + a2))), (0, .int (sI a0)), (1, .int (sI a1)), (2, .int (sI a2))] dX12_between_116 rfl (by decide) rfl ?_
      have u118 := clF_s (a1 + a2)
      refine j_lload_n C 0 3 dX12_between_117 rfl rfl ?_
      refine y_ldc2 C 1000000 dX12_between_118 kX12_between_213 rfl ?_
      refine y_lcmp_le C 131 dX12_between_121 dX12_between_122 (by decide) (by omega) (fun h119 => ?_) (fun h119 => ?_)
      · refine j_lload_n C 0 3 dX12_between_131 rfl rfl ?_
        refine y_ldc2 C (-1000000) dX12_between_132 kX12_between_215 rfl ?_
        refine y_lcmp_ge C 145 dX12_between_135 dX12_between_136 (by decide) (by omega) (fun h120 => ?_) (fun h120 => ?_)
        · refine j_lload_n C 0 3 dX12_between_145 rfl rfl ?_
          refine y_l2i C dX12_between_146 ?_
          refine y_topI (fun a121 la121 ua121 => ?_)
          have u122 := btF_s a0 a1 a2
          exact hret _ _ _ _ dX12_between_147 ⟨a121, rfl, rfl, by omega⟩
        · refine y_ldc2 C (-1000000) dX12_between_139 kX12_between_215 rfl ?_
          refine j_goto C 146 dX12_between_142 (by decide) ?_
          refine y_l2i C dX12_between_146 ?_
          have u123 := btF_s a0 a1 a2
          exact hret _ _ _ _ dX12_between_147 ⟨(-1000000), rfl, rfl, by omega⟩
      · refine y_ldc2 C 1000000 dX12_between_125 kX12_between_213 rfl ?_
        refine j_goto C 146 dX12_between_128 (by decide) ?_
        refine y_l2i C dX12_between_146 ?_
        have u124 := btF_s a0 a1 a2
        exact hret _ _ _ _ dX12_between_147 ⟨1000000, rfl, rfl, by omega⟩
  · refine y_tabI C (off := 39) 40 3003 dX12_between_1 (by decide) rfl (by decide) h101 ?_
    refine j_iload_n C 1 1 dX12_between_40 rfl rfl ?_
    refine j_iload_n C 2 2 dX12_between_41 rfl rfl ?_
    refine y_icmp_ne C 49 dX12_between_42 (by decide) (by omega) (fun h125 => ?_) (fun h125 => ?_)
    · refine y_iconst C dX12_between_49 ?_
      have u126 := btF_s a0 a1 a2
      exact hret _ _ _ _ dX12_between_50 ⟨0, rfl, rfl, by omega⟩
    · refine y_iconst C dX12_between_45 ?_
      refine j_goto C 50 dX12_between_46 (by decide) ?_
      have u127 := btF_s a0 a1 a2
      exact hret _ _ _ _ dX12_between_50 ⟨1, rfl, rfl, by omega⟩
  · refine y_tabI C (off := 50) 51 3004 dX12_between_1 (by decide) rfl (by decide) h101 ?_
    refine j_iload_n C 1 1 dX12_between_51 rfl rfl ?_
    refine j_iload_n C 2 2 dX12_between_52 rfl rfl ?_
    refine y_icmp_ge C 60 dX12_between_53 (by decide) (by omega) (fun h128 => ?_) (fun h128 => ?_)
    · refine y_iconst C dX12_between_60 ?_
      have u129 := btF_s a0 a1 a2
      exact hret _ _ _ _ dX12_between_61 ⟨0, rfl, rfl, by omega⟩
    · refine y_iconst C dX12_between_56 ?_
      refine j_goto C 61 dX12_between_57 (by decide) ?_
      have u130 := btF_s a0 a1 a2
      exact hret _ _ _ _ dX12_between_61 ⟨1, rfl, rfl, by omega⟩
  · refine y_tabI C (off := 61) 62 3005 dX12_between_1 (by decide) rfl (by decide) h101 ?_
    refine j_iload_n C 1 1 dX12_between_62 rfl rfl ?_
    refine j_iload_n C 2 2 dX12_between_63 rfl rfl ?_
    refine y_icmp_le C 71 dX12_between_64 (by decide) (by omega) (fun h131 => ?_) (fun h131 => ?_)
    · refine y_iconst C dX12_between_71 ?_
      have u132 := btF_s a0 a1 a2
      exact hret _ _ _ _ dX12_between_72 ⟨0, rfl, rfl, by omega⟩
    · refine y_iconst C dX12_between_67 ?_
      refine j_goto C 72 dX12_between_68 (by decide) ?_
      have u133 := btF_s a0 a1 a2
      exact hret _ _ _ _ dX12_between_72 ⟨1, rfl, rfl, by omega⟩
  · refine y_tabI C (off := 80) 81 3006 dX12_between_1 (by decide) rfl (by decide) h101 ?_
    refine j_iload_n C 0 0 dX12_between_81 rfl rfl ?_
    refine y_sipush C dX12_between_82 rfl ?_
    refine y_icmp_ne C 96 dX12_between_85 (by decide) (by omega) (fun h134 => ?_) (fun h134 => ?_)
    · refine j_iload_n C 0 0 dX12_between_96 rfl rfl ?_
      refine y_sipush C dX12_between_97 rfl ?_
      refine y_icmp_ne C 111 dX12_between_100 (by decide) (by omega) (fun h135 => ?_) (fun h135 => ?_)
      · refine j_iload_n C 1 1 dX12_between_111 rfl rfl ?_
        refine y_i2l C dX12_between_112 (by omega) ?_
        refine j_iload_n C 2 2 dX12_between_113 rfl rfl ?_
        refine y_i2l C dX12_between_114 (by omega) ?_
        refine e_lmul C dX12_between_115 (fun lb136 ub136 => ?_)
        refine j_lstore_n C 3 [(3, .long (sJ (mulJ a1 a2))), (0, .int (sI a0)), (1, .int (sI a1)), (2, .int (sI a2))] dX12_between_116 rfl (by decide) rfl ?_
        have u137 := clF_s (mulJ a1 a2)
        refine j_lload_n C 0 3 dX12_between_117 rfl rfl ?_
        refine y_ldc2 C 1000000 dX12_between_118 kX12_between_213 rfl ?_
        refine y_lcmp_le C 131 dX12_between_121 dX12_between_122 (by decide) (by omega) (fun h138 => ?_) (fun h138 => ?_)
        · refine j_lload_n C 0 3 dX12_between_131 rfl rfl ?_
          refine y_ldc2 C (-1000000) dX12_between_132 kX12_between_215 rfl ?_
          refine y_lcmp_ge C 145 dX12_between_135 dX12_between_136 (by decide) (by omega) (fun h139 => ?_) (fun h139 => ?_)
          · refine j_lload_n C 0 3 dX12_between_145 rfl rfl ?_
            refine y_l2i C dX12_between_146 ?_
            have u140 := btF_s a0 a1 a2
            exact hret _ _ _ _ dX12_between_147 ⟨(mulJ a1 a2), rfl, rfl, by omega⟩
          · refine y_ldc2 C (-1000000) dX12_between_139 kX12_between_215 rfl ?_
            refine j_goto C 146 dX12_between_142 (by decide) ?_
            refine y_l2i C dX12_between_146 ?_
            have u141 := btF_s a0 a1 a2
            exact hret _ _ _ _ dX12_between_147 ⟨(-1000000), rfl, rfl, by omega⟩
        · refine y_ldc2 C 1000000 dX12_between_125 kX12_between_213 rfl ?_
          refine j_goto C 146 dX12_between_128 (by decide) ?_
          refine y_l2i C dX12_between_146 ?_
          have u142 := btF_s a0 a1 a2
          exact hret _ _ _ _ dX12_between_147 ⟨1000000, rfl, rfl, by omega⟩
      · exfalso; omega
    · exfalso; omega
  · refine y_tabI C (off := 72) 73 3007 dX12_between_1 (by decide) rfl (by decide) h101 ?_
    refine j_iload_n C 1 1 dX12_between_73 rfl rfl ?_
    refine j_iload_n C 2 2 dX12_between_74 rfl rfl ?_
    refine e_iand C dX12_between_75 (fun lb143 ub143 => ?_)
    have u144 := btF_s a0 a1 a2
    exact hret _ _ _ _ dX12_between_76 ⟨(andI a1 a2), rfl, rfl, by omega⟩
  · refine y_tabI C (off := 76) 77 3008 dX12_between_1 (by decide) rfl (by decide) h101 ?_
    refine j_iload_n C 1 1 dX12_between_77 rfl rfl ?_
    refine j_iload_n C 2 2 dX12_between_78 rfl rfl ?_
    refine e_ior C dX12_between_79 (fun lb145 ub145 => ?_)
    have u146 := btF_s a0 a1 a2
    exact hret _ _ _ _ dX12_between_80 ⟨(orI a1 a2), rfl, rfl, by omega⟩
set_option maxHeartbeats 4000000 in
theorem s1_X12_reckons {l : Launch} {dC : Nat → ClassId} {dI : Nat → Nat → Nat} {ad : Nat → Nat} {cA : Nat → ClassId} {pr : Nat → Nat → Bool} {Kz : mm_M} {M0 : mm_M} (hM0 : INV pr Kz M0) (hpr : PM pr) (hcw : CWK pr Kz) (a2 : Int) (ha2 : -2147483648 ≤ a2 ∧ a2 ≤ 2147483647) (a3 : Int) (ha3 : -2147483648 ≤ a3 ∧ a3 ≤ 2147483647) (a4 : Int) (ha4 : -2147483648 ≤ a4 ∧ a4 ≤ 2147483647) (hp0 : ¬ (M0.1 99 2).toInt = 0) (hp1 : 0 ≤ a2 ∧ a2 ≤ 5) (hp2 : 0 ≤ a3 ∧ a3 ≤ 7) : Ci l 1 yX12_reckons wsX12_reckons dC dI ad cA [.ref (ad 98), .int (sI 0), .int (sI a2), .int (sI a3), .int (sI a4)] M0 (fun r M' => ∃ a : Int, r = sI a ∧ INV pr Kz M' ∧ FR [103, 104] M0 M' ∧ (-2147483648) ≤ a ∧ a ≤ 2147483647 ∧ (a = (rkF (M0.1 99) 0 a2 a3 a4))) := by
  refine ci_of (cc := cX12_reckons) (maxL := 8) (ty := .int) (lv := [(0, .ref (ad 98)), (1, .int (sI 0)), (2, .int (sI a2)), (3, .int (sI a3)), (4, .int (sI a4))]) (by decide) rfl (fun r M' hp => rfl) (Nat.le_of_ble_eq_true rfl) rfl ?_
  intro p e s m args below meth c A Q C hret
  have cw0 : zwL (M0.1 99) 0 := (hcw M0 hM0).1
  have zwS0 : zwS (M0.1 99) (281 + (M0.1 99 4).toInt) (M0.1 99 6).toInt := cw0.2.1
  have cwE0 : (M0.1 99 2).toInt = 0 ∨ 1 ≤ dqF (M0.1 99) (281 + (M0.1 99 4).toInt) (M0.1 99 6).toInt.toNat := cw0.2.2
  have cwA0 := INV.rd hM0 (i := 99) (c := 45) (k := 4) rfl rfl
  have cwB0 := INV.rd hM0 (i := 99) (c := 45) (k := 6) rfl rfl
  refine j_aload_n C 0 0 dX12_reckons_0 rfl rfl ?_
  refine y_getC C 11 104 fX12_reckons_33 rfl rfl ft_11_16 sm_11_16 rfl hM0 dX12_reckons_1 ?_
  refine y_iconst C dX12_reckons_4 ?_
  refine j_iload_n C 2 2 dX12_reckons_5 rfl rfl ?_
  refine y_iastF C 50 8 rfl rfl rfl ak_50 an_50 rfl (sb_50 _) hM0 (PM.w hpr rfl rfl) dX12_reckons_6 (by omega) (fun M106 eM106 hM106 => ?_)
  refine j_aload_n C 0 0 dX12_reckons_7 rfl rfl ?_
  refine y_getC C 11 104 fX12_reckons_33 rfl rfl ft_11_16 sm_11_16 rfl hM106 dX12_reckons_8 ?_
  refine y_iconst C dX12_reckons_11 ?_
  refine j_aload_n C 0 0 dX12_reckons_12 rfl rfl ?_
  refine y_getC C 11 99 fX12_reckons_13 rfl rfl ft_11_1 sm_11_1 rfl hM106 dX12_reckons_13 ?_
  refine y_bipush C dX12_reckons_16 rfl ?_
  refine j_iload_n C 2 2 dX12_reckons_18 rfl rfl ?_
  refine y_iadd C dX12_reckons_19 ?_
  refine y_ialdF C 45 3543 rfl rfl rfl ak_45 an_45 rfl dX12_reckons_20 (by omega) (fun a107 ea107 la107 ua107 => ?_)
  obtain rfl : a107 = (M0.1 99 ((8 + a2)).toNat).toInt := s_fa eM106 (by decide) (ea107)
  refine y_iastF C 50 8 rfl rfl rfl ak_50 an_50 rfl (sb_50 _) hM106 (PM.w hpr rfl rfl) dX12_reckons_21 (by omega) (fun M108 eM108 hM108 => ?_)
  refine j_aload_n C 0 0 dX12_reckons_22 rfl rfl ?_
  refine y_getC C 11 104 fX12_reckons_33 rfl rfl ft_11_16 sm_11_16 rfl hM108 dX12_reckons_23 ?_
  refine y_iconst C dX12_reckons_26 ?_
  refine j_aload_n C 0 0 dX12_reckons_27 rfl rfl ?_
  refine y_getC C 11 99 fX12_reckons_13 rfl rfl ft_11_1 sm_11_1 rfl hM108 dX12_reckons_28 ?_
  refine y_bipush C dX12_reckons_31 rfl ?_
  refine j_iload_n C 2 2 dX12_reckons_33 rfl rfl ?_
  refine y_iadd C dX12_reckons_34 ?_
  refine y_ialdF C 45 3543 rfl rfl rfl ak_45 an_45 rfl dX12_reckons_35 (by omega) (fun a109 ea109 la109 ua109 => ?_)
  obtain rfl : a109 = (M0.1 99 ((14 + a2)).toNat).toInt := s_fa eM106 (by decide) (s_fa eM108 (by decide) (ea109))
  refine y_iastF C 50 8 rfl rfl rfl ak_50 an_50 rfl (sb_50 _) hM108 (PM.w hpr rfl rfl) dX12_reckons_36 (by omega) (fun M110 eM110 hM110 => ?_)
  refine j_aload_n C 0 0 dX12_reckons_37 rfl rfl ?_
  refine y_getC C 11 104 fX12_reckons_33 rfl rfl ft_11_16 sm_11_16 rfl hM110 dX12_reckons_38 ?_
  refine y_iconst C dX12_reckons_41 ?_
  refine j_iload_n C 3 3 dX12_reckons_42 rfl rfl ?_
  refine y_iastF C 50 8 rfl rfl rfl ak_50 an_50 rfl (sb_50 _) hM110 (PM.w hpr rfl rfl) dX12_reckons_43 (by omega) (fun M111 eM111 hM111 => ?_)
  refine j_aload_n C 0 0 dX12_reckons_44 rfl rfl ?_
  refine y_getC C 11 104 fX12_reckons_33 rfl rfl ft_11_16 sm_11_16 rfl hM111 dX12_reckons_45 ?_
  refine y_iconst C dX12_reckons_48 ?_
  refine j_aload_n C 0 0 dX12_reckons_49 rfl rfl ?_
  refine y_getC C 11 99 fX12_reckons_13 rfl rfl ft_11_1 sm_11_1 rfl hM111 dX12_reckons_50 ?_
  refine y_bipush C dX12_reckons_53 rfl ?_
  refine j_iload_n C 3 3 dX12_reckons_55 rfl rfl ?_
  refine y_iadd C dX12_reckons_56 ?_
  refine y_ialdF C 45 3543 rfl rfl rfl ak_45 an_45 rfl dX12_reckons_57 (by omega) (fun a112 ea112 la112 ua112 => ?_)
  obtain rfl : a112 = (M0.1 99 ((33 + a3)).toNat).toInt := s_fa eM106 (by decide) (s_fa eM108 (by decide) (s_fa eM110 (by decide) (s_fa eM111 (by decide) (ea112))))
  refine y_iastF C 50 8 rfl rfl rfl ak_50 an_50 rfl (sb_50 _) hM111 (PM.w hpr rfl rfl) dX12_reckons_58 (by omega) (fun M113 eM113 hM113 => ?_)
  refine j_aload_n C 0 0 dX12_reckons_59 rfl rfl ?_
  refine y_getC C 11 104 fX12_reckons_33 rfl rfl ft_11_16 sm_11_16 rfl hM113 dX12_reckons_60 ?_
  refine y_iconst C dX12_reckons_63 ?_
  refine j_aload_n C 0 0 dX12_reckons_64 rfl rfl ?_
  refine y_getC C 11 99 fX12_reckons_13 rfl rfl ft_11_1 sm_11_1 rfl hM113 dX12_reckons_65 ?_
  refine y_bipush C dX12_reckons_68 rfl ?_
  refine j_iload_n C 3 3 dX12_reckons_70 rfl rfl ?_
  refine y_iadd C dX12_reckons_71 ?_
  refine y_ialdF C 45 3543 rfl rfl rfl ak_45 an_45 rfl dX12_reckons_72 (by omega) (fun a114 ea114 la114 ua114 => ?_)
  obtain rfl : a114 = (M0.1 99 ((41 + a3)).toNat).toInt := s_fa eM106 (by decide) (s_fa eM108 (by decide) (s_fa eM110 (by decide) (s_fa eM111 (by decide) (s_fa eM113 (by decide) (ea114)))))
  refine y_iastF C 50 8 rfl rfl rfl ak_50 an_50 rfl (sb_50 _) hM113 (PM.w hpr rfl rfl) dX12_reckons_73 (by omega) (fun M115 eM115 hM115 => ?_)
  refine j_aload_n C 0 0 dX12_reckons_74 rfl rfl ?_
  refine y_getC C 11 104 fX12_reckons_33 rfl rfl ft_11_16 sm_11_16 rfl hM115 dX12_reckons_75 ?_
  refine y_bipush C dX12_reckons_78 rfl ?_
  refine j_iload C 4 dX12_reckons_80 rfl ?_
  refine j_callSi C (d := 0) (As := [.int (sI a4)]) (st := [.int (sI 6), .ref (ad 104)]) (s1_X12_bitsOf hM115 a4 (by omega)) gX12_reckons_X12_bitsOf rfl hdX12_bitsOfs (by decide) (Nat.le_of_ble_eq_true rfl) dX12_reckons_82 rfl (fun r116 M117 h118 => ?_)
  obtain ⟨a120, rfl, rfl, h119⟩ := h118
  obtain rfl : a120 = (bsF a4 (8 : Int).toNat) := by omega
  refine y_iastF C 50 8 rfl rfl rfl ak_50 an_50 rfl (sb_50 _) hM115 (PM.w hpr rfl rfl) dX12_reckons_85 (by omega) (fun M121 eM121 hM121 => ?_)
  refine j_aload_n C 0 0 dX12_reckons_86 rfl rfl ?_
  refine y_getC C 11 104 fX12_reckons_33 rfl rfl ft_11_16 sm_11_16 rfl hM121 dX12_reckons_87 ?_
  refine y_bipush C dX12_reckons_90 rfl ?_
  refine j_iload C 4 dX12_reckons_92 rfl ?_
  refine j_iload_n C 3 3 dX12_reckons_94 rfl rfl ?_
  refine e_ishr C dX12_reckons_95 (fun lb122 ub122 => ?_)
  refine y_iconst C dX12_reckons_96 ?_
  refine e_iandR C dX12_reckons_97 (by omega) (fun lb123 ub123 => ?_)
  refine y_iastF C 50 8 rfl rfl rfl ak_50 an_50 rfl (sb_50 _) hM121 (PM.w hpr rfl rfl) dX12_reckons_98 (by omega) (fun M124 eM124 hM124 => ?_)
  have u125 := wd_of (W := (wdF (M0.1 99) a2 a3 a4)) eM106 eM108 eM110 eM111 eM113 eM115 eM121 eM124 rfl rfl rfl rfl rfl rfl rfl rfl (by omega)
  have u126s := st_0 M124 (M0.1 99) (wdF (M0.1 99) a2 a3 a4) (281 + (M0.1 99 4).toInt)
  refine y_iconst C dX12_reckons_99 ?_
  refine j_istore C 5 [(5, .int (sI 0)), (0, .ref (ad 98)), (1, .int (sI 0)), (2, .int (sI a2)), (3, .int (sI a3)), (4, .int (sI a4))] dX12_reckons_100 (by decide) rfl ?_
  refine y_iconst C dX12_reckons_102 ?_
  refine j_istore C 6 [(6, .int (sI 0)), (5, .int (sI 0)), (0, .ref (ad 98)), (1, .int (sI 0)), (2, .int (sI a2)), (3, .int (sI a3)), (4, .int (sI a4))] dX12_reckons_103 (by decide) rfl ?_
  have L169 : ∀ (n167 : Nat), ∀ (a170 : Int) (a171 : Int) (M172 : mm_M), (0 ≤ a170 ∧ a170 ≤ 900 ∧ 0 ≤ a171 ∧ a171 ≤ 900 ∧ (a170 = (rkS (M0.1 99) (wdF (M0.1 99) a2 a3 a4) (281 + (M0.1 99 4).toInt) (a171).toNat).1) ∧ (b01 (stOK M172 (rkS (M0.1 99) (wdF (M0.1 99) a2 a3 a4) (281 + (M0.1 99 4).toInt) (a171).toNat)) = 1) ∧ (b01 (wdOK M172 (wdF (M0.1 99) a2 a3 a4)) = 1) ∧ (a170 ≤ a171) ∧ (a171 ≤ (M0.1 99 6).toInt) ∧ (900 - a171) < (n167 : Int)) → INV pr Kz M172 → FR [103, 104] M0 M172 → jj p l e (cn_R 1) s m args below meth c 0 0 Q 8 dC dI ad cA A M172 105 [(0, .ref (ad 98)), (1, .int (sI 0)), (5, .int (sI a170)), (6, .int (sI a171))] [] := by
    intro n167
    induction n167 with
    | zero =>
      intro a170 a171 M172 h173 hM172 fM172
      exfalso; omega
    | succ n167 ih168 =>
      intro a170 a171 M172 h173 hM172 fM172
      refine j_iload C 3 dX12_reckons_105 rfl ?_
      refine j_aload_n C 0 0 dX12_reckons_107 rfl rfl ?_
      refine y_getC C 11 99 fX12_reckons_13 rfl rfl ft_11_1 sm_11_1 rfl hM172 dX12_reckons_108 ?_
      refine y_bipush C dX12_reckons_111 rfl ?_
      refine j_iload_n C 1 1 dX12_reckons_113 rfl rfl ?_
      refine y_iadd C dX12_reckons_114 ?_
      refine y_ialdH C 45 3543 rfl rfl rfl ak_45 an_45 rfl _ _ hM172 (hr_45_6_6 _ (by omega) (by omega)) dX12_reckons_115 (by omega) (fun a174 ea174 la174 ua174 => ?_)
      obtain rfl : a174 = (M0.1 99 6).toInt := s_fF fM172 (by decide) (ea174)
      refine y_icmp_ge C 256 dX12_reckons_116 (by decide) (by omega) (fun h175 => ?_) (fun h175 => ?_)
      · obtain rfl : a171 = (M0.1 99 6).toInt := by omega
        refine j_aload_n C 0 0 dX12_reckons_256 rfl rfl ?_
        refine y_getC C 11 103 fX12_reckons_30 rfl rfl ft_11_15 sm_11_15 rfl hM172 dX12_reckons_257 ?_
        refine y_iconst C dX12_reckons_260 ?_
        refine y_iald C 49 900 _ _ rfl rfl rfl ak_49 an_49 rfl (sb_49 _) hM172 dX12_reckons_261 (by omega) (fun a212 ea212 la212 ua212 => ?_)
        obtain rfl : a212 = (M172.1 103 0).toInt := ea212
        have u213z := rkS_1 (M0.1 99) (wdF (M0.1 99) a2 a3 a4) (281 + (M0.1 99 4).toInt) (M0.1 99 6).toInt.toNat
        have u214 := st_get (M := M172) (p := rkS (M0.1 99) (wdF (M0.1 99) a2 a3 a4) (281 + (M0.1 99 4).toInt) (M0.1 99 6).toInt.toNat) (by omega) (by omega)
        have u215y : rkF (M0.1 99) 0 a2 a3 a4 = (rkS (M0.1 99) (wdF (M0.1 99) a2 a3 a4) (281 + (M0.1 99 4).toInt) (M0.1 99 6).toInt.toNat).2 0 := rfl
        exact hret _ _ _ _ dX12_reckons_262 ⟨(M172.1 103 0).toInt, rfl, hM172, (FR.rf.tr fM172 (by decide)), by omega⟩
      · refine j_aload_n C 0 0 dX12_reckons_119 rfl rfl ?_
        refine y_getC C 11 99 fX12_reckons_13 rfl rfl ft_11_1 sm_11_1 rfl hM172 dX12_reckons_120 ?_
        refine y_sipush C dX12_reckons_123 rfl ?_
        refine j_aload_n C 0 0 dX12_reckons_126 rfl rfl ?_
        refine y_getC C 11 99 fX12_reckons_13 rfl rfl ft_11_1 sm_11_1 rfl hM172 dX12_reckons_127 ?_
        refine y_iconst C dX12_reckons_130 ?_
        refine j_iload_n C 1 1 dX12_reckons_131 rfl rfl ?_
        refine y_iadd C dX12_reckons_132 ?_
        refine y_ialdH C 45 3543 rfl rfl rfl ak_45 an_45 rfl _ _ hM172 (hr_45_4_4 _ (by omega) (by omega)) dX12_reckons_133 (by omega) (fun a176 ea176 la176 ua176 => ?_)
        obtain rfl : a176 = (M0.1 99 4).toInt := s_fF fM172 (by decide) (ea176)
        refine y_iadd C dX12_reckons_134 ?_
        refine j_iload C 3 dX12_reckons_135 rfl ?_
        refine y_iadd C dX12_reckons_137 ?_
        refine y_ialdF C 45 3543 rfl rfl rfl ak_45 an_45 rfl dX12_reckons_138 (by omega) (fun a177 ea177 la177 ua177 => ?_)
        obtain rfl : a177 = (M0.1 99 (((281 + (M0.1 99 4).toInt) + a171)).toNat).toInt := s_fF fM172 (by decide) (ea177)
        refine j_istore C 7 [(7, .int (sI (M0.1 99 (((281 + (M0.1 99 4).toInt) + a171)).toNat).toInt)), (0, .ref (ad 98)), (1, .int (sI 0)), (5, .int (sI a170)), (6, .int (sI a171))] dX12_reckons_139 (by decide) rfl ?_
        have rka171 := rk_at (wdF (M0.1 99) a2 a3 a4) zwS0 a171 (by omega) (by omega)
        simp only [] at rka171
        refine j_iload C 0 dX12_reckons_141 rfl ?_
        refine y_sipush C dX12_reckons_143 rfl ?_
        refine y_icmp_ge C 186 dX12_reckons_146 (by decide) (by omega) (fun h180 => ?_) (fun h180 => ?_)
        · refine j_iload C 0 dX12_reckons_186 rfl ?_
          refine y_sipush C dX12_reckons_188 rfl ?_
          refine y_icmp_ne C 217 dX12_reckons_191 (by decide) (by omega) (fun h181 => ?_) (fun h181 => ?_)
          · refine y_iinc C 3 [(5, .int (sI (a170 + (-1)))), (7, .int (sI (M0.1 99 (((281 + (M0.1 99 4).toInt) + a171)).toNat).toInt)), (0, .ref (ad 98)), (1, .int (sI 0)), (6, .int (sI a171))] dX12_reckons_217 rfl (by decide) rfl ?_
            refine j_aload_n C 2 0 dX12_reckons_220 rfl rfl ?_
            refine y_getC C 11 103 fX12_reckons_30 rfl rfl ft_11_15 sm_11_15 rfl hM172 dX12_reckons_221 ?_
            refine j_iload C 0 dX12_reckons_224 rfl ?_
            refine y_iconst C dX12_reckons_226 ?_
            refine y_isub C dX12_reckons_227 ?_
            refine j_iload C 1 dX12_reckons_228 rfl ?_
            refine j_aload_n C 2 0 dX12_reckons_230 rfl rfl ?_
            refine y_getC C 11 103 fX12_reckons_30 rfl rfl ft_11_15 sm_11_15 rfl hM172 dX12_reckons_231 ?_
            refine j_iload C 0 dX12_reckons_234 rfl ?_
            refine y_iconst C dX12_reckons_236 ?_
            refine y_isub C dX12_reckons_237 ?_
            refine y_iald C 49 900 _ _ rfl rfl rfl ak_49 an_49 rfl (sb_49 _) hM172 dX12_reckons_238 (by omega) (fun a182 ea182 la182 ua182 => ?_)
            obtain rfl : a182 = (M172.1 103 (((a170 + (-1)) - 1)).toNat).toInt := ea182
            refine j_aload_n C 2 0 dX12_reckons_239 rfl rfl ?_
            refine y_getC C 11 103 fX12_reckons_30 rfl rfl ft_11_15 sm_11_15 rfl hM172 dX12_reckons_240 ?_
            refine j_iload C 0 dX12_reckons_243 rfl ?_
            refine y_iald C 49 900 _ _ rfl rfl rfl ak_49 an_49 rfl (sb_49 _) hM172 dX12_reckons_245 (by omega) (fun a183 ea183 la183 ua183 => ?_)
            obtain rfl : a183 = (M172.1 103 ((a170 + (-1))).toNat).toInt := ea183
            refine j_callSi C (d := 0) (As := [.int (sI (M0.1 99 (((281 + (M0.1 99 4).toInt) + a171)).toNat).toInt), .int (sI (M172.1 103 (((a170 + (-1)) - 1)).toNat).toInt), .int (sI (M172.1 103 ((a170 + (-1))).toNat).toInt)]) (st := [.int (sI ((a170 + (-1)) - 1)), .ref (ad 103)]) (s1_X12_between hM172 (M0.1 99 (((281 + (M0.1 99 4).toInt) + a171)).toNat).toInt (by omega) (M172.1 103 (((a170 + (-1)) - 1)).toNat).toInt (by omega) (M172.1 103 ((a170 + (-1))).toNat).toInt (by omega)) gX12_reckons_X12_between rfl hdX12_betweens (by decide) (Nat.le_of_ble_eq_true rfl) dX12_reckons_246 rfl (fun r184 M185 h186 => ?_)
            obtain ⟨a188, rfl, rfl, h187⟩ := h186
            obtain rfl : a188 = (btF (M0.1 99 (((281 + (M0.1 99 4).toInt) + a171)).toNat).toInt (M172.1 103 (((a170 + (-1)) - 1)).toNat).toInt (M172.1 103 ((a170 + (-1))).toNat).toInt) := by omega
            refine y_iastF C 49 900 rfl rfl rfl ak_49 an_49 rfl (sb_49 _) hM172 (PM.w hpr rfl rfl) dX12_reckons_249 (by omega) (fun M189 eM189 hM189 => ?_)
            have u190 := st_bin (W := (wdF (M0.1 99) a2 a3 a4)) (f := (M0.1 99)) (o := (281 + (M0.1 99 4).toInt)) (i := a171) eM189 (by omega) (by omega) rfl
            have u190w := wd_keep (W := (wdF (M0.1 99) a2 a3 a4)) eM189 (by omega)
            refine y_iinc C 4 [(6, .int (sI (a171 + 1))), (5, .int (sI (a170 + (-1)))), (7, .int (sI (M0.1 99 (((281 + (M0.1 99 4).toInt) + a171)).toNat).toInt)), (0, .ref (ad 98)), (1, .int (sI 0))] dX12_reckons_250 rfl (by decide) rfl ?_
            refine j_goto C 105 dX12_reckons_253 (by decide) ?_
            refine j_lv [3, 4, 1, 0] rfl ?_; exact ih168 (a170 + (-1)) (a171 + 1) M189 (by omega) hM189 ((FR.rf.tr fM172 (by decide)).wI eM189 (by decide))
          · refine j_aload_n C 1 0 dX12_reckons_194 rfl rfl ?_
            refine y_getC C 11 103 fX12_reckons_30 rfl rfl ft_11_15 sm_11_15 rfl hM172 dX12_reckons_195 ?_
            refine j_iload C 3 dX12_reckons_198 rfl ?_
            refine y_iconst C dX12_reckons_200 ?_
            refine y_isub C dX12_reckons_201 ?_
            refine y_iconst C dX12_reckons_202 ?_
            refine j_aload_n C 1 0 dX12_reckons_203 rfl rfl ?_
            refine y_getC C 11 103 fX12_reckons_30 rfl rfl ft_11_15 sm_11_15 rfl hM172 dX12_reckons_204 ?_
            refine j_iload C 3 dX12_reckons_207 rfl ?_
            refine y_iconst C dX12_reckons_209 ?_
            refine y_isub C dX12_reckons_210 ?_
            refine y_iald C 49 900 _ _ rfl rfl rfl ak_49 an_49 rfl (sb_49 _) hM172 dX12_reckons_211 (by omega) (fun a191 ea191 la191 ua191 => ?_)
            obtain rfl : a191 = (M172.1 103 ((a170 - 1)).toNat).toInt := ea191
            refine e_isub C dX12_reckons_212 (fun lb192 ub192 => ?_)
            refine y_iastF C 49 900 rfl rfl rfl ak_49 an_49 rfl (sb_49 _) hM172 (PM.w hpr rfl rfl) dX12_reckons_213 (by omega) (fun M193 eM193 hM193 => ?_)
            have u194 := st_not (W := (wdF (M0.1 99) a2 a3 a4)) (f := (M0.1 99)) (o := (281 + (M0.1 99 4).toInt)) (i := a171) eM193 (by omega) (by omega)
            have u195w := wd_keep (W := (wdF (M0.1 99) a2 a3 a4)) eM193 (by omega)
            refine j_goto C 250 dX12_reckons_214 (by decide) ?_
            refine y_iinc C 4 [(6, .int (sI (a171 + 1))), (7, .int (sI (M0.1 99 (((281 + (M0.1 99 4).toInt) + a171)).toNat).toInt)), (0, .ref (ad 98)), (1, .int (sI 0)), (5, .int (sI a170))] dX12_reckons_250 rfl (by decide) rfl ?_
            refine j_goto C 105 dX12_reckons_253 (by decide) ?_
            refine j_lv [2, 3, 4, 0] rfl ?_; exact ih168 a170 (a171 + 1) M193 (by omega) hM193 ((FR.rf.tr fM172 (by decide)).wI eM193 (by decide))
        · refine j_aload_n C 1 0 dX12_reckons_149 rfl rfl ?_
          refine y_getC C 11 103 fX12_reckons_30 rfl rfl ft_11_15 sm_11_15 rfl hM172 dX12_reckons_150 ?_
          refine j_iload C 3 dX12_reckons_153 rfl ?_
          refine j_iload C 0 dX12_reckons_155 rfl ?_
          refine y_sipush C dX12_reckons_157 rfl ?_
          refine y_icmp_ge C 168 dX12_reckons_160 (by decide) (by omega) (fun h197 => ?_) (fun h197 => ?_)
          · refine j_aload_n C 1 0 dX12_reckons_168 rfl rfl ?_
            refine y_getC C 11 104 fX12_reckons_33 rfl rfl ft_11_16 sm_11_16 rfl hM172 dX12_reckons_169 ?_
            refine j_iload C 0 dX12_reckons_172 rfl ?_
            refine y_sipush C dX12_reckons_174 rfl ?_
            refine y_isub C dX12_reckons_177 ?_
            refine y_iald C 50 8 _ _ rfl rfl rfl ak_50 an_50 rfl (sb_50 _) hM172 dX12_reckons_178 (by omega) (fun a198 ea198 la198 ua198 => ?_)
            obtain rfl : a198 = (M172.1 104 (((M0.1 99 (((281 + (M0.1 99 4).toInt) + a171)).toNat).toInt - 1000)).toNat).toInt := ea198
            have u199a := pvF_s (wdF (M0.1 99) a2 a3 a4) (M0.1 99 (((281 + (M0.1 99 4).toInt) + a171)).toNat).toInt
            have u200b := fun q1 q2 => wd_get (M := M172) (W := (wdF (M0.1 99) a2 a3 a4)) (by omega) ((M0.1 99 (((281 + (M0.1 99 4).toInt) + a171)).toNat).toInt - 1000) q1 q2
            refine y_iastF C 49 900 rfl rfl rfl ak_49 an_49 rfl (sb_49 _) hM172 (PM.w hpr rfl rfl) dX12_reckons_179 (by omega) (fun M201 eM201 hM201 => ?_)
            have u202 := st_push (W := (wdF (M0.1 99) a2 a3 a4)) (f := (M0.1 99)) (o := (281 + (M0.1 99 4).toInt)) (i := a171) eM201 (by omega) (by omega)
            have u203w := wd_keep (W := (wdF (M0.1 99) a2 a3 a4)) eM201 (by omega)
            refine y_iinc C 3 [(5, .int (sI (a170 + 1))), (7, .int (sI (M0.1 99 (((281 + (M0.1 99 4).toInt) + a171)).toNat).toInt)), (0, .ref (ad 98)), (1, .int (sI 0)), (6, .int (sI a171))] dX12_reckons_180 rfl (by decide) rfl ?_
            refine j_goto C 250 dX12_reckons_183 (by decide) ?_
            refine y_iinc C 4 [(6, .int (sI (a171 + 1))), (5, .int (sI (a170 + 1))), (7, .int (sI (M0.1 99 (((281 + (M0.1 99 4).toInt) + a171)).toNat).toInt)), (0, .ref (ad 98)), (1, .int (sI 0))] dX12_reckons_250 rfl (by decide) rfl ?_
            refine j_goto C 105 dX12_reckons_253 (by decide) ?_
            refine j_lv [3, 4, 1, 0] rfl ?_; exact ih168 (a170 + 1) (a171 + 1) M201 (by omega) hM201 ((FR.rf.tr fM172 (by decide)).wI eM201 (by decide))
          · refine j_iload C 0 dX12_reckons_163 rfl ?_
            refine j_goto C 179 dX12_reckons_165 (by decide) ?_
            have u205a := pvF_s (wdF (M0.1 99) a2 a3 a4) (M0.1 99 (((281 + (M0.1 99 4).toInt) + a171)).toNat).toInt
            have u206b := fun q1 q2 => wd_get (M := M172) (W := (wdF (M0.1 99) a2 a3 a4)) (by omega) ((M0.1 99 (((281 + (M0.1 99 4).toInt) + a171)).toNat).toInt - 1000) q1 q2
            refine y_iastF C 49 900 rfl rfl rfl ak_49 an_49 rfl (sb_49 _) hM172 (PM.w hpr rfl rfl) dX12_reckons_179 (by omega) (fun M207 eM207 hM207 => ?_)
            have u208 := st_push (W := (wdF (M0.1 99) a2 a3 a4)) (f := (M0.1 99)) (o := (281 + (M0.1 99 4).toInt)) (i := a171) eM207 (by omega) (by omega)
            have u209w := wd_keep (W := (wdF (M0.1 99) a2 a3 a4)) eM207 (by omega)
            refine y_iinc C 3 [(5, .int (sI (a170 + 1))), (7, .int (sI (M0.1 99 (((281 + (M0.1 99 4).toInt) + a171)).toNat).toInt)), (0, .ref (ad 98)), (1, .int (sI 0)), (6, .int (sI a171))] dX12_reckons_180 rfl (by decide) rfl ?_
            refine j_goto C 250 dX12_reckons_183 (by decide) ?_
            refine y_iinc C 4 [(6, .int (sI (a171 + 1))), (5, .int (sI (a170 + 1))), (7, .int (sI (M0.1 99 (((281 + (M0.1 99 4).toInt) + a171)).toNat).toInt)), (0, .ref (ad 98)), (1, .int (sI 0))] dX12_reckons_250 rfl (by decide) rfl ?_
            refine j_goto C 105 dX12_reckons_253 (by decide) ?_
            refine j_lv [3, 4, 1, 0] rfl ?_; exact ih168 (a170 + 1) (a171 + 1) M207 (by omega) hM207 ((FR.rf.tr fM172 (by decide)).wI eM207 (by decide))
  refine j_lv [2, 3, 1, 0] rfl ?_; exact L169 2010 0 0 M124 (by omega) hM124 ((((((((FR.rf.wI eM106 (by decide)).wI eM108 (by decide)).wI eM110 (by decide)).wI eM111 (by decide)).wI eM113 (by decide)).wI eM115 (by decide)).wI eM121 (by decide)).wI eM124 (by decide))
set_option maxHeartbeats 4000000 in
theorem s1_X12_wantsOf {l : Launch} {dC : Nat → ClassId} {dI : Nat → Nat → Nat} {ad : Nat → Nat} {cA : Nat → ClassId} {pr : Nat → Nat → Bool} {Kz : mm_M} {M0 : mm_M} (hM0 : INV pr Kz M0) (hpr : PM pr) (hcw : CWK pr Kz) (a1 : Int) (ha1 : -2147483648 ≤ a1 ∧ a1 ≤ 2147483647) (a2 : Int) (ha2 : -2147483648 ≤ a2 ∧ a2 ≤ 2147483647) (a3 : Int) (ha3 : -2147483648 ≤ a3 ∧ a3 ≤ 2147483647) (hp0 : 0 ≤ a1 ∧ a1 ≤ 5) (hp1 : 0 ≤ a2 ∧ a2 ≤ 7) : Ci l 2 yX12_wantsOf wsX12_wantsOf dC dI ad cA [.ref (ad 98), .int (sI a1), .int (sI a2), .int (sI a3)] M0 (fun r M' => ∃ a : Int, r = sI a ∧ INV pr Kz M' ∧ FR [103, 104] M0 M' ∧ (-2147483648) ≤ a ∧ a ≤ 2147483647 ∧ (a = (wtF (M0.1 99) a1 a2 a3))) := by
  refine ci_of (cc := cX12_wantsOf) (maxL := 4) (ty := .int) (lv := [(0, .ref (ad 98)), (1, .int (sI a1)), (2, .int (sI a2)), (3, .int (sI a3))]) (by decide) rfl (fun r M' hp => rfl) (Nat.le_of_ble_eq_true rfl) rfl ?_
  intro p e s m args below meth c A Q C hret
  refine j_aload_n C 0 0 dX12_wantsOf_0 rfl rfl ?_
  refine y_getC C 11 99 fX12_wantsOf_13 rfl rfl ft_11_1 sm_11_1 rfl hM0 dX12_wantsOf_1 ?_
  refine y_iconst C dX12_wantsOf_4 ?_
  refine y_ialdF C 45 3543 rfl rfl rfl ak_45 an_45 rfl dX12_wantsOf_5 (by omega) (fun a101 ea101 la101 ua101 => ?_)
  obtain rfl : a101 = (M0.1 99 2).toInt := ea101
  refine y_if_ne C 31 dX12_wantsOf_6 (by decide) (by omega) (fun h102 => ?_) (fun h102 => ?_)
  · refine j_aload_n C 0 0 dX12_wantsOf_31 rfl rfl ?_
    refine y_iconst C dX12_wantsOf_32 ?_
    refine j_iload_n C 1 1 dX12_wantsOf_33 rfl rfl ?_
    refine j_iload_n C 2 2 dX12_wantsOf_34 rfl rfl ?_
    refine j_iload_n C 3 3 dX12_wantsOf_35 rfl rfl ?_
    refine j_callVi C (d := 1) (As := [.int (sI 0), .int (sI a1), .int (sI a2), .int (sI a3)]) (st := []) 98 (s_lt rfl rfl) (s_kc (c := 11) rfl rfl) (by decide) rfl (s1_X12_reckons hM0 hpr hcw a1 (by omega) a2 (by omega) a3 (by omega) (by omega) (by omega) (by omega)) gX12_wantsOf_X12_reckons rfl hdX12_reckons (by decide) (Nat.le_of_ble_eq_true rfl) dX12_wantsOf_36 rfl (fun r103 M104 h105 => ?_)
    obtain ⟨a107, rfl, hM104, fM104, h106⟩ := h105
    obtain rfl : a107 = (rkF (M0.1 99) 0 a1 a2 a3) := by omega
    have u108 := wtF_s (M0.1 99) a1 a2 a3
    exact hret _ _ _ _ dX12_wantsOf_39 ⟨(rkF (M0.1 99) 0 a1 a2 a3), rfl, hM104, (FR.rf.tr fM104 (by decide)), by omega⟩
  · refine j_aload_n C 0 0 dX12_wantsOf_9 rfl rfl ?_
    refine y_getC C 11 99 fX12_wantsOf_13 rfl rfl ft_11_1 sm_11_1 rfl hM0 dX12_wantsOf_10 ?_
    refine y_bipush C dX12_wantsOf_13 rfl ?_
    refine j_iload_n C 1 1 dX12_wantsOf_15 rfl rfl ?_
    refine y_iadd C dX12_wantsOf_16 ?_
    refine y_ialdF C 45 3543 rfl rfl rfl ak_45 an_45 rfl dX12_wantsOf_17 (by omega) (fun a109 ea109 la109 ua109 => ?_)
    obtain rfl : a109 = (M0.1 99 ((8 + a1)).toNat).toInt := ea109
    refine j_aload_n C 0 0 dX12_wantsOf_18 rfl rfl ?_
    refine y_getC C 11 99 fX12_wantsOf_13 rfl rfl ft_11_1 sm_11_1 rfl hM0 dX12_wantsOf_19 ?_
    refine y_bipush C dX12_wantsOf_22 rfl ?_
    refine j_iload_n C 2 2 dX12_wantsOf_24 rfl rfl ?_
    refine y_iadd C dX12_wantsOf_25 ?_
    refine y_ialdF C 45 3543 rfl rfl rfl ak_45 an_45 rfl dX12_wantsOf_26 (by omega) (fun a110 ea110 la110 ua110 => ?_)
    obtain rfl : a110 = (M0.1 99 ((33 + a2)).toNat).toInt := ea110
    refine e_isub C dX12_wantsOf_27 (fun lb111 ub111 => ?_)
    refine j_goto C 39 dX12_wantsOf_28 (by decide) ?_
    have u112 := wtF_s (M0.1 99) a1 a2 a3
    exact hret _ _ _ _ dX12_wantsOf_39 ⟨(subI (M0.1 99 ((8 + a1)).toNat).toInt (M0.1 99 ((33 + a2)).toNat).toInt), rfl, hM0, FR.rf, by omega⟩
set_option maxHeartbeats 4000000 in
theorem s1_X12_wants {l : Launch} {dC : Nat → ClassId} {dI : Nat → Nat → Nat} {ad : Nat → Nat} {cA : Nat → ClassId} {pr : Nat → Nat → Bool} {Kz : mm_M} {M0 : mm_M} (hM0 : INV pr Kz M0) (hpr : PM pr) (hcw : CWK pr Kz) (a1 : Int) (ha1 : -2147483648 ≤ a1 ∧ a1 ≤ 2147483647) (a2 : Int) (ha2 : -2147483648 ≤ a2 ∧ a2 ≤ 2147483647) : Ci l 3 yX12_wants wsX12_wants dC dI ad cA [.ref (ad 98), .int (sI a1), .int (sI a2)] M0 (fun r M' => ∃ a : Int, r = sI a ∧ INV pr Kz M' ∧ FR [98, 103, 104] M0 M' ∧ (-2147483648) ≤ a ∧ a ≤ 2147483647) := by
  refine ci_of (cc := cX12_wants) (maxL := 3) (ty := .int) (lv := [(0, .ref (ad 98)), (1, .int (sI a1)), (2, .int (sI a2))]) (by decide) rfl (fun r M' hp => rfl) (Nat.le_of_ble_eq_true rfl) rfl ?_
  intro p e s m args below meth c A Q C hret
  refine j_aload_n C 0 0 dX12_wants_0 rfl rfl ?_
  refine y_iconst C dX12_wants_1 ?_
  refine y_putIF C 11 qX12_wants_1 rfl rfl ft_11_0 sb_11_0 hM0 (PM.w hpr rfl rfl) dX12_wants_2 (fun M101 eM101 hM101 => ?_)
  refine j_aload_n C 0 0 dX12_wants_5 rfl rfl ?_
  refine j_iload_n C 1 1 dX12_wants_6 rfl rfl ?_
  refine y_i2l C dX12_wants_7 (by omega) ?_
  refine j_callVi C (d := 1) (As := [.long (sJ a1)]) (st := []) 98 (s_lt rfl rfl) (s_kc (c := 11) rfl rfl) (by decide) rfl (s1_X12_isBuyer hM101 a1 (by omega)) gX12_wants_X12_isBuyer rfl hdX12_isBuyer (by decide) (Nat.le_of_ble_eq_true rfl) dX12_wants_8 rfl (fun r102 M103 h104 => ?_)
  obtain ⟨a106, rfl, rfl, h105⟩ := h104
  refine y_if_eq C 39 dX12_wants_11 (by decide) (by omega) (fun h107 => ?_) (fun h107 => ?_)
  · refine y_ldcw C (-99000002) dX12_wants_39 kX12_wants_258 rfl ?_
    exact hret _ _ _ _ dX12_wants_42 ⟨(-99000002), rfl, hM101, (FR.rf.wI eM101 (by decide)), by omega⟩
  · refine j_aload_n C 0 0 dX12_wants_14 rfl rfl ?_
    refine j_iload_n C 2 2 dX12_wants_15 rfl rfl ?_
    refine y_i2l C dX12_wants_16 (by omega) ?_
    refine j_callVi C (d := 1) (As := [.long (sJ a2)]) (st := []) 98 (s_lt rfl rfl) (s_kc (c := 11) rfl rfl) (by decide) rfl (s1_X12_isKind hM101 a2 (by omega)) gX12_wants_X12_isKind rfl hdX12_isKind (by decide) (Nat.le_of_ble_eq_true rfl) dX12_wants_17 rfl (fun r108 M109 h110 => ?_)
    obtain ⟨a112, rfl, rfl, h111⟩ := h110
    refine y_if_eq C 39 dX12_wants_20 (by decide) (by omega) (fun h113 => ?_) (fun h113 => ?_)
    · refine y_ldcw C (-99000002) dX12_wants_39 kX12_wants_258 rfl ?_
      exact hret _ _ _ _ dX12_wants_42 ⟨(-99000002), rfl, hM101, (FR.rf.wI eM101 (by decide)), by omega⟩
    · refine j_aload_n C 0 0 dX12_wants_23 rfl rfl ?_
      refine j_iload_n C 1 1 dX12_wants_24 rfl rfl ?_
      refine j_iload_n C 2 2 dX12_wants_25 rfl rfl ?_
      refine j_aload_n C 0 0 dX12_wants_26 rfl rfl ?_
      refine y_getC C 11 99 fX12_wants_13 rfl rfl ft_11_1 sm_11_1 rfl hM101 dX12_wants_27 ?_
      refine y_bipush C dX12_wants_30 rfl ?_
      refine y_ialdH C 45 3543 rfl rfl rfl ak_45 an_45 rfl _ _ hM101 (hr_45_27_27 _ (by omega) (by omega)) dX12_wants_32 (by omega) (fun a114 ea114 la114 ua114 => ?_)
      refine j_callVi C (d := 2) (As := [.int (sI a1), .int (sI a2), .int (sI a114)]) (st := []) 98 (s_lt rfl rfl) (s_kc (c := 11) rfl rfl) (by decide) rfl (s1_X12_wantsOf hM101 hpr hcw a1 (by omega) a2 (by omega) a114 (by omega) (by omega) (by omega)) gX12_wants_X12_wantsOf rfl hdX12_wantsOf (by decide) (Nat.le_of_ble_eq_true rfl) dX12_wants_33 rfl (fun r115 M116 h117 => ?_)
      obtain ⟨a119, rfl, hM116, fM116, h118⟩ := h117
      refine j_goto C 42 dX12_wants_36 (by decide) ?_
      exact hret _ _ _ _ dX12_wants_42 ⟨a119, rfl, hM116, ((FR.rf.wI eM101 (by decide)).tr fM116 (by decide)), by omega⟩
