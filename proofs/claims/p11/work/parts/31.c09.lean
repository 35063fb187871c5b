set_option maxHeartbeats 4000000 in
theorem s1_X7_together {l : Launch} {dC : Nat → ClassId} {dI : Nat → Nat → Nat} {ad : Nat → Nat} {cA : Nat → ClassId} {pr : Nat → Nat → Bool} {Kz : mm_M} {M0 : mm_M} (hM0 : INV pr Kz M0) {v0 : Nat} (cv0 : s_c v0 = 6) : Ci l 0 yX7_together wsX7_together dC dI ad cA [.ref (ad v0)] M0 (fun r M' => ∃ a : Int, r = sI a ∧ M0 = M' ∧ (-2147483648) ≤ a ∧ a ≤ 2147483647) := by
  refine ci_of (cc := cX7_together) (maxL := 3) (ty := .int) (lv := [(0, .ref (ad v0))]) (by decide) rfl (fun r M' hp => rfl) (Nat.le_of_ble_eq_true rfl) rfl ?_
  intro p e s m args below meth c A Q C hret
  refine y_iconst C dX7_together_0 ?_
  refine j_istore_n C 1 [(1, .int (sI 0)), (0, .ref (ad v0))] dX7_together_1 rfl (by decide) rfl ?_
  refine y_iconst C dX7_together_2 ?_
  refine j_istore_n C 2 [(2, .int (sI 0)), (1, .int (sI 0)), (0, .ref (ad v0))] dX7_together_3 rfl (by decide) rfl ?_
  have L158 : ∀ (n156 : Nat), ∀ (a159 : Int) (a160 : Int), ((-2147483648) ≤ a159 ∧ a159 ≤ 2147483647 ∧ 0 ≤ a160 ∧ a160 ≤ 6 ∧ (6 - a160) < (n156 : Int)) → jj p l e (cn_R 0) s m args below meth c 0 0 Q 3 dC dI ad cA A M0 4 [(0, .ref (ad v0)), (1, .int (sI a159)), (2, .int (sI a160))] [] := by
    intro n156
    induction n156 with
    | zero =>
      intro a159 a160 h161
      exfalso; omega
    | succ n156 ih157 =>
      intro a159 a160 h161
      refine j_iload_n C 2 2 dX7_together_4 rfl rfl ?_
      refine j_aload_n C 0 0 dX7_together_5 rfl rfl ?_
      refine y_getI C 6 _ _ fX7_together_9 cv0 rfl ft_6_0 sb_6_0 hM0 dX7_together_6 (fun a162 ea162 la162 ua162 => ?_)
      refine y_icmp_ge C 27 dX7_together_9 (by decide) (by (clear ih157 hret C cv0 hM0; omega)) (fun h164 => ?_) (fun h164 => ?_)
      · refine j_iload_n C 1 1 dX7_together_27 rfl rfl ?_
        exact hret _ _ _ _ dX7_together_28 ⟨a159, rfl, rfl, by exact ⟨h161.1, h161.2.1⟩⟩
      · refine j_iload_n C 1 1 dX7_together_12 rfl rfl ?_
        refine j_aload_n C 0 0 dX7_together_13 rfl rfl ?_
        refine y_getT C 6 23 fX7_together_25 cv0 rfl ft_6_4 rfl sm_6_4 st_6_4 (by decide) hM0 dX7_together_14 (fun v165 cv165 => ?_)
        refine j_iload_n C 2 2 dX7_together_17 rfl rfl ?_
        refine y_iald C 23 6 _ _ cv165 rfl rfl ak_23 an_23 rfl (sb_23 _) hM0 dX7_together_18 (by exact ⟨h161.2.2.1, (by (clear cv165 ih157 hret C cv0 hM0; omega))⟩) (fun a166 ea166 la166 ua166 => ?_)
        refine y_iadd0 C dX7_together_19 (fun a167 la167 ua167 => ?_)
        refine j_istore_n C 1 [(1, .int (sI a167)), (0, .ref (ad v0)), (2, .int (sI a160))] dX7_together_20 rfl (by decide) rfl ?_
        refine y_iinc C 2 [(2, .int (sI (a160 + 1))), (1, .int (sI a167)), (0, .ref (ad v0))] dX7_together_21 rfl (by decide) rfl ?_
        refine j_goto C 4 dX7_together_24 (by decide) ?_
        refine j_lv [2, 1, 0] rfl ?_; exact ih157 a167 (a160 + 1) (by exact ⟨la167, ⟨ua167, ⟨(by (clear ua166 la166 ea166 cv165 ih157 hret C cv0 hM0; omega)), ⟨(by (clear ua166 la166 ea166 cv165 ih157 hret C cv0 hM0; omega)), (by (clear ua166 la166 ea166 cv165 ih157 hret C cv0 hM0; omega))⟩⟩⟩⟩)
  refine j_lv [2, 1, 0] rfl ?_; exact L158 4294967306 0 0 (by exact ⟨(by decide), ⟨(by decide), ⟨(by decide), ⟨(by decide), (by decide)⟩⟩⟩⟩)
set_option maxHeartbeats 4000000 in
theorem s1_X11_isTray {l : Launch} {dC : Nat → ClassId} {dI : Nat → Nat → Nat} {ad : Nat → Nat} {cA : Nat → ClassId} {pr : Nat → Nat → Bool} {Kz : mm_M} {M0 : mm_M} (hM0 : INV pr Kz M0) (a0 : Int) (ha0 : -2147483648 ≤ a0 ∧ a0 ≤ 2147483647) : Ci l 0 yX11_isTray wsX11_isTray dC dI ad cA [.int (sI a0)] M0 (fun r M' => ∃ a : Int, r = sI a ∧ M0 = M' ∧ 0 ≤ a ∧ a ≤ 1 ∧ ((a0 < 0 ∧ a = 0) ∨ (0 ≤ a0 ∧ 4 ≤ a0 ∧ a = 0) ∨ (0 ≤ a0 ∧ a0 < 4 ∧ a = 1))) := by
  refine ci_of (cc := cX11_isTray) (maxL := 1) (ty := .boolean) (lv := [(0, .int (sI a0))]) (by decide) rfl (fun r M' hp => by obtain ⟨a, rfl, -, h⟩ := hp; rcases (show a = 0 ∨ a = 1 by omega) with rfl | rfl <;> rfl) (Nat.le_of_ble_eq_true rfl) rfl ?_
  intro p e s m args below meth c A Q C hret
  refine j_iload_n C 0 0 dX11_isTray_0 rfl rfl ?_
  refine y_if_lt C 13 dX11_isTray_1 (by decide) (by exact ⟨ha0.1, ha0.2⟩) (fun h101 => ?_) (fun h101 => ?_)
  · refine y_iconst C dX11_isTray_13 ?_
    exact hret _ _ _ _ dX11_isTray_14 ⟨0, rfl, rfl, by exact ⟨(by decide), ⟨(by decide), (by omega)⟩⟩⟩
  · refine j_iload_n C 0 0 dX11_isTray_4 rfl rfl ?_
    refine y_iconst C dX11_isTray_5 ?_
    refine y_icmp_ge C 13 dX11_isTray_6 (by decide) (by exact ⟨⟨ha0.1, ha0.2⟩, ⟨(by decide), (by decide)⟩⟩) (fun h102 => ?_) (fun h102 => ?_)
    · refine y_iconst C dX11_isTray_13 ?_
      exact hret _ _ _ _ dX11_isTray_14 ⟨0, rfl, rfl, by exact ⟨(by decide), ⟨(by decide), (by omega)⟩⟩⟩
    · refine y_iconst C dX11_isTray_9 ?_
      refine j_goto C 14 dX11_isTray_10 (by decide) ?_
      exact hret _ _ _ _ dX11_isTray_14 ⟨1, rfl, rfl, by exact ⟨(by decide), ⟨(by decide), (by omega)⟩⟩⟩
set_option maxHeartbeats 4000000 in
theorem s1_X10_isMissing {l : Launch} {dC : Nat → ClassId} {dI : Nat → Nat → Nat} {ad : Nat → Nat} {cA : Nat → ClassId} {pr : Nat → Nat → Bool} {Kz : mm_M} {M0 : mm_M} (hM0 : INV pr Kz M0) {v0 : Nat} (cv0 : s_c v0 = 9) : Ci l 0 yX10_isMissing wsX10_isMissing dC dI ad cA [.ref (ad v0)] M0 (fun r M' => ∃ a : Int, r = sI a ∧ M0 = M' ∧ 0 ≤ a ∧ a ≤ 1 ∧ ((0 ≤ (M0.1 v0 2).toInt ∧ (M0.1 v0 2).toInt ≤ 40 ∧ ¬ (M0.1 v0 2).toInt = (-1) ∧ a = 0) ∨ ((-1) ≤ (M0.1 v0 2).toInt ∧ (M0.1 v0 2).toInt ≤ (-1) ∧ (M0.1 v0 2).toInt = (-1) ∧ a = 1))) := by
  refine ci_of (cc := cX10_isMissing) (maxL := 1) (ty := .boolean) (lv := [(0, .ref (ad v0))]) (by decide) rfl (fun r M' hp => by obtain ⟨a, rfl, -, h⟩ := hp; rcases (show a = 0 ∨ a = 1 by omega) with rfl | rfl <;> rfl) (Nat.le_of_ble_eq_true rfl) rfl ?_
  intro p e s m args below meth c A Q C hret
  refine j_aload_n C 0 0 dX10_isMissing_0 rfl rfl ?_
  refine y_getI C 9 _ _ fX10_isMissing_19 cv0 rfl ft_9_2 sb_9_2 hM0 dX10_isMissing_1 (fun a101 ea101 la101 ua101 => ?_)
  refine y_iconst C dX10_isMissing_4 ?_
  refine y_icmp_ne C 12 dX10_isMissing_5 (by decide) (by exact ⟨⟨(by (clear hret C cv0 hM0; omega)), (by (clear hret C cv0 hM0; omega))⟩, ⟨(by decide), (by decide)⟩⟩) (fun h103 => ?_) (fun h103 => ?_)
  · refine y_iconst C dX10_isMissing_12 ?_
    exact hret _ _ _ _ dX10_isMissing_13 ⟨0, rfl, rfl, by exact ⟨(by decide), ⟨(by decide), (by (clear hret C cv0 hM0; omega))⟩⟩⟩
  · refine y_iconst C dX10_isMissing_8 ?_
    refine j_goto C 13 dX10_isMissing_9 (by decide) ?_
    exact hret _ _ _ _ dX10_isMissing_13 ⟨1, rfl, rfl, by exact ⟨(by decide), ⟨(by decide), (by omega)⟩⟩⟩
set_option maxHeartbeats 4000000 in
theorem s1_X10_size {l : Launch} {dC : Nat → ClassId} {dI : Nat → Nat → Nat} {ad : Nat → Nat} {cA : Nat → ClassId} {pr : Nat → Nat → Bool} {Kz : mm_M} {M0 : mm_M} (hM0 : INV pr Kz M0) {v0 : Nat} (cv0 : s_c v0 = 9) : Ci l 1 yX10_size wsX10_size dC dI ad cA [.ref (ad v0)] M0 (fun r M' => ∃ a : Int, r = sI a ∧ M0 = M' ∧ 0 ≤ a ∧ a ≤ 40 ∧ ((0 ≤ a ∧ a ≤ 40))) := by
  refine ci_of (cc := cX10_size) (maxL := 1) (ty := .int) (lv := [(0, .ref (ad v0))]) (by decide) rfl (fun r M' hp => rfl) (Nat.le_of_ble_eq_true rfl) rfl ?_
  intro p e s m args below meth c A Q C hret
  refine j_aload_n C 0 0 dX10_size_0 rfl rfl ?_
  refine y_getI C 9 _ _ fX10_size_19 cv0 rfl ft_9_2 sb_9_2 hM0 dX10_size_1 (fun a101 ea101 la101 ua101 => ?_)
  refine y_iconst C dX10_size_4 ?_
  refine y_mmax C wX10_size_22_0 wX10_size_22_1 wX10_size_22_2 wX10_size_22_3 (by decide) (Nat.le_of_ble_eq_true rfl) dX10_size_5 (by exact ⟨⟨(by (clear hret C cv0 hM0; omega)), (by (clear hret C cv0 hM0; omega))⟩, ⟨(by decide), (by decide)⟩⟩) (fun a103 ha103 => ?_)
  exact hret _ _ _ _ dX10_size_8 ⟨a103, rfl, rfl, by (clear hret C cv0 hM0; omega)⟩
set_option maxHeartbeats 4000000 in
theorem s1_X10_has {l : Launch} {dC : Nat → ClassId} {dI : Nat → Nat → Nat} {ad : Nat → Nat} {cA : Nat → ClassId} {pr : Nat → Nat → Bool} {Kz : mm_M} {M0 : mm_M} (hM0 : INV pr Kz M0) {v0 : Nat} (cv0 : s_c v0 = 9) (a1 : Int) (ha1 : -2147483648 ≤ a1 ∧ a1 ≤ 2147483647) : Ci l 0 yX10_has wsX10_has dC dI ad cA [.ref (ad v0), .int (sI a1)] M0 (fun r M' => ∃ a : Int, r = sI a ∧ M0 = M' ∧ 0 ≤ a ∧ a ≤ 1 ∧ ((a1 < 0 ∧ a = 0) ∨ ((-1) ≤ (M0.1 v0 2).toInt ∧ (M0.1 v0 2).toInt ≤ 40 ∧ 0 ≤ a1 ∧ (M0.1 v0 2).toInt ≤ a1 ∧ a = 0) ∨ (1 ≤ (M0.1 v0 2).toInt ∧ (M0.1 v0 2).toInt ≤ 40 ∧ 0 ≤ a1 ∧ a1 < (M0.1 v0 2).toInt ∧ a = 1))) := by
  refine ci_of (cc := cX10_has) (maxL := 2) (ty := .boolean) (lv := [(0, .ref (ad v0)), (1, .int (sI a1))]) (by decide) rfl (fun r M' hp => by obtain ⟨a, rfl, -, h⟩ := hp; rcases (show a = 0 ∨ a = 1 by omega) with rfl | rfl <;> rfl) (Nat.le_of_ble_eq_true rfl) rfl ?_
  intro p e s m args below meth c A Q C hret
  refine j_iload_n C 1 1 dX10_has_0 rfl rfl ?_
  refine y_if_lt C 16 dX10_has_1 (by decide) (by exact ⟨ha1.1, ha1.2⟩) (fun h101 => ?_) (fun h101 => ?_)
  · refine y_iconst C dX10_has_16 ?_
    exact hret _ _ _ _ dX10_has_17 ⟨0, rfl, rfl, by exact ⟨(by decide), ⟨(by decide), (by (clear hret C cv0 hM0; omega))⟩⟩⟩
  · refine j_iload_n C 1 1 dX10_has_4 rfl rfl ?_
    refine j_aload_n C 0 0 dX10_has_5 rfl rfl ?_
    refine y_getI C 9 _ _ fX10_has_19 cv0 rfl ft_9_2 sb_9_2 hM0 dX10_has_6 (fun a102 ea102 la102 ua102 => ?_)
    refine y_icmp_ge C 16 dX10_has_9 (by decide) (by exact ⟨⟨ha1.1, ha1.2⟩, ⟨(by (clear hret C cv0 hM0; omega)), (by (clear hret C cv0 hM0; omega))⟩⟩) (fun h104 => ?_) (fun h104 => ?_)
    · refine y_iconst C dX10_has_16 ?_
      exact hret _ _ _ _ dX10_has_17 ⟨0, rfl, rfl, by exact ⟨(by decide), ⟨(by decide), (by (clear hret C cv0 hM0; omega))⟩⟩⟩
    · refine y_iconst C dX10_has_12 ?_
      refine j_goto C 17 dX10_has_13 (by decide) ?_
      exact hret _ _ _ _ dX10_has_17 ⟨1, rfl, rfl, by exact ⟨(by decide), ⟨(by decide), (by (clear hret C cv0 hM0; omega))⟩⟩⟩
set_option maxHeartbeats 4000000 in
theorem s1_X10_numberAt {l : Launch} {dC : Nat → ClassId} {dI : Nat → Nat → Nat} {ad : Nat → Nat} {cA : Nat → ClassId} {pr : Nat → Nat → Bool} {Kz : mm_M} {M0 : mm_M} (hM0 : INV pr Kz M0) {v0 : Nat} (cv0 : s_c v0 = 9) (a1 : Int) (ha1 : -2147483648 ≤ a1 ∧ a1 ≤ 2147483647) : Cj l 1 yX10_numberAt wsX10_numberAt dC dI ad cA [.ref (ad v0), .int (sI a1)] M0 (fun r M' => ∃ a : Int, r = sJ a ∧ M0 = M' ∧ (-9223372036854775808) ≤ a ∧ a ≤ 9223372036854775807) := by
  refine cj_of (cc := cX10_numberAt) (maxL := 2) (lv := [(0, .ref (ad v0)), (1, .int (sI a1))]) (by decide) rfl (Nat.le_of_ble_eq_true rfl) rfl ?_
  intro p e s m args below meth c A Q C hret
  refine j_aload_n C 0 0 dX10_numberAt_0 rfl rfl ?_
  refine j_iload_n C 1 1 dX10_numberAt_1 rfl rfl ?_
  refine j_callVi C (d := 0) (As := [.int (sI a1)]) (st := []) v0 (s_lt cv0 rfl) (s_kc (c := 9) cv0 rfl) (by decide) rfl (s1_X10_has hM0 cv0 a1 (by exact ⟨ha1.1, ha1.2⟩)) gX10_numberAt_X10_has rfl hdX10_has (by decide) (Nat.le_of_ble_eq_true rfl) dX10_numberAt_2 rfl (fun r101 M102 h103 => ?_)
  obtain ⟨a105, rfl, rfl, h104⟩ := h103
  refine y_if_eq C 17 dX10_numberAt_5 (by decide) (by omega) (fun h106 => ?_) (fun h106 => ?_)
  · refine y_lconst C 0 dX10_numberAt_17 rfl ?_
    exact hret _ _ _ _ dX10_numberAt_18 ⟨0, rfl, rfl, by exact ⟨(by decide), (by decide)⟩⟩
  · refine j_aload_n C 0 0 dX10_numberAt_8 rfl rfl ?_
    refine y_getT C 9 29 fX10_numberAt_9 cv0 rfl ft_9_0 rfl sm_9_0 st_9_0 (by decide) hM0 dX10_numberAt_9 (fun v107 cv107 => ?_)
    refine j_iload_n C 1 1 dX10_numberAt_12 rfl rfl ?_
    refine y_lald C 29 40 cv107 rfl rfl ak_29 an_29 rfl dX10_numberAt_13 (by (clear cv107 hret C cv0 hM0; omega)) (fun a108 ea108 la108 ua108 => ?_)
    refine j_goto C 18 dX10_numberAt_14 (by decide) ?_
    exact hret _ _ _ _ dX10_numberAt_18 ⟨a108, rfl, rfl, by exact ⟨la108, ua108⟩⟩
set_option maxHeartbeats 4000000 in
theorem s1_X11_trayRefusal {l : Launch} {dC : Nat → ClassId} {dI : Nat → Nat → Nat} {ad : Nat → Nat} {cA : Nat → ClassId} {pr : Nat → Nat → Bool} {Kz : mm_M} {M0 : mm_M} (hM0 : INV pr Kz M0) (a1 : Int) (ha1 : -2147483648 ≤ a1 ∧ a1 ≤ 2147483647) : Ci l 1 yX11_trayRefusal wsX11_trayRefusal dC dI ad cA [.ref (ad 0), .int (sI a1)] M0 (fun r M' => ∃ a : Int, r = sI a ∧ M0 = M' ∧ (-6) ≤ a ∧ a ≤ 0 ∧ ((0 ≤ a1 ∧ a1 < 4 ∧ a = 0) ∨ (0 ≤ a1 ∧ a1 < 4 ∧ a = (-6)) ∨ (a = (-2)))) := by
  refine ci_of (cc := cX11_trayRefusal) (maxL := 2) (ty := .int) (lv := [(0, .ref (ad 0)), (1, .int (sI a1))]) (by decide) rfl (fun r M' hp => rfl) (Nat.le_of_ble_eq_true rfl) rfl ?_
  intro p e s m args below meth c A Q C hret
  refine j_iload_n C 1 1 dX11_trayRefusal_0 rfl rfl ?_
  refine j_callSi C (d := 0) (As := [.int (sI a1)]) (st := []) (s1_X11_isTray hM0 a1 (by exact ⟨ha1.1, ha1.2⟩)) gX11_trayRefusal_X11_isTray rfl hdX11_isTrays (by decide) (Nat.le_of_ble_eq_true rfl) dX11_trayRefusal_1 rfl (fun r101 M102 h103 => ?_)
  obtain ⟨a105, rfl, rfl, h104⟩ := h103
  refine y_if_ne C 10 dX11_trayRefusal_4 (by decide) (by omega) (fun h106 => ?_) (fun h106 => ?_)
  · refine j_aload_n C 0 0 dX11_trayRefusal_10 rfl rfl ?_
    refine y_getC C 10 50 fX11_trayRefusal_52 rfl rfl ft_10_9 sm_10_9 rfl hM0 dX11_trayRefusal_11 ?_
    refine j_iload_n C 1 1 dX11_trayRefusal_14 rfl rfl ?_
    refine y_aald C 28 4 9 rfl rfl rfl rfl an_28 rfl sma_28 sta_28 (by decide) hM0 dX11_trayRefusal_15 (by omega) (fun v107 cv107 => ?_)
    refine j_callVi C (d := 0) (As := []) (st := []) v107 (s_lt cv107 rfl) (s_kc (c := 9) cv107 rfl) (by decide) rfl (s1_X10_isMissing hM0 cv107) gX11_trayRefusal_X10_isMissing rfl hdX10_isMissing (by decide) (Nat.le_of_ble_eq_true rfl) dX11_trayRefusal_16 rfl (fun r108 M109 h110 => ?_)
    obtain ⟨a112, rfl, rfl, h111⟩ := h110
    refine y_if_eq C 27 dX11_trayRefusal_19 (by decide) (by omega) (fun h113 => ?_) (fun h113 => ?_)
    · refine y_iconst C dX11_trayRefusal_27 ?_
      exact hret _ _ _ _ dX11_trayRefusal_28 ⟨0, rfl, rfl, by exact ⟨(by decide), ⟨(by decide), (by (clear cv107 hret C hM0; omega))⟩⟩⟩
    · refine y_bipush C dX11_trayRefusal_22 rfl ?_
      refine j_goto C 28 dX11_trayRefusal_24 (by decide) ?_
      exact hret _ _ _ _ dX11_trayRefusal_28 ⟨(-6), rfl, rfl, by exact ⟨(by decide), ⟨(by decide), (by (clear cv107 hret C hM0; omega))⟩⟩⟩
  · refine y_bipush C dX11_trayRefusal_7 rfl ?_
    exact hret _ _ _ _ dX11_trayRefusal_9 ⟨(-2), rfl, rfl, by exact ⟨(by decide), ⟨(by decide), (by omega)⟩⟩⟩
set_option maxHeartbeats 4000000 in
theorem s1_X5_isShutAt {l : Launch} {dC : Nat → ClassId} {dI : Nat → Nat → Nat} {ad : Nat → Nat} {cA : Nat → ClassId} {pr : Nat → Nat → Bool} {Kz : mm_M} {M0 : mm_M} (hM0 : INV pr Kz M0) (a1 : Int) (ha1 : -2147483648 ≤ a1 ∧ a1 ≤ 2147483647) : Ci l 0 yX5_isShutAt wsX5_isShutAt dC dI ad cA [.ref (ad 88), .int (sI a1)] M0 (fun r M' => ∃ a : Int, r = sI a ∧ M0 = M' ∧ 0 ≤ a ∧ a ≤ 1 ∧ ((a = 0) ∨ (a = 1))) := by
  refine ci_of (cc := cX5_isShutAt) (maxL := 2) (ty := .boolean) (lv := [(0, .ref (ad 88)), (1, .int (sI a1))]) (by decide) rfl (fun r M' hp => by obtain ⟨a, rfl, -, h⟩ := hp; rcases (show a = 0 ∨ a = 1 by exact h.2.2) with rfl | rfl <;> rfl) (Nat.le_of_ble_eq_true rfl) rfl ?_
  intro p e s m args below meth c A Q C hret
  refine j_aload_n C 0 0 dX5_isShutAt_0 rfl rfl ?_
  refine y_getI C 4 _ _ fX5_isShutAt_42 rfl rfl ft_4_12 sb_4_12 hM0 dX5_isShutAt_1 (fun a101 ea101 la101 ua101 => ?_)
  refine j_iload_n C 1 1 dX5_isShutAt_4 rfl rfl ?_
  refine y_iconst C dX5_isShutAt_5 ?_
  refine y_not C dX5_isShutAt_6 ?_
  refine y_iandL C dX5_isShutAt_7 (by exact ⟨la101, (by omega)⟩) (fun a103 la103 ua103 => ?_)
  refine y_if_ne C 15 dX5_isShutAt_8 (by decide) (by (clear hret C ha1 hM0; omega)) (fun h104 => ?_) (fun h104 => ?_)
  · refine y_iconst C dX5_isShutAt_15 ?_
    exact hret _ _ _ _ dX5_isShutAt_16 ⟨0, rfl, rfl, by exact ⟨(by decide), ⟨(by decide), (by decide)⟩⟩⟩
  · refine y_iconst C dX5_isShutAt_11 ?_
    refine j_goto C 16 dX5_isShutAt_12 (by decide) ?_
    exact hret _ _ _ _ dX5_isShutAt_16 ⟨1, rfl, rfl, by exact ⟨(by decide), ⟨(by decide), (by decide)⟩⟩⟩
set_option maxHeartbeats 4000000 in
theorem s1_X5_pick {l : Launch} {dC : Nat → ClassId} {dI : Nat → Nat → Nat} {ad : Nat → Nat} {cA : Nat → ClassId} {pr : Nat → Nat → Bool} {Kz : mm_M} {M0 : mm_M} (hM0 : INV pr Kz M0) (a1 : Int) (ha1 : -2147483648 ≤ a1 ∧ a1 ≤ 2147483647) (a2 : Int) (ha2 : -2147483648 ≤ a2 ∧ a2 ≤ 2147483647) : Ci l 0 yX5_pick wsX5_pick dC dI ad cA [.ref (ad 88), .int (sI a1), .int (sI a2)] M0 (fun r M' => ∃ a : Int, r = sI a ∧ M0 = M' ∧ (-1) ≤ a ∧ a ≤ 7 ∧ ((a = (-1)) ∨ ((-1) ≤ a ∧ a ≤ 7))) := by
  refine ci_of (cc := cX5_pick) (maxL := 4) (ty := .int) (lv := [(0, .ref (ad 88)), (1, .int (sI a1)), (2, .int (sI a2))]) (by decide) rfl (fun r M' hp => rfl) (Nat.le_of_ble_eq_true rfl) rfl ?_
  intro p e s m args below meth c A Q C hret
  refine j_iload_n C 1 1 dX5_pick_0 rfl rfl ?_
  refine y_bipush C dX5_pick_1 rfl ?_
  refine y_imul0 C dX5_pick_3 (fun a101 la101 ua101 => ?_)
  refine j_iload_n C 2 2 dX5_pick_4 rfl rfl ?_
  refine y_iadd0 C dX5_pick_5 (fun a102 la102 ua102 => ?_)
  refine j_istore_n C 3 [(3, .int (sI a102)), (0, .ref (ad 88)), (1, .int (sI a1)), (2, .int (sI a2))] dX5_pick_6 rfl (by decide) rfl ?_
  refine j_iload_n C 0 3 dX5_pick_7 rfl rfl ?_
  refine y_if_lt C 29 dX5_pick_8 (by decide) (by exact ⟨la102, ua102⟩) (fun h103 => ?_) (fun h103 => ?_)
  · refine y_iconst C dX5_pick_29 ?_
    exact hret _ _ _ _ dX5_pick_30 ⟨(-1), rfl, rfl, by exact ⟨(by decide), ⟨(by decide), (by decide)⟩⟩⟩
  · refine j_iload_n C 0 3 dX5_pick_11 rfl rfl ?_
    refine j_aload_n C 1 0 dX5_pick_12 rfl rfl ?_
    refine y_getC C 4 89 fX5_pick_9 rfl rfl ft_4_1 sm_4_1 rfl hM0 dX5_pick_13 ?_
    refine y_alen C 38 1536 rfl rfl rfl an_38 rfl rfl dX5_pick_16 ?_
    refine y_icmp_ge C 29 dX5_pick_17 (by decide) (by exact ⟨⟨la102, ua102⟩, ⟨(by decide), (by decide)⟩⟩) (fun h104 => ?_) (fun h104 => ?_)
    · refine y_iconst C dX5_pick_29 ?_
      exact hret _ _ _ _ dX5_pick_30 ⟨(-1), rfl, rfl, by exact ⟨(by decide), ⟨(by decide), (by decide)⟩⟩⟩
    · refine j_aload_n C 1 0 dX5_pick_20 rfl rfl ?_
      refine y_getC C 4 89 fX5_pick_9 rfl rfl ft_4_1 sm_4_1 rfl hM0 dX5_pick_21 ?_
      refine j_iload_n C 0 3 dX5_pick_24 rfl rfl ?_
      refine y_iald C 38 1536 _ _ rfl rfl rfl ak_38 an_38 rfl (sb_38 _) hM0 dX5_pick_25 (by omega) (fun a105 ea105 la105 ua105 => ?_)
      refine j_goto C 30 dX5_pick_26 (by decide) ?_
      exact hret _ _ _ _ dX5_pick_30 ⟨a105, rfl, rfl, by exact ⟨la105, ⟨ua105, (by (clear h104 h103 ua102 la102 ua101 la101 hret C ha2 ha1 hM0; omega))⟩⟩⟩
set_option maxHeartbeats 4000000 in
theorem s1_X5_stepsFrom {l : Launch} {dC : Nat → ClassId} {dI : Nat → Nat → Nat} {ad : Nat → Nat} {cA : Nat → ClassId} {pr : Nat → Nat → Bool} {Kz : mm_M} {M0 : mm_M} (hM0 : INV pr Kz M0) (a1 : Int) (ha1 : -2147483648 ≤ a1 ∧ a1 ≤ 2147483647) (a2 : Int) (ha2 : -2147483648 ≤ a2 ∧ a2 ≤ 2147483647) (hp0 : 0 ≤ a1 ∧ a1 ≤ 255) : Ci l 1 yX5_stepsFrom wsX5_stepsFrom dC dI ad cA [.ref (ad 88), .int (sI a1), .int (sI a2)] M0 (fun r M' => ∃ a : Int, r = sI a ∧ M0 = M' ∧ (-2147483648) ≤ a ∧ a ≤ 2147483647) := by
  refine ci_of (cc := cX5_stepsFrom) (maxL := 7) (ty := .int) (lv := [(0, .ref (ad 88)), (1, .int (sI a1)), (2, .int (sI a2))]) (by decide) rfl (fun r M' hp => rfl) (Nat.le_of_ble_eq_true rfl) rfl ?_
  intro p e s m args below meth c A Q C hret
  refine y_iconst C dX5_stepsFrom_0 ?_
  refine j_istore_n C 3 [(3, .int (sI (-1))), (0, .ref (ad 88)), (1, .int (sI a1)), (2, .int (sI a2))] dX5_stepsFrom_1 rfl (by decide) rfl ?_
  refine y_iconst C dX5_stepsFrom_2 ?_
  refine j_istore C 4 [(4, .int (sI 0)), (3, .int (sI (-1))), (0, .ref (ad 88)), (1, .int (sI a1)), (2, .int (sI a2))] dX5_stepsFrom_3 (by decide) rfl ?_
  have L289 : ∀ (n287 : Nat), ∀ (a290 : Int) (a291 : Int), ((-2147483648) ≤ a290 ∧ a290 ≤ 2147483647 ∧ 0 ≤ a291 ∧ a291 ≤ 6 ∧ (6 - a291) < (n287 : Int)) → jj p l e (cn_R 1) s m args below meth c 0 0 Q 7 dC dI ad cA A M0 5 [(0, .ref (ad 88)), (1, .int (sI a1)), (2, .int (sI a2)), (3, .int (sI a290)), (4, .int (sI a291))] [] := by
    intro n287
    induction n287 with
    | zero =>
      intro a290 a291 h292
      exfalso; omega
    | succ n287 ih288 =>
      intro a290 a291 h292
      refine j_iload C 4 dX5_stepsFrom_5 rfl ?_
      refine j_aload_n C 0 0 dX5_stepsFrom_7 rfl rfl ?_
      refine y_getM C 4 6 fX5_stepsFrom_52 rfl rfl ft_4_9 sm_4_9 (by decide) hM0 dX5_stepsFrom_8 (fun v293 ev293 cv293 => ?_)
      refine y_getI C 6 _ _ fX5_stepsFrom_92 cv293 rfl ft_6_0 sb_6_0 hM0 dX5_stepsFrom_11 (fun a294 ea294 la294 ua294 => ?_)
      refine y_icmp_ge C 92 dX5_stepsFrom_14 (by decide) (by (clear cv293 ev293 ih288 hret C hp0 ha2 ha1 hM0; omega)) (fun h296 => ?_) (fun h296 => ?_)
      · refine j_iload_n C 3 3 dX5_stepsFrom_92 rfl rfl ?_
        exact hret _ _ _ _ dX5_stepsFrom_93 ⟨a290, rfl, rfl, by exact ⟨h292.1, h292.2.1⟩⟩
      · refine j_aload_n C 0 0 dX5_stepsFrom_17 rfl rfl ?_
        refine j_iload_n C 1 1 dX5_stepsFrom_18 rfl rfl ?_
        refine j_iload C 4 dX5_stepsFrom_19 rfl ?_
        refine j_callVi C (d := 0) (As := [.int (sI a1), .int (sI a291)]) (st := []) 88 (s_lt rfl rfl) (s_kc (c := 4) rfl rfl) (by decide) rfl (s1_X5_pick hM0 a1 (by exact ⟨ha1.1, ha1.2⟩) a291 (by omega)) gX5_stepsFrom_X5_pick rfl hdX5_pick (by decide) (Nat.le_of_ble_eq_true rfl) dX5_stepsFrom_21 rfl (fun r297 M298 h299 => ?_)
        obtain ⟨a301, rfl, rfl, h300⟩ := h299
        refine j_istore C 5 [(5, .int (sI a301)), (0, .ref (ad 88)), (1, .int (sI a1)), (2, .int (sI a2)), (3, .int (sI a290)), (4, .int (sI a291))] dX5_stepsFrom_24 (by decide) rfl ?_
        refine j_iload_n C 3 2 dX5_stepsFrom_26 rfl rfl ?_
        refine j_iload C 5 dX5_stepsFrom_27 rfl ?_
        refine y_ishr0 C dX5_stepsFrom_29 (fun a302 la302 ua302 => ?_)
        refine y_iconst C dX5_stepsFrom_30 ?_
        refine y_iandR C dX5_stepsFrom_31 (by exact ⟨(by decide), (by decide)⟩) (fun a303 la303 ua303 => ?_)
        refine y_iconst C dX5_stepsFrom_32 ?_
        refine y_icmp_ne C 86 dX5_stepsFrom_33 (by decide) (by exact ⟨⟨(by (clear ua302 la302 h300 h296 ua294 la294 ea294 cv293 ev293 h292 ih288 hret C hp0 ha2 ha1 hM0; omega)), (by (clear ua302 la302 h300 h296 ua294 la294 ea294 cv293 ev293 h292 ih288 hret C hp0 ha2 ha1 hM0; omega))⟩, ⟨(by decide), (by decide)⟩⟩) (fun h304 => ?_) (fun h304 => ?_)
        · refine y_iinc C 5 [(4, .int (sI (a291 + 1))), (5, .int (sI a301)), (0, .ref (ad 88)), (1, .int (sI a1)), (2, .int (sI a2)), (3, .int (sI a290))] dX5_stepsFrom_86 rfl (by decide) rfl ?_
          refine j_goto C 5 dX5_stepsFrom_89 (by decide) ?_
          refine j_lv [2, 3, 4, 5, 0] rfl ?_; exact ih288 a290 (a291 + 1) (by exact ⟨h292.1, ⟨h292.2.1, ⟨(by (clear h304 ua303 la303 ua302 la302 h300 cv293 ev293 ih288 hret C hp0 ha2 ha1 hM0; omega)), ⟨(by (clear h304 ua303 la303 ua302 la302 h300 cv293 ev293 ih288 hret C hp0 ha2 ha1 hM0; omega)), (by (clear h304 ua303 la303 ua302 la302 h300 cv293 ev293 ih288 hret C hp0 ha2 ha1 hM0; omega))⟩⟩⟩⟩)
        · refine j_iload C 0 dX5_stepsFrom_36 rfl ?_
          refine y_if_lt C 86 dX5_stepsFrom_38 (by decide) (by omega) (fun h305 => ?_) (fun h305 => ?_)
          · refine y_iinc C 5 [(4, .int (sI (a291 + 1))), (5, .int (sI a301)), (0, .ref (ad 88)), (1, .int (sI a1)), (2, .int (sI a2)), (3, .int (sI a290))] dX5_stepsFrom_86 rfl (by decide) rfl ?_
            refine j_goto C 5 dX5_stepsFrom_89 (by decide) ?_
            refine j_lv [2, 3, 4, 5, 0] rfl ?_; exact ih288 a290 (a291 + 1) (by exact ⟨h292.1, ⟨h292.2.1, ⟨(by omega), ⟨(by omega), (by omega)⟩⟩⟩⟩)
          · refine j_iload_n C 2 1 dX5_stepsFrom_41 rfl rfl ?_
            refine j_iload C 0 dX5_stepsFrom_42 rfl ?_
            refine y_ishrP C dX5_stepsFrom_44 (by exact ⟨hp0.1, ha1.2⟩) (fun a306 la306 ua306 => ?_)
            refine y_iconst C dX5_stepsFrom_45 ?_
            refine y_iandR C dX5_stepsFrom_46 (by exact ⟨(by decide), (by decide)⟩) (fun a307 la307 ua307 => ?_)
            refine y_if_ne C 86 dX5_stepsFrom_47 (by decide) (by (clear ua306 la306 h305 h304 ua303 la303 ua302 la302 h300 h296 ua294 la294 ea294 cv293 ev293 h292 ih288 hret C hp0 ha2 ha1 hM0; omega)) (fun h308 => ?_) (fun h308 => ?_)
            · refine y_iinc C 5 [(4, .int (sI (a291 + 1))), (5, .int (sI a301)), (0, .ref (ad 88)), (1, .int (sI a1)), (2, .int (sI a2)), (3, .int (sI a290))] dX5_stepsFrom_86 rfl (by decide) rfl ?_
              refine j_goto C 5 dX5_stepsFrom_89 (by decide) ?_
              refine j_lv [2, 3, 4, 5, 0] rfl ?_; exact ih288 a290 (a291 + 1) (by exact ⟨h292.1, ⟨h292.2.1, ⟨(by (clear h308 ua307 la307 ua306 la306 h305 h304 ua303 la303 ua302 la302 h300 cv293 ev293 ih288 hret C hp0 ha2 ha1 hM0; omega)), ⟨(by (clear h308 ua307 la307 ua306 la306 h305 h304 ua303 la303 ua302 la302 h300 cv293 ev293 ih288 hret C hp0 ha2 ha1 hM0; omega)), (by (clear h308 ua307 la307 ua306 la306 h305 h304 ua303 la303 ua302 la302 h300 cv293 ev293 ih288 hret C hp0 ha2 ha1 hM0; omega))⟩⟩⟩⟩)
            · refine j_aload_n C 1 0 dX5_stepsFrom_50 rfl rfl ?_
              refine y_getC C 4 91 fX5_stepsFrom_18 rfl rfl ft_4_3 sm_4_3 rfl hM0 dX5_stepsFrom_51 ?_
              refine j_iload_n C 2 1 dX5_stepsFrom_54 rfl rfl ?_
              refine y_iconst C dX5_stepsFrom_55 ?_
              refine j_iload C 0 dX5_stepsFrom_56 rfl ?_
              refine y_shl1 C 7 128 dX5_stepsFrom_58 rfl (by decide) (by (clear h308 ua307 la307 ua306 la306 h304 ua303 la303 ua302 la302 h296 ua294 la294 ea294 cv293 ev293 h292 ih288 hret C hp0 ha2 ha1 hM0; omega)) (fun a309 la309 ua309 => ?_)
              refine y_iorN C 8 255 dX5_stepsFrom_59 rfl (by decide) (by exact ⟨hp0.1, ⟨hp0.2, ⟨(by (clear h308 ua307 la307 ua306 la306 h305 h304 ua303 la303 ua302 la302 h300 h296 ua294 la294 ea294 cv293 ev293 h292 ih288 hret C ha2 hM0; omega)), (by (clear h308 ua307 la307 ua306 la306 h305 h304 ua303 la303 ua302 la302 h300 h296 ua294 la294 ea294 cv293 ev293 h292 ih288 hret C ha2 hM0; omega))⟩⟩⟩) (fun a310 la310 ua310 => ?_)
              refine y_iald C 40 256 _ _ rfl rfl rfl ak_40 an_40 rfl (sb_40 _) hM0 dX5_stepsFrom_60 (by exact ⟨la310, (by (clear ua309 la309 h308 ua307 la307 ua306 la306 h305 h304 ua303 la303 ua302 la302 h300 h296 ua294 la294 ea294 cv293 ev293 h292 ih288 hret C hp0 ha2 ha1 hM0; omega))⟩) (fun a311 ea311 la311 ua311 => ?_)
              refine j_istore C 6 [(6, .int (sI a311)), (5, .int (sI a301)), (0, .ref (ad 88)), (1, .int (sI a1)), (2, .int (sI a2)), (3, .int (sI a290)), (4, .int (sI a291))] dX5_stepsFrom_61 (by decide) rfl ?_
              refine j_iload C 0 dX5_stepsFrom_63 rfl ?_
              refine y_if_lt C 86 dX5_stepsFrom_65 (by decide) (by exact ⟨la311, ua311⟩) (fun h312 => ?_) (fun h312 => ?_)
              · refine y_iinc C 6 [(4, .int (sI (a291 + 1))), (6, .int (sI a311)), (5, .int (sI a301)), (0, .ref (ad 88)), (1, .int (sI a1)), (2, .int (sI a2)), (3, .int (sI a290))] dX5_stepsFrom_86 rfl (by decide) rfl ?_
                refine j_goto C 5 dX5_stepsFrom_89 (by decide) ?_
                refine j_lv [3, 4, 5, 6, 0] rfl ?_; exact ih288 a290 (a291 + 1) (by exact ⟨h292.1, ⟨h292.2.1, ⟨(by (clear h312 ua311 la311 ea311 ua310 la310 ua309 la309 h308 ua307 la307 ua306 la306 h305 h304 ua303 la303 ua302 la302 h300 cv293 ev293 ih288 hret C hp0 ha2 ha1 hM0; omega)), ⟨(by (clear h312 ua311 la311 ea311 ua310 la310 ua309 la309 h308 ua307 la307 ua306 la306 h305 h304 ua303 la303 ua302 la302 h300 cv293 ev293 ih288 hret C hp0 ha2 ha1 hM0; omega)), (by (clear h312 ua311 la311 ea311 ua310 la310 ua309 la309 h308 ua307 la307 ua306 la306 h305 h304 ua303 la303 ua302 la302 h300 cv293 ev293 ih288 hret C hp0 ha2 ha1 hM0; omega))⟩⟩⟩⟩)
              · refine j_iload_n C 5 3 dX5_stepsFrom_68 rfl rfl ?_
                refine y_iconst C dX5_stepsFrom_69 ?_
                refine y_icmp_eq C 81 dX5_stepsFrom_70 (by decide) (by exact ⟨⟨h292.1, h292.2.1⟩, ⟨(by decide), (by decide)⟩⟩) (fun h313 => ?_) (fun h313 => ?_)
                · refine j_iload C 0 dX5_stepsFrom_81 rfl ?_
                  refine y_iconst C dX5_stepsFrom_83 ?_
                  refine y_iadd0 C dX5_stepsFrom_84 (fun a314 la314 ua314 => ?_)
                  refine j_istore_n C 3 [(3, .int (sI a314)), (6, .int (sI a311)), (5, .int (sI a301)), (0, .ref (ad 88)), (1, .int (sI a1)), (2, .int (sI a2)), (4, .int (sI a291))] dX5_stepsFrom_85 rfl (by decide) rfl ?_
                  refine y_iinc C 6 [(4, .int (sI (a291 + 1))), (3, .int (sI a314)), (6, .int (sI a311)), (5, .int (sI a301)), (0, .ref (ad 88)), (1, .int (sI a1)), (2, .int (sI a2))] dX5_stepsFrom_86 rfl (by decide) rfl ?_
                  refine j_goto C 5 dX5_stepsFrom_89 (by decide) ?_
                  refine j_lv [4, 5, 6, 1, 0] rfl ?_; exact ih288 a314 (a291 + 1) (by exact ⟨la314, ⟨ua314, ⟨(by (clear h313 h312 ua311 la311 ea311 ua310 la310 ua309 la309 h308 ua307 la307 ua306 la306 h305 h304 ua303 la303 ua302 la302 h300 cv293 ev293 ih288 hret C hp0 ha2 ha1 hM0; omega)), ⟨(by (clear h313 h312 ua311 la311 ea311 ua310 la310 ua309 la309 h308 ua307 la307 ua306 la306 h305 h304 ua303 la303 ua302 la302 h300 cv293 ev293 ih288 hret C hp0 ha2 ha1 hM0; omega)), (by (clear h313 h312 ua311 la311 ea311 ua310 la310 ua309 la309 h308 ua307 la307 ua306 la306 h305 h304 ua303 la303 ua302 la302 h300 cv293 ev293 ih288 hret C hp0 ha2 ha1 hM0; omega))⟩⟩⟩⟩)
                · refine j_iload C 0 dX5_stepsFrom_73 rfl ?_
                  refine y_iconst C dX5_stepsFrom_75 ?_
                  refine y_iadd0 C dX5_stepsFrom_76 (fun a315 la315 ua315 => ?_)
                  refine j_iload_n C 5 3 dX5_stepsFrom_77 rfl rfl ?_
                  refine y_icmp_ge C 86 dX5_stepsFrom_78 (by decide) (by exact ⟨⟨la315, ua315⟩, ⟨h292.1, h292.2.1⟩⟩) (fun h316 => ?_) (fun h316 => ?_)
                  · refine y_iinc C 6 [(4, .int (sI (a291 + 1))), (6, .int (sI a311)), (5, .int (sI a301)), (0, .ref (ad 88)), (1, .int (sI a1)), (2, .int (sI a2)), (3, .int (sI a290))] dX5_stepsFrom_86 rfl (by decide) rfl ?_
                    refine j_goto C 5 dX5_stepsFrom_89 (by decide) ?_
                    refine j_lv [3, 4, 5, 6, 0] rfl ?_; exact ih288 a290 (a291 + 1) (by exact ⟨h292.1, ⟨h292.2.1, ⟨(by (clear h316 ua315 la315 h313 h312 ua311 la311 ea311 ua310 la310 ua309 la309 h308 ua307 la307 ua306 la306 h305 h304 ua303 la303 ua302 la302 h300 cv293 ev293 ih288 hret C hp0 ha2 ha1 hM0; omega)), ⟨(by (clear h316 ua315 la315 h313 h312 ua311 la311 ea311 ua310 la310 ua309 la309 h308 ua307 la307 ua306 la306 h305 h304 ua303 la303 ua302 la302 h300 cv293 ev293 ih288 hret C hp0 ha2 ha1 hM0; omega)), (by (clear h316 ua315 la315 h313 h312 ua311 la311 ea311 ua310 la310 ua309 la309 h308 ua307 la307 ua306 la306 h305 h304 ua303 la303 ua302 la302 h300 cv293 ev293 ih288 hret C hp0 ha2 ha1 hM0; omega))⟩⟩⟩⟩)
                  · refine j_iload C 0 dX5_stepsFrom_81 rfl ?_
                    refine y_iconst C dX5_stepsFrom_83 ?_
                    refine y_iadd0 C dX5_stepsFrom_84 (fun a317 la317 ua317 => ?_)
                    refine j_istore_n C 3 [(3, .int (sI a317)), (6, .int (sI a311)), (5, .int (sI a301)), (0, .ref (ad 88)), (1, .int (sI a1)), (2, .int (sI a2)), (4, .int (sI a291))] dX5_stepsFrom_85 rfl (by decide) rfl ?_
                    refine y_iinc C 6 [(4, .int (sI (a291 + 1))), (3, .int (sI a317)), (6, .int (sI a311)), (5, .int (sI a301)), (0, .ref (ad 88)), (1, .int (sI a1)), (2, .int (sI a2))] dX5_stepsFrom_86 rfl (by decide) rfl ?_
                    refine j_goto C 5 dX5_stepsFrom_89 (by decide) ?_
                    refine j_lv [4, 5, 6, 1, 0] rfl ?_; exact ih288 a317 (a291 + 1) (by exact ⟨la317, ⟨ua317, ⟨(by (clear h316 ua315 la315 h313 h312 ua311 la311 ea311 ua310 la310 ua309 la309 h308 ua307 la307 ua306 la306 h305 h304 ua303 la303 ua302 la302 h300 cv293 ev293 ih288 hret C hp0 ha2 ha1 hM0; omega)), ⟨(by (clear h316 ua315 la315 h313 h312 ua311 la311 ea311 ua310 la310 ua309 la309 h308 ua307 la307 ua306 la306 h305 h304 ua303 la303 ua302 la302 h300 cv293 ev293 ih288 hret C hp0 ha2 ha1 hM0; omega)), (by (clear h316 ua315 la315 h313 h312 ua311 la311 ea311 ua310 la310 ua309 la309 h308 ua307 la307 ua306 la306 h305 h304 ua303 la303 ua302 la302 h300 cv293 ev293 ih288 hret C hp0 ha2 ha1 hM0; omega))⟩⟩⟩⟩)
  refine j_lv [2, 3, 4, 1, 0] rfl ?_; exact L289 4294967306 (-1) 0 (by exact ⟨(by decide), ⟨(by decide), ⟨(by decide), ⟨(by decide), (by decide)⟩⟩⟩⟩)
