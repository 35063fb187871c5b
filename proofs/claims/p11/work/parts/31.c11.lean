set_option maxHeartbeats 4000000 in
theorem s1_X11_hundredths {l : Launch} {dC : Nat → ClassId} {dI : Nat → Nat → Nat} {ad : Nat → Nat} {cA : Nat → ClassId} {pr : Nat → Nat → Bool} {Kz : mm_M} {M0 : mm_M} (hM0 : INV pr Kz M0) (a0 : Int) (ha0 : -9223372036854775808 ≤ a0 ∧ a0 ≤ 9223372036854775807) (a2 : Int) (ha2 : -9223372036854775808 ≤ a2 ∧ a2 ≤ 9223372036854775807) : Cj l 0 yX11_hundredths wsX11_hundredths dC dI ad cA [.long (sJ a0), .long (sJ a2)] M0 (fun r M' => ∃ a : Int, r = sJ a ∧ M0 = M' ∧ (-9223372036854775808) ≤ a ∧ a ≤ 9223372036854775807) := by
  refine cj_of (cc := cX11_hundredths) (maxL := 8) (lv := [(0, .long (sJ a0)), (2, .long (sJ a2))]) (by decide) rfl (Nat.le_of_ble_eq_true rfl) rfl ?_
  intro p e s m args below meth c A Q C hret
  refine j_lload_n C 1 2 dX11_hundredths_0 rfl rfl ?_
  refine y_lconst C 0 dX11_hundredths_1 rfl ?_
  refine y_lcmp_gt C 8 dX11_hundredths_2 dX11_hundredths_3 (by decide) (by exact ⟨⟨ha2.1, ha2.2⟩, ⟨(by decide), (by decide)⟩⟩) (fun h101 => ?_) (fun h101 => ?_)
  · refine j_lload_n C 0 0 dX11_hundredths_8 rfl rfl ?_
    refine y_ldc2 C 10 dX11_hundredths_9 kX11_hundredths_318 rfl ?_
    refine y_lmul0 C dX11_hundredths_12 (fun a102 la102 ua102 => ?_)
    refine j_lload_n C 1 2 dX11_hundredths_13 rfl rfl ?_
    refine y_ldiv0 C dX11_hundredths_14 (by exact ⟨ha2.1, ⟨ha2.2, (by omega)⟩⟩) (fun a103 la103 ua103 => ?_)
    refine j_lstore C 4 [(4, .long (sJ a103)), (0, .long (sJ a0)), (2, .long (sJ a2))] dX11_hundredths_15 (by decide) rfl ?_
    refine j_lload_n C 1 0 dX11_hundredths_17 rfl rfl ?_
    refine y_ldc2 C 10 dX11_hundredths_18 kX11_hundredths_318 rfl ?_
    refine y_lmul0 C dX11_hundredths_21 (fun a104 la104 ua104 => ?_)
    refine j_lload_n C 2 2 dX11_hundredths_22 rfl rfl ?_
    refine y_lrem0 C dX11_hundredths_23 (by exact ⟨ha2.1, ⟨ha2.2, (by omega)⟩⟩) (fun a105 la105 ua105 => ?_)
    refine j_lstore C 6 [(6, .long (sJ a105)), (4, .long (sJ a103)), (0, .long (sJ a0)), (2, .long (sJ a2))] dX11_hundredths_24 (by decide) rfl ?_
    refine j_lload C 1 dX11_hundredths_26 rfl ?_
    refine y_ldc2 C 10 dX11_hundredths_28 kX11_hundredths_318 rfl ?_
    refine y_lmul0 C dX11_hundredths_31 (fun a106 la106 ua106 => ?_)
    refine j_lload C 0 dX11_hundredths_32 rfl ?_
    refine y_ldc2 C 10 dX11_hundredths_34 kX11_hundredths_318 rfl ?_
    refine y_lmul0 C dX11_hundredths_37 (fun a107 la107 ua107 => ?_)
    refine j_lload_n C 3 2 dX11_hundredths_38 rfl rfl ?_
    refine y_ldiv0 C dX11_hundredths_39 (by exact ⟨ha2.1, ⟨ha2.2, (by omega)⟩⟩) (fun a108 la108 ua108 => ?_)
    refine y_ladd0 C dX11_hundredths_40 (fun a109 la109 ua109 => ?_)
    exact hret _ _ _ _ dX11_hundredths_41 ⟨a109, rfl, rfl, by exact ⟨la109, ua109⟩⟩
  · refine y_lconst C 0 dX11_hundredths_6 rfl ?_
    exact hret _ _ _ _ dX11_hundredths_7 ⟨0, rfl, rfl, by exact ⟨(by decide), (by decide)⟩⟩
set_option maxHeartbeats 4000000 in
theorem s1_X5_soldWays {l : Launch} {dC : Nat → ClassId} {dI : Nat → Nat → Nat} {ad : Nat → Nat} {cA : Nat → ClassId} {pr : Nat → Nat → Bool} {Kz : mm_M} {M0 : mm_M} (hM0 : INV pr Kz M0) (a1 : Int) (ha1 : -2147483648 ≤ a1 ∧ a1 ≤ 2147483647) : Cj l 0 yX5_soldWays wsX5_soldWays dC dI ad cA [.ref (ad 88), .int (sI a1)] M0 (fun r M' => ∃ a : Int, r = sJ a ∧ M0 = M' ∧ (-9223372036854775808) ≤ a ∧ a ≤ 9223372036854775807) := by
  refine cj_of (cc := cX5_soldWays) (maxL := 5) (lv := [(0, .ref (ad 88)), (1, .int (sI a1))]) (by decide) rfl (Nat.le_of_ble_eq_true rfl) rfl ?_
  intro p e s m args below meth c A Q C hret
  refine y_lconst C 0 dX5_soldWays_0 rfl ?_
  refine j_lstore_n C 2 [(2, .long (sJ 0)), (0, .ref (ad 88)), (1, .int (sI a1))] dX5_soldWays_1 rfl (by decide) rfl ?_
  refine j_aload_n C 1 0 dX5_soldWays_2 rfl rfl ?_
  refine y_getI C 4 _ _ fX5_soldWays_45 rfl rfl ft_4_13 sb_4_13 hM0 dX5_soldWays_3 (fun a101 ea101 la101 ua101 => ?_)
  refine j_istore C 4 [(4, .int (sI a101)), (2, .long (sJ 0)), (0, .ref (ad 88)), (1, .int (sI a1))] dX5_soldWays_6 (by decide) rfl ?_
  have L126 : ∀ (n124 : Nat), ∀ (a127 : Int) (a128 : Int), ((-9223372036854775808) ≤ a127 ∧ a127 ≤ 9223372036854775807 ∧ 0 ≤ a128 ∧ a128 ≤ 256 ∧ (256 - a128) < (n124 : Int)) → jj p l e (cn_R 0) s m args below meth c 0 0 Q 5 dC dI ad cA A M0 8 [(0, .ref (ad 88)), (1, .int (sI a1)), (2, .long (sJ a127)), (4, .int (sI a128))] [] := by
    intro n124
    induction n124 with
    | zero =>
      intro a127 a128 h129
      exfalso; omega
    | succ n124 ih125 =>
      intro a127 a128 h129
      refine j_iload C 3 dX5_soldWays_8 rfl ?_
      refine j_aload_n C 0 0 dX5_soldWays_10 rfl rfl ?_
      refine y_getI C 4 _ _ fX5_soldWays_38 rfl rfl ft_4_11 sb_4_11 hM0 dX5_soldWays_11 (fun a130 ea130 la130 ua130 => ?_)
      refine y_icmp_gt C 47 dX5_soldWays_14 (by decide) (by (clear ih125 ua101 la101 ea101 hret C ha1 hM0; omega)) (fun h132 => ?_) (fun h132 => ?_)
      · refine j_lload_n C 2 2 dX5_soldWays_47 rfl rfl ?_
        exact hret _ _ _ _ dX5_soldWays_48 ⟨a127, rfl, rfl, by exact ⟨h129.1, h129.2.1⟩⟩
      · refine j_lload_n C 2 2 dX5_soldWays_17 rfl rfl ?_
        refine j_iload C 3 dX5_soldWays_18 rfl ?_
        refine j_iload_n C 1 1 dX5_soldWays_20 rfl rfl ?_
        refine y_ishrP C dX5_soldWays_21 (by exact ⟨h129.2.2.1, (by omega)⟩) (fun a133 la133 ua133 => ?_)
        refine y_iconst C dX5_soldWays_22 ?_
        refine y_iandR C dX5_soldWays_23 (by exact ⟨(by decide), (by decide)⟩) (fun a134 la134 ua134 => ?_)
        refine y_iconst C dX5_soldWays_24 ?_
        refine y_icmp_ne C 38 dX5_soldWays_25 (by decide) (by exact ⟨⟨(by (clear ua133 la133 h132 ua130 la130 ea130 h129 ih125 ua101 la101 ea101 hret C ha1 hM0; omega)), (by (clear ua133 la133 h132 ua130 la130 ea130 h129 ih125 ua101 la101 ea101 hret C ha1 hM0; omega))⟩, ⟨(by decide), (by decide)⟩⟩) (fun h135 => ?_) (fun h135 => ?_)
        · refine y_lconst C 0 dX5_soldWays_38 rfl ?_
          refine y_ladd C dX5_soldWays_39 ?_
          refine j_lstore_n C 2 [(2, .long (sJ (a127 + 0))), (0, .ref (ad 88)), (1, .int (sI a1)), (4, .int (sI a128))] dX5_soldWays_40 rfl (by decide) rfl ?_
          refine y_iinc C 3 [(4, .int (sI (a128 + 1))), (2, .long (sJ (a127 + 0))), (0, .ref (ad 88)), (1, .int (sI a1))] dX5_soldWays_41 rfl (by decide) rfl ?_
          refine j_goto C 8 dX5_soldWays_44 (by decide) ?_
          refine j_lv [2, 3, 1, 0] rfl ?_; exact ih125 (a127 + 0) (a128 + 1) (by (clear h135 ua134 la134 ua133 la133 ih125 ua101 la101 ea101 hret C ha1 hM0; omega))
        · refine j_aload_n C 0 0 dX5_soldWays_28 rfl rfl ?_
          refine y_getM C 4 41 fX5_soldWays_21 rfl rfl ft_4_4 sm_4_4 (by decide) hM0 dX5_soldWays_29 (fun v136 ev136 cv136 => ?_)
          refine j_iload C 3 dX5_soldWays_32 rfl ?_
          refine y_lald C 41 256 cv136 rfl rfl ak_41 an_41 rfl dX5_soldWays_34 (by exact ⟨h129.2.2.1, (by (clear cv136 ev136 h135 ua134 la134 ua133 la133 ih125 ua101 la101 ea101 hret C ha1 hM0; omega))⟩) (fun a137 ea137 la137 ua137 => ?_)
          refine j_goto C 39 dX5_soldWays_35 (by decide) ?_
          refine y_ladd0 C dX5_soldWays_39 (fun a138 la138 ua138 => ?_)
          refine j_lstore_n C 2 [(2, .long (sJ a138)), (0, .ref (ad 88)), (1, .int (sI a1)), (4, .int (sI a128))] dX5_soldWays_40 rfl (by decide) rfl ?_
          refine y_iinc C 3 [(4, .int (sI (a128 + 1))), (2, .long (sJ a138)), (0, .ref (ad 88)), (1, .int (sI a1))] dX5_soldWays_41 rfl (by decide) rfl ?_
          refine j_goto C 8 dX5_soldWays_44 (by decide) ?_
          refine j_lv [2, 3, 1, 0] rfl ?_; exact ih125 a138 (a128 + 1) (by exact ⟨la138, ⟨ua138, ⟨(by (clear ua137 la137 ea137 cv136 ev136 h135 ua134 la134 ua133 la133 ih125 ua101 la101 ea101 hret C ha1 hM0; omega)), ⟨(by (clear ua137 la137 ea137 cv136 ev136 h135 ua134 la134 ua133 la133 ih125 ua101 la101 ea101 hret C ha1 hM0; omega)), (by (clear ua137 la137 ea137 cv136 ev136 h135 ua134 la134 ua133 la133 ih125 ua101 la101 ea101 hret C ha1 hM0; omega))⟩⟩⟩⟩)
  refine j_lv [2, 3, 1, 0] rfl ?_; exact L126 2010 0 a101 (by exact ⟨(by decide), ⟨(by decide), ⟨la101, ⟨(by (clear L126 hret C ha1 hM0; omega)), (by (clear L126 hret C ha1 hM0; omega))⟩⟩⟩⟩)
set_option maxHeartbeats 4000000 in
theorem s1_X11_isHideable {l : Launch} {dC : Nat → ClassId} {dI : Nat → Nat → Nat} {ad : Nat → Nat} {cA : Nat → ClassId} {pr : Nat → Nat → Bool} {Kz : mm_M} {M0 : mm_M} (hM0 : INV pr Kz M0) (a1 : Int) (ha1 : -2147483648 ≤ a1 ∧ a1 ≤ 2147483647) (a2 : Int) (ha2 : -2147483648 ≤ a2 ∧ a2 ≤ 2147483647) : Ci l 1 yX11_isHideable wsX11_isHideable dC dI ad cA [.ref (ad 0), .int (sI a1), .int (sI a2)] M0 (fun r M' => ∃ a : Int, r = sI a ∧ M0 = M' ∧ 0 ≤ a ∧ a ≤ 1 ∧ ((a = 0) ∨ (a = 1))) := by
  refine ci_of (cc := cX11_isHideable) (maxL := 3) (ty := .boolean) (lv := [(0, .ref (ad 0)), (1, .int (sI a1)), (2, .int (sI a2))]) (by decide) rfl (fun r M' hp => by obtain ⟨a, rfl, -, h⟩ := hp; rcases (show a = 0 ∨ a = 1 by exact h.2.2) with rfl | rfl <;> rfl) (Nat.le_of_ble_eq_true rfl) rfl ?_
  intro p e s m args below meth c A Q C hret
  refine j_iload_n C 1 1 dX11_isHideable_0 rfl rfl ?_
  refine j_callSi C (d := 0) (As := [.int (sI a1)]) (st := []) (s1_J6_bitCount_0f7a4 hM0 a1 (by exact ⟨ha1.1, ha1.2⟩)) gX11_isHideable_J6_bitCount_0f7a4 rfl hdJ6_bitCount_0f7a4s (by decide) (Nat.le_of_ble_eq_true rfl) dX11_isHideable_1 rfl (fun r101 M102 h103 => ?_)
  obtain ⟨a105, rfl, rfl, h104⟩ := h103
  refine j_iload_n C 2 2 dX11_isHideable_4 rfl rfl ?_
  refine y_icmp_ne C 24 dX11_isHideable_5 (by decide) (by exact ⟨⟨(by (clear hret C ha1 hM0; omega)), (by (clear hret C ha1 hM0; omega))⟩, ⟨ha2.1, ha2.2⟩⟩) (fun h106 => ?_) (fun h106 => ?_)
  · refine y_iconst C dX11_isHideable_24 ?_
    exact hret _ _ _ _ dX11_isHideable_25 ⟨0, rfl, rfl, by exact ⟨(by decide), ⟨(by decide), (by decide)⟩⟩⟩
  · refine j_iload_n C 1 1 dX11_isHideable_8 rfl rfl ?_
    refine j_aload_n C 0 0 dX11_isHideable_9 rfl rfl ?_
    refine y_getC C 10 12 fX11_isHideable_36 rfl rfl ft_10_6 sm_10_6 rfl hM0 dX11_isHideable_10 ?_
    refine y_getI C 8 _ _ fX11_isHideable_153 rfl rfl ft_8_4 sb_8_4 hM0 dX11_isHideable_13 (fun a107 ea107 la107 ua107 => ?_)
    refine y_iandR C dX11_isHideable_16 (by exact ⟨la107, (by omega)⟩) (fun a109 la109 ua109 => ?_)
    refine y_if_ne C 24 dX11_isHideable_17 (by decide) (by (clear h106 h104 hret C ha2 ha1 hM0; omega)) (fun h110 => ?_) (fun h110 => ?_)
    · refine y_iconst C dX11_isHideable_24 ?_
      exact hret _ _ _ _ dX11_isHideable_25 ⟨0, rfl, rfl, by exact ⟨(by decide), ⟨(by decide), (by decide)⟩⟩⟩
    · refine y_iconst C dX11_isHideable_20 ?_
      refine j_goto C 25 dX11_isHideable_21 (by decide) ?_
      exact hret _ _ _ _ dX11_isHideable_25 ⟨1, rfl, rfl, by exact ⟨(by decide), ⟨(by decide), (by decide)⟩⟩⟩
set_option maxHeartbeats 4000000 in
theorem s1_X5_takersNow {l : Launch} {dC : Nat → ClassId} {dI : Nat → Nat → Nat} {ad : Nat → Nat} {cA : Nat → ClassId} {pr : Nat → Nat → Bool} {Kz : mm_M} {M0 : mm_M} (hM0 : INV pr Kz M0)  : Ci l 1 yX5_takersNow wsX5_takersNow dC dI ad cA [.ref (ad 88)] M0 (fun r M' => ∃ a : Int, r = sI a ∧ M0 = M' ∧ 0 ≤ a ∧ a ≤ 63) := by
  refine ci_of (cc := cX5_takersNow) (maxL := 3) (ty := .int) (lv := [(0, .ref (ad 88))]) (by decide) rfl (fun r M' hp => rfl) (Nat.le_of_ble_eq_true rfl) rfl ?_
  intro p e s m args below meth c A Q C hret
  refine y_iconst C dX5_takersNow_0 ?_
  refine j_istore_n C 1 [(1, .int (sI 0)), (0, .ref (ad 88))] dX5_takersNow_1 rfl (by decide) rfl ?_
  refine y_iconst C dX5_takersNow_2 ?_
  refine j_istore_n C 2 [(2, .int (sI 0)), (1, .int (sI 0)), (0, .ref (ad 88))] dX5_takersNow_3 rfl (by decide) rfl ?_
  have L215 : ∀ (n213 : Nat), ∀ (a216 : Int) (a217 : Int), (0 ≤ a216 ∧ a216 ≤ 63 ∧ 0 ≤ a217 ∧ a217 ≤ 6 ∧ (6 - a217) < (n213 : Int)) → jj p l e (cn_R 1) s m args below meth c 0 0 Q 3 dC dI ad cA A M0 4 [(0, .ref (ad 88)), (1, .int (sI a216)), (2, .int (sI a217))] [] := by
    intro n213
    induction n213 with
    | zero =>
      intro a216 a217 h218
      exfalso; omega
    | succ n213 ih214 =>
      intro a216 a217 h218
      refine j_iload_n C 2 2 dX5_takersNow_4 rfl rfl ?_
      refine j_aload_n C 0 0 dX5_takersNow_5 rfl rfl ?_
      refine y_getM C 4 6 fX5_takersNow_52 rfl rfl ft_4_9 sm_4_9 (by decide) hM0 dX5_takersNow_6 (fun v219 ev219 cv219 => ?_)
      refine y_getI C 6 _ _ fX5_takersNow_92 cv219 rfl ft_6_0 sb_6_0 hM0 dX5_takersNow_9 (fun a220 ea220 la220 ua220 => ?_)
      refine y_icmp_ge C 39 dX5_takersNow_12 (by decide) (by (clear cv219 ev219 ih214 hret C hM0; omega)) (fun h222 => ?_) (fun h222 => ?_)
      · refine j_iload_n C 1 1 dX5_takersNow_39 rfl rfl ?_
        exact hret _ _ _ _ dX5_takersNow_40 ⟨a216, rfl, rfl, by exact ⟨h218.1, h218.2.1⟩⟩
      · refine j_aload_n C 0 0 dX5_takersNow_15 rfl rfl ?_
        refine j_aload_n C 0 0 dX5_takersNow_16 rfl rfl ?_
        refine y_getI C 4 _ _ fX5_takersNow_45 rfl rfl ft_4_13 sb_4_13 hM0 dX5_takersNow_17 (fun a223 ea223 la223 ua223 => ?_)
        refine j_iload_n C 2 2 dX5_takersNow_20 rfl rfl ?_
        refine j_callVi C (d := 0) (As := [.int (sI a223), .int (sI a217)]) (st := []) 88 (s_lt rfl rfl) (s_kc (c := 4) rfl rfl) (by decide) rfl (s1_X5_pick hM0 a223 (by (clear h222 ua220 la220 ea220 cv219 ev219 h218 ih214 hret C hM0; omega)) a217 (by omega)) gX5_takersNow_X5_pick rfl hdX5_pick (by decide) (Nat.le_of_ble_eq_true rfl) dX5_takersNow_21 rfl (fun r225 M226 h227 => ?_)
        obtain ⟨a229, rfl, rfl, h228⟩ := h227
        refine y_if_lt C 33 dX5_takersNow_24 (by decide) (by omega) (fun h230 => ?_) (fun h230 => ?_)
        · refine y_iinc C 2 [(2, .int (sI (a217 + 1))), (0, .ref (ad 88)), (1, .int (sI a216))] dX5_takersNow_33 rfl (by decide) rfl ?_
          refine j_goto C 4 dX5_takersNow_36 (by decide) ?_
          refine j_lv [1, 2, 0] rfl ?_; exact ih214 a216 (a217 + 1) (by exact ⟨h218.1, ⟨h218.2.1, ⟨(by (clear h230 h228 ua223 la223 ea223 cv219 ev219 ih214 hret C hM0; omega)), ⟨(by (clear h230 h228 ua223 la223 ea223 cv219 ev219 ih214 hret C hM0; omega)), (by (clear h230 h228 ua223 la223 ea223 cv219 ev219 ih214 hret C hM0; omega))⟩⟩⟩⟩)
        · refine j_iload_n C 1 1 dX5_takersNow_27 rfl rfl ?_
          refine y_iconst C dX5_takersNow_28 ?_
          refine j_iload_n C 2 2 dX5_takersNow_29 rfl rfl ?_
          refine y_shl1 C 5 32 dX5_takersNow_30 rfl (by decide) (by exact ⟨h218.2.2.1, (by (clear h230 h228 ua223 la223 ea223 cv219 ev219 ih214 hret C hM0; omega))⟩) (fun a231 la231 ua231 => ?_)
          refine y_iorN C 6 63 dX5_takersNow_31 rfl (by decide) (by exact ⟨h218.1, ⟨h218.2.1, ⟨(by (clear h230 h228 ua223 la223 ea223 h222 ua220 la220 ea220 cv219 ev219 ih214 hret C hM0; omega)), (by (clear h230 h228 ua223 la223 ea223 h222 ua220 la220 ea220 cv219 ev219 ih214 hret C hM0; omega))⟩⟩⟩) (fun a232 la232 ua232 => ?_)
          refine j_istore_n C 1 [(1, .int (sI a232)), (0, .ref (ad 88)), (2, .int (sI a217))] dX5_takersNow_32 rfl (by decide) rfl ?_
          refine y_iinc C 2 [(2, .int (sI (a217 + 1))), (1, .int (sI a232)), (0, .ref (ad 88))] dX5_takersNow_33 rfl (by decide) rfl ?_
          refine j_goto C 4 dX5_takersNow_36 (by decide) ?_
          refine j_lv [2, 1, 0] rfl ?_; exact ih214 a232 (a217 + 1) (by exact ⟨la232, ⟨ua232, ⟨(by (clear ua231 la231 h230 h228 ua223 la223 ea223 cv219 ev219 ih214 hret C hM0; omega)), ⟨(by (clear ua231 la231 h230 h228 ua223 la223 ea223 cv219 ev219 ih214 hret C hM0; omega)), (by (clear ua231 la231 h230 h228 ua223 la223 ea223 cv219 ev219 ih214 hret C hM0; omega))⟩⟩⟩⟩)
  refine j_lv [2, 1, 0] rfl ?_; exact L215 2010 0 0 (by exact ⟨(by decide), ⟨(by decide), ⟨(by decide), ⟨(by decide), (by decide)⟩⟩⟩⟩)
set_option maxHeartbeats 4000000 in
theorem s1_X11_isSight {l : Launch} {dC : Nat → ClassId} {dI : Nat → Nat → Nat} {ad : Nat → Nat} {cA : Nat → ClassId} {pr : Nat → Nat → Bool} {Kz : mm_M} {M0 : mm_M} (hM0 : INV pr Kz M0) (a1 : Int) (ha1 : -9223372036854775808 ≤ a1 ∧ a1 ≤ 9223372036854775807) : Ci l 0 yX11_isSight wsX11_isSight dC dI ad cA [.ref (ad 0), .long (sJ a1)] M0 (fun r M' => ∃ a : Int, r = sI a ∧ M0 = M' ∧ 0 ≤ a ∧ a ≤ 1 ∧ ((a1 < 0 ∧ a = 0) ∨ (0 ≤ a1 ∧ 0 ≤ (a1 / 10) ∧ a = 0) ∨ (0 ≤ a1 ∧ (a1 / 10) < 6 ∧ a = 1) ∨ (0 ≤ (M0.1 12 0).toInt ∧ (M0.1 12 0).toInt ≤ 8 ∧ 0 ≤ a1 ∧ (a1 / 10) < 6 ∧ (M0.1 12 0).toInt ≤ 9223372036854775807 ∧ a = 0) ∨ (0 ≤ (M0.1 12 0).toInt ∧ (M0.1 12 0).toInt ≤ 8 ∧ 0 ≤ a1 ∧ (a1 / 10) < 6 ∧ (-9223372036854775808) < (M0.1 12 0).toInt ∧ a = 1))) := by
  refine ci_of (cc := cX11_isSight) (maxL := 5) (ty := .boolean) (lv := [(0, .ref (ad 0)), (1, .long (sJ a1))]) (by decide) rfl (fun r M' hp => by obtain ⟨a, rfl, -, h⟩ := hp; rcases (show a = 0 ∨ a = 1 by omega) with rfl | rfl <;> rfl) (Nat.le_of_ble_eq_true rfl) rfl ?_
  intro p e s m args below meth c A Q C hret
  refine j_lload_n C 1 1 dX11_isSight_0 rfl rfl ?_
  refine y_ldc2 C 10 dX11_isSight_1 kX11_isSight_318 rfl ?_
  refine y_lrem0 C dX11_isSight_4 (by exact ⟨(by decide), ⟨(by decide), (by decide)⟩⟩) (fun a101 la101 ua101 => ?_)
  refine j_lstore_n C 3 [(3, .long (sJ a101)), (0, .ref (ad 0)), (1, .long (sJ a1))] dX11_isSight_5 rfl (by decide) rfl ?_
  refine j_lload_n C 2 1 dX11_isSight_6 rfl rfl ?_
  refine y_lconst C 0 dX11_isSight_7 rfl ?_
  refine y_lcmp_lt C 54 dX11_isSight_8 dX11_isSight_9 (by decide) (by exact ⟨⟨ha1.1, ha1.2⟩, ⟨(by decide), (by decide)⟩⟩) (fun h102 => ?_) (fun h102 => ?_)
  · refine y_iconst C dX11_isSight_54 ?_
    exact hret _ _ _ _ dX11_isSight_55 ⟨0, rfl, rfl, by exact ⟨(by decide), ⟨(by decide), (by (clear ua101 la101 hret C hM0; omega))⟩⟩⟩
  · refine j_lload_n C 2 1 dX11_isSight_12 rfl rfl ?_
    refine y_ldc2 C 10 dX11_isSight_13 kX11_isSight_318 rfl ?_
    refine y_ldiv C dX11_isSight_16 (by exact ⟨(by (clear ua101 la101 hret C hM0; omega)), ⟨ha1.2, ⟨(by decide), (by decide)⟩⟩⟩) ?_
    refine j_aload_n C 1 0 dX11_isSight_17 rfl rfl ?_
    refine y_getM C 10 6 fX11_isSight_26 rfl rfl ft_10_4 sm_10_4 (by decide) hM0 dX11_isSight_18 (fun v103 ev103 cv103 => ?_)
    refine y_getI C 6 _ _ fX11_isSight_163 cv103 rfl ft_6_0 sb_6_0 hM0 dX11_isSight_21 (fun a104 ea104 la104 ua104 => ?_)
    refine y_i2l C dX11_isSight_24 (by (clear cv103 ev103 h102 ua101 la101 hret C ha1 hM0; omega)) ?_
    refine y_lcmp_ge C 54 dX11_isSight_25 dX11_isSight_26 (by decide) (by (clear cv103 ev103 ua101 la101 hret C hM0; omega)) (fun h106 => ?_) (fun h106 => ?_)
    · refine y_iconst C dX11_isSight_54 ?_
      exact hret _ _ _ _ dX11_isSight_55 ⟨0, rfl, rfl, by exact ⟨(by decide), ⟨(by decide), (by (clear cv103 ev103 ua101 la101 hret C hM0; omega))⟩⟩⟩
    · refine j_lload_n C 0 3 dX11_isSight_29 rfl rfl ?_
      refine y_ldc2 C 9 dX11_isSight_30 kX11_isSight_367 rfl ?_
      refine y_lcmp_eq C 50 dX11_isSight_33 dX11_isSight_34 (by decide) (by exact ⟨⟨la101, ua101⟩, ⟨(by decide), (by decide)⟩⟩) (fun h107 => ?_) (fun h107 => ?_)
      · refine y_iconst C dX11_isSight_50 ?_
        refine j_goto C 55 dX11_isSight_51 (by decide) ?_
        exact hret _ _ _ _ dX11_isSight_55 ⟨1, rfl, rfl, by exact ⟨(by decide), ⟨(by decide), (by (clear h107 cv103 ev103 ua101 la101 hret C hM0; omega))⟩⟩⟩
      · refine j_lload_n C 0 3 dX11_isSight_37 rfl rfl ?_
        refine j_aload_n C 1 0 dX11_isSight_38 rfl rfl ?_
        refine y_getC C 10 12 fX11_isSight_36 rfl rfl ft_10_6 sm_10_6 rfl hM0 dX11_isSight_39 ?_
        refine y_getI C 8 _ _ fX11_isSight_160 rfl rfl ft_8_0 sb_8_0 hM0 dX11_isSight_42 (fun a108 ea108 la108 ua108 => ?_)
        refine y_i2l C dX11_isSight_45 (by (clear h107 h106 ua104 la104 ea104 cv103 ev103 h102 ua101 la101 hret C ha1 hM0; omega)) ?_
        refine y_lcmp_ge C 54 dX11_isSight_46 dX11_isSight_47 (by decide) (by exact ⟨⟨la101, ua101⟩, ⟨(by (clear h107 h106 ua104 la104 ea104 cv103 ev103 h102 hret C ha1 hM0; omega)), (by (clear h107 h106 ua104 la104 ea104 cv103 ev103 h102 hret C ha1 hM0; omega))⟩⟩) (fun h110 => ?_) (fun h110 => ?_)
        · refine y_iconst C dX11_isSight_54 ?_
          exact hret _ _ _ _ dX11_isSight_55 ⟨0, rfl, rfl, by exact ⟨(by decide), ⟨(by decide), (by (clear h110 h107 cv103 ev103 ua101 la101 hret C hM0; omega))⟩⟩⟩
        · refine y_iconst C dX11_isSight_50 ?_
          refine j_goto C 55 dX11_isSight_51 (by decide) ?_
          exact hret _ _ _ _ dX11_isSight_55 ⟨1, rfl, rfl, by exact ⟨(by decide), ⟨(by decide), (by (clear h110 h107 cv103 ev103 ua101 la101 hret C hM0; omega))⟩⟩⟩
set_option maxHeartbeats 4000000 in
theorem s1_X11_seenRefusal {l : Launch} {dC : Nat → ClassId} {dI : Nat → Nat → Nat} {ad : Nat → Nat} {cA : Nat → ClassId} {pr : Nat → Nat → Bool} {Kz : mm_M} {M0 : mm_M} (hM0 : INV pr Kz M0) (a1 : Int) (ha1 : -2147483648 ≤ a1 ∧ a1 ≤ 2147483647) : Ci l 2 yX11_seenRefusal wsX11_seenRefusal dC dI ad cA [.ref (ad 0), .int (sI a1)] M0 (fun r M' => ∃ a : Int, r = sI a ∧ M0 = M' ∧ (-6) ≤ a ∧ a ≤ 0 ∧ (¬ a = 0 ∨ (0 ≤ a1 ∧ a1 < 4))) := by
  refine ci_of (cc := cX11_seenRefusal) (maxL := 5) (ty := .int) (lv := [(0, .ref (ad 0)), (1, .int (sI a1))]) (by decide) rfl (fun r M' hp => rfl) (Nat.le_of_ble_eq_true rfl) rfl ?_
  intro p e s m args below meth c A Q C hret
  refine j_aload_n C 0 0 dX11_seenRefusal_0 rfl rfl ?_
  refine j_iload_n C 1 1 dX11_seenRefusal_1 rfl rfl ?_
  refine j_callVi C (d := 1) (As := [.int (sI a1)]) (st := []) 0 (s_lt rfl rfl) (s_kc (c := 10) rfl rfl) (by decide) rfl (s1_X11_trayRefusal hM0 a1 (by exact ⟨ha1.1, ha1.2⟩)) gX11_seenRefusal_X11_trayRefusal rfl hdX11_trayRefusal (by decide) (Nat.le_of_ble_eq_true rfl) dX11_seenRefusal_2 rfl (fun r101 M102 h103 => ?_)
  obtain ⟨a105, rfl, rfl, h104⟩ := h103
  refine j_istore_n C 2 [(2, .int (sI a105)), (0, .ref (ad 0)), (1, .int (sI a1))] dX11_seenRefusal_5 rfl (by decide) rfl ?_
  refine j_iload_n C 0 2 dX11_seenRefusal_6 rfl rfl ?_
  refine y_if_eq C 12 dX11_seenRefusal_7 (by decide) (by omega) (fun h106 => ?_) (fun h106 => ?_)
  · refine j_aload_n C 1 0 dX11_seenRefusal_12 rfl rfl ?_
    refine y_getC C 10 50 fX11_seenRefusal_52 rfl rfl ft_10_9 sm_10_9 rfl hM0 dX11_seenRefusal_13 ?_
    refine j_iload_n C 2 1 dX11_seenRefusal_16 rfl rfl ?_
    refine y_aald C 28 4 9 rfl rfl rfl rfl an_28 rfl sma_28 sta_28 (by decide) hM0 dX11_seenRefusal_17 (by omega) (fun v107 cv107 => ?_)
    refine j_astore_n C 3 [(3, .ref (ad v107)), (2, .int (sI a105)), (0, .ref (ad 0)), (1, .int (sI a1))] dX11_seenRefusal_18 rfl (by decide) rfl ?_
    refine j_aload_n C 0 3 dX11_seenRefusal_19 rfl rfl ?_
    refine j_callVi C (d := 1) (As := []) (st := []) v107 (s_lt cv107 rfl) (s_kc (c := 9) cv107 rfl) (by decide) rfl (s1_X10_size hM0 cv107) gX11_seenRefusal_X10_size rfl hdX10_size (by decide) (Nat.le_of_ble_eq_true rfl) dX11_seenRefusal_20 rfl (fun r108 M109 h110 => ?_)
    obtain ⟨a112, rfl, rfl, h111⟩ := h110
    refine y_iconst C dX11_seenRefusal_23 ?_
    refine y_icmp_lt C 36 dX11_seenRefusal_24 (by decide) (by exact ⟨⟨(by (clear cv107 h106 h104 hret C ha1 hM0; omega)), (by (clear cv107 h106 h104 hret C ha1 hM0; omega))⟩, ⟨(by decide), (by decide)⟩⟩) (fun h113 => ?_) (fun h113 => ?_)
    · refine y_bipush C dX11_seenRefusal_36 rfl ?_
      exact hret _ _ _ _ dX11_seenRefusal_38 ⟨(-4), rfl, rfl, by exact ⟨(by decide), ⟨(by decide), (by omega)⟩⟩⟩
    · refine j_aload_n C 0 3 dX11_seenRefusal_27 rfl rfl ?_
      refine j_callVi C (d := 1) (As := []) (st := []) v107 (s_lt cv107 rfl) (s_kc (c := 9) cv107 rfl) (by decide) rfl (s1_X10_size hM0 cv107) gX11_seenRefusal_X10_size rfl hdX10_size (by decide) (Nat.le_of_ble_eq_true rfl) dX11_seenRefusal_28 rfl (fun r114 M115 h116 => ?_)
      obtain ⟨a118, rfl, rfl, h117⟩ := h116
      refine y_bipush C dX11_seenRefusal_31 rfl ?_
      refine y_icmp_le C 39 dX11_seenRefusal_33 (by decide) (by exact ⟨⟨(by (clear h113 h111 cv107 h106 h104 hret C ha1 hM0; omega)), (by (clear h113 h111 cv107 h106 h104 hret C ha1 hM0; omega))⟩, ⟨(by decide), (by decide)⟩⟩) (fun h119 => ?_) (fun h119 => ?_)
      · refine y_iconst C dX11_seenRefusal_39 ?_
        refine j_istore C 4 [(4, .int (sI 0)), (3, .ref (ad v107)), (2, .int (sI a105)), (0, .ref (ad 0)), (1, .int (sI a1))] dX11_seenRefusal_40 (by decide) rfl ?_
        have L428 : ∀ (n426 : Nat), ∀ (a429 : Int), (0 ≤ a429 ∧ a429 ≤ 40 ∧ (40 - a429) < (n426 : Int)) → jj p l e (cn_R 2) s m args below meth c 0 0 Q 5 dC dI ad cA A M0 42 [(0, .ref (ad 0)), (3, .ref (ad v107)), (4, .int (sI a429))] [] := by
          intro n426
          induction n426 with
          | zero =>
            intro a429 h430
            exfalso; omega
          | succ n426 ih427 =>
            intro a429 h430
            refine j_iload C 2 dX11_seenRefusal_42 rfl ?_
            refine j_aload_n C 1 3 dX11_seenRefusal_44 rfl rfl ?_
            refine j_callVi C (d := 1) (As := []) (st := [.int (sI a429)]) v107 (s_lt cv107 rfl) (s_kc (c := 9) cv107 rfl) (by decide) rfl (s1_X10_size hM0 cv107) gX11_seenRefusal_X10_size rfl hdX10_size (by decide) (Nat.le_of_ble_eq_true rfl) dX11_seenRefusal_45 rfl (fun r431 M432 h433 => ?_)
            obtain ⟨a435, rfl, rfl, h434⟩ := h433
            refine y_icmp_ge C 73 dX11_seenRefusal_48 (by decide) (by (clear ih427 h119 h117 h113 h111 cv107 h106 h104 hret C ha1 hM0; omega)) (fun h436 => ?_) (fun h436 => ?_)
            · refine y_iconst C dX11_seenRefusal_73 ?_
              exact hret _ _ _ _ dX11_seenRefusal_74 ⟨0, rfl, rfl, by exact ⟨(by decide), ⟨(by decide), (by (clear h436 h434 h430 ih427 h119 h117 h113 h111 cv107 hret C hM0; omega))⟩⟩⟩
            · refine j_aload_n C 0 0 dX11_seenRefusal_51 rfl rfl ?_
              refine j_aload_n C 1 3 dX11_seenRefusal_52 rfl rfl ?_
              refine j_iload C 2 dX11_seenRefusal_53 rfl ?_
              refine j_callVj C (d := 1) (As := [.int (sI a429)]) (st := [.ref (ad 0)]) v107 (s_lt cv107 rfl) (s_kc (c := 9) cv107 rfl) (by decide) rfl (s1_X10_numberAt hM0 cv107 a429 (by omega)) gX11_seenRefusal_X10_numberAt rfl hdX10_numberAt (by decide) (Nat.le_of_ble_eq_true rfl) dX11_seenRefusal_55 rfl (fun r437 M438 h439 => ?_)
              obtain ⟨a441, rfl, rfl, h440⟩ := h439
              refine j_callVi C (d := 0) (As := [.long (sJ a441)]) (st := []) 0 (s_lt rfl rfl) (s_kc (c := 10) rfl rfl) (by decide) rfl (s1_X11_isSight hM0 a441 (by exact ⟨h440.1, h440.2⟩)) gX11_seenRefusal_X11_isSight rfl hdX11_isSight (by decide) (Nat.le_of_ble_eq_true rfl) dX11_seenRefusal_58 rfl (fun r442 M443 h444 => ?_)
              obtain ⟨a446, rfl, rfl, h445⟩ := h444
              refine y_if_ne C 67 dX11_seenRefusal_61 (by decide) (by omega) (fun h447 => ?_) (fun h447 => ?_)
              · refine y_iinc C 2 [(4, .int (sI (a429 + 1))), (0, .ref (ad 0)), (3, .ref (ad v107))] dX11_seenRefusal_67 rfl (by decide) rfl ?_
                refine j_goto C 42 dX11_seenRefusal_70 (by decide) ?_
                refine j_lv [1, 2, 0] rfl ?_; exact ih427 (a429 + 1) (by (clear h447 h445 h440 ih427 h119 h117 h113 h111 cv107 h106 h104 hret C ha1 hM0; omega))
              · refine y_bipush C dX11_seenRefusal_64 rfl ?_
                exact hret _ _ _ _ dX11_seenRefusal_66 ⟨(-3), rfl, rfl, by exact ⟨(by decide), ⟨(by decide), (by omega)⟩⟩⟩
        refine j_lv [3, 1, 0] rfl ?_; exact L428 2010 0 (by exact ⟨(by decide), ⟨(by decide), (by decide)⟩⟩)
      · refine y_bipush C dX11_seenRefusal_36 rfl ?_
        exact hret _ _ _ _ dX11_seenRefusal_38 ⟨(-4), rfl, rfl, by exact ⟨(by decide), ⟨(by decide), (by omega)⟩⟩⟩
  · refine j_iload_n C 0 2 dX11_seenRefusal_10 rfl rfl ?_
    exact hret _ _ _ _ dX11_seenRefusal_11 ⟨a105, rfl, rfl, by exact ⟨h104.1, ⟨h104.2.1, (by (clear hret C ha1 hM0; omega))⟩⟩⟩
set_option maxHeartbeats 4000000 in
theorem s1_X5_everyKind {l : Launch} {dC : Nat → ClassId} {dI : Nat → Nat → Nat} {ad : Nat → Nat} {cA : Nat → ClassId} {pr : Nat → Nat → Bool} {Kz : mm_M} {M0 : mm_M} (hM0 : INV pr Kz M0)  : Ci l 0 yX5_everyKind wsX5_everyKind dC dI ad cA [.ref (ad 88)] M0 (fun r M' => ∃ a : Int, r = sI a ∧ M0 = M' ∧ 0 ≤ a ∧ a ≤ 255 ∧ ((a = (M0.1 88 11).toInt))) := by
  refine ci_of (cc := cX5_everyKind) (maxL := 1) (ty := .int) (lv := [(0, .ref (ad 88))]) (by decide) rfl (fun r M' hp => rfl) (Nat.le_of_ble_eq_true rfl) rfl ?_
  intro p e s m args below meth c A Q C hret
  refine j_aload_n C 0 0 dX5_everyKind_0 rfl rfl ?_
  refine y_getI C 4 _ _ fX5_everyKind_38 rfl rfl ft_4_11 sb_4_11 hM0 dX5_everyKind_1 (fun a101 ea101 la101 ua101 => ?_)
  exact hret _ _ _ _ dX5_everyKind_4 ⟨a101, rfl, rfl, by exact ⟨la101, ⟨ua101, ea101⟩⟩⟩
set_option maxHeartbeats 4000000 in
theorem s1_X0_behind {l : Launch} {dC : Nat → ClassId} {dI : Nat → Nat → Nat} {ad : Nat → Nat} {cA : Nat → ClassId} {pr : Nat → Nat → Bool} {Kz : mm_M} {M0 : mm_M} (hM0 : INV pr Kz M0) (a1 : Int) (ha1 : -2147483648 ≤ a1 ∧ a1 ≤ 2147483647) {v2 : Nat} (cv2 : s_c v2 = 9) : Ci l 2 yX0_behind wsX0_behind dC dI ad cA [.ref (ad 95), .int (sI a1), .ref (ad v2)] M0 (fun r M' => ∃ a : Int, r = sI a ∧ M0 = M' ∧ (-2147483648) ≤ a ∧ a ≤ 2147483647) := by
  refine ci_of (cc := cX0_behind) (maxL := 7) (ty := .int) (lv := [(0, .ref (ad 95)), (1, .int (sI a1)), (2, .ref (ad v2))]) (by decide) rfl (fun r M' hp => rfl) (Nat.le_of_ble_eq_true rfl) rfl ?_
  intro p e s m args below meth c A Q C hret
  refine j_iload_n C 1 1 dX0_behind_0 rfl rfl ?_
  refine j_istore_n C 3 [(3, .int (sI a1)), (0, .ref (ad 95)), (1, .int (sI a1)), (2, .ref (ad v2))] dX0_behind_1 rfl (by decide) rfl ?_
  refine y_iconst C dX0_behind_2 ?_
  refine j_istore C 4 [(4, .int (sI 0)), (3, .int (sI a1)), (0, .ref (ad 95)), (1, .int (sI a1)), (2, .ref (ad v2))] dX0_behind_3 (by decide) rfl ?_
  have L630 : ∀ (n628 : Nat), ∀ (a631 : Int) (a632 : Int), ((-2147483648) ≤ a631 ∧ a631 ≤ 2147483647 ∧ 0 ≤ a632 ∧ a632 ≤ 40 ∧ (40 - a632) < (n628 : Int)) → jj p l e (cn_R 2) s m args below meth c 0 0 Q 7 dC dI ad cA A M0 5 [(0, .ref (ad 95)), (2, .ref (ad v2)), (3, .int (sI a631)), (4, .int (sI a632))] [] := by
    intro n628
    induction n628 with
    | zero =>
      intro a631 a632 h633
      exfalso; omega
    | succ n628 ih629 =>
      intro a631 a632 h633
      refine j_iload C 3 dX0_behind_5 rfl ?_
      refine j_aload_n C 1 2 dX0_behind_7 rfl rfl ?_
      refine j_callVi C (d := 1) (As := []) (st := [.int (sI a632)]) v2 (s_lt cv2 rfl) (s_kc (c := 9) cv2 rfl) (by decide) rfl (s1_X10_size hM0 cv2) gX0_behind_X10_size rfl hdX10_size (by decide) (Nat.le_of_ble_eq_true rfl) dX0_behind_8 rfl (fun r634 M635 h636 => ?_)
      obtain ⟨a638, rfl, rfl, h637⟩ := h636
      refine y_icmp_ge C 86 dX0_behind_11 (by decide) (by (clear ih629 hret C cv2 ha1 hM0; omega)) (fun h639 => ?_) (fun h639 => ?_)
      · refine j_iload_n C 2 3 dX0_behind_86 rfl rfl ?_
        exact hret _ _ _ _ dX0_behind_87 ⟨a631, rfl, rfl, by exact ⟨h633.1, h633.2.1⟩⟩
      · refine j_aload_n C 1 2 dX0_behind_14 rfl rfl ?_
        refine j_iload C 3 dX0_behind_15 rfl ?_
        refine j_callVj C (d := 1) (As := [.int (sI a632)]) (st := []) v2 (s_lt cv2 rfl) (s_kc (c := 9) cv2 rfl) (by decide) rfl (s1_X10_numberAt hM0 cv2 a632 (by omega)) gX0_behind_X10_numberAt rfl hdX10_numberAt (by decide) (Nat.le_of_ble_eq_true rfl) dX0_behind_17 rfl (fun r640 M641 h642 => ?_)
        obtain ⟨a644, rfl, rfl, h643⟩ := h642
        refine y_l2i C dX0_behind_20 ?_
        refine y_topI (fun a645 la645 ua645 => ?_)
        refine j_istore C 5 [(5, .int (sI a645)), (0, .ref (ad 95)), (2, .ref (ad v2)), (3, .int (sI a631)), (4, .int (sI a632))] dX0_behind_21 (by decide) rfl ?_
        refine j_aload_n C 1 0 dX0_behind_23 rfl rfl ?_
        refine y_getC C 0 88 fX0_behind_25 rfl rfl ft_0_0 sm_0_0 rfl hM0 dX0_behind_24 ?_
        refine j_iload_n C 3 3 dX0_behind_27 rfl rfl ?_
        refine j_iload C 0 dX0_behind_28 rfl ?_
        refine y_bipush C dX0_behind_30 rfl ?_
        refine y_idiv0 C dX0_behind_32 (by exact ⟨(by decide), ⟨(by decide), (by decide)⟩⟩) (fun a646 la646 ua646 => ?_)
        refine j_callVi C (d := 0) (As := [.int (sI a631), .int (sI a646)]) (st := []) 88 (s_lt rfl rfl) (s_kc (c := 4) rfl rfl) (by decide) rfl (s1_X5_pick hM0 a631 (by exact ⟨h633.1, h633.2.1⟩) a646 (by exact ⟨la646, ua646⟩)) gX0_behind_X5_pick rfl hdX5_pick (by decide) (Nat.le_of_ble_eq_true rfl) dX0_behind_33 rfl (fun r647 M648 h649 => ?_)
        obtain ⟨a651, rfl, rfl, h650⟩ := h649
        refine j_istore C 6 [(6, .int (sI a651)), (5, .int (sI a645)), (0, .ref (ad 95)), (2, .ref (ad v2)), (3, .int (sI a631)), (4, .int (sI a632))] dX0_behind_36 (by decide) rfl ?_
        refine j_iload C 0 dX0_behind_38 rfl ?_
        refine j_iload C 1 dX0_behind_40 rfl ?_
        refine y_bipush C dX0_behind_42 rfl ?_
        refine y_iremS C dX0_behind_44 (by exact ⟨la645, ⟨ua645, ⟨(by decide), (by decide)⟩⟩⟩) (fun a652 la652 ua652 ha652 => ?_)
        refine y_bipush C dX0_behind_45 rfl ?_
        have J656 : ∀ (a655 : Int), ((-9) ≤ a655 ∧ a655 ≤ 9) → jj p l e (cn_R 2) s m args below meth c 0 0 Q 7 dC dI ad cA A M0 59 [(0, .ref (ad 95)), (2, .ref (ad v2)), (3, .int (sI a631)), (4, .int (sI a632)), (6, .int (sI a651))] [.int (sI a655), .int (sI a651)] := by
          intro a655 h657
          refine y_icmp_eq C 64 dX0_behind_59 (by decide) (by (clear ha652 ua652 la652 ua646 la646 ua645 la645 h643 h639 h637 h633 ih629 hret C cv2 ha1 hM0; omega)) (fun h658 => ?_) (fun h658 => ?_)
          · refine j_iload_n C 2 3 dX0_behind_64 rfl rfl ?_
            refine j_iload C 4 dX0_behind_65 rfl ?_
            refine y_if_lt C 77 dX0_behind_67 (by decide) (by (clear h657 ha652 ua652 la652 ua646 la646 ua645 la645 h643 h639 h637 h633 ih629 hret C cv2 ha1 hM0; omega)) (fun h659 => ?_) (fun h659 => ?_)
            · refine y_iconst C dX0_behind_77 ?_
              refine y_ior0 C dX0_behind_78 (fun a660 la660 ua660 => ?_)
              refine j_istore_n C 3 [(3, .int (sI a660)), (0, .ref (ad 95)), (2, .ref (ad v2)), (4, .int (sI a632)), (6, .int (sI a651))] dX0_behind_79 rfl (by decide) rfl ?_
              refine y_iinc C 3 [(4, .int (sI (a632 + 1))), (3, .int (sI a660)), (0, .ref (ad 95)), (2, .ref (ad v2)), (6, .int (sI a651))] dX0_behind_80 rfl (by decide) rfl ?_
              refine j_goto C 5 dX0_behind_83 (by decide) ?_
              refine j_lv [2, 3, 1, 0] rfl ?_; exact ih629 a660 (a632 + 1) (by exact ⟨la660, ⟨ua660, ⟨(by (clear h659 h658 h657 ha652 ua652 la652 h650 ua646 la646 ua645 la645 h643 ih629 hret C cv2 ha1 hM0; omega)), ⟨(by (clear h659 h658 h657 ha652 ua652 la652 h650 ua646 la646 ua645 la645 h643 ih629 hret C cv2 ha1 hM0; omega)), (by (clear h659 h658 h657 ha652 ua652 la652 h650 ua646 la646 ua645 la645 h643 ih629 hret C cv2 ha1 hM0; omega))⟩⟩⟩⟩)
            · refine y_iconst C dX0_behind_70 ?_
              refine j_iload C 4 dX0_behind_71 rfl ?_
              refine y_shl1 C 7 128 dX0_behind_73 rfl (by decide) (by (clear h657 ha652 ua652 la652 ua646 la646 ua645 la645 h643 h639 h637 h633 ih629 hret C cv2 ha1 hM0; omega)) (fun a661 la661 ua661 => ?_)
              refine j_goto C 78 dX0_behind_74 (by decide) ?_
              refine y_ior0 C dX0_behind_78 (fun a662 la662 ua662 => ?_)
              refine j_istore_n C 3 [(3, .int (sI a662)), (0, .ref (ad 95)), (2, .ref (ad v2)), (4, .int (sI a632)), (6, .int (sI a651))] dX0_behind_79 rfl (by decide) rfl ?_
              refine y_iinc C 3 [(4, .int (sI (a632 + 1))), (3, .int (sI a662)), (0, .ref (ad 95)), (2, .ref (ad v2)), (6, .int (sI a651))] dX0_behind_80 rfl (by decide) rfl ?_
              refine j_goto C 5 dX0_behind_83 (by decide) ?_
              refine j_lv [2, 3, 1, 0] rfl ?_; exact ih629 a662 (a632 + 1) (by exact ⟨la662, ⟨ua662, ⟨(by (clear ua661 la661 h659 h658 h657 ha652 ua652 la652 h650 ua646 la646 ua645 la645 h643 ih629 hret C cv2 ha1 hM0; omega)), ⟨(by (clear ua661 la661 h659 h658 h657 ha652 ua652 la652 h650 ua646 la646 ua645 la645 h643 ih629 hret C cv2 ha1 hM0; omega)), (by (clear ua661 la661 h659 h658 h657 ha652 ua652 la652 h650 ua646 la646 ua645 la645 h643 ih629 hret C cv2 ha1 hM0; omega))⟩⟩⟩⟩)
          · refine y_iconst C dX0_behind_62 ?_
            exact hret _ _ _ _ dX0_behind_63 ⟨(-1), rfl, rfl, by exact ⟨(by decide), (by decide)⟩⟩
        refine y_icmp_ne C 54 dX0_behind_47 (by decide) (by exact ⟨⟨(by (clear J656 ha652 h650 ua646 la646 ua645 la645 h643 h639 h637 h633 ih629 hret C cv2 ha1 hM0; omega)), (by (clear J656 ha652 h650 ua646 la646 ua645 la645 h643 h639 h637 h633 ih629 hret C cv2 ha1 hM0; omega))⟩, ⟨(by decide), (by decide)⟩⟩) (fun h653 => ?_) (fun h653 => ?_)
        · refine j_iload C 1 dX0_behind_54 rfl ?_
          refine y_bipush C dX0_behind_56 rfl ?_
          refine y_iremS C dX0_behind_58 (by exact ⟨la645, ⟨ua645, ⟨(by decide), (by decide)⟩⟩⟩) (fun a654 la654 ua654 ha654 => ?_)
          refine j_lv [2, 3, 4, 5, 0] rfl ?_; exact J656 a654 (by (clear ha654 h653 J656 ha652 ua652 la652 h650 ua646 la646 ua645 la645 h643 h639 h637 h633 ih629 hret C cv2 ha1 hM0; omega))
        · refine y_iconst C dX0_behind_50 ?_
          refine j_goto C 59 dX0_behind_51 (by decide) ?_
          refine j_lv [2, 3, 4, 5, 0] rfl ?_; exact J656 (-1) (by exact ⟨(by decide), (by decide)⟩)
  refine j_lv [2, 4, 1, 0] rfl ?_; exact L630 4294967306 a1 0 (by exact ⟨ha1.1, ⟨ha1.2, ⟨(by decide), ⟨(by decide), (by decide)⟩⟩⟩⟩)
set_option maxHeartbeats 4000000 in
theorem s1_X5_buyers {l : Launch} {dC : Nat → ClassId} {dI : Nat → Nat → Nat} {ad : Nat → Nat} {cA : Nat → ClassId} {pr : Nat → Nat → Bool} {Kz : mm_M} {M0 : mm_M} (hM0 : INV pr Kz M0)  : Ci l 0 yX5_buyers wsX5_buyers dC dI ad cA [.ref (ad 88)] M0 (fun r M' => ∃ a : Int, r = sI a ∧ M0 = M' ∧ 0 ≤ a ∧ a ≤ 6 ∧ ((0 ≤ a ∧ a ≤ 6))) := by
  refine ci_of (cc := cX5_buyers) (maxL := 1) (ty := .int) (lv := [(0, .ref (ad 88))]) (by decide) rfl (fun r M' hp => rfl) (Nat.le_of_ble_eq_true rfl) rfl ?_
  intro p e s m args below meth c A Q C hret
  refine j_aload_n C 0 0 dX5_buyers_0 rfl rfl ?_
  refine y_getM C 4 6 fX5_buyers_52 rfl rfl ft_4_9 sm_4_9 (by decide) hM0 dX5_buyers_1 (fun v101 ev101 cv101 => ?_)
  refine y_getI C 6 _ _ fX5_buyers_92 cv101 rfl ft_6_0 sb_6_0 hM0 dX5_buyers_4 (fun a102 ea102 la102 ua102 => ?_)
  exact hret _ _ _ _ dX5_buyers_7 ⟨a102, rfl, rfl, by exact ⟨la102, ⟨ua102, ⟨la102, ua102⟩⟩⟩⟩
