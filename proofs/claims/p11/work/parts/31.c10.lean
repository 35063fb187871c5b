set_option maxHeartbeats 4000000 in
theorem s1_X5_allWays {l : Launch} {dC : Nat → ClassId} {dI : Nat → Nat → Nat} {ad : Nat → Nat} {cA : Nat → ClassId} {pr : Nat → Nat → Bool} {Kz : mm_M} {M0 : mm_M} (hM0 : INV pr Kz M0)  : Cj l 0 yX5_allWays wsX5_allWays dC dI ad cA [.ref (ad 88)] M0 (fun r M' => ∃ a : Int, r = sJ a ∧ M0 = M' ∧ (-9223372036854775808) ≤ a ∧ a ≤ 9223372036854775807) := by
  refine cj_of (cc := cX5_allWays) (maxL := 4) (lv := [(0, .ref (ad 88))]) (by decide) rfl (Nat.le_of_ble_eq_true rfl) rfl ?_
  intro p e s m args below meth c A Q C hret
  refine y_lconst C 0 dX5_allWays_0 rfl ?_
  refine j_lstore_n C 1 [(1, .long (sJ 0)), (0, .ref (ad 88))] dX5_allWays_1 rfl (by decide) rfl ?_
  refine j_aload_n C 1 0 dX5_allWays_2 rfl rfl ?_
  refine y_getI C 4 _ _ fX5_allWays_45 rfl rfl ft_4_13 sb_4_13 hM0 dX5_allWays_3 (fun a101 ea101 la101 ua101 => ?_)
  refine j_istore_n C 3 [(3, .int (sI a101)), (1, .long (sJ 0)), (0, .ref (ad 88))] dX5_allWays_6 rfl (by decide) rfl ?_
  have L120 : ∀ (n118 : Nat), ∀ (a121 : Int) (a122 : Int), ((-9223372036854775808) ≤ a121 ∧ a121 ≤ 9223372036854775807 ∧ 0 ≤ a122 ∧ a122 ≤ 256 ∧ (256 - a122) < (n118 : Int)) → jj p l e (cn_R 0) s m args below meth c 0 0 Q 4 dC dI ad cA A M0 7 [(0, .ref (ad 88)), (1, .long (sJ a121)), (3, .int (sI a122))] [] := by
    intro n118
    induction n118 with
    | zero =>
      intro a121 a122 h123
      exfalso; omega
    | succ n118 ih119 =>
      intro a121 a122 h123
      refine j_iload_n C 2 3 dX5_allWays_7 rfl rfl ?_
      refine j_aload_n C 0 0 dX5_allWays_8 rfl rfl ?_
      refine y_getI C 4 _ _ fX5_allWays_38 rfl rfl ft_4_11 sb_4_11 hM0 dX5_allWays_9 (fun a124 ea124 la124 ua124 => ?_)
      refine y_icmp_gt C 30 dX5_allWays_12 (by decide) (by (clear ih119 ua101 la101 ea101 hret C hM0; omega)) (fun h126 => ?_) (fun h126 => ?_)
      · refine j_lload_n C 1 1 dX5_allWays_30 rfl rfl ?_
        exact hret _ _ _ _ dX5_allWays_31 ⟨a121, rfl, rfl, by exact ⟨h123.1, h123.2.1⟩⟩
      · refine j_lload_n C 1 1 dX5_allWays_15 rfl rfl ?_
        refine j_aload_n C 0 0 dX5_allWays_16 rfl rfl ?_
        refine y_getM C 4 41 fX5_allWays_21 rfl rfl ft_4_4 sm_4_4 (by decide) hM0 dX5_allWays_17 (fun v127 ev127 cv127 => ?_)
        refine j_iload_n C 2 3 dX5_allWays_20 rfl rfl ?_
        refine y_lald C 41 256 cv127 rfl rfl ak_41 an_41 rfl dX5_allWays_21 (by exact ⟨h123.2.2.1, (by (clear cv127 ev127 ih119 ua101 la101 ea101 hret C hM0; omega))⟩) (fun a128 ea128 la128 ua128 => ?_)
        refine y_ladd0 C dX5_allWays_22 (fun a129 la129 ua129 => ?_)
        refine j_lstore_n C 1 [(1, .long (sJ a129)), (0, .ref (ad 88)), (3, .int (sI a122))] dX5_allWays_23 rfl (by decide) rfl ?_
        refine y_iinc C 2 [(3, .int (sI (a122 + 1))), (1, .long (sJ a129)), (0, .ref (ad 88))] dX5_allWays_24 rfl (by decide) rfl ?_
        refine j_goto C 7 dX5_allWays_27 (by decide) ?_
        refine j_lv [2, 1, 0] rfl ?_; exact ih119 a129 (a122 + 1) (by exact ⟨la129, ⟨ua129, ⟨(by (clear ua128 la128 ea128 cv127 ev127 ih119 ua101 la101 ea101 hret C hM0; omega)), ⟨(by (clear ua128 la128 ea128 cv127 ev127 ih119 ua101 la101 ea101 hret C hM0; omega)), (by (clear ua128 la128 ea128 cv127 ev127 ih119 ua101 la101 ea101 hret C hM0; omega))⟩⟩⟩⟩)
  refine j_lv [2, 1, 0] rfl ?_; exact L120 2010 0 a101 (by exact ⟨(by decide), ⟨(by decide), ⟨la101, ⟨(by (clear L120 hret C hM0; omega)), (by (clear L120 hret C hM0; omega))⟩⟩⟩⟩)
set_option maxHeartbeats 4000000 in
theorem s1_X5_openWays {l : Launch} {dC : Nat → ClassId} {dI : Nat → Nat → Nat} {ad : Nat → Nat} {cA : Nat → ClassId} {pr : Nat → Nat → Bool} {Kz : mm_M} {M0 : mm_M} (hM0 : INV pr Kz M0)  : Cj l 1 yX5_openWays wsX5_openWays dC dI ad cA [.ref (ad 88)] M0 (fun r M' => ∃ a : Int, r = sJ a ∧ M0 = M' ∧ (-9223372036854775808) ≤ a ∧ a ≤ 9223372036854775807) := by
  refine cj_of (cc := cX5_openWays) (maxL := 4) (lv := [(0, .ref (ad 88))]) (by decide) rfl (Nat.le_of_ble_eq_true rfl) rfl ?_
  intro p e s m args below meth c A Q C hret
  refine y_lconst C 0 dX5_openWays_0 rfl ?_
  refine j_lstore_n C 1 [(1, .long (sJ 0)), (0, .ref (ad 88))] dX5_openWays_1 rfl (by decide) rfl ?_
  refine j_aload_n C 1 0 dX5_openWays_2 rfl rfl ?_
  refine y_getI C 4 _ _ fX5_openWays_45 rfl rfl ft_4_13 sb_4_13 hM0 dX5_openWays_3 (fun a101 ea101 la101 ua101 => ?_)
  refine j_istore_n C 3 [(3, .int (sI a101)), (1, .long (sJ 0)), (0, .ref (ad 88))] dX5_openWays_6 rfl (by decide) rfl ?_
  have L132 : ∀ (n130 : Nat), ∀ (a133 : Int) (a134 : Int), ((-9223372036854775808) ≤ a133 ∧ a133 ≤ 9223372036854775807 ∧ 0 ≤ a134 ∧ a134 ≤ 256 ∧ (256 - a134) < (n130 : Int)) → jj p l e (cn_R 1) s m args below meth c 0 0 Q 4 dC dI ad cA A M0 7 [(0, .ref (ad 88)), (1, .long (sJ a133)), (3, .int (sI a134))] [] := by
    intro n130
    induction n130 with
    | zero =>
      intro a133 a134 h135
      exfalso; omega
    | succ n130 ih131 =>
      intro a133 a134 h135
      refine j_iload_n C 2 3 dX5_openWays_7 rfl rfl ?_
      refine j_aload_n C 0 0 dX5_openWays_8 rfl rfl ?_
      refine y_getI C 4 _ _ fX5_openWays_38 rfl rfl ft_4_11 sb_4_11 hM0 dX5_openWays_9 (fun a136 ea136 la136 ua136 => ?_)
      refine y_icmp_gt C 42 dX5_openWays_12 (by decide) (by omega) (fun h138 => ?_) (fun h138 => ?_)
      · refine j_lload_n C 1 1 dX5_openWays_42 rfl rfl ?_
        exact hret _ _ _ _ dX5_openWays_43 ⟨a133, rfl, rfl, by exact ⟨h135.1, h135.2.1⟩⟩
      · refine j_lload_n C 1 1 dX5_openWays_15 rfl rfl ?_
        refine j_aload_n C 0 0 dX5_openWays_16 rfl rfl ?_
        refine j_iload_n C 2 3 dX5_openWays_17 rfl rfl ?_
        refine j_callVi C (d := 0) (As := [.int (sI a134)]) (st := [.long (sJ a133)]) 88 (s_lt rfl rfl) (s_kc (c := 4) rfl rfl) (by decide) rfl (s1_X5_isShutAt hM0 a134 (by omega)) gX5_openWays_X5_isShutAt rfl hdX5_isShutAt (by decide) (Nat.le_of_ble_eq_true rfl) dX5_openWays_18 rfl (fun r139 M140 h141 => ?_)
        obtain ⟨a143, rfl, rfl, h142⟩ := h141
        refine y_if_eq C 28 dX5_openWays_21 (by decide) (by omega) (fun h144 => ?_) (fun h144 => ?_)
        · refine j_aload_n C 0 0 dX5_openWays_28 rfl rfl ?_
          refine y_getM C 4 41 fX5_openWays_21 rfl rfl ft_4_4 sm_4_4 (by decide) hM0 dX5_openWays_29 (fun v145 ev145 cv145 => ?_)
          refine j_iload_n C 2 3 dX5_openWays_32 rfl rfl ?_
          refine y_lald C 41 256 cv145 rfl rfl ak_41 an_41 rfl dX5_openWays_33 (by exact ⟨h135.2.2.1, (by (clear cv145 ev145 h144 h142 ih131 ua101 la101 ea101 hret C hM0; omega))⟩) (fun a146 ea146 la146 ua146 => ?_)
          refine y_ladd0 C dX5_openWays_34 (fun a147 la147 ua147 => ?_)
          refine j_lstore_n C 1 [(1, .long (sJ a147)), (0, .ref (ad 88)), (3, .int (sI a134))] dX5_openWays_35 rfl (by decide) rfl ?_
          refine y_iinc C 2 [(3, .int (sI (a134 + 1))), (1, .long (sJ a147)), (0, .ref (ad 88))] dX5_openWays_36 rfl (by decide) rfl ?_
          refine j_goto C 7 dX5_openWays_39 (by decide) ?_
          refine j_lv [2, 1, 0] rfl ?_; exact ih131 a147 (a134 + 1) (by exact ⟨la147, ⟨ua147, ⟨(by (clear ua146 la146 ea146 cv145 ev145 h144 h142 ih131 ua101 la101 ea101 hret C hM0; omega)), ⟨(by (clear ua146 la146 ea146 cv145 ev145 h144 h142 ih131 ua101 la101 ea101 hret C hM0; omega)), (by (clear ua146 la146 ea146 cv145 ev145 h144 h142 ih131 ua101 la101 ea101 hret C hM0; omega))⟩⟩⟩⟩)
        · refine y_lconst C 0 dX5_openWays_24 rfl ?_
          refine j_goto C 34 dX5_openWays_25 (by decide) ?_
          refine y_ladd C dX5_openWays_34 ?_
          refine j_lstore_n C 1 [(1, .long (sJ (a133 + 0))), (0, .ref (ad 88)), (3, .int (sI a134))] dX5_openWays_35 rfl (by decide) rfl ?_
          refine y_iinc C 2 [(3, .int (sI (a134 + 1))), (1, .long (sJ (a133 + 0))), (0, .ref (ad 88))] dX5_openWays_36 rfl (by decide) rfl ?_
          refine j_goto C 7 dX5_openWays_39 (by decide) ?_
          refine j_lv [2, 1, 0] rfl ?_; exact ih131 (a133 + 0) (a134 + 1) (by (clear h144 h142 ih131 ua101 la101 ea101 hret C hM0; omega))
  refine j_lv [2, 1, 0] rfl ?_; exact L132 2010 0 a101 (by exact ⟨(by decide), ⟨(by decide), ⟨la101, ⟨(by omega), (by omega)⟩⟩⟩⟩)
set_option maxHeartbeats 4000000 in
theorem s1_X11_chanceRefusal {l : Launch} {dC : Nat → ClassId} {dI : Nat → Nat → Nat} {ad : Nat → Nat} {cA : Nat → ClassId} {pr : Nat → Nat → Bool} {Kz : mm_M} {M0 : mm_M} (hM0 : INV pr Kz M0) (a0 : Int) (ha0 : -2147483648 ≤ a0 ∧ a0 ≤ 2147483647) (a1 : Int) (ha1 : -2147483648 ≤ a1 ∧ a1 ≤ 2147483647) (a2 : Int) (ha2 : -2147483648 ≤ a2 ∧ a2 ≤ 2147483647) : Ci l 0 yX11_chanceRefusal wsX11_chanceRefusal dC dI ad cA [.int (sI a0), .int (sI a1), .int (sI a2)] M0 (fun r M' => ∃ a : Int, r = sI a ∧ M0 = M' ∧ (-3) ≤ a ∧ a ≤ 0 ∧ ((a0 < 0 ∧ a = (-2)) ∨ (0 ≤ a0 ∧ a0 ≤ 1 ∧ a1 < 0 ∧ a = (-3)) ∨ (0 ≤ a0 ∧ a0 ≤ 1 ∧ 0 ≤ a1 ∧ a1 ≤ a2 ∧ a = 0) ∨ (0 ≤ a0 ∧ a0 ≤ 1 ∧ 0 ≤ a1 ∧ a2 < a1 ∧ a = (-3)) ∨ (0 ≤ a0 ∧ 1 < a0 ∧ a = (-2)))) := by
  refine ci_of (cc := cX11_chanceRefusal) (maxL := 3) (ty := .int) (lv := [(0, .int (sI a0)), (1, .int (sI a1)), (2, .int (sI a2))]) (by decide) rfl (fun r M' hp => rfl) (Nat.le_of_ble_eq_true rfl) rfl ?_
  intro p e s m args below meth c A Q C hret
  refine j_iload_n C 0 0 dX11_chanceRefusal_0 rfl rfl ?_
  refine y_if_lt C 9 dX11_chanceRefusal_1 (by decide) (by exact ⟨ha0.1, ha0.2⟩) (fun h101 => ?_) (fun h101 => ?_)
  · refine y_bipush C dX11_chanceRefusal_9 rfl ?_
    exact hret _ _ _ _ dX11_chanceRefusal_11 ⟨(-2), rfl, rfl, by exact ⟨(by decide), ⟨(by decide), (by (clear hret C ha2 hM0; omega))⟩⟩⟩
  · refine j_iload_n C 0 0 dX11_chanceRefusal_4 rfl rfl ?_
    refine y_iconst C dX11_chanceRefusal_5 ?_
    refine y_icmp_le C 12 dX11_chanceRefusal_6 (by decide) (by exact ⟨⟨ha0.1, ha0.2⟩, ⟨(by decide), (by decide)⟩⟩) (fun h102 => ?_) (fun h102 => ?_)
    · refine j_iload_n C 1 1 dX11_chanceRefusal_12 rfl rfl ?_
      refine y_if_lt C 21 dX11_chanceRefusal_13 (by decide) (by exact ⟨ha1.1, ha1.2⟩) (fun h103 => ?_) (fun h103 => ?_)
      · refine y_bipush C dX11_chanceRefusal_21 rfl ?_
        refine j_goto C 27 dX11_chanceRefusal_23 (by decide) ?_
        exact hret _ _ _ _ dX11_chanceRefusal_27 ⟨(-3), rfl, rfl, by exact ⟨(by decide), ⟨(by decide), (by (clear hret C ha2 hM0; omega))⟩⟩⟩
      · refine j_iload_n C 1 1 dX11_chanceRefusal_16 rfl rfl ?_
        refine j_iload_n C 2 2 dX11_chanceRefusal_17 rfl rfl ?_
        refine y_icmp_le C 26 dX11_chanceRefusal_18 (by decide) (by exact ⟨⟨ha1.1, ha1.2⟩, ⟨ha2.1, ha2.2⟩⟩) (fun h104 => ?_) (fun h104 => ?_)
        · refine y_iconst C dX11_chanceRefusal_26 ?_
          exact hret _ _ _ _ dX11_chanceRefusal_27 ⟨0, rfl, rfl, by exact ⟨(by decide), ⟨(by decide), (by (clear hret C ha2 hM0; omega))⟩⟩⟩
        · refine y_bipush C dX11_chanceRefusal_21 rfl ?_
          refine j_goto C 27 dX11_chanceRefusal_23 (by decide) ?_
          exact hret _ _ _ _ dX11_chanceRefusal_27 ⟨(-3), rfl, rfl, by exact ⟨(by decide), ⟨(by decide), (by (clear hret C ha2 hM0; omega))⟩⟩⟩
    · refine y_bipush C dX11_chanceRefusal_9 rfl ?_
      exact hret _ _ _ _ dX11_chanceRefusal_11 ⟨(-2), rfl, rfl, by exact ⟨(by decide), ⟨(by decide), (by (clear hret C ha2 ha1 hM0; omega))⟩⟩⟩
set_option maxHeartbeats 4000000 in
theorem s1_X11_commonDivisor {l : Launch} {dC : Nat → ClassId} {dI : Nat → Nat → Nat} {ad : Nat → Nat} {cA : Nat → ClassId} {pr : Nat → Nat → Bool} {Kz : mm_M} {M0 : mm_M} (hM0 : INV pr Kz M0) (a0 : Int) (ha0 : -9223372036854775808 ≤ a0 ∧ a0 ≤ 9223372036854775807) (a2 : Int) (ha2 : -9223372036854775808 ≤ a2 ∧ a2 ≤ 9223372036854775807) : Cj l 0 yX11_commonDivisor wsX11_commonDivisor dC dI ad cA [.long (sJ a0), .long (sJ a2)] M0 (fun r M' => ∃ a : Int, r = sJ a ∧ M0 = M' ∧ (-9223372036854775808) ≤ a ∧ a ≤ 9223372036854775807) := by
  refine cj_of (cc := cX11_commonDivisor) (maxL := 11) (lv := [(0, .long (sJ a0)), (2, .long (sJ a2))]) (by decide) rfl (Nat.le_of_ble_eq_true rfl) rfl ?_
  intro p e s m args below meth c A Q C hret
  refine j_lload_n C 0 0 dX11_commonDivisor_0 rfl rfl ?_
  refine j_lstore C 4 [(4, .long (sJ a0)), (0, .long (sJ a0)), (2, .long (sJ a2))] dX11_commonDivisor_1 (by decide) rfl ?_
  refine j_lload_n C 2 2 dX11_commonDivisor_3 rfl rfl ?_
  refine j_lstore C 6 [(6, .long (sJ a2)), (4, .long (sJ a0)), (0, .long (sJ a0)), (2, .long (sJ a2))] dX11_commonDivisor_4 (by decide) rfl ?_
  refine y_iconst C dX11_commonDivisor_6 ?_
  refine j_istore C 8 [(8, .int (sI 0)), (6, .long (sJ a2)), (4, .long (sJ a0)), (0, .long (sJ a0)), (2, .long (sJ a2))] dX11_commonDivisor_7 (by decide) rfl ?_
  have L253 : ∀ (n251 : Nat), ∀ (a254 : Int) (a255 : Int) (a256 : Int), ((-9223372036854775808) ≤ a254 ∧ a254 ≤ 9223372036854775807 ∧ (-9223372036854775808) ≤ a255 ∧ a255 ≤ 9223372036854775807 ∧ 0 ≤ a256 ∧ a256 ≤ 200 ∧ (200 - a256) < (n251 : Int)) → jj p l e (cn_R 0) s m args below meth c 0 0 Q 11 dC dI ad cA A M0 9 [(4, .long (sJ a254)), (6, .long (sJ a255)), (8, .int (sI a256))] [] := by
    intro n251
    induction n251 with
    | zero =>
      intro a254 a255 a256 h257
      exfalso; omega
    | succ n251 ih252 =>
      intro a254 a255 a256 h257
      refine j_iload C 2 dX11_commonDivisor_9 rfl ?_
      refine y_sipush C dX11_commonDivisor_11 rfl ?_
      refine y_icmp_ge C 45 dX11_commonDivisor_14 (by decide) (by exact ⟨⟨(by omega), (by omega)⟩, ⟨(by decide), (by decide)⟩⟩) (fun h258 => ?_) (fun h258 => ?_)
      · refine j_lload C 0 dX11_commonDivisor_45 rfl ?_
        exact hret _ _ _ _ dX11_commonDivisor_47 ⟨a254, rfl, rfl, by exact ⟨h257.1, h257.2.1⟩⟩
      · refine j_lload C 1 dX11_commonDivisor_17 rfl ?_
        refine y_lconst C 0 dX11_commonDivisor_19 rfl ?_
        refine y_lcmp_eq C 45 dX11_commonDivisor_20 dX11_commonDivisor_21 (by decide) (by exact ⟨⟨h257.2.2.1, h257.2.2.2.1⟩, ⟨(by decide), (by decide)⟩⟩) (fun h259 => ?_) (fun h259 => ?_)
        · refine j_lload C 0 dX11_commonDivisor_45 rfl ?_
          exact hret _ _ _ _ dX11_commonDivisor_47 ⟨a254, rfl, rfl, by exact ⟨h257.1, h257.2.1⟩⟩
        · refine j_lload C 0 dX11_commonDivisor_24 rfl ?_
          refine j_lload C 1 dX11_commonDivisor_26 rfl ?_
          refine y_lrem0 C dX11_commonDivisor_28 (by exact ⟨h257.2.2.1, ⟨h257.2.2.2.1, h259⟩⟩) (fun a260 la260 ua260 => ?_)
          refine j_lstore C 9 [(9, .long (sJ a260)), (4, .long (sJ a254)), (6, .long (sJ a255)), (8, .int (sI a256))] dX11_commonDivisor_29 (by decide) rfl ?_
          refine j_lload C 2 dX11_commonDivisor_31 rfl ?_
          refine j_lstore C 4 [(4, .long (sJ a255)), (9, .long (sJ a260)), (6, .long (sJ a255)), (8, .int (sI a256))] dX11_commonDivisor_33 (by decide) rfl ?_
          refine j_lload C 1 dX11_commonDivisor_35 rfl ?_
          refine j_lstore C 6 [(6, .long (sJ a260)), (4, .long (sJ a255)), (9, .long (sJ a260)), (8, .int (sI a256))] dX11_commonDivisor_37 (by decide) rfl ?_
          refine y_iinc C 3 [(8, .int (sI (a256 + 1))), (6, .long (sJ a260)), (4, .long (sJ a255)), (9, .long (sJ a260))] dX11_commonDivisor_39 rfl (by decide) rfl ?_
          refine j_goto C 9 dX11_commonDivisor_42 (by decide) ?_
          refine j_lv [2, 1, 0] rfl ?_; exact ih252 a255 a260 (a256 + 1) (by exact ⟨h257.2.2.1, ⟨h257.2.2.2.1, ⟨la260, ⟨ua260, ⟨(by (clear h259 ih252 hret C ha2 ha0 hM0; omega)), ⟨(by (clear h259 ih252 hret C ha2 ha0 hM0; omega)), (by (clear h259 ih252 hret C ha2 ha0 hM0; omega))⟩⟩⟩⟩⟩⟩)
  refine j_lv [2, 1, 0] rfl ?_; exact L253 2010 a0 a2 0 (by exact ⟨ha0.1, ⟨ha0.2, ⟨ha2.1, ⟨ha2.2, ⟨(by decide), ⟨(by decide), (by decide)⟩⟩⟩⟩⟩⟩)
set_option maxHeartbeats 4000000 in
theorem s1_X11_inLowestTerms {l : Launch} {dC : Nat → ClassId} {dI : Nat → Nat → Nat} {ad : Nat → Nat} {cA : Nat → ClassId} {pr : Nat → Nat → Bool} {Kz : mm_M} {M0 : mm_M} (hM0 : INV pr Kz M0) (a0 : Int) (ha0 : -9223372036854775808 ≤ a0 ∧ a0 ≤ 9223372036854775807) (a2 : Int) (ha2 : -9223372036854775808 ≤ a2 ∧ a2 ≤ 9223372036854775807) (a4 : Int) (ha4 : -2147483648 ≤ a4 ∧ a4 ≤ 2147483647) : Cj l 1 yX11_inLowestTerms wsX11_inLowestTerms dC dI ad cA [.long (sJ a0), .long (sJ a2), .int (sI a4)] M0 (fun r M' => ∃ a : Int, r = sJ a ∧ M0 = M' ∧ (-9223372036854775808) ≤ a ∧ a ≤ 9223372036854775807) := by
  refine cj_of (cc := cX11_inLowestTerms) (maxL := 9) (lv := [(0, .long (sJ a0)), (2, .long (sJ a2)), (4, .int (sI a4))]) (by decide) rfl (Nat.le_of_ble_eq_true rfl) rfl ?_
  intro p e s m args below meth c A Q C hret
  refine j_lload_n C 0 0 dX11_inLowestTerms_0 rfl rfl ?_
  refine j_lload_n C 1 2 dX11_inLowestTerms_1 rfl rfl ?_
  refine j_callSj C (d := 0) (As := [.long (sJ a0), .long (sJ a2)]) (st := []) (s1_X11_commonDivisor hM0 a0 (by exact ⟨ha0.1, ha0.2⟩) a2 (by exact ⟨ha2.1, ha2.2⟩)) gX11_inLowestTerms_X11_commonDivisor rfl hdX11_commonDivisors (by decide) (Nat.le_of_ble_eq_true rfl) dX11_inLowestTerms_2 rfl (fun r101 M102 h103 => ?_)
  obtain ⟨a105, rfl, rfl, h104⟩ := h103
  refine j_lstore C 5 [(5, .long (sJ a105)), (0, .long (sJ a0)), (2, .long (sJ a2)), (4, .int (sI a4))] dX11_inLowestTerms_5 (by decide) rfl ?_
  refine j_iload C 3 dX11_inLowestTerms_7 rfl ?_
  have J108 : ∀ (a107 : Int), ((-9223372036854775808) ≤ a107 ∧ a107 ≤ 9223372036854775807) → jj p l e (cn_R 1) s m args below meth c 0 0 Q 9 dC dI ad cA A M0 17 [(5, .long (sJ a105))] [.long (sJ a107)] := by
    intro a107 h109
    refine j_lstore C 7 [(7, .long (sJ a107)), (5, .long (sJ a105))] dX11_inLowestTerms_17 (by decide) rfl ?_
    refine j_lload C 1 dX11_inLowestTerms_19 rfl ?_
    refine y_lconst C 0 dX11_inLowestTerms_21 rfl ?_
    refine y_lcmp_le C 34 dX11_inLowestTerms_22 dX11_inLowestTerms_23 (by decide) (by exact ⟨⟨h104.1, h104.2⟩, ⟨(by decide), (by decide)⟩⟩) (fun h110 => ?_) (fun h110 => ?_)
    · refine j_lload C 0 dX11_inLowestTerms_34 rfl ?_
      exact hret _ _ _ _ dX11_inLowestTerms_36 ⟨a107, rfl, rfl, by exact ⟨h109.1, h109.2⟩⟩
    · refine j_lload C 0 dX11_inLowestTerms_26 rfl ?_
      refine j_lload C 1 dX11_inLowestTerms_28 rfl ?_
      refine y_ldiv0 C dX11_inLowestTerms_30 (by exact ⟨h104.1, ⟨h104.2, (by omega)⟩⟩) (fun a111 la111 ua111 => ?_)
      refine j_goto C 36 dX11_inLowestTerms_31 (by decide) ?_
      exact hret _ _ _ _ dX11_inLowestTerms_36 ⟨a111, rfl, rfl, by exact ⟨la111, ua111⟩⟩
  refine y_if_ne C 16 dX11_inLowestTerms_9 (by decide) (by exact ⟨ha4.1, ha4.2⟩) (fun h106 => ?_) (fun h106 => ?_)
  · refine j_lload_n C 2 2 dX11_inLowestTerms_16 rfl rfl ?_
    refine j_lv [0] rfl ?_; exact J108 a2 (by exact ⟨ha2.1, ha2.2⟩)
  · refine j_lload_n C 1 0 dX11_inLowestTerms_12 rfl rfl ?_
    refine j_goto C 17 dX11_inLowestTerms_13 (by decide) ?_
    refine j_lv [0] rfl ?_; exact J108 a0 (by exact ⟨ha0.1, ha0.2⟩)
