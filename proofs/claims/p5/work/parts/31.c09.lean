set_option maxHeartbeats 4000000 in
theorem s1_X11_gift {l : Launch} {dC : Nat → ClassId} {dI : Nat → Nat → Nat} {ad : Nat → Nat} {cA : Nat → ClassId} {pr : Nat → Nat → Bool} {Kz : mm_M} {M0 : mm_M} (hM0 : INV pr Kz M0) (hpr : PX pr) (hq8_0 : ∀ i, s_c i = 8 → pr i 0 = false) (a1 : Int) (ha1 : -2147483648 ≤ a1 ∧ a1 ≤ 2147483647) : Ci l 3 yX11_gift wsX11_gift dC dI ad cA [.ref (ad 0), .int (sI a1)] M0 (fun r M' => ∃ a : Int, r = sI a ∧ INV pr Kz M' ∧ (-2147483648) ≤ a ∧ a ≤ 2147483647) := by
  refine ci_of (cc := cX11_gift) (maxL := 2) (ty := .int) (lv := [(0, .ref (ad 0)), (1, .int (sI a1))]) (by decide) rfl (fun r M' hp => rfl) (Nat.le_of_ble_eq_true rfl) rfl ?_
  intro p e s m args below meth c A Q C hret
  refine j_aload_n C 0 0 dX11_gift_0 rfl rfl ?_
  refine y_getC C 10 15 fX11_gift_40 rfl rfl ft_10_7 sm_10_7 rfl hM0 dX11_gift_1 ?_
  refine j_aload_n C 0 0 dX11_gift_4 rfl rfl ?_
  refine y_getC C 10 12 fX11_gift_36 rfl rfl ft_10_6 sm_10_6 rfl hM0 dX11_gift_5 ?_
  refine j_callVv C (d := 0) (As := [.ref (ad 12)]) (st := []) 15 (s_lt rfl rfl) (s_kc (c := 8) rfl rfl) (by decide) rfl (s1_X9_copyFrom hM0 hpr hq8_0 rfl rfl) gX11_gift_X9_copyFrom rfl hdX9_copyFrom (by decide) (Nat.le_of_ble_eq_true rfl) dX11_gift_8 rfl (fun M102 h103 => ?_)
  have hM102 := h103
  refine j_aload_n C 0 0 dX11_gift_11 rfl rfl ?_
  refine j_aload_n C 0 0 dX11_gift_12 rfl rfl ?_
  refine y_getC C 10 87 fX11_gift_85 rfl rfl ft_10_13 sm_10_13 rfl hM102 dX11_gift_13 ?_
  refine j_aload_n C 0 0 dX11_gift_16 rfl rfl ?_
  refine y_getC C 10 12 fX11_gift_36 rfl rfl ft_10_6 sm_10_6 rfl hM102 dX11_gift_17 ?_
  refine j_iload_n C 1 1 dX11_gift_20 rfl rfl ?_
  refine j_callVi C (d := 2) (As := [.ref (ad 12), .int (sI a1)]) (st := [.ref (ad 0)]) 87 (s_lt rfl rfl) (s_kc (c := 1) rfl rfl) (by decide) rfl (s1_X1_giveAway hM102 hpr rfl a1 (by omega)) gX11_gift_X1_giveAway rfl hdX1_giveAway (by decide) (Nat.le_of_ble_eq_true rfl) dX11_gift_21 rfl (fun r105 M106 h107 => ?_)
  obtain ⟨a109, rfl, hM106, h108⟩ := h107
  refine j_callVi C (d := 2) (As := [.int (sI a109)]) (st := []) 0 (s_lt rfl rfl) (s_kc (c := 10) rfl rfl) (by decide) rfl (s1_X11_settle hM106 hpr hq8_0 a109 (by omega)) gX11_gift_X11_settle rfl hdX11_settle (by decide) (Nat.le_of_ble_eq_true rfl) dX11_gift_24 rfl (fun r110 M111 h112 => ?_)
  obtain ⟨a114, rfl, hM111, h113⟩ := h112
  exact hret _ _ _ _ dX11_gift_27 ⟨a114, rfl, hM111, by omega⟩
set_option maxHeartbeats 4000000 in
theorem s1_X1_turn {l : Launch} {dC : Nat → ClassId} {dI : Nat → Nat → Nat} {ad : Nat → Nat} {cA : Nat → ClassId} {pr : Nat → Nat → Bool} {Kz : mm_M} {M0 : mm_M} (hM0 : INV pr Kz M0) (hpr : PX pr) {v1 : Nat} (cv1 : s_c v1 = 8) (a2 : Int) (ha2 : -2147483648 ≤ a2 ∧ a2 ≤ 2147483647) : Ci l 2 yX1_turn wsX1_turn dC dI ad cA [.ref (ad 87), .ref (ad v1), .int (sI a2)] M0 (fun r M' => ∃ a : Int, r = sI a ∧ INV pr Kz M' ∧ (-12) ≤ a ∧ a ≤ 1) := by
  refine ci_of (cc := cX1_turn) (maxL := 3) (ty := .int) (lv := [(0, .ref (ad 87)), (1, .ref (ad v1)), (2, .int (sI a2))]) (by decide) rfl (fun r M' hp => rfl) (Nat.le_of_ble_eq_true rfl) rfl ?_
  intro p e s m args below meth c A Q C hret
  refine j_aload_n C 1 1 dX1_turn_0 rfl rfl ?_
  refine j_iload_n C 2 2 dX1_turn_1 rfl rfl ?_
  refine j_callVi C (d := 0) (As := [.int (sI a2)]) (st := []) v1 (s_lt cv1 rfl) (s_kc (c := 8) cv1 rfl) (by decide) rfl (s1_X9_holds hM0 cv1 a2 (by omega)) gX1_turn_X9_holds rfl hdX9_holds (by decide) (Nat.le_of_ble_eq_true rfl) dX1_turn_2 rfl (fun r101 M102 h103 => ?_)
  obtain ⟨a105, rfl, rfl, h104⟩ := h103
  refine y_if_ne C 11 dX1_turn_5 (by decide) (by omega) (fun h106 => ?_) (fun h106 => ?_)
  · refine j_aload_n C 1 1 dX1_turn_11 rfl rfl ?_
    refine j_callVi C (d := 1) (As := []) (st := []) v1 (s_lt cv1 rfl) (s_kc (c := 8) cv1 rfl) (by decide) rfl (s1_X9_isShut hM0 cv1) gX1_turn_X9_isShut rfl hdX9_isShut (by decide) (Nat.le_of_ble_eq_true rfl) dX1_turn_12 rfl (fun r107 M108 h109 => ?_)
    obtain ⟨a111, rfl, rfl, h110⟩ := h109
    refine y_if_eq C 21 dX1_turn_15 (by decide) (by omega) (fun h112 => ?_) (fun h112 => ?_)
    · refine j_aload_n C 1 1 dX1_turn_21 rfl rfl ?_
      refine j_dup C dX1_turn_22 rfl ?_
      refine y_getI C 8 _ _ fX1_turn_36 cv1 rfl ft_8_4 sb_8_4 hM0 dX1_turn_23 (fun a113 ea113 la113 ua113 => ?_)
      refine y_iconst C dX1_turn_26 ?_
      refine j_iload_n C 2 2 dX1_turn_27 rfl rfl ?_
      refine y_shl1 C 7 128 dX1_turn_28 rfl (by decide) (by omega) (fun a115 la115 ua115 => ?_)
      refine y_ixorN C 8 255 dX1_turn_29 rfl (by decide) (by omega) (fun a116 la116 ua116 => ?_)
      refine y_putI C 8 _ _ qX1_turn_36 cv1 rfl ft_8_4 sb_8_4 hM0 (PX.w hpr cv1 rfl) dX1_turn_30 (by omega) (fun M117 eM117 hM117 => ?_)
      refine j_aload_n C 1 1 dX1_turn_33 rfl rfl ?_
      refine y_getI C 8 _ _ fX1_turn_36 cv1 rfl ft_8_4 sb_8_4 hM117 dX1_turn_34 (fun a118 ea118 la118 ua118 => ?_)
      refine j_iload_n C 2 2 dX1_turn_37 rfl rfl ?_
      refine y_ishrP C dX1_turn_38 (by omega) (fun a120 la120 ua120 => ?_)
      refine y_iconst C dX1_turn_39 ?_
      refine y_iandR C dX1_turn_40 (by omega) (fun a121 la121 ua121 => ?_)
      exact hret _ _ _ _ dX1_turn_41 ⟨a121, rfl, hM117, by omega⟩
    · refine y_bipush C dX1_turn_18 rfl ?_
      exact hret _ _ _ _ dX1_turn_20 ⟨(-12), rfl, hM0, by omega⟩
  · refine y_bipush C dX1_turn_8 rfl ?_
    exact hret _ _ _ _ dX1_turn_10 ⟨(-11), rfl, hM0, by omega⟩
set_option maxHeartbeats 4000000 in
theorem s1_X11_hide {l : Launch} {dC : Nat → ClassId} {dI : Nat → Nat → Nat} {ad : Nat → Nat} {cA : Nat → ClassId} {pr : Nat → Nat → Bool} {Kz : mm_M} {M0 : mm_M} (hM0 : INV pr Kz M0) (hpr : PX pr) (hq8_0 : ∀ i, s_c i = 8 → pr i 0 = false) (a1 : Int) (ha1 : -2147483648 ≤ a1 ∧ a1 ≤ 2147483647) : Ci l 3 yX11_hide wsX11_hide dC dI ad cA [.ref (ad 0), .int (sI a1)] M0 (fun r M' => ∃ a : Int, r = sI a ∧ INV pr Kz M' ∧ (-2147483648) ≤ a ∧ a ≤ 2147483647) := by
  refine ci_of (cc := cX11_hide) (maxL := 2) (ty := .int) (lv := [(0, .ref (ad 0)), (1, .int (sI a1))]) (by decide) rfl (fun r M' hp => rfl) (Nat.le_of_ble_eq_true rfl) rfl ?_
  intro p e s m args below meth c A Q C hret
  refine j_aload_n C 0 0 dX11_hide_0 rfl rfl ?_
  refine y_getC C 10 15 fX11_hide_40 rfl rfl ft_10_7 sm_10_7 rfl hM0 dX11_hide_1 ?_
  refine j_aload_n C 0 0 dX11_hide_4 rfl rfl ?_
  refine y_getC C 10 12 fX11_hide_36 rfl rfl ft_10_6 sm_10_6 rfl hM0 dX11_hide_5 ?_
  refine j_callVv C (d := 0) (As := [.ref (ad 12)]) (st := []) 15 (s_lt rfl rfl) (s_kc (c := 8) rfl rfl) (by decide) rfl (s1_X9_copyFrom hM0 hpr hq8_0 rfl rfl) gX11_hide_X9_copyFrom rfl hdX9_copyFrom (by decide) (Nat.le_of_ble_eq_true rfl) dX11_hide_8 rfl (fun M102 h103 => ?_)
  have hM102 := h103
  refine j_aload_n C 0 0 dX11_hide_11 rfl rfl ?_
  refine j_aload_n C 0 0 dX11_hide_12 rfl rfl ?_
  refine y_getC C 10 87 fX11_hide_85 rfl rfl ft_10_13 sm_10_13 rfl hM102 dX11_hide_13 ?_
  refine j_aload_n C 0 0 dX11_hide_16 rfl rfl ?_
  refine y_getC C 10 12 fX11_hide_36 rfl rfl ft_10_6 sm_10_6 rfl hM102 dX11_hide_17 ?_
  refine j_iload_n C 1 1 dX11_hide_20 rfl rfl ?_
  refine j_callVi C (d := 2) (As := [.ref (ad 12), .int (sI a1)]) (st := [.ref (ad 0)]) 87 (s_lt rfl rfl) (s_kc (c := 1) rfl rfl) (by decide) rfl (s1_X1_turn hM102 hpr rfl a1 (by omega)) gX11_hide_X1_turn rfl hdX1_turn (by decide) (Nat.le_of_ble_eq_true rfl) dX11_hide_21 rfl (fun r105 M106 h107 => ?_)
  obtain ⟨a109, rfl, hM106, h108⟩ := h107
  refine j_callVi C (d := 2) (As := [.int (sI a109)]) (st := []) 0 (s_lt rfl rfl) (s_kc (c := 10) rfl rfl) (by decide) rfl (s1_X11_settle hM106 hpr hq8_0 a109 (by omega)) gX11_hide_X11_settle rfl hdX11_settle (by decide) (Nat.le_of_ble_eq_true rfl) dX11_hide_24 rfl (fun r110 M111 h112 => ?_)
  obtain ⟨a114, rfl, hM111, h113⟩ := h112
  exact hret _ _ _ _ dX11_hide_27 ⟨a114, rfl, hM111, by omega⟩
set_option maxHeartbeats 4000000 in
theorem s1_X1_bringIn {l : Launch} {dC : Nat → ClassId} {dI : Nat → Nat → Nat} {ad : Nat → Nat} {cA : Nat → ClassId} {pr : Nat → Nat → Bool} {Kz : mm_M} {M0 : mm_M} (hM0 : INV pr Kz M0) (hpr : PX pr) (hq8_0 : ∀ i, s_c i = 8 → pr i 0 = false) {v1 : Nat} (cv1 : s_c v1 = 8) (a2 : Int) (ha2 : -2147483648 ≤ a2 ∧ a2 ≤ 2147483647) (a3 : Int) (ha3 : -2147483648 ≤ a3 ∧ a3 ≤ 2147483647) : Ci l 2 yX1_bringIn wsX1_bringIn dC dI ad cA [.ref (ad 87), .ref (ad v1), .int (sI a2), .int (sI a3)] M0 (fun r M' => ∃ a : Int, r = sI a ∧ INV pr Kz M' ∧ (-13) ≤ a ∧ a ≤ 7) := by
  refine ci_of (cc := cX1_bringIn) (maxL := 4) (ty := .int) (lv := [(0, .ref (ad 87)), (1, .ref (ad v1)), (2, .int (sI a2)), (3, .int (sI a3))]) (by decide) rfl (fun r M' hp => rfl) (Nat.le_of_ble_eq_true rfl) rfl ?_
  intro p e s m args below meth c A Q C hret
  refine j_iload_n C 2 2 dX1_bringIn_0 rfl rfl ?_
  refine y_iconst C dX1_bringIn_1 ?_
  refine y_icmp_lt C 21 dX1_bringIn_2 (by decide) (by omega) (fun h101 => ?_) (fun h101 => ?_)
  · refine y_bipush C dX1_bringIn_21 rfl ?_
    exact hret _ _ _ _ dX1_bringIn_23 ⟨(-11), rfl, hM0, by omega⟩
  · refine j_iload_n C 2 2 dX1_bringIn_5 rfl rfl ?_
    refine y_bipush C dX1_bringIn_6 rfl ?_
    refine y_icmp_gt C 21 dX1_bringIn_8 (by decide) (by omega) (fun h102 => ?_) (fun h102 => ?_)
    · refine y_bipush C dX1_bringIn_21 rfl ?_
      exact hret _ _ _ _ dX1_bringIn_23 ⟨(-11), rfl, hM0, by omega⟩
    · refine j_iload_n C 3 3 dX1_bringIn_11 rfl rfl ?_
      refine y_if_lt C 21 dX1_bringIn_12 (by decide) (by omega) (fun h103 => ?_) (fun h103 => ?_)
      · refine y_bipush C dX1_bringIn_21 rfl ?_
        exact hret _ _ _ _ dX1_bringIn_23 ⟨(-11), rfl, hM0, by omega⟩
      · refine j_iload_n C 3 3 dX1_bringIn_15 rfl rfl ?_
        refine y_bipush C dX1_bringIn_16 rfl ?_
        refine y_icmp_le C 24 dX1_bringIn_18 (by decide) (by omega) (fun h104 => ?_) (fun h104 => ?_)
        · refine j_aload_n C 1 1 dX1_bringIn_24 rfl rfl ?_
          refine j_callVi C (d := 1) (As := []) (st := []) v1 (s_lt cv1 rfl) (s_kc (c := 8) cv1 rfl) (by decide) rfl (s1_X9_isShut hM0 cv1) gX1_bringIn_X9_isShut rfl hdX9_isShut (by decide) (Nat.le_of_ble_eq_true rfl) dX1_bringIn_25 rfl (fun r105 M106 h107 => ?_)
          obtain ⟨a109, rfl, rfl, h108⟩ := h107
          refine y_if_eq C 34 dX1_bringIn_28 (by decide) (by omega) (fun h110 => ?_) (fun h110 => ?_)
          · refine j_aload_n C 1 1 dX1_bringIn_34 rfl rfl ?_
            refine y_getI C 8 _ _ fX1_bringIn_57 cv1 rfl ft_8_0 sb_8_0 hM0 dX1_bringIn_35 (fun a111 ea111 la111 ua111 => ?_)
            refine y_bipush C dX1_bringIn_38 rfl ?_
            refine y_icmp_lt C 46 dX1_bringIn_40 (by decide) (by omega) (fun h113 => ?_) (fun h113 => ?_)
            · refine j_aload_n C 1 1 dX1_bringIn_46 rfl rfl ?_
              refine y_getT C 8 25 fX1_bringIn_46 cv1 rfl ft_8_1 rfl sm_8_1 st_8_1 (by decide) hM0 dX1_bringIn_47 (fun v114 cv114 => ?_)
              refine j_aload_n C 1 1 dX1_bringIn_50 rfl rfl ?_
              refine y_getI C 8 _ _ fX1_bringIn_57 cv1 rfl ft_8_0 sb_8_0 hM0 dX1_bringIn_51 (fun a115 ea115 la115 ua115 => ?_)
              refine j_iload_n C 2 2 dX1_bringIn_54 rfl rfl ?_
              refine y_iastF C 25 8 cv114 rfl rfl ak_25 an_25 rfl (sb_25 _) hM0 (PX.w hpr cv114 rfl) dX1_bringIn_55 (by omega) (fun M117 eM117 hM117 => ?_)
              refine j_aload_n C 1 1 dX1_bringIn_56 rfl rfl ?_
              refine y_getT C 8 26 fX1_bringIn_60 cv1 rfl ft_8_2 rfl sm_8_2 st_8_2 (by decide) hM117 dX1_bringIn_57 (fun v118 cv118 => ?_)
              refine j_aload_n C 1 1 dX1_bringIn_60 rfl rfl ?_
              refine y_getI C 8 _ _ fX1_bringIn_57 cv1 rfl ft_8_0 sb_8_0 hM117 dX1_bringIn_61 (fun a119 ea119 la119 ua119 => ?_)
              have qa119 : a119 = a111 := (s_fa eM117 (s_ne (c := 8) (d := 25) cv1 cv114 (by decide)) (ea119)).trans ea111.symm
              refine j_iload_n C 3 3 dX1_bringIn_64 rfl rfl ?_
              refine y_iastF C 26 8 cv118 rfl rfl ak_26 an_26 rfl (sb_26 _) hM117 (PX.w hpr cv118 rfl) dX1_bringIn_65 (by omega) (fun M121 eM121 hM121 => ?_)
              refine j_aload_n C 1 1 dX1_bringIn_66 rfl rfl ?_
              refine j_dup C dX1_bringIn_67 rfl ?_
              refine y_getI C 8 _ _ fX1_bringIn_57 cv1 rfl ft_8_0 sb_8_0 hM121 dX1_bringIn_68 (fun a122 ea122 la122 ua122 => ?_)
              have qa122 : a122 = a119 := (s_fa eM121 (s_ne (c := 8) (d := 26) cv1 cv118 (by decide)) (ea122)).trans ea119.symm
              refine y_iconst C dX1_bringIn_71 ?_
              refine y_iadd C dX1_bringIn_72 ?_
              refine y_putI C 8 _ _ qX1_bringIn_57 cv1 rfl ft_8_0 sb_8_0 hM121 (hq8_0 _ cv1) dX1_bringIn_73 (by omega) (fun M124 eM124 hM124 => ?_)
              refine j_aload_n C 1 1 dX1_bringIn_76 rfl rfl ?_
              refine y_getI C 8 _ _ fX1_bringIn_57 cv1 rfl ft_8_0 sb_8_0 hM124 dX1_bringIn_77 (fun a125 ea125 la125 ua125 => ?_)
              refine y_iconst C dX1_bringIn_80 ?_
              refine y_isub C dX1_bringIn_81 ?_
              exact hret _ _ _ _ dX1_bringIn_82 ⟨(a125 - 1), rfl, hM124, by omega⟩
            · refine y_bipush C dX1_bringIn_43 rfl ?_
              exact hret _ _ _ _ dX1_bringIn_45 ⟨(-13), rfl, hM0, by omega⟩
          · refine y_bipush C dX1_bringIn_31 rfl ?_
            exact hret _ _ _ _ dX1_bringIn_33 ⟨(-12), rfl, hM0, by omega⟩
        · refine y_bipush C dX1_bringIn_21 rfl ?_
          exact hret _ _ _ _ dX1_bringIn_23 ⟨(-11), rfl, hM0, by omega⟩
set_option maxHeartbeats 4000000 in
theorem s1_X11_add {l : Launch} {dC : Nat → ClassId} {dI : Nat → Nat → Nat} {ad : Nat → Nat} {cA : Nat → ClassId} {pr : Nat → Nat → Bool} {Kz : mm_M} {M0 : mm_M} (hM0 : INV pr Kz M0) (hpr : PX pr) (hq8_0 : ∀ i, s_c i = 8 → pr i 0 = false) (a1 : Int) (ha1 : -2147483648 ≤ a1 ∧ a1 ≤ 2147483647) (a2 : Int) (ha2 : -2147483648 ≤ a2 ∧ a2 ≤ 2147483647) : Ci l 3 yX11_add wsX11_add dC dI ad cA [.ref (ad 0), .int (sI a1), .int (sI a2)] M0 (fun r M' => ∃ a : Int, r = sI a ∧ INV pr Kz M' ∧ (-2147483648) ≤ a ∧ a ≤ 2147483647) := by
  refine ci_of (cc := cX11_add) (maxL := 3) (ty := .int) (lv := [(0, .ref (ad 0)), (1, .int (sI a1)), (2, .int (sI a2))]) (by decide) rfl (fun r M' hp => rfl) (Nat.le_of_ble_eq_true rfl) rfl ?_
  intro p e s m args below meth c A Q C hret
  refine j_aload_n C 0 0 dX11_add_0 rfl rfl ?_
  refine y_getC C 10 15 fX11_add_40 rfl rfl ft_10_7 sm_10_7 rfl hM0 dX11_add_1 ?_
  refine j_aload_n C 0 0 dX11_add_4 rfl rfl ?_
  refine y_getC C 10 12 fX11_add_36 rfl rfl ft_10_6 sm_10_6 rfl hM0 dX11_add_5 ?_
  refine j_callVv C (d := 0) (As := [.ref (ad 12)]) (st := []) 15 (s_lt rfl rfl) (s_kc (c := 8) rfl rfl) (by decide) rfl (s1_X9_copyFrom hM0 hpr hq8_0 rfl rfl) gX11_add_X9_copyFrom rfl hdX9_copyFrom (by decide) (Nat.le_of_ble_eq_true rfl) dX11_add_8 rfl (fun M102 h103 => ?_)
  have hM102 := h103
  refine j_aload_n C 0 0 dX11_add_11 rfl rfl ?_
  refine j_aload_n C 0 0 dX11_add_12 rfl rfl ?_
  refine y_getC C 10 87 fX11_add_85 rfl rfl ft_10_13 sm_10_13 rfl hM102 dX11_add_13 ?_
  refine j_aload_n C 0 0 dX11_add_16 rfl rfl ?_
  refine y_getC C 10 12 fX11_add_36 rfl rfl ft_10_6 sm_10_6 rfl hM102 dX11_add_17 ?_
  refine j_iload_n C 1 1 dX11_add_20 rfl rfl ?_
  refine j_iload_n C 2 2 dX11_add_21 rfl rfl ?_
  refine j_callVi C (d := 2) (As := [.ref (ad 12), .int (sI a1), .int (sI a2)]) (st := [.ref (ad 0)]) 87 (s_lt rfl rfl) (s_kc (c := 1) rfl rfl) (by decide) rfl (s1_X1_bringIn hM102 hpr hq8_0 rfl a1 (by omega) a2 (by omega)) gX11_add_X1_bringIn rfl hdX1_bringIn (by decide) (Nat.le_of_ble_eq_true rfl) dX11_add_22 rfl (fun r105 M106 h107 => ?_)
  obtain ⟨a109, rfl, hM106, h108⟩ := h107
  refine j_callVi C (d := 2) (As := [.int (sI a109)]) (st := []) 0 (s_lt rfl rfl) (s_kc (c := 10) rfl rfl) (by decide) rfl (s1_X11_settle hM106 hpr hq8_0 a109 (by omega)) gX11_add_X11_settle rfl hdX11_settle (by decide) (Nat.le_of_ble_eq_true rfl) dX11_add_25 rfl (fun r110 M111 h112 => ?_)
  obtain ⟨a114, rfl, hM111, h113⟩ := h112
  exact hret _ _ _ _ dX11_add_28 ⟨a114, rfl, hM111, by omega⟩
set_option maxHeartbeats 4000000 in
theorem s1_X1_reprice {l : Launch} {dC : Nat → ClassId} {dI : Nat → Nat → Nat} {ad : Nat → Nat} {cA : Nat → ClassId} {pr : Nat → Nat → Bool} {Kz : mm_M} {M0 : mm_M} (hM0 : INV pr Kz M0) (hpr : PX pr) {v1 : Nat} (cv1 : s_c v1 = 8) (a2 : Int) (ha2 : -2147483648 ≤ a2 ∧ a2 ≤ 2147483647) (a3 : Int) (ha3 : -2147483648 ≤ a3 ∧ a3 ≤ 2147483647) : Ci l 2 yX1_reprice wsX1_reprice dC dI ad cA [.ref (ad 87), .ref (ad v1), .int (sI a2), .int (sI a3)] M0 (fun r M' => ∃ a : Int, r = sI a ∧ INV pr Kz M' ∧ (-2147483648) ≤ a ∧ a ≤ 2147483647) := by
  refine ci_of (cc := cX1_reprice) (maxL := 5) (ty := .int) (lv := [(0, .ref (ad 87)), (1, .ref (ad v1)), (2, .int (sI a2)), (3, .int (sI a3))]) (by decide) rfl (fun r M' hp => rfl) (Nat.le_of_ble_eq_true rfl) rfl ?_
  intro p e s m args below meth c A Q C hret
  refine j_aload_n C 1 1 dX1_reprice_0 rfl rfl ?_
  refine j_iload_n C 2 2 dX1_reprice_1 rfl rfl ?_
  refine j_callVi C (d := 0) (As := [.int (sI a2)]) (st := []) v1 (s_lt cv1 rfl) (s_kc (c := 8) cv1 rfl) (by decide) rfl (s1_X9_holds hM0 cv1 a2 (by omega)) gX1_reprice_X9_holds rfl hdX9_holds (by decide) (Nat.le_of_ble_eq_true rfl) dX1_reprice_2 rfl (fun r101 M102 h103 => ?_)
  obtain ⟨a105, rfl, rfl, h104⟩ := h103
  refine y_if_eq C 19 dX1_reprice_5 (by decide) (by omega) (fun h106 => ?_) (fun h106 => ?_)
  · refine y_bipush C dX1_reprice_19 rfl ?_
    exact hret _ _ _ _ dX1_reprice_21 ⟨(-11), rfl, hM0, by omega⟩
  · refine j_iload_n C 3 3 dX1_reprice_8 rfl rfl ?_
    refine y_iconst C dX1_reprice_9 ?_
    refine y_icmp_lt C 19 dX1_reprice_10 (by decide) (by omega) (fun h107 => ?_) (fun h107 => ?_)
    · refine y_bipush C dX1_reprice_19 rfl ?_
      exact hret _ _ _ _ dX1_reprice_21 ⟨(-11), rfl, hM0, by omega⟩
    · refine j_iload_n C 3 3 dX1_reprice_13 rfl rfl ?_
      refine y_bipush C dX1_reprice_14 rfl ?_
      refine y_icmp_le C 22 dX1_reprice_16 (by decide) (by omega) (fun h108 => ?_) (fun h108 => ?_)
      · refine j_aload_n C 1 1 dX1_reprice_22 rfl rfl ?_
        refine j_callVi C (d := 1) (As := []) (st := []) v1 (s_lt cv1 rfl) (s_kc (c := 8) cv1 rfl) (by decide) rfl (s1_X9_isShut hM0 cv1) gX1_reprice_X9_isShut rfl hdX9_isShut (by decide) (Nat.le_of_ble_eq_true rfl) dX1_reprice_23 rfl (fun r109 M110 h111 => ?_)
        obtain ⟨a113, rfl, rfl, h112⟩ := h111
        refine y_if_eq C 32 dX1_reprice_26 (by decide) (by omega) (fun h114 => ?_) (fun h114 => ?_)
        · refine j_aload_n C 1 1 dX1_reprice_32 rfl rfl ?_
          refine y_getT C 8 25 fX1_reprice_46 cv1 rfl ft_8_1 rfl sm_8_1 st_8_1 (by decide) hM0 dX1_reprice_33 (fun v115 cv115 => ?_)
          refine j_iload_n C 2 2 dX1_reprice_36 rfl rfl ?_
          refine y_iald C 25 8 _ _ cv115 rfl rfl ak_25 an_25 rfl (sb_25 _) hM0 dX1_reprice_37 (by omega) (fun a116 ea116 la116 ua116 => ?_)
          refine j_istore C 4 [(4, .int (sI a116)), (0, .ref (ad 87)), (1, .ref (ad v1)), (2, .int (sI a2)), (3, .int (sI a3))] dX1_reprice_38 (by decide) rfl ?_
          refine j_aload_n C 2 1 dX1_reprice_40 rfl rfl ?_
          refine y_getT C 8 25 fX1_reprice_46 cv1 rfl ft_8_1 rfl sm_8_1 st_8_1 (by decide) hM0 dX1_reprice_41 (fun v117 cv117 => ?_)
          refine j_iload_n C 3 2 dX1_reprice_44 rfl rfl ?_
          refine j_iload_n C 4 3 dX1_reprice_45 rfl rfl ?_
          refine y_iastF C 25 8 cv117 rfl rfl ak_25 an_25 rfl (sb_25 _) hM0 (PX.w hpr cv117 rfl) dX1_reprice_46 (by omega) (fun M118 eM118 hM118 => ?_)
          refine j_iload C 0 dX1_reprice_47 rfl ?_
          exact hret _ _ _ _ dX1_reprice_49 ⟨a116, rfl, hM118, by omega⟩
        · refine y_bipush C dX1_reprice_29 rfl ?_
          exact hret _ _ _ _ dX1_reprice_31 ⟨(-12), rfl, hM0, by omega⟩
      · refine y_bipush C dX1_reprice_19 rfl ?_
        exact hret _ _ _ _ dX1_reprice_21 ⟨(-11), rfl, hM0, by omega⟩
set_option maxHeartbeats 4000000 in
theorem s1_X11_price {l : Launch} {dC : Nat → ClassId} {dI : Nat → Nat → Nat} {ad : Nat → Nat} {cA : Nat → ClassId} {pr : Nat → Nat → Bool} {Kz : mm_M} {M0 : mm_M} (hM0 : INV pr Kz M0) (hpr : PX pr) (hq8_0 : ∀ i, s_c i = 8 → pr i 0 = false) (a1 : Int) (ha1 : -2147483648 ≤ a1 ∧ a1 ≤ 2147483647) (a2 : Int) (ha2 : -2147483648 ≤ a2 ∧ a2 ≤ 2147483647) : Ci l 3 yX11_price wsX11_price dC dI ad cA [.ref (ad 0), .int (sI a1), .int (sI a2)] M0 (fun r M' => ∃ a : Int, r = sI a ∧ INV pr Kz M' ∧ (-2147483648) ≤ a ∧ a ≤ 2147483647) := by
  refine ci_of (cc := cX11_price) (maxL := 3) (ty := .int) (lv := [(0, .ref (ad 0)), (1, .int (sI a1)), (2, .int (sI a2))]) (by decide) rfl (fun r M' hp => rfl) (Nat.le_of_ble_eq_true rfl) rfl ?_
  intro p e s m args below meth c A Q C hret
  refine j_aload_n C 0 0 dX11_price_0 rfl rfl ?_
  refine y_getC C 10 15 fX11_price_40 rfl rfl ft_10_7 sm_10_7 rfl hM0 dX11_price_1 ?_
  refine j_aload_n C 0 0 dX11_price_4 rfl rfl ?_
  refine y_getC C 10 12 fX11_price_36 rfl rfl ft_10_6 sm_10_6 rfl hM0 dX11_price_5 ?_
  refine j_callVv C (d := 0) (As := [.ref (ad 12)]) (st := []) 15 (s_lt rfl rfl) (s_kc (c := 8) rfl rfl) (by decide) rfl (s1_X9_copyFrom hM0 hpr hq8_0 rfl rfl) gX11_price_X9_copyFrom rfl hdX9_copyFrom (by decide) (Nat.le_of_ble_eq_true rfl) dX11_price_8 rfl (fun M102 h103 => ?_)
  have hM102 := h103
  refine j_aload_n C 0 0 dX11_price_11 rfl rfl ?_
  refine j_aload_n C 0 0 dX11_price_12 rfl rfl ?_
  refine y_getC C 10 87 fX11_price_85 rfl rfl ft_10_13 sm_10_13 rfl hM102 dX11_price_13 ?_
  refine j_aload_n C 0 0 dX11_price_16 rfl rfl ?_
  refine y_getC C 10 12 fX11_price_36 rfl rfl ft_10_6 sm_10_6 rfl hM102 dX11_price_17 ?_
  refine j_iload_n C 1 1 dX11_price_20 rfl rfl ?_
  refine j_iload_n C 2 2 dX11_price_21 rfl rfl ?_
  refine j_callVi C (d := 2) (As := [.ref (ad 12), .int (sI a1), .int (sI a2)]) (st := [.ref (ad 0)]) 87 (s_lt rfl rfl) (s_kc (c := 1) rfl rfl) (by decide) rfl (s1_X1_reprice hM102 hpr rfl a1 (by omega) a2 (by omega)) gX11_price_X1_reprice rfl hdX1_reprice (by decide) (Nat.le_of_ble_eq_true rfl) dX11_price_22 rfl (fun r105 M106 h107 => ?_)
  obtain ⟨a109, rfl, hM106, h108⟩ := h107
  refine j_callVi C (d := 2) (As := [.int (sI a109)]) (st := []) 0 (s_lt rfl rfl) (s_kc (c := 10) rfl rfl) (by decide) rfl (s1_X11_settle hM106 hpr hq8_0 a109 (by omega)) gX11_price_X11_settle rfl hdX11_settle (by decide) (Nat.le_of_ble_eq_true rfl) dX11_price_25 rfl (fun r110 M111 h112 => ?_)
  obtain ⟨a114, rfl, hM111, h113⟩ := h112
  exact hret _ _ _ _ dX11_price_28 ⟨a114, rfl, hM111, by omega⟩
set_option maxHeartbeats 4000000 in
theorem s1_X7_together {l : Launch} {dC : Nat → ClassId} {dI : Nat → Nat → Nat} {ad : Nat → Nat} {cA : Nat → ClassId} {pr : Nat → Nat → Bool} {Kz : mm_M} {M0 : mm_M} (hM0 : INV pr Kz M0) {v0 : Nat} (cv0 : s_c v0 = 6) : Ci l 0 yX7_together wsX7_together dC dI ad cA [.ref (ad v0)] M0 (fun r M' => ∃ a : Int, r = sI a ∧ M0 = M' ∧ (-2147483648) ≤ a ∧ a ≤ 2147483647) := by
  refine ci_of (cc := cX7_together) (maxL := 3) (ty := .int) (lv := [(0, .ref (ad v0))]) (by decide) rfl (fun r M' hp => rfl) (Nat.le_of_ble_eq_true rfl) rfl ?_
  intro p e s m args below meth c A Q C hret
  refine y_iconst C dX7_together_0 ?_
  refine j_istore_n C 1 [(1, .int (sI 0)), (0, .ref (ad v0))] dX7_together_1 rfl (by decide) rfl ?_
  refine y_iconst C dX7_together_2 ?_
  refine j_istore_n C 2 [(2, .int (sI 0)), (1, .int (sI 0)), (0, .ref (ad v0))] dX7_together_3 rfl (by decide) rfl ?_
  have L158 : ∀ (n156 : Nat), ∀ (a159 : Int) (a160 : Int), ((-2147483648) ≤ a159 ∧ a159 ≤ 2147483647 ∧ 0 ≤ a160 ∧ a160 ≤ 6 ∧ (6 - a160) < (n156 : Int)) → jj p l e (cn_R 0) s m args below meth c 0 0 Q 3 dC dI ad cA A M0 4 [(0, .ref (ad v0)), (1, .int (sI a159)), (2, .int (sI a160))] [] := by
    intro n156
    induction n156 with
    | zero =>
      intro a159 a160 h161
      exfalso; omega
    | succ n156 ih157 =>
      intro a159 a160 h161
      refine j_iload_n C 2 2 dX7_together_4 rfl rfl ?_
      refine j_aload_n C 0 0 dX7_together_5 rfl rfl ?_
      refine y_getI C 6 _ _ fX7_together_9 cv0 rfl ft_6_0 sb_6_0 hM0 dX7_together_6 (fun a162 ea162 la162 ua162 => ?_)
      refine y_icmp_ge C 27 dX7_together_9 (by decide) (by omega) (fun h164 => ?_) (fun h164 => ?_)
      · refine j_iload_n C 1 1 dX7_together_27 rfl rfl ?_
        exact hret _ _ _ _ dX7_together_28 ⟨a159, rfl, rfl, by omega⟩
      · refine j_iload_n C 1 1 dX7_together_12 rfl rfl ?_
        refine j_aload_n C 0 0 dX7_together_13 rfl rfl ?_
        refine y_getT C 6 23 fX7_together_25 cv0 rfl ft_6_4 rfl sm_6_4 st_6_4 (by decide) hM0 dX7_together_14 (fun v165 cv165 => ?_)
        refine j_iload_n C 2 2 dX7_together_17 rfl rfl ?_
        refine y_iald C 23 6 _ _ cv165 rfl rfl ak_23 an_23 rfl (sb_23 _) hM0 dX7_together_18 (by omega) (fun a166 ea166 la166 ua166 => ?_)
        refine y_iadd0 C dX7_together_19 (fun a167 la167 ua167 => ?_)
        refine j_istore_n C 1 [(1, .int (sI a167)), (0, .ref (ad v0)), (2, .int (sI a160))] dX7_together_20 rfl (by decide) rfl ?_
        refine y_iinc C 2 [(2, .int (sI (a160 + 1))), (1, .int (sI a167)), (0, .ref (ad v0))] dX7_together_21 rfl (by decide) rfl ?_
        refine j_goto C 4 dX7_together_24 (by decide) ?_
        refine j_lv [2, 1, 0] rfl ?_; exact ih157 a167 (a160 + 1) (by omega)
  refine j_lv [2, 1, 0] rfl ?_; exact L158 4294967306 0 0 (by omega)
set_option maxHeartbeats 4000000 in
theorem s1_X9_draw {l : Launch} {dC : Nat → ClassId} {dI : Nat → Nat → Nat} {ad : Nat → Nat} {cA : Nat → ClassId} {pr : Nat → Nat → Bool} {Kz : mm_M} {M0 : mm_M} (hM0 : INV pr Kz M0) (hpr : PX pr) {v0 : Nat} (cv0 : s_c v0 = 8) : Ci l 0 yX9_draw wsX9_draw dC dI ad cA [.ref (ad v0)] M0 (fun r M' => ∃ a : Int, r = sI a ∧ INV pr Kz M' ∧ 0 ≤ a ∧ a ≤ 65535) := by
  refine ci_of (cc := cX9_draw) (maxL := 1) (ty := .int) (lv := [(0, .ref (ad v0))]) (by decide) rfl (fun r M' hp => rfl) (Nat.le_of_ble_eq_true rfl) rfl ?_
  intro p e s m args below meth c A Q C hret
  refine j_aload_n C 0 0 dX9_draw_0 rfl rfl ?_
  refine y_ldc C 1103515245 dX9_draw_1 kX9_draw_44 rfl ?_
  refine j_aload_n C 0 0 dX9_draw_3 rfl rfl ?_
  refine y_getI C 8 _ _ fX9_draw_37 cv0 rfl ft_8_8 sb_8_8 hM0 dX9_draw_4 (fun a101 ea101 la101 ua101 => ?_)
  refine y_imul0 C dX9_draw_7 (fun a103 la103 ua103 => ?_)
  refine y_sipush C dX9_draw_8 rfl ?_
  refine y_iadd0 C dX9_draw_11 (fun a104 la104 ua104 => ?_)
  refine y_putIF C 8 qX9_draw_37 cv0 rfl ft_8_8 sb_8_8 hM0 (PX.w hpr cv0 rfl) dX9_draw_12 (fun M105 eM105 hM105 => ?_)
  refine j_aload_n C 0 0 dX9_draw_15 rfl rfl ?_
  refine y_getI C 8 _ _ fX9_draw_37 cv0 rfl ft_8_8 sb_8_8 hM105 dX9_draw_16 (fun a106 ea106 la106 ua106 => ?_)
  refine y_bipush C dX9_draw_19 rfl ?_
  refine y_iushr16 C dX9_draw_21 (fun a108 la108 ua108 => ?_)
  exact hret _ _ _ _ dX9_draw_22 ⟨a108, rfl, hM105, by omega⟩
set_option maxHeartbeats 4000000 in
theorem s1_X7_comerFor {l : Launch} {dC : Nat → ClassId} {dI : Nat → Nat → Nat} {ad : Nat → Nat} {cA : Nat → ClassId} {pr : Nat → Nat → Bool} {Kz : mm_M} {M0 : mm_M} (hM0 : INV pr Kz M0) {v0 : Nat} (cv0 : s_c v0 = 6) (a1 : Int) (ha1 : -2147483648 ≤ a1 ∧ a1 ≤ 2147483647) : Ci l 0 yX7_comerFor wsX7_comerFor dC dI ad cA [.ref (ad v0), .int (sI a1)] M0 (fun r M' => ∃ a : Int, r = sI a ∧ M0 = M' ∧ (-1) ≤ a ∧ a ≤ 5) := by
  refine ci_of (cc := cX7_comerFor) (maxL := 4) (ty := .int) (lv := [(0, .ref (ad v0)), (1, .int (sI a1))]) (by decide) rfl (fun r M' hp => rfl) (Nat.le_of_ble_eq_true rfl) rfl ?_
  intro p e s m args below meth c A Q C hret
  refine y_iconst C dX7_comerFor_0 ?_
  refine j_istore_n C 2 [(2, .int (sI 0)), (0, .ref (ad v0)), (1, .int (sI a1))] dX7_comerFor_1 rfl (by decide) rfl ?_
  refine y_iconst C dX7_comerFor_2 ?_
  refine j_istore_n C 3 [(3, .int (sI 0)), (2, .int (sI 0)), (0, .ref (ad v0)), (1, .int (sI a1))] dX7_comerFor_3 rfl (by decide) rfl ?_
  have L165 : ∀ (n163 : Nat), ∀ (a166 : Int) (a167 : Int), ((-2147483648) ≤ a166 ∧ a166 ≤ 2147483647 ∧ 0 ≤ a167 ∧ a167 ≤ 6 ∧ (6 - a167) < (n163 : Int)) → jj p l e (cn_R 0) s m args below meth c 0 0 Q 4 dC dI ad cA A M0 4 [(0, .ref (ad v0)), (1, .int (sI a1)), (2, .int (sI a166)), (3, .int (sI a167))] [] := by
    intro n163
    induction n163 with
    | zero =>
      intro a166 a167 h168
      exfalso; omega
    | succ n163 ih164 =>
      intro a166 a167 h168
      refine j_iload_n C 3 3 dX7_comerFor_4 rfl rfl ?_
      refine j_aload_n C 0 0 dX7_comerFor_5 rfl rfl ?_
      refine y_getI C 6 _ _ fX7_comerFor_9 cv0 rfl ft_6_0 sb_6_0 hM0 dX7_comerFor_6 (fun a169 ea169 la169 ua169 => ?_)
      refine y_icmp_ge C 34 dX7_comerFor_9 (by decide) (by omega) (fun h171 => ?_) (fun h171 => ?_)
      · refine y_iconst C dX7_comerFor_34 ?_
        exact hret _ _ _ _ dX7_comerFor_35 ⟨(-1), rfl, rfl, by omega⟩
      · refine j_iload_n C 2 2 dX7_comerFor_12 rfl rfl ?_
        refine j_aload_n C 0 0 dX7_comerFor_13 rfl rfl ?_
        refine y_getT C 6 23 fX7_comerFor_25 cv0 rfl ft_6_4 rfl sm_6_4 st_6_4 (by decide) hM0 dX7_comerFor_14 (fun v172 cv172 => ?_)
        refine j_iload_n C 3 3 dX7_comerFor_17 rfl rfl ?_
        refine y_iald C 23 6 _ _ cv172 rfl rfl ak_23 an_23 rfl (sb_23 _) hM0 dX7_comerFor_18 (by omega) (fun a173 ea173 la173 ua173 => ?_)
        refine y_iadd0 C dX7_comerFor_19 (fun a174 la174 ua174 => ?_)
        refine j_istore_n C 2 [(2, .int (sI a174)), (0, .ref (ad v0)), (1, .int (sI a1)), (3, .int (sI a167))] dX7_comerFor_20 rfl (by decide) rfl ?_
        refine j_iload_n C 0 2 dX7_comerFor_21 rfl rfl ?_
        refine j_iload_n C 2 1 dX7_comerFor_22 rfl rfl ?_
        refine y_icmp_le C 28 dX7_comerFor_23 (by decide) (by omega) (fun h175 => ?_) (fun h175 => ?_)
        · refine y_iinc C 3 [(3, .int (sI (a167 + 1))), (2, .int (sI a174)), (0, .ref (ad v0)), (1, .int (sI a1))] dX7_comerFor_28 rfl (by decide) rfl ?_
          refine j_goto C 4 dX7_comerFor_31 (by decide) ?_
          refine j_lv [2, 3, 1, 0] rfl ?_; exact ih164 a174 (a167 + 1) (by omega)
        · refine j_iload_n C 3 3 dX7_comerFor_26 rfl rfl ?_
          exact hret _ _ _ _ dX7_comerFor_27 ⟨a167, rfl, rfl, by omega⟩
  refine j_lv [2, 3, 1, 0] rfl ?_; exact L165 4294967306 0 0 (by omega)
set_option maxHeartbeats 4000000 in
theorem s1_X1_passDay {l : Launch} {dC : Nat → ClassId} {dI : Nat → Nat → Nat} {ad : Nat → Nat} {cA : Nat → ClassId} {pr : Nat → Nat → Bool} {Kz : mm_M} {M0 : mm_M} (hM0 : INV pr Kz M0) (hpr : PX pr) {v1 : Nat} (cv1 : s_c v1 = 6) {v2 : Nat} (cv2 : s_c v2 = 8) : Ci l 1 yX1_passDay wsX1_passDay dC dI ad cA [.ref (ad 87), .ref (ad v1), .ref (ad v2)] M0 (fun r M' => ∃ a : Int, r = sI a ∧ INV pr Kz M' ∧ (-1) ≤ a ∧ a ≤ 5) := by
  refine ci_of (cc := cX1_passDay) (maxL := 4) (ty := .int) (lv := [(0, .ref (ad 87)), (1, .ref (ad v1)), (2, .ref (ad v2))]) (by decide) rfl (fun r M' hp => rfl) (Nat.le_of_ble_eq_true rfl) rfl ?_
  intro p e s m args below meth c A Q C hret
  refine j_aload_n C 2 2 dX1_passDay_0 rfl rfl ?_
  refine j_dup C dX1_passDay_1 rfl ?_
  refine y_getI C 8 _ _ fX1_passDay_63 cv2 rfl ft_8_7 sb_8_7 hM0 dX1_passDay_2 (fun a101 ea101 la101 ua101 => ?_)
  refine y_iconst C dX1_passDay_5 ?_
  refine y_iadd0 C dX1_passDay_6 (fun a103 la103 ua103 => ?_)
  refine y_putIF C 8 qX1_passDay_63 cv2 rfl ft_8_7 sb_8_7 hM0 (PX.w hpr cv2 rfl) dX1_passDay_7 (fun M104 eM104 hM104 => ?_)
  refine j_aload_n C 1 1 dX1_passDay_10 rfl rfl ?_
  refine j_callVi C (d := 0) (As := []) (st := []) v1 (s_lt cv1 rfl) (s_kc (c := 6) cv1 rfl) (by decide) rfl (s1_X7_together hM104 cv1) gX1_passDay_X7_together rfl hdX7_together (by decide) (Nat.le_of_ble_eq_true rfl) dX1_passDay_11 rfl (fun r105 M106 h107 => ?_)
  obtain ⟨a109, rfl, rfl, h108⟩ := h107
  refine j_istore_n C 3 [(3, .int (sI a109)), (0, .ref (ad 87)), (1, .ref (ad v1)), (2, .ref (ad v2))] dX1_passDay_14 rfl (by decide) rfl ?_
  refine j_iload_n C 0 3 dX1_passDay_15 rfl rfl ?_
  refine y_if_le C 32 dX1_passDay_16 (by decide) (by omega) (fun h110 => ?_) (fun h110 => ?_)
  · refine y_iconst C dX1_passDay_32 ?_
    exact hret _ _ _ _ dX1_passDay_33 ⟨(-1), rfl, hM104, by omega⟩
  · refine j_aload_n C 2 1 dX1_passDay_19 rfl rfl ?_
    refine j_aload_n C 3 2 dX1_passDay_20 rfl rfl ?_
    refine j_callVi C (d := 0) (As := []) (st := [.ref (ad v1)]) v2 (s_lt cv2 rfl) (s_kc (c := 8) cv2 rfl) (by decide) rfl (s1_X9_draw hM104 hpr cv2) gX1_passDay_X9_draw rfl hdX9_draw (by decide) (Nat.le_of_ble_eq_true rfl) dX1_passDay_21 rfl (fun r111 M112 h113 => ?_)
    obtain ⟨a115, rfl, hM112, h114⟩ := h113
    refine j_iload_n C 0 3 dX1_passDay_24 rfl rfl ?_
    refine y_iremV C dX1_passDay_25 (by omega) (fun a116 la116 ua116 => ?_)
    refine j_callVi C (d := 0) (As := [.int (sI a116)]) (st := []) v1 (s_lt cv1 rfl) (s_kc (c := 6) cv1 rfl) (by decide) rfl (s1_X7_comerFor hM112 cv1 a116 (by omega)) gX1_passDay_X7_comerFor rfl hdX7_comerFor (by decide) (Nat.le_of_ble_eq_true rfl) dX1_passDay_26 rfl (fun r117 M118 h119 => ?_)
    obtain ⟨a121, rfl, rfl, h120⟩ := h119
    refine j_goto C 33 dX1_passDay_29 (by decide) ?_
    exact hret _ _ _ _ dX1_passDay_33 ⟨a121, rfl, hM112, by omega⟩
set_option maxHeartbeats 4000000 in
theorem s1_X1_carryOut {l : Launch} {dC : Nat → ClassId} {dI : Nat → Nat → Nat} {ad : Nat → Nat} {cA : Nat → ClassId} {pr : Nat → Nat → Bool} {Kz : mm_M} {M0 : mm_M} (hM0 : INV pr Kz M0) (hpr : PX pr) {v1 : Nat} (cv1 : s_c v1 = 6) {v2 : Nat} (cv2 : s_c v2 = 8) (a3 : Int) (ha3 : -9223372036854775808 ≤ a3 ∧ a3 ≤ 9223372036854775807) : Ci l 5 yX1_carryOut wsX1_carryOut dC dI ad cA [.ref (ad 87), .ref (ad v1), .ref (ad v2), .long (sJ a3)] M0 (fun r M' => ∃ a : Int, r = sI a ∧ INV pr Kz M' ∧ (-2147483648) ≤ a ∧ a ≤ 2147483647) := by
  refine ci_of (cc := cX1_carryOut) (maxL := 7) (ty := .int) (lv := [(0, .ref (ad 87)), (1, .ref (ad v1)), (2, .ref (ad v2)), (3, .long (sJ a3))]) (by decide) rfl (fun r M' hp => rfl) (Nat.le_of_ble_eq_true rfl) rfl ?_
  intro p e s m args below meth c A Q C hret
  refine j_lload_n C 3 3 dX1_carryOut_0 rfl rfl ?_
  refine y_ldc2 C (-1) dX1_carryOut_1 kX1_carryOut_77 rfl ?_
  refine y_lcmp_lt C 16 dX1_carryOut_4 dX1_carryOut_5 (by decide) (by omega) (fun h101 => ?_) (fun h101 => ?_)
  · refine y_bipush C dX1_carryOut_16 rfl ?_
    exact hret _ _ _ _ dX1_carryOut_18 ⟨(-11), rfl, hM0, by omega⟩
  · refine j_lload_n C 3 3 dX1_carryOut_8 rfl rfl ?_
    refine y_ldc2 C 1999 dX1_carryOut_9 kX1_carryOut_79 rfl ?_
    refine y_lcmp_le C 19 dX1_carryOut_12 dX1_carryOut_13 (by decide) (by omega) (fun h102 => ?_) (fun h102 => ?_)
    · refine j_lload_n C 3 3 dX1_carryOut_19 rfl rfl ?_
      refine y_l2i C dX1_carryOut_20 ?_
      refine j_istore C 5 [(5, .int (sI a3)), (0, .ref (ad 87)), (1, .ref (ad v1)), (2, .ref (ad v2)), (3, .long (sJ a3))] dX1_carryOut_21 (by decide) rfl ?_
      refine j_iload C 0 dX1_carryOut_23 rfl ?_
      refine y_iconst C dX1_carryOut_25 ?_
      refine y_icmp_ne C 54 dX1_carryOut_26 (by decide) (by omega) (fun h103 => ?_) (fun h103 => ?_)
      · refine j_iload C 0 dX1_carryOut_54 rfl ?_
        refine y_bipush C dX1_carryOut_56 rfl ?_
        refine y_icmp_gt C 70 dX1_carryOut_58 (by decide) (by omega) (fun h104 => ?_) (fun h104 => ?_)
        · refine j_iload C 0 dX1_carryOut_70 rfl ?_
          refine y_bipush C dX1_carryOut_72 rfl ?_
          refine y_icmp_lt C 95 dX1_carryOut_74 (by decide) (by omega) (fun h105 => ?_) (fun h105 => ?_)
          · refine j_iload C 0 dX1_carryOut_95 rfl ?_
            refine y_sipush C dX1_carryOut_97 rfl ?_
            refine y_icmp_lt C 123 dX1_carryOut_100 (by decide) (by omega) (fun h106 => ?_) (fun h106 => ?_)
            · refine j_iload C 0 dX1_carryOut_123 rfl ?_
              refine y_sipush C dX1_carryOut_125 rfl ?_
              refine y_icmp_lt C 151 dX1_carryOut_128 (by decide) (by omega) (fun h107 => ?_) (fun h107 => ?_)
              · refine y_bipush C dX1_carryOut_151 rfl ?_
                exact hret _ _ _ _ dX1_carryOut_153 ⟨(-11), rfl, hM0, by omega⟩
              · exfalso; omega
            · exfalso; omega
          · refine j_iload C 0 dX1_carryOut_77 rfl ?_
            refine y_bipush C dX1_carryOut_79 rfl ?_
            refine y_icmp_gt C 95 dX1_carryOut_81 (by decide) (by omega) (fun h108 => ?_) (fun h108 => ?_)
            · refine j_iload C 0 dX1_carryOut_95 rfl ?_
              refine y_sipush C dX1_carryOut_97 rfl ?_
              refine y_icmp_lt C 123 dX1_carryOut_100 (by decide) (by omega) (fun h109 => ?_) (fun h109 => ?_)
              · refine j_iload C 0 dX1_carryOut_123 rfl ?_
                refine y_sipush C dX1_carryOut_125 rfl ?_
                refine y_icmp_lt C 151 dX1_carryOut_128 (by decide) (by omega) (fun h110 => ?_) (fun h110 => ?_)
                · refine y_bipush C dX1_carryOut_151 rfl ?_
                  exact hret _ _ _ _ dX1_carryOut_153 ⟨(-11), rfl, hM0, by omega⟩
                · exfalso; omega
              · refine j_iload C 0 dX1_carryOut_103 rfl ?_
                refine y_sipush C dX1_carryOut_105 rfl ?_
                refine y_icmp_gt C 123 dX1_carryOut_108 (by decide) (by omega) (fun h111 => ?_) (fun h111 => ?_)
                · refine j_iload C 0 dX1_carryOut_123 rfl ?_
                  refine y_sipush C dX1_carryOut_125 rfl ?_
                  refine y_icmp_lt C 151 dX1_carryOut_128 (by decide) (by omega) (fun h112 => ?_) (fun h112 => ?_)
                  · refine y_bipush C dX1_carryOut_151 rfl ?_
                    exact hret _ _ _ _ dX1_carryOut_153 ⟨(-11), rfl, hM0, by omega⟩
                  · refine j_aload_n C 1 0 dX1_carryOut_131 rfl rfl ?_
                    refine j_aload_n C 3 2 dX1_carryOut_132 rfl rfl ?_
                    refine j_iload C 0 dX1_carryOut_133 rfl ?_
                    refine y_sipush C dX1_carryOut_135 rfl ?_
                    refine y_isub C dX1_carryOut_138 ?_
                    refine y_bipush C dX1_carryOut_139 rfl ?_
                    refine y_idiv C dX1_carryOut_141 (by omega) ?_
                    refine j_iload C 0 dX1_carryOut_142 rfl ?_
                    refine y_bipush C dX1_carryOut_144 rfl ?_
                    refine y_irem C dX1_carryOut_146 (by omega) ?_
                    refine j_callVi C (d := 2) (As := [.ref (ad v2), .int (sI ((a3 - 1000) / 100)), .int (sI (a3 % 100))]) (st := []) 87 (s_lt rfl rfl) (s_kc (c := 1) rfl rfl) (by decide) rfl (s1_X1_reprice hM0 hpr cv2 ((a3 - 1000) / 100) (by omega) (a3 % 100) (by omega)) gX1_carryOut_X1_reprice rfl hdX1_reprice (by decide) (Nat.le_of_ble_eq_true rfl) dX1_carryOut_147 rfl (fun r113 M114 h115 => ?_)
                    obtain ⟨a117, rfl, hM114, h116⟩ := h115
                    exact hret _ _ _ _ dX1_carryOut_150 ⟨a117, rfl, hM114, by omega⟩
                · refine j_aload_n C 1 0 dX1_carryOut_111 rfl rfl ?_
                  refine j_aload_n C 3 2 dX1_carryOut_112 rfl rfl ?_
                  refine j_iload C 0 dX1_carryOut_113 rfl ?_
                  refine y_sipush C dX1_carryOut_115 rfl ?_
                  refine y_isub C dX1_carryOut_118 ?_
                  refine j_callVi C (d := 2) (As := [.ref (ad v2), .int (sI (a3 - 200))]) (st := []) 87 (s_lt rfl rfl) (s_kc (c := 1) rfl rfl) (by decide) rfl (s1_X1_turn hM0 hpr cv2 (a3 - 200) (by omega)) gX1_carryOut_X1_turn rfl hdX1_turn (by decide) (Nat.le_of_ble_eq_true rfl) dX1_carryOut_119 rfl (fun r118 M119 h120 => ?_)
                  obtain ⟨a122, rfl, hM119, h121⟩ := h120
                  exact hret _ _ _ _ dX1_carryOut_122 ⟨a122, rfl, hM119, by omega⟩
            · refine j_aload_n C 1 0 dX1_carryOut_84 rfl rfl ?_
              refine j_aload_n C 3 2 dX1_carryOut_85 rfl rfl ?_
              refine j_iload C 0 dX1_carryOut_86 rfl ?_
              refine y_bipush C dX1_carryOut_88 rfl ?_
              refine y_isub C dX1_carryOut_90 ?_
              refine j_callVi C (d := 2) (As := [.ref (ad v2), .int (sI (a3 - 100))]) (st := []) 87 (s_lt rfl rfl) (s_kc (c := 1) rfl rfl) (by decide) rfl (s1_X1_giveAway hM0 hpr cv2 (a3 - 100) (by omega)) gX1_carryOut_X1_giveAway rfl hdX1_giveAway (by decide) (Nat.le_of_ble_eq_true rfl) dX1_carryOut_91 rfl (fun r123 M124 h125 => ?_)
              obtain ⟨a127, rfl, hM124, h126⟩ := h125
              exact hret _ _ _ _ dX1_carryOut_94 ⟨a127, rfl, hM124, by omega⟩
        · refine j_aload_n C 1 0 dX1_carryOut_61 rfl rfl ?_
          refine j_aload_n C 2 1 dX1_carryOut_62 rfl rfl ?_
          refine j_aload_n C 3 2 dX1_carryOut_63 rfl rfl ?_
          refine j_iload C 0 dX1_carryOut_64 rfl ?_
          refine j_callVi C (d := 4) (As := [.ref (ad v1), .ref (ad v2), .int (sI a3)]) (st := []) 87 (s_lt rfl rfl) (s_kc (c := 1) rfl rfl) (by decide) rfl (s1_X1_visitBy hM0 hpr cv1 cv2 a3 (by omega)) gX1_carryOut_X1_visitBy rfl hdX1_visitBy (by decide) (Nat.le_of_ble_eq_true rfl) dX1_carryOut_66 rfl (fun r128 M129 h130 => ?_)
          obtain ⟨a132, rfl, hM129, h131⟩ := h130
          exact hret _ _ _ _ dX1_carryOut_69 ⟨a132, rfl, hM129, by omega⟩
      · refine j_aload_n C 1 0 dX1_carryOut_29 rfl rfl ?_
        refine j_aload_n C 2 1 dX1_carryOut_30 rfl rfl ?_
        refine j_aload_n C 3 2 dX1_carryOut_31 rfl rfl ?_
        refine j_callVi C (d := 1) (As := [.ref (ad v1), .ref (ad v2)]) (st := []) 87 (s_lt rfl rfl) (s_kc (c := 1) rfl rfl) (by decide) rfl (s1_X1_passDay hM0 hpr cv1 cv2) gX1_carryOut_X1_passDay rfl hdX1_passDay (by decide) (Nat.le_of_ble_eq_true rfl) dX1_carryOut_32 rfl (fun r133 M134 h135 => ?_)
        obtain ⟨a137, rfl, hM134, h136⟩ := h135
        refine j_istore C 6 [(6, .int (sI a137)), (5, .int (sI a3)), (0, .ref (ad 87)), (1, .ref (ad v1)), (2, .ref (ad v2)), (3, .long (sJ a3))] dX1_carryOut_35 (by decide) rfl ?_
        refine j_aload_n C 2 0 dX1_carryOut_37 rfl rfl ?_
        refine j_aload_n C 3 1 dX1_carryOut_38 rfl rfl ?_
        refine j_aload_n C 4 2 dX1_carryOut_39 rfl rfl ?_
        refine j_iload C 0 dX1_carryOut_40 rfl ?_
        refine j_callVi C (d := 4) (As := [.ref (ad v1), .ref (ad v2), .int (sI a137)]) (st := []) 87 (s_lt rfl rfl) (s_kc (c := 1) rfl rfl) (by decide) rfl (s1_X1_visitBy hM134 hpr cv1 cv2 a137 (by omega)) gX1_carryOut_X1_visitBy rfl hdX1_visitBy (by decide) (Nat.le_of_ble_eq_true rfl) dX1_carryOut_42 rfl (fun r138 M139 h140 => ?_)
        obtain ⟨a142, rfl, hM139, h141⟩ := h140
        refine y_if_lt C 52 dX1_carryOut_45 (by decide) (by omega) (fun h143 => ?_) (fun h143 => ?_)
        · refine y_iconst C dX1_carryOut_52 ?_
          exact hret _ _ _ _ dX1_carryOut_53 ⟨0, rfl, hM139, by omega⟩
        · refine y_iconst C dX1_carryOut_48 ?_
          refine j_goto C 53 dX1_carryOut_49 (by decide) ?_
          exact hret _ _ _ _ dX1_carryOut_53 ⟨1, rfl, hM139, by omega⟩
    · refine y_bipush C dX1_carryOut_16 rfl ?_
      exact hret _ _ _ _ dX1_carryOut_18 ⟨(-11), rfl, hM0, by omega⟩
set_option maxHeartbeats 4000000 in
theorem s1_X11_days {l : Launch} {dC : Nat → ClassId} {dI : Nat → Nat → Nat} {ad : Nat → Nat} {cA : Nat → ClassId} {pr : Nat → Nat → Bool} {Kz : mm_M} {M0 : mm_M} (hM0 : INV pr Kz M0) (hpr : PX pr) (hq8_0 : ∀ i, s_c i = 8 → pr i 0 = false) (a1 : Int) (ha1 : -2147483648 ≤ a1 ∧ a1 ≤ 2147483647) : Ci l 6 yX11_days wsX11_days dC dI ad cA [.ref (ad 0), .int (sI a1)] M0 (fun r M' => ∃ a : Int, r = sI a ∧ INV pr Kz M' ∧ (-2147483648) ≤ a ∧ a ≤ 2147483647) := by
  refine ci_of (cc := cX11_days) (maxL := 4) (ty := .int) (lv := [(0, .ref (ad 0)), (1, .int (sI a1))]) (by decide) rfl (fun r M' hp => rfl) (Nat.le_of_ble_eq_true rfl) rfl ?_
  intro p e s m args below meth c A Q C hret
  refine j_iload_n C 1 1 dX11_days_0 rfl rfl ?_
  refine y_iconst C dX11_days_1 ?_
  refine y_icmp_lt C 11 dX11_days_2 (by decide) (by omega) (fun h101 => ?_) (fun h101 => ?_)
  · refine y_bipush C dX11_days_11 rfl ?_
    exact hret _ _ _ _ dX11_days_13 ⟨(-3), rfl, hM0, by omega⟩
  · refine j_iload_n C 1 1 dX11_days_5 rfl rfl ?_
    refine y_bipush C dX11_days_6 rfl ?_
    refine y_icmp_le C 14 dX11_days_8 (by decide) (by omega) (fun h102 => ?_) (fun h102 => ?_)
    · refine j_aload_n C 0 0 dX11_days_14 rfl rfl ?_
      refine y_getC C 10 15 fX11_days_40 rfl rfl ft_10_7 sm_10_7 rfl hM0 dX11_days_15 ?_
      refine j_aload_n C 0 0 dX11_days_18 rfl rfl ?_
      refine y_getC C 10 12 fX11_days_36 rfl rfl ft_10_6 sm_10_6 rfl hM0 dX11_days_19 ?_
      refine j_callVv C (d := 0) (As := [.ref (ad 12)]) (st := []) 15 (s_lt rfl rfl) (s_kc (c := 8) rfl rfl) (by decide) rfl (s1_X9_copyFrom hM0 hpr hq8_0 rfl rfl) gX11_days_X9_copyFrom rfl hdX9_copyFrom (by decide) (Nat.le_of_ble_eq_true rfl) dX11_days_22 rfl (fun M104 h105 => ?_)
      have hM104 := h105
      refine y_iconst C dX11_days_25 ?_
      refine j_istore_n C 2 [(2, .int (sI 0)), (0, .ref (ad 0)), (1, .int (sI a1))] dX11_days_26 rfl (by decide) rfl ?_
      refine y_iconst C dX11_days_27 ?_
      refine j_istore_n C 3 [(3, .int (sI 0)), (2, .int (sI 0)), (0, .ref (ad 0)), (1, .int (sI a1))] dX11_days_28 rfl (by decide) rfl ?_
      have L350 : ∀ (n348 : Nat), ∀ (a351 : Int) (a352 : Int) (M353 : mm_M), ((-2147483648) ≤ a351 ∧ a351 ≤ 2147483647 ∧ 0 ≤ a352 ∧ a352 ≤ 99 ∧ (99 - a352) < (n348 : Int)) → INV pr Kz M353 → jj p l e (cn_R 6) s m args below meth c 0 0 Q 4 dC dI ad cA A M353 29 [(0, .ref (ad 0)), (1, .int (sI a1)), (2, .int (sI a351)), (3, .int (sI a352))] [] := by
        intro n348
        induction n348 with
        | zero =>
          intro a351 a352 M353 h354 hM353
          exfalso; omega
        | succ n348 ih349 =>
          intro a351 a352 M353 h354 hM353
          refine j_iload_n C 3 3 dX11_days_29 rfl rfl ?_
          refine j_iload_n C 1 1 dX11_days_30 rfl rfl ?_
          refine y_icmp_ge C 61 dX11_days_31 (by decide) (by omega) (fun h355 => ?_) (fun h355 => ?_)
          · refine j_aload_n C 0 0 dX11_days_61 rfl rfl ?_
            refine y_getC C 10 18 fX11_days_46 rfl rfl ft_10_8 sm_10_8 rfl hM353 dX11_days_62 ?_
            refine j_aload_n C 0 0 dX11_days_65 rfl rfl ?_
            refine y_getC C 10 15 fX11_days_40 rfl rfl ft_10_7 sm_10_7 rfl hM353 dX11_days_66 ?_
            refine j_callVv C (d := 1) (As := [.ref (ad 15)]) (st := []) 18 (s_lt rfl rfl) (s_kc (c := 5) rfl rfl) (by decide) rfl (s1_X6_keep hM353 hpr hq8_0 rfl) gX11_days_X6_keep rfl hdX6_keep (by decide) (Nat.le_of_ble_eq_true rfl) dX11_days_69 rfl (fun M364 h365 => ?_)
            have hM364 := h365
            refine j_iload_n C 2 2 dX11_days_72 rfl rfl ?_
            exact hret _ _ _ _ dX11_days_73 ⟨a351, rfl, hM364, by omega⟩
          · refine j_iload_n C 2 2 dX11_days_34 rfl rfl ?_
            refine j_aload_n C 0 0 dX11_days_35 rfl rfl ?_
            refine y_getC C 10 87 fX11_days_85 rfl rfl ft_10_13 sm_10_13 rfl hM353 dX11_days_36 ?_
            refine j_aload_n C 0 0 dX11_days_39 rfl rfl ?_
            refine y_getM C 10 6 fX11_days_26 rfl rfl ft_10_4 sm_10_4 (by decide) hM353 dX11_days_40 (fun v356 ev356 cv356 => ?_)
            refine j_aload_n C 0 0 dX11_days_43 rfl rfl ?_
            refine y_getC C 10 12 fX11_days_36 rfl rfl ft_10_6 sm_10_6 rfl hM353 dX11_days_44 ?_
            refine y_ldc2 C (-1) dX11_days_47 kX11_days_219 rfl ?_
            refine j_callVi C (d := 5) (As := [.ref (ad v356), .ref (ad 12), .long (sJ (-1))]) (st := [.int (sI a351)]) 87 (s_lt rfl rfl) (s_kc (c := 1) rfl rfl) (by decide) rfl (s1_X1_carryOut hM353 hpr cv356 rfl (-1) (by omega)) gX11_days_X1_carryOut rfl hdX1_carryOut (by decide) (Nat.le_of_ble_eq_true rfl) dX11_days_50 rfl (fun r357 M358 h359 => ?_)
            obtain ⟨a361, rfl, hM358, h360⟩ := h359
            refine y_iadd0 C dX11_days_53 (fun a362 la362 ua362 => ?_)
            refine j_istore_n C 2 [(2, .int (sI a362)), (0, .ref (ad 0)), (1, .int (sI a1)), (3, .int (sI a352))] dX11_days_54 rfl (by decide) rfl ?_
            refine y_iinc C 3 [(3, .int (sI (a352 + 1))), (2, .int (sI a362)), (0, .ref (ad 0)), (1, .int (sI a1))] dX11_days_55 rfl (by decide) rfl ?_
            refine j_goto C 29 dX11_days_58 (by decide) ?_
            refine j_lv [2, 3, 1, 0] rfl ?_; exact ih349 a362 (a352 + 1) M358 (by omega) hM358
      refine j_lv [2, 3, 1, 0] rfl ?_; exact L350 4294967306 0 0 M104 (by omega) hM104
    · refine y_bipush C dX11_days_11 rfl ?_
      exact hret _ _ _ _ dX11_days_13 ⟨(-3), rfl, hM0, by omega⟩
set_option maxHeartbeats 4000000 in
theorem s1_J9_floorMod_7cf53 {l : Launch} {dC : Nat → ClassId} {dI : Nat → Nat → Nat} {ad : Nat → Nat} {cA : Nat → ClassId} {pr : Nat → Nat → Bool} {Kz : mm_M} {M0 : mm_M} (hM0 : INV pr Kz M0) (a0 : Int) (ha0 : -2147483648 ≤ a0 ∧ a0 ≤ 2147483647) : Ci l 0 yJ9_floorMod_7cf53 wsJ9_floorMod_7cf53 dC dI ad cA [.int (sI a0), .int (sI 10)] M0 (fun r M' => ∃ a : Int, r = sI a ∧ M0 = M' ∧ 0 ≤ a ∧ a ≤ 9) := by
  refine ci_ofF (cc := cJ9_floorMod_7cf53) (maxL := 3) (ty := .int) (lv := [(0, .int (sI a0)), (1, .int (sI 10))]) (by decide +kernel) rfl (fun r M' hp => rfl) (Nat.le_of_ble_eq_true rfl) rfl ?_
  intro p e s m args below meth c A Q C hret
  refine j_iload_n C 0 0 dJ9_floorMod_7cf53_0 rfl rfl ?_
  refine j_iload_n C 1 1 dJ9_floorMod_7cf53_1 rfl rfl ?_
  refine y_iremS C dJ9_floorMod_7cf53_2 (by omega) (fun a101 la101 ua101 ha101 => ?_)
  refine j_istore_n C 2 [(2, .int (sI a101)), (0, .int (sI a0)), (1, .int (sI 10))] dJ9_floorMod_7cf53_3 rfl (by decide) rfl ?_
  refine j_iload_n C 1 0 dJ9_floorMod_7cf53_4 rfl rfl ?_
  refine j_iload_n C 2 1 dJ9_floorMod_7cf53_5 rfl rfl ?_
  refine y_ixorS C dJ9_floorMod_7cf53_6 (by omega) (fun a102 la102 ua102 ha102 => ?_)
  refine y_if_ge C 18 dJ9_floorMod_7cf53_7 (by decide) (by omega) (fun h103 => ?_) (fun h103 => ?_)
  · refine j_iload_n C 0 2 dJ9_floorMod_7cf53_18 rfl rfl ?_
    exact hret _ _ _ _ dJ9_floorMod_7cf53_19 ⟨a101, rfl, rfl, by omega⟩
  · refine j_iload_n C 0 2 dJ9_floorMod_7cf53_10 rfl rfl ?_
    refine y_if_eq C 18 dJ9_floorMod_7cf53_11 (by decide) (by omega) (fun h104 => ?_) (fun h104 => ?_)
    · refine j_iload_n C 0 2 dJ9_floorMod_7cf53_18 rfl rfl ?_
      exact hret _ _ _ _ dJ9_floorMod_7cf53_19 ⟨a101, rfl, rfl, by omega⟩
    · refine j_iload_n C 0 2 dJ9_floorMod_7cf53_14 rfl rfl ?_
      refine j_iload_n C 2 1 dJ9_floorMod_7cf53_15 rfl rfl ?_
      refine y_iadd C dJ9_floorMod_7cf53_16 ?_
      exact hret _ _ _ _ dJ9_floorMod_7cf53_17 ⟨(a101 + 10), rfl, rfl, by omega⟩
set_option maxHeartbeats 4000000 in
theorem s1_X6_bringBack {l : Launch} {dC : Nat → ClassId} {dI : Nat → Nat → Nat} {ad : Nat → Nat} {cA : Nat → ClassId} {pr : Nat → Nat → Bool} {Kz : mm_M} {M0 : mm_M} (hM0 : INV pr Kz M0) (hpr : PX pr) (hq8_0 : ∀ i, s_c i = 8 → pr i 0 = false) (a1 : Int) (ha1 : -2147483648 ≤ a1 ∧ a1 ≤ 2147483647) {v2 : Nat} (cv2 : s_c v2 = 8) (hp0 : 1 ≤ a1 ∧ a1 ≤ (M0.1 18 2).toInt) (hp1 : 1 ≤ a1 ∧ a1 ≤ 10) : Cv l 1 yX6_bringBack wsX6_bringBack dC dI ad cA [.ref (ad 18), .int (sI a1), .ref (ad v2)] M0 (fun M' => INV pr Kz M') := by
  refine cv_of (cc := cX6_bringBack) (maxL := 3) (lv := [(0, .ref (ad 18)), (1, .int (sI a1)), (2, .ref (ad v2))]) (by decide) rfl (Nat.le_of_ble_eq_true rfl) rfl ?_
  intro p e s m args below meth c A Q C hret
  refine j_aload_n C 0 0 dX6_bringBack_0 rfl rfl ?_
  refine j_aload_n C 0 0 dX6_bringBack_1 rfl rfl ?_
  refine y_getI C 5 _ _ fX6_bringBack_17 rfl rfl ft_5_1 sb_5_1 hM0 dX6_bringBack_2 (fun a101 ea101 la101 ua101 => ?_)
  refine j_iload_n C 1 1 dX6_bringBack_5 rfl rfl ?_
  refine y_isub C dX6_bringBack_6 ?_
  refine y_bipush C dX6_bringBack_7 rfl ?_
  refine j_callSi C (d := 0) (As := [.int (sI (a101 - a1)), .int (sI 10)]) (st := [.ref (ad 18)]) (s1_J9_floorMod_7cf53 hM0 (a101 - a1) (by omega)) gX6_bringBack_J9_floorMod_7cf53 rfl hdJ9_floorMod_7cf53s (by decide) (Nat.le_of_ble_eq_true rfl) dX6_bringBack_9 rfl (fun r103 M104 h105 => ?_)
  obtain ⟨a107, rfl, rfl, h106⟩ := h105
  refine y_putI C 5 _ _ qX6_bringBack_17 rfl rfl ft_5_1 sb_5_1 hM0 (PX.w hpr rfl rfl) dX6_bringBack_12 (by omega) (fun M108 eM108 hM108 => ?_)
  refine j_aload_n C 0 0 dX6_bringBack_15 rfl rfl ?_
  refine j_dup C dX6_bringBack_16 rfl ?_
  refine y_getI C 5 _ _ fX6_bringBack_21 rfl rfl ft_5_2 sb_5_2 hM108 dX6_bringBack_17 (fun a109 ea109 la109 ua109 => ?_)
  have qa109 : a109 = (M0.1 18 2).toInt := s_fb eM108 (by decide) (ea109)
  refine j_iload_n C 1 1 dX6_bringBack_20 rfl rfl ?_
  refine y_isub C dX6_bringBack_21 ?_
  refine y_putI C 5 _ _ qX6_bringBack_21 rfl rfl ft_5_2 sb_5_2 hM108 (PX.w hpr rfl rfl) dX6_bringBack_22 (by omega) (fun M111 eM111 hM111 => ?_)
  refine j_aload_n C 2 2 dX6_bringBack_25 rfl rfl ?_
  refine j_aload_n C 0 0 dX6_bringBack_26 rfl rfl ?_
  refine y_getC C 5 19 fX6_bringBack_11 rfl rfl ft_5_0 sm_5_0 rfl hM111 dX6_bringBack_27 ?_
  refine j_aload_n C 0 0 dX6_bringBack_30 rfl rfl ?_
  refine y_getI C 5 _ _ fX6_bringBack_17 rfl rfl ft_5_1 sb_5_1 hM111 dX6_bringBack_31 (fun a112 ea112 la112 ua112 => ?_)
  have qa112 : a112 = (M108.1 18 1).toInt := s_fb eM111 (by decide) (ea112)
  refine y_aald C 27 10 8 rfl rfl rfl rfl an_27 rfl sma_27 sta_27 (by decide) hM111 dX6_bringBack_34 (by omega) (fun v114 cv114 => ?_)
  refine j_callVv C (d := 0) (As := [.ref (ad v114)]) (st := []) v2 (s_lt cv2 rfl) (s_kc (c := 8) cv2 rfl) (by decide) rfl (s1_X9_copyFrom hM111 hpr hq8_0 cv2 cv114) gX6_bringBack_X9_copyFrom rfl hdX9_copyFrom (by decide) (Nat.le_of_ble_eq_true rfl) dX6_bringBack_35 rfl (fun M116 h117 => ?_)
  have hM116 := h117
  exact hret _ _ _ dX6_bringBack_38 hM116
set_option maxHeartbeats 4000000 in
theorem s1_X11_undo {l : Launch} {dC : Nat → ClassId} {dI : Nat → Nat → Nat} {ad : Nat → Nat} {cA : Nat → ClassId} {pr : Nat → Nat → Bool} {Kz : mm_M} {M0 : mm_M} (hM0 : INV pr Kz M0) (hpr : PX pr) (hq8_0 : ∀ i, s_c i = 8 → pr i 0 = false) (a1 : Int) (ha1 : -2147483648 ≤ a1 ∧ a1 ≤ 2147483647) : Ci l 2 yX11_undo wsX11_undo dC dI ad cA [.ref (ad 0), .int (sI a1)] M0 (fun r M' => ∃ a : Int, r = sI a ∧ INV pr Kz M' ∧ (-3) ≤ a ∧ a ≤ 10) := by
  refine ci_of (cc := cX11_undo) (maxL := 2) (ty := .int) (lv := [(0, .ref (ad 0)), (1, .int (sI a1))]) (by decide) rfl (fun r M' hp => rfl) (Nat.le_of_ble_eq_true rfl) rfl ?_
  intro p e s m args below meth c A Q C hret
  refine j_iload_n C 1 1 dX11_undo_0 rfl rfl ?_
  refine y_iconst C dX11_undo_1 ?_
  refine y_icmp_lt C 16 dX11_undo_2 (by decide) (by omega) (fun h101 => ?_) (fun h101 => ?_)
  · refine y_bipush C dX11_undo_16 rfl ?_
    exact hret _ _ _ _ dX11_undo_18 ⟨(-3), rfl, hM0, by omega⟩
  · refine j_iload_n C 1 1 dX11_undo_5 rfl rfl ?_
    refine j_aload_n C 0 0 dX11_undo_6 rfl rfl ?_
    refine y_getC C 10 18 fX11_undo_46 rfl rfl ft_10_8 sm_10_8 rfl hM0 dX11_undo_7 ?_
    refine y_getI C 5 _ _ fX11_undo_225 rfl rfl ft_5_2 sb_5_2 hM0 dX11_undo_10 (fun a102 ea102 la102 ua102 => ?_)
    refine y_icmp_le C 19 dX11_undo_13 (by decide) (by omega) (fun h104 => ?_) (fun h104 => ?_)
    · refine j_aload_n C 0 0 dX11_undo_19 rfl rfl ?_
      refine y_getC C 10 18 fX11_undo_46 rfl rfl ft_10_8 sm_10_8 rfl hM0 dX11_undo_20 ?_
      refine j_iload_n C 1 1 dX11_undo_23 rfl rfl ?_
      refine j_aload_n C 0 0 dX11_undo_24 rfl rfl ?_
      refine y_getC C 10 12 fX11_undo_36 rfl rfl ft_10_6 sm_10_6 rfl hM0 dX11_undo_25 ?_
      refine j_callVv C (d := 1) (As := [.int (sI a1), .ref (ad 12)]) (st := []) 18 (s_lt rfl rfl) (s_kc (c := 5) rfl rfl) (by decide) rfl (s1_X6_bringBack hM0 hpr hq8_0 a1 (by omega) rfl (by omega) (by omega)) gX11_undo_X6_bringBack rfl hdX6_bringBack (by decide) (Nat.le_of_ble_eq_true rfl) dX11_undo_28 rfl (fun M106 h107 => ?_)
      have hM106 := h107
      refine j_aload_n C 0 0 dX11_undo_31 rfl rfl ?_
      refine y_getC C 10 18 fX11_undo_46 rfl rfl ft_10_8 sm_10_8 rfl hM106 dX11_undo_32 ?_
      refine y_getI C 5 _ _ fX11_undo_225 rfl rfl ft_5_2 sb_5_2 hM106 dX11_undo_35 (fun a109 ea109 la109 ua109 => ?_)
      exact hret _ _ _ _ dX11_undo_38 ⟨a109, rfl, hM106, by omega⟩
    · refine y_bipush C dX11_undo_16 rfl ?_
      exact hret _ _ _ _ dX11_undo_18 ⟨(-3), rfl, hM0, by omega⟩
set_option maxHeartbeats 4000000 in
theorem s1_X11_isTray {l : Launch} {dC : Nat → ClassId} {dI : Nat → Nat → Nat} {ad : Nat → Nat} {cA : Nat → ClassId} {pr : Nat → Nat → Bool} {Kz : mm_M} {M0 : mm_M} (hM0 : INV pr Kz M0) (a0 : Int) (ha0 : -2147483648 ≤ a0 ∧ a0 ≤ 2147483647) : Ci l 0 yX11_isTray wsX11_isTray dC dI ad cA [.int (sI a0)] M0 (fun r M' => ∃ a : Int, r = sI a ∧ M0 = M' ∧ 0 ≤ a ∧ a ≤ 1 ∧ ((a0 < 0 ∧ a = 0) ∨ (0 ≤ a0 ∧ 4 ≤ a0 ∧ a = 0) ∨ (0 ≤ a0 ∧ a0 < 4 ∧ a = 1))) := by
  refine ci_of (cc := cX11_isTray) (maxL := 1) (ty := .boolean) (lv := [(0, .int (sI a0))]) (by decide) rfl (fun r M' hp => by obtain ⟨a, rfl, -, h⟩ := hp; rcases (show a = 0 ∨ a = 1 by omega) with rfl | rfl <;> rfl) (Nat.le_of_ble_eq_true rfl) rfl ?_
  intro p e s m args below meth c A Q C hret
  refine j_iload_n C 0 0 dX11_isTray_0 rfl rfl ?_
  refine y_if_lt C 13 dX11_isTray_1 (by decide) (by omega) (fun h101 => ?_) (fun h101 => ?_)
  · refine y_iconst C dX11_isTray_13 ?_
    exact hret _ _ _ _ dX11_isTray_14 ⟨0, rfl, rfl, by omega⟩
  · refine j_iload_n C 0 0 dX11_isTray_4 rfl rfl ?_
    refine y_iconst C dX11_isTray_5 ?_
    refine y_icmp_ge C 13 dX11_isTray_6 (by decide) (by omega) (fun h102 => ?_) (fun h102 => ?_)
    · refine y_iconst C dX11_isTray_13 ?_
      exact hret _ _ _ _ dX11_isTray_14 ⟨0, rfl, rfl, by omega⟩
    · refine y_iconst C dX11_isTray_9 ?_
      refine j_goto C 14 dX11_isTray_10 (by decide) ?_
      exact hret _ _ _ _ dX11_isTray_14 ⟨1, rfl, rfl, by omega⟩
set_option maxHeartbeats 4000000 in
theorem s1_X10_isMissing {l : Launch} {dC : Nat → ClassId} {dI : Nat → Nat → Nat} {ad : Nat → Nat} {cA : Nat → ClassId} {pr : Nat → Nat → Bool} {Kz : mm_M} {M0 : mm_M} (hM0 : INV pr Kz M0) {v0 : Nat} (cv0 : s_c v0 = 9) : Ci l 0 yX10_isMissing wsX10_isMissing dC dI ad cA [.ref (ad v0)] M0 (fun r M' => ∃ a : Int, r = sI a ∧ M0 = M' ∧ 0 ≤ a ∧ a ≤ 1 ∧ ((0 ≤ (M0.1 v0 2).toInt ∧ (M0.1 v0 2).toInt ≤ 40 ∧ ¬ (M0.1 v0 2).toInt = (-1) ∧ a = 0) ∨ ((-1) ≤ (M0.1 v0 2).toInt ∧ (M0.1 v0 2).toInt ≤ (-1) ∧ (M0.1 v0 2).toInt = (-1) ∧ a = 1))) := by
  refine ci_of (cc := cX10_isMissing) (maxL := 1) (ty := .boolean) (lv := [(0, .ref (ad v0))]) (by decide) rfl (fun r M' hp => by obtain ⟨a, rfl, -, h⟩ := hp; rcases (show a = 0 ∨ a = 1 by omega) with rfl | rfl <;> rfl) (Nat.le_of_ble_eq_true rfl) rfl ?_
  intro p e s m args below meth c A Q C hret
  refine j_aload_n C 0 0 dX10_isMissing_0 rfl rfl ?_
  refine y_getI C 9 _ _ fX10_isMissing_19 cv0 rfl ft_9_2 sb_9_2 hM0 dX10_isMissing_1 (fun a101 ea101 la101 ua101 => ?_)
  refine y_iconst C dX10_isMissing_4 ?_
  refine y_icmp_ne C 12 dX10_isMissing_5 (by decide) (by omega) (fun h103 => ?_) (fun h103 => ?_)
  · refine y_iconst C dX10_isMissing_12 ?_
    exact hret _ _ _ _ dX10_isMissing_13 ⟨0, rfl, rfl, by omega⟩
  · refine y_iconst C dX10_isMissing_8 ?_
    refine j_goto C 13 dX10_isMissing_9 (by decide) ?_
    exact hret _ _ _ _ dX10_isMissing_13 ⟨1, rfl, rfl, by omega⟩
set_option maxHeartbeats 4000000 in
theorem s1_X10_size {l : Launch} {dC : Nat → ClassId} {dI : Nat → Nat → Nat} {ad : Nat → Nat} {cA : Nat → ClassId} {pr : Nat → Nat → Bool} {Kz : mm_M} {M0 : mm_M} (hM0 : INV pr Kz M0) {v0 : Nat} (cv0 : s_c v0 = 9) : Ci l 1 yX10_size wsX10_size dC dI ad cA [.ref (ad v0)] M0 (fun r M' => ∃ a : Int, r = sI a ∧ M0 = M' ∧ 0 ≤ a ∧ a ≤ 40 ∧ ((0 ≤ a ∧ a ≤ 40))) := by
  refine ci_of (cc := cX10_size) (maxL := 1) (ty := .int) (lv := [(0, .ref (ad v0))]) (by decide) rfl (fun r M' hp => rfl) (Nat.le_of_ble_eq_true rfl) rfl ?_
  intro p e s m args below meth c A Q C hret
  refine j_aload_n C 0 0 dX10_size_0 rfl rfl ?_
  refine y_getI C 9 _ _ fX10_size_19 cv0 rfl ft_9_2 sb_9_2 hM0 dX10_size_1 (fun a101 ea101 la101 ua101 => ?_)
  refine y_iconst C dX10_size_4 ?_
  refine y_mmax C wX10_size_22_0 wX10_size_22_1 wX10_size_22_2 wX10_size_22_3 (by decide) (Nat.le_of_ble_eq_true rfl) dX10_size_5 (by omega) (fun a103 ha103 => ?_)
  exact hret _ _ _ _ dX10_size_8 ⟨a103, rfl, rfl, by omega⟩
set_option maxHeartbeats 4000000 in
theorem s1_X10_has {l : Launch} {dC : Nat → ClassId} {dI : Nat → Nat → Nat} {ad : Nat → Nat} {cA : Nat → ClassId} {pr : Nat → Nat → Bool} {Kz : mm_M} {M0 : mm_M} (hM0 : INV pr Kz M0) {v0 : Nat} (cv0 : s_c v0 = 9) (a1 : Int) (ha1 : -2147483648 ≤ a1 ∧ a1 ≤ 2147483647) : Ci l 0 yX10_has wsX10_has dC dI ad cA [.ref (ad v0), .int (sI a1)] M0 (fun r M' => ∃ a : Int, r = sI a ∧ M0 = M' ∧ 0 ≤ a ∧ a ≤ 1 ∧ ((a1 < 0 ∧ a = 0) ∨ ((-1) ≤ (M0.1 v0 2).toInt ∧ (M0.1 v0 2).toInt ≤ 40 ∧ 0 ≤ a1 ∧ (M0.1 v0 2).toInt ≤ a1 ∧ a = 0) ∨ (1 ≤ (M0.1 v0 2).toInt ∧ (M0.1 v0 2).toInt ≤ 40 ∧ 0 ≤ a1 ∧ a1 < (M0.1 v0 2).toInt ∧ a = 1))) := by
  refine ci_of (cc := cX10_has) (maxL := 2) (ty := .boolean) (lv := [(0, .ref (ad v0)), (1, .int (sI a1))]) (by decide) rfl (fun r M' hp => by obtain ⟨a, rfl, -, h⟩ := hp; rcases (show a = 0 ∨ a = 1 by omega) with rfl | rfl <;> rfl) (Nat.le_of_ble_eq_true rfl) rfl ?_
  intro p e s m args below meth c A Q C hret
  refine j_iload_n C 1 1 dX10_has_0 rfl rfl ?_
  refine y_if_lt C 16 dX10_has_1 (by decide) (by omega) (fun h101 => ?_) (fun h101 => ?_)
  · refine y_iconst C dX10_has_16 ?_
    exact hret _ _ _ _ dX10_has_17 ⟨0, rfl, rfl, by omega⟩
  · refine j_iload_n C 1 1 dX10_has_4 rfl rfl ?_
    refine j_aload_n C 0 0 dX10_has_5 rfl rfl ?_
    refine y_getI C 9 _ _ fX10_has_19 cv0 rfl ft_9_2 sb_9_2 hM0 dX10_has_6 (fun a102 ea102 la102 ua102 => ?_)
    refine y_icmp_ge C 16 dX10_has_9 (by decide) (by omega) (fun h104 => ?_) (fun h104 => ?_)
    · refine y_iconst C dX10_has_16 ?_
      exact hret _ _ _ _ dX10_has_17 ⟨0, rfl, rfl, by omega⟩
    · refine y_iconst C dX10_has_12 ?_
      refine j_goto C 17 dX10_has_13 (by decide) ?_
      exact hret _ _ _ _ dX10_has_17 ⟨1, rfl, rfl, by omega⟩
set_option maxHeartbeats 4000000 in
theorem s1_X10_numberAt {l : Launch} {dC : Nat → ClassId} {dI : Nat → Nat → Nat} {ad : Nat → Nat} {cA : Nat → ClassId} {pr : Nat → Nat → Bool} {Kz : mm_M} {M0 : mm_M} (hM0 : INV pr Kz M0) {v0 : Nat} (cv0 : s_c v0 = 9) (a1 : Int) (ha1 : -2147483648 ≤ a1 ∧ a1 ≤ 2147483647) : Cj l 1 yX10_numberAt wsX10_numberAt dC dI ad cA [.ref (ad v0), .int (sI a1)] M0 (fun r M' => ∃ a : Int, r = sJ a ∧ M0 = M' ∧ (-9223372036854775808) ≤ a ∧ a ≤ 9223372036854775807) := by
  refine cj_of (cc := cX10_numberAt) (maxL := 2) (lv := [(0, .ref (ad v0)), (1, .int (sI a1))]) (by decide) rfl (Nat.le_of_ble_eq_true rfl) rfl ?_
  intro p e s m args below meth c A Q C hret
  refine j_aload_n C 0 0 dX10_numberAt_0 rfl rfl ?_
  refine j_iload_n C 1 1 dX10_numberAt_1 rfl rfl ?_
  refine j_callVi C (d := 0) (As := [.int (sI a1)]) (st := []) v0 (s_lt cv0 rfl) (s_kc (c := 9) cv0 rfl) (by decide) rfl (s1_X10_has hM0 cv0 a1 (by omega)) gX10_numberAt_X10_has rfl hdX10_has (by decide) (Nat.le_of_ble_eq_true rfl) dX10_numberAt_2 rfl (fun r101 M102 h103 => ?_)
  obtain ⟨a105, rfl, rfl, h104⟩ := h103
  refine y_if_eq C 17 dX10_numberAt_5 (by decide) (by omega) (fun h106 => ?_) (fun h106 => ?_)
  · refine y_lconst C 0 dX10_numberAt_17 rfl ?_
    exact hret _ _ _ _ dX10_numberAt_18 ⟨0, rfl, rfl, by omega⟩
  · refine j_aload_n C 0 0 dX10_numberAt_8 rfl rfl ?_
    refine y_getT C 9 29 fX10_numberAt_9 cv0 rfl ft_9_0 rfl sm_9_0 st_9_0 (by decide) hM0 dX10_numberAt_9 (fun v107 cv107 => ?_)
    refine j_iload_n C 1 1 dX10_numberAt_12 rfl rfl ?_
    refine y_lald C 29 40 cv107 rfl rfl ak_29 an_29 rfl dX10_numberAt_13 (by omega) (fun a108 ea108 la108 ua108 => ?_)
    refine j_goto C 18 dX10_numberAt_14 (by decide) ?_
    exact hret _ _ _ _ dX10_numberAt_18 ⟨a108, rfl, rfl, by omega⟩
set_option maxHeartbeats 4000000 in
theorem s1_X11_judge {l : Launch} {dC : Nat → ClassId} {dI : Nat → Nat → Nat} {ad : Nat → Nat} {cA : Nat → ClassId} {pr : Nat → Nat → Bool} {Kz : mm_M} {M0 : mm_M} (hM0 : INV pr Kz M0) (hpr : PX pr) (hq8_0 : ∀ i, s_c i = 8 → pr i 0 = false) (a1 : Int) (ha1 : -2147483648 ≤ a1 ∧ a1 ≤ 2147483647) (a2 : Int) (ha2 : -2147483648 ≤ a2 ∧ a2 ≤ 2147483647) : Ci l 6 yX11_judge wsX11_judge dC dI ad cA [.ref (ad 0), .int (sI a1), .int (sI a2)] M0 (fun r M' => ∃ a : Int, r = sI a ∧ INV pr Kz M' ∧ (-2147483648) ≤ a ∧ a ≤ 2147483647) := by
  refine ci_of (cc := cX11_judge) (maxL := 7) (ty := .int) (lv := [(0, .ref (ad 0)), (1, .int (sI a1)), (2, .int (sI a2))]) (by decide) rfl (fun r M' hp => rfl) (Nat.le_of_ble_eq_true rfl) rfl ?_
  intro p e s m args below meth c A Q C hret
  refine j_iload_n C 1 1 dX11_judge_0 rfl rfl ?_
  refine j_callSi C (d := 0) (As := [.int (sI a1)]) (st := []) (s1_X11_isTray hM0 a1 (by omega)) gX11_judge_X11_isTray rfl hdX11_isTrays (by decide) (Nat.le_of_ble_eq_true rfl) dX11_judge_1 rfl (fun r101 M102 h103 => ?_)
  obtain ⟨a105, rfl, rfl, h104⟩ := h103
  refine y_if_eq C 16 dX11_judge_4 (by decide) (by omega) (fun h106 => ?_) (fun h106 => ?_)
  · refine y_bipush C dX11_judge_16 rfl ?_
    exact hret _ _ _ _ dX11_judge_18 ⟨(-2), rfl, hM0, by omega⟩
  · refine j_iload_n C 2 2 dX11_judge_7 rfl rfl ?_
    refine y_if_lt C 16 dX11_judge_8 (by decide) (by omega) (fun h107 => ?_) (fun h107 => ?_)
    · refine y_bipush C dX11_judge_16 rfl ?_
      exact hret _ _ _ _ dX11_judge_18 ⟨(-2), rfl, hM0, by omega⟩
    · refine j_iload_n C 2 2 dX11_judge_11 rfl rfl ?_
      refine y_iconst C dX11_judge_12 ?_
      refine y_icmp_le C 19 dX11_judge_13 (by decide) (by omega) (fun h108 => ?_) (fun h108 => ?_)
      · refine j_aload_n C 0 0 dX11_judge_19 rfl rfl ?_
        refine y_getC C 10 50 fX11_judge_52 rfl rfl ft_10_9 sm_10_9 rfl hM0 dX11_judge_20 ?_
        refine j_iload_n C 1 1 dX11_judge_23 rfl rfl ?_
        refine y_aald C 28 4 9 rfl rfl rfl rfl an_28 rfl sma_28 sta_28 (by decide) hM0 dX11_judge_24 (by omega) (fun v109 cv109 => ?_)
        refine j_astore_n C 3 [(3, .ref (ad v109)), (0, .ref (ad 0)), (1, .int (sI a1)), (2, .int (sI a2))] dX11_judge_25 rfl (by decide) rfl ?_
        refine j_aload_n C 0 3 dX11_judge_26 rfl rfl ?_
        refine j_callVi C (d := 0) (As := []) (st := []) v109 (s_lt cv109 rfl) (s_kc (c := 9) cv109 rfl) (by decide) rfl (s1_X10_isMissing hM0 cv109) gX11_judge_X10_isMissing rfl hdX10_isMissing (by decide) (Nat.le_of_ble_eq_true rfl) dX11_judge_27 rfl (fun r110 M111 h112 => ?_)
        obtain ⟨a114, rfl, rfl, h113⟩ := h112
        refine y_if_eq C 36 dX11_judge_30 (by decide) (by omega) (fun h115 => ?_) (fun h115 => ?_)
        · refine j_aload_n C 1 0 dX11_judge_36 rfl rfl ?_
          refine y_getC C 10 15 fX11_judge_40 rfl rfl ft_10_7 sm_10_7 rfl hM0 dX11_judge_37 ?_
          refine j_aload_n C 1 0 dX11_judge_40 rfl rfl ?_
          refine y_getC C 10 12 fX11_judge_36 rfl rfl ft_10_6 sm_10_6 rfl hM0 dX11_judge_41 ?_
          refine j_callVv C (d := 0) (As := [.ref (ad 12)]) (st := []) 15 (s_lt rfl rfl) (s_kc (c := 8) rfl rfl) (by decide) rfl (s1_X9_copyFrom hM0 hpr hq8_0 rfl rfl) gX11_judge_X9_copyFrom rfl hdX9_copyFrom (by decide) (Nat.le_of_ble_eq_true rfl) dX11_judge_44 rfl (fun M117 h118 => ?_)
          have hM117 := h118
          refine y_iconst C dX11_judge_47 ?_
          refine j_istore C 4 [(4, .int (sI 0)), (3, .ref (ad v109)), (0, .ref (ad 0)), (1, .int (sI a1)), (2, .int (sI a2))] dX11_judge_48 (by decide) rfl ?_
          refine y_iconst C dX11_judge_50 ?_
          refine j_istore C 5 [(5, .int (sI 0)), (4, .int (sI 0)), (3, .ref (ad v109)), (0, .ref (ad 0)), (1, .int (sI a1)), (2, .int (sI a2))] dX11_judge_51 (by decide) rfl ?_
          refine y_iconst C dX11_judge_53 ?_
          refine j_istore C 6 [(6, .int (sI 0)), (5, .int (sI 0)), (4, .int (sI 0)), (3, .ref (ad v109)), (0, .ref (ad 0)), (1, .int (sI a1)), (2, .int (sI a2))] dX11_judge_54 (by decide) rfl ?_
          have X541 : ∀ (a538 : Int) (a539 : Int) (M540 : mm_M), ((-2147483648) ≤ a538 ∧ a538 ≤ 0 ∧ 0 ≤ a539 ∧ a539 ≤ 39) → INV pr Kz M540 → jj p l e (cn_R 6) s m args below meth c 0 0 Q 7 dC dI ad cA A M540 107 [(0, .ref (ad 0)), (2, .int (sI a2)), (4, .int (sI a538)), (5, .int (sI a539))] [] := by
            intro a538 a539 M540 h542 hM540
            refine j_iload_n C 1 2 dX11_judge_107 rfl rfl ?_
            refine y_if_ne C 123 dX11_judge_108 (by decide) (by omega) (fun h543 => ?_) (fun h543 => ?_)
            · refine j_iload_n C 1 2 dX11_judge_123 rfl rfl ?_
              refine y_iconst C dX11_judge_124 ?_
              refine y_icmp_ne C 143 dX11_judge_125 (by decide) (by omega) (fun h544 => ?_) (fun h544 => ?_)
              · refine j_iload_n C 1 2 dX11_judge_143 rfl rfl ?_
                refine y_iconst C dX11_judge_144 ?_
                refine y_icmp_ne C 158 dX11_judge_145 (by decide) (by omega) (fun h545 => ?_) (fun h545 => ?_)
                · refine j_aload_n C 0 0 dX11_judge_158 rfl rfl ?_
                  refine y_getC C 10 15 fX11_judge_40 rfl rfl ft_10_7 sm_10_7 rfl hM540 dX11_judge_159 ?_
                  refine y_getI C 8 _ _ fX11_judge_252 rfl rfl ft_8_5 sb_8_5 hM540 dX11_judge_162 (fun a546 ea546 la546 ua546 => ?_)
                  exact hret _ _ _ _ dX11_judge_165 ⟨a546, rfl, hM540, by omega⟩
                · refine j_aload_n C 0 0 dX11_judge_148 rfl rfl ?_
                  refine y_getC C 10 15 fX11_judge_40 rfl rfl ft_10_7 sm_10_7 rfl hM540 dX11_judge_149 ?_
                  refine y_getI C 8 _ _ fX11_judge_150 rfl rfl ft_8_3 sb_8_3 hM540 dX11_judge_152 (fun a548 ea548 la548 ua548 => ?_)
                  refine j_goto C 165 dX11_judge_155 (by decide) ?_
                  exact hret _ _ _ _ dX11_judge_165 ⟨a548, rfl, hM540, by omega⟩
              · refine j_iload C 2 dX11_judge_128 rfl ?_
                refine y_if_ne C 137 dX11_judge_130 (by decide) (by omega) (fun h550 => ?_) (fun h550 => ?_)
                · refine y_bipush C dX11_judge_137 rfl ?_
                  refine j_iload C 2 dX11_judge_139 rfl ?_
                  refine y_isub C dX11_judge_141 ?_
                  exact hret _ _ _ _ dX11_judge_142 ⟨((-10) - a538), rfl, hM540, by omega⟩
                · refine y_iconst C dX11_judge_133 ?_
                  refine j_goto C 142 dX11_judge_134 (by decide) ?_
                  exact hret _ _ _ _ dX11_judge_142 ⟨0, rfl, hM540, by omega⟩
            · refine j_iload C 2 dX11_judge_111 rfl ?_
              refine y_if_ne C 120 dX11_judge_113 (by decide) (by omega) (fun h551 => ?_) (fun h551 => ?_)
              · refine j_iload C 3 dX11_judge_120 rfl ?_
                exact hret _ _ _ _ dX11_judge_122 ⟨a539, rfl, hM540, by omega⟩
              · refine y_iconst C dX11_judge_116 ?_
                refine j_goto C 122 dX11_judge_117 (by decide) ?_
                exact hret _ _ _ _ dX11_judge_122 ⟨(-1), rfl, hM540, by omega⟩
          have L513 : ∀ (n511 : Nat), ∀ (a514 : Int) (a515 : Int) (a516 : Int) (M517 : mm_M), ((-2147483648) ≤ a514 ∧ a514 ≤ 0 ∧ 0 ≤ a515 ∧ a515 ≤ 39 ∧ 0 ≤ a516 ∧ a516 ≤ 40 ∧ (40 - a516) < (n511 : Int)) → INV pr Kz M517 → jj p l e (cn_R 6) s m args below meth c 0 0 Q 7 dC dI ad cA A M517 56 [(0, .ref (ad 0)), (2, .int (sI a2)), (3, .ref (ad v109)), (4, .int (sI a514)), (5, .int (sI a515)), (6, .int (sI a516))] [] := by
            intro n511
            induction n511 with
            | zero =>
              intro a514 a515 a516 M517 h518 hM517
              exfalso; omega
            | succ n511 ih512 =>
              intro a514 a515 a516 M517 h518 hM517
              refine j_iload C 5 dX11_judge_56 rfl ?_
              refine j_aload_n C 2 3 dX11_judge_58 rfl rfl ?_
              refine j_callVi C (d := 1) (As := []) (st := [.int (sI a516)]) v109 (s_lt cv109 rfl) (s_kc (c := 9) cv109 rfl) (by decide) rfl (s1_X10_size hM517 cv109) gX11_judge_X10_size rfl hdX10_size (by decide) (Nat.le_of_ble_eq_true rfl) dX11_judge_59 rfl (fun r519 M520 h521 => ?_)
              obtain ⟨a523, rfl, rfl, h522⟩ := h521
              refine y_icmp_ge C 107 dX11_judge_62 (by decide) (by omega) (fun h524 => ?_) (fun h524 => ?_)
              · refine j_lv [0, 1, 3, 4] rfl ?_; exact X541 a514 a515 M517 (by omega) hM517
              · refine j_iload C 3 dX11_judge_65 rfl ?_
                refine y_if_ne C 107 dX11_judge_67 (by decide) (by omega) (fun h525 => ?_) (fun h525 => ?_)
                · refine j_lv [0, 1, 3, 4] rfl ?_; exact X541 a514 a515 M517 (by omega) hM517
                · refine y_iconst C dX11_judge_70 ?_
                  refine j_aload_n C 0 0 dX11_judge_71 rfl rfl ?_
                  refine y_getC C 10 87 fX11_judge_85 rfl rfl ft_10_13 sm_10_13 rfl hM517 dX11_judge_72 ?_
                  refine j_aload_n C 0 0 dX11_judge_75 rfl rfl ?_
                  refine y_getM C 10 6 fX11_judge_26 rfl rfl ft_10_4 sm_10_4 (by decide) hM517 dX11_judge_76 (fun v526 ev526 cv526 => ?_)
                  refine j_aload_n C 0 0 dX11_judge_79 rfl rfl ?_
                  refine y_getC C 10 15 fX11_judge_40 rfl rfl ft_10_7 sm_10_7 rfl hM517 dX11_judge_80 ?_
                  refine j_aload_n C 2 3 dX11_judge_83 rfl rfl ?_
                  refine j_iload C 5 dX11_judge_84 rfl ?_
                  refine j_callVj C (d := 1) (As := [.int (sI a516)]) (st := [.ref (ad 15), .ref (ad v526), .ref (ad 87), .int (sI 0)]) v109 (s_lt cv109 rfl) (s_kc (c := 9) cv109 rfl) (by decide) rfl (s1_X10_numberAt hM517 cv109 a516 (by omega)) gX11_judge_X10_numberAt rfl hdX10_numberAt (by decide) (Nat.le_of_ble_eq_true rfl) dX11_judge_86 rfl (fun r527 M528 h529 => ?_)
                  obtain ⟨a531, rfl, rfl, h530⟩ := h529
                  refine j_callVi C (d := 5) (As := [.ref (ad v526), .ref (ad 15), .long (sJ a531)]) (st := [.int (sI 0)]) 87 (s_lt rfl rfl) (s_kc (c := 1) rfl rfl) (by decide) rfl (s1_X1_carryOut hM517 hpr cv526 rfl a531 (by omega)) gX11_judge_X1_carryOut rfl hdX1_carryOut (by decide) (Nat.le_of_ble_eq_true rfl) dX11_judge_89 rfl (fun r532 M533 h534 => ?_)
                  obtain ⟨a536, rfl, hM533, h535⟩ := h534
                  refine y_mmin C wX11_judge_246_0 wX11_judge_246_1 wX11_judge_246_2 wX11_judge_246_3 (by decide) (Nat.le_of_ble_eq_true rfl) dX11_judge_92 (by omega) (fun a537 ha537 => ?_)
                  refine j_istore C 4 [(4, .int (sI a537)), (0, .ref (ad 0)), (2, .int (sI a2)), (3, .ref (ad v109)), (5, .int (sI a515)), (6, .int (sI a516))] dX11_judge_95 (by decide) rfl ?_
                  refine j_iload C 5 dX11_judge_97 rfl ?_
                  refine j_istore C 5 [(5, .int (sI a516)), (4, .int (sI a537)), (0, .ref (ad 0)), (2, .int (sI a2)), (3, .ref (ad v109)), (6, .int (sI a516))] dX11_judge_99 (by decide) rfl ?_
                  refine y_iinc C 5 [(6, .int (sI (a516 + 1))), (5, .int (sI a516)), (4, .int (sI a537)), (0, .ref (ad 0)), (2, .int (sI a2)), (3, .ref (ad v109))] dX11_judge_101 rfl (by decide) rfl ?_
                  refine j_goto C 56 dX11_judge_104 (by decide) ?_
                  refine j_lv [3, 4, 5, 2, 1, 0] rfl ?_; exact ih512 a537 a516 (a516 + 1) M533 (by omega) hM533
          refine j_lv [4, 6, 3, 2, 1, 0] rfl ?_; exact L513 4294967306 0 0 0 M117 (by omega) hM117
        · refine y_bipush C dX11_judge_33 rfl ?_
          exact hret _ _ _ _ dX11_judge_35 ⟨(-6), rfl, hM0, by omega⟩
      · refine y_bipush C dX11_judge_16 rfl ?_
        exact hret _ _ _ _ dX11_judge_18 ⟨(-2), rfl, hM0, by omega⟩
set_option maxHeartbeats 4000000 in
theorem s1_X11_trayRefusal {l : Launch} {dC : Nat → ClassId} {dI : Nat → Nat → Nat} {ad : Nat → Nat} {cA : Nat → ClassId} {pr : Nat → Nat → Bool} {Kz : mm_M} {M0 : mm_M} (hM0 : INV pr Kz M0) (a1 : Int) (ha1 : -2147483648 ≤ a1 ∧ a1 ≤ 2147483647) : Ci l 1 yX11_trayRefusal wsX11_trayRefusal dC dI ad cA [.ref (ad 0), .int (sI a1)] M0 (fun r M' => ∃ a : Int, r = sI a ∧ M0 = M' ∧ (-6) ≤ a ∧ a ≤ 0 ∧ ((0 ≤ a1 ∧ a1 < 4 ∧ a = 0) ∨ (0 ≤ a1 ∧ a1 < 4 ∧ a = (-6)) ∨ (a = (-2)))) := by
  refine ci_of (cc := cX11_trayRefusal) (maxL := 2) (ty := .int) (lv := [(0, .ref (ad 0)), (1, .int (sI a1))]) (by decide) rfl (fun r M' hp => rfl) (Nat.le_of_ble_eq_true rfl) rfl ?_
  intro p e s m args below meth c A Q C hret
  refine j_iload_n C 1 1 dX11_trayRefusal_0 rfl rfl ?_
  refine j_callSi C (d := 0) (As := [.int (sI a1)]) (st := []) (s1_X11_isTray hM0 a1 (by omega)) gX11_trayRefusal_X11_isTray rfl hdX11_isTrays (by decide) (Nat.le_of_ble_eq_true rfl) dX11_trayRefusal_1 rfl (fun r101 M102 h103 => ?_)
  obtain ⟨a105, rfl, rfl, h104⟩ := h103
  refine y_if_ne C 10 dX11_trayRefusal_4 (by decide) (by omega) (fun h106 => ?_) (fun h106 => ?_)
  · refine j_aload_n C 0 0 dX11_trayRefusal_10 rfl rfl ?_
    refine y_getC C 10 50 fX11_trayRefusal_52 rfl rfl ft_10_9 sm_10_9 rfl hM0 dX11_trayRefusal_11 ?_
    refine j_iload_n C 1 1 dX11_trayRefusal_14 rfl rfl ?_
    refine y_aald C 28 4 9 rfl rfl rfl rfl an_28 rfl sma_28 sta_28 (by decide) hM0 dX11_trayRefusal_15 (by omega) (fun v107 cv107 => ?_)
    refine j_callVi C (d := 0) (As := []) (st := []) v107 (s_lt cv107 rfl) (s_kc (c := 9) cv107 rfl) (by decide) rfl (s1_X10_isMissing hM0 cv107) gX11_trayRefusal_X10_isMissing rfl hdX10_isMissing (by decide) (Nat.le_of_ble_eq_true rfl) dX11_trayRefusal_16 rfl (fun r108 M109 h110 => ?_)
    obtain ⟨a112, rfl, rfl, h111⟩ := h110
    refine y_if_eq C 27 dX11_trayRefusal_19 (by decide) (by omega) (fun h113 => ?_) (fun h113 => ?_)
    · refine y_iconst C dX11_trayRefusal_27 ?_
      exact hret _ _ _ _ dX11_trayRefusal_28 ⟨0, rfl, rfl, by omega⟩
    · refine y_bipush C dX11_trayRefusal_22 rfl ?_
      refine j_goto C 28 dX11_trayRefusal_24 (by decide) ?_
      exact hret _ _ _ _ dX11_trayRefusal_28 ⟨(-6), rfl, rfl, by omega⟩
  · refine y_bipush C dX11_trayRefusal_7 rfl ?_
    exact hret _ _ _ _ dX11_trayRefusal_9 ⟨(-2), rfl, rfl, by omega⟩
set_option maxHeartbeats 4000000 in
theorem s1_X11_perform {l : Launch} {dC : Nat → ClassId} {dI : Nat → Nat → Nat} {ad : Nat → Nat} {cA : Nat → ClassId} {pr : Nat → Nat → Bool} {Kz : mm_M} {M0 : mm_M} (hM0 : INV pr Kz M0) (hpr : PX pr) (hq8_0 : ∀ i, s_c i = 8 → pr i 0 = false) (a1 : Int) (ha1 : -2147483648 ≤ a1 ∧ a1 ≤ 2147483647) : Ci l 6 yX11_perform wsX11_perform dC dI ad cA [.ref (ad 0), .int (sI a1)] M0 (fun r M' => ∃ a : Int, r = sI a ∧ INV pr Kz M' ∧ (-6) ≤ a ∧ a ≤ 40) := by
  refine ci_of (cc := cX11_perform) (maxL := 6) (ty := .int) (lv := [(0, .ref (ad 0)), (1, .int (sI a1))]) (by decide) rfl (fun r M' hp => rfl) (Nat.le_of_ble_eq_true rfl) rfl ?_
  intro p e s m args below meth c A Q C hret
  refine j_aload_n C 0 0 dX11_perform_0 rfl rfl ?_
  refine j_iload_n C 1 1 dX11_perform_1 rfl rfl ?_
  refine j_callVi C (d := 1) (As := [.int (sI a1)]) (st := []) 0 (s_lt rfl rfl) (s_kc (c := 10) rfl rfl) (by decide) rfl (s1_X11_trayRefusal hM0 a1 (by omega)) gX11_perform_X11_trayRefusal rfl hdX11_trayRefusal (by decide) (Nat.le_of_ble_eq_true rfl) dX11_perform_2 rfl (fun r101 M102 h103 => ?_)
  obtain ⟨a105, rfl, rfl, h104⟩ := h103
  refine j_istore_n C 2 [(2, .int (sI a105)), (0, .ref (ad 0)), (1, .int (sI a1))] dX11_perform_5 rfl (by decide) rfl ?_
  refine j_iload_n C 0 2 dX11_perform_6 rfl rfl ?_
  refine y_if_eq C 12 dX11_perform_7 (by decide) (by omega) (fun h106 => ?_) (fun h106 => ?_)
  · refine j_aload_n C 1 0 dX11_perform_12 rfl rfl ?_
    refine y_getC C 10 50 fX11_perform_52 rfl rfl ft_10_9 sm_10_9 rfl hM0 dX11_perform_13 ?_
    refine j_iload_n C 2 1 dX11_perform_16 rfl rfl ?_
    refine y_aald C 28 4 9 rfl rfl rfl rfl an_28 rfl sma_28 sta_28 (by decide) hM0 dX11_perform_17 (by omega) (fun v107 cv107 => ?_)
    refine j_astore_n C 3 [(3, .ref (ad v107)), (2, .int (sI a105)), (0, .ref (ad 0)), (1, .int (sI a1))] dX11_perform_18 rfl (by decide) rfl ?_
    refine j_aload_n C 2 0 dX11_perform_19 rfl rfl ?_
    refine y_getC C 10 15 fX11_perform_40 rfl rfl ft_10_7 sm_10_7 rfl hM0 dX11_perform_20 ?_
    refine j_aload_n C 2 0 dX11_perform_23 rfl rfl ?_
    refine y_getC C 10 12 fX11_perform_36 rfl rfl ft_10_6 sm_10_6 rfl hM0 dX11_perform_24 ?_
    refine j_callVv C (d := 0) (As := [.ref (ad 12)]) (st := []) 15 (s_lt rfl rfl) (s_kc (c := 8) rfl rfl) (by decide) rfl (s1_X9_copyFrom hM0 hpr hq8_0 rfl rfl) gX11_perform_X9_copyFrom rfl hdX9_copyFrom (by decide) (Nat.le_of_ble_eq_true rfl) dX11_perform_27 rfl (fun M109 h110 => ?_)
    have hM109 := h110
    refine y_iconst C dX11_perform_30 ?_
    refine j_istore C 4 [(4, .int (sI 0)), (3, .ref (ad v107)), (2, .int (sI a105)), (0, .ref (ad 0)), (1, .int (sI a1))] dX11_perform_31 (by decide) rfl ?_
    refine y_iconst C dX11_perform_33 ?_
    refine j_istore C 5 [(5, .int (sI 0)), (4, .int (sI 0)), (3, .ref (ad v107)), (2, .int (sI a105)), (0, .ref (ad 0)), (1, .int (sI a1))] dX11_perform_34 (by decide) rfl ?_
    have X514 : ∀ (a512 : Int) (M513 : mm_M), (0 ≤ a512 ∧ a512 ≤ 40) → INV pr Kz M513 → jj p l e (cn_R 6) s m args below meth c 0 0 Q 6 dC dI ad cA A M513 85 [(0, .ref (ad 0)), (4, .int (sI a512))] [] := by
      intro a512 M513 h515 hM513
      refine j_iload C 1 dX11_perform_85 rfl ?_
      refine y_if_le C 101 dX11_perform_87 (by decide) (by omega) (fun h516 => ?_) (fun h516 => ?_)
      · refine j_iload C 1 dX11_perform_101 rfl ?_
        exact hret _ _ _ _ dX11_perform_103 ⟨a512, rfl, hM513, by omega⟩
      · refine j_aload_n C 0 0 dX11_perform_90 rfl rfl ?_
        refine y_getC C 10 18 fX11_perform_46 rfl rfl ft_10_8 sm_10_8 rfl hM513 dX11_perform_91 ?_
        refine j_aload_n C 0 0 dX11_perform_94 rfl rfl ?_
        refine y_getC C 10 15 fX11_perform_40 rfl rfl ft_10_7 sm_10_7 rfl hM513 dX11_perform_95 ?_
        refine j_callVv C (d := 1) (As := [.ref (ad 15)]) (st := []) 18 (s_lt rfl rfl) (s_kc (c := 5) rfl rfl) (by decide) rfl (s1_X6_keep hM513 hpr hq8_0 rfl) gX11_perform_X6_keep rfl hdX6_keep (by decide) (Nat.le_of_ble_eq_true rfl) dX11_perform_98 rfl (fun M518 h519 => ?_)
        have hM518 := h519
        refine j_iload C 1 dX11_perform_101 rfl ?_
        exact hret _ _ _ _ dX11_perform_103 ⟨a512, rfl, hM518, by omega⟩
    have L488 : ∀ (n486 : Nat), ∀ (a489 : Int) (a490 : Int) (M491 : mm_M), (0 ≤ a489 ∧ a489 ≤ 40 ∧ 0 ≤ a490 ∧ a490 ≤ 40 ∧ (40 - a490) < (n486 : Int)) → INV pr Kz M491 → jj p l e (cn_R 6) s m args below meth c 0 0 Q 6 dC dI ad cA A M491 36 [(0, .ref (ad 0)), (3, .ref (ad v107)), (4, .int (sI a489)), (5, .int (sI a490))] [] := by
      intro n486
      induction n486 with
      | zero =>
        intro a489 a490 M491 h492 hM491
        exfalso; omega
      | succ n486 ih487 =>
        intro a489 a490 M491 h492 hM491
        refine j_iload C 3 dX11_perform_36 rfl ?_
        refine j_aload_n C 1 3 dX11_perform_38 rfl rfl ?_
        refine j_callVi C (d := 1) (As := []) (st := [.int (sI a490)]) v107 (s_lt cv107 rfl) (s_kc (c := 9) cv107 rfl) (by decide) rfl (s1_X10_size hM491 cv107) gX11_perform_X10_size rfl hdX10_size (by decide) (Nat.le_of_ble_eq_true rfl) dX11_perform_39 rfl (fun r493 M494 h495 => ?_)
        obtain ⟨a497, rfl, rfl, h496⟩ := h495
        refine y_icmp_ge C 85 dX11_perform_42 (by decide) (by omega) (fun h498 => ?_) (fun h498 => ?_)
        · refine j_lv [0, 2] rfl ?_; exact X514 a489 M491 (by omega) hM491
        · refine j_iload C 2 dX11_perform_45 rfl ?_
          refine j_iload C 3 dX11_perform_47 rfl ?_
          refine y_icmp_ne C 85 dX11_perform_49 (by decide) (by omega) (fun h499 => ?_) (fun h499 => ?_)
          · refine j_lv [0, 2] rfl ?_; exact X514 a489 M491 (by omega) hM491
          · refine j_aload_n C 0 0 dX11_perform_52 rfl rfl ?_
            refine y_getC C 10 87 fX11_perform_85 rfl rfl ft_10_13 sm_10_13 rfl hM491 dX11_perform_53 ?_
            refine j_aload_n C 0 0 dX11_perform_56 rfl rfl ?_
            refine y_getM C 10 6 fX11_perform_26 rfl rfl ft_10_4 sm_10_4 (by decide) hM491 dX11_perform_57 (fun v500 ev500 cv500 => ?_)
            refine j_aload_n C 0 0 dX11_perform_60 rfl rfl ?_
            refine y_getC C 10 12 fX11_perform_36 rfl rfl ft_10_6 sm_10_6 rfl hM491 dX11_perform_61 ?_
            refine j_aload_n C 1 3 dX11_perform_64 rfl rfl ?_
            refine j_iload C 3 dX11_perform_65 rfl ?_
            refine j_callVj C (d := 1) (As := [.int (sI a490)]) (st := [.ref (ad 12), .ref (ad v500), .ref (ad 87)]) v107 (s_lt cv107 rfl) (s_kc (c := 9) cv107 rfl) (by decide) rfl (s1_X10_numberAt hM491 cv107 a490 (by omega)) gX11_perform_X10_numberAt rfl hdX10_numberAt (by decide) (Nat.le_of_ble_eq_true rfl) dX11_perform_67 rfl (fun r501 M502 h503 => ?_)
            obtain ⟨a505, rfl, rfl, h504⟩ := h503
            refine j_callVi C (d := 5) (As := [.ref (ad v500), .ref (ad 12), .long (sJ a505)]) (st := []) 87 (s_lt rfl rfl) (s_kc (c := 1) rfl rfl) (by decide) rfl (s1_X1_carryOut hM491 hpr cv500 rfl a505 (by omega)) gX11_perform_X1_carryOut rfl hdX1_carryOut (by decide) (Nat.le_of_ble_eq_true rfl) dX11_perform_70 rfl (fun r506 M507 h508 => ?_)
            obtain ⟨a510, rfl, hM507, h509⟩ := h508
            refine y_if_lt C 79 dX11_perform_73 (by decide) (by omega) (fun h511 => ?_) (fun h511 => ?_)
            · refine y_iinc C 3 [(5, .int (sI (a490 + 1))), (0, .ref (ad 0)), (3, .ref (ad v107)), (4, .int (sI a489))] dX11_perform_79 rfl (by decide) rfl ?_
              refine j_goto C 36 dX11_perform_82 (by decide) ?_
              refine j_lv [1, 2, 3, 0] rfl ?_; exact ih487 a489 (a490 + 1) M507 (by omega) hM507
            · refine y_iinc C 2 [(4, .int (sI (a489 + 1))), (0, .ref (ad 0)), (3, .ref (ad v107)), (5, .int (sI a490))] dX11_perform_76 rfl (by decide) rfl ?_
              refine y_iinc C 3 [(5, .int (sI (a490 + 1))), (4, .int (sI (a489 + 1))), (0, .ref (ad 0)), (3, .ref (ad v107))] dX11_perform_79 rfl (by decide) rfl ?_
              refine j_goto C 36 dX11_perform_82 (by decide) ?_
              refine j_lv [2, 3, 1, 0] rfl ?_; exact ih487 (a489 + 1) (a490 + 1) M507 (by omega) hM507
    refine j_lv [4, 2, 1, 0] rfl ?_; exact L488 2010 0 0 M109 (by omega) hM109
  · refine j_iload_n C 0 2 dX11_perform_10 rfl rfl ?_
    exact hret _ _ _ _ dX11_perform_11 ⟨a105, rfl, hM0, by omega⟩
set_option maxHeartbeats 4000000 in
theorem s1_X1_drawDeed {l : Launch} {dC : Nat → ClassId} {dI : Nat → Nat → Nat} {ad : Nat → Nat} {cA : Nat → ClassId} {pr : Nat → Nat → Bool} {Kz : mm_M} {M0 : mm_M} (hM0 : INV pr Kz M0) (hpr : PX pr) {v1 : Nat} (cv1 : s_c v1 = 8) : Ci l 1 yX1_drawDeed wsX1_drawDeed dC dI ad cA [.ref (ad 87), .ref (ad v1)] M0 (fun r M' => ∃ a : Int, r = sI a ∧ INV pr Kz M' ∧ (-2147483648) ≤ a ∧ a ≤ 2147483647) := by
  refine ci_of (cc := cX1_drawDeed) (maxL := 2) (ty := .int) (lv := [(0, .ref (ad 87)), (1, .ref (ad v1))]) (by decide) rfl (fun r M' hp => rfl) (Nat.le_of_ble_eq_true rfl) rfl ?_
  intro p e s m args below meth c A Q C hret
  refine j_aload_n C 1 1 dX1_drawDeed_0 rfl rfl ?_
  refine j_callVi C (d := 0) (As := []) (st := []) v1 (s_lt cv1 rfl) (s_kc (c := 8) cv1 rfl) (by decide) rfl (s1_X9_draw hM0 hpr cv1) gX1_drawDeed_X9_draw rfl hdX9_draw (by decide) (Nat.le_of_ble_eq_true rfl) dX1_drawDeed_1 rfl (fun r101 M102 h103 => ?_)
  obtain ⟨a105, rfl, hM102, h104⟩ := h103
  refine y_iconst C dX1_drawDeed_4 ?_
  refine y_irem C dX1_drawDeed_5 (by omega) ?_
  rcases (show ((a105 % 5) < 2 ∨ 4 < (a105 % 5)) ∨ (a105 % 5) = 2 ∨ (a105 % 5) = 3 ∨ (a105 % 5) = 4 by omega) with h106 | h106 | h106 | h106
  · refine y_tabO C 63 dX1_drawDeed_6 (by decide) (by omega) ?_
    refine y_iconst C dX1_drawDeed_63 ?_
    exact hret _ _ _ _ dX1_drawDeed_64 ⟨(-1), rfl, hM102, by omega⟩
  · refine y_tabI C (off := 26) 32 2 dX1_drawDeed_6 (by decide) rfl (by decide) h106 ?_
    refine j_aload_n C 1 1 dX1_drawDeed_32 rfl rfl ?_
    refine j_callVi C (d := 0) (As := []) (st := []) v1 (s_lt cv1 rfl) (s_kc (c := 8) cv1 rfl) (by decide) rfl (s1_X9_draw hM102 hpr cv1) gX1_drawDeed_X9_draw rfl hdX9_draw (by decide) (Nat.le_of_ble_eq_true rfl) dX1_drawDeed_33 rfl (fun r107 M108 h109 => ?_)
    obtain ⟨a111, rfl, hM108, h110⟩ := h109
    refine y_bipush C dX1_drawDeed_36 rfl ?_
    refine y_irem C dX1_drawDeed_38 (by omega) ?_
    exact hret _ _ _ _ dX1_drawDeed_39 ⟨(a111 % 6), rfl, hM108, by omega⟩
  · refine y_tabI C (off := 34) 40 3 dX1_drawDeed_6 (by decide) rfl (by decide) h106 ?_
    refine y_bipush C dX1_drawDeed_40 rfl ?_
    refine j_aload_n C 1 1 dX1_drawDeed_42 rfl rfl ?_
    refine j_callVi C (d := 0) (As := []) (st := [.int (sI 100)]) v1 (s_lt cv1 rfl) (s_kc (c := 8) cv1 rfl) (by decide) rfl (s1_X9_draw hM102 hpr cv1) gX1_drawDeed_X9_draw rfl hdX9_draw (by decide) (Nat.le_of_ble_eq_true rfl) dX1_drawDeed_43 rfl (fun r112 M113 h114 => ?_)
    obtain ⟨a116, rfl, hM113, h115⟩ := h114
    refine y_bipush C dX1_drawDeed_46 rfl ?_
    refine y_irem C dX1_drawDeed_48 (by omega) ?_
    refine y_iadd0 C dX1_drawDeed_49 (fun a117 la117 ua117 => ?_)
    exact hret _ _ _ _ dX1_drawDeed_50 ⟨a117, rfl, hM113, by omega⟩
  · refine y_tabI C (off := 45) 51 4 dX1_drawDeed_6 (by decide) rfl (by decide) h106 ?_
    refine y_sipush C dX1_drawDeed_51 rfl ?_
    refine j_aload_n C 1 1 dX1_drawDeed_54 rfl rfl ?_
    refine j_callVi C (d := 0) (As := []) (st := [.int (sI 200)]) v1 (s_lt cv1 rfl) (s_kc (c := 8) cv1 rfl) (by decide) rfl (s1_X9_draw hM102 hpr cv1) gX1_drawDeed_X9_draw rfl hdX9_draw (by decide) (Nat.le_of_ble_eq_true rfl) dX1_drawDeed_55 rfl (fun r118 M119 h120 => ?_)
    obtain ⟨a122, rfl, hM119, h121⟩ := h120
    refine y_bipush C dX1_drawDeed_58 rfl ?_
    refine y_irem C dX1_drawDeed_60 (by omega) ?_
    refine y_iadd0 C dX1_drawDeed_61 (fun a123 la123 ua123 => ?_)
    exact hret _ _ _ _ dX1_drawDeed_62 ⟨a123, rfl, hM119, by omega⟩
set_option maxHeartbeats 4000000 in
theorem s1_X11_season {l : Launch} {dC : Nat → ClassId} {dI : Nat → Nat → Nat} {ad : Nat → Nat} {cA : Nat → ClassId} {pr : Nat → Nat → Bool} {Kz : mm_M} {M0 : mm_M} (hM0 : INV pr Kz M0) (hpr : PX pr) (hq8_0 : ∀ i, s_c i = 8 → pr i 0 = false) (a1 : Int) (ha1 : -2147483648 ≤ a1 ∧ a1 ≤ 2147483647) (a2 : Int) (ha2 : -2147483648 ≤ a2 ∧ a2 ≤ 2147483647) : Ci l 6 yX11_season wsX11_season dC dI ad cA [.ref (ad 0), .int (sI a1), .int (sI a2)] M0 (fun r M' => ∃ a : Int, r = sI a ∧ INV pr Kz M' ∧ (-3) ≤ a ∧ a ≤ 40) := by
  refine ci_of (cc := cX11_season) (maxL := 5) (ty := .int) (lv := [(0, .ref (ad 0)), (1, .int (sI a1)), (2, .int (sI a2))]) (by decide) rfl (fun r M' hp => rfl) (Nat.le_of_ble_eq_true rfl) rfl ?_
  intro p e s m args below meth c A Q C hret
  refine j_iload_n C 2 2 dX11_season_0 rfl rfl ?_
  refine y_iconst C dX11_season_1 ?_
  refine y_icmp_lt C 11 dX11_season_2 (by decide) (by omega) (fun h101 => ?_) (fun h101 => ?_)
  · refine y_bipush C dX11_season_11 rfl ?_
    exact hret _ _ _ _ dX11_season_13 ⟨(-3), rfl, hM0, by omega⟩
  · refine j_iload_n C 2 2 dX11_season_5 rfl rfl ?_
    refine y_bipush C dX11_season_6 rfl ?_
    refine y_icmp_le C 14 dX11_season_8 (by decide) (by omega) (fun h102 => ?_) (fun h102 => ?_)
    · refine j_aload_n C 0 0 dX11_season_14 rfl rfl ?_
      refine y_getC C 10 15 fX11_season_40 rfl rfl ft_10_7 sm_10_7 rfl hM0 dX11_season_15 ?_
      refine j_aload_n C 0 0 dX11_season_18 rfl rfl ?_
      refine y_getC C 10 12 fX11_season_36 rfl rfl ft_10_6 sm_10_6 rfl hM0 dX11_season_19 ?_
      refine j_callVv C (d := 0) (As := [.ref (ad 12)]) (st := []) 15 (s_lt rfl rfl) (s_kc (c := 8) rfl rfl) (by decide) rfl (s1_X9_copyFrom hM0 hpr hq8_0 rfl rfl) gX11_season_X9_copyFrom rfl hdX9_copyFrom (by decide) (Nat.le_of_ble_eq_true rfl) dX11_season_22 rfl (fun M104 h105 => ?_)
      have hM104 := h105
      refine j_aload_n C 0 0 dX11_season_25 rfl rfl ?_
      refine y_getC C 10 12 fX11_season_36 rfl rfl ft_10_6 sm_10_6 rfl hM104 dX11_season_26 ?_
      refine j_iload_n C 1 1 dX11_season_29 rfl rfl ?_
      refine y_putIF C 8 qX11_season_195 rfl rfl ft_8_8 sb_8_8 hM104 (PX.w hpr rfl rfl) dX11_season_30 (fun M107 eM107 hM107 => ?_)
      refine y_iconst C dX11_season_33 ?_
      refine j_istore_n C 3 [(3, .int (sI 0)), (0, .ref (ad 0)), (1, .int (sI a1)), (2, .int (sI a2))] dX11_season_34 rfl (by decide) rfl ?_
      refine y_iconst C dX11_season_35 ?_
      refine j_istore C 4 [(4, .int (sI 0)), (3, .int (sI 0)), (0, .ref (ad 0)), (1, .int (sI a1)), (2, .int (sI a2))] dX11_season_36 (by decide) rfl ?_
      have L382 : ∀ (n380 : Nat), ∀ (a383 : Int) (a384 : Int) (M385 : mm_M), (0 ≤ a383 ∧ a383 ≤ 40 ∧ 0 ≤ a384 ∧ a384 ≤ 40 ∧ (a383 ≤ a384) ∧ (40 - a384) < (n380 : Int)) → INV pr Kz M385 → jj p l e (cn_R 6) s m args below meth c 0 0 Q 5 dC dI ad cA A M385 38 [(0, .ref (ad 0)), (2, .int (sI a2)), (3, .int (sI a383)), (4, .int (sI a384))] [] := by
        intro n380
        induction n380 with
        | zero =>
          intro a383 a384 M385 h386 hM385
          exfalso; omega
        | succ n380 ih381 =>
          intro a383 a384 M385 h386 hM385
          refine j_iload C 3 dX11_season_38 rfl ?_
          refine j_iload_n C 1 2 dX11_season_40 rfl rfl ?_
          refine y_icmp_ge C 83 dX11_season_41 (by decide) (by omega) (fun h387 => ?_) (fun h387 => ?_)
          · refine j_iload_n C 2 3 dX11_season_83 rfl rfl ?_
            refine y_if_ne C 101 dX11_season_84 (by decide) (by omega) (fun h400 => ?_) (fun h400 => ?_)
            · refine j_aload_n C 0 0 dX11_season_101 rfl rfl ?_
              refine y_getC C 10 18 fX11_season_46 rfl rfl ft_10_8 sm_10_8 rfl hM385 dX11_season_102 ?_
              refine j_aload_n C 0 0 dX11_season_105 rfl rfl ?_
              refine y_getC C 10 15 fX11_season_40 rfl rfl ft_10_7 sm_10_7 rfl hM385 dX11_season_106 ?_
              refine j_callVv C (d := 1) (As := [.ref (ad 15)]) (st := []) 18 (s_lt rfl rfl) (s_kc (c := 5) rfl rfl) (by decide) rfl (s1_X6_keep hM385 hpr hq8_0 rfl) gX11_season_X6_keep rfl hdX6_keep (by decide) (Nat.le_of_ble_eq_true rfl) dX11_season_109 rfl (fun M402 h403 => ?_)
              have hM402 := h403
              refine j_iload_n C 2 3 dX11_season_112 rfl rfl ?_
              exact hret _ _ _ _ dX11_season_113 ⟨a383, rfl, hM402, by omega⟩
            · refine j_aload_n C 0 0 dX11_season_87 rfl rfl ?_
              refine y_getC C 10 12 fX11_season_36 rfl rfl ft_10_6 sm_10_6 rfl hM385 dX11_season_88 ?_
              refine j_aload_n C 0 0 dX11_season_91 rfl rfl ?_
              refine y_getC C 10 15 fX11_season_40 rfl rfl ft_10_7 sm_10_7 rfl hM385 dX11_season_92 ?_
              refine j_callVv C (d := 0) (As := [.ref (ad 15)]) (st := []) 12 (s_lt rfl rfl) (s_kc (c := 8) rfl rfl) (by decide) rfl (s1_X9_copyFrom hM385 hpr hq8_0 rfl rfl) gX11_season_X9_copyFrom rfl hdX9_copyFrom (by decide) (Nat.le_of_ble_eq_true rfl) dX11_season_95 rfl (fun M406 h407 => ?_)
              have hM406 := h407
              refine j_goto C 112 dX11_season_98 (by decide) ?_
              refine j_iload_n C 2 3 dX11_season_112 rfl rfl ?_
              exact hret _ _ _ _ dX11_season_113 ⟨a383, rfl, hM406, by omega⟩
          · refine j_aload_n C 0 0 dX11_season_44 rfl rfl ?_
            refine y_getC C 10 87 fX11_season_85 rfl rfl ft_10_13 sm_10_13 rfl hM385 dX11_season_45 ?_
            refine j_aload_n C 0 0 dX11_season_48 rfl rfl ?_
            refine y_getM C 10 6 fX11_season_26 rfl rfl ft_10_4 sm_10_4 (by decide) hM385 dX11_season_49 (fun v388 ev388 cv388 => ?_)
            refine j_aload_n C 0 0 dX11_season_52 rfl rfl ?_
            refine y_getC C 10 12 fX11_season_36 rfl rfl ft_10_6 sm_10_6 rfl hM385 dX11_season_53 ?_
            refine j_aload_n C 0 0 dX11_season_56 rfl rfl ?_
            refine y_getC C 10 87 fX11_season_85 rfl rfl ft_10_13 sm_10_13 rfl hM385 dX11_season_57 ?_
            refine j_aload_n C 0 0 dX11_season_60 rfl rfl ?_
            refine y_getC C 10 12 fX11_season_36 rfl rfl ft_10_6 sm_10_6 rfl hM385 dX11_season_61 ?_
            refine j_callVi C (d := 1) (As := [.ref (ad 12)]) (st := [.ref (ad 12), .ref (ad v388), .ref (ad 87)]) 87 (s_lt rfl rfl) (s_kc (c := 1) rfl rfl) (by decide) rfl (s1_X1_drawDeed hM385 hpr rfl) gX11_season_X1_drawDeed rfl hdX1_drawDeed (by decide) (Nat.le_of_ble_eq_true rfl) dX11_season_64 rfl (fun r389 M390 h391 => ?_)
            obtain ⟨a393, rfl, hM390, h392⟩ := h391
            refine y_i2l C dX11_season_67 (by omega) ?_
            refine j_callVi C (d := 5) (As := [.ref (ad v388), .ref (ad 12), .long (sJ a393)]) (st := []) 87 (s_lt rfl rfl) (s_kc (c := 1) rfl rfl) (by decide) rfl (s1_X1_carryOut hM390 hpr cv388 rfl a393 (by omega)) gX11_season_X1_carryOut rfl hdX1_carryOut (by decide) (Nat.le_of_ble_eq_true rfl) dX11_season_68 rfl (fun r394 M395 h396 => ?_)
            obtain ⟨a398, rfl, hM395, h397⟩ := h396
            refine y_if_lt C 77 dX11_season_71 (by decide) (by omega) (fun h399 => ?_) (fun h399 => ?_)
            · refine y_iinc C 3 [(4, .int (sI (a384 + 1))), (0, .ref (ad 0)), (2, .int (sI a2)), (3, .int (sI a383))] dX11_season_77 rfl (by decide) rfl ?_
              refine j_goto C 38 dX11_season_80 (by decide) ?_
              refine j_lv [1, 2, 3, 0] rfl ?_; exact ih381 a383 (a384 + 1) M395 (by omega) hM395
            · refine y_iinc C 2 [(3, .int (sI (a383 + 1))), (0, .ref (ad 0)), (2, .int (sI a2)), (4, .int (sI a384))] dX11_season_74 rfl (by decide) rfl ?_
              refine y_iinc C 3 [(4, .int (sI (a384 + 1))), (3, .int (sI (a383 + 1))), (0, .ref (ad 0)), (2, .int (sI a2))] dX11_season_77 rfl (by decide) rfl ?_
              refine j_goto C 38 dX11_season_80 (by decide) ?_
              refine j_lv [2, 3, 1, 0] rfl ?_; exact ih381 (a383 + 1) (a384 + 1) M395 (by omega) hM395
      refine j_lv [2, 4, 1, 0] rfl ?_; exact L382 2010 0 0 M107 (by omega) hM107
    · refine y_bipush C dX11_season_11 rfl ?_
      exact hret _ _ _ _ dX11_season_13 ⟨(-3), rfl, hM0, by omega⟩
set_option maxHeartbeats 4000000 in
theorem s1_X5_aim {l : Launch} {dC : Nat → ClassId} {dI : Nat → Nat → Nat} {ad : Nat → Nat} {cA : Nat → ClassId} {pr : Nat → Nat → Bool} {Kz : mm_M} {M0 : mm_M} (hM0 : INV pr Kz M0) (hpr : PX pr) {v1 : Nat} (cv1 : s_c v1 = 6) {v2 : Nat} (cv2 : s_c v2 = 8) (a3 : Int) (ha3 : -2147483648 ≤ a3 ∧ a3 ≤ 2147483647) : Cv l 1 yX5_aim wsX5_aim dC dI ad cA [.ref (ad 88), .ref (ad v1), .ref (ad v2), .int (sI a3)] M0 (fun M' => INV pr Kz M') := by
  refine cv_of (cc := cX5_aim) (maxL := 4) (lv := [(0, .ref (ad 88)), (1, .ref (ad v1)), (2, .ref (ad v2)), (3, .int (sI a3))]) (by decide) rfl (Nat.le_of_ble_eq_true rfl) rfl ?_
  intro p e s m args below meth c A Q C hret
  refine j_aload_n C 0 0 dX5_aim_0 rfl rfl ?_
  refine j_aload_n C 1 1 dX5_aim_1 rfl rfl ?_
  refine y_putP C 4 6 qX5_aim_52 rfl rfl rfl rfl ft_4_9 sm_4_9 (by decide) hM0 (PX.w hpr rfl rfl) cv1 dX5_aim_2 (fun M101 eM101 hM101 => ?_)
  refine j_aload_n C 0 0 dX5_aim_5 rfl rfl ?_
  refine j_aload_n C 2 2 dX5_aim_6 rfl rfl ?_
  refine y_putP C 4 8 qX5_aim_56 rfl rfl rfl rfl ft_4_10 sm_4_10 (by decide) hM101 (PX.w hpr rfl rfl) cv2 dX5_aim_7 (fun M102 eM102 hM102 => ?_)
  refine j_aload_n C 0 0 dX5_aim_10 rfl rfl ?_
  refine j_aload_n C 0 0 dX5_aim_11 rfl rfl ?_
  refine y_getV C 4 v2 fX5_aim_56 rfl rfl ft_4_10 (s_pW eM102) dX5_aim_12 ?_
  refine j_callVi C (d := 0) (As := []) (st := [.ref (ad 88)]) v2 (s_lt cv2 rfl) (s_kc (c := 8) cv2 rfl) (by decide) rfl (s1_X9_everyKind hM102 cv2) gX5_aim_X9_everyKind rfl hdX9_everyKind (by decide) (Nat.le_of_ble_eq_true rfl) dX5_aim_15 rfl (fun r103 M104 h105 => ?_)
  obtain ⟨a107, rfl, rfl, h106⟩ := h105
  refine y_putI C 4 _ _ qX5_aim_38 rfl rfl ft_4_11 sb_4_11 hM102 (PX.w hpr rfl rfl) dX5_aim_18 (by omega) (fun M108 eM108 hM108 => ?_)
  refine j_aload_n C 0 0 dX5_aim_21 rfl rfl ?_
  refine j_aload_n C 0 0 dX5_aim_22 rfl rfl ?_
  refine y_getI C 4 _ _ fX5_aim_38 rfl rfl ft_4_11 sb_4_11 hM108 dX5_aim_23 (fun a109 ea109 la109 ua109 => ?_)
  refine j_iload_n C 3 3 dX5_aim_26 rfl rfl ?_
  refine y_iconst C dX5_aim_27 ?_
  refine y_not C dX5_aim_28 ?_
  refine y_iandL C dX5_aim_29 (by omega) (fun a111 la111 ua111 => ?_)
  refine y_putI C 4 _ _ qX5_aim_42 rfl rfl ft_4_12 sb_4_12 hM108 (PX.w hpr rfl rfl) dX5_aim_30 (by omega) (fun M112 eM112 hM112 => ?_)
  refine j_aload_n C 0 0 dX5_aim_33 rfl rfl ?_
  refine j_aload_n C 0 0 dX5_aim_34 rfl rfl ?_
  refine y_getV C 4 v2 fX5_aim_56 rfl rfl ft_4_10 (s_pI eM112 (s_pI eM108 (s_pW eM102))) dX5_aim_35 ?_
  refine y_getI C 8 _ _ fX5_aim_66 cv2 rfl ft_8_3 sb_8_3 hM112 dX5_aim_38 (fun a113 ea113 la113 ua113 => ?_)
  refine j_aload_n C 0 0 dX5_aim_41 rfl rfl ?_
  refine y_getI C 4 _ _ fX5_aim_38 rfl rfl ft_4_11 sb_4_11 hM112 dX5_aim_42 (fun a115 ea115 la115 ua115 => ?_)
  have qa115 : a115 = a109 := (s_fb eM112 (by decide) (ea115)).trans ea109.symm
  refine y_iandR C dX5_aim_45 (by omega) (fun a117 la117 ua117 => ?_)
  refine y_putI C 4 _ _ qX5_aim_45 rfl rfl ft_4_13 sb_4_13 hM112 (PX.w hpr rfl rfl) dX5_aim_46 (by omega) (fun M118 eM118 hM118 => ?_)
  refine j_aload_n C 0 0 dX5_aim_49 rfl rfl ?_
  refine y_getC C 4 81 fX5_aim_48 rfl rfl ft_4_0 sm_4_0 rfl hM118 dX5_aim_50 ?_
  refine j_aload_n C 0 0 dX5_aim_53 rfl rfl ?_
  refine y_getV C 4 v1 fX5_aim_52 rfl rfl ft_4_9 (s_pI eM118 (s_pI eM112 (s_pI eM108 (s_pP eM102 (by decide) (s_pW eM101))))) dX5_aim_54 ?_
  refine j_aload_n C 0 0 dX5_aim_57 rfl rfl ?_
  refine y_getV C 4 v2 fX5_aim_56 rfl rfl ft_4_10 (s_pI eM118 (s_pI eM112 (s_pI eM108 (s_pW eM102)))) dX5_aim_58 ?_
  refine j_callVv C (d := 0) (As := [.ref (ad v1), .ref (ad v2)]) (st := []) 81 (s_lt rfl rfl) (s_kc (c := 3) rfl rfl) (by decide) rfl (s1_X4_tune hM118 hpr cv1 cv2) gX5_aim_X4_tune rfl hdX4_tune (by decide) (Nat.le_of_ble_eq_true rfl) dX5_aim_61 rfl (fun M120 h121 => ?_)
  have hM120 := h121
  exact hret _ _ _ dX5_aim_64 hM120
set_option maxHeartbeats 4000000 in
theorem s2_J7_fill_53178 {l : Launch} {dC : Nat → ClassId} {dI : Nat → Nat → Nat} {ad : Nat → Nat} {cA : Nat → ClassId} {pr : Nat → Nat → Bool} {Kz : mm_M} {M0 : mm_M} (hM0 : INV pr Kz M0) (hpr : PX pr) (a1 : Int) (ha1 : -2147483648 ≤ a1 ∧ a1 ≤ 2147483647) : Cv l 0 yJ7_fill_53178 wsJ7_fill_53178 dC dI ad cA [.ref (ad 90), .int (sI a1)] M0 (fun M' => INV pr Kz M') := by
  refine cv_of (cc := cJ7_fill_53178) (maxL := 4) (lv := [(0, .ref (ad 90)), (1, .int (sI a1))]) (by decide) rfl (Nat.le_of_ble_eq_true rfl) rfl ?_
  intro p e s m args below meth c A Q C hret
  refine y_iconst C dJ7_fill_53178_0 ?_
  refine j_istore_n C 2 [(2, .int (sI 0)), (0, .ref (ad 90)), (1, .int (sI a1))] dJ7_fill_53178_1 rfl (by decide) rfl ?_
  refine j_aload_n C 1 0 dJ7_fill_53178_2 rfl rfl ?_
  refine y_alen C 39 256 rfl rfl rfl an_39 rfl rfl dJ7_fill_53178_3 ?_
  refine j_istore_n C 3 [(3, .int (sI 256)), (2, .int (sI 0)), (0, .ref (ad 90)), (1, .int (sI a1))] dJ7_fill_53178_4 rfl (by decide) rfl ?_
  have L211 : ∀ (n209 : Nat), ∀ (a212 : Int) (M213 : mm_M), (0 ≤ a212 ∧ a212 ≤ 256 ∧ (256 - a212) < (n209 : Int)) → INV pr Kz M213 → jj p l e (cn_R 0) s m args below meth c 0 0 Q 4 dC dI ad cA A M213 5 [(0, .ref (ad 90)), (1, .int (sI a1)), (2, .int (sI a212)), (3, .int (sI 256))] [] := by
    intro n209
    induction n209 with
    | zero =>
      intro a212 M213 h214 hM213
      exfalso; omega
    | succ n209 ih210 =>
      intro a212 M213 h214 hM213
      refine j_iload_n C 2 2 dJ7_fill_53178_5 rfl rfl ?_
      refine j_iload_n C 3 3 dJ7_fill_53178_6 rfl rfl ?_
      refine y_icmp_ge C 20 dJ7_fill_53178_7 (by decide) (by omega) (fun h215 => ?_) (fun h215 => ?_)
      · exact hret _ _ _ dJ7_fill_53178_20 hM213
      · refine j_aload_n C 0 0 dJ7_fill_53178_10 rfl rfl ?_
        refine j_iload_n C 2 2 dJ7_fill_53178_11 rfl rfl ?_
        refine j_iload_n C 1 1 dJ7_fill_53178_12 rfl rfl ?_
        refine y_iastF C 39 256 rfl rfl rfl ak_39 an_39 rfl (sb_39 _) hM213 (PX.w hpr rfl rfl) dJ7_fill_53178_13 (by omega) (fun M216 eM216 hM216 => ?_)
        refine y_iinc C 2 [(2, .int (sI (a212 + 1))), (0, .ref (ad 90)), (1, .int (sI a1)), (3, .int (sI 256))] dJ7_fill_53178_14 rfl (by decide) rfl ?_
        refine j_goto C 5 dJ7_fill_53178_17 (by decide) ?_
        refine j_lv [1, 2, 0, 3] rfl ?_; exact ih210 (a212 + 1) M216 (by omega) hM216
  refine j_lv [2, 3, 1, 0] rfl ?_; exact L211 2010 0 M0 (by omega) hM0
set_option maxHeartbeats 4000000 in
theorem s1_X5_meet {l : Launch} {dC : Nat → ClassId} {dI : Nat → Nat → Nat} {ad : Nat → Nat} {cA : Nat → ClassId} {pr : Nat → Nat → Bool} {Kz : mm_M} {M0 : mm_M} (hM0 : INV pr Kz M0) (hpr : PX pr) (a1 : Int) (ha1 : -2147483648 ≤ a1 ∧ a1 ≤ 2147483647) (a2 : Int) (ha2 : -2147483648 ≤ a2 ∧ a2 ≤ 2147483647) (hp0 : 0 ≤ a1 ∧ a1 ≤ 255) : Cv l 4 yX5_meet wsX5_meet dC dI ad cA [.ref (ad 88), .int (sI a1), .int (sI a2)] M0 (fun M' => INV pr Kz M') := by
  refine cv_of (cc := cX5_meet) (maxL := 5) (lv := [(0, .ref (ad 88)), (1, .int (sI a1)), (2, .int (sI a2))]) (by decide) rfl (Nat.le_of_ble_eq_true rfl) rfl ?_
  intro p e s m args below meth c A Q C hret
  refine j_aload_n C 0 0 dX5_meet_0 rfl rfl ?_
  refine y_getC C 4 90 fX5_meet_15 rfl rfl ft_4_2 sm_4_2 rfl hM0 dX5_meet_1 ?_
  refine j_iload_n C 1 1 dX5_meet_4 rfl rfl ?_
  refine y_iconst C dX5_meet_5 ?_
  refine y_iastF C 39 256 rfl rfl rfl ak_39 an_39 rfl (sb_39 _) hM0 (PX.w hpr rfl rfl) dX5_meet_6 (by omega) (fun M101 eM101 hM101 => ?_)
  refine y_iconst C dX5_meet_7 ?_
  refine j_istore_n C 3 [(3, .int (sI 0)), (0, .ref (ad 88)), (1, .int (sI a1)), (2, .int (sI a2))] dX5_meet_8 rfl (by decide) rfl ?_
  have L216 : ∀ (n214 : Nat), ∀ (a217 : Int) (M218 : mm_M), (0 ≤ a217 ∧ a217 ≤ 6 ∧ (6 - a217) < (n214 : Int)) → INV pr Kz M218 → jj p l e (cn_R 4) s m args below meth c 0 0 Q 5 dC dI ad cA A M218 9 [(0, .ref (ad 88)), (1, .int (sI a1)), (2, .int (sI a2)), (3, .int (sI a217))] [] := by
    intro n214
    induction n214 with
    | zero =>
      intro a217 M218 h219 hM218
      exfalso; omega
    | succ n214 ih215 =>
      intro a217 M218 h219 hM218
      refine j_iload_n C 3 3 dX5_meet_9 rfl rfl ?_
      refine j_aload_n C 0 0 dX5_meet_10 rfl rfl ?_
      refine y_getM C 4 6 fX5_meet_52 rfl rfl ft_4_9 sm_4_9 (by decide) hM218 dX5_meet_11 (fun v220 ev220 cv220 => ?_)
      refine y_getI C 6 _ _ fX5_meet_92 cv220 rfl ft_6_0 sb_6_0 hM218 dX5_meet_14 (fun a221 ea221 la221 ua221 => ?_)
      refine y_icmp_ge C 68 dX5_meet_17 (by decide) (by omega) (fun h223 => ?_) (fun h223 => ?_)
      · exact hret _ _ _ dX5_meet_68 hM218
      · refine j_aload_n C 0 0 dX5_meet_20 rfl rfl ?_
        refine y_getC C 4 81 fX5_meet_48 rfl rfl ft_4_0 sm_4_0 rfl hM218 dX5_meet_21 ?_
        refine j_iload_n C 3 3 dX5_meet_24 rfl rfl ?_
        refine j_iload_n C 1 1 dX5_meet_25 rfl rfl ?_
        refine j_iload_n C 2 2 dX5_meet_26 rfl rfl ?_
        refine j_callVi C (d := 3) (As := [.int (sI a217), .int (sI a1), .int (sI a2)]) (st := []) 81 (s_lt rfl rfl) (s_kc (c := 3) rfl rfl) (by decide) rfl (s1_X4_choice hM218 hpr a217 (by omega) a1 (by omega) a2 (by omega) (by omega)) gX5_meet_X4_choice rfl hdX4_choice (by decide) (Nat.le_of_ble_eq_true rfl) dX5_meet_27 rfl (fun r224 M225 h226 => ?_)
        obtain ⟨a228, rfl, hM225, h227⟩ := h226
        refine j_istore C 4 [(4, .int (sI a228)), (0, .ref (ad 88)), (1, .int (sI a1)), (2, .int (sI a2)), (3, .int (sI a217))] dX5_meet_30 (by decide) rfl ?_
        refine j_aload_n C 1 0 dX5_meet_32 rfl rfl ?_
        refine y_getC C 4 89 fX5_meet_9 rfl rfl ft_4_1 sm_4_1 rfl hM225 dX5_meet_33 ?_
        refine j_iload_n C 2 1 dX5_meet_36 rfl rfl ?_
        refine y_bipush C dX5_meet_37 rfl ?_
        refine y_imul C dX5_meet_39 ?_
        refine j_iload_n C 4 3 dX5_meet_40 rfl rfl ?_
        refine y_iadd C dX5_meet_41 ?_
        refine j_iload C 0 dX5_meet_42 rfl ?_
        refine y_iast C 38 1536 _ _ rfl rfl rfl ak_38 an_38 rfl (sb_38 _) hM225 (PX.w hpr rfl rfl) dX5_meet_44 (by omega) (by omega) (fun M229 eM229 hM229 => ?_)
        refine j_iload C 0 dX5_meet_45 rfl ?_
        refine y_if_lt C 62 dX5_meet_47 (by decide) (by omega) (fun h230 => ?_) (fun h230 => ?_)
        · refine y_iinc C 4 [(3, .int (sI (a217 + 1))), (4, .int (sI a228)), (0, .ref (ad 88)), (1, .int (sI a1)), (2, .int (sI a2))] dX5_meet_62 rfl (by decide) rfl ?_
          refine j_goto C 9 dX5_meet_65 (by decide) ?_
          refine j_lv [2, 3, 4, 0] rfl ?_; exact ih215 (a217 + 1) M229 (by omega) hM229
        · refine j_aload_n C 1 0 dX5_meet_50 rfl rfl ?_
          refine y_getC C 4 90 fX5_meet_15 rfl rfl ft_4_2 sm_4_2 rfl hM229 dX5_meet_51 ?_
          refine j_iload_n C 2 1 dX5_meet_54 rfl rfl ?_
          refine y_iconst C dX5_meet_55 ?_
          refine j_iload C 0 dX5_meet_56 rfl ?_
          refine y_shl1 C 7 128 dX5_meet_58 rfl (by decide) (by omega) (fun a231 la231 ua231 => ?_)
          refine y_iorN C 8 255 dX5_meet_59 rfl (by decide) (by omega) (fun a232 la232 ua232 => ?_)
          refine y_iconst C dX5_meet_60 ?_
          refine y_iastF C 39 256 rfl rfl rfl ak_39 an_39 rfl (sb_39 _) hM229 (PX.w hpr rfl rfl) dX5_meet_61 (by omega) (fun M233 eM233 hM233 => ?_)
          refine y_iinc C 4 [(3, .int (sI (a217 + 1))), (4, .int (sI a228)), (0, .ref (ad 88)), (1, .int (sI a1)), (2, .int (sI a2))] dX5_meet_62 rfl (by decide) rfl ?_
          refine j_goto C 9 dX5_meet_65 (by decide) ?_
          refine j_lv [2, 3, 4, 0] rfl ?_; exact ih215 (a217 + 1) M233 (by omega) hM233
  refine j_lv [1, 2, 3, 0] rfl ?_; exact L216 2010 0 M101 (by omega) hM101
set_option maxHeartbeats 4000000 in
theorem s1_X5_look {l : Launch} {dC : Nat → ClassId} {dI : Nat → Nat → Nat} {ad : Nat → Nat} {cA : Nat → ClassId} {pr : Nat → Nat → Bool} {Kz : mm_M} {M0 : mm_M} (hM0 : INV pr Kz M0) (hpr : PX pr) {v1 : Nat} (cv1 : s_c v1 = 6) {v2 : Nat} (cv2 : s_c v2 = 8) (a3 : Int) (ha3 : -2147483648 ≤ a3 ∧ a3 ≤ 2147483647) : Cv l 5 yX5_look wsX5_look dC dI ad cA [.ref (ad 88), .ref (ad v1), .ref (ad v2), .int (sI a3)] M0 (fun M' => INV pr Kz M') := by
  refine cv_of (cc := cX5_look) (maxL := 5) (lv := [(0, .ref (ad 88)), (1, .ref (ad v1)), (2, .ref (ad v2)), (3, .int (sI a3))]) (by decide) rfl (Nat.le_of_ble_eq_true rfl) rfl ?_
  intro p e s m args below meth c A Q C hret
  refine j_aload_n C 0 0 dX5_look_0 rfl rfl ?_
  refine j_aload_n C 1 1 dX5_look_1 rfl rfl ?_
  refine j_aload_n C 2 2 dX5_look_2 rfl rfl ?_
  refine j_iload_n C 3 3 dX5_look_3 rfl rfl ?_
  refine j_callVv C (d := 1) (As := [.ref (ad v1), .ref (ad v2), .int (sI a3)]) (st := []) 88 (s_lt rfl rfl) (s_kc (c := 4) rfl rfl) (by decide) rfl (s1_X5_aim hM0 hpr cv1 cv2 a3 (by omega)) gX5_look_X5_aim rfl hdX5_aim (by decide) (Nat.le_of_ble_eq_true rfl) dX5_look_4 rfl (fun M102 h103 => ?_)
  have hM102 := h103
  refine j_aload_n C 0 0 dX5_look_7 rfl rfl ?_
  refine y_getC C 4 90 fX5_look_15 rfl rfl ft_4_2 sm_4_2 rfl hM102 dX5_look_8 ?_
  refine y_iconst C dX5_look_11 ?_
  refine j_callSv C (d := 0) (As := [.ref (ad 90), .int (sI 0)]) (st := []) (s2_J7_fill_53178 hM102 hpr 0 (by omega)) gX5_look_J7_fill_53178 rfl hdJ7_fill_53178s (by decide) (Nat.le_of_ble_eq_true rfl) dX5_look_12 rfl (fun M106 h107 => ?_)
  have hM106 := h107
  refine j_aload_n C 0 0 dX5_look_15 rfl rfl ?_
  refine y_getC C 4 90 fX5_look_15 rfl rfl ft_4_2 sm_4_2 rfl hM106 dX5_look_16 ?_
  refine j_aload_n C 0 0 dX5_look_19 rfl rfl ?_
  refine y_getI C 4 _ _ fX5_look_45 rfl rfl ft_4_13 sb_4_13 hM106 dX5_look_20 (fun a109 ea109 la109 ua109 => ?_)
  refine y_iconst C dX5_look_23 ?_
  refine y_iastF C 39 256 rfl rfl rfl ak_39 an_39 rfl (sb_39 _) hM106 (PX.w hpr rfl rfl) dX5_look_24 (by omega) (fun M111 eM111 hM111 => ?_)
  refine j_aload_n C 0 0 dX5_look_25 rfl rfl ?_
  refine y_getI C 4 _ _ fX5_look_45 rfl rfl ft_4_13 sb_4_13 hM111 dX5_look_26 (fun a112 ea112 la112 ua112 => ?_)
  have qa112 : a112 = a109 := (s_fa eM111 (by decide) (ea112)).trans ea109.symm
  refine j_istore C 4 [(4, .int (sI a112)), (0, .ref (ad 88)), (1, .ref (ad v1)), (2, .ref (ad v2)), (3, .int (sI a3))] dX5_look_29 (by decide) rfl ?_
  have L138 : ∀ (n136 : Nat), ∀ (a139 : Int) (M140 : mm_M), (0 ≤ a139 ∧ a139 ≤ 256 ∧ (256 - a139) < (n136 : Int)) → INV pr Kz M140 → jj p l e (cn_R 5) s m args below meth c 0 0 Q 5 dC dI ad cA A M140 31 [(0, .ref (ad 88)), (3, .int (sI a3)), (4, .int (sI a139))] [] := by
    intro n136
    induction n136 with
    | zero =>
      intro a139 M140 h141 hM140
      exfalso; omega
    | succ n136 ih137 =>
      intro a139 M140 h141 hM140
      refine j_iload C 2 dX5_look_31 rfl ?_
      refine j_aload_n C 0 0 dX5_look_33 rfl rfl ?_
      refine y_getI C 4 _ _ fX5_look_38 rfl rfl ft_4_11 sb_4_11 hM140 dX5_look_34 (fun a142 ea142 la142 ua142 => ?_)
      refine y_icmp_gt C 64 dX5_look_37 (by decide) (by omega) (fun h144 => ?_) (fun h144 => ?_)
      · exact hret _ _ _ dX5_look_64 hM140
      · refine j_aload_n C 0 0 dX5_look_40 rfl rfl ?_
        refine y_getC C 4 90 fX5_look_15 rfl rfl ft_4_2 sm_4_2 rfl hM140 dX5_look_41 ?_
        refine j_iload C 2 dX5_look_44 rfl ?_
        refine y_iald C 39 256 _ _ rfl rfl rfl ak_39 an_39 rfl (sb_39 _) hM140 dX5_look_46 (by omega) (fun a145 ea145 la145 ua145 => ?_)
        refine y_iconst C dX5_look_47 ?_
        refine y_icmp_ne C 58 dX5_look_48 (by decide) (by omega) (fun h146 => ?_) (fun h146 => ?_)
        · refine y_iinc C 2 [(4, .int (sI (a139 + 1))), (0, .ref (ad 88)), (3, .int (sI a3))] dX5_look_58 rfl (by decide) rfl ?_
          refine j_goto C 31 dX5_look_61 (by decide) ?_
          refine j_lv [1, 2, 0] rfl ?_; exact ih137 (a139 + 1) M140 (by omega) hM140
        · refine j_aload_n C 0 0 dX5_look_51 rfl rfl ?_
          refine j_iload C 2 dX5_look_52 rfl ?_
          refine j_iload_n C 1 3 dX5_look_54 rfl rfl ?_
          refine j_callVv C (d := 4) (As := [.int (sI a139), .int (sI a3)]) (st := []) 88 (s_lt rfl rfl) (s_kc (c := 4) rfl rfl) (by decide) rfl (s1_X5_meet hM140 hpr a139 (by omega) a3 (by omega) (by omega)) gX5_look_X5_meet rfl hdX5_meet (by decide) (Nat.le_of_ble_eq_true rfl) dX5_look_55 rfl (fun M148 h149 => ?_)
          have hM148 := h149
          refine y_iinc C 2 [(4, .int (sI (a139 + 1))), (0, .ref (ad 88)), (3, .int (sI a3))] dX5_look_58 rfl (by decide) rfl ?_
          refine j_goto C 31 dX5_look_61 (by decide) ?_
          refine j_lv [1, 2, 0] rfl ?_; exact ih137 (a139 + 1) M148 (by omega) hM148
  refine j_lv [1, 4, 0] rfl ?_; exact L138 2010 a112 M111 (by omega) hM111
set_option maxHeartbeats 4000000 in
theorem s1_X5_isShutAt {l : Launch} {dC : Nat → ClassId} {dI : Nat → Nat → Nat} {ad : Nat → Nat} {cA : Nat → ClassId} {pr : Nat → Nat → Bool} {Kz : mm_M} {M0 : mm_M} (hM0 : INV pr Kz M0) (a1 : Int) (ha1 : -2147483648 ≤ a1 ∧ a1 ≤ 2147483647) : Ci l 0 yX5_isShutAt wsX5_isShutAt dC dI ad cA [.ref (ad 88), .int (sI a1)] M0 (fun r M' => ∃ a : Int, r = sI a ∧ M0 = M' ∧ 0 ≤ a ∧ a ≤ 1 ∧ ((a = 0) ∨ (a = 1))) := by
  refine ci_of (cc := cX5_isShutAt) (maxL := 2) (ty := .boolean) (lv := [(0, .ref (ad 88)), (1, .int (sI a1))]) (by decide) rfl (fun r M' hp => by obtain ⟨a, rfl, -, h⟩ := hp; rcases (show a = 0 ∨ a = 1 by omega) with rfl | rfl <;> rfl) (Nat.le_of_ble_eq_true rfl) rfl ?_
  intro p e s m args below meth c A Q C hret
  refine j_aload_n C 0 0 dX5_isShutAt_0 rfl rfl ?_
  refine y_getI C 4 _ _ fX5_isShutAt_42 rfl rfl ft_4_12 sb_4_12 hM0 dX5_isShutAt_1 (fun a101 ea101 la101 ua101 => ?_)
  refine j_iload_n C 1 1 dX5_isShutAt_4 rfl rfl ?_
  refine y_iconst C dX5_isShutAt_5 ?_
  refine y_not C dX5_isShutAt_6 ?_
  refine y_iandL C dX5_isShutAt_7 (by omega) (fun a103 la103 ua103 => ?_)
  refine y_if_ne C 15 dX5_isShutAt_8 (by decide) (by omega) (fun h104 => ?_) (fun h104 => ?_)
  · refine y_iconst C dX5_isShutAt_15 ?_
    exact hret _ _ _ _ dX5_isShutAt_16 ⟨0, rfl, rfl, by omega⟩
  · refine y_iconst C dX5_isShutAt_11 ?_
    refine j_goto C 16 dX5_isShutAt_12 (by decide) ?_
    exact hret _ _ _ _ dX5_isShutAt_16 ⟨1, rfl, rfl, by omega⟩
set_option maxHeartbeats 4000000 in
theorem s1_X5_pick {l : Launch} {dC : Nat → ClassId} {dI : Nat → Nat → Nat} {ad : Nat → Nat} {cA : Nat → ClassId} {pr : Nat → Nat → Bool} {Kz : mm_M} {M0 : mm_M} (hM0 : INV pr Kz M0) (a1 : Int) (ha1 : -2147483648 ≤ a1 ∧ a1 ≤ 2147483647) (a2 : Int) (ha2 : -2147483648 ≤ a2 ∧ a2 ≤ 2147483647) : Ci l 0 yX5_pick wsX5_pick dC dI ad cA [.ref (ad 88), .int (sI a1), .int (sI a2)] M0 (fun r M' => ∃ a : Int, r = sI a ∧ M0 = M' ∧ (-1) ≤ a ∧ a ≤ 7 ∧ ((a = (-1)) ∨ ((-1) ≤ a ∧ a ≤ 7))) := by
  refine ci_of (cc := cX5_pick) (maxL := 4) (ty := .int) (lv := [(0, .ref (ad 88)), (1, .int (sI a1)), (2, .int (sI a2))]) (by decide) rfl (fun r M' hp => rfl) (Nat.le_of_ble_eq_true rfl) rfl ?_
  intro p e s m args below meth c A Q C hret
  refine j_iload_n C 1 1 dX5_pick_0 rfl rfl ?_
  refine y_bipush C dX5_pick_1 rfl ?_
  refine y_imul0 C dX5_pick_3 (fun a101 la101 ua101 => ?_)
  refine j_iload_n C 2 2 dX5_pick_4 rfl rfl ?_
  refine y_iadd0 C dX5_pick_5 (fun a102 la102 ua102 => ?_)
  refine j_istore_n C 3 [(3, .int (sI a102)), (0, .ref (ad 88)), (1, .int (sI a1)), (2, .int (sI a2))] dX5_pick_6 rfl (by decide) rfl ?_
  refine j_iload_n C 0 3 dX5_pick_7 rfl rfl ?_
  refine y_if_lt C 29 dX5_pick_8 (by decide) (by omega) (fun h103 => ?_) (fun h103 => ?_)
  · refine y_iconst C dX5_pick_29 ?_
    exact hret _ _ _ _ dX5_pick_30 ⟨(-1), rfl, rfl, by omega⟩
  · refine j_iload_n C 0 3 dX5_pick_11 rfl rfl ?_
    refine j_aload_n C 1 0 dX5_pick_12 rfl rfl ?_
    refine y_getC C 4 89 fX5_pick_9 rfl rfl ft_4_1 sm_4_1 rfl hM0 dX5_pick_13 ?_
    refine y_alen C 38 1536 rfl rfl rfl an_38 rfl rfl dX5_pick_16 ?_
    refine y_icmp_ge C 29 dX5_pick_17 (by decide) (by omega) (fun h104 => ?_) (fun h104 => ?_)
    · refine y_iconst C dX5_pick_29 ?_
      exact hret _ _ _ _ dX5_pick_30 ⟨(-1), rfl, rfl, by omega⟩
    · refine j_aload_n C 1 0 dX5_pick_20 rfl rfl ?_
      refine y_getC C 4 89 fX5_pick_9 rfl rfl ft_4_1 sm_4_1 rfl hM0 dX5_pick_21 ?_
      refine j_iload_n C 0 3 dX5_pick_24 rfl rfl ?_
      refine y_iald C 38 1536 _ _ rfl rfl rfl ak_38 an_38 rfl (sb_38 _) hM0 dX5_pick_25 (by omega) (fun a105 ea105 la105 ua105 => ?_)
      refine j_goto C 30 dX5_pick_26 (by decide) ?_
      exact hret _ _ _ _ dX5_pick_30 ⟨a105, rfl, rfl, by omega⟩
set_option maxHeartbeats 4000000 in
theorem s1_X5_stepsFrom {l : Launch} {dC : Nat → ClassId} {dI : Nat → Nat → Nat} {ad : Nat → Nat} {cA : Nat → ClassId} {pr : Nat → Nat → Bool} {Kz : mm_M} {M0 : mm_M} (hM0 : INV pr Kz M0) (a1 : Int) (ha1 : -2147483648 ≤ a1 ∧ a1 ≤ 2147483647) (a2 : Int) (ha2 : -2147483648 ≤ a2 ∧ a2 ≤ 2147483647) (hp0 : 0 ≤ a1 ∧ a1 ≤ 255) : Ci l 1 yX5_stepsFrom wsX5_stepsFrom dC dI ad cA [.ref (ad 88), .int (sI a1), .int (sI a2)] M0 (fun r M' => ∃ a : Int, r = sI a ∧ M0 = M' ∧ (-2147483648) ≤ a ∧ a ≤ 2147483647) := by
  refine ci_of (cc := cX5_stepsFrom) (maxL := 7) (ty := .int) (lv := [(0, .ref (ad 88)), (1, .int (sI a1)), (2, .int (sI a2))]) (by decide) rfl (fun r M' hp => rfl) (Nat.le_of_ble_eq_true rfl) rfl ?_
  intro p e s m args below meth c A Q C hret
  refine y_iconst C dX5_stepsFrom_0 ?_
  refine j_istore_n C 3 [(3, .int (sI (-1))), (0, .ref (ad 88)), (1, .int (sI a1)), (2, .int (sI a2))] dX5_stepsFrom_1 rfl (by decide) rfl ?_
  refine y_iconst C dX5_stepsFrom_2 ?_
  refine j_istore C 4 [(4, .int (sI 0)), (3, .int (sI (-1))), (0, .ref (ad 88)), (1, .int (sI a1)), (2, .int (sI a2))] dX5_stepsFrom_3 (by decide) rfl ?_
  have L289 : ∀ (n287 : Nat), ∀ (a290 : Int) (a291 : Int), ((-2147483648) ≤ a290 ∧ a290 ≤ 2147483647 ∧ 0 ≤ a291 ∧ a291 ≤ 6 ∧ (6 - a291) < (n287 : Int)) → jj p l e (cn_R 1) s m args below meth c 0 0 Q 7 dC dI ad cA A M0 5 [(0, .ref (ad 88)), (1, .int (sI a1)), (2, .int (sI a2)), (3, .int (sI a290)), (4, .int (sI a291))] [] := by
    intro n287
    induction n287 with
    | zero =>
      intro a290 a291 h292
      exfalso; omega
    | succ n287 ih288 =>
      intro a290 a291 h292
      refine j_iload C 4 dX5_stepsFrom_5 rfl ?_
      refine j_aload_n C 0 0 dX5_stepsFrom_7 rfl rfl ?_
      refine y_getM C 4 6 fX5_stepsFrom_52 rfl rfl ft_4_9 sm_4_9 (by decide) hM0 dX5_stepsFrom_8 (fun v293 ev293 cv293 => ?_)
      refine y_getI C 6 _ _ fX5_stepsFrom_92 cv293 rfl ft_6_0 sb_6_0 hM0 dX5_stepsFrom_11 (fun a294 ea294 la294 ua294 => ?_)
      refine y_icmp_ge C 92 dX5_stepsFrom_14 (by decide) (by omega) (fun h296 => ?_) (fun h296 => ?_)
      · refine j_iload_n C 3 3 dX5_stepsFrom_92 rfl rfl ?_
        exact hret _ _ _ _ dX5_stepsFrom_93 ⟨a290, rfl, rfl, by omega⟩
      · refine j_aload_n C 0 0 dX5_stepsFrom_17 rfl rfl ?_
        refine j_iload_n C 1 1 dX5_stepsFrom_18 rfl rfl ?_
        refine j_iload C 4 dX5_stepsFrom_19 rfl ?_
        refine j_callVi C (d := 0) (As := [.int (sI a1), .int (sI a291)]) (st := []) 88 (s_lt rfl rfl) (s_kc (c := 4) rfl rfl) (by decide) rfl (s1_X5_pick hM0 a1 (by omega) a291 (by omega)) gX5_stepsFrom_X5_pick rfl hdX5_pick (by decide) (Nat.le_of_ble_eq_true rfl) dX5_stepsFrom_21 rfl (fun r297 M298 h299 => ?_)
        obtain ⟨a301, rfl, rfl, h300⟩ := h299
        refine j_istore C 5 [(5, .int (sI a301)), (0, .ref (ad 88)), (1, .int (sI a1)), (2, .int (sI a2)), (3, .int (sI a290)), (4, .int (sI a291))] dX5_stepsFrom_24 (by decide) rfl ?_
        refine j_iload_n C 3 2 dX5_stepsFrom_26 rfl rfl ?_
        refine j_iload C 5 dX5_stepsFrom_27 rfl ?_
        refine y_ishr0 C dX5_stepsFrom_29 (fun a302 la302 ua302 => ?_)
        refine y_iconst C dX5_stepsFrom_30 ?_
        refine y_iandR C dX5_stepsFrom_31 (by omega) (fun a303 la303 ua303 => ?_)
        refine y_iconst C dX5_stepsFrom_32 ?_
        refine y_icmp_ne C 86 dX5_stepsFrom_33 (by decide) (by omega) (fun h304 => ?_) (fun h304 => ?_)
        · refine y_iinc C 5 [(4, .int (sI (a291 + 1))), (5, .int (sI a301)), (0, .ref (ad 88)), (1, .int (sI a1)), (2, .int (sI a2)), (3, .int (sI a290))] dX5_stepsFrom_86 rfl (by decide) rfl ?_
          refine j_goto C 5 dX5_stepsFrom_89 (by decide) ?_
          refine j_lv [2, 3, 4, 5, 0] rfl ?_; exact ih288 a290 (a291 + 1) (by omega)
        · refine j_iload C 0 dX5_stepsFrom_36 rfl ?_
          refine y_if_lt C 86 dX5_stepsFrom_38 (by decide) (by omega) (fun h305 => ?_) (fun h305 => ?_)
          · refine y_iinc C 5 [(4, .int (sI (a291 + 1))), (5, .int (sI a301)), (0, .ref (ad 88)), (1, .int (sI a1)), (2, .int (sI a2)), (3, .int (sI a290))] dX5_stepsFrom_86 rfl (by decide) rfl ?_
            refine j_goto C 5 dX5_stepsFrom_89 (by decide) ?_
            refine j_lv [2, 3, 4, 5, 0] rfl ?_; exact ih288 a290 (a291 + 1) (by omega)
          · refine j_iload_n C 2 1 dX5_stepsFrom_41 rfl rfl ?_
            refine j_iload C 0 dX5_stepsFrom_42 rfl ?_
            refine y_ishrP C dX5_stepsFrom_44 (by omega) (fun a306 la306 ua306 => ?_)
            refine y_iconst C dX5_stepsFrom_45 ?_
            refine y_iandR C dX5_stepsFrom_46 (by omega) (fun a307 la307 ua307 => ?_)
            refine y_if_ne C 86 dX5_stepsFrom_47 (by decide) (by omega) (fun h308 => ?_) (fun h308 => ?_)
            · refine y_iinc C 5 [(4, .int (sI (a291 + 1))), (5, .int (sI a301)), (0, .ref (ad 88)), (1, .int (sI a1)), (2, .int (sI a2)), (3, .int (sI a290))] dX5_stepsFrom_86 rfl (by decide) rfl ?_
              refine j_goto C 5 dX5_stepsFrom_89 (by decide) ?_
              refine j_lv [2, 3, 4, 5, 0] rfl ?_; exact ih288 a290 (a291 + 1) (by omega)
            · refine j_aload_n C 1 0 dX5_stepsFrom_50 rfl rfl ?_
              refine y_getC C 4 91 fX5_stepsFrom_18 rfl rfl ft_4_3 sm_4_3 rfl hM0 dX5_stepsFrom_51 ?_
              refine j_iload_n C 2 1 dX5_stepsFrom_54 rfl rfl ?_
              refine y_iconst C dX5_stepsFrom_55 ?_
              refine j_iload C 0 dX5_stepsFrom_56 rfl ?_
              refine y_shl1 C 7 128 dX5_stepsFrom_58 rfl (by decide) (by omega) (fun a309 la309 ua309 => ?_)
              refine y_iorN C 8 255 dX5_stepsFrom_59 rfl (by decide) (by omega) (fun a310 la310 ua310 => ?_)
              refine y_iald C 40 256 _ _ rfl rfl rfl ak_40 an_40 rfl (sb_40 _) hM0 dX5_stepsFrom_60 (by omega) (fun a311 ea311 la311 ua311 => ?_)
              refine j_istore C 6 [(6, .int (sI a311)), (5, .int (sI a301)), (0, .ref (ad 88)), (1, .int (sI a1)), (2, .int (sI a2)), (3, .int (sI a290)), (4, .int (sI a291))] dX5_stepsFrom_61 (by decide) rfl ?_
              refine j_iload C 0 dX5_stepsFrom_63 rfl ?_
              refine y_if_lt C 86 dX5_stepsFrom_65 (by decide) (by omega) (fun h312 => ?_) (fun h312 => ?_)
              · refine y_iinc C 6 [(4, .int (sI (a291 + 1))), (6, .int (sI a311)), (5, .int (sI a301)), (0, .ref (ad 88)), (1, .int (sI a1)), (2, .int (sI a2)), (3, .int (sI a290))] dX5_stepsFrom_86 rfl (by decide) rfl ?_
                refine j_goto C 5 dX5_stepsFrom_89 (by decide) ?_
                refine j_lv [3, 4, 5, 6, 0] rfl ?_; exact ih288 a290 (a291 + 1) (by omega)
              · refine j_iload_n C 5 3 dX5_stepsFrom_68 rfl rfl ?_
                refine y_iconst C dX5_stepsFrom_69 ?_
                refine y_icmp_eq C 81 dX5_stepsFrom_70 (by decide) (by omega) (fun h313 => ?_) (fun h313 => ?_)
                · refine j_iload C 0 dX5_stepsFrom_81 rfl ?_
                  refine y_iconst C dX5_stepsFrom_83 ?_
                  refine y_iadd0 C dX5_stepsFrom_84 (fun a314 la314 ua314 => ?_)
                  refine j_istore_n C 3 [(3, .int (sI a314)), (6, .int (sI a311)), (5, .int (sI a301)), (0, .ref (ad 88)), (1, .int (sI a1)), (2, .int (sI a2)), (4, .int (sI a291))] dX5_stepsFrom_85 rfl (by decide) rfl ?_
                  refine y_iinc C 6 [(4, .int (sI (a291 + 1))), (3, .int (sI a314)), (6, .int (sI a311)), (5, .int (sI a301)), (0, .ref (ad 88)), (1, .int (sI a1)), (2, .int (sI a2))] dX5_stepsFrom_86 rfl (by decide) rfl ?_
                  refine j_goto C 5 dX5_stepsFrom_89 (by decide) ?_
                  refine j_lv [4, 5, 6, 1, 0] rfl ?_; exact ih288 a314 (a291 + 1) (by omega)
                · refine j_iload C 0 dX5_stepsFrom_73 rfl ?_
                  refine y_iconst C dX5_stepsFrom_75 ?_
                  refine y_iadd0 C dX5_stepsFrom_76 (fun a315 la315 ua315 => ?_)
                  refine j_iload_n C 5 3 dX5_stepsFrom_77 rfl rfl ?_
                  refine y_icmp_ge C 86 dX5_stepsFrom_78 (by decide) (by omega) (fun h316 => ?_) (fun h316 => ?_)
                  · refine y_iinc C 6 [(4, .int (sI (a291 + 1))), (6, .int (sI a311)), (5, .int (sI a301)), (0, .ref (ad 88)), (1, .int (sI a1)), (2, .int (sI a2)), (3, .int (sI a290))] dX5_stepsFrom_86 rfl (by decide) rfl ?_
                    refine j_goto C 5 dX5_stepsFrom_89 (by decide) ?_
                    refine j_lv [3, 4, 5, 6, 0] rfl ?_; exact ih288 a290 (a291 + 1) (by omega)
                  · refine j_iload C 0 dX5_stepsFrom_81 rfl ?_
                    refine y_iconst C dX5_stepsFrom_83 ?_
                    refine y_iadd0 C dX5_stepsFrom_84 (fun a317 la317 ua317 => ?_)
                    refine j_istore_n C 3 [(3, .int (sI a317)), (6, .int (sI a311)), (5, .int (sI a301)), (0, .ref (ad 88)), (1, .int (sI a1)), (2, .int (sI a2)), (4, .int (sI a291))] dX5_stepsFrom_85 rfl (by decide) rfl ?_
                    refine y_iinc C 6 [(4, .int (sI (a291 + 1))), (3, .int (sI a317)), (6, .int (sI a311)), (5, .int (sI a301)), (0, .ref (ad 88)), (1, .int (sI a1)), (2, .int (sI a2))] dX5_stepsFrom_86 rfl (by decide) rfl ?_
                    refine j_goto C 5 dX5_stepsFrom_89 (by decide) ?_
                    refine j_lv [4, 5, 6, 1, 0] rfl ?_; exact ih288 a317 (a291 + 1) (by omega)
  refine j_lv [2, 3, 4, 1, 0] rfl ?_; exact L289 4294967306 (-1) 0 (by omega)
