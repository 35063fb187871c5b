set_option maxHeartbeats 4000000 in
theorem s2_X9_holds {l : Launch} {dC : Nat → ClassId} {dI : Nat → Nat → Nat} {ad : Nat → Nat} {cA : Nat → ClassId} {pr : Nat → Nat → Bool} {Kz : mm_M} {M0 : mm_M} (hM0 : INV pr Kz M0) (a1 : Int) (ha1 : -2147483648 ≤ a1 ∧ a1 ≤ 2147483647) : Ci l 0 yX9_holds wsX9_holds dC dI ad cA [.ref (ad 12), .int (sI a1)] M0 (fun r M' => ∃ a : Int, r = sI a ∧ M0 = M' ∧ 0 ≤ a ∧ a ≤ 1 ∧ ((a1 < 0 ∧ a = 0) ∨ (0 ≤ (M0.1 12 0).toInt ∧ (M0.1 12 0).toInt ≤ 8 ∧ 0 ≤ a1 ∧ (M0.1 12 0).toInt ≤ a1 ∧ a = 0) ∨ (1 ≤ (M0.1 12 0).toInt ∧ (M0.1 12 0).toInt ≤ 8 ∧ 0 ≤ a1 ∧ a1 < (M0.1 12 0).toInt ∧ a = 1))) := by
  refine ci_of (cc := cX9_holds) (maxL := 2) (ty := .boolean) (lv := [(0, .ref (ad 12)), (1, .int (sI a1))]) (by decide) rfl (fun r M' hp => by obtain ⟨a, rfl, -, h⟩ := hp; rcases (show a = 0 ∨ a = 1 by omega) with rfl | rfl <;> rfl) (Nat.le_of_ble_eq_true rfl) rfl ?_
  intro p e s m args below meth c A Q C hret
  refine j_iload_n C 1 1 dX9_holds_0 rfl rfl ?_
  refine y_if_lt C 16 dX9_holds_1 (by decide) (by omega) (fun h101 => ?_) (fun h101 => ?_)
  · refine y_iconst C dX9_holds_16 ?_
    exact hret _ _ _ _ dX9_holds_17 ⟨0, rfl, rfl, by omega⟩
  · refine j_iload_n C 1 1 dX9_holds_4 rfl rfl ?_
    refine j_aload_n C 0 0 dX9_holds_5 rfl rfl ?_
    refine y_getI C 8 _ _ fX9_holds_9 rfl rfl ft_8_0 sb_8_0 hM0 dX9_holds_6 (fun a102 ea102 la102 ua102 => ?_)
    obtain rfl : a102 = (M0.1 12 0).toInt := ea102
    refine y_icmp_ge C 16 dX9_holds_9 (by decide) (by omega) (fun h104 => ?_) (fun h104 => ?_)
    · refine y_iconst C dX9_holds_16 ?_
      exact hret _ _ _ _ dX9_holds_17 ⟨0, rfl, rfl, by omega⟩
    · refine y_iconst C dX9_holds_12 ?_
      refine j_goto C 17 dX9_holds_13 (by decide) ?_
      exact hret _ _ _ _ dX9_holds_17 ⟨1, rfl, rfl, by omega⟩
set_option maxHeartbeats 4000000 in
theorem s2_X9_everyKind {l : Launch} {dC : Nat → ClassId} {dI : Nat → Nat → Nat} {ad : Nat → Nat} {cA : Nat → ClassId} {pr : Nat → Nat → Bool} {Kz : mm_M} {M0 : mm_M} (hM0 : INV pr Kz M0)  : Ci l 0 yX9_everyKind wsX9_everyKind dC dI ad cA [.ref (ad 12)] M0 (fun r M' => ∃ a : Int, r = sI a ∧ M0 = M' ∧ 0 ≤ a ∧ a ≤ 255 ∧ (a = (pw2 (M0.1 12 0).toInt - 1))) := by
  refine ci_of (cc := cX9_everyKind) (maxL := 1) (ty := .int) (lv := [(0, .ref (ad 12))]) (by decide) rfl (fun r M' hp => rfl) (Nat.le_of_ble_eq_true rfl) rfl ?_
  intro p e s m args below meth c A Q C hret
  refine y_iconst C dX9_everyKind_0 ?_
  refine j_aload_n C 0 0 dX9_everyKind_1 rfl rfl ?_
  refine y_getI C 8 _ _ fX9_everyKind_9 rfl rfl ft_8_0 sb_8_0 hM0 dX9_everyKind_2 (fun a101 ea101 la101 ua101 => ?_)
  obtain rfl : a101 = (M0.1 12 0).toInt := ea101
  refine e_shl1 C 8 256 dX9_everyKind_5 rfl (by decide) (by omega) (fun lb103 ub103 => ?_)
  refine y_iconst C dX9_everyKind_6 ?_
  refine y_isub C dX9_everyKind_7 ?_
  exact hret _ _ _ _ dX9_everyKind_8 ⟨((pw2 (M0.1 12 0).toInt) - 1), rfl, rfl, by omega⟩
set_option maxHeartbeats 4000000 in
theorem s2_X9_isShut {l : Launch} {dC : Nat → ClassId} {dI : Nat → Nat → Nat} {ad : Nat → Nat} {cA : Nat → ClassId} {pr : Nat → Nat → Bool} {Kz : mm_M} {M0 : mm_M} (hM0 : INV pr Kz M0)  : Ci l 1 yX9_isShut wsX9_isShut dC dI ad cA [.ref (ad 12)] M0 (fun r M' => ∃ a : Int, r = sI a ∧ M0 = M' ∧ 0 ≤ a ∧ a ≤ 1 ∧ (a = 1 ∧ andI (andI (pw2 (M0.1 12 0).toInt - 1) (-1 - (M0.1 12 4).toInt)) (-1 - (M0.1 12 3).toInt) = 0 ∨ a = 0 ∧ ¬ andI (andI (pw2 (M0.1 12 0).toInt - 1) (-1 - (M0.1 12 4).toInt)) (-1 - (M0.1 12 3).toInt) = 0)) := by
  refine ci_of (cc := cX9_isShut) (maxL := 1) (ty := .boolean) (lv := [(0, .ref (ad 12))]) (by decide) rfl (fun r M' hp => by obtain ⟨a, rfl, -, h⟩ := hp; rcases (show a = 0 ∨ a = 1 by omega) with rfl | rfl <;> rfl) (Nat.le_of_ble_eq_true rfl) rfl ?_
  intro p e s m args below meth c A Q C hret
  refine j_aload_n C 0 0 dX9_isShut_0 rfl rfl ?_
  refine j_callVi C (d := 0) (As := []) (st := []) 12 (s_lt rfl rfl) (s_kc (c := 8) rfl rfl) (by decide) rfl (s2_X9_everyKind hM0) gX9_isShut_X9_everyKind rfl hdX9_everyKind (by decide) (Nat.le_of_ble_eq_true rfl) dX9_isShut_1 rfl (fun r101 M102 h103 => ?_)
  obtain ⟨a105, rfl, rfl, h104⟩ := h103
  obtain rfl : a105 = (pw2 (M0.1 12 0).toInt - 1) := by omega
  refine j_aload_n C 0 0 dX9_isShut_4 rfl rfl ?_
  refine y_getI C 8 _ _ fX9_isShut_25 rfl rfl ft_8_4 sb_8_4 hM0 dX9_isShut_5 (fun a106 ea106 la106 ua106 => ?_)
  obtain rfl : a106 = (M0.1 12 4).toInt := ea106
  refine y_iconst C dX9_isShut_8 ?_
  refine y_not C dX9_isShut_9 ?_
  refine e_iandL C dX9_isShut_10 (by omega) (fun lb108 ub108 => ?_)
  refine j_aload_n C 0 0 dX9_isShut_11 rfl rfl ?_
  refine y_getI C 8 _ _ fX9_isShut_22 rfl rfl ft_8_3 sb_8_3 hM0 dX9_isShut_12 (fun a109 ea109 la109 ua109 => ?_)
  obtain rfl : a109 = (M0.1 12 3).toInt := ea109
  refine y_iconst C dX9_isShut_15 ?_
  refine y_not C dX9_isShut_16 ?_
  refine e_iandL C dX9_isShut_17 (by omega) (fun lb111 ub111 => ?_)
  refine y_if_ne C 25 dX9_isShut_18 (by decide) (by omega) (fun h112 => ?_) (fun h112 => ?_)
  · refine y_iconst C dX9_isShut_25 ?_
    exact hret _ _ _ _ dX9_isShut_26 ⟨0, rfl, rfl, by omega⟩
  · refine y_iconst C dX9_isShut_21 ?_
    refine j_goto C 26 dX9_isShut_22 (by decide) ?_
    exact hret _ _ _ _ dX9_isShut_26 ⟨1, rfl, rfl, by omega⟩
set_option maxHeartbeats 4000000 in
theorem s2_X1_giveAway {l : Launch} {dC : Nat → ClassId} {dI : Nat → Nat → Nat} {ad : Nat → Nat} {cA : Nat → ClassId} {pr : Nat → Nat → Bool} {Kz : mm_M} {M0 : mm_M} (hM0 : INV pr Kz M0) (hpr : PX pr) (a2 : Int) (ha2 : -2147483648 ≤ a2 ∧ a2 ≤ 2147483647) (gp : Nat) (cgp : s_c gp = 6) : Ci l 2 yX1_giveAway wsX1_giveAway dC dI ad cA [.ref (ad 87), .ref (ad 12), .int (sI a2)] M0 (fun r M' => ∃ a : Int, r = sI a ∧ INV pr Kz M' ∧ FX [12] M0 M' ∧ (-2147483648) ≤ a ∧ a ≤ 2147483647 ∧ (a = aI (wkF (rwX M0 gp 12) a2) (addI ((rwX M0 gp 12) 30).toInt 1)) ∧ (b01 (rwX M' gp 12 = dvS (wkF (rwX M0 gp 12) a2) (rwX M0 gp 12) (gsS (rwX M0 gp 12))) = 1)) := by
  refine ci_of (cc := cX1_giveAway) (maxL := 3) (ty := .int) (lv := [(0, .ref (ad 87)), (1, .ref (ad 12)), (2, .int (sI a2))]) (by decide) rfl (fun r M' hp => rfl) (Nat.le_of_ble_eq_true rfl) rfl ?_
  intro p e s m args below meth c A Q C hret
  refine j_aload_n C 1 1 dX1_giveAway_0 rfl rfl ?_
  refine j_iload_n C 2 2 dX1_giveAway_1 rfl rfl ?_
  refine j_callVi C (d := 0) (As := [.int (sI a2)]) (st := []) 12 (s_lt rfl rfl) (s_kc (c := 8) rfl rfl) (by decide) rfl (s2_X9_holds hM0 a2 (by omega)) gX1_giveAway_X9_holds rfl hdX9_holds (by decide) (Nat.le_of_ble_eq_true rfl) dX1_giveAway_2 rfl (fun r101 M102 h103 => ?_)
  obtain ⟨a105, rfl, rfl, h104⟩ := h103
  refine y_if_ne C 11 dX1_giveAway_5 (by decide) (by omega) (fun h106 => ?_) (fun h106 => ?_)
  · refine j_aload_n C 1 1 dX1_giveAway_11 rfl rfl ?_
    refine j_callVi C (d := 1) (As := []) (st := []) 12 (s_lt rfl rfl) (s_kc (c := 8) rfl rfl) (by decide) rfl (s2_X9_isShut hM0) gX1_giveAway_X9_isShut rfl hdX9_isShut (by decide) (Nat.le_of_ble_eq_true rfl) dX1_giveAway_12 rfl (fun r107 M108 h109 => ?_)
    obtain ⟨a111, rfl, rfl, h110⟩ := h109
    refine y_if_eq C 21 dX1_giveAway_15 (by decide) (by omega) (fun h112 => ?_) (fun h112 => ?_)
    · refine j_aload_n C 1 1 dX1_giveAway_21 rfl rfl ?_
      refine j_dup C dX1_giveAway_22 rfl ?_
      refine y_getI C 8 _ _ fX1_giveAway_54 rfl rfl ft_8_6 sb_8_6 hM0 dX1_giveAway_23 (fun a113 ea113 la113 ua113 => ?_)
      obtain rfl : a113 = (M0.1 12 6).toInt := ea113
      refine y_iconst C dX1_giveAway_26 ?_
      refine e_iadd C dX1_giveAway_27 (fun lb115 ub115 => ?_)
      refine y_putIF C 8 qX1_giveAway_54 rfl rfl ft_8_6 sb_8_6 hM0 (PX.w hpr rfl rfl) dX1_giveAway_28 (fun M116 eM116 hM116 => ?_)
      refine j_aload_n C 1 1 dX1_giveAway_31 rfl rfl ?_
      refine y_getI C 8 _ _ fX1_giveAway_54 rfl rfl ft_8_6 sb_8_6 hM116 dX1_giveAway_32 (fun a117 ea117 la117 ua117 => ?_)
      obtain rfl : a117 = (addI (M0.1 12 6).toInt 1) := (ea117).trans (s_wr eM116 (by omega))
      have u119s := shY M0 gp 12
      have u119K : (rwX M0 gp 12 26).toInt = (M0.1 12 0).toInt := rfl
      have u119b := hM0.rd (i := 12) (c := 8) (k := 0) rfl (show s_b 8 0 = (0, 8) from rfl)
      have u119w := wkF_s (rwX M0 gp 12) a2
      have u119r : rwX M116 gp 12 = gsS (rwX M0 gp 12) := rx_30 cgp rfl eM116
      have u119k := dv_y (w := wkF (rwX M0 gp 12) a2) (a := addI ((rwX M0 gp 12) 30).toInt 1) (f := (rwX M0 gp 12)) (g := gsS (rwX M0 gp 12)) (N := rwX M116 gp 12) (by omega) u119r
      have u119a : aI (wkF (rwX M0 gp 12) a2) (addI ((rwX M0 gp 12) 30).toInt 1) = (addI (M0.1 12 6).toInt 1) := u119k.2.trans rfl
      exact hret _ _ _ _ dX1_giveAway_35 ⟨(addI (M0.1 12 6).toInt 1), rfl, hM116, (FX.rf.wI eM116 (by decide)), by omega⟩
    · refine y_bipush C dX1_giveAway_18 rfl ?_
      have u120s := shY M0 gp 12
      have u120K : (rwX M0 gp 12 26).toInt = (M0.1 12 0).toInt := rfl
      have u120b := hM0.rd (i := 12) (c := 8) (k := 0) rfl (show s_b 8 0 = (0, 8) from rfl)
      have u120w := wkF_s (rwX M0 gp 12) a2
      have u120k := dv_n (w := wkF (rwX M0 gp 12) a2) (f := (rwX M0 gp 12)) (N := (rwX M0 gp 12)) (by omega) rfl (gsS (rwX M0 gp 12)) (addI ((rwX M0 gp 12) 30).toInt 1)
      exact hret _ _ _ _ dX1_giveAway_20 ⟨(-12), rfl, hM0, FX.rf, by omega⟩
  · refine y_bipush C dX1_giveAway_8 rfl ?_
    have u121s := shY M0 gp 12
    have u121K : (rwX M0 gp 12 26).toInt = (M0.1 12 0).toInt := rfl
    have u121b := hM0.rd (i := 12) (c := 8) (k := 0) rfl (show s_b 8 0 = (0, 8) from rfl)
    have u121w := wkF_s (rwX M0 gp 12) a2
    have u121k := dv_n (w := wkF (rwX M0 gp 12) a2) (f := (rwX M0 gp 12)) (N := (rwX M0 gp 12)) (by omega) rfl (gsS (rwX M0 gp 12)) (addI ((rwX M0 gp 12) 30).toInt 1)
    exact hret _ _ _ _ dX1_giveAway_10 ⟨(-11), rfl, hM0, FX.rf, by omega⟩
set_option maxHeartbeats 4000000 in
theorem s2_X1_turn {l : Launch} {dC : Nat → ClassId} {dI : Nat → Nat → Nat} {ad : Nat → Nat} {cA : Nat → ClassId} {pr : Nat → Nat → Bool} {Kz : mm_M} {M0 : mm_M} (hM0 : INV pr Kz M0) (hpr : PX pr) (a2 : Int) (ha2 : -2147483648 ≤ a2 ∧ a2 ≤ 2147483647) (gp : Nat) (cgp : s_c gp = 6) : Ci l 2 yX1_turn wsX1_turn dC dI ad cA [.ref (ad 87), .ref (ad 12), .int (sI a2)] M0 (fun r M' => ∃ a : Int, r = sI a ∧ INV pr Kz M' ∧ FX [12] M0 M' ∧ (-12) ≤ a ∧ a ≤ 1 ∧ (a = aI (wkF (rwX M0 gp 12) a2) (andI (shrI (xorI ((rwX M0 gp 12) 28).toInt (pw2 a2)) a2) 1)) ∧ (b01 (rwX M' gp 12 = dvS (wkF (rwX M0 gp 12) a2) (rwX M0 gp 12) (hsS (rwX M0 gp 12) a2)) = 1)) := by
  refine ci_of (cc := cX1_turn) (maxL := 3) (ty := .int) (lv := [(0, .ref (ad 87)), (1, .ref (ad 12)), (2, .int (sI a2))]) (by decide) rfl (fun r M' hp => rfl) (Nat.le_of_ble_eq_true rfl) rfl ?_
  intro p e s m args below meth c A Q C hret
  refine j_aload_n C 1 1 dX1_turn_0 rfl rfl ?_
  refine j_iload_n C 2 2 dX1_turn_1 rfl rfl ?_
  refine j_callVi C (d := 0) (As := [.int (sI a2)]) (st := []) 12 (s_lt rfl rfl) (s_kc (c := 8) rfl rfl) (by decide) rfl (s2_X9_holds hM0 a2 (by omega)) gX1_turn_X9_holds rfl hdX9_holds (by decide) (Nat.le_of_ble_eq_true rfl) dX1_turn_2 rfl (fun r101 M102 h103 => ?_)
  obtain ⟨a105, rfl, rfl, h104⟩ := h103
  refine y_if_ne C 11 dX1_turn_5 (by decide) (by omega) (fun h106 => ?_) (fun h106 => ?_)
  · refine j_aload_n C 1 1 dX1_turn_11 rfl rfl ?_
    refine j_callVi C (d := 1) (As := []) (st := []) 12 (s_lt rfl rfl) (s_kc (c := 8) rfl rfl) (by decide) rfl (s2_X9_isShut hM0) gX1_turn_X9_isShut rfl hdX9_isShut (by decide) (Nat.le_of_ble_eq_true rfl) dX1_turn_12 rfl (fun r107 M108 h109 => ?_)
    obtain ⟨a111, rfl, rfl, h110⟩ := h109
    refine y_if_eq C 21 dX1_turn_15 (by decide) (by omega) (fun h112 => ?_) (fun h112 => ?_)
    · refine j_aload_n C 1 1 dX1_turn_21 rfl rfl ?_
      refine j_dup C dX1_turn_22 rfl ?_
      refine y_getI C 8 _ _ fX1_turn_36 rfl rfl ft_8_4 sb_8_4 hM0 dX1_turn_23 (fun a113 ea113 la113 ua113 => ?_)
      obtain rfl : a113 = (M0.1 12 4).toInt := ea113
      refine y_iconst C dX1_turn_26 ?_
      refine j_iload_n C 2 2 dX1_turn_27 rfl rfl ?_
      refine e_shl1 C 7 128 dX1_turn_28 rfl (by decide) (by omega) (fun lb115 ub115 => ?_)
      refine e_ixorN C 8 255 dX1_turn_29 rfl (by decide) (by omega) (fun lb116 ub116 => ?_)
      refine y_putI C 8 _ _ qX1_turn_36 rfl rfl ft_8_4 sb_8_4 hM0 (PX.w hpr rfl rfl) dX1_turn_30 (by omega) (fun M117 eM117 hM117 => ?_)
      refine j_aload_n C 1 1 dX1_turn_33 rfl rfl ?_
      refine y_getI C 8 _ _ fX1_turn_36 rfl rfl ft_8_4 sb_8_4 hM117 dX1_turn_34 (fun a118 ea118 la118 ua118 => ?_)
      obtain rfl : a118 = (xorI (M0.1 12 4).toInt (pw2 a2)) := (ea118).trans (s_wr eM117 (by omega))
      refine j_iload_n C 2 2 dX1_turn_37 rfl rfl ?_
      refine e_ishrP C dX1_turn_38 (by omega) (fun lb120 ub120 => ?_)
      refine y_iconst C dX1_turn_39 ?_
      refine e_iandR C dX1_turn_40 (by omega) (fun lb121 ub121 => ?_)
      have u122s := shY M0 gp 12
      have u122K : (rwX M0 gp 12 26).toInt = (M0.1 12 0).toInt := rfl
      have u122b := hM0.rd (i := 12) (c := 8) (k := 0) rfl (show s_b 8 0 = (0, 8) from rfl)
      have u122w := wkF_s (rwX M0 gp 12) a2
      have u122r : rwX M117 gp 12 = hsS (rwX M0 gp 12) a2 := rx_28 cgp rfl eM117
      have u122k := dv_y (w := wkF (rwX M0 gp 12) a2) (a := andI (shrI (xorI ((rwX M0 gp 12) 28).toInt (pw2 a2)) a2) 1) (f := (rwX M0 gp 12)) (g := hsS (rwX M0 gp 12) a2) (N := rwX M117 gp 12) (by omega) u122r
      have u122a : aI (wkF (rwX M0 gp 12) a2) (andI (shrI (xorI ((rwX M0 gp 12) 28).toInt (pw2 a2)) a2) 1) = (andI (shrI (xorI (M0.1 12 4).toInt (pw2 a2)) a2) 1) := u122k.2.trans rfl
      exact hret _ _ _ _ dX1_turn_41 ⟨(andI (shrI (xorI (M0.1 12 4).toInt (pw2 a2)) a2) 1), rfl, hM117, (FX.rf.wI eM117 (by decide)), by omega⟩
    · refine y_bipush C dX1_turn_18 rfl ?_
      have u123s := shY M0 gp 12
      have u123K : (rwX M0 gp 12 26).toInt = (M0.1 12 0).toInt := rfl
      have u123b := hM0.rd (i := 12) (c := 8) (k := 0) rfl (show s_b 8 0 = (0, 8) from rfl)
      have u123w := wkF_s (rwX M0 gp 12) a2
      have u123k := dv_n (w := wkF (rwX M0 gp 12) a2) (f := (rwX M0 gp 12)) (N := (rwX M0 gp 12)) (by omega) rfl (hsS (rwX M0 gp 12) a2) (andI (shrI (xorI ((rwX M0 gp 12) 28).toInt (pw2 a2)) a2) 1)
      exact hret _ _ _ _ dX1_turn_20 ⟨(-12), rfl, hM0, FX.rf, by omega⟩
  · refine y_bipush C dX1_turn_8 rfl ?_
    have u124s := shY M0 gp 12
    have u124K : (rwX M0 gp 12 26).toInt = (M0.1 12 0).toInt := rfl
    have u124b := hM0.rd (i := 12) (c := 8) (k := 0) rfl (show s_b 8 0 = (0, 8) from rfl)
    have u124w := wkF_s (rwX M0 gp 12) a2
    have u124k := dv_n (w := wkF (rwX M0 gp 12) a2) (f := (rwX M0 gp 12)) (N := (rwX M0 gp 12)) (by omega) rfl (hsS (rwX M0 gp 12) a2) (andI (shrI (xorI ((rwX M0 gp 12) 28).toInt (pw2 a2)) a2) 1)
    exact hret _ _ _ _ dX1_turn_10 ⟨(-11), rfl, hM0, FX.rf, by omega⟩
set_option maxHeartbeats 4000000 in
theorem s2_X1_bringIn {l : Launch} {dC : Nat → ClassId} {dI : Nat → Nat → Nat} {ad : Nat → Nat} {cA : Nat → ClassId} {pr : Nat → Nat → Bool} {Kz : mm_M} {M0 : mm_M} (hM0 : INV pr Kz M0) (hpr : PX pr) (hq8_0 : ∀ i, s_c i = 8 → pr i 0 = false) (a2 : Int) (ha2 : -2147483648 ≤ a2 ∧ a2 ≤ 2147483647) (a3 : Int) (ha3 : -2147483648 ≤ a3 ∧ a3 ≤ 2147483647) (gp : Nat) (cgp : s_c gp = 6) : Ci l 2 yX1_bringIn wsX1_bringIn dC dI ad cA [.ref (ad 87), .ref (ad 12), .int (sI a2), .int (sI a3)] M0 (fun r M' => ∃ a : Int, r = sI a ∧ INV pr Kz M' ∧ FX [12, 13, 14] M0 M' ∧ (-13) ≤ a ∧ a ≤ 7 ∧ (a = aI (waF (rwX M0 gp 12) a2 a3) (((rwX M0 gp 12) 26).toInt)) ∧ (b01 (rwX M' gp 12 = dvS (waF (rwX M0 gp 12) a2 a3) (rwX M0 gp 12) (asS (rwX M0 gp 12) a2 a3)) = 1)) := by
  refine ci_of (cc := cX1_bringIn) (maxL := 4) (ty := .int) (lv := [(0, .ref (ad 87)), (1, .ref (ad 12)), (2, .int (sI a2)), (3, .int (sI a3))]) (by decide) rfl (fun r M' hp => rfl) (Nat.le_of_ble_eq_true rfl) rfl ?_
  intro p e s m args below meth c A Q C hret
  refine j_iload_n C 2 2 dX1_bringIn_0 rfl rfl ?_
  refine y_iconst C dX1_bringIn_1 ?_
  refine y_icmp_lt C 21 dX1_bringIn_2 (by decide) (by omega) (fun h101 => ?_) (fun h101 => ?_)
  · refine y_bipush C dX1_bringIn_21 rfl ?_
    have u102s := shY M0 gp 12
    have u102K : (rwX M0 gp 12 26).toInt = (M0.1 12 0).toInt := rfl
    have u102b := hM0.rd (i := 12) (c := 8) (k := 0) rfl (show s_b 8 0 = (0, 8) from rfl)
    have u102w := waF_s (rwX M0 gp 12) a2 a3
    have u102k := dv_n (w := waF (rwX M0 gp 12) a2 a3) (f := (rwX M0 gp 12)) (N := (rwX M0 gp 12)) (by omega) rfl (asS (rwX M0 gp 12) a2 a3) (((rwX M0 gp 12) 26).toInt)
    exact hret _ _ _ _ dX1_bringIn_23 ⟨(-11), rfl, hM0, FX.rf, by omega⟩
  · refine j_iload_n C 2 2 dX1_bringIn_5 rfl rfl ?_
    refine y_bipush C dX1_bringIn_6 rfl ?_
    refine y_icmp_gt C 21 dX1_bringIn_8 (by decide) (by omega) (fun h103 => ?_) (fun h103 => ?_)
    · refine y_bipush C dX1_bringIn_21 rfl ?_
      have u104s := shY M0 gp 12
      have u104K : (rwX M0 gp 12 26).toInt = (M0.1 12 0).toInt := rfl
      have u104b := hM0.rd (i := 12) (c := 8) (k := 0) rfl (show s_b 8 0 = (0, 8) from rfl)
      have u104w := waF_s (rwX M0 gp 12) a2 a3
      have u104k := dv_n (w := waF (rwX M0 gp 12) a2 a3) (f := (rwX M0 gp 12)) (N := (rwX M0 gp 12)) (by omega) rfl (asS (rwX M0 gp 12) a2 a3) (((rwX M0 gp 12) 26).toInt)
      exact hret _ _ _ _ dX1_bringIn_23 ⟨(-11), rfl, hM0, FX.rf, by omega⟩
    · refine j_iload_n C 3 3 dX1_bringIn_11 rfl rfl ?_
      refine y_if_lt C 21 dX1_bringIn_12 (by decide) (by omega) (fun h105 => ?_) (fun h105 => ?_)
      · refine y_bipush C dX1_bringIn_21 rfl ?_
        have u106s := shY M0 gp 12
        have u106K : (rwX M0 gp 12 26).toInt = (M0.1 12 0).toInt := rfl
        have u106b := hM0.rd (i := 12) (c := 8) (k := 0) rfl (show s_b 8 0 = (0, 8) from rfl)
        have u106w := waF_s (rwX M0 gp 12) a2 a3
        have u106k := dv_n (w := waF (rwX M0 gp 12) a2 a3) (f := (rwX M0 gp 12)) (N := (rwX M0 gp 12)) (by omega) rfl (asS (rwX M0 gp 12) a2 a3) (((rwX M0 gp 12) 26).toInt)
        exact hret _ _ _ _ dX1_bringIn_23 ⟨(-11), rfl, hM0, FX.rf, by omega⟩
      · refine j_iload_n C 3 3 dX1_bringIn_15 rfl rfl ?_
        refine y_bipush C dX1_bringIn_16 rfl ?_
        refine y_icmp_le C 24 dX1_bringIn_18 (by decide) (by omega) (fun h107 => ?_) (fun h107 => ?_)
        · refine j_aload_n C 1 1 dX1_bringIn_24 rfl rfl ?_
          refine j_callVi C (d := 1) (As := []) (st := []) 12 (s_lt rfl rfl) (s_kc (c := 8) rfl rfl) (by decide) rfl (s2_X9_isShut hM0) gX1_bringIn_X9_isShut rfl hdX9_isShut (by decide) (Nat.le_of_ble_eq_true rfl) dX1_bringIn_25 rfl (fun r108 M109 h110 => ?_)
          obtain ⟨a112, rfl, rfl, h111⟩ := h110
          refine y_if_eq C 34 dX1_bringIn_28 (by decide) (by omega) (fun h113 => ?_) (fun h113 => ?_)
          · refine j_aload_n C 1 1 dX1_bringIn_34 rfl rfl ?_
            refine y_getI C 8 _ _ fX1_bringIn_57 rfl rfl ft_8_0 sb_8_0 hM0 dX1_bringIn_35 (fun a114 ea114 la114 ua114 => ?_)
            obtain rfl : a114 = (M0.1 12 0).toInt := ea114
            refine y_bipush C dX1_bringIn_38 rfl ?_
            refine y_icmp_lt C 46 dX1_bringIn_40 (by decide) (by omega) (fun h116 => ?_) (fun h116 => ?_)
            · refine j_aload_n C 1 1 dX1_bringIn_46 rfl rfl ?_
              refine y_getC C 8 13 fX1_bringIn_46 rfl rfl ft_8_1 sm_8_1 rfl hM0 dX1_bringIn_47 ?_
              refine j_aload_n C 1 1 dX1_bringIn_50 rfl rfl ?_
              refine y_getI C 8 _ _ fX1_bringIn_57 rfl rfl ft_8_0 sb_8_0 hM0 dX1_bringIn_51 (fun a117 ea117 la117 ua117 => ?_)
              obtain rfl : a117 = (M0.1 12 0).toInt := ea117
              refine j_iload_n C 2 2 dX1_bringIn_54 rfl rfl ?_
              refine y_iastF C 25 8 rfl rfl rfl ak_25 an_25 rfl (sb_25 _) hM0 (PX.w hpr rfl rfl) dX1_bringIn_55 (by omega) (fun M119 eM119 hM119 => ?_)
              refine j_aload_n C 1 1 dX1_bringIn_56 rfl rfl ?_
              refine y_getC C 8 14 fX1_bringIn_60 rfl rfl ft_8_2 sm_8_2 rfl hM119 dX1_bringIn_57 ?_
              refine j_aload_n C 1 1 dX1_bringIn_60 rfl rfl ?_
              refine y_getI C 8 _ _ fX1_bringIn_57 rfl rfl ft_8_0 sb_8_0 hM119 dX1_bringIn_61 (fun a120 ea120 la120 ua120 => ?_)
              obtain rfl : a120 = (M0.1 12 0).toInt := s_fa eM119 (by decide) (ea120)
              refine j_iload_n C 3 3 dX1_bringIn_64 rfl rfl ?_
              refine y_iastF C 26 8 rfl rfl rfl ak_26 an_26 rfl (sb_26 _) hM119 (PX.w hpr rfl rfl) dX1_bringIn_65 (by omega) (fun M122 eM122 hM122 => ?_)
              refine j_aload_n C 1 1 dX1_bringIn_66 rfl rfl ?_
              refine j_dup C dX1_bringIn_67 rfl ?_
              refine y_getI C 8 _ _ fX1_bringIn_57 rfl rfl ft_8_0 sb_8_0 hM122 dX1_bringIn_68 (fun a123 ea123 la123 ua123 => ?_)
              obtain rfl : a123 = (M0.1 12 0).toInt := s_fa eM119 (by decide) (s_fa eM122 (by decide) (ea123))
              refine y_iconst C dX1_bringIn_71 ?_
              refine y_iadd C dX1_bringIn_72 ?_
              refine y_putI C 8 _ _ qX1_bringIn_57 rfl rfl ft_8_0 sb_8_0 hM122 (hq8_0 _ rfl) dX1_bringIn_73 (by omega) (fun M125 eM125 hM125 => ?_)
              refine j_aload_n C 1 1 dX1_bringIn_76 rfl rfl ?_
              refine y_getI C 8 _ _ fX1_bringIn_57 rfl rfl ft_8_0 sb_8_0 hM125 dX1_bringIn_77 (fun a126 ea126 la126 ua126 => ?_)
              obtain rfl : a126 = ((M0.1 12 0).toInt + 1) := (ea126).trans (s_wr eM125 (by omega))
              refine y_iconst C dX1_bringIn_80 ?_
              refine y_isub C dX1_bringIn_81 ?_
              have u128s := shY M0 gp 12
              have u128K : (rwX M0 gp 12 26).toInt = (M0.1 12 0).toInt := rfl
              have u128b := hM0.rd (i := 12) (c := 8) (k := 0) rfl (show s_b 8 0 = (0, 8) from rfl)
              have u128w := waF_s (rwX M0 gp 12) a2 a3
              have u128r : rwX M125 gp 12 = asS (rwX M0 gp 12) a2 a3 := ((rx_26 cgp rfl eM125).trans (congrArg (fun q => uR q 26 ((M0.1 12 0).toInt + 1)) ((rx_g (v := 12) cgp rfl eM122 (by omega)).trans (congrArg (fun q => uR q (41 + (M0.1 12 0).toInt).toNat a3) (rx_p (v := 12) cgp rfl eM119 (by omega)))))).trans (as_x (rwX M0 gp 12) a2 a3 (by omega))
              have u128k := dv_y (w := waF (rwX M0 gp 12) a2 a3) (a := ((rwX M0 gp 12) 26).toInt) (f := (rwX M0 gp 12)) (g := asS (rwX M0 gp 12) a2 a3) (N := rwX M125 gp 12) (by omega) u128r
              exact hret _ _ _ _ dX1_bringIn_82 ⟨(((M0.1 12 0).toInt + 1) - 1), rfl, hM125, (((FX.rf.wI eM119 (by decide)).wI eM122 (by decide)).wI eM125 (by decide)), by omega⟩
            · refine y_bipush C dX1_bringIn_43 rfl ?_
              have u129s := shY M0 gp 12
              have u129K : (rwX M0 gp 12 26).toInt = (M0.1 12 0).toInt := rfl
              have u129b := hM0.rd (i := 12) (c := 8) (k := 0) rfl (show s_b 8 0 = (0, 8) from rfl)
              have u129w := waF_s (rwX M0 gp 12) a2 a3
              have u129k := dv_n (w := waF (rwX M0 gp 12) a2 a3) (f := (rwX M0 gp 12)) (N := (rwX M0 gp 12)) (by omega) rfl (asS (rwX M0 gp 12) a2 a3) (((rwX M0 gp 12) 26).toInt)
              exact hret _ _ _ _ dX1_bringIn_45 ⟨(-13), rfl, hM0, FX.rf, by omega⟩
          · refine y_bipush C dX1_bringIn_31 rfl ?_
            have u130s := shY M0 gp 12
            have u130K : (rwX M0 gp 12 26).toInt = (M0.1 12 0).toInt := rfl
            have u130b := hM0.rd (i := 12) (c := 8) (k := 0) rfl (show s_b 8 0 = (0, 8) from rfl)
            have u130w := waF_s (rwX M0 gp 12) a2 a3
            have u130k := dv_n (w := waF (rwX M0 gp 12) a2 a3) (f := (rwX M0 gp 12)) (N := (rwX M0 gp 12)) (by omega) rfl (asS (rwX M0 gp 12) a2 a3) (((rwX M0 gp 12) 26).toInt)
            exact hret _ _ _ _ dX1_bringIn_33 ⟨(-12), rfl, hM0, FX.rf, by omega⟩
        · refine y_bipush C dX1_bringIn_21 rfl ?_
          have u131s := shY M0 gp 12
          have u131K : (rwX M0 gp 12 26).toInt = (M0.1 12 0).toInt := rfl
          have u131b := hM0.rd (i := 12) (c := 8) (k := 0) rfl (show s_b 8 0 = (0, 8) from rfl)
          have u131w := waF_s (rwX M0 gp 12) a2 a3
          have u131k := dv_n (w := waF (rwX M0 gp 12) a2 a3) (f := (rwX M0 gp 12)) (N := (rwX M0 gp 12)) (by omega) rfl (asS (rwX M0 gp 12) a2 a3) (((rwX M0 gp 12) 26).toInt)
          exact hret _ _ _ _ dX1_bringIn_23 ⟨(-11), rfl, hM0, FX.rf, by omega⟩
set_option maxHeartbeats 4000000 in
theorem s2_X1_reprice {l : Launch} {dC : Nat → ClassId} {dI : Nat → Nat → Nat} {ad : Nat → Nat} {cA : Nat → ClassId} {pr : Nat → Nat → Bool} {Kz : mm_M} {M0 : mm_M} (hM0 : INV pr Kz M0) (hpr : PX pr) (a2 : Int) (ha2 : -2147483648 ≤ a2 ∧ a2 ≤ 2147483647) (a3 : Int) (ha3 : -2147483648 ≤ a3 ∧ a3 ≤ 2147483647) (gp : Nat) (cgp : s_c gp = 6) : Ci l 2 yX1_reprice wsX1_reprice dC dI ad cA [.ref (ad 87), .ref (ad 12), .int (sI a2), .int (sI a3)] M0 (fun r M' => ∃ a : Int, r = sI a ∧ INV pr Kz M' ∧ FX [13] M0 M' ∧ (-2147483648) ≤ a ∧ a ≤ 2147483647 ∧ (a = aI (wpF (rwX M0 gp 12) a2 a3) (((rwX M0 gp 12) (33 + a2).toNat).toInt)) ∧ (b01 (rwX M' gp 12 = dvS (wpF (rwX M0 gp 12) a2 a3) (rwX M0 gp 12) (psS (rwX M0 gp 12) a2 a3)) = 1)) := by
  refine ci_of (cc := cX1_reprice) (maxL := 5) (ty := .int) (lv := [(0, .ref (ad 87)), (1, .ref (ad 12)), (2, .int (sI a2)), (3, .int (sI a3))]) (by decide) rfl (fun r M' hp => rfl) (Nat.le_of_ble_eq_true rfl) rfl ?_
  intro p e s m args below meth c A Q C hret
  refine j_aload_n C 1 1 dX1_reprice_0 rfl rfl ?_
  refine j_iload_n C 2 2 dX1_reprice_1 rfl rfl ?_
  refine j_callVi C (d := 0) (As := [.int (sI a2)]) (st := []) 12 (s_lt rfl rfl) (s_kc (c := 8) rfl rfl) (by decide) rfl (s2_X9_holds hM0 a2 (by omega)) gX1_reprice_X9_holds rfl hdX9_holds (by decide) (Nat.le_of_ble_eq_true rfl) dX1_reprice_2 rfl (fun r101 M102 h103 => ?_)
  obtain ⟨a105, rfl, rfl, h104⟩ := h103
  refine y_if_eq C 19 dX1_reprice_5 (by decide) (by omega) (fun h106 => ?_) (fun h106 => ?_)
  · refine y_bipush C dX1_reprice_19 rfl ?_
    have u107s := shY M0 gp 12
    have u107K : (rwX M0 gp 12 26).toInt = (M0.1 12 0).toInt := rfl
    have u107b := hM0.rd (i := 12) (c := 8) (k := 0) rfl (show s_b 8 0 = (0, 8) from rfl)
    have u107w := wpF_s (rwX M0 gp 12) a2 a3
    have u107k := dv_n (w := wpF (rwX M0 gp 12) a2 a3) (f := (rwX M0 gp 12)) (N := (rwX M0 gp 12)) (by omega) rfl (psS (rwX M0 gp 12) a2 a3) (((rwX M0 gp 12) (33 + a2).toNat).toInt)
    exact hret _ _ _ _ dX1_reprice_21 ⟨(-11), rfl, hM0, FX.rf, by omega⟩
  · refine j_iload_n C 3 3 dX1_reprice_8 rfl rfl ?_
    refine y_iconst C dX1_reprice_9 ?_
    refine y_icmp_lt C 19 dX1_reprice_10 (by decide) (by omega) (fun h108 => ?_) (fun h108 => ?_)
    · refine y_bipush C dX1_reprice_19 rfl ?_
      have u109s := shY M0 gp 12
      have u109K : (rwX M0 gp 12 26).toInt = (M0.1 12 0).toInt := rfl
      have u109b := hM0.rd (i := 12) (c := 8) (k := 0) rfl (show s_b 8 0 = (0, 8) from rfl)
      have u109w := wpF_s (rwX M0 gp 12) a2 a3
      have u109k := dv_n (w := wpF (rwX M0 gp 12) a2 a3) (f := (rwX M0 gp 12)) (N := (rwX M0 gp 12)) (by omega) rfl (psS (rwX M0 gp 12) a2 a3) (((rwX M0 gp 12) (33 + a2).toNat).toInt)
      exact hret _ _ _ _ dX1_reprice_21 ⟨(-11), rfl, hM0, FX.rf, by omega⟩
    · refine j_iload_n C 3 3 dX1_reprice_13 rfl rfl ?_
      refine y_bipush C dX1_reprice_14 rfl ?_
      refine y_icmp_le C 22 dX1_reprice_16 (by decide) (by omega) (fun h110 => ?_) (fun h110 => ?_)
      · refine j_aload_n C 1 1 dX1_reprice_22 rfl rfl ?_
        refine j_callVi C (d := 1) (As := []) (st := []) 12 (s_lt rfl rfl) (s_kc (c := 8) rfl rfl) (by decide) rfl (s2_X9_isShut hM0) gX1_reprice_X9_isShut rfl hdX9_isShut (by decide) (Nat.le_of_ble_eq_true rfl) dX1_reprice_23 rfl (fun r111 M112 h113 => ?_)
        obtain ⟨a115, rfl, rfl, h114⟩ := h113
        refine y_if_eq C 32 dX1_reprice_26 (by decide) (by omega) (fun h116 => ?_) (fun h116 => ?_)
        · refine j_aload_n C 1 1 dX1_reprice_32 rfl rfl ?_
          refine y_getC C 8 13 fX1_reprice_46 rfl rfl ft_8_1 sm_8_1 rfl hM0 dX1_reprice_33 ?_
          refine j_iload_n C 2 2 dX1_reprice_36 rfl rfl ?_
          refine y_iald C 25 8 _ _ rfl rfl rfl ak_25 an_25 rfl (sb_25 _) hM0 dX1_reprice_37 (by omega) (fun a117 ea117 la117 ua117 => ?_)
          obtain rfl : a117 = (M0.1 13 (a2).toNat).toInt := ea117
          refine j_istore C 4 [(4, .int (sI (M0.1 13 (a2).toNat).toInt)), (0, .ref (ad 87)), (1, .ref (ad 12)), (2, .int (sI a2)), (3, .int (sI a3))] dX1_reprice_38 (by decide) rfl ?_
          refine j_aload_n C 2 1 dX1_reprice_40 rfl rfl ?_
          refine y_getC C 8 13 fX1_reprice_46 rfl rfl ft_8_1 sm_8_1 rfl hM0 dX1_reprice_41 ?_
          refine j_iload_n C 3 2 dX1_reprice_44 rfl rfl ?_
          refine j_iload_n C 4 3 dX1_reprice_45 rfl rfl ?_
          refine y_iastF C 25 8 rfl rfl rfl ak_25 an_25 rfl (sb_25 _) hM0 (PX.w hpr rfl rfl) dX1_reprice_46 (by omega) (fun M118 eM118 hM118 => ?_)
          refine j_iload C 0 dX1_reprice_47 rfl ?_
          have u119s := shY M0 gp 12
          have u119K : (rwX M0 gp 12 26).toInt = (M0.1 12 0).toInt := rfl
          have u119b := hM0.rd (i := 12) (c := 8) (k := 0) rfl (show s_b 8 0 = (0, 8) from rfl)
          have u119w := wpF_s (rwX M0 gp 12) a2 a3
          have u119q : ((rwX M0 gp 12) (33 + a2).toNat).toInt = (M0.1 13 (a2).toNat).toInt := congrArg Int32.toInt (rx_k M0 gp 12 (k := a2) (by omega)).1
          have u119r : rwX M118 gp 12 = psS (rwX M0 gp 12) a2 a3 := rx_p (v := 12) cgp rfl eM118 (by omega)
          have u119k := dv_y (w := wpF (rwX M0 gp 12) a2 a3) (a := ((rwX M0 gp 12) (33 + a2).toNat).toInt) (f := (rwX M0 gp 12)) (g := psS (rwX M0 gp 12) a2 a3) (N := rwX M118 gp 12) (by omega) u119r
          exact hret _ _ _ _ dX1_reprice_49 ⟨(M0.1 13 (a2).toNat).toInt, rfl, hM118, (FX.rf.wI eM118 (by decide)), by omega⟩
        · refine y_bipush C dX1_reprice_29 rfl ?_
          have u120s := shY M0 gp 12
          have u120K : (rwX M0 gp 12 26).toInt = (M0.1 12 0).toInt := rfl
          have u120b := hM0.rd (i := 12) (c := 8) (k := 0) rfl (show s_b 8 0 = (0, 8) from rfl)
          have u120w := wpF_s (rwX M0 gp 12) a2 a3
          have u120k := dv_n (w := wpF (rwX M0 gp 12) a2 a3) (f := (rwX M0 gp 12)) (N := (rwX M0 gp 12)) (by omega) rfl (psS (rwX M0 gp 12) a2 a3) (((rwX M0 gp 12) (33 + a2).toNat).toInt)
          exact hret _ _ _ _ dX1_reprice_31 ⟨(-12), rfl, hM0, FX.rf, by omega⟩
      · refine y_bipush C dX1_reprice_19 rfl ?_
        have u121s := shY M0 gp 12
        have u121K : (rwX M0 gp 12 26).toInt = (M0.1 12 0).toInt := rfl
        have u121b := hM0.rd (i := 12) (c := 8) (k := 0) rfl (show s_b 8 0 = (0, 8) from rfl)
        have u121w := wpF_s (rwX M0 gp 12) a2 a3
        have u121k := dv_n (w := wpF (rwX M0 gp 12) a2 a3) (f := (rwX M0 gp 12)) (N := (rwX M0 gp 12)) (by omega) rfl (psS (rwX M0 gp 12) a2 a3) (((rwX M0 gp 12) (33 + a2).toNat).toInt)
        exact hret _ _ _ _ dX1_reprice_21 ⟨(-11), rfl, hM0, FX.rf, by omega⟩
set_option maxHeartbeats 4000000 in
theorem s2_X7_together {l : Launch} {dC : Nat → ClassId} {dI : Nat → Nat → Nat} {ad : Nat → Nat} {cA : Nat → ClassId} {pr : Nat → Nat → Bool} {Kz : mm_M} {M0 : mm_M} (hM0 : INV pr Kz M0) {v0 : Nat} (cv0 : s_c v0 = 6) (hp0 : b01 (ODB M0 v0) = 1) : Ci l 0 yX7_together wsX7_together dC dI ad cA [.ref (ad v0)] M0 (fun r M' => ∃ a : Int, r = sI a ∧ M0 = M' ∧ 0 ≤ a ∧ a ≤ 54 ∧ (a = (psF (rwX M0 v0 12) (M0.1 v0 0).toInt.toNat))) := by
  refine ci_of (cc := cX7_together) (maxL := 3) (ty := .int) (lv := [(0, .ref (ad v0))]) (by decide) rfl (fun r M' hp => rfl) (Nat.le_of_ble_eq_true rfl) rfl ?_
  intro p e s m args below meth c A Q C hret
  have u101b := hM0.rd (i := v0) (c := 6) (k := 0) cv0 (show s_b 6 0 = (0, 6) from rfl)
  refine y_iconst C dX7_together_0 ?_
  refine j_istore_n C 1 [(1, .int (sI 0)), (0, .ref (ad v0))] dX7_together_1 rfl (by decide) rfl ?_
  refine y_iconst C dX7_together_2 ?_
  refine j_istore_n C 2 [(2, .int (sI 0)), (1, .int (sI 0)), (0, .ref (ad v0))] dX7_together_3 rfl (by decide) rfl ?_
  have u102z : psF (rwX M0 v0 12) (0 : Int).toNat = 0 := rfl
  have L115 : ∀ (n113 : Nat), ∀ (a116 : Int) (a117 : Int), (0 ≤ a116 ∧ a116 ≤ 54 ∧ 0 ≤ a117 ∧ a117 ≤ 6 ∧ (a116 = psF (rwX M0 v0 12) (a117).toNat) ∧ (a116 ≤ 9 * a117) ∧ (a117 ≤ (M0.1 v0 0).toInt) ∧ (6 - a117) < (n113 : Int)) → jj p l e (cn_R 0) s m args below meth c 0 0 Q 3 dC dI ad cA A M0 4 [(0, .ref (ad v0)), (1, .int (sI a116)), (2, .int (sI a117))] [] := by
    intro n113
    induction n113 with
    | zero =>
      intro a116 a117 h118
      exfalso; omega
    | succ n113 ih114 =>
      intro a116 a117 h118
      refine j_iload_n C 2 2 dX7_together_4 rfl rfl ?_
      refine j_aload_n C 0 0 dX7_together_5 rfl rfl ?_
      refine y_getI C 6 _ _ fX7_together_9 cv0 rfl ft_6_0 sb_6_0 hM0 dX7_together_6 (fun a119 ea119 la119 ua119 => ?_)
      obtain rfl : a119 = (M0.1 v0 0).toInt := ea119
      refine y_icmp_ge C 27 dX7_together_9 (by decide) (by omega) (fun h121 => ?_) (fun h121 => ?_)
      · have u127x : a117 = (M0.1 v0 0).toInt := by omega
        have u127y : psF (rwX M0 v0 12) (a117).toNat = psF (rwX M0 v0 12) (M0.1 v0 0).toInt.toNat := by rw [u127x]
        refine j_iload_n C 1 1 dX7_together_27 rfl rfl ?_
        exact hret _ _ _ _ dX7_together_28 ⟨a116, rfl, rfl, by omega⟩
      · have u122o := od_at (M := M0) (p := v0) (by omega) a117
        have u122s := psF_s (rwX M0 v0 12) a117 (by omega)
        have u122r := congrArg Int32.toInt (rx_b M0 v0 12 (b := a117) (by omega)).2.2
        refine j_iload_n C 1 1 dX7_together_12 rfl rfl ?_
        refine j_aload_n C 0 0 dX7_together_13 rfl rfl ?_
        refine y_getTE C 6 23 fX7_together_25 cv0 rfl ft_6_4 rfl sm_6_4 st_6_4 (by decide) hM0 dX7_together_14 (fun cv123 => ?_)
        refine j_iload_n C 2 2 dX7_together_17 rfl rfl ?_
        refine y_iald C 23 6 _ _ cv123 rfl rfl ak_23 an_23 rfl (sb_23 _) hM0 dX7_together_18 (by omega) (fun a124 ea124 la124 ua124 => ?_)
        obtain rfl : a124 = (M0.1 (s_p0 v0 4) (a117).toNat).toInt := ea124
        have u125 : 0 ≤ (M0.1 (s_p0 v0 4) (a117).toNat).toInt ∧ (M0.1 (s_p0 v0 4) (a117).toNat).toInt ≤ 9 := by omega
        refine y_iadd C dX7_together_19 ?_
        refine j_istore_n C 1 [(1, .int (sI (a116 + (M0.1 (s_p0 v0 4) (a117).toNat).toInt))), (0, .ref (ad v0)), (2, .int (sI a117))] dX7_together_20 rfl (by decide) rfl ?_
        refine y_iinc C 2 [(2, .int (sI (a117 + 1))), (1, .int (sI (a116 + (M0.1 (s_p0 v0 4) (a117).toNat).toInt))), (0, .ref (ad v0))] dX7_together_21 rfl (by decide) rfl ?_
        refine j_goto C 4 dX7_together_24 (by decide) ?_
        have u126z : psF (rwX M0 v0 12) (0 : Int).toNat = 0 := rfl
        refine j_lv [2, 1, 0] rfl ?_; exact ih114 (a116 + (M0.1 (s_p0 v0 4) (a117).toNat).toInt) (a117 + 1) (by omega)
  refine j_lv [2, 1, 0] rfl ?_; exact L115 2010 0 0 (by omega)
set_option maxHeartbeats 4000000 in
theorem s2_X9_draw {l : Launch} {dC : Nat → ClassId} {dI : Nat → Nat → Nat} {ad : Nat → Nat} {cA : Nat → ClassId} {pr : Nat → Nat → Bool} {Kz : mm_M} {M0 : mm_M} (hM0 : INV pr Kz M0) (hpr : PX pr)  : Ci l 0 yX9_draw wsX9_draw dC dI ad cA [.ref (ad 12)] M0 (fun r M' => ∃ a : Int, r = sI a ∧ INV pr Kz M' ∧ FX [12] M0 M' ∧ 0 ≤ a ∧ a ≤ 65535 ∧ (b01 (M'.1 12 = uR (M0.1 12) 8 (dxF (M0.1 12 8).toInt)) = 1) ∧ (a = dwF (M0.1 12 8).toInt)) := by
  refine ci_of (cc := cX9_draw) (maxL := 1) (ty := .int) (lv := [(0, .ref (ad 12))]) (by decide) rfl (fun r M' hp => rfl) (Nat.le_of_ble_eq_true rfl) rfl ?_
  intro p e s m args below meth c A Q C hret
  refine j_aload_n C 0 0 dX9_draw_0 rfl rfl ?_
  refine y_ldc C 1103515245 dX9_draw_1 kX9_draw_44 rfl ?_
  refine j_aload_n C 0 0 dX9_draw_3 rfl rfl ?_
  refine y_getI C 8 _ _ fX9_draw_37 rfl rfl ft_8_8 sb_8_8 hM0 dX9_draw_4 (fun a101 ea101 la101 ua101 => ?_)
  obtain rfl : a101 = (M0.1 12 8).toInt := ea101
  refine y_imulN C dX9_draw_7 (fun a103 la103 ua103 ha103 => ?_)
  refine y_sipush C dX9_draw_8 rfl ?_
  refine e_iadd C dX9_draw_11 (fun lb104 ub104 => ?_)
  refine y_putIF C 8 qX9_draw_37 rfl rfl ft_8_8 sb_8_8 hM0 (PX.w hpr rfl rfl) dX9_draw_12 (fun M105 eM105 hM105 => ?_)
  refine j_aload_n C 0 0 dX9_draw_15 rfl rfl ?_
  refine y_getI C 8 _ _ fX9_draw_37 rfl rfl ft_8_8 sb_8_8 hM105 dX9_draw_16 (fun a106 ea106 la106 ua106 => ?_)
  obtain rfl : a106 = (M105.1 12 8).toInt := ea106
  refine y_bipush C dX9_draw_19 rfl ?_
  refine e_iushr16 C dX9_draw_21 (fun lb108 ub108 => ?_)
  have u109d := dx_w (M := M0) (N := M105) (v := 12) eM105 ha103 rfl
  have u109e := u109d.2
  exact hret _ _ _ _ dX9_draw_22 ⟨(ushrI (M105.1 12 8).toInt 16), rfl, hM105, (FX.rf.wI eM105 (by decide)), by omega⟩
set_option maxHeartbeats 4000000 in
theorem s2_X7_comerFor {l : Launch} {dC : Nat → ClassId} {dI : Nat → Nat → Nat} {ad : Nat → Nat} {cA : Nat → ClassId} {pr : Nat → Nat → Bool} {Kz : mm_M} {M0 : mm_M} (hM0 : INV pr Kz M0) {v0 : Nat} (cv0 : s_c v0 = 6) (a1 : Int) (ha1 : -2147483648 ≤ a1 ∧ a1 ≤ 2147483647) (hp0 : b01 (ODB M0 v0) = 1) (hp1 : a1 < psF (rwX M0 v0 12) (M0.1 v0 0).toInt.toNat) (hp2 : 0 ≤ a1 ∧ a1 ≤ 53) : Ci l 0 yX7_comerFor wsX7_comerFor dC dI ad cA [.ref (ad v0), .int (sI a1)] M0 (fun r M' => ∃ a : Int, r = sI a ∧ M0 = M' ∧ 0 ≤ a ∧ a ≤ 5 ∧ (a = (coR (rwX M0 v0 12) (6 - 0 : Int).toNat 0 a1))) := by
  refine ci_of (cc := cX7_comerFor) (maxL := 4) (ty := .int) (lv := [(0, .ref (ad v0)), (1, .int (sI a1))]) (by decide) rfl (fun r M' hp => rfl) (Nat.le_of_ble_eq_true rfl) rfl ?_
  intro p e s m args below meth c A Q C hret
  have u101b := hM0.rd (i := v0) (c := 6) (k := 0) cv0 (show s_b 6 0 = (0, 6) from rfl)
  refine y_iconst C dX7_comerFor_0 ?_
  refine j_istore_n C 2 [(2, .int (sI 0)), (0, .ref (ad v0)), (1, .int (sI a1))] dX7_comerFor_1 rfl (by decide) rfl ?_
  refine y_iconst C dX7_comerFor_2 ?_
  refine j_istore_n C 3 [(3, .int (sI 0)), (2, .int (sI 0)), (0, .ref (ad v0)), (1, .int (sI a1))] dX7_comerFor_3 rfl (by decide) rfl ?_
  have u102z : psF (rwX M0 v0 12) (0 : Int).toNat = 0 := rfl
  have u102y : coR (rwX M0 v0 12) (6 - 0 : Int).toNat 0 (a1 - 0) = coR (rwX M0 v0 12) (6 - 0 : Int).toNat 0 a1 := congrArg _ (Int.sub_zero a1)
  have L118 : ∀ (n116 : Nat), ∀ (a119 : Int) (a120 : Int), (0 ≤ a119 ∧ a119 ≤ 54 ∧ 0 ≤ a120 ∧ a120 ≤ 6 ∧ (a119 = psF (rwX M0 v0 12) (a120).toNat) ∧ (a119 ≤ a1) ∧ (a120 ≤ (M0.1 v0 0).toInt) ∧ (coR (rwX M0 v0 12) (6 - a120).toNat a120 (a1 - a119) = coR (rwX M0 v0 12) (6 - 0 : Int).toNat 0 a1) ∧ (6 - a120) < (n116 : Int)) → jj p l e (cn_R 0) s m args below meth c 0 0 Q 4 dC dI ad cA A M0 4 [(0, .ref (ad v0)), (1, .int (sI a1)), (2, .int (sI a119)), (3, .int (sI a120))] [] := by
    intro n116
    induction n116 with
    | zero =>
      intro a119 a120 h121
      exfalso; omega
    | succ n116 ih117 =>
      intro a119 a120 h121
      refine j_iload_n C 3 3 dX7_comerFor_4 rfl rfl ?_
      refine j_aload_n C 0 0 dX7_comerFor_5 rfl rfl ?_
      refine y_getI C 6 _ _ fX7_comerFor_9 cv0 rfl ft_6_0 sb_6_0 hM0 dX7_comerFor_6 (fun a122 ea122 la122 ua122 => ?_)
      obtain rfl : a122 = (M0.1 v0 0).toInt := ea122
      refine y_icmp_ge C 34 dX7_comerFor_9 (by decide) (by omega) (fun h124 => ?_) (fun h124 => ?_)
      · have u125x : a120 = (M0.1 v0 0).toInt := by omega
        have u125y : psF (rwX M0 v0 12) (a120).toNat = psF (rwX M0 v0 12) (M0.1 v0 0).toInt.toNat := by rw [u125x]
        refine y_iconst C dX7_comerFor_34 ?_
        exact hret _ _ _ _ dX7_comerFor_35 ⟨(-1), rfl, rfl, by omega⟩
      · have u126o := od_at (M := M0) (p := v0) (by omega) a120
        have u126s := psF_s (rwX M0 v0 12) a120 (by omega)
        have u126r := congrArg Int32.toInt (rx_b M0 v0 12 (b := a120) (by omega)).2.2
        have u126c := coR_s (rwX M0 v0 12) (b := a120) (l := a1 - a119) (by omega)
        have u126e : coR (rwX M0 v0 12) (6 - (a120 + 1)).toNat (a120 + 1) (a1 - a119 - ((rwX M0 v0 12) (20 + a120).toNat).toInt) = coR (rwX M0 v0 12) (6 - (a120 + 1)).toNat (a120 + 1) (a1 - (a119 + ((rwX M0 v0 12) (20 + a120).toNat).toInt)) := by rw [show a1 - a119 - ((rwX M0 v0 12) (20 + a120).toNat).toInt = a1 - (a119 + ((rwX M0 v0 12) (20 + a120).toNat).toInt) by omega]
        refine j_iload_n C 2 2 dX7_comerFor_12 rfl rfl ?_
        refine j_aload_n C 0 0 dX7_comerFor_13 rfl rfl ?_
        refine y_getTE C 6 23 fX7_comerFor_25 cv0 rfl ft_6_4 rfl sm_6_4 st_6_4 (by decide) hM0 dX7_comerFor_14 (fun cv127 => ?_)
        refine j_iload_n C 3 3 dX7_comerFor_17 rfl rfl ?_
        refine y_iald C 23 6 _ _ cv127 rfl rfl ak_23 an_23 rfl (sb_23 _) hM0 dX7_comerFor_18 (by omega) (fun a128 ea128 la128 ua128 => ?_)
        obtain rfl : a128 = (M0.1 (s_p0 v0 4) (a120).toNat).toInt := ea128
        have u129 : 0 ≤ (M0.1 (s_p0 v0 4) (a120).toNat).toInt ∧ (M0.1 (s_p0 v0 4) (a120).toNat).toInt ≤ 9 := by omega
        refine y_iadd C dX7_comerFor_19 ?_
        refine j_istore_n C 2 [(2, .int (sI (a119 + (M0.1 (s_p0 v0 4) (a120).toNat).toInt))), (0, .ref (ad v0)), (1, .int (sI a1)), (3, .int (sI a120))] dX7_comerFor_20 rfl (by decide) rfl ?_
        refine j_iload_n C 0 2 dX7_comerFor_21 rfl rfl ?_
        refine j_iload_n C 2 1 dX7_comerFor_22 rfl rfl ?_
        refine y_icmp_le C 28 dX7_comerFor_23 (by decide) (by omega) (fun h130 => ?_) (fun h130 => ?_)
        · have u131q : coR (rwX M0 v0 12) (6 - (a120 + 1)).toNat (a120 + 1) (a1 - (a119 + (M0.1 (s_p0 v0 4) (a120).toNat).toInt)) = coR (rwX M0 v0 12) (6 - (a120 + 1)).toNat (a120 + 1) (a1 - (a119 + ((rwX M0 v0 12) (20 + a120).toNat).toInt)) := by rw [show (a119 + (M0.1 (s_p0 v0 4) (a120).toNat).toInt) = a119 + ((rwX M0 v0 12) (20 + a120).toNat).toInt by omega]
          refine y_iinc C 3 [(3, .int (sI (a120 + 1))), (2, .int (sI (a119 + (M0.1 (s_p0 v0 4) (a120).toNat).toInt))), (0, .ref (ad v0)), (1, .int (sI a1))] dX7_comerFor_28 rfl (by decide) rfl ?_
          refine j_goto C 4 dX7_comerFor_31 (by decide) ?_
          have u132z : psF (rwX M0 v0 12) (0 : Int).toNat = 0 := rfl
          have u132y : coR (rwX M0 v0 12) (6 - 0 : Int).toNat 0 (a1 - 0) = coR (rwX M0 v0 12) (6 - 0 : Int).toNat 0 a1 := congrArg _ (Int.sub_zero a1)
          refine j_lv [2, 3, 1, 0] rfl ?_; exact ih117 (a119 + (M0.1 (s_p0 v0 4) (a120).toNat).toInt) (a120 + 1) (by omega)
        · refine j_iload_n C 3 3 dX7_comerFor_26 rfl rfl ?_
          exact hret _ _ _ _ dX7_comerFor_27 ⟨a120, rfl, rfl, by omega⟩
  refine j_lv [2, 3, 1, 0] rfl ?_; exact L118 2010 0 0 (by omega)
set_option maxHeartbeats 4000000 in
theorem s2_X1_passDay {l : Launch} {dC : Nat → ClassId} {dI : Nat → Nat → Nat} {ad : Nat → Nat} {cA : Nat → ClassId} {pr : Nat → Nat → Bool} {Kz : mm_M} {M0 : mm_M} (hM0 : INV pr Kz M0) (hpr : PX pr) {v1 : Nat} (cv1 : s_c v1 = 6) (hp0 : b01 (ODB M0 v1) = 1) : Ci l 1 yX1_passDay wsX1_passDay dC dI ad cA [.ref (ad 87), .ref (ad v1), .ref (ad 12)] M0 (fun r M' => ∃ a : Int, r = sI a ∧ INV pr Kz M' ∧ FX [12] M0 M' ∧ (-1) ≤ a ∧ a ≤ 5 ∧ (a = pdA (rwX M0 v1 12)) ∧ (b01 (rwX M' v1 12 = pdS (rwX M0 v1 12)) = 1)) := by
  refine ci_of (cc := cX1_passDay) (maxL := 4) (ty := .int) (lv := [(0, .ref (ad 87)), (1, .ref (ad v1)), (2, .ref (ad 12))]) (by decide) rfl (fun r M' hp => rfl) (Nat.le_of_ble_eq_true rfl) rfl ?_
  intro p e s m args below meth c A Q C hret
  refine j_aload_n C 2 2 dX1_passDay_0 rfl rfl ?_
  refine j_dup C dX1_passDay_1 rfl ?_
  refine y_getI C 8 _ _ fX1_passDay_63 rfl rfl ft_8_7 sb_8_7 hM0 dX1_passDay_2 (fun a101 ea101 la101 ua101 => ?_)
  obtain rfl : a101 = (M0.1 12 7).toInt := ea101
  refine y_iconst C dX1_passDay_5 ?_
  refine e_iadd C dX1_passDay_6 (fun lb103 ub103 => ?_)
  refine y_putIF C 8 qX1_passDay_63 rfl rfl ft_8_7 sb_8_7 hM0 (PX.w hpr rfl rfl) dX1_passDay_7 (fun M104 eM104 hM104 => ?_)
  have u105g : rwX M104 v1 12 = dgS (rwX M0 v1 12) := rx_31 cv1 rfl eM104
  have u105o : b01 (ODB M104 v1) = 1 := b01_i (by have z := b01_e (P := ODB M0 v1) (by omega); have y := (ple_f (p := v1) ((FX.rf.wI eM104 (by decide)) : FX [12] M0 M104) cv1 (by decide)); unfold ODB; rw [y.1, y.2.2.2.1]; exact z)
  have u105b := hM104.rd (i := v1) (c := 6) (k := 0) cv1 (show s_b 6 0 = (0, 6) from rfl)
  have u105t : psF (rwX M104 v1 12) (M104.1 v1 0).toInt.toNat = ogF (dgS (rwX M0 v1 12)) := (ps_v M104 v1 12 12 (by omega)).trans (by rw [show psF (rwX M104 v1 12) (M104.1 v1 0).toInt.toNat = ogF (rwX M104 v1 12) from rfl, u105g])
  refine j_aload_n C 1 1 dX1_passDay_10 rfl rfl ?_
  refine j_callVi C (d := 0) (As := []) (st := []) v1 (s_lt cv1 rfl) (s_kc (c := 6) cv1 rfl) (by decide) rfl (s2_X7_together hM104 cv1 (by omega)) gX1_passDay_X7_together rfl hdX7_together (by decide) (Nat.le_of_ble_eq_true rfl) dX1_passDay_11 rfl (fun r106 M107 h108 => ?_)
  obtain ⟨a110, rfl, rfl, h109⟩ := h108
  obtain rfl : a110 = (psF (rwX M104 v1 12) (M104.1 v1 0).toInt.toNat) := by omega
  refine j_istore_n C 3 [(3, .int (sI (psF (rwX M104 v1 12) (M104.1 v1 0).toInt.toNat))), (0, .ref (ad 87)), (1, .ref (ad v1)), (2, .ref (ad 12))] dX1_passDay_14 rfl (by decide) rfl ?_
  refine j_iload_n C 0 3 dX1_passDay_15 rfl rfl ?_
  refine y_if_le C 32 dX1_passDay_16 (by decide) (by omega) (fun h111 => ?_) (fun h111 => ?_)
  · refine y_iconst C dX1_passDay_32 ?_
    have u112k := pd_0 (f := (rwX M0 v1 12)) u105g (by omega)
    exact hret _ _ _ _ dX1_passDay_33 ⟨(-1), rfl, hM104, (FX.rf.wI eM104 (by decide)), by omega⟩
  · refine j_aload_n C 2 1 dX1_passDay_19 rfl rfl ?_
    refine j_aload_n C 3 2 dX1_passDay_20 rfl rfl ?_
    refine j_callVi C (d := 0) (As := []) (st := [.ref (ad v1)]) 12 (s_lt rfl rfl) (s_kc (c := 8) rfl rfl) (by decide) rfl (s2_X9_draw hM104 hpr) gX1_passDay_X9_draw rfl hdX9_draw (by decide) (Nat.le_of_ble_eq_true rfl) dX1_passDay_21 rfl (fun r113 M114 h115 => ?_)
    obtain ⟨a117, rfl, hM114, fM114, h116⟩ := h115
    refine j_iload_n C 0 3 dX1_passDay_24 rfl rfl ?_
    refine e_irem C dX1_passDay_25 (by omega) (fun lb118 ub118 => ?_)
    have u119h : rwX M114 v1 12 = deS (rwX M0 v1 12) := (rx_d cv1 rfl fM114 (by omega)).trans (congrArg drS u105g)
    have u119o : b01 (ODB M114 v1) = 1 := b01_i (by have z := b01_e (P := ODB M0 v1) (by omega); have y := (ple_f (p := v1) (((FX.rf.wI eM104 (by decide)).tr fM114 (by decide)) : FX [12] M0 M114) cv1 (by decide)); unfold ODB; rw [y.1, y.2.2.2.1]; exact z)
    have u119p := (ple_f (p := v1) ((FX.rf.tr fM114 (by decide)) : FX [12] M104 M114) cv1 (by decide))
    have u119e : psF (rwX M114 v1 12) (M114.1 v1 0).toInt.toNat = psF (rwX M104 v1 12) (M104.1 v1 0).toInt.toNat := by rw [u119p.1]; exact psF_c _ (by omega) (fun k h0 h1 => by unfold rwX; rw [cl_20 M114 v1 12 _ (by omega), cl_20 M104 v1 12 _ (by omega), u119p.2.2.2.1])
    refine j_callVi C (d := 0) (As := [.int (sI (rmI a117 (psF (rwX M104 v1 12) (M104.1 v1 0).toInt.toNat)))]) (st := []) v1 (s_lt cv1 rfl) (s_kc (c := 6) cv1 rfl) (by decide) rfl (s2_X7_comerFor hM114 cv1 (rmI a117 (psF (rwX M104 v1 12) (M104.1 v1 0).toInt.toNat)) (by omega) (by omega) (by omega) (by omega)) gX1_passDay_X7_comerFor rfl hdX7_comerFor (by decide) (Nat.le_of_ble_eq_true rfl) dX1_passDay_26 rfl (fun r120 M121 h122 => ?_)
    obtain ⟨a124, rfl, rfl, h123⟩ := h122
    obtain rfl : a124 = (coR (rwX M114 v1 12) (6 - 0 : Int).toNat 0 (rmI a117 (psF (rwX M104 v1 12) (M104.1 v1 0).toInt.toNat))) := by omega
    refine j_goto C 33 dX1_passDay_29 (by decide) ?_
    have u125x : (dgS (rwX M0 v1 12) 32).toInt = (M104.1 12 8).toInt := by rw [← u105g]; rfl
    have u125a : a117 = dwF (M104.1 12 8).toInt := by omega
    have u125y : rmI a117 (psF (rwX M104 v1 12) (M104.1 v1 0).toInt.toNat) = drF (dgS (rwX M0 v1 12)) (ogF (dgS (rwX M0 v1 12))) := by unfold drF; rw [u125x, u125a, u105t]
    have u125c : (coR (rwX M114 v1 12) (6 - 0 : Int).toNat 0 (rmI a117 (psF (rwX M104 v1 12) (M104.1 v1 0).toInt.toNat))) = dcF (rwX M0 v1 12) := (co_v M114 v1 12 12 _ _ _ (by decide) (by decide)).trans (by rw [u119h, u125y]; rfl)
    have u125k := pd_1 (f := (rwX M0 v1 12)) (r := (coR (rwX M114 v1 12) (6 - 0 : Int).toNat 0 (rmI a117 (psF (rwX M104 v1 12) (M104.1 v1 0).toInt.toNat)))) u119h (by omega) u125c
    exact hret _ _ _ _ dX1_passDay_33 ⟨(coR (rwX M114 v1 12) (6 - 0 : Int).toNat 0 (rmI a117 (psF (rwX M104 v1 12) (M104.1 v1 0).toInt.toNat))), rfl, hM114, ((FX.rf.wI eM104 (by decide)).tr fM114 (by decide)), by omega⟩
set_option maxHeartbeats 4000000 in
theorem s2_X1_visitBy {l : Launch} {dC : Nat → ClassId} {dI : Nat → Nat → Nat} {ad : Nat → Nat} {cA : Nat → ClassId} {pr : Nat → Nat → Bool} {Kz : mm_M} {M0 : mm_M} (hM0 : INV pr Kz M0) (hpr : PX pr) {v1 : Nat} (cv1 : s_c v1 = 6) (a3 : Int) (ha3 : -2147483648 ≤ a3 ∧ a3 ≤ 2147483647) (hp0 : b01 (APX M0 v1) = 1) (hp1 : b01 (LAW M0 v1) = 1) (hp2 : b01 (PRR (rwX M0 v1 12)) = 1) : Ci l 4 yX1_visitBy wsX1_visitBy dC dI ad cA [.ref (ad 87), .ref (ad v1), .ref (ad 12), .int (sI a3)] M0 (fun r M' => ∃ a : Int, r = sI a ∧ INV pr Kz M' ∧ FX [12, 81, 82, 83, 84, 85, 86] M0 M' ∧ (-13) ≤ a ∧ a ≤ 7 ∧ (b01 (APX M' v1) = 1) ∧ (a = aI (wvF (rwX M0 v1 12) a3) (bnF (rwX M0 v1 12) a3)) ∧ (b01 (rwX M' v1 12 = dvS (wvF (rwX M0 v1 12) a3) (rwX M0 v1 12) (vsS (rwX M0 v1 12) a3)) = 1)) := by
  refine ci_of (cc := cX1_visitBy) (maxL := 5) (ty := .int) (lv := [(0, .ref (ad 87)), (1, .ref (ad v1)), (2, .ref (ad 12)), (3, .int (sI a3))]) (by decide) rfl (fun r M' hp => rfl) (Nat.le_of_ble_eq_true rfl) rfl ?_
  intro p e s m args below meth c A Q C hret
  have u101s := shY M0 v1 12
  have u101w := wvF_s (rwX M0 v1 12) a3
  have u101B : ((rwX M0 v1 12) 1).toInt = (M0.1 v1 0).toInt := rfl
  have u101K := hM0.rd (i := 12) (c := 8) (k := 0) rfl (show s_b 8 0 = (0, 8) from rfl)
  have u1017 := hM0.rd (i := v1) (c := 6) (k := 7) cv1 (show s_b 6 7 = (0, 900) from rfl)
  have u1019 := hM0.rd (i := v1) (c := 6) (k := 9) cv1 (show s_b 6 9 = (0, 900) from rfl)
  refine j_iload_n C 3 3 dX1_visitBy_0 rfl rfl ?_
  refine y_if_lt C 12 dX1_visitBy_1 (by decide) (by omega) (fun h102 => ?_) (fun h102 => ?_)
  · refine y_bipush C dX1_visitBy_12 rfl ?_
    have u103k := dv_n (w := wvF (rwX M0 v1 12) a3) (f := (rwX M0 v1 12)) (N := rwX M0 v1 12) (by omega) rfl (vsS (rwX M0 v1 12) a3) (bnF (rwX M0 v1 12) a3)
    exact hret _ _ _ _ dX1_visitBy_14 ⟨(-11), rfl, hM0, FX.rf, by omega⟩
  · refine j_iload_n C 3 3 dX1_visitBy_4 rfl rfl ?_
    refine j_aload_n C 1 1 dX1_visitBy_5 rfl rfl ?_
    refine y_getI C 6 _ _ fX1_visitBy_15 cv1 rfl ft_6_0 sb_6_0 hM0 dX1_visitBy_6 (fun a104 ea104 la104 ua104 => ?_)
    obtain rfl : a104 = (M0.1 v1 0).toInt := ea104
    refine y_icmp_lt C 15 dX1_visitBy_9 (by decide) (by omega) (fun h106 => ?_) (fun h106 => ?_)
    · refine j_aload_n C 2 2 dX1_visitBy_15 rfl rfl ?_
      refine j_callVi C (d := 1) (As := []) (st := []) 12 (s_lt rfl rfl) (s_kc (c := 8) rfl rfl) (by decide) rfl (s2_X9_isShut hM0) gX1_visitBy_X9_isShut rfl hdX9_isShut (by decide) (Nat.le_of_ble_eq_true rfl) dX1_visitBy_16 rfl (fun r107 M108 h109 => ?_)
      obtain ⟨a111, rfl, rfl, h110⟩ := h109
      refine y_if_eq C 25 dX1_visitBy_19 (by decide) (by omega) (fun h112 => ?_) (fun h112 => ?_)
      · refine j_aload_n C 0 0 dX1_visitBy_25 rfl rfl ?_
        refine y_getC C 1 81 fX1_visitBy_9 rfl rfl ft_1_0 sm_1_0 rfl hM0 dX1_visitBy_26 ?_
        refine j_aload_n C 1 1 dX1_visitBy_29 rfl rfl ?_
        refine j_aload_n C 2 2 dX1_visitBy_30 rfl rfl ?_
        refine j_callVv C (d := 0) (As := [.ref (ad v1), .ref (ad 12)]) (st := []) 81 (s_lt rfl rfl) (s_kc (c := 3) rfl rfl) (by decide) rfl (s2_X4_tune hM0 hpr cv1 rfl (by omega)) gX1_visitBy_X4_tune rfl hdX4_tune (by decide) (Nat.le_of_ble_eq_true rfl) dX1_visitBy_31 rfl (fun M114 h115 => ?_)
        obtain ⟨hM114, fM114, h116⟩ := h115
        have ev181 : v1 = M114.2.2 81 5 := by omega
        refine j_aload_n C 0 0 dX1_visitBy_34 rfl rfl ?_
        refine y_getC C 1 81 fX1_visitBy_9 rfl rfl ft_1_0 sm_1_0 rfl hM114 dX1_visitBy_35 ?_
        refine j_iload_n C 3 3 dX1_visitBy_38 rfl rfl ?_
        refine j_aload_n C 2 2 dX1_visitBy_39 rfl rfl ?_
        refine y_getI C 8 _ _ fX1_visitBy_33 rfl rfl ft_8_3 sb_8_3 hM114 dX1_visitBy_40 (fun a117 ea117 la117 ua117 => ?_)
        obtain rfl : a117 = (M0.1 12 3).toInt := s_fX fM114 (by decide) (ea117)
        refine j_aload_n C 2 2 dX1_visitBy_43 rfl rfl ?_
        refine y_getI C 8 _ _ fX1_visitBy_36 rfl rfl ft_8_4 sb_8_4 hM114 dX1_visitBy_44 (fun a119 ea119 la119 ua119 => ?_)
        obtain rfl : a119 = (M0.1 12 4).toInt := s_fX fM114 (by decide) (ea119)
        have u1217 := hM0.rd (i := v1) (c := 6) (k := 7) cv1 (show s_b 6 7 = (0, 900) from rfl)
        have u1219 := hM0.rd (i := v1) (c := 6) (k := 9) cv1 (show s_b 6 9 = (0, 900) from rfl)
        have u121p := (ple_f (p := v1) ((FX.rf.tr fM114 (by decide)) : FX [81, 82, 83, 84] M0 M114) cv1 (by decide))
        have u121L := law_p (M := M0) (N := M114) (p := v1) u121p u1217.1 u1219.1 (by omega)
        have u121E := law_e u121L
        have u121E1 := u121E.1
        have u121E2 := u121E.2.1
        have u1219b := hM114.rd (i := v1) (c := 6) (k := 9) cv1 (show s_b 6 9 = (0, 900) from rfl)
        have u121x := btx_w (M := M114) (p := v1) u1219b.1 u121E2 u121E.2.2.1
        have u121r := prr_s (M := M0) (p := v1) (v := 12) (by omega)
        have u121q := prx_t (M := M0) (N := M114) (v := 12) (c := s_p0 12 1) (n := (M0.1 12 0).toInt) rfl (by omega) (by omega) u121r
        have u121k := hM0.rd (i := 12) (c := 8) (k := 0) rfl (show s_b 8 0 = (0, 8) from rfl)
        have u121o := bo_tu (M := M0) (N := M114) (p := v1) (v := 12) (b := a3) (s := (M0.1 12 3).toInt) (h := sI (M0.1 12 4).toInt) u121p (by omega) (by omega) (by omega) (by omega) (by omega)
        rw [show clX M0 v1 12 (sI (M0.1 12 4).toInt) = rwX M0 v1 12 by rw [sI_o]; rfl] at u121o
        have u121b : boF (mdX M114 v1 (sI (M0.1 12 4).toInt)) a3 (M0.1 12 3).toInt = bnF (rwX M0 v1 12) a3 := u121o
        refine j_callVi C (d := 3) (As := [.int (sI a3), .int (sI (M0.1 12 3).toInt), .int (sI (M0.1 12 4).toInt)]) (st := []) 81 (s_lt rfl rfl) (s_kc (c := 3) rfl rfl) (by decide) rfl (s2_X4_choice hM114 hpr a3 (by omega) (M0.1 12 3).toInt (by omega) (M0.1 12 4).toInt (by omega) v1 cv1 (ev181) (by omega) (by omega) (by omega) (by omega) (by omega) (by omega) (by omega) (by omega)) gX1_visitBy_X4_choice rfl hdX4_choice (by decide) (Nat.le_of_ble_eq_true rfl) dX1_visitBy_47 rfl (fun r122 M123 h124 => ?_)
        obtain ⟨a126, rfl, hM123, fM123, h125⟩ := h124
        obtain rfl : a126 = (boF (mdX M114 v1 (sI (M0.1 12 4).toInt)) a3 (M0.1 12 3).toInt) := by omega
        refine j_istore C 4 [(4, .int (sI (boF (mdX M114 v1 (sI (M0.1 12 4).toInt)) a3 (M0.1 12 3).toInt))), (0, .ref (ad 87)), (1, .ref (ad v1)), (2, .ref (ad 12)), (3, .int (sI a3))] dX1_visitBy_50 (by decide) rfl ?_
        refine j_iload C 0 dX1_visitBy_52 rfl ?_
        refine y_if_ge C 60 dX1_visitBy_54 (by decide) (by omega) (fun h127 => ?_) (fun h127 => ?_)
        · refine j_aload_n C 3 2 dX1_visitBy_60 rfl rfl ?_
          refine j_dup C dX1_visitBy_61 rfl ?_
          refine y_getI C 8 _ _ fX1_visitBy_33 rfl rfl ft_8_3 sb_8_3 hM123 dX1_visitBy_62 (fun a128 ea128 la128 ua128 => ?_)
          obtain rfl : a128 = (M0.1 12 3).toInt := s_fX fM114 (by decide) (s_fX fM123 (by decide) (ea128))
          refine y_iconst C dX1_visitBy_65 ?_
          refine j_iload C 0 dX1_visitBy_66 rfl ?_
          refine e_shl1 C 7 128 dX1_visitBy_68 rfl (by decide) (by omega) (fun lb130 ub130 => ?_)
          refine e_iorN C 8 255 dX1_visitBy_69 rfl (by decide) (by omega) (fun lb131 ub131 ob131 => ?_)
          refine y_putI C 8 _ _ qX1_visitBy_33 rfl rfl ft_8_3 sb_8_3 hM123 (PX.w hpr rfl rfl) dX1_visitBy_70 (by omega) (fun M132 eM132 hM132 => ?_)
          refine j_aload_n C 3 2 dX1_visitBy_73 rfl rfl ?_
          refine j_dup C dX1_visitBy_74 rfl ?_
          refine y_getI C 8 _ _ fX1_visitBy_43 rfl rfl ft_8_5 sb_8_5 hM132 dX1_visitBy_75 (fun a133 ea133 la133 ua133 => ?_)
          obtain rfl : a133 = (M0.1 12 5).toInt := s_fX fM114 (by decide) (s_fX fM123 (by decide) (s_fb eM132 (by decide) (ea133)))
          refine j_aload_n C 3 2 dX1_visitBy_78 rfl rfl ?_
          refine y_getC C 8 13 fX1_visitBy_46 rfl rfl ft_8_1 sm_8_1 rfl hM132 dX1_visitBy_79 ?_
          refine j_iload C 0 dX1_visitBy_82 rfl ?_
          refine y_iald C 25 8 _ _ rfl rfl rfl ak_25 an_25 rfl (sb_25 _) hM132 dX1_visitBy_84 (by omega) (fun a135 ea135 la135 ua135 => ?_)
          obtain rfl : a135 = (M0.1 13 ((boF (mdX M114 v1 (sI (M0.1 12 4).toInt)) a3 (M0.1 12 3).toInt)).toNat).toInt := s_fX fM114 (by decide) (s_fX fM123 (by decide) (s_fa eM132 (by decide) (ea135)))
          refine e_iadd C dX1_visitBy_85 (fun lb136 ub136 => ?_)
          refine y_putIF C 8 qX1_visitBy_43 rfl rfl ft_8_5 sb_8_5 hM132 (PX.w hpr rfl rfl) dX1_visitBy_86 (fun M137 eM137 hM137 => ?_)
          refine j_iload C 0 dX1_visitBy_89 rfl ?_
          have u138x : (M0.1 13 ((boF (mdX M114 v1 (sI (M0.1 12 4).toInt)) a3 (M0.1 12 3).toInt)).toNat).toInt = ((rwX M0 v1 12) (33 + (boF (mdX M114 v1 (sI (M0.1 12 4).toInt)) a3 (M0.1 12 3).toInt)).toNat).toInt := (congrArg Int32.toInt (rx_k M0 v1 12 (k := (boF (mdX M114 v1 (sI (M0.1 12 4).toInt)) a3 (M0.1 12 3).toInt)) (by omega)).1).symm
          have u138r : rwX M137 v1 12 = vsS (rwX M0 v1 12) a3 := vs_x (M := M123) (f := (rwX M0 v1 12)) cv1 rfl (rx_f (p := v1) (v := 12) (ple_f (p := v1) (((FX.rf.tr fM114 (by decide)).tr fM123 (by decide)) : FX [81, 82, 83, 84, 85, 86] M0 M123) cv1 (by decide)) (ske_n (((FX.rf.tr fM114 (by decide)).tr fM123 (by decide)) : FX [81, 82, 83, 84, 85, 86] M0 M123) ⟨by decide, by decide, by decide⟩)) eM132 eM137 u121b u138x
          have u138k := dv_y (w := wvF (rwX M0 v1 12) a3) (a := bnF (rwX M0 v1 12) a3) (f := (rwX M0 v1 12)) (g := vsS (rwX M0 v1 12) a3) (N := rwX M137 v1 12) (by omega) u138r
          have u1387 := hM123.rd (i := v1) (c := 6) (k := 7) cv1 (show s_b 6 7 = (0, 900) from rfl)
          have u1389 := hM123.rd (i := v1) (c := 6) (k := 9) cv1 (show s_b 6 9 = (0, 900) from rfl)
          have u138a := apx_o (M := M123) (N := M137) (p := v1) (ple_f (((FX.rf.wI eM132 (by decide)).wI eM137 (by decide)) : FX [12] M123 M137) cv1 (by decide)) ((((FX.rf.wI eM132 (by decide)).wI eM137 (by decide)) : FX [12] M123 M137).cell (by decide)) ((((FX.rf.wI eM132 (by decide)).wI eM137 (by decide)) : FX [12] M123 M137).cell (by decide)) ((((FX.rf.wI eM132 (by decide)).wI eM137 (by decide)) : FX [12] M123 M137).cell (by decide)) u1387.1 u1389.1 (by omega)
          exact hret _ _ _ _ dX1_visitBy_91 ⟨(boF (mdX M114 v1 (sI (M0.1 12 4).toInt)) a3 (M0.1 12 3).toInt), rfl, hM137, ((((FX.rf.tr fM114 (by decide)).tr fM123 (by decide)).wI eM132 (by decide)).wI eM137 (by decide)), by omega⟩
        · refine y_bipush C dX1_visitBy_57 rfl ?_
          have u139k := dv_n (w := wvF (rwX M0 v1 12) a3) (f := (rwX M0 v1 12)) (N := rwX M123 v1 12) (by omega) (rx_f (p := v1) (v := 12) (ple_f (p := v1) (((FX.rf.tr fM114 (by decide)).tr fM123 (by decide)) : FX [81, 82, 83, 84, 85, 86] M0 M123) cv1 (by decide)) (ske_n (((FX.rf.tr fM114 (by decide)).tr fM123 (by decide)) : FX [81, 82, 83, 84, 85, 86] M0 M123) ⟨by decide, by decide, by decide⟩)) (vsS (rwX M0 v1 12) a3) (bnF (rwX M0 v1 12) a3)
          have u139P : b01 (APX M123 v1) = 1 := by omega
          exact hret _ _ _ _ dX1_visitBy_59 ⟨(-13), rfl, hM123, ((FX.rf.tr fM114 (by decide)).tr fM123 (by decide)), by omega⟩
      · refine y_bipush C dX1_visitBy_22 rfl ?_
        have u140k := dv_n (w := wvF (rwX M0 v1 12) a3) (f := (rwX M0 v1 12)) (N := rwX M0 v1 12) (by omega) rfl (vsS (rwX M0 v1 12) a3) (bnF (rwX M0 v1 12) a3)
        exact hret _ _ _ _ dX1_visitBy_24 ⟨(-12), rfl, hM0, FX.rf, by omega⟩
    · refine y_bipush C dX1_visitBy_12 rfl ?_
      have u141k := dv_n (w := wvF (rwX M0 v1 12) a3) (f := (rwX M0 v1 12)) (N := rwX M0 v1 12) (by omega) rfl (vsS (rwX M0 v1 12) a3) (bnF (rwX M0 v1 12) a3)
      exact hret _ _ _ _ dX1_visitBy_14 ⟨(-11), rfl, hM0, FX.rf, by omega⟩
set_option maxHeartbeats 4000000 in
theorem s2_X1_carryOut {l : Launch} {dC : Nat → ClassId} {dI : Nat → Nat → Nat} {ad : Nat → Nat} {cA : Nat → ClassId} {pr : Nat → Nat → Bool} {Kz : mm_M} {M0 : mm_M} (hM0 : INV pr Kz M0) (hpr : PX pr) {v1 : Nat} (cv1 : s_c v1 = 6) (a3 : Int) (ha3 : -9223372036854775808 ≤ a3 ∧ a3 ≤ 9223372036854775807) (hp0 : b01 (APX M0 v1) = 1) (hp1 : b01 (LAW M0 v1) = 1) (hp2 : b01 (PRR (rwX M0 v1 12)) = 1) (hp3 : 0 ≤ (M0.1 12 6).toInt ∧ (M0.1 12 6).toInt ≤ 2000000000) : Ci l 5 yX1_carryOut wsX1_carryOut dC dI ad cA [.ref (ad 87), .ref (ad v1), .ref (ad 12), .long (sJ a3)] M0 (fun r M' => ∃ a : Int, r = sI a ∧ INV pr Kz M' ∧ FX [12, 13, 81, 82, 83, 84, 85, 86] M0 M' ∧ (-2147483648) ≤ a ∧ a ≤ 2147483647 ∧ (b01 (APX M' v1) = 1) ∧ ((wnF (rwX M0 v1 12) a3 = 0 ∧ 0 ≤ a) ∨ (¬ wnF (rwX M0 v1 12) a3 = 0 ∧ a = -10 - wnF (rwX M0 v1 12) a3)) ∧ (¬ a3 = -1 ∨ a = dyA (rwX M0 v1 12)) ∧ (b01 (rwX M' v1 12 = dvS (wnF (rwX M0 v1 12) a3) (rwX M0 v1 12) (doS (rwX M0 v1 12) a3)) = 1)) := by
  refine ci_of (cc := cX1_carryOut) (maxL := 7) (ty := .int) (lv := [(0, .ref (ad 87)), (1, .ref (ad v1)), (2, .ref (ad 12)), (3, .long (sJ a3))]) (by decide) rfl (fun r M' hp => rfl) (Nat.le_of_ble_eq_true rfl) rfl ?_
  intro p e s m args below meth c A Q C hret
  have u101s := wnF_s (rwX M0 v1 12) a3
  have u1017 := hM0.rd (i := v1) (c := 6) (k := 7) cv1 (show s_b 6 7 = (0, 900) from rfl)
  have u1019 := hM0.rd (i := v1) (c := 6) (k := 9) cv1 (show s_b 6 9 = (0, 900) from rfl)
  have u101g : ((rwX M0 v1 12) 30).toInt = (M0.1 12 6).toInt := rfl
  refine j_lload_n C 3 3 dX1_carryOut_0 rfl rfl ?_
  refine y_ldc2 C (-1) dX1_carryOut_1 kX1_carryOut_77 rfl ?_
  refine y_lcmp_lt C 16 dX1_carryOut_4 dX1_carryOut_5 (by decide) (by omega) (fun h102 => ?_) (fun h102 => ?_)
  · refine y_bipush C dX1_carryOut_16 rfl ?_
    have u103k := co_n (f := (rwX M0 v1 12)) (N := rwX M0 v1 12) (v := a3) (a := -11) (by omega) rfl rfl
    exact hret _ _ _ _ dX1_carryOut_18 ⟨(-11), rfl, hM0, FX.rf, by omega⟩
  · refine j_lload_n C 3 3 dX1_carryOut_8 rfl rfl ?_
    refine y_ldc2 C 1999 dX1_carryOut_9 kX1_carryOut_79 rfl ?_
    refine y_lcmp_le C 19 dX1_carryOut_12 dX1_carryOut_13 (by decide) (by omega) (fun h104 => ?_) (fun h104 => ?_)
    · refine j_lload_n C 3 3 dX1_carryOut_19 rfl rfl ?_
      refine y_l2i C dX1_carryOut_20 ?_
      refine j_istore C 5 [(5, .int (sI a3)), (0, .ref (ad 87)), (1, .ref (ad v1)), (2, .ref (ad 12)), (3, .long (sJ a3))] dX1_carryOut_21 (by decide) rfl ?_
      refine j_iload C 0 dX1_carryOut_23 rfl ?_
      refine y_iconst C dX1_carryOut_25 ?_
      refine y_icmp_ne C 54 dX1_carryOut_26 (by decide) (by omega) (fun h105 => ?_) (fun h105 => ?_)
      · refine j_iload C 0 dX1_carryOut_54 rfl ?_
        refine y_bipush C dX1_carryOut_56 rfl ?_
        refine y_icmp_gt C 70 dX1_carryOut_58 (by decide) (by omega) (fun h106 => ?_) (fun h106 => ?_)
        · refine j_iload C 0 dX1_carryOut_70 rfl ?_
          refine y_bipush C dX1_carryOut_72 rfl ?_
          refine y_icmp_lt C 95 dX1_carryOut_74 (by decide) (by omega) (fun h107 => ?_) (fun h107 => ?_)
          · refine j_iload C 0 dX1_carryOut_95 rfl ?_
            refine y_sipush C dX1_carryOut_97 rfl ?_
            refine y_icmp_lt C 123 dX1_carryOut_100 (by decide) (by omega) (fun h108 => ?_) (fun h108 => ?_)
            · refine j_iload C 0 dX1_carryOut_123 rfl ?_
              refine y_sipush C dX1_carryOut_125 rfl ?_
              refine y_icmp_lt C 151 dX1_carryOut_128 (by decide) (by omega) (fun h109 => ?_) (fun h109 => ?_)
              · refine y_bipush C dX1_carryOut_151 rfl ?_
                have u110k := co_n (f := (rwX M0 v1 12)) (N := rwX M0 v1 12) (v := a3) (a := -11) (by omega) rfl rfl
                exact hret _ _ _ _ dX1_carryOut_153 ⟨(-11), rfl, hM0, FX.rf, by omega⟩
              · exfalso; omega
            · exfalso; omega
          · refine j_iload C 0 dX1_carryOut_77 rfl ?_
            refine y_bipush C dX1_carryOut_79 rfl ?_
            refine y_icmp_gt C 95 dX1_carryOut_81 (by decide) (by omega) (fun h111 => ?_) (fun h111 => ?_)
            · refine j_iload C 0 dX1_carryOut_95 rfl ?_
              refine y_sipush C dX1_carryOut_97 rfl ?_
              refine y_icmp_lt C 123 dX1_carryOut_100 (by decide) (by omega) (fun h112 => ?_) (fun h112 => ?_)
              · refine j_iload C 0 dX1_carryOut_123 rfl ?_
                refine y_sipush C dX1_carryOut_125 rfl ?_
                refine y_icmp_lt C 151 dX1_carryOut_128 (by decide) (by omega) (fun h113 => ?_) (fun h113 => ?_)
                · refine y_bipush C dX1_carryOut_151 rfl ?_
                  have u114k := co_n (f := (rwX M0 v1 12)) (N := rwX M0 v1 12) (v := a3) (a := -11) (by omega) rfl rfl
                  exact hret _ _ _ _ dX1_carryOut_153 ⟨(-11), rfl, hM0, FX.rf, by omega⟩
                · exfalso; omega
              · refine j_iload C 0 dX1_carryOut_103 rfl ?_
                refine y_sipush C dX1_carryOut_105 rfl ?_
                refine y_icmp_gt C 123 dX1_carryOut_108 (by decide) (by omega) (fun h115 => ?_) (fun h115 => ?_)
                · refine j_iload C 0 dX1_carryOut_123 rfl ?_
                  refine y_sipush C dX1_carryOut_125 rfl ?_
                  refine y_icmp_lt C 151 dX1_carryOut_128 (by decide) (by omega) (fun h116 => ?_) (fun h116 => ?_)
                  · refine y_bipush C dX1_carryOut_151 rfl ?_
                    have u117k := co_n (f := (rwX M0 v1 12)) (N := rwX M0 v1 12) (v := a3) (a := -11) (by omega) rfl rfl
                    exact hret _ _ _ _ dX1_carryOut_153 ⟨(-11), rfl, hM0, FX.rf, by omega⟩
                  · refine j_aload_n C 1 0 dX1_carryOut_131 rfl rfl ?_
                    refine j_aload_n C 3 2 dX1_carryOut_132 rfl rfl ?_
                    refine j_iload C 0 dX1_carryOut_133 rfl ?_
                    refine y_sipush C dX1_carryOut_135 rfl ?_
                    refine y_isub C dX1_carryOut_138 ?_
                    refine y_bipush C dX1_carryOut_139 rfl ?_
                    refine y_idiv C dX1_carryOut_141 (by omega) ?_
                    refine j_iload C 0 dX1_carryOut_142 rfl ?_
                    refine y_bipush C dX1_carryOut_144 rfl ?_
                    refine y_irem C dX1_carryOut_146 (by omega) ?_
                    refine j_callVi C (d := 2) (As := [.ref (ad 12), .int (sI ((a3 - 1000) / 100)), .int (sI (a3 % 100))]) (st := []) 87 (s_lt rfl rfl) (s_kc (c := 1) rfl rfl) (by decide) rfl (s2_X1_reprice hM0 hpr ((a3 - 1000) / 100) (by omega) (a3 % 100) (by omega) v1 cv1) gX1_carryOut_X1_reprice rfl hdX1_reprice (by decide) (Nat.le_of_ble_eq_true rfl) dX1_carryOut_147 rfl (fun r118 M119 h120 => ?_)
                    obtain ⟨a122, rfl, hM119, fM119, h121⟩ := h120
                    have u123w := wpF_s (rwX M0 v1 12) ((a3 - 1000) / 100) (a3 % 100)
                    have u123b := prr_k (f := (rwX M0 v1 12)) (by omega) ((a3 - 1000) / 100)
                    have u123k := co_y (f := (rwX M0 v1 12)) (N := rwX M119 v1 12) (G := psS (rwX M0 v1 12) ((a3 - 1000) / 100) (a3 % 100)) (v := a3) (W := wpF (rwX M0 v1 12) ((a3 - 1000) / 100) (a3 % 100)) (a := a122) (A := ((rwX M0 v1 12) (33 + (a3 - 1000) / 100).toNat).toInt) (by omega) (do_p (rwX M0 v1 12) (by omega)) (by omega) (by omega) (fun q => by omega) (by omega)
                    have u123A := apx_o (M := M0) (N := M119) (p := v1) (ple_f ((FX.rf.tr fM119 (by decide)) : FX [13] M0 M119) cv1 (by decide)) (((FX.rf.tr fM119 (by decide)) : FX [13] M0 M119).cell (by decide)) (((FX.rf.tr fM119 (by decide)) : FX [13] M0 M119).cell (by decide)) (((FX.rf.tr fM119 (by decide)) : FX [13] M0 M119).cell (by decide)) (by omega) (by omega) (by omega)
                    exact hret _ _ _ _ dX1_carryOut_150 ⟨a122, rfl, hM119, (FX.rf.tr fM119 (by decide)), by omega⟩
                · refine j_aload_n C 1 0 dX1_carryOut_111 rfl rfl ?_
                  refine j_aload_n C 3 2 dX1_carryOut_112 rfl rfl ?_
                  refine j_iload C 0 dX1_carryOut_113 rfl ?_
                  refine y_sipush C dX1_carryOut_115 rfl ?_
                  refine y_isub C dX1_carryOut_118 ?_
                  refine j_callVi C (d := 2) (As := [.ref (ad 12), .int (sI (a3 - 200))]) (st := []) 87 (s_lt rfl rfl) (s_kc (c := 1) rfl rfl) (by decide) rfl (s2_X1_turn hM0 hpr (a3 - 200) (by omega) v1 cv1) gX1_carryOut_X1_turn rfl hdX1_turn (by decide) (Nat.le_of_ble_eq_true rfl) dX1_carryOut_119 rfl (fun r124 M125 h126 => ?_)
                  obtain ⟨a128, rfl, hM125, fM125, h127⟩ := h126
                  have u129b := bit_0 (xorI ((rwX M0 v1 12) 28).toInt (pw2 (a3 - 200))) (a3 - 200)
                  have u129c := wkF_b (rwX M0 v1 12) (a3 - 200)
                  have u129k := co_y (f := (rwX M0 v1 12)) (N := rwX M125 v1 12) (G := hsS (rwX M0 v1 12) (a3 - 200)) (v := a3) (W := wkF (rwX M0 v1 12) (a3 - 200)) (a := a128) (A := andI (shrI (xorI ((rwX M0 v1 12) 28).toInt (pw2 (a3 - 200))) (a3 - 200)) 1) (by omega) (do_h (rwX M0 v1 12) (by omega)) (by omega) (by omega) (fun q => by omega) (by omega)
                  have u129A := apx_o (M := M0) (N := M125) (p := v1) (ple_f ((FX.rf.tr fM125 (by decide)) : FX [12] M0 M125) cv1 (by decide)) (((FX.rf.tr fM125 (by decide)) : FX [12] M0 M125).cell (by decide)) (((FX.rf.tr fM125 (by decide)) : FX [12] M0 M125).cell (by decide)) (((FX.rf.tr fM125 (by decide)) : FX [12] M0 M125).cell (by decide)) (by omega) (by omega) (by omega)
                  exact hret _ _ _ _ dX1_carryOut_122 ⟨a128, rfl, hM125, (FX.rf.tr fM125 (by decide)), by omega⟩
            · refine j_aload_n C 1 0 dX1_carryOut_84 rfl rfl ?_
              refine j_aload_n C 3 2 dX1_carryOut_85 rfl rfl ?_
              refine j_iload C 0 dX1_carryOut_86 rfl ?_
              refine y_bipush C dX1_carryOut_88 rfl ?_
              refine y_isub C dX1_carryOut_90 ?_
              refine j_callVi C (d := 2) (As := [.ref (ad 12), .int (sI (a3 - 100))]) (st := []) 87 (s_lt rfl rfl) (s_kc (c := 1) rfl rfl) (by decide) rfl (s2_X1_giveAway hM0 hpr (a3 - 100) (by omega) v1 cv1) gX1_carryOut_X1_giveAway rfl hdX1_giveAway (by decide) (Nat.le_of_ble_eq_true rfl) dX1_carryOut_91 rfl (fun r130 M131 h132 => ?_)
              obtain ⟨a134, rfl, hM131, fM131, h133⟩ := h132
              have u135b := gf_p (rwX M0 v1 12) (by omega)
              have u135c := wkF_b (rwX M0 v1 12) (a3 - 100)
              have u135k := co_y (f := (rwX M0 v1 12)) (N := rwX M131 v1 12) (G := gsS (rwX M0 v1 12)) (v := a3) (W := wkF (rwX M0 v1 12) (a3 - 100)) (a := a134) (A := addI ((rwX M0 v1 12) 30).toInt 1) (by omega) (do_g (rwX M0 v1 12) (by omega)) (by omega) (by omega) (fun q => by omega) (by omega)
              have u135A := apx_o (M := M0) (N := M131) (p := v1) (ple_f ((FX.rf.tr fM131 (by decide)) : FX [12] M0 M131) cv1 (by decide)) (((FX.rf.tr fM131 (by decide)) : FX [12] M0 M131).cell (by decide)) (((FX.rf.tr fM131 (by decide)) : FX [12] M0 M131).cell (by decide)) (((FX.rf.tr fM131 (by decide)) : FX [12] M0 M131).cell (by decide)) (by omega) (by omega) (by omega)
              exact hret _ _ _ _ dX1_carryOut_94 ⟨a134, rfl, hM131, (FX.rf.tr fM131 (by decide)), by omega⟩
        · refine j_aload_n C 1 0 dX1_carryOut_61 rfl rfl ?_
          refine j_aload_n C 2 1 dX1_carryOut_62 rfl rfl ?_
          refine j_aload_n C 3 2 dX1_carryOut_63 rfl rfl ?_
          refine j_iload C 0 dX1_carryOut_64 rfl ?_
          refine j_callVi C (d := 4) (As := [.ref (ad v1), .ref (ad 12), .int (sI a3)]) (st := []) 87 (s_lt rfl rfl) (s_kc (c := 1) rfl rfl) (by decide) rfl (s2_X1_visitBy hM0 hpr cv1 a3 (by omega) (by omega) (by omega) (by omega)) gX1_carryOut_X1_visitBy rfl hdX1_visitBy (by decide) (Nat.le_of_ble_eq_true rfl) dX1_carryOut_66 rfl (fun r136 M137 h138 => ?_)
          obtain ⟨a140, rfl, hM137, fM137, h139⟩ := h138
          have u141w := wvF_s (rwX M0 v1 12) a3
          have u141b := bn_m1 (rwX M0 v1 12) a3
          have u141k := co_y (f := (rwX M0 v1 12)) (N := rwX M137 v1 12) (G := vsS (rwX M0 v1 12) a3) (v := a3) (W := wvF (rwX M0 v1 12) a3) (a := a140) (A := bnF (rwX M0 v1 12) a3) (by omega) (do_v (rwX M0 v1 12) (by omega)) (by omega) (by omega) (fun q => by omega) (by omega)
          exact hret _ _ _ _ dX1_carryOut_69 ⟨a140, rfl, hM137, (FX.rf.tr fM137 (by decide)), by omega⟩
      · refine j_aload_n C 1 0 dX1_carryOut_29 rfl rfl ?_
        refine j_aload_n C 2 1 dX1_carryOut_30 rfl rfl ?_
        refine j_aload_n C 3 2 dX1_carryOut_31 rfl rfl ?_
        have u142o := (law_e (M := M0) (p := v1) (by omega)).2.2.2
        refine j_callVi C (d := 1) (As := [.ref (ad v1), .ref (ad 12)]) (st := []) 87 (s_lt rfl rfl) (s_kc (c := 1) rfl rfl) (by decide) rfl (s2_X1_passDay hM0 hpr cv1 (by omega)) gX1_carryOut_X1_passDay rfl hdX1_passDay (by decide) (Nat.le_of_ble_eq_true rfl) dX1_carryOut_32 rfl (fun r143 M144 h145 => ?_)
        obtain ⟨a147, rfl, hM144, fM144, h146⟩ := h145
        refine j_istore C 6 [(6, .int (sI a147)), (5, .int (sI a3)), (0, .ref (ad 87)), (1, .ref (ad v1)), (2, .ref (ad 12)), (3, .long (sJ a3))] dX1_carryOut_35 (by decide) rfl ?_
        refine j_aload_n C 2 0 dX1_carryOut_37 rfl rfl ?_
        refine j_aload_n C 3 1 dX1_carryOut_38 rfl rfl ?_
        refine j_aload_n C 4 2 dX1_carryOut_39 rfl rfl ?_
        refine j_iload C 0 dX1_carryOut_40 rfl ?_
        have u148A := apx_o (M := M0) (N := M144) (p := v1) (ple_f ((FX.rf.tr fM144 (by decide)) : FX [12] M0 M144) cv1 (by decide)) (((FX.rf.tr fM144 (by decide)) : FX [12] M0 M144).cell (by decide)) (((FX.rf.tr fM144 (by decide)) : FX [12] M0 M144).cell (by decide)) (((FX.rf.tr fM144 (by decide)) : FX [12] M0 M144).cell (by decide)) (by omega) (by omega) (by omega)
        have u148L := law_p (M := M0) (N := M144) (p := v1) (ple_f (p := v1) ((FX.rf.tr fM144 (by decide)) : FX [12] M0 M144) cv1 (by decide)) (by omega) (by omega) (by omega)
        have u148e : rwX M144 v1 12 = pdS (rwX M0 v1 12) := b01_e (by omega)
        have u148R : b01 (PRR (rwX M144 v1 12)) = 1 := by rw [u148e]; exact b01_i (prr_pd (b01_e (P := PRR (rwX M0 v1 12)) (by omega)))
        refine j_callVi C (d := 4) (As := [.ref (ad v1), .ref (ad 12), .int (sI a147)]) (st := []) 87 (s_lt rfl rfl) (s_kc (c := 1) rfl rfl) (by decide) rfl (s2_X1_visitBy hM144 hpr cv1 a147 (by omega) (by omega) (by omega) (by omega)) gX1_carryOut_X1_visitBy rfl hdX1_visitBy (by decide) (Nat.le_of_ble_eq_true rfl) dX1_carryOut_42 rfl (fun r149 M150 h151 => ?_)
        obtain ⟨a153, rfl, hM150, fM150, h152⟩ := h151
        have u154e : rwX M144 v1 12 = pdS (rwX M0 v1 12) := b01_e (by omega)
        have u154d := pd_v (f := (rwX M0 v1 12)) (N := rwX M150 v1 12) (a := a153) (fun b => bn_m1 _ b) (by rw [← u154e, show pdA (rwX M0 v1 12) = a147 by omega]; omega) (by rw [← u154e, show pdA (rwX M0 v1 12) = a147 by omega]; omega)
        have u154k := co_d (f := (rwX M0 v1 12)) (N := rwX M150 v1 12) (v := a3) (a := a153) (by omega) u154d
        have u154d1 := u154d.1
        refine y_if_lt C 52 dX1_carryOut_45 (by decide) (by omega) (fun h155 => ?_) (fun h155 => ?_)
        · refine y_iconst C dX1_carryOut_52 ?_
          exact hret _ _ _ _ dX1_carryOut_53 ⟨0, rfl, hM150, ((FX.rf.tr fM144 (by decide)).tr fM150 (by decide)), by omega⟩
        · refine y_iconst C dX1_carryOut_48 ?_
          refine j_goto C 53 dX1_carryOut_49 (by decide) ?_
          exact hret _ _ _ _ dX1_carryOut_53 ⟨1, rfl, hM150, ((FX.rf.tr fM144 (by decide)).tr fM150 (by decide)), by omega⟩
    · refine y_bipush C dX1_carryOut_16 rfl ?_
      have u158k := co_n (f := (rwX M0 v1 12)) (N := rwX M0 v1 12) (v := a3) (a := -11) (by omega) rfl rfl
      exact hret _ _ _ _ dX1_carryOut_18 ⟨(-11), rfl, hM0, FX.rf, by omega⟩
