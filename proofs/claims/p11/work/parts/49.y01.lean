section
set_option maxHeartbeats 4000000 in
theorem s2_X1_drawDeed {l : Launch} {dC : Nat → ClassId} {dI : Nat → Nat → Nat} {ad : Nat → Nat} {cA : Nat → ClassId} {pr : Nat → Nat → Bool} {Kz : mm_M} {M0 : mm_M} (hM0 : INV pr Kz M0) (hpr : PX pr) (gp : Nat) (cgp : s_c gp = 6) : Ci l 1 yX1_drawDeed wsX1_drawDeed dC dI ad cA [.ref (ad 87), .ref (ad 12)] M0 (fun r M' => ∃ a : Int, r = sI a ∧ INV pr Kz M' ∧ FX [12] M0 M' ∧ (-1) ≤ a ∧ a ≤ 207 ∧ (a = dnV (rwX M0 gp 12)) ∧ (b01 (rwX M' gp 12 = dnS (rwX M0 gp 12)) = 1)) := by
  refine ci_of (cc := cX1_drawDeed) (maxL := 2) (ty := .int) (lv := [(0, .ref (ad 87)), (1, .ref (ad 12))]) (by decide) rfl (fun r M' hp => rfl) (Nat.le_of_ble_eq_true rfl) rfl ?_
  intro p e s m args below meth c A Q C hret
  refine j_aload_n C 1 1 dX1_drawDeed_0 rfl rfl ?_
  refine j_callVi C (d := 0) (As := []) (st := []) 12 (s_lt rfl rfl) (s_kc (c := 8) rfl rfl) (by decide) rfl (s2_X9_draw hM0 hpr) gX1_drawDeed_X9_draw rfl hdX9_draw (by decide) (Nat.le_of_ble_eq_true rfl) dX1_drawDeed_1 rfl (fun r101 M102 h103 => ?_)
  obtain ⟨a105, rfl, hM102, fM102, h104⟩ := h103
  have u106 : 0 ≤ a105 ∧ a105 ≤ 65535 := by exact ⟨h104.1, h104.2.1⟩
  have u107r : rwX M102 gp 12 = drS (rwX M0 gp 12) := rx_d cgp rfl fM102 (by exact h104.2.2.1)
  have u107a : a105 % 5 = drF (rwX M0 gp 12) 5 := by unfold drF; rw [rmI_e, show a105 = dwF (M0.1 12 8).toInt by exact h104.2.2.2]; rfl
  refine y_iconst C dX1_drawDeed_4 ?_
  refine y_irem C dX1_drawDeed_5 (by exact ⟨h104.1, ⟨(by (clear u107r u106 fM102 hM102 hret C cgp hpr hM0; omega)), ⟨(by decide), (by decide)⟩⟩⟩) ?_
  rcases (show ((a105 % 5) < 2 ∨ 4 < (a105 % 5)) ∨ (a105 % 5) = 2 ∨ (a105 % 5) = 3 ∨ (a105 % 5) = 4 by (clear u107r u106 fM102 hM102 hret C cgp hpr hM0; omega)) with h108 | h108 | h108 | h108
  · refine y_tabO C 63 dX1_drawDeed_6 (by decide) (by exact ⟨⟨(by (clear u107r u106 fM102 hM102 hret C cgp hpr hM0; omega)), (by (clear u107r u106 fM102 hM102 hret C cgp hpr hM0; omega))⟩, h108⟩) ?_
    refine y_iconst C dX1_drawDeed_63 ?_
    have u109k := dn_1 (f := (rwX M0 gp 12)) (g := rwX M102 gp 12) (a := a105 % 5) (b01_i u107r) u107a (by (clear u107r u106 fM102 hM102 hret C cgp hpr hM0; omega))
    exact hret _ _ _ _ dX1_drawDeed_64 ⟨(-1), rfl, hM102, (FX.rf.tr fM102 (by decide)), by exact ⟨(by decide), ⟨(by decide), ⟨u109k.1.symm, u109k.2⟩⟩⟩⟩
  · refine y_tabI C (off := 26) 32 2 dX1_drawDeed_6 (by decide) rfl (by decide) h108 ?_
    refine j_aload_n C 1 1 dX1_drawDeed_32 rfl rfl ?_
    refine j_callVi C (d := 0) (As := []) (st := []) 12 (s_lt rfl rfl) (s_kc (c := 8) rfl rfl) (by decide) rfl (s2_X9_draw hM102 hpr) gX1_drawDeed_X9_draw rfl hdX9_draw (by decide) (Nat.le_of_ble_eq_true rfl) dX1_drawDeed_33 rfl (fun r110 M111 h112 => ?_)
    obtain ⟨a114, rfl, hM111, fM111, h113⟩ := h112
    have u115 : 0 ≤ a114 ∧ a114 ≤ 65535 := by exact ⟨h113.1, h113.2.1⟩
    refine y_bipush C dX1_drawDeed_36 rfl ?_
    refine y_irem C dX1_drawDeed_38 (by exact ⟨h113.1, ⟨(by (clear u115 fM111 hM111 h108 u107a u107r u106 h104 fM102 hM102 hret C cgp hpr hM0; omega)), ⟨(by decide), (by decide)⟩⟩⟩) ?_
    have u116r : rwX M111 gp 12 = drS (rwX M102 gp 12) := rx_d cgp rfl fM111 (by exact h113.2.2.1)
    have u116b : (a114 % 6) = drF (rwX M102 gp 12) 6 := by unfold drF; rw [rmI_e, show a114 = dwF (M102.1 12 8).toInt by exact h113.2.2.2]; rfl
    have u116k := dn_2 (f := (rwX M0 gp 12)) (g := rwX M102 gp 12) (h := rwX M111 gp 12) (a := a105 % 5) (b := (a114 % 6)) (b01_i u107r) (b01_i u116r) u107a u116b (by exact h108)
    exact hret _ _ _ _ dX1_drawDeed_39 ⟨(a114 % 6), rfl, hM111, ((FX.rf.tr fM102 (by decide)).tr fM111 (by decide)), by exact ⟨(by (clear u116r u115 fM111 hM111 h108 u107a u107r u106 h104 fM102 hM102 hret C cgp hpr hM0; omega)), ⟨(by (clear u116r u115 fM111 hM111 h108 u107a u107r u106 h104 fM102 hM102 hret C cgp hpr hM0; omega)), ⟨u116k.1, u116k.2⟩⟩⟩⟩
  · refine y_tabI C (off := 34) 40 3 dX1_drawDeed_6 (by decide) rfl (by decide) h108 ?_
    refine y_bipush C dX1_drawDeed_40 rfl ?_
    refine j_aload_n C 1 1 dX1_drawDeed_42 rfl rfl ?_
    refine j_callVi C (d := 0) (As := []) (st := [.int (sI 100)]) 12 (s_lt rfl rfl) (s_kc (c := 8) rfl rfl) (by decide) rfl (s2_X9_draw hM102 hpr) gX1_drawDeed_X9_draw rfl hdX9_draw (by decide) (Nat.le_of_ble_eq_true rfl) dX1_drawDeed_43 rfl (fun r117 M118 h119 => ?_)
    obtain ⟨a121, rfl, hM118, fM118, h120⟩ := h119
    have u122 : 0 ≤ a121 ∧ a121 ≤ 65535 := by exact ⟨h120.1, h120.2.1⟩
    refine y_bipush C dX1_drawDeed_46 rfl ?_
    refine y_irem C dX1_drawDeed_48 (by exact ⟨h120.1, ⟨(by (clear u122 fM118 hM118 h108 u107a u107r u106 h104 fM102 hM102 hret C cgp hpr hM0; omega)), ⟨(by decide), (by decide)⟩⟩⟩) ?_
    refine y_iadd C dX1_drawDeed_49 ?_
    have u123r : rwX M118 gp 12 = drS (rwX M102 gp 12) := rx_d cgp rfl fM118 (by exact h120.2.2.1)
    have u123b : (a121 % 8) = drF (rwX M102 gp 12) 8 := by unfold drF; rw [rmI_e, show a121 = dwF (M102.1 12 8).toInt by exact h120.2.2.2]; rfl
    have u123k := dn_3 (f := (rwX M0 gp 12)) (g := rwX M102 gp 12) (h := rwX M118 gp 12) (a := a105 % 5) (b := (a121 % 8)) (b01_i u107r) (b01_i u123r) u107a u123b (by (clear u123b u123r u122 h120 fM118 hM118 u107r u106 fM102 hM102 hret C cgp hpr hM0; omega))
    exact hret _ _ _ _ dX1_drawDeed_50 ⟨(100 + (a121 % 8)), rfl, hM118, ((FX.rf.tr fM102 (by decide)).tr fM118 (by decide)), by exact ⟨(by (clear u123r u122 fM118 hM118 u107r u106 fM102 hM102 hret C cgp hpr hM0; omega)), ⟨(by (clear u123r u122 fM118 hM118 u107r u106 fM102 hM102 hret C cgp hpr hM0; omega)), ⟨(by (clear u123r u122 fM118 hM118 u107r u106 fM102 hM102 hret C cgp hpr hM0; omega)), u123k.2⟩⟩⟩⟩
  · refine y_tabI C (off := 45) 51 4 dX1_drawDeed_6 (by decide) rfl (by decide) h108 ?_
    refine y_sipush C dX1_drawDeed_51 rfl ?_
    refine j_aload_n C 1 1 dX1_drawDeed_54 rfl rfl ?_
    refine j_callVi C (d := 0) (As := []) (st := [.int (sI 200)]) 12 (s_lt rfl rfl) (s_kc (c := 8) rfl rfl) (by decide) rfl (s2_X9_draw hM102 hpr) gX1_drawDeed_X9_draw rfl hdX9_draw (by decide) (Nat.le_of_ble_eq_true rfl) dX1_drawDeed_55 rfl (fun r124 M125 h126 => ?_)
    obtain ⟨a128, rfl, hM125, fM125, h127⟩ := h126
    have u129 : 0 ≤ a128 ∧ a128 ≤ 65535 := by exact ⟨h127.1, h127.2.1⟩
    refine y_bipush C dX1_drawDeed_58 rfl ?_
    refine y_irem C dX1_drawDeed_60 (by exact ⟨h127.1, ⟨(by omega), ⟨(by decide), (by decide)⟩⟩⟩) ?_
    refine y_iadd C dX1_drawDeed_61 ?_
    have u130r : rwX M125 gp 12 = drS (rwX M102 gp 12) := rx_d cgp rfl fM125 (by exact h127.2.2.1)
    have u130b : (a128 % 8) = drF (rwX M102 gp 12) 8 := by unfold drF; rw [rmI_e, show a128 = dwF (M102.1 12 8).toInt by exact h127.2.2.2]; rfl
    have u130k := dn_3 (f := (rwX M0 gp 12)) (g := rwX M102 gp 12) (h := rwX M125 gp 12) (a := a105 % 5) (b := (a128 % 8)) (b01_i u107r) (b01_i u130r) u107a u130b (by (clear u130b u130r u129 h127 fM125 hM125 u107r u106 fM102 hM102 hret C cgp hpr hM0; omega))
    exact hret _ _ _ _ dX1_drawDeed_62 ⟨(200 + (a128 % 8)), rfl, hM125, ((FX.rf.tr fM102 (by decide)).tr fM125 (by decide)), by exact ⟨(by (clear u130r u129 fM125 hM125 u107r u106 fM102 hM102 hret C cgp hpr hM0; omega)), ⟨(by (clear u130r u129 fM125 hM125 u107r u106 fM102 hM102 hret C cgp hpr hM0; omega)), ⟨(by (clear u130r u129 fM125 hM125 u107r u106 fM102 hM102 hret C cgp hpr hM0; omega)), u130k.2⟩⟩⟩⟩
set_option maxHeartbeats 4000000 in
theorem s3_X9_holds {l : Launch} {dC : Nat → ClassId} {dI : Nat → Nat → Nat} {ad : Nat → Nat} {cA : Nat → ClassId} {pr : Nat → Nat → Bool} {Kz : mm_M} {M0 : mm_M} (hM0 : INV pr Kz M0) (a1 : Int) (ha1 : -2147483648 ≤ a1 ∧ a1 ≤ 2147483647) : Ci l 0 yX9_holds wsX9_holds dC dI ad cA [.ref (ad 15), .int (sI a1)] M0 (fun r M' => ∃ a : Int, r = sI a ∧ M0 = M' ∧ 0 ≤ a ∧ a ≤ 1 ∧ ((a1 < 0 ∧ a = 0) ∨ (0 ≤ (M0.1 15 0).toInt ∧ (M0.1 15 0).toInt ≤ 8 ∧ 0 ≤ a1 ∧ (M0.1 15 0).toInt ≤ a1 ∧ a = 0) ∨ (1 ≤ (M0.1 15 0).toInt ∧ (M0.1 15 0).toInt ≤ 8 ∧ 0 ≤ a1 ∧ a1 < (M0.1 15 0).toInt ∧ a = 1))) := by
  refine ci_of (cc := cX9_holds) (maxL := 2) (ty := .boolean) (lv := [(0, .ref (ad 15)), (1, .int (sI a1))]) (by decide) rfl (fun r M' hp => by obtain ⟨a, rfl, -, h⟩ := hp; rcases (show a = 0 ∨ a = 1 by omega) with rfl | rfl <;> rfl) (Nat.le_of_ble_eq_true rfl) rfl ?_
  intro p e s m args below meth c A Q C hret
  refine j_iload_n C 1 1 dX9_holds_0 rfl rfl ?_
  refine y_if_lt C 16 dX9_holds_1 (by decide) (by exact ⟨ha1.1, ha1.2⟩) (fun h101 => ?_) (fun h101 => ?_)
  · refine y_iconst C dX9_holds_16 ?_
    exact hret _ _ _ _ dX9_holds_17 ⟨0, rfl, rfl, by exact ⟨(by decide), ⟨(by decide), (by omega)⟩⟩⟩
  · refine j_iload_n C 1 1 dX9_holds_4 rfl rfl ?_
    refine j_aload_n C 0 0 dX9_holds_5 rfl rfl ?_
    refine y_getI C 8 _ _ fX9_holds_9 rfl rfl ft_8_0 sb_8_0 hM0 dX9_holds_6 (fun a102 ea102 la102 ua102 => ?_)
    obtain rfl : a102 = (M0.1 15 0).toInt := ea102
    refine y_icmp_ge C 16 dX9_holds_9 (by decide) (by exact ⟨⟨ha1.1, ha1.2⟩, ⟨(by omega), (by omega)⟩⟩) (fun h104 => ?_) (fun h104 => ?_)
    · refine y_iconst C dX9_holds_16 ?_
      exact hret _ _ _ _ dX9_holds_17 ⟨0, rfl, rfl, by exact ⟨(by decide), ⟨(by decide), (by omega)⟩⟩⟩
    · refine y_iconst C dX9_holds_12 ?_
      refine j_goto C 17 dX9_holds_13 (by decide) ?_
      exact hret _ _ _ _ dX9_holds_17 ⟨1, rfl, rfl, by exact ⟨(by decide), ⟨(by decide), (by omega)⟩⟩⟩
set_option maxHeartbeats 4000000 in
theorem s3_X9_everyKind {l : Launch} {dC : Nat → ClassId} {dI : Nat → Nat → Nat} {ad : Nat → Nat} {cA : Nat → ClassId} {pr : Nat → Nat → Bool} {Kz : mm_M} {M0 : mm_M} (hM0 : INV pr Kz M0)  : Ci l 0 yX9_everyKind wsX9_everyKind dC dI ad cA [.ref (ad 15)] M0 (fun r M' => ∃ a : Int, r = sI a ∧ M0 = M' ∧ 0 ≤ a ∧ a ≤ 255 ∧ (a = (pw2 (M0.1 15 0).toInt - 1))) := by
  refine ci_of (cc := cX9_everyKind) (maxL := 1) (ty := .int) (lv := [(0, .ref (ad 15))]) (by decide) rfl (fun r M' hp => rfl) (Nat.le_of_ble_eq_true rfl) rfl ?_
  intro p e s m args below meth c A Q C hret
  refine y_iconst C dX9_everyKind_0 ?_
  refine j_aload_n C 0 0 dX9_everyKind_1 rfl rfl ?_
  refine y_getI C 8 _ _ fX9_everyKind_9 rfl rfl ft_8_0 sb_8_0 hM0 dX9_everyKind_2 (fun a101 ea101 la101 ua101 => ?_)
  obtain rfl : a101 = (M0.1 15 0).toInt := ea101
  refine e_shl1 C 8 256 dX9_everyKind_5 rfl (by decide) (by exact ⟨la101, (by omega)⟩) (fun lb103 ub103 => ?_)
  refine y_iconst C dX9_everyKind_6 ?_
  refine y_isub C dX9_everyKind_7 ?_
  exact hret _ _ _ _ dX9_everyKind_8 ⟨((pw2 (M0.1 15 0).toInt) - 1), rfl, rfl, by omega⟩
set_option maxHeartbeats 4000000 in
theorem s3_X9_isShut {l : Launch} {dC : Nat → ClassId} {dI : Nat → Nat → Nat} {ad : Nat → Nat} {cA : Nat → ClassId} {pr : Nat → Nat → Bool} {Kz : mm_M} {M0 : mm_M} (hM0 : INV pr Kz M0)  : Ci l 1 yX9_isShut wsX9_isShut dC dI ad cA [.ref (ad 15)] M0 (fun r M' => ∃ a : Int, r = sI a ∧ M0 = M' ∧ 0 ≤ a ∧ a ≤ 1 ∧ (a = 1 ∧ andI (andI (pw2 (M0.1 15 0).toInt - 1) (-1 - (M0.1 15 4).toInt)) (-1 - (M0.1 15 3).toInt) = 0 ∨ a = 0 ∧ ¬ andI (andI (pw2 (M0.1 15 0).toInt - 1) (-1 - (M0.1 15 4).toInt)) (-1 - (M0.1 15 3).toInt) = 0)) := by
  refine ci_of (cc := cX9_isShut) (maxL := 1) (ty := .boolean) (lv := [(0, .ref (ad 15))]) (by decide) rfl (fun r M' hp => by obtain ⟨a, rfl, -, h⟩ := hp; rcases (show a = 0 ∨ a = 1 by omega) with rfl | rfl <;> rfl) (Nat.le_of_ble_eq_true rfl) rfl ?_
  intro p e s m args below meth c A Q C hret
  refine j_aload_n C 0 0 dX9_isShut_0 rfl rfl ?_
  refine j_callVi C (d := 0) (As := []) (st := []) 15 (s_lt rfl rfl) (s_kc (c := 8) rfl rfl) (by decide) rfl (s3_X9_everyKind hM0) gX9_isShut_X9_everyKind rfl hdX9_everyKind (by decide) (Nat.le_of_ble_eq_true rfl) dX9_isShut_1 rfl (fun r101 M102 h103 => ?_)
  obtain ⟨a105, rfl, rfl, h104⟩ := h103
  obtain rfl : a105 = (pw2 (M0.1 15 0).toInt - 1) := by exact h104.2.2
  refine j_aload_n C 0 0 dX9_isShut_4 rfl rfl ?_
  refine y_getI C 8 _ _ fX9_isShut_25 rfl rfl ft_8_4 sb_8_4 hM0 dX9_isShut_5 (fun a106 ea106 la106 ua106 => ?_)
  obtain rfl : a106 = (M0.1 15 4).toInt := ea106
  refine y_iconst C dX9_isShut_8 ?_
  refine y_not C dX9_isShut_9 ?_
  refine e_iandL C dX9_isShut_10 (by exact ⟨h104.1, (by omega)⟩) (fun lb108 ub108 => ?_)
  refine j_aload_n C 0 0 dX9_isShut_11 rfl rfl ?_
  refine y_getI C 8 _ _ fX9_isShut_22 rfl rfl ft_8_3 sb_8_3 hM0 dX9_isShut_12 (fun a109 ea109 la109 ua109 => ?_)
  obtain rfl : a109 = (M0.1 15 3).toInt := ea109
  refine y_iconst C dX9_isShut_15 ?_
  refine y_not C dX9_isShut_16 ?_
  refine e_iandL C dX9_isShut_17 (by exact ⟨lb108, (by omega)⟩) (fun lb111 ub111 => ?_)
  refine y_if_ne C 25 dX9_isShut_18 (by decide) (by (clear ua109 la109 ua106 la106 hret C hM0; omega)) (fun h112 => ?_) (fun h112 => ?_)
  · refine y_iconst C dX9_isShut_25 ?_
    exact hret _ _ _ _ dX9_isShut_26 ⟨0, rfl, rfl, by exact ⟨(by decide), ⟨(by decide), (by omega)⟩⟩⟩
  · refine y_iconst C dX9_isShut_21 ?_
    refine j_goto C 26 dX9_isShut_22 (by decide) ?_
    exact hret _ _ _ _ dX9_isShut_26 ⟨1, rfl, rfl, by exact ⟨(by decide), ⟨(by decide), (by omega)⟩⟩⟩
set_option maxHeartbeats 4000000 in
theorem s3_X1_giveAway {l : Launch} {dC : Nat → ClassId} {dI : Nat → Nat → Nat} {ad : Nat → Nat} {cA : Nat → ClassId} {pr : Nat → Nat → Bool} {Kz : mm_M} {M0 : mm_M} (hM0 : INV pr Kz M0) (hpr : PX pr) (a2 : Int) (ha2 : -2147483648 ≤ a2 ∧ a2 ≤ 2147483647) (gp : Nat) (cgp : s_c gp = 6) : Ci l 2 yX1_giveAway wsX1_giveAway dC dI ad cA [.ref (ad 87), .ref (ad 15), .int (sI a2)] M0 (fun r M' => ∃ a : Int, r = sI a ∧ INV pr Kz M' ∧ FX [15] M0 M' ∧ (-2147483648) ≤ a ∧ a ≤ 2147483647 ∧ (a = aI (wkF (rwX M0 gp 15) a2) (addI ((rwX M0 gp 15) 30).toInt 1)) ∧ (b01 (rwX M' gp 15 = dvS (wkF (rwX M0 gp 15) a2) (rwX M0 gp 15) (gsS (rwX M0 gp 15))) = 1)) := by
  refine ci_of (cc := cX1_giveAway) (maxL := 3) (ty := .int) (lv := [(0, .ref (ad 87)), (1, .ref (ad 15)), (2, .int (sI a2))]) (by decide) rfl (fun r M' hp => rfl) (Nat.le_of_ble_eq_true rfl) rfl ?_
  intro p e s m args below meth c A Q C hret
  refine j_aload_n C 1 1 dX1_giveAway_0 rfl rfl ?_
  refine j_iload_n C 2 2 dX1_giveAway_1 rfl rfl ?_
  refine j_callVi C (d := 0) (As := [.int (sI a2)]) (st := []) 15 (s_lt rfl rfl) (s_kc (c := 8) rfl rfl) (by decide) rfl (s3_X9_holds hM0 a2 (by exact ⟨ha2.1, ha2.2⟩)) gX1_giveAway_X9_holds rfl hdX9_holds (by decide) (Nat.le_of_ble_eq_true rfl) dX1_giveAway_2 rfl (fun r101 M102 h103 => ?_)
  obtain ⟨a105, rfl, rfl, h104⟩ := h103
  refine y_if_ne C 11 dX1_giveAway_5 (by decide) (by omega) (fun h106 => ?_) (fun h106 => ?_)
  · refine j_aload_n C 1 1 dX1_giveAway_11 rfl rfl ?_
    refine j_callVi C (d := 1) (As := []) (st := []) 15 (s_lt rfl rfl) (s_kc (c := 8) rfl rfl) (by decide) rfl (s3_X9_isShut hM0) gX1_giveAway_X9_isShut rfl hdX9_isShut (by decide) (Nat.le_of_ble_eq_true rfl) dX1_giveAway_12 rfl (fun r107 M108 h109 => ?_)
    obtain ⟨a111, rfl, rfl, h110⟩ := h109
    refine y_if_eq C 21 dX1_giveAway_15 (by decide) (by omega) (fun h112 => ?_) (fun h112 => ?_)
    · refine j_aload_n C 1 1 dX1_giveAway_21 rfl rfl ?_
      refine j_dup C dX1_giveAway_22 rfl ?_
      refine y_getI C 8 _ _ fX1_giveAway_54 rfl rfl ft_8_6 sb_8_6 hM0 dX1_giveAway_23 (fun a113 ea113 la113 ua113 => ?_)
      obtain rfl : a113 = (M0.1 15 6).toInt := ea113
      refine y_iconst C dX1_giveAway_26 ?_
      refine e_iadd C dX1_giveAway_27 (fun lb115 ub115 => ?_)
      refine y_putIF C 8 qX1_giveAway_54 rfl rfl ft_8_6 sb_8_6 hM0 (PX.w hpr rfl rfl) dX1_giveAway_28 (fun M116 eM116 hM116 => ?_)
      refine j_aload_n C 1 1 dX1_giveAway_31 rfl rfl ?_
      refine y_getI C 8 _ _ fX1_giveAway_54 rfl rfl ft_8_6 sb_8_6 hM116 dX1_giveAway_32 (fun a117 ea117 la117 ua117 => ?_)
      obtain rfl : a117 = (addI (M0.1 15 6).toInt 1) := (ea117).trans (s_wr eM116 (by exact ⟨lb115, ub115⟩))
      have u119s := shY M0 gp 15
      have u119K : (rwX M0 gp 15 26).toInt = (M0.1 15 0).toInt := rfl
      have u119b := hM0.rd (i := 15) (c := 8) (k := 0) rfl (show s_b 8 0 = (0, 8) from rfl)
      have u119w := wkF_s (rwX M0 gp 15) a2
      have u119r : rwX M116 gp 15 = gsS (rwX M0 gp 15) := rx_30 cgp rfl eM116
      have u119k := dv_y (w := wkF (rwX M0 gp 15) a2) (a := addI ((rwX M0 gp 15) 30).toInt 1) (f := (rwX M0 gp 15)) (g := gsS (rwX M0 gp 15)) (N := rwX M116 gp 15) (by (clear u119r u119b ua117 la117 ea117 hM116 eM116 ub115 lb115 ua113 la113 hret C cgp hpr hM0; omega)) u119r
      have u119a : aI (wkF (rwX M0 gp 15) a2) (addI ((rwX M0 gp 15) 30).toInt 1) = (addI (M0.1 15 6).toInt 1) := u119k.2.trans rfl
      exact hret _ _ _ _ dX1_giveAway_35 ⟨(addI (M0.1 15 6).toInt 1), rfl, hM116, (FX.rf.wI eM116 (by decide)), by exact ⟨lb115, ⟨ub115, ⟨u119a.symm, u119k.1⟩⟩⟩⟩
    · refine y_bipush C dX1_giveAway_18 rfl ?_
      have u120s := shY M0 gp 15
      have u120K : (rwX M0 gp 15 26).toInt = (M0.1 15 0).toInt := rfl
      have u120b := hM0.rd (i := 15) (c := 8) (k := 0) rfl (show s_b 8 0 = (0, 8) from rfl)
      have u120w := wkF_s (rwX M0 gp 15) a2
      have u120k := dv_n (w := wkF (rwX M0 gp 15) a2) (f := (rwX M0 gp 15)) (N := (rwX M0 gp 15)) (by (clear u120b u120K h106 h104 hret C cgp ha2 hpr hM0; omega)) rfl (gsS (rwX M0 gp 15)) (addI ((rwX M0 gp 15) 30).toInt 1)
      exact hret _ _ _ _ dX1_giveAway_20 ⟨(-12), rfl, hM0, FX.rf, by exact ⟨(by decide), ⟨(by decide), ⟨(by (clear u120b hret C cgp hpr hM0; omega)), u120k.1⟩⟩⟩⟩
  · refine y_bipush C dX1_giveAway_8 rfl ?_
    have u121s := shY M0 gp 15
    have u121K : (rwX M0 gp 15 26).toInt = (M0.1 15 0).toInt := rfl
    have u121b := hM0.rd (i := 15) (c := 8) (k := 0) rfl (show s_b 8 0 = (0, 8) from rfl)
    have u121w := wkF_s (rwX M0 gp 15) a2
    have u121k := dv_n (w := wkF (rwX M0 gp 15) a2) (f := (rwX M0 gp 15)) (N := (rwX M0 gp 15)) (by (clear u121b hret C cgp hpr hM0; omega)) rfl (gsS (rwX M0 gp 15)) (addI ((rwX M0 gp 15) 30).toInt 1)
    exact hret _ _ _ _ dX1_giveAway_10 ⟨(-11), rfl, hM0, FX.rf, by exact ⟨(by decide), ⟨(by decide), ⟨(by (clear u121b hret C cgp hpr hM0; omega)), u121k.1⟩⟩⟩⟩
set_option maxHeartbeats 4000000 in
theorem s3_X1_turn {l : Launch} {dC : Nat → ClassId} {dI : Nat → Nat → Nat} {ad : Nat → Nat} {cA : Nat → ClassId} {pr : Nat → Nat → Bool} {Kz : mm_M} {M0 : mm_M} (hM0 : INV pr Kz M0) (hpr : PX pr) (a2 : Int) (ha2 : -2147483648 ≤ a2 ∧ a2 ≤ 2147483647) (gp : Nat) (cgp : s_c gp = 6) : Ci l 2 yX1_turn wsX1_turn dC dI ad cA [.ref (ad 87), .ref (ad 15), .int (sI a2)] M0 (fun r M' => ∃ a : Int, r = sI a ∧ INV pr Kz M' ∧ FX [15] M0 M' ∧ (-12) ≤ a ∧ a ≤ 1 ∧ (a = aI (wkF (rwX M0 gp 15) a2) (andI (shrI (xorI ((rwX M0 gp 15) 28).toInt (pw2 a2)) a2) 1)) ∧ (b01 (rwX M' gp 15 = dvS (wkF (rwX M0 gp 15) a2) (rwX M0 gp 15) (hsS (rwX M0 gp 15) a2)) = 1)) := by
  refine ci_of (cc := cX1_turn) (maxL := 3) (ty := .int) (lv := [(0, .ref (ad 87)), (1, .ref (ad 15)), (2, .int (sI a2))]) (by decide) rfl (fun r M' hp => rfl) (Nat.le_of_ble_eq_true rfl) rfl ?_
  intro p e s m args below meth c A Q C hret
  refine j_aload_n C 1 1 dX1_turn_0 rfl rfl ?_
  refine j_iload_n C 2 2 dX1_turn_1 rfl rfl ?_
  refine j_callVi C (d := 0) (As := [.int (sI a2)]) (st := []) 15 (s_lt rfl rfl) (s_kc (c := 8) rfl rfl) (by decide) rfl (s3_X9_holds hM0 a2 (by exact ⟨ha2.1, ha2.2⟩)) gX1_turn_X9_holds rfl hdX9_holds (by decide) (Nat.le_of_ble_eq_true rfl) dX1_turn_2 rfl (fun r101 M102 h103 => ?_)
  obtain ⟨a105, rfl, rfl, h104⟩ := h103
  refine y_if_ne C 11 dX1_turn_5 (by decide) (by omega) (fun h106 => ?_) (fun h106 => ?_)
  · refine j_aload_n C 1 1 dX1_turn_11 rfl rfl ?_
    refine j_callVi C (d := 1) (As := []) (st := []) 15 (s_lt rfl rfl) (s_kc (c := 8) rfl rfl) (by decide) rfl (s3_X9_isShut hM0) gX1_turn_X9_isShut rfl hdX9_isShut (by decide) (Nat.le_of_ble_eq_true rfl) dX1_turn_12 rfl (fun r107 M108 h109 => ?_)
    obtain ⟨a111, rfl, rfl, h110⟩ := h109
    refine y_if_eq C 21 dX1_turn_15 (by decide) (by omega) (fun h112 => ?_) (fun h112 => ?_)
    · refine j_aload_n C 1 1 dX1_turn_21 rfl rfl ?_
      refine j_dup C dX1_turn_22 rfl ?_
      refine y_getI C 8 _ _ fX1_turn_36 rfl rfl ft_8_4 sb_8_4 hM0 dX1_turn_23 (fun a113 ea113 la113 ua113 => ?_)
      obtain rfl : a113 = (M0.1 15 4).toInt := ea113
      refine y_iconst C dX1_turn_26 ?_
      refine j_iload_n C 2 2 dX1_turn_27 rfl rfl ?_
      refine e_shl1 C 7 128 dX1_turn_28 rfl (by decide) (by (clear ua113 la113 hret C cgp hpr hM0; omega)) (fun lb115 ub115 => ?_)
      refine e_ixorN C 8 255 dX1_turn_29 rfl (by decide) (by exact ⟨la113, ⟨ua113, ⟨(by (clear h112 h110 h106 h104 hret C cgp ha2 hpr hM0; omega)), (by (clear h112 h110 h106 h104 hret C cgp ha2 hpr hM0; omega))⟩⟩⟩) (fun lb116 ub116 => ?_)
      refine y_putI C 8 _ _ qX1_turn_36 rfl rfl ft_8_4 sb_8_4 hM0 (PX.w hpr rfl rfl) dX1_turn_30 (by exact ⟨⟨(by (clear ub115 lb115 ua113 la113 h112 h110 h106 h104 hret C cgp ha2 hpr hM0; omega)), (by (clear ub115 lb115 ua113 la113 h112 h110 h106 h104 hret C cgp ha2 hpr hM0; omega))⟩, ⟨lb116, ub116⟩⟩) (fun M117 eM117 hM117 => ?_)
      refine j_aload_n C 1 1 dX1_turn_33 rfl rfl ?_
      refine y_getI C 8 _ _ fX1_turn_36 rfl rfl ft_8_4 sb_8_4 hM117 dX1_turn_34 (fun a118 ea118 la118 ua118 => ?_)
      obtain rfl : a118 = (xorI (M0.1 15 4).toInt (pw2 a2)) := (ea118).trans (s_wr eM117 (by omega))
      refine j_iload_n C 2 2 dX1_turn_37 rfl rfl ?_
      refine e_ishrP C dX1_turn_38 (by exact ⟨lb116, (by (clear ua118 la118 hM117 eM117 ub115 lb115 ua113 la113 h112 h110 h106 h104 hret C cgp ha2 hpr hM0; omega))⟩) (fun lb120 ub120 => ?_)
      refine y_iconst C dX1_turn_39 ?_
      refine e_iandR C dX1_turn_40 (by exact ⟨(by decide), (by decide)⟩) (fun lb121 ub121 => ?_)
      have u122s := shY M0 gp 15
      have u122K : (rwX M0 gp 15 26).toInt = (M0.1 15 0).toInt := rfl
      have u122b := hM0.rd (i := 15) (c := 8) (k := 0) rfl (show s_b 8 0 = (0, 8) from rfl)
      have u122w := wkF_s (rwX M0 gp 15) a2
      have u122r : rwX M117 gp 15 = hsS (rwX M0 gp 15) a2 := rx_28 cgp rfl eM117
      have u122k := dv_y (w := wkF (rwX M0 gp 15) a2) (a := andI (shrI (xorI ((rwX M0 gp 15) 28).toInt (pw2 a2)) a2) 1) (f := (rwX M0 gp 15)) (g := hsS (rwX M0 gp 15) a2) (N := rwX M117 gp 15) (by (clear u122r u122b ub121 lb121 ub120 lb120 ua118 la118 ea118 hM117 eM117 ub116 lb116 ub115 lb115 ua113 la113 hret C cgp hpr hM0; omega)) u122r
      have u122a : aI (wkF (rwX M0 gp 15) a2) (andI (shrI (xorI ((rwX M0 gp 15) 28).toInt (pw2 a2)) a2) 1) = (andI (shrI (xorI (M0.1 15 4).toInt (pw2 a2)) a2) 1) := u122k.2.trans rfl
      exact hret _ _ _ _ dX1_turn_41 ⟨(andI (shrI (xorI (M0.1 15 4).toInt (pw2 a2)) a2) 1), rfl, hM117, (FX.rf.wI eM117 (by decide)), by exact ⟨(by (clear u122r u122w u122b u122K u122s ub120 lb120 ua118 la118 ea118 hM117 eM117 ub116 lb116 ub115 lb115 ua113 la113 h112 h110 h106 h104 hret C cgp ha2 hpr hM0; omega)), ⟨ub121, ⟨u122a.symm, u122k.1⟩⟩⟩⟩
    · refine y_bipush C dX1_turn_18 rfl ?_
      have u123s := shY M0 gp 15
      have u123K : (rwX M0 gp 15 26).toInt = (M0.1 15 0).toInt := rfl
      have u123b := hM0.rd (i := 15) (c := 8) (k := 0) rfl (show s_b 8 0 = (0, 8) from rfl)
      have u123w := wkF_s (rwX M0 gp 15) a2
      have u123k := dv_n (w := wkF (rwX M0 gp 15) a2) (f := (rwX M0 gp 15)) (N := (rwX M0 gp 15)) (by omega) rfl (hsS (rwX M0 gp 15) a2) (andI (shrI (xorI ((rwX M0 gp 15) 28).toInt (pw2 a2)) a2) 1)
      exact hret _ _ _ _ dX1_turn_20 ⟨(-12), rfl, hM0, FX.rf, by exact ⟨(by decide), ⟨(by decide), ⟨(by (clear u123b hret C cgp hpr hM0; omega)), u123k.1⟩⟩⟩⟩
  · refine y_bipush C dX1_turn_8 rfl ?_
    have u124s := shY M0 gp 15
    have u124K : (rwX M0 gp 15 26).toInt = (M0.1 15 0).toInt := rfl
    have u124b := hM0.rd (i := 15) (c := 8) (k := 0) rfl (show s_b 8 0 = (0, 8) from rfl)
    have u124w := wkF_s (rwX M0 gp 15) a2
    have u124k := dv_n (w := wkF (rwX M0 gp 15) a2) (f := (rwX M0 gp 15)) (N := (rwX M0 gp 15)) (by omega) rfl (hsS (rwX M0 gp 15) a2) (andI (shrI (xorI ((rwX M0 gp 15) 28).toInt (pw2 a2)) a2) 1)
    exact hret _ _ _ _ dX1_turn_10 ⟨(-11), rfl, hM0, FX.rf, by exact ⟨(by decide), ⟨(by decide), ⟨(by (clear u124b hret C cgp hpr hM0; omega)), u124k.1⟩⟩⟩⟩
set_option maxHeartbeats 4000000 in
theorem s3_X1_reprice {l : Launch} {dC : Nat → ClassId} {dI : Nat → Nat → Nat} {ad : Nat → Nat} {cA : Nat → ClassId} {pr : Nat → Nat → Bool} {Kz : mm_M} {M0 : mm_M} (hM0 : INV pr Kz M0) (hpr : PX pr) (a2 : Int) (ha2 : -2147483648 ≤ a2 ∧ a2 ≤ 2147483647) (a3 : Int) (ha3 : -2147483648 ≤ a3 ∧ a3 ≤ 2147483647) (gp : Nat) (cgp : s_c gp = 6) : Ci l 2 yX1_reprice wsX1_reprice dC dI ad cA [.ref (ad 87), .ref (ad 15), .int (sI a2), .int (sI a3)] M0 (fun r M' => ∃ a : Int, r = sI a ∧ INV pr Kz M' ∧ FX [16] M0 M' ∧ (-2147483648) ≤ a ∧ a ≤ 2147483647 ∧ (a = aI (wpF (rwX M0 gp 15) a2 a3) (((rwX M0 gp 15) (33 + a2).toNat).toInt)) ∧ (b01 (rwX M' gp 15 = dvS (wpF (rwX M0 gp 15) a2 a3) (rwX M0 gp 15) (psS (rwX M0 gp 15) a2 a3)) = 1)) := by
  refine ci_of (cc := cX1_reprice) (maxL := 5) (ty := .int) (lv := [(0, .ref (ad 87)), (1, .ref (ad 15)), (2, .int (sI a2)), (3, .int (sI a3))]) (by decide) rfl (fun r M' hp => rfl) (Nat.le_of_ble_eq_true rfl) rfl ?_
  intro p e s m args below meth c A Q C hret
  refine j_aload_n C 1 1 dX1_reprice_0 rfl rfl ?_
  refine j_iload_n C 2 2 dX1_reprice_1 rfl rfl ?_
  refine j_callVi C (d := 0) (As := [.int (sI a2)]) (st := []) 15 (s_lt rfl rfl) (s_kc (c := 8) rfl rfl) (by decide) rfl (s3_X9_holds hM0 a2 (by exact ⟨ha2.1, ha2.2⟩)) gX1_reprice_X9_holds rfl hdX9_holds (by decide) (Nat.le_of_ble_eq_true rfl) dX1_reprice_2 rfl (fun r101 M102 h103 => ?_)
  obtain ⟨a105, rfl, rfl, h104⟩ := h103
  refine y_if_eq C 19 dX1_reprice_5 (by decide) (by omega) (fun h106 => ?_) (fun h106 => ?_)
  · refine y_bipush C dX1_reprice_19 rfl ?_
    have u107s := shY M0 gp 15
    have u107K : (rwX M0 gp 15 26).toInt = (M0.1 15 0).toInt := rfl
    have u107b := hM0.rd (i := 15) (c := 8) (k := 0) rfl (show s_b 8 0 = (0, 8) from rfl)
    have u107w := wpF_s (rwX M0 gp 15) a2 a3
    have u107k := dv_n (w := wpF (rwX M0 gp 15) a2 a3) (f := (rwX M0 gp 15)) (N := (rwX M0 gp 15)) (by (clear u107b hret C cgp ha3 hpr hM0; omega)) rfl (psS (rwX M0 gp 15) a2 a3) (((rwX M0 gp 15) (33 + a2).toNat).toInt)
    exact hret _ _ _ _ dX1_reprice_21 ⟨(-11), rfl, hM0, FX.rf, by exact ⟨(by decide), ⟨(by decide), ⟨(by (clear u107b hret C cgp ha3 hpr hM0; omega)), u107k.1⟩⟩⟩⟩
  · refine j_iload_n C 3 3 dX1_reprice_8 rfl rfl ?_
    refine y_iconst C dX1_reprice_9 ?_
    refine y_icmp_lt C 19 dX1_reprice_10 (by decide) (by exact ⟨⟨ha3.1, ha3.2⟩, ⟨(by decide), (by decide)⟩⟩) (fun h108 => ?_) (fun h108 => ?_)
    · refine y_bipush C dX1_reprice_19 rfl ?_
      have u109s := shY M0 gp 15
      have u109K : (rwX M0 gp 15 26).toInt = (M0.1 15 0).toInt := rfl
      have u109b := hM0.rd (i := 15) (c := 8) (k := 0) rfl (show s_b 8 0 = (0, 8) from rfl)
      have u109w := wpF_s (rwX M0 gp 15) a2 a3
      have u109k := dv_n (w := wpF (rwX M0 gp 15) a2 a3) (f := (rwX M0 gp 15)) (N := (rwX M0 gp 15)) (by omega) rfl (psS (rwX M0 gp 15) a2 a3) (((rwX M0 gp 15) (33 + a2).toNat).toInt)
      exact hret _ _ _ _ dX1_reprice_21 ⟨(-11), rfl, hM0, FX.rf, by exact ⟨(by decide), ⟨(by decide), ⟨(by (clear u109b u109K u109s h106 h104 hret C cgp ha2 hpr hM0; omega)), u109k.1⟩⟩⟩⟩
    · refine j_iload_n C 3 3 dX1_reprice_13 rfl rfl ?_
      refine y_bipush C dX1_reprice_14 rfl ?_
      refine y_icmp_le C 22 dX1_reprice_16 (by decide) (by exact ⟨⟨ha3.1, ha3.2⟩, ⟨(by decide), (by decide)⟩⟩) (fun h110 => ?_) (fun h110 => ?_)
      · refine j_aload_n C 1 1 dX1_reprice_22 rfl rfl ?_
        refine j_callVi C (d := 1) (As := []) (st := []) 15 (s_lt rfl rfl) (s_kc (c := 8) rfl rfl) (by decide) rfl (s3_X9_isShut hM0) gX1_reprice_X9_isShut rfl hdX9_isShut (by decide) (Nat.le_of_ble_eq_true rfl) dX1_reprice_23 rfl (fun r111 M112 h113 => ?_)
        obtain ⟨a115, rfl, rfl, h114⟩ := h113
        refine y_if_eq C 32 dX1_reprice_26 (by decide) (by omega) (fun h116 => ?_) (fun h116 => ?_)
        · refine j_aload_n C 1 1 dX1_reprice_32 rfl rfl ?_
          refine y_getC C 8 16 fX1_reprice_46 rfl rfl ft_8_1 sm_8_1 rfl hM0 dX1_reprice_33 ?_
          refine j_iload_n C 2 2 dX1_reprice_36 rfl rfl ?_
          refine y_iald C 25 8 _ _ rfl rfl rfl ak_25 an_25 rfl (sb_25 _) hM0 dX1_reprice_37 (by (clear h110 h108 hret C cgp ha3 hpr hM0; omega)) (fun a117 ea117 la117 ua117 => ?_)
          obtain rfl : a117 = (M0.1 16 (a2).toNat).toInt := ea117
          refine j_istore C 4 [(4, .int (sI (M0.1 16 (a2).toNat).toInt)), (0, .ref (ad 87)), (1, .ref (ad 15)), (2, .int (sI a2)), (3, .int (sI a3))] dX1_reprice_38 (by decide) rfl ?_
          refine j_aload_n C 2 1 dX1_reprice_40 rfl rfl ?_
          refine y_getC C 8 16 fX1_reprice_46 rfl rfl ft_8_1 sm_8_1 rfl hM0 dX1_reprice_41 ?_
          refine j_iload_n C 3 2 dX1_reprice_44 rfl rfl ?_
          refine j_iload_n C 4 3 dX1_reprice_45 rfl rfl ?_
          refine y_iastF C 25 8 rfl rfl rfl ak_25 an_25 rfl (sb_25 _) hM0 (PX.w hpr rfl rfl) dX1_reprice_46 (by (clear ua117 la117 h110 h108 hret C cgp ha3 hpr hM0; omega)) (fun M118 eM118 hM118 => ?_)
          refine j_iload C 0 dX1_reprice_47 rfl ?_
          have u119s := shY M0 gp 15
          have u119K : (rwX M0 gp 15 26).toInt = (M0.1 15 0).toInt := rfl
          have u119b := hM0.rd (i := 15) (c := 8) (k := 0) rfl (show s_b 8 0 = (0, 8) from rfl)
          have u119w := wpF_s (rwX M0 gp 15) a2 a3
          have u119q : ((rwX M0 gp 15) (33 + a2).toNat).toInt = (M0.1 16 (a2).toNat).toInt := congrArg Int32.toInt (rx_k M0 gp 15 (k := a2) (by (clear hM118 eM118 ua117 la117 hret C cgp hpr hM0; omega))).1
          have u119r : rwX M118 gp 15 = psS (rwX M0 gp 15) a2 a3 := rx_p (v := 15) cgp rfl eM118 (by (clear u119q hM118 eM118 ua117 la117 hret C cgp hpr hM0; omega))
          have u119k := dv_y (w := wpF (rwX M0 gp 15) a2 a3) (a := ((rwX M0 gp 15) (33 + a2).toNat).toInt) (f := (rwX M0 gp 15)) (g := psS (rwX M0 gp 15) a2 a3) (N := rwX M118 gp 15) (by (clear u119r u119q u119b hM118 eM118 ua117 la117 hret C cgp hpr hM0; omega)) u119r
          exact hret _ _ _ _ dX1_reprice_49 ⟨(M0.1 16 (a2).toNat).toInt, rfl, hM118, (FX.rf.wI eM118 (by decide)), by exact ⟨la117, ⟨ua117, ⟨(by (clear u119r u119w u119b u119K u119s hM118 eM118 h116 h114 h110 h108 h106 h104 hret C cgp ha3 ha2 hpr hM0; omega)), u119k.1⟩⟩⟩⟩
        · refine y_bipush C dX1_reprice_29 rfl ?_
          have u120s := shY M0 gp 15
          have u120K : (rwX M0 gp 15 26).toInt = (M0.1 15 0).toInt := rfl
          have u120b := hM0.rd (i := 15) (c := 8) (k := 0) rfl (show s_b 8 0 = (0, 8) from rfl)
          have u120w := wpF_s (rwX M0 gp 15) a2 a3
          have u120k := dv_n (w := wpF (rwX M0 gp 15) a2 a3) (f := (rwX M0 gp 15)) (N := (rwX M0 gp 15)) (by (clear u120b u120K h110 h108 h106 h104 hret C cgp ha3 ha2 hpr hM0; omega)) rfl (psS (rwX M0 gp 15) a2 a3) (((rwX M0 gp 15) (33 + a2).toNat).toInt)
          exact hret _ _ _ _ dX1_reprice_31 ⟨(-12), rfl, hM0, FX.rf, by exact ⟨(by decide), ⟨(by decide), ⟨(by (clear u120b hret C cgp hpr hM0; omega)), u120k.1⟩⟩⟩⟩
      · refine y_bipush C dX1_reprice_19 rfl ?_
        have u121s := shY M0 gp 15
        have u121K : (rwX M0 gp 15 26).toInt = (M0.1 15 0).toInt := rfl
        have u121b := hM0.rd (i := 15) (c := 8) (k := 0) rfl (show s_b 8 0 = (0, 8) from rfl)
        have u121w := wpF_s (rwX M0 gp 15) a2 a3
        have u121k := dv_n (w := wpF (rwX M0 gp 15) a2 a3) (f := (rwX M0 gp 15)) (N := (rwX M0 gp 15)) (by omega) rfl (psS (rwX M0 gp 15) a2 a3) (((rwX M0 gp 15) (33 + a2).toNat).toInt)
        exact hret _ _ _ _ dX1_reprice_21 ⟨(-11), rfl, hM0, FX.rf, by exact ⟨(by decide), ⟨(by decide), ⟨(by (clear u121b u121K u121s h106 h104 hret C cgp ha2 hpr hM0; omega)), u121k.1⟩⟩⟩⟩
set_option maxHeartbeats 4000000 in
theorem s3_X9_draw {l : Launch} {dC : Nat → ClassId} {dI : Nat → Nat → Nat} {ad : Nat → Nat} {cA : Nat → ClassId} {pr : Nat → Nat → Bool} {Kz : mm_M} {M0 : mm_M} (hM0 : INV pr Kz M0) (hpr : PX pr)  : Ci l 0 yX9_draw wsX9_draw dC dI ad cA [.ref (ad 15)] M0 (fun r M' => ∃ a : Int, r = sI a ∧ INV pr Kz M' ∧ FX [15] M0 M' ∧ 0 ≤ a ∧ a ≤ 65535 ∧ (b01 (M'.1 15 = uR (M0.1 15) 8 (dxF (M0.1 15 8).toInt)) = 1) ∧ (a = dwF (M0.1 15 8).toInt)) := by
  refine ci_of (cc := cX9_draw) (maxL := 1) (ty := .int) (lv := [(0, .ref (ad 15))]) (by decide) rfl (fun r M' hp => rfl) (Nat.le_of_ble_eq_true rfl) rfl ?_
  intro p e s m args below meth c A Q C hret
  refine j_aload_n C 0 0 dX9_draw_0 rfl rfl ?_
  refine y_ldc C 1103515245 dX9_draw_1 kX9_draw_44 rfl ?_
  refine j_aload_n C 0 0 dX9_draw_3 rfl rfl ?_
  refine y_getI C 8 _ _ fX9_draw_37 rfl rfl ft_8_8 sb_8_8 hM0 dX9_draw_4 (fun a101 ea101 la101 ua101 => ?_)
  obtain rfl : a101 = (M0.1 15 8).toInt := ea101
  refine y_imulN C dX9_draw_7 (fun a103 la103 ua103 ha103 => ?_)
  refine y_sipush C dX9_draw_8 rfl ?_
  refine e_iadd C dX9_draw_11 (fun lb104 ub104 => ?_)
  refine y_putIF C 8 qX9_draw_37 rfl rfl ft_8_8 sb_8_8 hM0 (PX.w hpr rfl rfl) dX9_draw_12 (fun M105 eM105 hM105 => ?_)
  refine j_aload_n C 0 0 dX9_draw_15 rfl rfl ?_
  refine y_getI C 8 _ _ fX9_draw_37 rfl rfl ft_8_8 sb_8_8 hM105 dX9_draw_16 (fun a106 ea106 la106 ua106 => ?_)
  obtain rfl : a106 = (M105.1 15 8).toInt := ea106
  refine y_bipush C dX9_draw_19 rfl ?_
  refine e_iushr16 C dX9_draw_21 (fun lb108 ub108 => ?_)
  have u109d := dx_w (M := M0) (N := M105) (v := 15) eM105 ha103 rfl
  have u109e := u109d.2
  exact hret _ _ _ _ dX9_draw_22 ⟨(ushrI (M105.1 15 8).toInt 16), rfl, hM105, (FX.rf.wI eM105 (by decide)), by exact ⟨lb108, ⟨ub108, ⟨u109d.1, u109d.2⟩⟩⟩⟩
set_option maxHeartbeats 4000000 in
theorem s3_X1_passDay {l : Launch} {dC : Nat → ClassId} {dI : Nat → Nat → Nat} {ad : Nat → Nat} {cA : Nat → ClassId} {pr : Nat → Nat → Bool} {Kz : mm_M} {M0 : mm_M} (hM0 : INV pr Kz M0) (hpr : PX pr) {v1 : Nat} (cv1 : s_c v1 = 6) (hp0 : b01 (ODB M0 v1) = 1) : Ci l 1 yX1_passDay wsX1_passDay dC dI ad cA [.ref (ad 87), .ref (ad v1), .ref (ad 15)] M0 (fun r M' => ∃ a : Int, r = sI a ∧ INV pr Kz M' ∧ FX [15] M0 M' ∧ (-1) ≤ a ∧ a ≤ 5 ∧ (a = pdA (rwX M0 v1 15)) ∧ (b01 (rwX M' v1 15 = pdS (rwX M0 v1 15)) = 1)) := by
  refine ci_of (cc := cX1_passDay) (maxL := 4) (ty := .int) (lv := [(0, .ref (ad 87)), (1, .ref (ad v1)), (2, .ref (ad 15))]) (by decide) rfl (fun r M' hp => rfl) (Nat.le_of_ble_eq_true rfl) rfl ?_
  intro p e s m args below meth c A Q C hret
  refine j_aload_n C 2 2 dX1_passDay_0 rfl rfl ?_
  refine j_dup C dX1_passDay_1 rfl ?_
  refine y_getI C 8 _ _ fX1_passDay_63 rfl rfl ft_8_7 sb_8_7 hM0 dX1_passDay_2 (fun a101 ea101 la101 ua101 => ?_)
  obtain rfl : a101 = (M0.1 15 7).toInt := ea101
  refine y_iconst C dX1_passDay_5 ?_
  refine e_iadd C dX1_passDay_6 (fun lb103 ub103 => ?_)
  refine y_putIF C 8 qX1_passDay_63 rfl rfl ft_8_7 sb_8_7 hM0 (PX.w hpr rfl rfl) dX1_passDay_7 (fun M104 eM104 hM104 => ?_)
  have u105g : rwX M104 v1 15 = dgS (rwX M0 v1 15) := rx_31 cv1 rfl eM104
  have u105o : b01 (ODB M104 v1) = 1 := b01_i (by have z := b01_e (P := ODB M0 v1) (by exact hp0); have y := (ple_f (p := v1) ((FX.rf.wI eM104 (by decide)) : FX [15] M0 M104) cv1 (by decide)); unfold ODB; rw [y.1, y.2.2.2.1]; exact z)
  have u105b := hM104.rd (i := v1) (c := 6) (k := 0) cv1 (show s_b 6 0 = (0, 6) from rfl)
  have u105t : psF (rwX M104 v1 12) (M104.1 v1 0).toInt.toNat = ogF (dgS (rwX M0 v1 15)) := (ps_v M104 v1 12 15 (by omega)).trans (by rw [show psF (rwX M104 v1 15) (M104.1 v1 0).toInt.toNat = ogF (rwX M104 v1 15) from rfl, u105g])
  refine j_aload_n C 1 1 dX1_passDay_10 rfl rfl ?_
  refine j_callVi C (d := 0) (As := []) (st := []) v1 (s_lt cv1 rfl) (s_kc (c := 6) cv1 rfl) (by decide) rfl (s2_X7_together hM104 cv1 (by exact u105o)) gX1_passDay_X7_together rfl hdX7_together (by decide) (Nat.le_of_ble_eq_true rfl) dX1_passDay_11 rfl (fun r106 M107 h108 => ?_)
  obtain ⟨a110, rfl, rfl, h109⟩ := h108
  obtain rfl : a110 = (psF (rwX M104 v1 12) (M104.1 v1 0).toInt.toNat) := by exact h109.2.2
  refine j_istore_n C 3 [(3, .int (sI (psF (rwX M104 v1 12) (M104.1 v1 0).toInt.toNat))), (0, .ref (ad 87)), (1, .ref (ad v1)), (2, .ref (ad 15))] dX1_passDay_14 rfl (by decide) rfl ?_
  refine j_iload_n C 0 3 dX1_passDay_15 rfl rfl ?_
  refine y_if_le C 32 dX1_passDay_16 (by decide) (by (clear u105b u105o u105g hM104 eM104 ub103 lb103 ua101 la101 hret C hp0 cv1 hpr hM0; omega)) (fun h111 => ?_) (fun h111 => ?_)
  · refine y_iconst C dX1_passDay_32 ?_
    have u112k := pd_0 (f := (rwX M0 v1 15)) u105g (by (clear u105b u105o u105g hM104 eM104 ub103 lb103 ua101 la101 hret C hp0 cv1 hpr hM0; omega))
    exact hret _ _ _ _ dX1_passDay_33 ⟨(-1), rfl, hM104, (FX.rf.wI eM104 (by decide)), by exact ⟨(by decide), ⟨(by decide), ⟨u112k.1.symm, u112k.2⟩⟩⟩⟩
  · refine j_aload_n C 2 1 dX1_passDay_19 rfl rfl ?_
    refine j_aload_n C 3 2 dX1_passDay_20 rfl rfl ?_
    refine j_callVi C (d := 0) (As := []) (st := [.ref (ad v1)]) 15 (s_lt rfl rfl) (s_kc (c := 8) rfl rfl) (by decide) rfl (s3_X9_draw hM104 hpr) gX1_passDay_X9_draw rfl hdX9_draw (by decide) (Nat.le_of_ble_eq_true rfl) dX1_passDay_21 rfl (fun r113 M114 h115 => ?_)
    obtain ⟨a117, rfl, hM114, fM114, h116⟩ := h115
    refine j_iload_n C 0 3 dX1_passDay_24 rfl rfl ?_
    refine e_irem C dX1_passDay_25 (by (clear fM114 hM114 u105t u105b u105o u105g hM104 eM104 ub103 lb103 ua101 la101 hret C hp0 cv1 hpr hM0; exact ⟨h116.1, ⟨(by omega), ⟨(by omega), (by omega)⟩⟩⟩)) (fun lb118 ub118 => ?_)
    have u119h : rwX M114 v1 15 = deS (rwX M0 v1 15) := (rx_d cv1 rfl fM114 (by exact h116.2.2.1)).trans (congrArg drS u105g)
    have u119o : b01 (ODB M114 v1) = 1 := b01_i (by have z := b01_e (P := ODB M0 v1) (by exact hp0); have y := (ple_f (p := v1) (((FX.rf.wI eM104 (by decide)).tr fM114 (by decide)) : FX [15] M0 M114) cv1 (by decide)); unfold ODB; rw [y.1, y.2.2.2.1]; exact z)
    have u119p := (ple_f (p := v1) ((FX.rf.tr fM114 (by decide)) : FX [15] M104 M114) cv1 (by decide))
    have u119e : psF (rwX M114 v1 12) (M114.1 v1 0).toInt.toNat = psF (rwX M104 v1 12) (M104.1 v1 0).toInt.toNat := by rw [u119p.1]; exact psF_c _ (by (clear u119p u119o u119h ub118 lb118 h116 fM114 hM114 h111 h109 u105t u105o u105g hM104 eM104 ub103 lb103 ua101 la101 hret C hp0 cv1 hpr hM0; omega)) (fun k h0 h1 => by unfold rwX; rw [cl_20 M114 v1 12 _ (by exact ⟨h0, (by (clear u119p u119o u119h ub118 lb118 h116 fM114 hM114 h111 h109 u105t u105b u105o u105g hM104 eM104 ub103 lb103 ua101 la101 hret C hp0 cv1 hpr hM0; omega))⟩), cl_20 M104 v1 12 _ (by exact ⟨h0, (by omega)⟩), u119p.2.2.2.1])
    refine j_callVi C (d := 0) (As := [.int (sI (rmI a117 (psF (rwX M104 v1 12) (M104.1 v1 0).toInt.toNat)))]) (st := []) v1 (s_lt cv1 rfl) (s_kc (c := 6) cv1 rfl) (by decide) rfl (s2_X7_comerFor hM114 cv1 (rmI a117 (psF (rwX M104 v1 12) (M104.1 v1 0).toInt.toNat)) (by (clear u119p u119o u119h h116 fM114 hM114 u105b u105o u105g hM104 eM104 ub103 lb103 ua101 la101 hret C hp0 cv1 hpr hM0; omega)) (by exact u119o) (by (clear u119p u119o u119h lb118 h116 fM114 hM114 h111 h109 u105b u105o u105g hM104 eM104 ub103 lb103 ua101 la101 hret C hp0 cv1 hpr hM0; omega)) (by exact ⟨lb118, (by (clear u119p u119o u119h h116 fM114 hM114 u105b u105o u105g hM104 eM104 ub103 lb103 ua101 la101 hret C hp0 cv1 hpr hM0; omega))⟩)) gX1_passDay_X7_comerFor rfl hdX7_comerFor (by decide) (Nat.le_of_ble_eq_true rfl) dX1_passDay_26 rfl (fun r120 M121 h122 => ?_)
    obtain ⟨a124, rfl, rfl, h123⟩ := h122
    obtain rfl : a124 = (coR (rwX M114 v1 12) (6 - 0 : Int).toNat 0 (rmI a117 (psF (rwX M104 v1 12) (M104.1 v1 0).toInt.toNat))) := by exact h123.2.2
    refine j_goto C 33 dX1_passDay_29 (by decide) ?_
    have u125x : (dgS (rwX M0 v1 15) 32).toInt = (M104.1 15 8).toInt := by rw [← u105g]; rfl
    have u125a : a117 = dwF (M104.1 15 8).toInt := by (clear u125x h123 u119e u119p u119o u119h ub118 lb118 fM114 hM114 h111 h109 u105t u105b u105o u105g hM104 eM104 ub103 lb103 ua101 la101 hret C hp0 cv1 hpr hM0; exact h116.2.2.2)
    have u125y : rmI a117 (psF (rwX M104 v1 12) (M104.1 v1 0).toInt.toNat) = drF (dgS (rwX M0 v1 15)) (ogF (dgS (rwX M0 v1 15))) := by unfold drF; rw [u125x, u125a, u105t]
    have u125c : (coR (rwX M114 v1 12) (6 - 0 : Int).toNat 0 (rmI a117 (psF (rwX M104 v1 12) (M104.1 v1 0).toInt.toNat))) = dcF (rwX M0 v1 15) := (co_v M114 v1 12 15 _ _ _ (by decide) (by decide)).trans (by rw [u119h, u125y]; rfl)
    have u125k := pd_1 (f := (rwX M0 v1 15)) (r := (coR (rwX M114 v1 12) (6 - 0 : Int).toNat 0 (rmI a117 (psF (rwX M104 v1 12) (M104.1 v1 0).toInt.toNat)))) u119h (by (clear u125c u125y u125a u125x h123 u119p u119o u119h ub118 lb118 h116 fM114 hM114 u105b u105o u105g hM104 eM104 ub103 lb103 ua101 la101 hret C hp0 cv1 hpr hM0; omega)) u125c
    exact hret _ _ _ _ dX1_passDay_33 ⟨(coR (rwX M114 v1 12) (6 - 0 : Int).toNat 0 (rmI a117 (psF (rwX M104 v1 12) (M104.1 v1 0).toInt.toNat))), rfl, hM114, ((FX.rf.wI eM104 (by decide)).tr fM114 (by decide)), by exact ⟨(by (clear u125y u125a u125x u119e u119p u119o u119h ub118 lb118 h116 fM114 hM114 h111 h109 u105t u105b u105o u105g hM104 eM104 ub103 lb103 ua101 la101 hret C hp0 cv1 hpr hM0; omega)), ⟨h123.2.1, ⟨u125k.1, u125k.2⟩⟩⟩⟩
set_option maxHeartbeats 4000000 in
theorem s3_X1_visitBy {l : Launch} {dC : Nat → ClassId} {dI : Nat → Nat → Nat} {ad : Nat → Nat} {cA : Nat → ClassId} {pr : Nat → Nat → Bool} {Kz : mm_M} {M0 : mm_M} (hM0 : INV pr Kz M0) (hpr : PX pr) {v1 : Nat} (cv1 : s_c v1 = 6) (a3 : Int) (ha3 : -2147483648 ≤ a3 ∧ a3 ≤ 2147483647) (hp0 : b01 (APX M0 v1) = 1) (hp1 : b01 (LAW M0 v1) = 1) (hp2 : b01 (PRR (rwX M0 v1 15)) = 1) : Ci l 4 yX1_visitBy wsX1_visitBy dC dI ad cA [.ref (ad 87), .ref (ad v1), .ref (ad 15), .int (sI a3)] M0 (fun r M' => ∃ a : Int, r = sI a ∧ INV pr Kz M' ∧ FX [15, 81, 82, 83, 84, 85, 86] M0 M' ∧ (-13) ≤ a ∧ a ≤ 7 ∧ (b01 (APX M' v1) = 1) ∧ (a = aI (wvF (rwX M0 v1 15) a3) (bnF (rwX M0 v1 15) a3)) ∧ (b01 (rwX M' v1 15 = dvS (wvF (rwX M0 v1 15) a3) (rwX M0 v1 15) (vsS (rwX M0 v1 15) a3)) = 1)) := by
  refine ci_of (cc := cX1_visitBy) (maxL := 5) (ty := .int) (lv := [(0, .ref (ad 87)), (1, .ref (ad v1)), (2, .ref (ad 15)), (3, .int (sI a3))]) (by decide) rfl (fun r M' hp => rfl) (Nat.le_of_ble_eq_true rfl) rfl ?_
  intro p e s m args below meth c A Q C hret
  have u101s := shY M0 v1 15
  have u101w := wvF_s (rwX M0 v1 15) a3
  have u101B : ((rwX M0 v1 15) 1).toInt = (M0.1 v1 0).toInt := rfl
  have u101K := hM0.rd (i := 15) (c := 8) (k := 0) rfl (show s_b 8 0 = (0, 8) from rfl)
  have u1017 := hM0.rd (i := v1) (c := 6) (k := 7) cv1 (show s_b 6 7 = (0, 900) from rfl)
  have u1019 := hM0.rd (i := v1) (c := 6) (k := 9) cv1 (show s_b 6 9 = (0, 900) from rfl)
  refine j_iload_n C 3 3 dX1_visitBy_0 rfl rfl ?_
  refine y_if_lt C 12 dX1_visitBy_1 (by decide) (by exact ⟨ha3.1, ha3.2⟩) (fun h102 => ?_) (fun h102 => ?_)
  · refine y_bipush C dX1_visitBy_12 rfl ?_
    have u103k := dv_n (w := wvF (rwX M0 v1 15) a3) (f := (rwX M0 v1 15)) (N := rwX M0 v1 15) (by (clear u1019 u1017 u101K u101B u101s hret C hp2 hp1 hp0 cv1 hpr hM0; omega)) rfl (vsS (rwX M0 v1 15) a3) (bnF (rwX M0 v1 15) a3)
    exact hret _ _ _ _ dX1_visitBy_14 ⟨(-11), rfl, hM0, FX.rf, by exact ⟨(by decide), ⟨(by decide), ⟨hp0, ⟨(by (clear u1019 u1017 u101K u101B u101s hret C hp2 hp1 cv1 hpr hM0; omega)), u103k.1⟩⟩⟩⟩⟩
  · refine j_iload_n C 3 3 dX1_visitBy_4 rfl rfl ?_
    refine j_aload_n C 1 1 dX1_visitBy_5 rfl rfl ?_
    refine y_getI C 6 _ _ fX1_visitBy_15 cv1 rfl ft_6_0 sb_6_0 hM0 dX1_visitBy_6 (fun a104 ea104 la104 ua104 => ?_)
    obtain rfl : a104 = (M0.1 v1 0).toInt := ea104
    refine y_icmp_lt C 15 dX1_visitBy_9 (by decide) (by exact ⟨⟨ha3.1, ha3.2⟩, ⟨(by (clear u1019 u1017 u101K u101B u101w u101s hret C hp2 hp1 hp0 cv1 hpr hM0; omega)), (by (clear u1019 u1017 u101K u101B u101w u101s hret C hp2 hp1 hp0 cv1 hpr hM0; omega))⟩⟩) (fun h106 => ?_) (fun h106 => ?_)
    · refine j_aload_n C 2 2 dX1_visitBy_15 rfl rfl ?_
      refine j_callVi C (d := 1) (As := []) (st := []) 15 (s_lt rfl rfl) (s_kc (c := 8) rfl rfl) (by decide) rfl (s3_X9_isShut hM0) gX1_visitBy_X9_isShut rfl hdX9_isShut (by decide) (Nat.le_of_ble_eq_true rfl) dX1_visitBy_16 rfl (fun r107 M108 h109 => ?_)
      obtain ⟨a111, rfl, rfl, h110⟩ := h109
      refine y_if_eq C 25 dX1_visitBy_19 (by decide) (by omega) (fun h112 => ?_) (fun h112 => ?_)
      · refine j_aload_n C 0 0 dX1_visitBy_25 rfl rfl ?_
        refine y_getC C 1 81 fX1_visitBy_9 rfl rfl ft_1_0 sm_1_0 rfl hM0 dX1_visitBy_26 ?_
        refine j_aload_n C 1 1 dX1_visitBy_29 rfl rfl ?_
        refine j_aload_n C 2 2 dX1_visitBy_30 rfl rfl ?_
        refine j_callVv C (d := 0) (As := [.ref (ad v1), .ref (ad 15)]) (st := []) 81 (s_lt rfl rfl) (s_kc (c := 3) rfl rfl) (by decide) rfl (s2_X4_tune hM0 hpr cv1 rfl (by exact hp0)) gX1_visitBy_X4_tune rfl hdX4_tune (by decide) (Nat.le_of_ble_eq_true rfl) dX1_visitBy_31 rfl (fun M114 h115 => ?_)
        obtain ⟨hM114, fM114, h116⟩ := h115
        have ev181 : v1 = M114.2.2 81 5 := by exact h116.1.symm
        refine j_aload_n C 0 0 dX1_visitBy_34 rfl rfl ?_
        refine y_getC C 1 81 fX1_visitBy_9 rfl rfl ft_1_0 sm_1_0 rfl hM114 dX1_visitBy_35 ?_
        refine j_iload_n C 3 3 dX1_visitBy_38 rfl rfl ?_
        refine j_aload_n C 2 2 dX1_visitBy_39 rfl rfl ?_
        refine y_getI C 8 _ _ fX1_visitBy_33 rfl rfl ft_8_3 sb_8_3 hM114 dX1_visitBy_40 (fun a117 ea117 la117 ua117 => ?_)
        obtain rfl : a117 = (M0.1 15 3).toInt := s_fX fM114 (by decide) (ea117)
        refine j_aload_n C 2 2 dX1_visitBy_43 rfl rfl ?_
        refine y_getI C 8 _ _ fX1_visitBy_36 rfl rfl ft_8_4 sb_8_4 hM114 dX1_visitBy_44 (fun a119 ea119 la119 ua119 => ?_)
        obtain rfl : a119 = (M0.1 15 4).toInt := s_fX fM114 (by decide) (ea119)
        have u1217 := hM0.rd (i := v1) (c := 6) (k := 7) cv1 (show s_b 6 7 = (0, 900) from rfl)
        have u1219 := hM0.rd (i := v1) (c := 6) (k := 9) cv1 (show s_b 6 9 = (0, 900) from rfl)
        have u121p := (ple_f (p := v1) ((FX.rf.tr fM114 (by decide)) : FX [81, 82, 83, 84] M0 M114) cv1 (by decide))
        have u121L := law_p (M := M0) (N := M114) (p := v1) u121p u1217.1 u1219.1 (by exact hp1)
        have u121E := law_e u121L
        have u121E1 := u121E.1
        have u121E2 := u121E.2.1
        have u1219b := hM114.rd (i := v1) (c := 6) (k := 9) cv1 (show s_b 6 9 = (0, 900) from rfl)
        have u121x := btx_w (M := M114) (p := v1) u1219b.1 u121E2 u121E.2.2.1
        have u121r := prr_s (M := M0) (p := v1) (v := 15) (by exact hp2)
        have u121q := prx_t (M := M0) (N := M114) (v := 15) (c := s_p0 15 1) (n := (M0.1 15 0).toInt) rfl (by exact h116.2.1) (by exact h116.2.2.2) u121r
        have u121k := hM0.rd (i := 15) (c := 8) (k := 0) rfl (show s_b 8 0 = (0, 8) from rfl)
        have u121o := bo_tu (M := M0) (N := M114) (p := v1) (v := 15) (b := a3) (s := (M0.1 15 3).toInt) (h := sI (M0.1 15 4).toInt) u121p (by exact ⟨h116.2.1, ⟨u101K.1, u101K.2⟩⟩) (by exact h116.2.2.2) (by (clear u121k u121q u121r u121x u1219b u121E2 u121E1 u121E u121L u121p u1219 u1217 ua119 la119 ea119 ua117 la117 ea117 ev181 h116 fM114 hM114 h112 h110 u1019 u1017 u101K u101B u101w u101s hret C hp2 hp1 hp0 cv1 hpr hM0; omega)) (by exact u1017.1) (by exact u1019.1)
        rw [show clX M0 v1 15 (sI (M0.1 15 4).toInt) = rwX M0 v1 15 by rw [sI_o]; rfl] at u121o
        have u121b : boF (mdX M114 v1 (sI (M0.1 15 4).toInt)) a3 (M0.1 15 3).toInt = bnF (rwX M0 v1 15) a3 := u121o
        refine j_callVi C (d := 3) (As := [.int (sI a3), .int (sI (M0.1 15 3).toInt), .int (sI (M0.1 15 4).toInt)]) (st := []) 81 (s_lt rfl rfl) (s_kc (c := 3) rfl rfl) (by decide) rfl (s2_X4_choice hM114 hpr a3 (by exact ⟨ha3.1, ha3.2⟩) (M0.1 15 3).toInt (by (clear u121b u121o u121k u121q u121r u121x u1219b u121E2 u121E1 u121E u121L u121p u1219 u1217 ua119 la119 ea119 ev181 h116 fM114 hM114 h112 h110 h106 ua104 la104 h102 u1019 u1017 u101K u101B u101w u101s hret C hp2 hp1 hp0 ha3 cv1 hpr hM0; omega)) (M0.1 15 4).toInt (by (clear u121b u121o u121k u121q u121r u121x u1219b u121E2 u121E1 u121E u121L u121p u1219 u1217 ua117 la117 ea117 ev181 h116 fM114 hM114 h112 h110 h106 ua104 la104 h102 u1019 u1017 u101K u101B u101w u101s hret C hp2 hp1 hp0 ha3 cv1 hpr hM0; omega)) v1 cv1 (ev181) (by exact u121E2) (by exact u121E1) (by exact h116.2.2.1) (by exact u121x) (by exact u121q) (by (clear u121b u121o u121k u121q u121r u121x u1219b u121E2 u121E1 u121E u121L u121p u1219 u1217 ua119 la119 ea119 ua117 la117 ea117 ev181 h116 fM114 hM114 h112 h110 u1019 u1017 u101K u101B u101w u101s hret C hp2 hp1 hp0 cv1 hpr hM0; omega)) (by exact ⟨la117, ua117⟩) (by exact ⟨la119, ua119⟩)) gX1_visitBy_X4_choice rfl hdX4_choice (by decide) (Nat.le_of_ble_eq_true rfl) dX1_visitBy_47 rfl (fun r122 M123 h124 => ?_)
        obtain ⟨a126, rfl, hM123, fM123, h125⟩ := h124
        obtain rfl : a126 = (boF (mdX M114 v1 (sI (M0.1 15 4).toInt)) a3 (M0.1 15 3).toInt) := by exact h125.2.2.1
        refine j_istore C 4 [(4, .int (sI (boF (mdX M114 v1 (sI (M0.1 15 4).toInt)) a3 (M0.1 15 3).toInt))), (0, .ref (ad 87)), (1, .ref (ad v1)), (2, .ref (ad 15)), (3, .int (sI a3))] dX1_visitBy_50 (by decide) rfl ?_
        refine j_iload C 0 dX1_visitBy_52 rfl ?_
        refine y_if_ge C 60 dX1_visitBy_54 (by decide) (by (clear fM123 hM123 u121k u121q u121r u121x u1219b u121E2 u121E1 u121E u121L u121p u1219 u1217 ua119 la119 ea119 ua117 la117 ea117 ev181 h116 fM114 hM114 h112 h110 h106 ua104 la104 h102 u1019 u1017 u101K u101B u101w u101s hret C hp2 hp1 hp0 ha3 cv1 hpr hM0; omega)) (fun h127 => ?_) (fun h127 => ?_)
        · refine j_aload_n C 3 2 dX1_visitBy_60 rfl rfl ?_
          refine j_dup C dX1_visitBy_61 rfl ?_
          refine y_getI C 8 _ _ fX1_visitBy_33 rfl rfl ft_8_3 sb_8_3 hM123 dX1_visitBy_62 (fun a128 ea128 la128 ua128 => ?_)
          obtain rfl : a128 = (M0.1 15 3).toInt := s_fX fM114 (by decide) (s_fX fM123 (by decide) (ea128))
          refine y_iconst C dX1_visitBy_65 ?_
          refine j_iload C 0 dX1_visitBy_66 rfl ?_
          refine e_shl1 C 7 128 dX1_visitBy_68 rfl (by decide) (by exact ⟨h127, (by (clear ua128 la128 ea128 fM123 hM123 u121k u121q u121r u121x u1219b u121E2 u121E1 u121E u121L u121p u1219 u1217 ua119 la119 ea119 ua117 la117 ea117 ev181 h116 fM114 hM114 h112 h110 h106 ua104 la104 h102 u1019 u1017 u101K u101B u101w u101s hret C hp2 hp1 hp0 ha3 cv1 hpr hM0; omega))⟩) (fun lb130 ub130 => ?_)
          refine e_iorN C 8 255 dX1_visitBy_69 rfl (by decide) (by exact ⟨la117, ⟨ua117, ⟨(by (clear ua128 la128 h127 h125 fM123 hM123 u121b u121o u121k u121q u121r u121x u1219b u121E2 u121E1 u121E u121L u121p u1219 u1217 ua119 la119 ea119 ev181 h116 fM114 hM114 h112 h110 h106 ua104 la104 h102 u1019 u1017 u101K u101B u101w u101s hret C hp2 hp1 hp0 ha3 cv1 hpr hM0; omega)), (by (clear ua128 la128 h127 h125 fM123 hM123 u121b u121o u121k u121q u121r u121x u1219b u121E2 u121E1 u121E u121L u121p u1219 u1217 ua119 la119 ea119 ev181 h116 fM114 hM114 h112 h110 h106 ua104 la104 h102 u1019 u1017 u101K u101B u101w u101s hret C hp2 hp1 hp0 ha3 cv1 hpr hM0; omega))⟩⟩⟩) (fun lb131 ub131 ob131 => ?_)
          refine y_putI C 8 _ _ qX1_visitBy_33 rfl rfl ft_8_3 sb_8_3 hM123 (PX.w hpr rfl rfl) dX1_visitBy_70 (by exact ⟨⟨(by (clear ob131 ub130 lb130 ua128 la128 ea128 h127 h125 fM123 hM123 u121b u121o u121k u121q u121r u121x u1219b u121E2 u121E1 u121E u121L u121p u1219 u1217 ua119 la119 ea119 ua117 la117 ea117 ev181 h116 fM114 hM114 h112 h110 h106 ua104 la104 h102 u1019 u1017 u101K u101B u101w u101s hret C hp2 hp1 hp0 ha3 cv1 hpr hM0; omega)), (by (clear ob131 ub130 lb130 ua128 la128 ea128 h127 h125 fM123 hM123 u121b u121o u121k u121q u121r u121x u1219b u121E2 u121E1 u121E u121L u121p u1219 u1217 ua119 la119 ea119 ua117 la117 ea117 ev181 h116 fM114 hM114 h112 h110 h106 ua104 la104 h102 u1019 u1017 u101K u101B u101w u101s hret C hp2 hp1 hp0 ha3 cv1 hpr hM0; omega))⟩, ⟨lb131, ub131⟩⟩) (fun M132 eM132 hM132 => ?_)
          refine j_aload_n C 3 2 dX1_visitBy_73 rfl rfl ?_
          refine j_dup C dX1_visitBy_74 rfl ?_
          refine y_getI C 8 _ _ fX1_visitBy_43 rfl rfl ft_8_5 sb_8_5 hM132 dX1_visitBy_75 (fun a133 ea133 la133 ua133 => ?_)
          obtain rfl : a133 = (M0.1 15 5).toInt := s_fX fM114 (by decide) (s_fX fM123 (by decide) (s_fb eM132 (by decide) (ea133)))
          refine j_aload_n C 3 2 dX1_visitBy_78 rfl rfl ?_
          refine y_getC C 8 16 fX1_visitBy_46 rfl rfl ft_8_1 sm_8_1 rfl hM132 dX1_visitBy_79 ?_
          refine j_iload C 0 dX1_visitBy_82 rfl ?_
          refine y_iald C 25 8 _ _ rfl rfl rfl ak_25 an_25 rfl (sb_25 _) hM132 dX1_visitBy_84 (by exact ⟨h127, (by (clear ua133 la133 ea133 hM132 eM132 ob131 ub131 lb131 ub130 lb130 ua128 la128 ea128 fM123 hM123 u121k u121q u121r u121x u1219b u121E2 u121E1 u121E u121L u121p u1219 u1217 ua119 la119 ea119 ua117 la117 ea117 ev181 h116 fM114 hM114 h112 h110 h106 ua104 la104 h102 u1019 u1017 u101K u101B u101w u101s hret C hp2 hp1 hp0 ha3 cv1 hpr hM0; omega))⟩) (fun a135 ea135 la135 ua135 => ?_)
          obtain rfl : a135 = (M0.1 16 ((boF (mdX M114 v1 (sI (M0.1 15 4).toInt)) a3 (M0.1 15 3).toInt)).toNat).toInt := s_fX fM114 (by decide) (s_fX fM123 (by decide) (s_fa eM132 (by decide) (ea135)))
          refine e_iadd C dX1_visitBy_85 (fun lb136 ub136 => ?_)
          refine y_putIF C 8 qX1_visitBy_43 rfl rfl ft_8_5 sb_8_5 hM132 (PX.w hpr rfl rfl) dX1_visitBy_86 (fun M137 eM137 hM137 => ?_)
          refine j_iload C 0 dX1_visitBy_89 rfl ?_
          have u138x : (M0.1 16 ((boF (mdX M114 v1 (sI (M0.1 15 4).toInt)) a3 (M0.1 15 3).toInt)).toNat).toInt = ((rwX M0 v1 15) (33 + (boF (mdX M114 v1 (sI (M0.1 15 4).toInt)) a3 (M0.1 15 3).toInt)).toNat).toInt := (congrArg Int32.toInt (rx_k M0 v1 15 (k := (boF (mdX M114 v1 (sI (M0.1 15 4).toInt)) a3 (M0.1 15 3).toInt)) (by exact ⟨h127, (by (clear hM137 eM137 ub136 lb136 ua135 la135 ea135 ua133 la133 ea133 hM132 eM132 ob131 ub131 lb131 ub130 lb130 ua128 la128 ea128 fM123 hM123 u121k u121q u121r u121x u1219b u121E2 u121E1 u121E u121L u121p u1219 u1217 ua119 la119 ea119 ua117 la117 ea117 ev181 h116 fM114 hM114 h112 h110 h106 ua104 la104 h102 u1019 u1017 u101K u101B u101w u101s hret C hp2 hp1 hp0 ha3 cv1 hpr hM0; omega))⟩)).1).symm
          have u138r : rwX M137 v1 15 = vsS (rwX M0 v1 15) a3 := vs_x (M := M123) (f := (rwX M0 v1 15)) cv1 rfl (rx_f (p := v1) (v := 15) (ple_f (p := v1) (((FX.rf.tr fM114 (by decide)).tr fM123 (by decide)) : FX [81, 82, 83, 84, 85, 86] M0 M123) cv1 (by decide)) (ske_n (((FX.rf.tr fM114 (by decide)).tr fM123 (by decide)) : FX [81, 82, 83, 84, 85, 86] M0 M123) ⟨by decide, by decide, by decide⟩)) eM132 eM137 u121b u138x
          have u138k := dv_y (w := wvF (rwX M0 v1 15) a3) (a := bnF (rwX M0 v1 15) a3) (f := (rwX M0 v1 15)) (g := vsS (rwX M0 v1 15) a3) (N := rwX M137 v1 15) (by (clear u138r u138x hM137 eM137 ub136 lb136 ua135 la135 ea135 ua133 la133 ea133 hM132 eM132 ob131 ub131 lb131 ub130 lb130 ua128 la128 ea128 fM123 hM123 u121k u121q u121r u121x u1219b u121E2 u121E1 u121E u121L u121p u1219 u1217 ua119 la119 ea119 ua117 la117 ea117 ev181 h116 fM114 hM114 ua104 la104 u1019 u1017 u101K hret C hp2 hp1 hp0 cv1 hpr hM0; omega)) u138r
          have u1387 := hM123.rd (i := v1) (c := 6) (k := 7) cv1 (show s_b 6 7 = (0, 900) from rfl)
          have u1389 := hM123.rd (i := v1) (c := 6) (k := 9) cv1 (show s_b 6 9 = (0, 900) from rfl)
          have u138a := apx_o (M := M123) (N := M137) (p := v1) (ple_f (((FX.rf.wI eM132 (by decide)).wI eM137 (by decide)) : FX [15] M123 M137) cv1 (by decide)) ((((FX.rf.wI eM132 (by decide)).wI eM137 (by decide)) : FX [15] M123 M137).cell (by decide)) ((((FX.rf.wI eM132 (by decide)).wI eM137 (by decide)) : FX [15] M123 M137).cell (by decide)) ((((FX.rf.wI eM132 (by decide)).wI eM137 (by decide)) : FX [15] M123 M137).cell (by decide)) u1387.1 u1389.1 (by exact h125.2.2.2)
          exact hret _ _ _ _ dX1_visitBy_91 ⟨(boF (mdX M114 v1 (sI (M0.1 15 4).toInt)) a3 (M0.1 15 3).toInt), rfl, hM137, ((((FX.rf.tr fM114 (by decide)).tr fM123 (by decide)).wI eM132 (by decide)).wI eM137 (by decide)), by exact ⟨(by (clear u1389 u1387 u138r u138x hM137 eM137 ub136 lb136 ua135 la135 ea135 ua133 la133 ea133 hM132 eM132 ob131 ub131 lb131 ub130 lb130 ua128 la128 ea128 fM123 hM123 u121k u121q u121r u121x u1219b u121E2 u121E1 u121E u121L u121p u1219 u1217 ua119 la119 ea119 ua117 la117 ea117 ev181 h116 fM114 hM114 h112 h110 h106 ua104 la104 h102 u1019 u1017 u101K u101B u101w u101s hret C hp2 hp1 hp0 ha3 cv1 hpr hM0; omega)), ⟨h125.2.1, ⟨u138a, ⟨(by (clear u1389 u1387 u138r u138x hM137 eM137 ub136 lb136 ua135 la135 ea135 ua133 la133 ea133 hM132 eM132 ob131 ub131 lb131 ub130 lb130 ua128 la128 ea128 fM123 hM123 u121k u121q u121r u121x u1219b u121E2 u121E1 u121E u121L u121p u1219 u1217 ua119 la119 ea119 ua117 la117 ea117 ev181 h116 fM114 hM114 h112 h110 h106 ua104 la104 h102 u1019 u1017 u101K u101B u101w u101s hret C hp2 hp1 hp0 ha3 cv1 hpr hM0; omega)), u138k.1⟩⟩⟩⟩⟩
        · refine y_bipush C dX1_visitBy_57 rfl ?_
          have u139k := dv_n (w := wvF (rwX M0 v1 15) a3) (f := (rwX M0 v1 15)) (N := rwX M123 v1 15) (by (clear fM123 hM123 u121k u121q u121r u121x u1219b u121E2 u121E1 u121E u121L u121p u1219 u1217 ua119 la119 ea119 ua117 la117 ea117 ev181 h116 fM114 hM114 h106 ua104 la104 h102 u1019 u1017 u101K u101B u101s hret C hp2 hp1 hp0 ha3 cv1 hpr hM0; omega)) (rx_f (p := v1) (v := 15) (ple_f (p := v1) (((FX.rf.tr fM114 (by decide)).tr fM123 (by decide)) : FX [81, 82, 83, 84, 85, 86] M0 M123) cv1 (by decide)) (ske_n (((FX.rf.tr fM114 (by decide)).tr fM123 (by decide)) : FX [81, 82, 83, 84, 85, 86] M0 M123) ⟨by decide, by decide, by decide⟩)) (vsS (rwX M0 v1 15) a3) (bnF (rwX M0 v1 15) a3)
          have u139P : b01 (APX M123 v1) = 1 := by exact h125.2.2.2
          exact hret _ _ _ _ dX1_visitBy_59 ⟨(-13), rfl, hM123, ((FX.rf.tr fM114 (by decide)).tr fM123 (by decide)), by exact ⟨(by decide), ⟨(by decide), ⟨h125.2.2.2, ⟨(by (clear u139P fM123 hM123 u121k u121q u121r u121x u1219b u121E2 u121E1 u121E u121L u121p u1219 u1217 ua119 la119 ea119 ua117 la117 ea117 ev181 h116 fM114 hM114 ua104 la104 u1019 u1017 u101K hret C hp2 hp1 hp0 cv1 hpr hM0; omega)), u139k.1⟩⟩⟩⟩⟩
      · refine y_bipush C dX1_visitBy_22 rfl ?_
        have u140k := dv_n (w := wvF (rwX M0 v1 15) a3) (f := (rwX M0 v1 15)) (N := rwX M0 v1 15) (by (clear h106 ua104 la104 h102 u1019 u1017 u101K u101B hret C hp2 hp1 hp0 ha3 cv1 hpr hM0; omega)) rfl (vsS (rwX M0 v1 15) a3) (bnF (rwX M0 v1 15) a3)
        exact hret _ _ _ _ dX1_visitBy_24 ⟨(-12), rfl, hM0, FX.rf, by exact ⟨(by decide), ⟨(by decide), ⟨hp0, ⟨(by (clear ua104 la104 u1019 u1017 u101K hret C hp2 hp1 cv1 hpr hM0; omega)), u140k.1⟩⟩⟩⟩⟩
    · refine y_bipush C dX1_visitBy_12 rfl ?_
      have u141k := dv_n (w := wvF (rwX M0 v1 15) a3) (f := (rwX M0 v1 15)) (N := rwX M0 v1 15) (by (clear ua104 la104 h102 u1019 u1017 u101K u101s hret C hp2 hp1 hp0 ha3 cv1 hpr hM0; omega)) rfl (vsS (rwX M0 v1 15) a3) (bnF (rwX M0 v1 15) a3)
      exact hret _ _ _ _ dX1_visitBy_14 ⟨(-11), rfl, hM0, FX.rf, by exact ⟨(by decide), ⟨(by decide), ⟨hp0, ⟨(by (clear ua104 la104 h102 u1019 u1017 u101K u101s hret C hp2 hp1 ha3 cv1 hpr hM0; omega)), u141k.1⟩⟩⟩⟩⟩
set_option maxHeartbeats 4000000 in
theorem s3_X1_carryOut {l : Launch} {dC : Nat → ClassId} {dI : Nat → Nat → Nat} {ad : Nat → Nat} {cA : Nat → ClassId} {pr : Nat → Nat → Bool} {Kz : mm_M} {M0 : mm_M} (hM0 : INV pr Kz M0) (hpr : PX pr) {v1 : Nat} (cv1 : s_c v1 = 6) (a3 : Int) (ha3 : -9223372036854775808 ≤ a3 ∧ a3 ≤ 9223372036854775807) (hp0 : b01 (APX M0 v1) = 1) (hp1 : b01 (LAW M0 v1) = 1) (hp2 : b01 (PRR (rwX M0 v1 15)) = 1) (hp3 : 0 ≤ (M0.1 15 6).toInt ∧ (M0.1 15 6).toInt ≤ 2000000000) : Ci l 5 yX1_carryOut wsX1_carryOut dC dI ad cA [.ref (ad 87), .ref (ad v1), .ref (ad 15), .long (sJ a3)] M0 (fun r M' => ∃ a : Int, r = sI a ∧ INV pr Kz M' ∧ FX [15, 16, 81, 82, 83, 84, 85, 86] M0 M' ∧ (-2147483648) ≤ a ∧ a ≤ 2147483647 ∧ (b01 (APX M' v1) = 1) ∧ ((wnF (rwX M0 v1 15) a3 = 0 ∧ 0 ≤ a) ∨ (¬ wnF (rwX M0 v1 15) a3 = 0 ∧ a = -10 - wnF (rwX M0 v1 15) a3)) ∧ (¬ a3 = -1 ∨ a = dyA (rwX M0 v1 15)) ∧ (b01 (rwX M' v1 15 = dvS (wnF (rwX M0 v1 15) a3) (rwX M0 v1 15) (doS (rwX M0 v1 15) a3)) = 1)) := by
  refine ci_of (cc := cX1_carryOut) (maxL := 7) (ty := .int) (lv := [(0, .ref (ad 87)), (1, .ref (ad v1)), (2, .ref (ad 15)), (3, .long (sJ a3))]) (by decide) rfl (fun r M' hp => rfl) (Nat.le_of_ble_eq_true rfl) rfl ?_
  intro p e s m args below meth c A Q C hret
  have u101s := wnF_s (rwX M0 v1 15) a3
  have u1017 := hM0.rd (i := v1) (c := 6) (k := 7) cv1 (show s_b 6 7 = (0, 900) from rfl)
  have u1019 := hM0.rd (i := v1) (c := 6) (k := 9) cv1 (show s_b 6 9 = (0, 900) from rfl)
  have u101g : ((rwX M0 v1 15) 30).toInt = (M0.1 15 6).toInt := rfl
  refine j_lload_n C 3 3 dX1_carryOut_0 rfl rfl ?_
  refine y_ldc2 C (-1) dX1_carryOut_1 kX1_carryOut_77 rfl ?_
  refine y_lcmp_lt C 16 dX1_carryOut_4 dX1_carryOut_5 (by decide) (by exact ⟨⟨ha3.1, ha3.2⟩, ⟨(by decide), (by decide)⟩⟩) (fun h102 => ?_) (fun h102 => ?_)
  · refine y_bipush C dX1_carryOut_16 rfl ?_
    have u103k := co_n (f := (rwX M0 v1 15)) (N := rwX M0 v1 15) (v := a3) (a := -11) (by (clear u101g u1019 u1017 hret C hp3 hp2 hp1 hp0 cv1 hpr hM0; omega)) rfl rfl
    exact hret _ _ _ _ dX1_carryOut_18 ⟨(-11), rfl, hM0, FX.rf, by exact ⟨(by decide), ⟨(by decide), ⟨hp0, ⟨(by (clear u101g u1019 u1017 u101s hret C hp3 hp2 hp1 cv1 hpr hM0; omega)), ⟨(by (clear u101g u1019 u1017 u101s hret C hp3 hp2 hp1 cv1 hpr hM0; omega)), u103k.2⟩⟩⟩⟩⟩⟩
  · refine j_lload_n C 3 3 dX1_carryOut_8 rfl rfl ?_
    refine y_ldc2 C 1999 dX1_carryOut_9 kX1_carryOut_79 rfl ?_
    refine y_lcmp_le C 19 dX1_carryOut_12 dX1_carryOut_13 (by decide) (by exact ⟨⟨ha3.1, ha3.2⟩, ⟨(by decide), (by decide)⟩⟩) (fun h104 => ?_) (fun h104 => ?_)
    · refine j_lload_n C 3 3 dX1_carryOut_19 rfl rfl ?_
      refine y_l2i C dX1_carryOut_20 ?_
      refine j_istore C 5 [(5, .int (sI a3)), (0, .ref (ad 87)), (1, .ref (ad v1)), (2, .ref (ad 15)), (3, .long (sJ a3))] dX1_carryOut_21 (by decide) rfl ?_
      refine j_iload C 0 dX1_carryOut_23 rfl ?_
      refine y_iconst C dX1_carryOut_25 ?_
      refine y_icmp_ne C 54 dX1_carryOut_26 (by decide) (by exact ⟨⟨(by (clear u101g u1019 u1017 u101s hret C hp3 hp2 hp1 hp0 cv1 hpr hM0; omega)), (by (clear u101g u1019 u1017 u101s hret C hp3 hp2 hp1 hp0 cv1 hpr hM0; omega))⟩, ⟨(by decide), (by decide)⟩⟩) (fun h105 => ?_) (fun h105 => ?_)
      · refine j_iload C 0 dX1_carryOut_54 rfl ?_
        refine y_bipush C dX1_carryOut_56 rfl ?_
        refine y_icmp_gt C 70 dX1_carryOut_58 (by decide) (by exact ⟨⟨(by (clear h105 u101g u1019 u1017 u101s hret C hp3 hp2 hp1 hp0 cv1 hpr hM0; omega)), (by (clear h105 u101g u1019 u1017 u101s hret C hp3 hp2 hp1 hp0 cv1 hpr hM0; omega))⟩, ⟨(by decide), (by decide)⟩⟩) (fun h106 => ?_) (fun h106 => ?_)
        · refine j_iload C 0 dX1_carryOut_70 rfl ?_
          refine y_bipush C dX1_carryOut_72 rfl ?_
          refine y_icmp_lt C 95 dX1_carryOut_74 (by decide) (by exact ⟨⟨(by (clear h105 u101g u1019 u1017 u101s hret C hp3 hp2 hp1 hp0 cv1 hpr hM0; omega)), (by (clear h105 u101g u1019 u1017 u101s hret C hp3 hp2 hp1 hp0 cv1 hpr hM0; omega))⟩, ⟨(by decide), (by decide)⟩⟩) (fun h107 => ?_) (fun h107 => ?_)
          · refine j_iload C 0 dX1_carryOut_95 rfl ?_
            refine y_sipush C dX1_carryOut_97 rfl ?_
            refine y_icmp_lt C 123 dX1_carryOut_100 (by decide) (by exact ⟨⟨(by (clear h105 u101g u1019 u1017 u101s hret C hp3 hp2 hp1 hp0 cv1 hpr hM0; omega)), (by (clear h105 u101g u1019 u1017 u101s hret C hp3 hp2 hp1 hp0 cv1 hpr hM0; omega))⟩, ⟨(by decide), (by decide)⟩⟩) (fun h108 => ?_) (fun h108 => ?_)
            · refine j_iload C 0 dX1_carryOut_123 rfl ?_
              refine y_sipush C dX1_carryOut_125 rfl ?_
              refine y_icmp_lt C 151 dX1_carryOut_128 (by decide) (by exact ⟨⟨(by (clear h108 h105 u101g u1019 u1017 u101s hret C hp3 hp2 hp1 hp0 cv1 hpr hM0; omega)), (by (clear h108 h105 u101g u1019 u1017 u101s hret C hp3 hp2 hp1 hp0 cv1 hpr hM0; omega))⟩, ⟨(by decide), (by decide)⟩⟩) (fun h109 => ?_) (fun h109 => ?_)
              · refine y_bipush C dX1_carryOut_151 rfl ?_
                have u110k := co_n (f := (rwX M0 v1 15)) (N := rwX M0 v1 15) (v := a3) (a := -11) (by (clear h109 h108 u101g u1019 u1017 hret C hp3 hp2 hp1 hp0 cv1 hpr hM0; omega)) rfl rfl
                exact hret _ _ _ _ dX1_carryOut_153 ⟨(-11), rfl, hM0, FX.rf, by exact ⟨(by decide), ⟨(by decide), ⟨hp0, ⟨(by (clear h109 h108 h105 u101g u1019 u1017 u101s hret C hp3 hp2 hp1 cv1 hpr hM0; omega)), ⟨(by (clear h109 h108 h105 u101g u1019 u1017 u101s hret C hp3 hp2 hp1 cv1 hpr hM0; omega)), u110k.2⟩⟩⟩⟩⟩⟩
              · exfalso; omega
            · exfalso; omega
          · refine j_iload C 0 dX1_carryOut_77 rfl ?_
            refine y_bipush C dX1_carryOut_79 rfl ?_
            refine y_icmp_gt C 95 dX1_carryOut_81 (by decide) (by exact ⟨⟨(by (clear h105 u101g u1019 u1017 u101s hret C hp3 hp2 hp1 hp0 cv1 hpr hM0; omega)), (by (clear h105 u101g u1019 u1017 u101s hret C hp3 hp2 hp1 hp0 cv1 hpr hM0; omega))⟩, ⟨(by decide), (by decide)⟩⟩) (fun h111 => ?_) (fun h111 => ?_)
            · refine j_iload C 0 dX1_carryOut_95 rfl ?_
              refine y_sipush C dX1_carryOut_97 rfl ?_
              refine y_icmp_lt C 123 dX1_carryOut_100 (by decide) (by exact ⟨⟨(by (clear h105 u101g u1019 u1017 u101s hret C hp3 hp2 hp1 hp0 cv1 hpr hM0; omega)), (by (clear h105 u101g u1019 u1017 u101s hret C hp3 hp2 hp1 hp0 cv1 hpr hM0; omega))⟩, ⟨(by decide), (by decide)⟩⟩) (fun h112 => ?_) (fun h112 => ?_)
              · refine j_iload C 0 dX1_carryOut_123 rfl ?_
                refine y_sipush C dX1_carryOut_125 rfl ?_
                refine y_icmp_lt C 151 dX1_carryOut_128 (by decide) (by exact ⟨⟨(by (clear h105 u101g u1019 u1017 u101s hret C hp3 hp2 hp1 hp0 cv1 hpr hM0; omega)), (by (clear h105 u101g u1019 u1017 u101s hret C hp3 hp2 hp1 hp0 cv1 hpr hM0; omega))⟩, ⟨(by decide), (by decide)⟩⟩) (fun h113 => ?_) (fun h113 => ?_)
                · refine y_bipush C dX1_carryOut_151 rfl ?_
                  have u114k := co_n (f := (rwX M0 v1 15)) (N := rwX M0 v1 15) (v := a3) (a := -11) (by (clear h113 u101g u1019 u1017 hret C hp3 hp2 hp1 hp0 cv1 hpr hM0; omega)) rfl rfl
                  exact hret _ _ _ _ dX1_carryOut_153 ⟨(-11), rfl, hM0, FX.rf, by exact ⟨(by decide), ⟨(by decide), ⟨hp0, ⟨(by (clear h113 h105 u101g u1019 u1017 u101s hret C hp3 hp2 hp1 cv1 hpr hM0; omega)), ⟨(by (clear h113 h105 u101g u1019 u1017 u101s hret C hp3 hp2 hp1 cv1 hpr hM0; omega)), u114k.2⟩⟩⟩⟩⟩⟩
                · exfalso; (clear h105 u101g u1019 u1017 u101s hret C hp3 hp2 hp1 hp0 cv1 hpr hM0; omega)
              · refine j_iload C 0 dX1_carryOut_103 rfl ?_
                refine y_sipush C dX1_carryOut_105 rfl ?_
                refine y_icmp_gt C 123 dX1_carryOut_108 (by decide) (by exact ⟨⟨(by (clear h105 u101g u1019 u1017 u101s hret C hp3 hp2 hp1 hp0 cv1 hpr hM0; omega)), (by (clear h105 u101g u1019 u1017 u101s hret C hp3 hp2 hp1 hp0 cv1 hpr hM0; omega))⟩, ⟨(by decide), (by decide)⟩⟩) (fun h115 => ?_) (fun h115 => ?_)
                · refine j_iload C 0 dX1_carryOut_123 rfl ?_
                  refine y_sipush C dX1_carryOut_125 rfl ?_
                  refine y_icmp_lt C 151 dX1_carryOut_128 (by decide) (by exact ⟨⟨(by (clear h105 u101g u1019 u1017 u101s hret C hp3 hp2 hp1 hp0 cv1 hpr hM0; omega)), (by (clear h105 u101g u1019 u1017 u101s hret C hp3 hp2 hp1 hp0 cv1 hpr hM0; omega))⟩, ⟨(by decide), (by decide)⟩⟩) (fun h116 => ?_) (fun h116 => ?_)
                  · refine y_bipush C dX1_carryOut_151 rfl ?_
                    have u117k := co_n (f := (rwX M0 v1 15)) (N := rwX M0 v1 15) (v := a3) (a := -11) (by (clear u101g u1019 u1017 hret C hp3 hp2 hp1 hp0 cv1 hpr hM0; omega)) rfl rfl
                    exact hret _ _ _ _ dX1_carryOut_153 ⟨(-11), rfl, hM0, FX.rf, by exact ⟨(by decide), ⟨(by decide), ⟨hp0, ⟨(by (clear h105 u101g u1019 u1017 u101s hret C hp3 hp2 hp1 cv1 hpr hM0; omega)), ⟨(by (clear h105 u101g u1019 u1017 u101s hret C hp3 hp2 hp1 cv1 hpr hM0; omega)), u117k.2⟩⟩⟩⟩⟩⟩
                  · refine j_aload_n C 1 0 dX1_carryOut_131 rfl rfl ?_
                    refine j_aload_n C 3 2 dX1_carryOut_132 rfl rfl ?_
                    refine j_iload C 0 dX1_carryOut_133 rfl ?_
                    refine y_sipush C dX1_carryOut_135 rfl ?_
                    refine y_isub C dX1_carryOut_138 ?_
                    refine y_bipush C dX1_carryOut_139 rfl ?_
                    refine y_idiv C dX1_carryOut_141 (by exact ⟨(by (clear h105 u101g u1019 u1017 u101s hret C hp3 hp2 hp1 hp0 cv1 hpr hM0; omega)), ⟨(by (clear h105 u101g u1019 u1017 u101s hret C hp3 hp2 hp1 hp0 cv1 hpr hM0; omega)), ⟨(by decide), (by decide)⟩⟩⟩) ?_
                    refine j_iload C 0 dX1_carryOut_142 rfl ?_
                    refine y_bipush C dX1_carryOut_144 rfl ?_
                    refine y_irem C dX1_carryOut_146 (by exact ⟨(by (clear h105 u101g u1019 u1017 u101s hret C hp3 hp2 hp1 hp0 cv1 hpr hM0; omega)), ⟨(by (clear h105 u101g u1019 u1017 u101s hret C hp3 hp2 hp1 hp0 cv1 hpr hM0; omega)), ⟨(by decide), (by decide)⟩⟩⟩) ?_
                    refine j_callVi C (d := 2) (As := [.ref (ad 15), .int (sI ((a3 - 1000) / 100)), .int (sI (a3 % 100))]) (st := []) 87 (s_lt rfl rfl) (s_kc (c := 1) rfl rfl) (by decide) rfl (s3_X1_reprice hM0 hpr ((a3 - 1000) / 100) (by (clear h105 u101g u1019 u1017 u101s hret C hp3 hp2 hp1 hp0 cv1 hpr hM0; omega)) (a3 % 100) (by (clear h116 h115 h112 h111 h107 h106 h105 h104 h102 u101g u1019 u1017 u101s hret C hp3 hp2 hp1 hp0 ha3 cv1 hpr hM0; omega)) v1 cv1) gX1_carryOut_X1_reprice rfl hdX1_reprice (by decide) (Nat.le_of_ble_eq_true rfl) dX1_carryOut_147 rfl (fun r118 M119 h120 => ?_)
                    obtain ⟨a122, rfl, hM119, fM119, h121⟩ := h120
                    have u123w := wpF_s (rwX M0 v1 15) ((a3 - 1000) / 100) (a3 % 100)
                    have u123b := prr_k (f := (rwX M0 v1 15)) (by exact hp2) ((a3 - 1000) / 100)
                    have u123k := co_y (f := (rwX M0 v1 15)) (N := rwX M119 v1 15) (G := psS (rwX M0 v1 15) ((a3 - 1000) / 100) (a3 % 100)) (v := a3) (W := wpF (rwX M0 v1 15) ((a3 - 1000) / 100) (a3 % 100)) (a := a122) (A := ((rwX M0 v1 15) (33 + (a3 - 1000) / 100).toNat).toInt) (by (clear u123b u123w h121 fM119 hM119 h115 h112 h111 h107 h106 h105 h102 u101g u1019 u1017 hret C hp3 hp2 hp1 hp0 ha3 cv1 hpr hM0; omega)) (do_p (rwX M0 v1 15) (by (clear u123b u123w h121 fM119 hM119 h105 u101g u1019 u1017 u101s hret C hp3 hp2 hp1 hp0 cv1 hpr hM0; omega))) (by exact h121.2.2.1) (by exact h121.2.2.2) (fun q => by (clear h121 fM119 hM119 h105 u101g u1019 u1017 u101s hret C hp3 hp2 hp1 hp0 cv1 hpr hM0; omega)) (by (clear h121 fM119 hM119 h105 u101g u1019 u1017 u101s hret C hp3 hp2 hp1 hp0 cv1 hpr hM0; omega))
                    have u123A := apx_o (M := M0) (N := M119) (p := v1) (ple_f ((FX.rf.tr fM119 (by decide)) : FX [16] M0 M119) cv1 (by decide)) (((FX.rf.tr fM119 (by decide)) : FX [16] M0 M119).cell (by decide)) (((FX.rf.tr fM119 (by decide)) : FX [16] M0 M119).cell (by decide)) (((FX.rf.tr fM119 (by decide)) : FX [16] M0 M119).cell (by decide)) (by exact u1017.1) (by exact u1019.1) (by exact hp0)
                    exact hret _ _ _ _ dX1_carryOut_150 ⟨a122, rfl, hM119, (FX.rf.tr fM119 (by decide)), by exact ⟨h121.1, ⟨h121.2.1, ⟨u123A, ⟨u123k.1, ⟨(by (clear u123b u123w fM119 hM119 h105 u101g u1019 u1017 u101s hret C hp3 hp2 hp1 hp0 cv1 hpr hM0; omega)), u123k.2⟩⟩⟩⟩⟩⟩
                · refine j_aload_n C 1 0 dX1_carryOut_111 rfl rfl ?_
                  refine j_aload_n C 3 2 dX1_carryOut_112 rfl rfl ?_
                  refine j_iload C 0 dX1_carryOut_113 rfl ?_
                  refine y_sipush C dX1_carryOut_115 rfl ?_
                  refine y_isub C dX1_carryOut_118 ?_
                  refine j_callVi C (d := 2) (As := [.ref (ad 15), .int (sI (a3 - 200))]) (st := []) 87 (s_lt rfl rfl) (s_kc (c := 1) rfl rfl) (by decide) rfl (s3_X1_turn hM0 hpr (a3 - 200) (by (clear h105 u101g u1019 u1017 u101s hret C hp3 hp2 hp1 hp0 cv1 hpr hM0; omega)) v1 cv1) gX1_carryOut_X1_turn rfl hdX1_turn (by decide) (Nat.le_of_ble_eq_true rfl) dX1_carryOut_119 rfl (fun r124 M125 h126 => ?_)
                  obtain ⟨a128, rfl, hM125, fM125, h127⟩ := h126
                  have u129b := bit_0 (xorI ((rwX M0 v1 15) 28).toInt (pw2 (a3 - 200))) (a3 - 200)
                  have u129c := wkF_b (rwX M0 v1 15) (a3 - 200)
                  have u129k := co_y (f := (rwX M0 v1 15)) (N := rwX M125 v1 15) (G := hsS (rwX M0 v1 15) (a3 - 200)) (v := a3) (W := wkF (rwX M0 v1 15) (a3 - 200)) (a := a128) (A := andI (shrI (xorI ((rwX M0 v1 15) 28).toInt (pw2 (a3 - 200))) (a3 - 200)) 1) (by (clear u129c u129b h127 fM125 hM125 u101g u1019 u1017 hret C hp3 hp2 hp1 hp0 cv1 hpr hM0; omega)) (do_h (rwX M0 v1 15) (by (clear u129c u129b h127 fM125 hM125 h105 u101g u1019 u1017 u101s hret C hp3 hp2 hp1 hp0 cv1 hpr hM0; omega))) (by exact h127.2.2.1) (by exact h127.2.2.2) (fun q => by exact u129b) (by exact u129c)
                  have u129A := apx_o (M := M0) (N := M125) (p := v1) (ple_f ((FX.rf.tr fM125 (by decide)) : FX [15] M0 M125) cv1 (by decide)) (((FX.rf.tr fM125 (by decide)) : FX [15] M0 M125).cell (by decide)) (((FX.rf.tr fM125 (by decide)) : FX [15] M0 M125).cell (by decide)) (((FX.rf.tr fM125 (by decide)) : FX [15] M0 M125).cell (by decide)) (by exact u1017.1) (by exact u1019.1) (by exact hp0)
                  exact hret _ _ _ _ dX1_carryOut_122 ⟨a128, rfl, hM125, (FX.rf.tr fM125 (by decide)), by exact ⟨(by (clear u129c u129b fM125 hM125 h105 u101g u1019 u1017 u101s hret C hp3 hp2 hp1 hp0 cv1 hpr hM0; omega)), ⟨(by (clear u129c u129b fM125 hM125 h105 u101g u1019 u1017 u101s hret C hp3 hp2 hp1 hp0 cv1 hpr hM0; omega)), ⟨u129A, ⟨u129k.1, ⟨(by (clear u129c u129b fM125 hM125 h105 u101g u1019 u1017 u101s hret C hp3 hp2 hp1 hp0 cv1 hpr hM0; omega)), u129k.2⟩⟩⟩⟩⟩⟩
            · refine j_aload_n C 1 0 dX1_carryOut_84 rfl rfl ?_
              refine j_aload_n C 3 2 dX1_carryOut_85 rfl rfl ?_
              refine j_iload C 0 dX1_carryOut_86 rfl ?_
              refine y_bipush C dX1_carryOut_88 rfl ?_
              refine y_isub C dX1_carryOut_90 ?_
              refine j_callVi C (d := 2) (As := [.ref (ad 15), .int (sI (a3 - 100))]) (st := []) 87 (s_lt rfl rfl) (s_kc (c := 1) rfl rfl) (by decide) rfl (s3_X1_giveAway hM0 hpr (a3 - 100) (by (clear h105 u101g u1019 u1017 u101s hret C hp3 hp2 hp1 hp0 cv1 hpr hM0; omega)) v1 cv1) gX1_carryOut_X1_giveAway rfl hdX1_giveAway (by decide) (Nat.le_of_ble_eq_true rfl) dX1_carryOut_91 rfl (fun r130 M131 h132 => ?_)
              obtain ⟨a134, rfl, hM131, fM131, h133⟩ := h132
              have u135b := gf_p (rwX M0 v1 15) (by (clear h133 fM131 hM131 h111 h107 h106 h105 h104 h102 u1019 u1017 u101s hret C hp2 hp1 hp0 ha3 cv1 hpr hM0; omega))
              have u135c := wkF_b (rwX M0 v1 15) (a3 - 100)
              have u135k := co_y (f := (rwX M0 v1 15)) (N := rwX M131 v1 15) (G := gsS (rwX M0 v1 15)) (v := a3) (W := wkF (rwX M0 v1 15) (a3 - 100)) (a := a134) (A := addI ((rwX M0 v1 15) 30).toInt 1) (by (clear u135c u135b h133 fM131 hM131 u101g u1019 u1017 hret C hp3 hp2 hp1 hp0 cv1 hpr hM0; omega)) (do_g (rwX M0 v1 15) (by (clear u135c u135b h133 fM131 hM131 h105 u101g u1019 u1017 u101s hret C hp3 hp2 hp1 hp0 cv1 hpr hM0; omega))) (by exact h133.2.2.1) (by exact h133.2.2.2) (fun q => by exact u135b) (by exact u135c)
              have u135A := apx_o (M := M0) (N := M131) (p := v1) (ple_f ((FX.rf.tr fM131 (by decide)) : FX [15] M0 M131) cv1 (by decide)) (((FX.rf.tr fM131 (by decide)) : FX [15] M0 M131).cell (by decide)) (((FX.rf.tr fM131 (by decide)) : FX [15] M0 M131).cell (by decide)) (((FX.rf.tr fM131 (by decide)) : FX [15] M0 M131).cell (by decide)) (by exact u1017.1) (by exact u1019.1) (by exact hp0)
              exact hret _ _ _ _ dX1_carryOut_94 ⟨a134, rfl, hM131, (FX.rf.tr fM131 (by decide)), by exact ⟨h133.1, ⟨h133.2.1, ⟨u135A, ⟨u135k.1, ⟨(by (clear u135c u135b fM131 hM131 h105 u101g u1019 u1017 u101s hret C hp3 hp2 hp1 hp0 cv1 hpr hM0; omega)), u135k.2⟩⟩⟩⟩⟩⟩
        · refine j_aload_n C 1 0 dX1_carryOut_61 rfl rfl ?_
          refine j_aload_n C 2 1 dX1_carryOut_62 rfl rfl ?_
          refine j_aload_n C 3 2 dX1_carryOut_63 rfl rfl ?_
          refine j_iload C 0 dX1_carryOut_64 rfl ?_
          refine j_callVi C (d := 4) (As := [.ref (ad v1), .ref (ad 15), .int (sI a3)]) (st := []) 87 (s_lt rfl rfl) (s_kc (c := 1) rfl rfl) (by decide) rfl (s3_X1_visitBy hM0 hpr cv1 a3 (by (clear h105 u101g u1019 u1017 u101s hret C hp3 hp2 hp1 hp0 cv1 hpr hM0; omega)) (by exact hp0) (by exact hp1) (by exact hp2)) gX1_carryOut_X1_visitBy rfl hdX1_visitBy (by decide) (Nat.le_of_ble_eq_true rfl) dX1_carryOut_66 rfl (fun r136 M137 h138 => ?_)
          obtain ⟨a140, rfl, hM137, fM137, h139⟩ := h138
          have u141w := wvF_s (rwX M0 v1 15) a3
          have u141b := bn_m1 (rwX M0 v1 15) a3
          have u141k := co_y (f := (rwX M0 v1 15)) (N := rwX M137 v1 15) (G := vsS (rwX M0 v1 15) a3) (v := a3) (W := wvF (rwX M0 v1 15) a3) (a := a140) (A := bnF (rwX M0 v1 15) a3) (by (clear h139 fM137 hM137 u101g u1019 u1017 hret C hp3 hp2 hp1 hp0 cv1 hpr hM0; omega)) (do_v (rwX M0 v1 15) (by (clear u141b h139 fM137 hM137 u101g u1019 u1017 u101s hret C hp3 hp2 hp1 hp0 cv1 hpr hM0; omega))) (by exact h139.2.2.2.1) (by exact h139.2.2.2.2) (fun q => by (clear h139 fM137 hM137 h106 h105 h104 h102 u101g u1019 u1017 u101s hret C hp3 hp2 hp1 hp0 ha3 cv1 hpr hM0; omega)) (by (clear u141b h139 fM137 hM137 h106 h105 h104 h102 u101g u1019 u1017 u101s hret C hp3 hp2 hp1 hp0 ha3 cv1 hpr hM0; omega))
          exact hret _ _ _ _ dX1_carryOut_69 ⟨a140, rfl, hM137, (FX.rf.tr fM137 (by decide)), by exact ⟨(by (clear u141b fM137 hM137 h106 h104 h102 u101g u1019 u1017 u101s hret C hp3 hp2 hp1 hp0 ha3 cv1 hpr hM0; omega)), ⟨(by (clear u141b fM137 hM137 h106 h104 h102 u101g u1019 u1017 u101s hret C hp3 hp2 hp1 hp0 ha3 cv1 hpr hM0; omega)), ⟨h139.2.2.1, ⟨u141k.1, ⟨(by (clear u141b fM137 hM137 h106 h104 h102 u101g u1019 u1017 u101s hret C hp3 hp2 hp1 hp0 ha3 cv1 hpr hM0; omega)), u141k.2⟩⟩⟩⟩⟩⟩
      · refine j_aload_n C 1 0 dX1_carryOut_29 rfl rfl ?_
        refine j_aload_n C 2 1 dX1_carryOut_30 rfl rfl ?_
        refine j_aload_n C 3 2 dX1_carryOut_31 rfl rfl ?_
        have u142o := (law_e (M := M0) (p := v1) (by exact hp1)).2.2.2
        refine j_callVi C (d := 1) (As := [.ref (ad v1), .ref (ad 15)]) (st := []) 87 (s_lt rfl rfl) (s_kc (c := 1) rfl rfl) (by decide) rfl (s3_X1_passDay hM0 hpr cv1 (by exact u142o)) gX1_carryOut_X1_passDay rfl hdX1_passDay (by decide) (Nat.le_of_ble_eq_true rfl) dX1_carryOut_32 rfl (fun r143 M144 h145 => ?_)
        obtain ⟨a147, rfl, hM144, fM144, h146⟩ := h145
        refine j_istore C 6 [(6, .int (sI a147)), (5, .int (sI a3)), (0, .ref (ad 87)), (1, .ref (ad v1)), (2, .ref (ad 15)), (3, .long (sJ a3))] dX1_carryOut_35 (by decide) rfl ?_
        refine j_aload_n C 2 0 dX1_carryOut_37 rfl rfl ?_
        refine j_aload_n C 3 1 dX1_carryOut_38 rfl rfl ?_
        refine j_aload_n C 4 2 dX1_carryOut_39 rfl rfl ?_
        refine j_iload C 0 dX1_carryOut_40 rfl ?_
        have u148A := apx_o (M := M0) (N := M144) (p := v1) (ple_f ((FX.rf.tr fM144 (by decide)) : FX [15] M0 M144) cv1 (by decide)) (((FX.rf.tr fM144 (by decide)) : FX [15] M0 M144).cell (by decide)) (((FX.rf.tr fM144 (by decide)) : FX [15] M0 M144).cell (by decide)) (((FX.rf.tr fM144 (by decide)) : FX [15] M0 M144).cell (by decide)) (by exact u1017.1) (by exact u1019.1) (by exact hp0)
        have u148L := law_p (M := M0) (N := M144) (p := v1) (ple_f (p := v1) ((FX.rf.tr fM144 (by decide)) : FX [15] M0 M144) cv1 (by decide)) (by exact u1017.1) (by exact u1019.1) (by exact hp1)
        have u148e : rwX M144 v1 15 = pdS (rwX M0 v1 15) := b01_e (by exact h146.2.2.2)
        have u148R : b01 (PRR (rwX M144 v1 15)) = 1 := by rw [u148e]; exact b01_i (prr_pd (b01_e (P := PRR (rwX M0 v1 15)) (by exact hp2)))
        refine j_callVi C (d := 4) (As := [.ref (ad v1), .ref (ad 15), .int (sI a147)]) (st := []) 87 (s_lt rfl rfl) (s_kc (c := 1) rfl rfl) (by decide) rfl (s3_X1_visitBy hM144 hpr cv1 a147 (by (clear u148R u148e u148L u148A fM144 hM144 u142o h105 h104 h102 u101g u1019 u1017 u101s hret C hp3 hp2 hp1 hp0 ha3 cv1 hpr hM0; omega)) (by exact u148A) (by exact u148L) (by exact u148R)) gX1_carryOut_X1_visitBy rfl hdX1_visitBy (by decide) (Nat.le_of_ble_eq_true rfl) dX1_carryOut_42 rfl (fun r149 M150 h151 => ?_)
        obtain ⟨a153, rfl, hM150, fM150, h152⟩ := h151
        have u154e : rwX M144 v1 15 = pdS (rwX M0 v1 15) := b01_e (by exact h146.2.2.2)
        have u154d := pd_v (f := (rwX M0 v1 15)) (N := rwX M150 v1 15) (a := a153) (fun b => bn_m1 _ b) (by rw [← u154e, show pdA (rwX M0 v1 15) = a147 by exact h146.2.2.1.symm]; exact h152.2.2.2.1) (by rw [← u154e, show pdA (rwX M0 v1 15) = a147 by exact h146.2.2.1.symm]; exact h152.2.2.2.2)
        have u154k := co_d (f := (rwX M0 v1 15)) (N := rwX M150 v1 15) (v := a3) (a := a153) (by exact h105) u154d
        have u154d1 := u154d.1
        refine y_if_lt C 52 dX1_carryOut_45 (by decide) (by (clear u154d1 u154k u154d u154e fM150 hM150 u148R u148e u148L u148A h146 fM144 hM144 u142o h105 h104 h102 u101g u1019 u1017 u101s hret C hp3 hp2 hp1 hp0 ha3 cv1 hpr hM0; omega)) (fun h155 => ?_) (fun h155 => ?_)
        · refine y_iconst C dX1_carryOut_52 ?_
          exact hret _ _ _ _ dX1_carryOut_53 ⟨0, rfl, hM150, ((FX.rf.tr fM144 (by decide)).tr fM150 (by decide)), by exact ⟨(by decide), ⟨(by decide), ⟨h152.2.2.1, ⟨(by (clear u154d u154e fM150 hM150 u148R u148e u148L u148A h146 fM144 hM144 u142o h105 h104 h102 u101g u1019 u1017 u101s hret C hp3 hp2 hp1 hp0 ha3 cv1 hpr hM0; omega)), ⟨(by (clear u154d u154e fM150 hM150 u148R u148e u148L u148A h146 fM144 hM144 u142o h105 h104 h102 u101g u1019 u1017 u101s hret C hp3 hp2 hp1 hp0 ha3 cv1 hpr hM0; omega)), u154k.2⟩⟩⟩⟩⟩⟩
        · refine y_iconst C dX1_carryOut_48 ?_
          refine j_goto C 53 dX1_carryOut_49 (by decide) ?_
          exact hret _ _ _ _ dX1_carryOut_53 ⟨1, rfl, hM150, ((FX.rf.tr fM144 (by decide)).tr fM150 (by decide)), by exact ⟨(by decide), ⟨(by decide), ⟨h152.2.2.1, ⟨(by (clear u154d u154e fM150 hM150 u148R u148e u148L u148A h146 fM144 hM144 u142o h105 h104 h102 u101g u1019 u1017 u101s hret C hp3 hp2 hp1 hp0 ha3 cv1 hpr hM0; omega)), ⟨(by (clear u154d u154e fM150 hM150 u148R u148e u148L u148A h146 fM144 hM144 u142o h105 h104 h102 u101g u1019 u1017 u101s hret C hp3 hp2 hp1 hp0 ha3 cv1 hpr hM0; omega)), u154k.2⟩⟩⟩⟩⟩⟩
    · refine y_bipush C dX1_carryOut_16 rfl ?_
      have u158k := co_n (f := (rwX M0 v1 15)) (N := rwX M0 v1 15) (v := a3) (a := -11) (by (clear u101g u1019 u1017 hret C hp3 hp2 hp1 hp0 cv1 hpr hM0; omega)) rfl rfl
      exact hret _ _ _ _ dX1_carryOut_18 ⟨(-11), rfl, hM0, FX.rf, by exact ⟨(by decide), ⟨(by decide), ⟨hp0, ⟨(by (clear u101g u1019 u1017 u101s hret C hp3 hp2 hp1 cv1 hpr hM0; omega)), ⟨(by (clear u101g u1019 u1017 u101s hret C hp3 hp2 hp1 cv1 hpr hM0; omega)), u158k.2⟩⟩⟩⟩⟩⟩
end
section
set_option maxHeartbeats 4000000 in
theorem s2_X9_copyFrom {l : Launch} {dC : Nat → ClassId} {dI : Nat → Nat → Nat} {ad : Nat → Nat} {cA : Nat → ClassId} {pr : Nat → Nat → Bool} {Kz : mm_M} {M0 : mm_M} (hM0 : INV pr Kz M0) (hpr : PX pr) (hq8_0 : ∀ i, s_c i = 8 → pr i 0 = false)  : Cv l 0 yX9_copyFrom wsX9_copyFrom dC dI ad cA [.ref (ad 15), .ref (ad 12)] M0 (fun M' => INV pr Kz M' ∧ FX [15, 16, 17] M0 M' ∧ (b01 (skX M' 15 = skX M0 12) = 1)) := by
  refine cv_of (cc := cX9_copyFrom) (maxL := 3) (lv := [(0, .ref (ad 15)), (1, .ref (ad 12))]) (by decide) rfl (Nat.le_of_ble_eq_true rfl) rfl ?_
  intro p e s m args below meth c A Q C hret
  refine j_aload_n C 0 0 dX9_copyFrom_0 rfl rfl ?_
  refine j_aload_n C 1 1 dX9_copyFrom_1 rfl rfl ?_
  refine y_getI C 8 _ _ fX9_copyFrom_9 rfl rfl ft_8_0 sb_8_0 hM0 dX9_copyFrom_2 (fun a101 ea101 la101 ua101 => ?_)
  obtain rfl : a101 = (M0.1 12 0).toInt := ea101
  refine y_putI C 8 _ _ qX9_copyFrom_9 rfl rfl ft_8_0 sb_8_0 hM0 (hq8_0 _ rfl) dX9_copyFrom_5 (by exact ⟨⟨(by omega), (by omega)⟩, ⟨la101, ua101⟩⟩) (fun M103 eM103 hM103 => ?_)
  refine y_iconst C dX9_copyFrom_8 ?_
  refine j_istore_n C 2 [(2, .int (sI 0)), (0, .ref (ad 15)), (1, .ref (ad 12))] dX9_copyFrom_9 rfl (by decide) rfl ?_
  have u104z := cpa_0 M103 M0 16 13 17 14
  have L188 : ∀ (n186 : Nat), ∀ (a189 : Int) (M190 : mm_M), (0 ≤ a189 ∧ a189 ≤ 8 ∧ ((M190.1 15 0).toInt = (M0.1 12 0).toInt) ∧ (b01 (CPA M190 M0 16 13 17 14 a189) = 1) ∧ (8 - a189) < (n186 : Int)) → INV pr Kz M190 → FX [15, 16, 17] M0 M190 → jj p l e (cn_R 0) s m args below meth c 0 0 Q 3 dC dI ad cA A M190 10 [(0, .ref (ad 15)), (1, .ref (ad 12)), (2, .int (sI a189))] [] := by
    intro n186
    induction n186 with
    | zero =>
      intro a189 M190 h191 hM190 fM190
      exfalso; omega
    | succ n186 ih187 =>
      intro a189 M190 h191 hM190 fM190
      refine j_iload_n C 2 2 dX9_copyFrom_10 rfl rfl ?_
      refine y_bipush C dX9_copyFrom_11 rfl ?_
      refine y_icmp_ge C 46 dX9_copyFrom_13 (by decide) (by exact ⟨⟨(by omega), (by omega)⟩, ⟨(by decide), (by decide)⟩⟩) (fun h193 => ?_) (fun h193 => ?_)
      · refine j_aload_n C 0 0 dX9_copyFrom_46 rfl rfl ?_
        refine j_aload_n C 1 1 dX9_copyFrom_47 rfl rfl ?_
        refine y_getI C 8 _ _ fX9_copyFrom_22 rfl rfl ft_8_3 sb_8_3 hM190 dX9_copyFrom_48 (fun a199 ea199 la199 ua199 => ?_)
        obtain rfl : a199 = (M0.1 12 3).toInt := s_fX fM190 (by decide) (ea199)
        refine y_putI C 8 _ _ qX9_copyFrom_22 rfl rfl ft_8_3 sb_8_3 hM190 (PX.w hpr rfl rfl) dX9_copyFrom_51 (by exact ⟨⟨(by (clear h193 fM190 hM190 h191 ih187 u104z hM103 eM103 ua101 la101 hret C hq8_0 hpr hM0; omega)), (by (clear h193 fM190 hM190 h191 ih187 u104z hM103 eM103 ua101 la101 hret C hq8_0 hpr hM0; omega))⟩, ⟨la199, ua199⟩⟩) (fun M201 eM201 hM201 => ?_)
        refine j_aload_n C 0 0 dX9_copyFrom_54 rfl rfl ?_
        refine j_aload_n C 1 1 dX9_copyFrom_55 rfl rfl ?_
        refine y_getI C 8 _ _ fX9_copyFrom_25 rfl rfl ft_8_4 sb_8_4 hM201 dX9_copyFrom_56 (fun a202 ea202 la202 ua202 => ?_)
        obtain rfl : a202 = (M0.1 12 4).toInt := s_fX fM190 (by decide) (s_fa eM201 (by decide) (ea202))
        refine y_putI C 8 _ _ qX9_copyFrom_25 rfl rfl ft_8_4 sb_8_4 hM201 (PX.w hpr rfl rfl) dX9_copyFrom_59 (by exact ⟨⟨(by (clear hM201 eM201 ua199 la199 ea199 h193 fM190 hM190 h191 ih187 u104z hM103 eM103 ua101 la101 hret C hq8_0 hpr hM0; omega)), (by (clear hM201 eM201 ua199 la199 ea199 h193 fM190 hM190 h191 ih187 u104z hM103 eM103 ua101 la101 hret C hq8_0 hpr hM0; omega))⟩, ⟨la202, ua202⟩⟩) (fun M204 eM204 hM204 => ?_)
        refine j_aload_n C 0 0 dX9_copyFrom_62 rfl rfl ?_
        refine j_aload_n C 1 1 dX9_copyFrom_63 rfl rfl ?_
        refine y_getI C 8 _ _ fX9_copyFrom_28 rfl rfl ft_8_5 sb_8_5 hM204 dX9_copyFrom_64 (fun a205 ea205 la205 ua205 => ?_)
        obtain rfl : a205 = (M0.1 12 5).toInt := s_fX fM190 (by decide) (s_fa eM201 (by decide) (s_fa eM204 (by decide) (ea205)))
        refine y_putIF C 8 qX9_copyFrom_28 rfl rfl ft_8_5 sb_8_5 hM204 (PX.w hpr rfl rfl) dX9_copyFrom_67 (fun M207 eM207 hM207 => ?_)
        refine j_aload_n C 0 0 dX9_copyFrom_70 rfl rfl ?_
        refine j_aload_n C 1 1 dX9_copyFrom_71 rfl rfl ?_
        refine y_getI C 8 _ _ fX9_copyFrom_31 rfl rfl ft_8_6 sb_8_6 hM207 dX9_copyFrom_72 (fun a208 ea208 la208 ua208 => ?_)
        obtain rfl : a208 = (M0.1 12 6).toInt := s_fX fM190 (by decide) (s_fa eM201 (by decide) (s_fa eM204 (by decide) (s_fa eM207 (by decide) (ea208))))
        refine y_putIF C 8 qX9_copyFrom_31 rfl rfl ft_8_6 sb_8_6 hM207 (PX.w hpr rfl rfl) dX9_copyFrom_75 (fun M210 eM210 hM210 => ?_)
        refine j_aload_n C 0 0 dX9_copyFrom_78 rfl rfl ?_
        refine j_aload_n C 1 1 dX9_copyFrom_79 rfl rfl ?_
        refine y_getI C 8 _ _ fX9_copyFrom_34 rfl rfl ft_8_7 sb_8_7 hM210 dX9_copyFrom_80 (fun a211 ea211 la211 ua211 => ?_)
        obtain rfl : a211 = (M0.1 12 7).toInt := s_fX fM190 (by decide) (s_fa eM201 (by decide) (s_fa eM204 (by decide) (s_fa eM207 (by decide) (s_fa eM210 (by decide) (ea211)))))
        refine y_putIF C 8 qX9_copyFrom_34 rfl rfl ft_8_7 sb_8_7 hM210 (PX.w hpr rfl rfl) dX9_copyFrom_83 (fun M213 eM213 hM213 => ?_)
        refine j_aload_n C 0 0 dX9_copyFrom_86 rfl rfl ?_
        refine j_aload_n C 1 1 dX9_copyFrom_87 rfl rfl ?_
        refine y_getI C 8 _ _ fX9_copyFrom_37 rfl rfl ft_8_8 sb_8_8 hM213 dX9_copyFrom_88 (fun a214 ea214 la214 ua214 => ?_)
        obtain rfl : a214 = (M0.1 12 8).toInt := s_fX fM190 (by decide) (s_fa eM201 (by decide) (s_fa eM204 (by decide) (s_fa eM207 (by decide) (s_fa eM210 (by decide) (s_fa eM213 (by decide) (ea214))))))
        refine y_putIF C 8 qX9_copyFrom_37 rfl rfl ft_8_8 sb_8_8 hM213 (PX.w hpr rfl rfl) dX9_copyFrom_91 (fun M216 eM216 hM216 => ?_)
        have u217c := cpa_c (M := M190) (M' := M216) (B := M0) (p0 := 16) (p1 := 13) (g0 := 17) (g1 := 14) (n := a189) (n' := 8) (by exact h191.2.2.2.1) ((((((wI_cell eM216 (by decide)).trans (wI_cell eM213 (by decide))).trans (wI_cell eM210 (by decide))).trans (wI_cell eM207 (by decide))).trans (wI_cell eM204 (by decide))).trans (wI_cell eM201 (by decide))) ((((((wI_cell eM216 (by decide)).trans (wI_cell eM213 (by decide))).trans (wI_cell eM210 (by decide))).trans (wI_cell eM207 (by decide))).trans (wI_cell eM204 (by decide))).trans (wI_cell eM201 (by decide))) (by omega)
        have zz15_0 : (M216.1 15 0).toInt = (M190.1 15 0).toInt := s_fb eM201 (by decide) (s_fb eM204 (by decide) (s_fb eM207 (by decide) (s_fb eM210 (by decide) (s_fb eM213 (by decide) (s_fb eM216 (by decide) (rfl))))))
        have zz15_3 := (Eq.trans (s_fb eM204 (by decide) (s_fb eM207 (by decide) (s_fb eM210 (by decide) (s_fb eM213 (by decide) (s_fb eM216 (by decide) (rfl))))) : (M216.1 15 3).toInt = (M201.1 15 3).toInt) (s_wr eM201 (by (clear zz15_0 u217c hM216 eM216 ua214 la214 ea214 hM213 eM213 ua211 la211 ea211 hM210 eM210 ua208 la208 ea208 hM207 eM207 ua205 la205 ea205 hM204 eM204 ua202 la202 ea202 hM201 eM201 h193 fM190 hM190 h191 ih187 u104z hM103 eM103 ua101 la101 hret C hq8_0 hpr hM0; omega))))
        have zz15_4 := (Eq.trans (s_fb eM207 (by decide) (s_fb eM210 (by decide) (s_fb eM213 (by decide) (s_fb eM216 (by decide) (rfl)))) : (M216.1 15 4).toInt = (M204.1 15 4).toInt) (s_wr eM204 (by (clear zz15_3 zz15_0 u217c hM216 eM216 ua214 la214 ea214 hM213 eM213 ua211 la211 ea211 hM210 eM210 ua208 la208 ea208 hM207 eM207 ua205 la205 ea205 hM204 eM204 hM201 eM201 ua199 la199 ea199 h193 fM190 hM190 h191 ih187 u104z hM103 eM103 ua101 la101 hret C hq8_0 hpr hM0; omega))))
        have zz15_5 := (Eq.trans (s_fb eM210 (by decide) (s_fb eM213 (by decide) (s_fb eM216 (by decide) (rfl))) : (M216.1 15 5).toInt = (M207.1 15 5).toInt) (s_wr eM207 (by exact ⟨la205, ua205⟩)))
        have zz15_6 := (Eq.trans (s_fb eM213 (by decide) (s_fb eM216 (by decide) (rfl)) : (M216.1 15 6).toInt = (M210.1 15 6).toInt) (s_wr eM210 (by exact ⟨la208, ua208⟩)))
        have zz15_7 := (Eq.trans (s_fb eM216 (by decide) (rfl) : (M216.1 15 7).toInt = (M213.1 15 7).toInt) (s_wr eM213 (by exact ⟨la211, ua211⟩)))
        have zz15_8 := (Eq.trans (rfl : (M216.1 15 8).toInt = (M216.1 15 8).toInt) (s_wr eM216 (by exact ⟨la214, ua214⟩)))
        have u217k := copy_k (M := M0) (N := M216) (d := 15) (s := 12) (p := 0) (by (clear zz15_8 zz15_7 zz15_6 zz15_5 zz15_4 zz15_3 u217c hM216 eM216 ua214 la214 ea214 hM213 eM213 ua211 la211 ea211 hM210 eM210 ua208 la208 ea208 hM207 eM207 ua205 la205 ea205 hM204 eM204 ua202 la202 ea202 hM201 eM201 ua199 la199 ea199 h193 fM190 hM190 ih187 u104z hM103 eM103 ua101 la101 hret C hq8_0 hpr hM0; omega)) (by exact zz15_3) (by exact zz15_4) (by exact zz15_5) (by exact zz15_6) (by exact zz15_7) (by exact zz15_8) (show b01 (CPA M216 M0 16 13 17 14 8) = 1 from by exact u217c)
        exact hret _ _ _ dX9_copyFrom_94 ⟨hM216, (((((((FX.rf.tr fM190 (by decide)).wI eM201 (by decide)).wI eM204 (by decide)).wI eM207 (by decide)).wI eM210 (by decide)).wI eM213 (by decide)).wI eM216 (by decide)), by exact u217k⟩
      · refine j_aload_n C 0 0 dX9_copyFrom_16 rfl rfl ?_
        refine y_getC C 8 16 fX9_copyFrom_15 rfl rfl ft_8_1 sm_8_1 rfl hM190 dX9_copyFrom_17 ?_
        refine j_iload_n C 2 2 dX9_copyFrom_20 rfl rfl ?_
        refine j_aload_n C 1 1 dX9_copyFrom_21 rfl rfl ?_
        refine y_getC C 8 13 fX9_copyFrom_15 rfl rfl ft_8_1 sm_8_1 rfl hM190 dX9_copyFrom_22 ?_
        refine j_iload_n C 2 2 dX9_copyFrom_25 rfl rfl ?_
        refine y_iald C 25 8 _ _ rfl rfl rfl ak_25 an_25 rfl (sb_25 _) hM190 dX9_copyFrom_26 (by exact ⟨h191.1, (by omega)⟩) (fun a194 ea194 la194 ua194 => ?_)
        obtain rfl : a194 = (M0.1 13 (a189).toNat).toInt := s_fX fM190 (by decide) (ea194)
        refine y_iastF C 25 8 rfl rfl rfl ak_25 an_25 rfl (sb_25 _) hM190 (PX.w hpr rfl rfl) dX9_copyFrom_27 (by exact ⟨h191.1, (by omega)⟩) (fun M195 eM195 hM195 => ?_)
        refine j_aload_n C 0 0 dX9_copyFrom_28 rfl rfl ?_
        refine y_getC C 8 17 fX9_copyFrom_19 rfl rfl ft_8_2 sm_8_2 rfl hM195 dX9_copyFrom_29 ?_
        refine j_iload_n C 2 2 dX9_copyFrom_32 rfl rfl ?_
        refine j_aload_n C 1 1 dX9_copyFrom_33 rfl rfl ?_
        refine y_getC C 8 14 fX9_copyFrom_19 rfl rfl ft_8_2 sm_8_2 rfl hM195 dX9_copyFrom_34 ?_
        refine j_iload_n C 2 2 dX9_copyFrom_37 rfl rfl ?_
        refine y_iald C 26 8 _ _ rfl rfl rfl ak_26 an_26 rfl (sb_26 _) hM195 dX9_copyFrom_38 (by exact ⟨h191.1, (by omega)⟩) (fun a196 ea196 la196 ua196 => ?_)
        obtain rfl : a196 = (M0.1 14 (a189).toNat).toInt := s_fX fM190 (by decide) (s_fa eM195 (by decide) (ea196))
        refine y_iastF C 26 8 rfl rfl rfl ak_26 an_26 rfl (sb_26 _) hM195 (PX.w hpr rfl rfl) dX9_copyFrom_39 (by exact ⟨h191.1, (by omega)⟩) (fun M197 eM197 hM197 => ?_)
        refine y_iinc C 2 [(2, .int (sI (a189 + 1))), (0, .ref (ad 15)), (1, .ref (ad 12))] dX9_copyFrom_40 rfl (by decide) rfl ?_
        refine j_goto C 10 dX9_copyFrom_43 (by decide) ?_
        have u198s := cpa_s (B := M0) (p1 := 13) (g1 := 14) (n := a189) (n' := (a189 + 1)) (by exact h191.2.2.2.1) (by omega) eM195 eM197 (by decide)
        have zz15_0 : (M197.1 15 0).toInt = (M190.1 15 0).toInt := s_fa eM195 (by decide) (s_fa eM197 (by decide) (rfl)); refine j_lv [1, 2, 0] rfl ?_; exact ih187 (a189 + 1) M197 (by exact ⟨(by (clear hM197 eM197 ua196 la196 ea196 hM195 eM195 ua194 la194 ea194 fM190 hM190 ih187 u104z hM103 eM103 ua101 la101 hret C hq8_0 hpr hM0; omega)), ⟨(by (clear hM197 eM197 ua196 la196 ea196 hM195 eM195 ua194 la194 ea194 fM190 hM190 ih187 u104z hM103 eM103 ua101 la101 hret C hq8_0 hpr hM0; omega)), ⟨(by (clear hM197 eM197 ua196 la196 ea196 hM195 eM195 ua194 la194 ea194 fM190 hM190 ih187 u104z hM103 eM103 ua101 la101 hret C hq8_0 hpr hM0; omega)), ⟨u198s, (by (clear hM197 eM197 ua196 la196 ea196 hM195 eM195 ua194 la194 ea194 fM190 hM190 ih187 u104z hM103 eM103 ua101 la101 hret C hq8_0 hpr hM0; omega))⟩⟩⟩⟩) hM197 (((FX.rf.tr fM190 (by decide)).wI eM195 (by decide)).wI eM197 (by decide))
  have zz15_0 := (Eq.trans (rfl : (M103.1 15 0).toInt = (M103.1 15 0).toInt) (s_wr eM103 (by omega))); refine j_lv [1, 2, 0] rfl ?_; exact L188 2010 0 M103 (by exact ⟨(by decide), ⟨(by decide), ⟨zz15_0, ⟨u104z, (by decide)⟩⟩⟩⟩) hM103 (FX.rf.wI eM103 (by decide))
set_option maxHeartbeats 4000000 in
theorem s3_X9_copyFrom {l : Launch} {dC : Nat → ClassId} {dI : Nat → Nat → Nat} {ad : Nat → Nat} {cA : Nat → ClassId} {pr : Nat → Nat → Bool} {Kz : mm_M} {M0 : mm_M} (hM0 : INV pr Kz M0) (hpr : PX pr) (hq8_0 : ∀ i, s_c i = 8 → pr i 0 = false)  : Cv l 0 yX9_copyFrom wsX9_copyFrom dC dI ad cA [.ref (ad 20), .ref (ad 15)] M0 (fun M' => INV pr Kz M' ∧ FX [20, 21, 22] M0 M' ∧ (b01 (skX M' 20 = skX M0 15) = 1)) := by
  refine cv_of (cc := cX9_copyFrom) (maxL := 3) (lv := [(0, .ref (ad 20)), (1, .ref (ad 15))]) (by decide) rfl (Nat.le_of_ble_eq_true rfl) rfl ?_
  intro p e s m args below meth c A Q C hret
  refine j_aload_n C 0 0 dX9_copyFrom_0 rfl rfl ?_
  refine j_aload_n C 1 1 dX9_copyFrom_1 rfl rfl ?_
  refine y_getI C 8 _ _ fX9_copyFrom_9 rfl rfl ft_8_0 sb_8_0 hM0 dX9_copyFrom_2 (fun a101 ea101 la101 ua101 => ?_)
  obtain rfl : a101 = (M0.1 15 0).toInt := ea101
  refine y_putI C 8 _ _ qX9_copyFrom_9 rfl rfl ft_8_0 sb_8_0 hM0 (hq8_0 _ rfl) dX9_copyFrom_5 (by exact ⟨⟨(by omega), (by omega)⟩, ⟨la101, ua101⟩⟩) (fun M103 eM103 hM103 => ?_)
  refine y_iconst C dX9_copyFrom_8 ?_
  refine j_istore_n C 2 [(2, .int (sI 0)), (0, .ref (ad 20)), (1, .ref (ad 15))] dX9_copyFrom_9 rfl (by decide) rfl ?_
  have u104z := cpa_0 M103 M0 21 16 22 17
  have L188 : ∀ (n186 : Nat), ∀ (a189 : Int) (M190 : mm_M), (0 ≤ a189 ∧ a189 ≤ 8 ∧ ((M190.1 20 0).toInt = (M0.1 15 0).toInt) ∧ (b01 (CPA M190 M0 21 16 22 17 a189) = 1) ∧ (8 - a189) < (n186 : Int)) → INV pr Kz M190 → FX [20, 21, 22] M0 M190 → jj p l e (cn_R 0) s m args below meth c 0 0 Q 3 dC dI ad cA A M190 10 [(0, .ref (ad 20)), (1, .ref (ad 15)), (2, .int (sI a189))] [] := by
    intro n186
    induction n186 with
    | zero =>
      intro a189 M190 h191 hM190 fM190
      exfalso; omega
    | succ n186 ih187 =>
      intro a189 M190 h191 hM190 fM190
      refine j_iload_n C 2 2 dX9_copyFrom_10 rfl rfl ?_
      refine y_bipush C dX9_copyFrom_11 rfl ?_
      refine y_icmp_ge C 46 dX9_copyFrom_13 (by decide) (by exact ⟨⟨(by omega), (by omega)⟩, ⟨(by decide), (by decide)⟩⟩) (fun h193 => ?_) (fun h193 => ?_)
      · refine j_aload_n C 0 0 dX9_copyFrom_46 rfl rfl ?_
        refine j_aload_n C 1 1 dX9_copyFrom_47 rfl rfl ?_
        refine y_getI C 8 _ _ fX9_copyFrom_22 rfl rfl ft_8_3 sb_8_3 hM190 dX9_copyFrom_48 (fun a199 ea199 la199 ua199 => ?_)
        obtain rfl : a199 = (M0.1 15 3).toInt := s_fX fM190 (by decide) (ea199)
        refine y_putI C 8 _ _ qX9_copyFrom_22 rfl rfl ft_8_3 sb_8_3 hM190 (PX.w hpr rfl rfl) dX9_copyFrom_51 (by exact ⟨⟨(by (clear h193 fM190 hM190 h191 ih187 u104z hM103 eM103 ua101 la101 hret C hq8_0 hpr hM0; omega)), (by (clear h193 fM190 hM190 h191 ih187 u104z hM103 eM103 ua101 la101 hret C hq8_0 hpr hM0; omega))⟩, ⟨la199, ua199⟩⟩) (fun M201 eM201 hM201 => ?_)
        refine j_aload_n C 0 0 dX9_copyFrom_54 rfl rfl ?_
        refine j_aload_n C 1 1 dX9_copyFrom_55 rfl rfl ?_
        refine y_getI C 8 _ _ fX9_copyFrom_25 rfl rfl ft_8_4 sb_8_4 hM201 dX9_copyFrom_56 (fun a202 ea202 la202 ua202 => ?_)
        obtain rfl : a202 = (M0.1 15 4).toInt := s_fX fM190 (by decide) (s_fa eM201 (by decide) (ea202))
        refine y_putI C 8 _ _ qX9_copyFrom_25 rfl rfl ft_8_4 sb_8_4 hM201 (PX.w hpr rfl rfl) dX9_copyFrom_59 (by exact ⟨⟨(by (clear hM201 eM201 ua199 la199 ea199 h193 fM190 hM190 h191 ih187 u104z hM103 eM103 ua101 la101 hret C hq8_0 hpr hM0; omega)), (by (clear hM201 eM201 ua199 la199 ea199 h193 fM190 hM190 h191 ih187 u104z hM103 eM103 ua101 la101 hret C hq8_0 hpr hM0; omega))⟩, ⟨la202, ua202⟩⟩) (fun M204 eM204 hM204 => ?_)
        refine j_aload_n C 0 0 dX9_copyFrom_62 rfl rfl ?_
        refine j_aload_n C 1 1 dX9_copyFrom_63 rfl rfl ?_
        refine y_getI C 8 _ _ fX9_copyFrom_28 rfl rfl ft_8_5 sb_8_5 hM204 dX9_copyFrom_64 (fun a205 ea205 la205 ua205 => ?_)
        obtain rfl : a205 = (M0.1 15 5).toInt := s_fX fM190 (by decide) (s_fa eM201 (by decide) (s_fa eM204 (by decide) (ea205)))
        refine y_putIF C 8 qX9_copyFrom_28 rfl rfl ft_8_5 sb_8_5 hM204 (PX.w hpr rfl rfl) dX9_copyFrom_67 (fun M207 eM207 hM207 => ?_)
        refine j_aload_n C 0 0 dX9_copyFrom_70 rfl rfl ?_
        refine j_aload_n C 1 1 dX9_copyFrom_71 rfl rfl ?_
        refine y_getI C 8 _ _ fX9_copyFrom_31 rfl rfl ft_8_6 sb_8_6 hM207 dX9_copyFrom_72 (fun a208 ea208 la208 ua208 => ?_)
        obtain rfl : a208 = (M0.1 15 6).toInt := s_fX fM190 (by decide) (s_fa eM201 (by decide) (s_fa eM204 (by decide) (s_fa eM207 (by decide) (ea208))))
        refine y_putIF C 8 qX9_copyFrom_31 rfl rfl ft_8_6 sb_8_6 hM207 (PX.w hpr rfl rfl) dX9_copyFrom_75 (fun M210 eM210 hM210 => ?_)
        refine j_aload_n C 0 0 dX9_copyFrom_78 rfl rfl ?_
        refine j_aload_n C 1 1 dX9_copyFrom_79 rfl rfl ?_
        refine y_getI C 8 _ _ fX9_copyFrom_34 rfl rfl ft_8_7 sb_8_7 hM210 dX9_copyFrom_80 (fun a211 ea211 la211 ua211 => ?_)
        obtain rfl : a211 = (M0.1 15 7).toInt := s_fX fM190 (by decide) (s_fa eM201 (by decide) (s_fa eM204 (by decide) (s_fa eM207 (by decide) (s_fa eM210 (by decide) (ea211)))))
        refine y_putIF C 8 qX9_copyFrom_34 rfl rfl ft_8_7 sb_8_7 hM210 (PX.w hpr rfl rfl) dX9_copyFrom_83 (fun M213 eM213 hM213 => ?_)
        refine j_aload_n C 0 0 dX9_copyFrom_86 rfl rfl ?_
        refine j_aload_n C 1 1 dX9_copyFrom_87 rfl rfl ?_
        refine y_getI C 8 _ _ fX9_copyFrom_37 rfl rfl ft_8_8 sb_8_8 hM213 dX9_copyFrom_88 (fun a214 ea214 la214 ua214 => ?_)
        obtain rfl : a214 = (M0.1 15 8).toInt := s_fX fM190 (by decide) (s_fa eM201 (by decide) (s_fa eM204 (by decide) (s_fa eM207 (by decide) (s_fa eM210 (by decide) (s_fa eM213 (by decide) (ea214))))))
        refine y_putIF C 8 qX9_copyFrom_37 rfl rfl ft_8_8 sb_8_8 hM213 (PX.w hpr rfl rfl) dX9_copyFrom_91 (fun M216 eM216 hM216 => ?_)
        have u217c := cpa_c (M := M190) (M' := M216) (B := M0) (p0 := 21) (p1 := 16) (g0 := 22) (g1 := 17) (n := a189) (n' := 8) (by exact h191.2.2.2.1) ((((((wI_cell eM216 (by decide)).trans (wI_cell eM213 (by decide))).trans (wI_cell eM210 (by decide))).trans (wI_cell eM207 (by decide))).trans (wI_cell eM204 (by decide))).trans (wI_cell eM201 (by decide))) ((((((wI_cell eM216 (by decide)).trans (wI_cell eM213 (by decide))).trans (wI_cell eM210 (by decide))).trans (wI_cell eM207 (by decide))).trans (wI_cell eM204 (by decide))).trans (wI_cell eM201 (by decide))) (by omega)
        have zz20_0 : (M216.1 20 0).toInt = (M190.1 20 0).toInt := s_fb eM201 (by decide) (s_fb eM204 (by decide) (s_fb eM207 (by decide) (s_fb eM210 (by decide) (s_fb eM213 (by decide) (s_fb eM216 (by decide) (rfl))))))
        have zz20_3 := (Eq.trans (s_fb eM204 (by decide) (s_fb eM207 (by decide) (s_fb eM210 (by decide) (s_fb eM213 (by decide) (s_fb eM216 (by decide) (rfl))))) : (M216.1 20 3).toInt = (M201.1 20 3).toInt) (s_wr eM201 (by (clear zz20_0 u217c hM216 eM216 ua214 la214 ea214 hM213 eM213 ua211 la211 ea211 hM210 eM210 ua208 la208 ea208 hM207 eM207 ua205 la205 ea205 hM204 eM204 ua202 la202 ea202 hM201 eM201 h193 fM190 hM190 h191 ih187 u104z hM103 eM103 ua101 la101 hret C hq8_0 hpr hM0; omega))))
        have zz20_4 := (Eq.trans (s_fb eM207 (by decide) (s_fb eM210 (by decide) (s_fb eM213 (by decide) (s_fb eM216 (by decide) (rfl)))) : (M216.1 20 4).toInt = (M204.1 20 4).toInt) (s_wr eM204 (by (clear zz20_3 zz20_0 u217c hM216 eM216 ua214 la214 ea214 hM213 eM213 ua211 la211 ea211 hM210 eM210 ua208 la208 ea208 hM207 eM207 ua205 la205 ea205 hM204 eM204 hM201 eM201 ua199 la199 ea199 h193 fM190 hM190 h191 ih187 u104z hM103 eM103 ua101 la101 hret C hq8_0 hpr hM0; omega))))
        have zz20_5 := (Eq.trans (s_fb eM210 (by decide) (s_fb eM213 (by decide) (s_fb eM216 (by decide) (rfl))) : (M216.1 20 5).toInt = (M207.1 20 5).toInt) (s_wr eM207 (by exact ⟨la205, ua205⟩)))
        have zz20_6 := (Eq.trans (s_fb eM213 (by decide) (s_fb eM216 (by decide) (rfl)) : (M216.1 20 6).toInt = (M210.1 20 6).toInt) (s_wr eM210 (by exact ⟨la208, ua208⟩)))
        have zz20_7 := (Eq.trans (s_fb eM216 (by decide) (rfl) : (M216.1 20 7).toInt = (M213.1 20 7).toInt) (s_wr eM213 (by exact ⟨la211, ua211⟩)))
        have zz20_8 := (Eq.trans (rfl : (M216.1 20 8).toInt = (M216.1 20 8).toInt) (s_wr eM216 (by exact ⟨la214, ua214⟩)))
        have u217k := copy_k (M := M0) (N := M216) (d := 20) (s := 15) (p := 0) (by (clear zz20_8 zz20_7 zz20_6 zz20_5 zz20_4 zz20_3 u217c hM216 eM216 ua214 la214 ea214 hM213 eM213 ua211 la211 ea211 hM210 eM210 ua208 la208 ea208 hM207 eM207 ua205 la205 ea205 hM204 eM204 ua202 la202 ea202 hM201 eM201 ua199 la199 ea199 h193 fM190 hM190 ih187 u104z hM103 eM103 ua101 la101 hret C hq8_0 hpr hM0; omega)) (by exact zz20_3) (by exact zz20_4) (by exact zz20_5) (by exact zz20_6) (by exact zz20_7) (by exact zz20_8) (show b01 (CPA M216 M0 21 16 22 17 8) = 1 from by exact u217c)
        exact hret _ _ _ dX9_copyFrom_94 ⟨hM216, (((((((FX.rf.tr fM190 (by decide)).wI eM201 (by decide)).wI eM204 (by decide)).wI eM207 (by decide)).wI eM210 (by decide)).wI eM213 (by decide)).wI eM216 (by decide)), by exact u217k⟩
      · refine j_aload_n C 0 0 dX9_copyFrom_16 rfl rfl ?_
        refine y_getC C 8 21 fX9_copyFrom_15 rfl rfl ft_8_1 sm_8_1 rfl hM190 dX9_copyFrom_17 ?_
        refine j_iload_n C 2 2 dX9_copyFrom_20 rfl rfl ?_
        refine j_aload_n C 1 1 dX9_copyFrom_21 rfl rfl ?_
        refine y_getC C 8 16 fX9_copyFrom_15 rfl rfl ft_8_1 sm_8_1 rfl hM190 dX9_copyFrom_22 ?_
        refine j_iload_n C 2 2 dX9_copyFrom_25 rfl rfl ?_
        refine y_iald C 25 8 _ _ rfl rfl rfl ak_25 an_25 rfl (sb_25 _) hM190 dX9_copyFrom_26 (by exact ⟨h191.1, (by omega)⟩) (fun a194 ea194 la194 ua194 => ?_)
        obtain rfl : a194 = (M0.1 16 (a189).toNat).toInt := s_fX fM190 (by decide) (ea194)
        refine y_iastF C 25 8 rfl rfl rfl ak_25 an_25 rfl (sb_25 _) hM190 (PX.w hpr rfl rfl) dX9_copyFrom_27 (by exact ⟨h191.1, (by omega)⟩) (fun M195 eM195 hM195 => ?_)
        refine j_aload_n C 0 0 dX9_copyFrom_28 rfl rfl ?_
        refine y_getC C 8 22 fX9_copyFrom_19 rfl rfl ft_8_2 sm_8_2 rfl hM195 dX9_copyFrom_29 ?_
        refine j_iload_n C 2 2 dX9_copyFrom_32 rfl rfl ?_
        refine j_aload_n C 1 1 dX9_copyFrom_33 rfl rfl ?_
        refine y_getC C 8 17 fX9_copyFrom_19 rfl rfl ft_8_2 sm_8_2 rfl hM195 dX9_copyFrom_34 ?_
        refine j_iload_n C 2 2 dX9_copyFrom_37 rfl rfl ?_
        refine y_iald C 26 8 _ _ rfl rfl rfl ak_26 an_26 rfl (sb_26 _) hM195 dX9_copyFrom_38 (by exact ⟨h191.1, (by omega)⟩) (fun a196 ea196 la196 ua196 => ?_)
        obtain rfl : a196 = (M0.1 17 (a189).toNat).toInt := s_fX fM190 (by decide) (s_fa eM195 (by decide) (ea196))
        refine y_iastF C 26 8 rfl rfl rfl ak_26 an_26 rfl (sb_26 _) hM195 (PX.w hpr rfl rfl) dX9_copyFrom_39 (by exact ⟨h191.1, (by omega)⟩) (fun M197 eM197 hM197 => ?_)
        refine y_iinc C 2 [(2, .int (sI (a189 + 1))), (0, .ref (ad 20)), (1, .ref (ad 15))] dX9_copyFrom_40 rfl (by decide) rfl ?_
        refine j_goto C 10 dX9_copyFrom_43 (by decide) ?_
        have u198s := cpa_s (B := M0) (p1 := 16) (g1 := 17) (n := a189) (n' := (a189 + 1)) (by exact h191.2.2.2.1) (by omega) eM195 eM197 (by decide)
        have zz20_0 : (M197.1 20 0).toInt = (M190.1 20 0).toInt := s_fa eM195 (by decide) (s_fa eM197 (by decide) (rfl)); refine j_lv [1, 2, 0] rfl ?_; exact ih187 (a189 + 1) M197 (by exact ⟨(by (clear hM197 eM197 ua196 la196 ea196 hM195 eM195 ua194 la194 ea194 fM190 hM190 ih187 u104z hM103 eM103 ua101 la101 hret C hq8_0 hpr hM0; omega)), ⟨(by (clear hM197 eM197 ua196 la196 ea196 hM195 eM195 ua194 la194 ea194 fM190 hM190 ih187 u104z hM103 eM103 ua101 la101 hret C hq8_0 hpr hM0; omega)), ⟨(by (clear hM197 eM197 ua196 la196 ea196 hM195 eM195 ua194 la194 ea194 fM190 hM190 ih187 u104z hM103 eM103 ua101 la101 hret C hq8_0 hpr hM0; omega)), ⟨u198s, (by (clear hM197 eM197 ua196 la196 ea196 hM195 eM195 ua194 la194 ea194 fM190 hM190 ih187 u104z hM103 eM103 ua101 la101 hret C hq8_0 hpr hM0; omega))⟩⟩⟩⟩) hM197 (((FX.rf.tr fM190 (by decide)).wI eM195 (by decide)).wI eM197 (by decide))
  have zz20_0 := (Eq.trans (rfl : (M103.1 20 0).toInt = (M103.1 20 0).toInt) (s_wr eM103 (by omega))); refine j_lv [1, 2, 0] rfl ?_; exact L188 2010 0 M103 (by exact ⟨(by decide), ⟨(by decide), ⟨zz20_0, ⟨u104z, (by decide)⟩⟩⟩⟩) hM103 (FX.rf.wI eM103 (by decide))
set_option maxHeartbeats 4000000 in
theorem s4_X9_copyFrom {l : Launch} {dC : Nat → ClassId} {dI : Nat → Nat → Nat} {ad : Nat → Nat} {cA : Nat → ClassId} {pr : Nat → Nat → Bool} {Kz : mm_M} {M0 : mm_M} (hM0 : INV pr Kz M0) (hpr : PX pr) (hq8_0 : ∀ i, s_c i = 8 → pr i 0 = false)  : Cv l 0 yX9_copyFrom wsX9_copyFrom dC dI ad cA [.ref (ad 23), .ref (ad 15)] M0 (fun M' => INV pr Kz M' ∧ FX [23, 24, 25] M0 M' ∧ (b01 (skX M' 23 = skX M0 15) = 1)) := by
  refine cv_of (cc := cX9_copyFrom) (maxL := 3) (lv := [(0, .ref (ad 23)), (1, .ref (ad 15))]) (by decide) rfl (Nat.le_of_ble_eq_true rfl) rfl ?_
  intro p e s m args below meth c A Q C hret
  refine j_aload_n C 0 0 dX9_copyFrom_0 rfl rfl ?_
  refine j_aload_n C 1 1 dX9_copyFrom_1 rfl rfl ?_
  refine y_getI C 8 _ _ fX9_copyFrom_9 rfl rfl ft_8_0 sb_8_0 hM0 dX9_copyFrom_2 (fun a101 ea101 la101 ua101 => ?_)
  obtain rfl : a101 = (M0.1 15 0).toInt := ea101
  refine y_putI C 8 _ _ qX9_copyFrom_9 rfl rfl ft_8_0 sb_8_0 hM0 (hq8_0 _ rfl) dX9_copyFrom_5 (by exact ⟨⟨(by omega), (by omega)⟩, ⟨la101, ua101⟩⟩) (fun M103 eM103 hM103 => ?_)
  refine y_iconst C dX9_copyFrom_8 ?_
  refine j_istore_n C 2 [(2, .int (sI 0)), (0, .ref (ad 23)), (1, .ref (ad 15))] dX9_copyFrom_9 rfl (by decide) rfl ?_
  have u104z := cpa_0 M103 M0 24 16 25 17
  have L188 : ∀ (n186 : Nat), ∀ (a189 : Int) (M190 : mm_M), (0 ≤ a189 ∧ a189 ≤ 8 ∧ ((M190.1 23 0).toInt = (M0.1 15 0).toInt) ∧ (b01 (CPA M190 M0 24 16 25 17 a189) = 1) ∧ (8 - a189) < (n186 : Int)) → INV pr Kz M190 → FX [23, 24, 25] M0 M190 → jj p l e (cn_R 0) s m args below meth c 0 0 Q 3 dC dI ad cA A M190 10 [(0, .ref (ad 23)), (1, .ref (ad 15)), (2, .int (sI a189))] [] := by
    intro n186
    induction n186 with
    | zero =>
      intro a189 M190 h191 hM190 fM190
      exfalso; omega
    | succ n186 ih187 =>
      intro a189 M190 h191 hM190 fM190
      refine j_iload_n C 2 2 dX9_copyFrom_10 rfl rfl ?_
      refine y_bipush C dX9_copyFrom_11 rfl ?_
      refine y_icmp_ge C 46 dX9_copyFrom_13 (by decide) (by exact ⟨⟨(by omega), (by omega)⟩, ⟨(by decide), (by decide)⟩⟩) (fun h193 => ?_) (fun h193 => ?_)
      · refine j_aload_n C 0 0 dX9_copyFrom_46 rfl rfl ?_
        refine j_aload_n C 1 1 dX9_copyFrom_47 rfl rfl ?_
        refine y_getI C 8 _ _ fX9_copyFrom_22 rfl rfl ft_8_3 sb_8_3 hM190 dX9_copyFrom_48 (fun a199 ea199 la199 ua199 => ?_)
        obtain rfl : a199 = (M0.1 15 3).toInt := s_fX fM190 (by decide) (ea199)
        refine y_putI C 8 _ _ qX9_copyFrom_22 rfl rfl ft_8_3 sb_8_3 hM190 (PX.w hpr rfl rfl) dX9_copyFrom_51 (by exact ⟨⟨(by omega), (by omega)⟩, ⟨la199, ua199⟩⟩) (fun M201 eM201 hM201 => ?_)
        refine j_aload_n C 0 0 dX9_copyFrom_54 rfl rfl ?_
        refine j_aload_n C 1 1 dX9_copyFrom_55 rfl rfl ?_
        refine y_getI C 8 _ _ fX9_copyFrom_25 rfl rfl ft_8_4 sb_8_4 hM201 dX9_copyFrom_56 (fun a202 ea202 la202 ua202 => ?_)
        obtain rfl : a202 = (M0.1 15 4).toInt := s_fX fM190 (by decide) (s_fa eM201 (by decide) (ea202))
        refine y_putI C 8 _ _ qX9_copyFrom_25 rfl rfl ft_8_4 sb_8_4 hM201 (PX.w hpr rfl rfl) dX9_copyFrom_59 (by exact ⟨⟨(by omega), (by omega)⟩, ⟨la202, ua202⟩⟩) (fun M204 eM204 hM204 => ?_)
        refine j_aload_n C 0 0 dX9_copyFrom_62 rfl rfl ?_
        refine j_aload_n C 1 1 dX9_copyFrom_63 rfl rfl ?_
        refine y_getI C 8 _ _ fX9_copyFrom_28 rfl rfl ft_8_5 sb_8_5 hM204 dX9_copyFrom_64 (fun a205 ea205 la205 ua205 => ?_)
        obtain rfl : a205 = (M0.1 15 5).toInt := s_fX fM190 (by decide) (s_fa eM201 (by decide) (s_fa eM204 (by decide) (ea205)))
        refine y_putIF C 8 qX9_copyFrom_28 rfl rfl ft_8_5 sb_8_5 hM204 (PX.w hpr rfl rfl) dX9_copyFrom_67 (fun M207 eM207 hM207 => ?_)
        refine j_aload_n C 0 0 dX9_copyFrom_70 rfl rfl ?_
        refine j_aload_n C 1 1 dX9_copyFrom_71 rfl rfl ?_
        refine y_getI C 8 _ _ fX9_copyFrom_31 rfl rfl ft_8_6 sb_8_6 hM207 dX9_copyFrom_72 (fun a208 ea208 la208 ua208 => ?_)
        obtain rfl : a208 = (M0.1 15 6).toInt := s_fX fM190 (by decide) (s_fa eM201 (by decide) (s_fa eM204 (by decide) (s_fa eM207 (by decide) (ea208))))
        refine y_putIF C 8 qX9_copyFrom_31 rfl rfl ft_8_6 sb_8_6 hM207 (PX.w hpr rfl rfl) dX9_copyFrom_75 (fun M210 eM210 hM210 => ?_)
        refine j_aload_n C 0 0 dX9_copyFrom_78 rfl rfl ?_
        refine j_aload_n C 1 1 dX9_copyFrom_79 rfl rfl ?_
        refine y_getI C 8 _ _ fX9_copyFrom_34 rfl rfl ft_8_7 sb_8_7 hM210 dX9_copyFrom_80 (fun a211 ea211 la211 ua211 => ?_)
        obtain rfl : a211 = (M0.1 15 7).toInt := s_fX fM190 (by decide) (s_fa eM201 (by decide) (s_fa eM204 (by decide) (s_fa eM207 (by decide) (s_fa eM210 (by decide) (ea211)))))
        refine y_putIF C 8 qX9_copyFrom_34 rfl rfl ft_8_7 sb_8_7 hM210 (PX.w hpr rfl rfl) dX9_copyFrom_83 (fun M213 eM213 hM213 => ?_)
        refine j_aload_n C 0 0 dX9_copyFrom_86 rfl rfl ?_
        refine j_aload_n C 1 1 dX9_copyFrom_87 rfl rfl ?_
        refine y_getI C 8 _ _ fX9_copyFrom_37 rfl rfl ft_8_8 sb_8_8 hM213 dX9_copyFrom_88 (fun a214 ea214 la214 ua214 => ?_)
        obtain rfl : a214 = (M0.1 15 8).toInt := s_fX fM190 (by decide) (s_fa eM201 (by decide) (s_fa eM204 (by decide) (s_fa eM207 (by decide) (s_fa eM210 (by decide) (s_fa eM213 (by decide) (ea214))))))
        refine y_putIF C 8 qX9_copyFrom_37 rfl rfl ft_8_8 sb_8_8 hM213 (PX.w hpr rfl rfl) dX9_copyFrom_91 (fun M216 eM216 hM216 => ?_)
        have u217c := cpa_c (M := M190) (M' := M216) (B := M0) (p0 := 24) (p1 := 16) (g0 := 25) (g1 := 17) (n := a189) (n' := 8) (by exact h191.2.2.2.1) ((((((wI_cell eM216 (by decide)).trans (wI_cell eM213 (by decide))).trans (wI_cell eM210 (by decide))).trans (wI_cell eM207 (by decide))).trans (wI_cell eM204 (by decide))).trans (wI_cell eM201 (by decide))) ((((((wI_cell eM216 (by decide)).trans (wI_cell eM213 (by decide))).trans (wI_cell eM210 (by decide))).trans (wI_cell eM207 (by decide))).trans (wI_cell eM204 (by decide))).trans (wI_cell eM201 (by decide))) (by omega)
        have zz23_0 : (M216.1 23 0).toInt = (M190.1 23 0).toInt := s_fb eM201 (by decide) (s_fb eM204 (by decide) (s_fb eM207 (by decide) (s_fb eM210 (by decide) (s_fb eM213 (by decide) (s_fb eM216 (by decide) (rfl))))))
        have zz23_3 := (Eq.trans (s_fb eM204 (by decide) (s_fb eM207 (by decide) (s_fb eM210 (by decide) (s_fb eM213 (by decide) (s_fb eM216 (by decide) (rfl))))) : (M216.1 23 3).toInt = (M201.1 23 3).toInt) (s_wr eM201 (by omega)))
        have zz23_4 := (Eq.trans (s_fb eM207 (by decide) (s_fb eM210 (by decide) (s_fb eM213 (by decide) (s_fb eM216 (by decide) (rfl)))) : (M216.1 23 4).toInt = (M204.1 23 4).toInt) (s_wr eM204 (by omega)))
        have zz23_5 := (Eq.trans (s_fb eM210 (by decide) (s_fb eM213 (by decide) (s_fb eM216 (by decide) (rfl))) : (M216.1 23 5).toInt = (M207.1 23 5).toInt) (s_wr eM207 (by exact ⟨la205, ua205⟩)))
        have zz23_6 := (Eq.trans (s_fb eM213 (by decide) (s_fb eM216 (by decide) (rfl)) : (M216.1 23 6).toInt = (M210.1 23 6).toInt) (s_wr eM210 (by exact ⟨la208, ua208⟩)))
        have zz23_7 := (Eq.trans (s_fb eM216 (by decide) (rfl) : (M216.1 23 7).toInt = (M213.1 23 7).toInt) (s_wr eM213 (by exact ⟨la211, ua211⟩)))
        have zz23_8 := (Eq.trans (rfl : (M216.1 23 8).toInt = (M216.1 23 8).toInt) (s_wr eM216 (by exact ⟨la214, ua214⟩)))
        have u217k := copy_k (M := M0) (N := M216) (d := 23) (s := 15) (p := 0) (by (clear zz23_8 zz23_7 zz23_6 zz23_5 zz23_4 zz23_3 u217c hM216 eM216 ua214 la214 ea214 hM213 eM213 ua211 la211 ea211 hM210 eM210 ua208 la208 ea208 hM207 eM207 ua205 la205 ea205 hM204 eM204 ua202 la202 ea202 hM201 eM201 ua199 la199 ea199 h193 fM190 hM190 ih187 u104z hM103 eM103 ua101 la101 hret C hq8_0 hpr hM0; omega)) (by exact zz23_3) (by exact zz23_4) (by exact zz23_5) (by exact zz23_6) (by exact zz23_7) (by exact zz23_8) (show b01 (CPA M216 M0 24 16 25 17 8) = 1 from by exact u217c)
        exact hret _ _ _ dX9_copyFrom_94 ⟨hM216, (((((((FX.rf.tr fM190 (by decide)).wI eM201 (by decide)).wI eM204 (by decide)).wI eM207 (by decide)).wI eM210 (by decide)).wI eM213 (by decide)).wI eM216 (by decide)), by exact u217k⟩
      · refine j_aload_n C 0 0 dX9_copyFrom_16 rfl rfl ?_
        refine y_getC C 8 24 fX9_copyFrom_15 rfl rfl ft_8_1 sm_8_1 rfl hM190 dX9_copyFrom_17 ?_
        refine j_iload_n C 2 2 dX9_copyFrom_20 rfl rfl ?_
        refine j_aload_n C 1 1 dX9_copyFrom_21 rfl rfl ?_
        refine y_getC C 8 16 fX9_copyFrom_15 rfl rfl ft_8_1 sm_8_1 rfl hM190 dX9_copyFrom_22 ?_
        refine j_iload_n C 2 2 dX9_copyFrom_25 rfl rfl ?_
        refine y_iald C 25 8 _ _ rfl rfl rfl ak_25 an_25 rfl (sb_25 _) hM190 dX9_copyFrom_26 (by exact ⟨h191.1, (by omega)⟩) (fun a194 ea194 la194 ua194 => ?_)
        obtain rfl : a194 = (M0.1 16 (a189).toNat).toInt := s_fX fM190 (by decide) (ea194)
        refine y_iastF C 25 8 rfl rfl rfl ak_25 an_25 rfl (sb_25 _) hM190 (PX.w hpr rfl rfl) dX9_copyFrom_27 (by exact ⟨h191.1, (by omega)⟩) (fun M195 eM195 hM195 => ?_)
        refine j_aload_n C 0 0 dX9_copyFrom_28 rfl rfl ?_
        refine y_getC C 8 25 fX9_copyFrom_19 rfl rfl ft_8_2 sm_8_2 rfl hM195 dX9_copyFrom_29 ?_
        refine j_iload_n C 2 2 dX9_copyFrom_32 rfl rfl ?_
        refine j_aload_n C 1 1 dX9_copyFrom_33 rfl rfl ?_
        refine y_getC C 8 17 fX9_copyFrom_19 rfl rfl ft_8_2 sm_8_2 rfl hM195 dX9_copyFrom_34 ?_
        refine j_iload_n C 2 2 dX9_copyFrom_37 rfl rfl ?_
        refine y_iald C 26 8 _ _ rfl rfl rfl ak_26 an_26 rfl (sb_26 _) hM195 dX9_copyFrom_38 (by exact ⟨h191.1, (by omega)⟩) (fun a196 ea196 la196 ua196 => ?_)
        obtain rfl : a196 = (M0.1 17 (a189).toNat).toInt := s_fX fM190 (by decide) (s_fa eM195 (by decide) (ea196))
        refine y_iastF C 26 8 rfl rfl rfl ak_26 an_26 rfl (sb_26 _) hM195 (PX.w hpr rfl rfl) dX9_copyFrom_39 (by exact ⟨h191.1, (by omega)⟩) (fun M197 eM197 hM197 => ?_)
        refine y_iinc C 2 [(2, .int (sI (a189 + 1))), (0, .ref (ad 23)), (1, .ref (ad 15))] dX9_copyFrom_40 rfl (by decide) rfl ?_
        refine j_goto C 10 dX9_copyFrom_43 (by decide) ?_
        have u198s := cpa_s (B := M0) (p1 := 16) (g1 := 17) (n := a189) (n' := (a189 + 1)) (by exact h191.2.2.2.1) (by omega) eM195 eM197 (by decide)
        have zz23_0 : (M197.1 23 0).toInt = (M190.1 23 0).toInt := s_fa eM195 (by decide) (s_fa eM197 (by decide) (rfl)); refine j_lv [1, 2, 0] rfl ?_; exact ih187 (a189 + 1) M197 (by exact ⟨(by (clear hM197 eM197 ua196 la196 ea196 hM195 eM195 ua194 la194 ea194 fM190 hM190 ih187 u104z hM103 eM103 ua101 la101 hret C hq8_0 hpr hM0; omega)), ⟨(by (clear hM197 eM197 ua196 la196 ea196 hM195 eM195 ua194 la194 ea194 fM190 hM190 ih187 u104z hM103 eM103 ua101 la101 hret C hq8_0 hpr hM0; omega)), ⟨(by (clear hM197 eM197 ua196 la196 ea196 hM195 eM195 ua194 la194 ea194 fM190 hM190 ih187 u104z hM103 eM103 ua101 la101 hret C hq8_0 hpr hM0; omega)), ⟨u198s, (by (clear hM197 eM197 ua196 la196 ea196 hM195 eM195 ua194 la194 ea194 fM190 hM190 ih187 u104z hM103 eM103 ua101 la101 hret C hq8_0 hpr hM0; omega))⟩⟩⟩⟩) hM197 (((FX.rf.tr fM190 (by decide)).wI eM195 (by decide)).wI eM197 (by decide))
  have zz23_0 := (Eq.trans (rfl : (M103.1 23 0).toInt = (M103.1 23 0).toInt) (s_wr eM103 (by omega))); refine j_lv [1, 2, 0] rfl ?_; exact L188 2010 0 M103 (by exact ⟨(by decide), ⟨(by decide), ⟨zz23_0, ⟨u104z, (by decide)⟩⟩⟩⟩) hM103 (FX.rf.wI eM103 (by decide))
set_option maxHeartbeats 4000000 in
theorem s5_X9_copyFrom {l : Launch} {dC : Nat → ClassId} {dI : Nat → Nat → Nat} {ad : Nat → Nat} {cA : Nat → ClassId} {pr : Nat → Nat → Bool} {Kz : mm_M} {M0 : mm_M} (hM0 : INV pr Kz M0) (hpr : PX pr) (hq8_0 : ∀ i, s_c i = 8 → pr i 0 = false)  : Cv l 0 yX9_copyFrom wsX9_copyFrom dC dI ad cA [.ref (ad 26), .ref (ad 15)] M0 (fun M' => INV pr Kz M' ∧ FX [26, 27, 28] M0 M' ∧ (b01 (skX M' 26 = skX M0 15) = 1)) := by
  refine cv_of (cc := cX9_copyFrom) (maxL := 3) (lv := [(0, .ref (ad 26)), (1, .ref (ad 15))]) (by decide) rfl (Nat.le_of_ble_eq_true rfl) rfl ?_
  intro p e s m args below meth c A Q C hret
  refine j_aload_n C 0 0 dX9_copyFrom_0 rfl rfl ?_
  refine j_aload_n C 1 1 dX9_copyFrom_1 rfl rfl ?_
  refine y_getI C 8 _ _ fX9_copyFrom_9 rfl rfl ft_8_0 sb_8_0 hM0 dX9_copyFrom_2 (fun a101 ea101 la101 ua101 => ?_)
  obtain rfl : a101 = (M0.1 15 0).toInt := ea101
  refine y_putI C 8 _ _ qX9_copyFrom_9 rfl rfl ft_8_0 sb_8_0 hM0 (hq8_0 _ rfl) dX9_copyFrom_5 (by exact ⟨⟨(by omega), (by omega)⟩, ⟨la101, ua101⟩⟩) (fun M103 eM103 hM103 => ?_)
  refine y_iconst C dX9_copyFrom_8 ?_
  refine j_istore_n C 2 [(2, .int (sI 0)), (0, .ref (ad 26)), (1, .ref (ad 15))] dX9_copyFrom_9 rfl (by decide) rfl ?_
  have u104z := cpa_0 M103 M0 27 16 28 17
  have L188 : ∀ (n186 : Nat), ∀ (a189 : Int) (M190 : mm_M), (0 ≤ a189 ∧ a189 ≤ 8 ∧ ((M190.1 26 0).toInt = (M0.1 15 0).toInt) ∧ (b01 (CPA M190 M0 27 16 28 17 a189) = 1) ∧ (8 - a189) < (n186 : Int)) → INV pr Kz M190 → FX [26, 27, 28] M0 M190 → jj p l e (cn_R 0) s m args below meth c 0 0 Q 3 dC dI ad cA A M190 10 [(0, .ref (ad 26)), (1, .ref (ad 15)), (2, .int (sI a189))] [] := by
    intro n186
    induction n186 with
    | zero =>
      intro a189 M190 h191 hM190 fM190
      exfalso; omega
    | succ n186 ih187 =>
      intro a189 M190 h191 hM190 fM190
      refine j_iload_n C 2 2 dX9_copyFrom_10 rfl rfl ?_
      refine y_bipush C dX9_copyFrom_11 rfl ?_
      refine y_icmp_ge C 46 dX9_copyFrom_13 (by decide) (by exact ⟨⟨(by omega), (by omega)⟩, ⟨(by decide), (by decide)⟩⟩) (fun h193 => ?_) (fun h193 => ?_)
      · refine j_aload_n C 0 0 dX9_copyFrom_46 rfl rfl ?_
        refine j_aload_n C 1 1 dX9_copyFrom_47 rfl rfl ?_
        refine y_getI C 8 _ _ fX9_copyFrom_22 rfl rfl ft_8_3 sb_8_3 hM190 dX9_copyFrom_48 (fun a199 ea199 la199 ua199 => ?_)
        obtain rfl : a199 = (M0.1 15 3).toInt := s_fX fM190 (by decide) (ea199)
        refine y_putI C 8 _ _ qX9_copyFrom_22 rfl rfl ft_8_3 sb_8_3 hM190 (PX.w hpr rfl rfl) dX9_copyFrom_51 (by exact ⟨⟨(by omega), (by omega)⟩, ⟨la199, ua199⟩⟩) (fun M201 eM201 hM201 => ?_)
        refine j_aload_n C 0 0 dX9_copyFrom_54 rfl rfl ?_
        refine j_aload_n C 1 1 dX9_copyFrom_55 rfl rfl ?_
        refine y_getI C 8 _ _ fX9_copyFrom_25 rfl rfl ft_8_4 sb_8_4 hM201 dX9_copyFrom_56 (fun a202 ea202 la202 ua202 => ?_)
        obtain rfl : a202 = (M0.1 15 4).toInt := s_fX fM190 (by decide) (s_fa eM201 (by decide) (ea202))
        refine y_putI C 8 _ _ qX9_copyFrom_25 rfl rfl ft_8_4 sb_8_4 hM201 (PX.w hpr rfl rfl) dX9_copyFrom_59 (by exact ⟨⟨(by omega), (by omega)⟩, ⟨la202, ua202⟩⟩) (fun M204 eM204 hM204 => ?_)
        refine j_aload_n C 0 0 dX9_copyFrom_62 rfl rfl ?_
        refine j_aload_n C 1 1 dX9_copyFrom_63 rfl rfl ?_
        refine y_getI C 8 _ _ fX9_copyFrom_28 rfl rfl ft_8_5 sb_8_5 hM204 dX9_copyFrom_64 (fun a205 ea205 la205 ua205 => ?_)
        obtain rfl : a205 = (M0.1 15 5).toInt := s_fX fM190 (by decide) (s_fa eM201 (by decide) (s_fa eM204 (by decide) (ea205)))
        refine y_putIF C 8 qX9_copyFrom_28 rfl rfl ft_8_5 sb_8_5 hM204 (PX.w hpr rfl rfl) dX9_copyFrom_67 (fun M207 eM207 hM207 => ?_)
        refine j_aload_n C 0 0 dX9_copyFrom_70 rfl rfl ?_
        refine j_aload_n C 1 1 dX9_copyFrom_71 rfl rfl ?_
        refine y_getI C 8 _ _ fX9_copyFrom_31 rfl rfl ft_8_6 sb_8_6 hM207 dX9_copyFrom_72 (fun a208 ea208 la208 ua208 => ?_)
        obtain rfl : a208 = (M0.1 15 6).toInt := s_fX fM190 (by decide) (s_fa eM201 (by decide) (s_fa eM204 (by decide) (s_fa eM207 (by decide) (ea208))))
        refine y_putIF C 8 qX9_copyFrom_31 rfl rfl ft_8_6 sb_8_6 hM207 (PX.w hpr rfl rfl) dX9_copyFrom_75 (fun M210 eM210 hM210 => ?_)
        refine j_aload_n C 0 0 dX9_copyFrom_78 rfl rfl ?_
        refine j_aload_n C 1 1 dX9_copyFrom_79 rfl rfl ?_
        refine y_getI C 8 _ _ fX9_copyFrom_34 rfl rfl ft_8_7 sb_8_7 hM210 dX9_copyFrom_80 (fun a211 ea211 la211 ua211 => ?_)
        obtain rfl : a211 = (M0.1 15 7).toInt := s_fX fM190 (by decide) (s_fa eM201 (by decide) (s_fa eM204 (by decide) (s_fa eM207 (by decide) (s_fa eM210 (by decide) (ea211)))))
        refine y_putIF C 8 qX9_copyFrom_34 rfl rfl ft_8_7 sb_8_7 hM210 (PX.w hpr rfl rfl) dX9_copyFrom_83 (fun M213 eM213 hM213 => ?_)
        refine j_aload_n C 0 0 dX9_copyFrom_86 rfl rfl ?_
        refine j_aload_n C 1 1 dX9_copyFrom_87 rfl rfl ?_
        refine y_getI C 8 _ _ fX9_copyFrom_37 rfl rfl ft_8_8 sb_8_8 hM213 dX9_copyFrom_88 (fun a214 ea214 la214 ua214 => ?_)
        obtain rfl : a214 = (M0.1 15 8).toInt := s_fX fM190 (by decide) (s_fa eM201 (by decide) (s_fa eM204 (by decide) (s_fa eM207 (by decide) (s_fa eM210 (by decide) (s_fa eM213 (by decide) (ea214))))))
        refine y_putIF C 8 qX9_copyFrom_37 rfl rfl ft_8_8 sb_8_8 hM213 (PX.w hpr rfl rfl) dX9_copyFrom_91 (fun M216 eM216 hM216 => ?_)
        have u217c := cpa_c (M := M190) (M' := M216) (B := M0) (p0 := 27) (p1 := 16) (g0 := 28) (g1 := 17) (n := a189) (n' := 8) (by exact h191.2.2.2.1) ((((((wI_cell eM216 (by decide)).trans (wI_cell eM213 (by decide))).trans (wI_cell eM210 (by decide))).trans (wI_cell eM207 (by decide))).trans (wI_cell eM204 (by decide))).trans (wI_cell eM201 (by decide))) ((((((wI_cell eM216 (by decide)).trans (wI_cell eM213 (by decide))).trans (wI_cell eM210 (by decide))).trans (wI_cell eM207 (by decide))).trans (wI_cell eM204 (by decide))).trans (wI_cell eM201 (by decide))) (by omega)
        have zz26_0 : (M216.1 26 0).toInt = (M190.1 26 0).toInt := s_fb eM201 (by decide) (s_fb eM204 (by decide) (s_fb eM207 (by decide) (s_fb eM210 (by decide) (s_fb eM213 (by decide) (s_fb eM216 (by decide) (rfl))))))
        have zz26_3 := (Eq.trans (s_fb eM204 (by decide) (s_fb eM207 (by decide) (s_fb eM210 (by decide) (s_fb eM213 (by decide) (s_fb eM216 (by decide) (rfl))))) : (M216.1 26 3).toInt = (M201.1 26 3).toInt) (s_wr eM201 (by omega)))
        have zz26_4 := (Eq.trans (s_fb eM207 (by decide) (s_fb eM210 (by decide) (s_fb eM213 (by decide) (s_fb eM216 (by decide) (rfl)))) : (M216.1 26 4).toInt = (M204.1 26 4).toInt) (s_wr eM204 (by omega)))
        have zz26_5 := (Eq.trans (s_fb eM210 (by decide) (s_fb eM213 (by decide) (s_fb eM216 (by decide) (rfl))) : (M216.1 26 5).toInt = (M207.1 26 5).toInt) (s_wr eM207 (by exact ⟨la205, ua205⟩)))
        have zz26_6 := (Eq.trans (s_fb eM213 (by decide) (s_fb eM216 (by decide) (rfl)) : (M216.1 26 6).toInt = (M210.1 26 6).toInt) (s_wr eM210 (by exact ⟨la208, ua208⟩)))
        have zz26_7 := (Eq.trans (s_fb eM216 (by decide) (rfl) : (M216.1 26 7).toInt = (M213.1 26 7).toInt) (s_wr eM213 (by exact ⟨la211, ua211⟩)))
        have zz26_8 := (Eq.trans (rfl : (M216.1 26 8).toInt = (M216.1 26 8).toInt) (s_wr eM216 (by exact ⟨la214, ua214⟩)))
        have u217k := copy_k (M := M0) (N := M216) (d := 26) (s := 15) (p := 0) (by (clear zz26_8 zz26_7 zz26_6 zz26_5 zz26_4 zz26_3 u217c hM216 eM216 ua214 la214 ea214 hM213 eM213 ua211 la211 ea211 hM210 eM210 ua208 la208 ea208 hM207 eM207 ua205 la205 ea205 hM204 eM204 ua202 la202 ea202 hM201 eM201 ua199 la199 ea199 h193 fM190 hM190 ih187 u104z hM103 eM103 ua101 la101 hret C hq8_0 hpr hM0; omega)) (by exact zz26_3) (by exact zz26_4) (by exact zz26_5) (by exact zz26_6) (by exact zz26_7) (by exact zz26_8) (show b01 (CPA M216 M0 27 16 28 17 8) = 1 from by exact u217c)
        exact hret _ _ _ dX9_copyFrom_94 ⟨hM216, (((((((FX.rf.tr fM190 (by decide)).wI eM201 (by decide)).wI eM204 (by decide)).wI eM207 (by decide)).wI eM210 (by decide)).wI eM213 (by decide)).wI eM216 (by decide)), by exact u217k⟩
      · refine j_aload_n C 0 0 dX9_copyFrom_16 rfl rfl ?_
        refine y_getC C 8 27 fX9_copyFrom_15 rfl rfl ft_8_1 sm_8_1 rfl hM190 dX9_copyFrom_17 ?_
        refine j_iload_n C 2 2 dX9_copyFrom_20 rfl rfl ?_
        refine j_aload_n C 1 1 dX9_copyFrom_21 rfl rfl ?_
        refine y_getC C 8 16 fX9_copyFrom_15 rfl rfl ft_8_1 sm_8_1 rfl hM190 dX9_copyFrom_22 ?_
        refine j_iload_n C 2 2 dX9_copyFrom_25 rfl rfl ?_
        refine y_iald C 25 8 _ _ rfl rfl rfl ak_25 an_25 rfl (sb_25 _) hM190 dX9_copyFrom_26 (by exact ⟨h191.1, (by omega)⟩) (fun a194 ea194 la194 ua194 => ?_)
        obtain rfl : a194 = (M0.1 16 (a189).toNat).toInt := s_fX fM190 (by decide) (ea194)
        refine y_iastF C 25 8 rfl rfl rfl ak_25 an_25 rfl (sb_25 _) hM190 (PX.w hpr rfl rfl) dX9_copyFrom_27 (by exact ⟨h191.1, (by omega)⟩) (fun M195 eM195 hM195 => ?_)
        refine j_aload_n C 0 0 dX9_copyFrom_28 rfl rfl ?_
        refine y_getC C 8 28 fX9_copyFrom_19 rfl rfl ft_8_2 sm_8_2 rfl hM195 dX9_copyFrom_29 ?_
        refine j_iload_n C 2 2 dX9_copyFrom_32 rfl rfl ?_
        refine j_aload_n C 1 1 dX9_copyFrom_33 rfl rfl ?_
        refine y_getC C 8 17 fX9_copyFrom_19 rfl rfl ft_8_2 sm_8_2 rfl hM195 dX9_copyFrom_34 ?_
        refine j_iload_n C 2 2 dX9_copyFrom_37 rfl rfl ?_
        refine y_iald C 26 8 _ _ rfl rfl rfl ak_26 an_26 rfl (sb_26 _) hM195 dX9_copyFrom_38 (by exact ⟨h191.1, (by omega)⟩) (fun a196 ea196 la196 ua196 => ?_)
        obtain rfl : a196 = (M0.1 17 (a189).toNat).toInt := s_fX fM190 (by decide) (s_fa eM195 (by decide) (ea196))
        refine y_iastF C 26 8 rfl rfl rfl ak_26 an_26 rfl (sb_26 _) hM195 (PX.w hpr rfl rfl) dX9_copyFrom_39 (by exact ⟨h191.1, (by omega)⟩) (fun M197 eM197 hM197 => ?_)
        refine y_iinc C 2 [(2, .int (sI (a189 + 1))), (0, .ref (ad 26)), (1, .ref (ad 15))] dX9_copyFrom_40 rfl (by decide) rfl ?_
        refine j_goto C 10 dX9_copyFrom_43 (by decide) ?_
        have u198s := cpa_s (B := M0) (p1 := 16) (g1 := 17) (n := a189) (n' := (a189 + 1)) (by exact h191.2.2.2.1) (by omega) eM195 eM197 (by decide)
        have zz26_0 : (M197.1 26 0).toInt = (M190.1 26 0).toInt := s_fa eM195 (by decide) (s_fa eM197 (by decide) (rfl)); refine j_lv [1, 2, 0] rfl ?_; exact ih187 (a189 + 1) M197 (by exact ⟨(by (clear hM197 eM197 ua196 la196 ea196 hM195 eM195 ua194 la194 ea194 fM190 hM190 ih187 u104z hM103 eM103 ua101 la101 hret C hq8_0 hpr hM0; omega)), ⟨(by (clear hM197 eM197 ua196 la196 ea196 hM195 eM195 ua194 la194 ea194 fM190 hM190 ih187 u104z hM103 eM103 ua101 la101 hret C hq8_0 hpr hM0; omega)), ⟨(by (clear hM197 eM197 ua196 la196 ea196 hM195 eM195 ua194 la194 ea194 fM190 hM190 ih187 u104z hM103 eM103 ua101 la101 hret C hq8_0 hpr hM0; omega)), ⟨u198s, (by (clear hM197 eM197 ua196 la196 ea196 hM195 eM195 ua194 la194 ea194 fM190 hM190 ih187 u104z hM103 eM103 ua101 la101 hret C hq8_0 hpr hM0; omega))⟩⟩⟩⟩) hM197 (((FX.rf.tr fM190 (by decide)).wI eM195 (by decide)).wI eM197 (by decide))
  have zz26_0 := (Eq.trans (rfl : (M103.1 26 0).toInt = (M103.1 26 0).toInt) (s_wr eM103 (by omega))); refine j_lv [1, 2, 0] rfl ?_; exact L188 2010 0 M103 (by exact ⟨(by decide), ⟨(by decide), ⟨zz26_0, ⟨u104z, (by decide)⟩⟩⟩⟩) hM103 (FX.rf.wI eM103 (by decide))
set_option maxHeartbeats 4000000 in
theorem s6_X9_copyFrom {l : Launch} {dC : Nat → ClassId} {dI : Nat → Nat → Nat} {ad : Nat → Nat} {cA : Nat → ClassId} {pr : Nat → Nat → Bool} {Kz : mm_M} {M0 : mm_M} (hM0 : INV pr Kz M0) (hpr : PX pr) (hq8_0 : ∀ i, s_c i = 8 → pr i 0 = false)  : Cv l 0 yX9_copyFrom wsX9_copyFrom dC dI ad cA [.ref (ad 29), .ref (ad 15)] M0 (fun M' => INV pr Kz M' ∧ FX [29, 30, 31] M0 M' ∧ (b01 (skX M' 29 = skX M0 15) = 1)) := by
  refine cv_of (cc := cX9_copyFrom) (maxL := 3) (lv := [(0, .ref (ad 29)), (1, .ref (ad 15))]) (by decide) rfl (Nat.le_of_ble_eq_true rfl) rfl ?_
  intro p e s m args below meth c A Q C hret
  refine j_aload_n C 0 0 dX9_copyFrom_0 rfl rfl ?_
  refine j_aload_n C 1 1 dX9_copyFrom_1 rfl rfl ?_
  refine y_getI C 8 _ _ fX9_copyFrom_9 rfl rfl ft_8_0 sb_8_0 hM0 dX9_copyFrom_2 (fun a101 ea101 la101 ua101 => ?_)
  obtain rfl : a101 = (M0.1 15 0).toInt := ea101
  refine y_putI C 8 _ _ qX9_copyFrom_9 rfl rfl ft_8_0 sb_8_0 hM0 (hq8_0 _ rfl) dX9_copyFrom_5 (by exact ⟨⟨(by omega), (by omega)⟩, ⟨la101, ua101⟩⟩) (fun M103 eM103 hM103 => ?_)
  refine y_iconst C dX9_copyFrom_8 ?_
  refine j_istore_n C 2 [(2, .int (sI 0)), (0, .ref (ad 29)), (1, .ref (ad 15))] dX9_copyFrom_9 rfl (by decide) rfl ?_
  have u104z := cpa_0 M103 M0 30 16 31 17
  have L188 : ∀ (n186 : Nat), ∀ (a189 : Int) (M190 : mm_M), (0 ≤ a189 ∧ a189 ≤ 8 ∧ ((M190.1 29 0).toInt = (M0.1 15 0).toInt) ∧ (b01 (CPA M190 M0 30 16 31 17 a189) = 1) ∧ (8 - a189) < (n186 : Int)) → INV pr Kz M190 → FX [29, 30, 31] M0 M190 → jj p l e (cn_R 0) s m args below meth c 0 0 Q 3 dC dI ad cA A M190 10 [(0, .ref (ad 29)), (1, .ref (ad 15)), (2, .int (sI a189))] [] := by
    intro n186
    induction n186 with
    | zero =>
      intro a189 M190 h191 hM190 fM190
      exfalso; omega
    | succ n186 ih187 =>
      intro a189 M190 h191 hM190 fM190
      refine j_iload_n C 2 2 dX9_copyFrom_10 rfl rfl ?_
      refine y_bipush C dX9_copyFrom_11 rfl ?_
      refine y_icmp_ge C 46 dX9_copyFrom_13 (by decide) (by exact ⟨⟨(by omega), (by omega)⟩, ⟨(by decide), (by decide)⟩⟩) (fun h193 => ?_) (fun h193 => ?_)
      · refine j_aload_n C 0 0 dX9_copyFrom_46 rfl rfl ?_
        refine j_aload_n C 1 1 dX9_copyFrom_47 rfl rfl ?_
        refine y_getI C 8 _ _ fX9_copyFrom_22 rfl rfl ft_8_3 sb_8_3 hM190 dX9_copyFrom_48 (fun a199 ea199 la199 ua199 => ?_)
        obtain rfl : a199 = (M0.1 15 3).toInt := s_fX fM190 (by decide) (ea199)
        refine y_putI C 8 _ _ qX9_copyFrom_22 rfl rfl ft_8_3 sb_8_3 hM190 (PX.w hpr rfl rfl) dX9_copyFrom_51 (by exact ⟨⟨(by omega), (by omega)⟩, ⟨la199, ua199⟩⟩) (fun M201 eM201 hM201 => ?_)
        refine j_aload_n C 0 0 dX9_copyFrom_54 rfl rfl ?_
        refine j_aload_n C 1 1 dX9_copyFrom_55 rfl rfl ?_
        refine y_getI C 8 _ _ fX9_copyFrom_25 rfl rfl ft_8_4 sb_8_4 hM201 dX9_copyFrom_56 (fun a202 ea202 la202 ua202 => ?_)
        obtain rfl : a202 = (M0.1 15 4).toInt := s_fX fM190 (by decide) (s_fa eM201 (by decide) (ea202))
        refine y_putI C 8 _ _ qX9_copyFrom_25 rfl rfl ft_8_4 sb_8_4 hM201 (PX.w hpr rfl rfl) dX9_copyFrom_59 (by exact ⟨⟨(by omega), (by omega)⟩, ⟨la202, ua202⟩⟩) (fun M204 eM204 hM204 => ?_)
        refine j_aload_n C 0 0 dX9_copyFrom_62 rfl rfl ?_
        refine j_aload_n C 1 1 dX9_copyFrom_63 rfl rfl ?_
        refine y_getI C 8 _ _ fX9_copyFrom_28 rfl rfl ft_8_5 sb_8_5 hM204 dX9_copyFrom_64 (fun a205 ea205 la205 ua205 => ?_)
        obtain rfl : a205 = (M0.1 15 5).toInt := s_fX fM190 (by decide) (s_fa eM201 (by decide) (s_fa eM204 (by decide) (ea205)))
        refine y_putIF C 8 qX9_copyFrom_28 rfl rfl ft_8_5 sb_8_5 hM204 (PX.w hpr rfl rfl) dX9_copyFrom_67 (fun M207 eM207 hM207 => ?_)
        refine j_aload_n C 0 0 dX9_copyFrom_70 rfl rfl ?_
        refine j_aload_n C 1 1 dX9_copyFrom_71 rfl rfl ?_
        refine y_getI C 8 _ _ fX9_copyFrom_31 rfl rfl ft_8_6 sb_8_6 hM207 dX9_copyFrom_72 (fun a208 ea208 la208 ua208 => ?_)
        obtain rfl : a208 = (M0.1 15 6).toInt := s_fX fM190 (by decide) (s_fa eM201 (by decide) (s_fa eM204 (by decide) (s_fa eM207 (by decide) (ea208))))
        refine y_putIF C 8 qX9_copyFrom_31 rfl rfl ft_8_6 sb_8_6 hM207 (PX.w hpr rfl rfl) dX9_copyFrom_75 (fun M210 eM210 hM210 => ?_)
        refine j_aload_n C 0 0 dX9_copyFrom_78 rfl rfl ?_
        refine j_aload_n C 1 1 dX9_copyFrom_79 rfl rfl ?_
        refine y_getI C 8 _ _ fX9_copyFrom_34 rfl rfl ft_8_7 sb_8_7 hM210 dX9_copyFrom_80 (fun a211 ea211 la211 ua211 => ?_)
        obtain rfl : a211 = (M0.1 15 7).toInt := s_fX fM190 (by decide) (s_fa eM201 (by decide) (s_fa eM204 (by decide) (s_fa eM207 (by decide) (s_fa eM210 (by decide) (ea211)))))
        refine y_putIF C 8 qX9_copyFrom_34 rfl rfl ft_8_7 sb_8_7 hM210 (PX.w hpr rfl rfl) dX9_copyFrom_83 (fun M213 eM213 hM213 => ?_)
        refine j_aload_n C 0 0 dX9_copyFrom_86 rfl rfl ?_
        refine j_aload_n C 1 1 dX9_copyFrom_87 rfl rfl ?_
        refine y_getI C 8 _ _ fX9_copyFrom_37 rfl rfl ft_8_8 sb_8_8 hM213 dX9_copyFrom_88 (fun a214 ea214 la214 ua214 => ?_)
        obtain rfl : a214 = (M0.1 15 8).toInt := s_fX fM190 (by decide) (s_fa eM201 (by decide) (s_fa eM204 (by decide) (s_fa eM207 (by decide) (s_fa eM210 (by decide) (s_fa eM213 (by decide) (ea214))))))
        refine y_putIF C 8 qX9_copyFrom_37 rfl rfl ft_8_8 sb_8_8 hM213 (PX.w hpr rfl rfl) dX9_copyFrom_91 (fun M216 eM216 hM216 => ?_)
        have u217c := cpa_c (M := M190) (M' := M216) (B := M0) (p0 := 30) (p1 := 16) (g0 := 31) (g1 := 17) (n := a189) (n' := 8) (by exact h191.2.2.2.1) ((((((wI_cell eM216 (by decide)).trans (wI_cell eM213 (by decide))).trans (wI_cell eM210 (by decide))).trans (wI_cell eM207 (by decide))).trans (wI_cell eM204 (by decide))).trans (wI_cell eM201 (by decide))) ((((((wI_cell eM216 (by decide)).trans (wI_cell eM213 (by decide))).trans (wI_cell eM210 (by decide))).trans (wI_cell eM207 (by decide))).trans (wI_cell eM204 (by decide))).trans (wI_cell eM201 (by decide))) (by omega)
        have zz29_0 : (M216.1 29 0).toInt = (M190.1 29 0).toInt := s_fb eM201 (by decide) (s_fb eM204 (by decide) (s_fb eM207 (by decide) (s_fb eM210 (by decide) (s_fb eM213 (by decide) (s_fb eM216 (by decide) (rfl))))))
        have zz29_3 := (Eq.trans (s_fb eM204 (by decide) (s_fb eM207 (by decide) (s_fb eM210 (by decide) (s_fb eM213 (by decide) (s_fb eM216 (by decide) (rfl))))) : (M216.1 29 3).toInt = (M201.1 29 3).toInt) (s_wr eM201 (by omega)))
        have zz29_4 := (Eq.trans (s_fb eM207 (by decide) (s_fb eM210 (by decide) (s_fb eM213 (by decide) (s_fb eM216 (by decide) (rfl)))) : (M216.1 29 4).toInt = (M204.1 29 4).toInt) (s_wr eM204 (by omega)))
        have zz29_5 := (Eq.trans (s_fb eM210 (by decide) (s_fb eM213 (by decide) (s_fb eM216 (by decide) (rfl))) : (M216.1 29 5).toInt = (M207.1 29 5).toInt) (s_wr eM207 (by exact ⟨la205, ua205⟩)))
        have zz29_6 := (Eq.trans (s_fb eM213 (by decide) (s_fb eM216 (by decide) (rfl)) : (M216.1 29 6).toInt = (M210.1 29 6).toInt) (s_wr eM210 (by exact ⟨la208, ua208⟩)))
        have zz29_7 := (Eq.trans (s_fb eM216 (by decide) (rfl) : (M216.1 29 7).toInt = (M213.1 29 7).toInt) (s_wr eM213 (by exact ⟨la211, ua211⟩)))
        have zz29_8 := (Eq.trans (rfl : (M216.1 29 8).toInt = (M216.1 29 8).toInt) (s_wr eM216 (by exact ⟨la214, ua214⟩)))
        have u217k := copy_k (M := M0) (N := M216) (d := 29) (s := 15) (p := 0) (by (clear zz29_8 zz29_7 zz29_6 zz29_5 zz29_4 zz29_3 u217c hM216 eM216 ua214 la214 ea214 hM213 eM213 ua211 la211 ea211 hM210 eM210 ua208 la208 ea208 hM207 eM207 ua205 la205 ea205 hM204 eM204 ua202 la202 ea202 hM201 eM201 ua199 la199 ea199 h193 fM190 hM190 ih187 u104z hM103 eM103 ua101 la101 hret C hq8_0 hpr hM0; omega)) (by exact zz29_3) (by exact zz29_4) (by exact zz29_5) (by exact zz29_6) (by exact zz29_7) (by exact zz29_8) (show b01 (CPA M216 M0 30 16 31 17 8) = 1 from by exact u217c)
        exact hret _ _ _ dX9_copyFrom_94 ⟨hM216, (((((((FX.rf.tr fM190 (by decide)).wI eM201 (by decide)).wI eM204 (by decide)).wI eM207 (by decide)).wI eM210 (by decide)).wI eM213 (by decide)).wI eM216 (by decide)), by exact u217k⟩
      · refine j_aload_n C 0 0 dX9_copyFrom_16 rfl rfl ?_
        refine y_getC C 8 30 fX9_copyFrom_15 rfl rfl ft_8_1 sm_8_1 rfl hM190 dX9_copyFrom_17 ?_
        refine j_iload_n C 2 2 dX9_copyFrom_20 rfl rfl ?_
        refine j_aload_n C 1 1 dX9_copyFrom_21 rfl rfl ?_
        refine y_getC C 8 16 fX9_copyFrom_15 rfl rfl ft_8_1 sm_8_1 rfl hM190 dX9_copyFrom_22 ?_
        refine j_iload_n C 2 2 dX9_copyFrom_25 rfl rfl ?_
        refine y_iald C 25 8 _ _ rfl rfl rfl ak_25 an_25 rfl (sb_25 _) hM190 dX9_copyFrom_26 (by exact ⟨h191.1, (by omega)⟩) (fun a194 ea194 la194 ua194 => ?_)
        obtain rfl : a194 = (M0.1 16 (a189).toNat).toInt := s_fX fM190 (by decide) (ea194)
        refine y_iastF C 25 8 rfl rfl rfl ak_25 an_25 rfl (sb_25 _) hM190 (PX.w hpr rfl rfl) dX9_copyFrom_27 (by exact ⟨h191.1, (by omega)⟩) (fun M195 eM195 hM195 => ?_)
        refine j_aload_n C 0 0 dX9_copyFrom_28 rfl rfl ?_
        refine y_getC C 8 31 fX9_copyFrom_19 rfl rfl ft_8_2 sm_8_2 rfl hM195 dX9_copyFrom_29 ?_
        refine j_iload_n C 2 2 dX9_copyFrom_32 rfl rfl ?_
        refine j_aload_n C 1 1 dX9_copyFrom_33 rfl rfl ?_
        refine y_getC C 8 17 fX9_copyFrom_19 rfl rfl ft_8_2 sm_8_2 rfl hM195 dX9_copyFrom_34 ?_
        refine j_iload_n C 2 2 dX9_copyFrom_37 rfl rfl ?_
        refine y_iald C 26 8 _ _ rfl rfl rfl ak_26 an_26 rfl (sb_26 _) hM195 dX9_copyFrom_38 (by exact ⟨h191.1, (by omega)⟩) (fun a196 ea196 la196 ua196 => ?_)
        obtain rfl : a196 = (M0.1 17 (a189).toNat).toInt := s_fX fM190 (by decide) (s_fa eM195 (by decide) (ea196))
        refine y_iastF C 26 8 rfl rfl rfl ak_26 an_26 rfl (sb_26 _) hM195 (PX.w hpr rfl rfl) dX9_copyFrom_39 (by exact ⟨h191.1, (by omega)⟩) (fun M197 eM197 hM197 => ?_)
        refine y_iinc C 2 [(2, .int (sI (a189 + 1))), (0, .ref (ad 29)), (1, .ref (ad 15))] dX9_copyFrom_40 rfl (by decide) rfl ?_
        refine j_goto C 10 dX9_copyFrom_43 (by decide) ?_
        have u198s := cpa_s (B := M0) (p1 := 16) (g1 := 17) (n := a189) (n' := (a189 + 1)) (by exact h191.2.2.2.1) (by omega) eM195 eM197 (by decide)
        have zz29_0 : (M197.1 29 0).toInt = (M190.1 29 0).toInt := s_fa eM195 (by decide) (s_fa eM197 (by decide) (rfl)); refine j_lv [1, 2, 0] rfl ?_; exact ih187 (a189 + 1) M197 (by exact ⟨(by (clear hM197 eM197 ua196 la196 ea196 hM195 eM195 ua194 la194 ea194 fM190 hM190 ih187 u104z hM103 eM103 ua101 la101 hret C hq8_0 hpr hM0; omega)), ⟨(by (clear hM197 eM197 ua196 la196 ea196 hM195 eM195 ua194 la194 ea194 fM190 hM190 ih187 u104z hM103 eM103 ua101 la101 hret C hq8_0 hpr hM0; omega)), ⟨(by (clear hM197 eM197 ua196 la196 ea196 hM195 eM195 ua194 la194 ea194 fM190 hM190 ih187 u104z hM103 eM103 ua101 la101 hret C hq8_0 hpr hM0; omega)), ⟨u198s, (by (clear hM197 eM197 ua196 la196 ea196 hM195 eM195 ua194 la194 ea194 fM190 hM190 ih187 u104z hM103 eM103 ua101 la101 hret C hq8_0 hpr hM0; omega))⟩⟩⟩⟩) hM197 (((FX.rf.tr fM190 (by decide)).wI eM195 (by decide)).wI eM197 (by decide))
  have zz29_0 := (Eq.trans (rfl : (M103.1 29 0).toInt = (M103.1 29 0).toInt) (s_wr eM103 (by omega))); refine j_lv [1, 2, 0] rfl ?_; exact L188 2010 0 M103 (by exact ⟨(by decide), ⟨(by decide), ⟨zz29_0, ⟨u104z, (by decide)⟩⟩⟩⟩) hM103 (FX.rf.wI eM103 (by decide))
set_option maxHeartbeats 4000000 in
theorem s7_X9_copyFrom {l : Launch} {dC : Nat → ClassId} {dI : Nat → Nat → Nat} {ad : Nat → Nat} {cA : Nat → ClassId} {pr : Nat → Nat → Bool} {Kz : mm_M} {M0 : mm_M} (hM0 : INV pr Kz M0) (hpr : PX pr) (hq8_0 : ∀ i, s_c i = 8 → pr i 0 = false)  : Cv l 0 yX9_copyFrom wsX9_copyFrom dC dI ad cA [.ref (ad 32), .ref (ad 15)] M0 (fun M' => INV pr Kz M' ∧ FX [32, 33, 34] M0 M' ∧ (b01 (skX M' 32 = skX M0 15) = 1)) := by
  refine cv_of (cc := cX9_copyFrom) (maxL := 3) (lv := [(0, .ref (ad 32)), (1, .ref (ad 15))]) (by decide) rfl (Nat.le_of_ble_eq_true rfl) rfl ?_
  intro p e s m args below meth c A Q C hret
  refine j_aload_n C 0 0 dX9_copyFrom_0 rfl rfl ?_
  refine j_aload_n C 1 1 dX9_copyFrom_1 rfl rfl ?_
  refine y_getI C 8 _ _ fX9_copyFrom_9 rfl rfl ft_8_0 sb_8_0 hM0 dX9_copyFrom_2 (fun a101 ea101 la101 ua101 => ?_)
  obtain rfl : a101 = (M0.1 15 0).toInt := ea101
  refine y_putI C 8 _ _ qX9_copyFrom_9 rfl rfl ft_8_0 sb_8_0 hM0 (hq8_0 _ rfl) dX9_copyFrom_5 (by exact ⟨⟨(by omega), (by omega)⟩, ⟨la101, ua101⟩⟩) (fun M103 eM103 hM103 => ?_)
  refine y_iconst C dX9_copyFrom_8 ?_
  refine j_istore_n C 2 [(2, .int (sI 0)), (0, .ref (ad 32)), (1, .ref (ad 15))] dX9_copyFrom_9 rfl (by decide) rfl ?_
  have u104z := cpa_0 M103 M0 33 16 34 17
  have L188 : ∀ (n186 : Nat), ∀ (a189 : Int) (M190 : mm_M), (0 ≤ a189 ∧ a189 ≤ 8 ∧ ((M190.1 32 0).toInt = (M0.1 15 0).toInt) ∧ (b01 (CPA M190 M0 33 16 34 17 a189) = 1) ∧ (8 - a189) < (n186 : Int)) → INV pr Kz M190 → FX [32, 33, 34] M0 M190 → jj p l e (cn_R 0) s m args below meth c 0 0 Q 3 dC dI ad cA A M190 10 [(0, .ref (ad 32)), (1, .ref (ad 15)), (2, .int (sI a189))] [] := by
    intro n186
    induction n186 with
    | zero =>
      intro a189 M190 h191 hM190 fM190
      exfalso; omega
    | succ n186 ih187 =>
      intro a189 M190 h191 hM190 fM190
      refine j_iload_n C 2 2 dX9_copyFrom_10 rfl rfl ?_
      refine y_bipush C dX9_copyFrom_11 rfl ?_
      refine y_icmp_ge C 46 dX9_copyFrom_13 (by decide) (by exact ⟨⟨(by omega), (by omega)⟩, ⟨(by decide), (by decide)⟩⟩) (fun h193 => ?_) (fun h193 => ?_)
      · refine j_aload_n C 0 0 dX9_copyFrom_46 rfl rfl ?_
        refine j_aload_n C 1 1 dX9_copyFrom_47 rfl rfl ?_
        refine y_getI C 8 _ _ fX9_copyFrom_22 rfl rfl ft_8_3 sb_8_3 hM190 dX9_copyFrom_48 (fun a199 ea199 la199 ua199 => ?_)
        obtain rfl : a199 = (M0.1 15 3).toInt := s_fX fM190 (by decide) (ea199)
        refine y_putI C 8 _ _ qX9_copyFrom_22 rfl rfl ft_8_3 sb_8_3 hM190 (PX.w hpr rfl rfl) dX9_copyFrom_51 (by exact ⟨⟨(by omega), (by omega)⟩, ⟨la199, ua199⟩⟩) (fun M201 eM201 hM201 => ?_)
        refine j_aload_n C 0 0 dX9_copyFrom_54 rfl rfl ?_
        refine j_aload_n C 1 1 dX9_copyFrom_55 rfl rfl ?_
        refine y_getI C 8 _ _ fX9_copyFrom_25 rfl rfl ft_8_4 sb_8_4 hM201 dX9_copyFrom_56 (fun a202 ea202 la202 ua202 => ?_)
        obtain rfl : a202 = (M0.1 15 4).toInt := s_fX fM190 (by decide) (s_fa eM201 (by decide) (ea202))
        refine y_putI C 8 _ _ qX9_copyFrom_25 rfl rfl ft_8_4 sb_8_4 hM201 (PX.w hpr rfl rfl) dX9_copyFrom_59 (by exact ⟨⟨(by omega), (by omega)⟩, ⟨la202, ua202⟩⟩) (fun M204 eM204 hM204 => ?_)
        refine j_aload_n C 0 0 dX9_copyFrom_62 rfl rfl ?_
        refine j_aload_n C 1 1 dX9_copyFrom_63 rfl rfl ?_
        refine y_getI C 8 _ _ fX9_copyFrom_28 rfl rfl ft_8_5 sb_8_5 hM204 dX9_copyFrom_64 (fun a205 ea205 la205 ua205 => ?_)
        obtain rfl : a205 = (M0.1 15 5).toInt := s_fX fM190 (by decide) (s_fa eM201 (by decide) (s_fa eM204 (by decide) (ea205)))
        refine y_putIF C 8 qX9_copyFrom_28 rfl rfl ft_8_5 sb_8_5 hM204 (PX.w hpr rfl rfl) dX9_copyFrom_67 (fun M207 eM207 hM207 => ?_)
        refine j_aload_n C 0 0 dX9_copyFrom_70 rfl rfl ?_
        refine j_aload_n C 1 1 dX9_copyFrom_71 rfl rfl ?_
        refine y_getI C 8 _ _ fX9_copyFrom_31 rfl rfl ft_8_6 sb_8_6 hM207 dX9_copyFrom_72 (fun a208 ea208 la208 ua208 => ?_)
        obtain rfl : a208 = (M0.1 15 6).toInt := s_fX fM190 (by decide) (s_fa eM201 (by decide) (s_fa eM204 (by decide) (s_fa eM207 (by decide) (ea208))))
        refine y_putIF C 8 qX9_copyFrom_31 rfl rfl ft_8_6 sb_8_6 hM207 (PX.w hpr rfl rfl) dX9_copyFrom_75 (fun M210 eM210 hM210 => ?_)
        refine j_aload_n C 0 0 dX9_copyFrom_78 rfl rfl ?_
        refine j_aload_n C 1 1 dX9_copyFrom_79 rfl rfl ?_
        refine y_getI C 8 _ _ fX9_copyFrom_34 rfl rfl ft_8_7 sb_8_7 hM210 dX9_copyFrom_80 (fun a211 ea211 la211 ua211 => ?_)
        obtain rfl : a211 = (M0.1 15 7).toInt := s_fX fM190 (by decide) (s_fa eM201 (by decide) (s_fa eM204 (by decide) (s_fa eM207 (by decide) (s_fa eM210 (by decide) (ea211)))))
        refine y_putIF C 8 qX9_copyFrom_34 rfl rfl ft_8_7 sb_8_7 hM210 (PX.w hpr rfl rfl) dX9_copyFrom_83 (fun M213 eM213 hM213 => ?_)
        refine j_aload_n C 0 0 dX9_copyFrom_86 rfl rfl ?_
        refine j_aload_n C 1 1 dX9_copyFrom_87 rfl rfl ?_
        refine y_getI C 8 _ _ fX9_copyFrom_37 rfl rfl ft_8_8 sb_8_8 hM213 dX9_copyFrom_88 (fun a214 ea214 la214 ua214 => ?_)
        obtain rfl : a214 = (M0.1 15 8).toInt := s_fX fM190 (by decide) (s_fa eM201 (by decide) (s_fa eM204 (by decide) (s_fa eM207 (by decide) (s_fa eM210 (by decide) (s_fa eM213 (by decide) (ea214))))))
        refine y_putIF C 8 qX9_copyFrom_37 rfl rfl ft_8_8 sb_8_8 hM213 (PX.w hpr rfl rfl) dX9_copyFrom_91 (fun M216 eM216 hM216 => ?_)
        have u217c := cpa_c (M := M190) (M' := M216) (B := M0) (p0 := 33) (p1 := 16) (g0 := 34) (g1 := 17) (n := a189) (n' := 8) (by exact h191.2.2.2.1) ((((((wI_cell eM216 (by decide)).trans (wI_cell eM213 (by decide))).trans (wI_cell eM210 (by decide))).trans (wI_cell eM207 (by decide))).trans (wI_cell eM204 (by decide))).trans (wI_cell eM201 (by decide))) ((((((wI_cell eM216 (by decide)).trans (wI_cell eM213 (by decide))).trans (wI_cell eM210 (by decide))).trans (wI_cell eM207 (by decide))).trans (wI_cell eM204 (by decide))).trans (wI_cell eM201 (by decide))) (by omega)
        have zz32_0 : (M216.1 32 0).toInt = (M190.1 32 0).toInt := s_fb eM201 (by decide) (s_fb eM204 (by decide) (s_fb eM207 (by decide) (s_fb eM210 (by decide) (s_fb eM213 (by decide) (s_fb eM216 (by decide) (rfl))))))
        have zz32_3 := (Eq.trans (s_fb eM204 (by decide) (s_fb eM207 (by decide) (s_fb eM210 (by decide) (s_fb eM213 (by decide) (s_fb eM216 (by decide) (rfl))))) : (M216.1 32 3).toInt = (M201.1 32 3).toInt) (s_wr eM201 (by omega)))
        have zz32_4 := (Eq.trans (s_fb eM207 (by decide) (s_fb eM210 (by decide) (s_fb eM213 (by decide) (s_fb eM216 (by decide) (rfl)))) : (M216.1 32 4).toInt = (M204.1 32 4).toInt) (s_wr eM204 (by omega)))
        have zz32_5 := (Eq.trans (s_fb eM210 (by decide) (s_fb eM213 (by decide) (s_fb eM216 (by decide) (rfl))) : (M216.1 32 5).toInt = (M207.1 32 5).toInt) (s_wr eM207 (by exact ⟨la205, ua205⟩)))
        have zz32_6 := (Eq.trans (s_fb eM213 (by decide) (s_fb eM216 (by decide) (rfl)) : (M216.1 32 6).toInt = (M210.1 32 6).toInt) (s_wr eM210 (by exact ⟨la208, ua208⟩)))
        have zz32_7 := (Eq.trans (s_fb eM216 (by decide) (rfl) : (M216.1 32 7).toInt = (M213.1 32 7).toInt) (s_wr eM213 (by exact ⟨la211, ua211⟩)))
        have zz32_8 := (Eq.trans (rfl : (M216.1 32 8).toInt = (M216.1 32 8).toInt) (s_wr eM216 (by exact ⟨la214, ua214⟩)))
        have u217k := copy_k (M := M0) (N := M216) (d := 32) (s := 15) (p := 0) (by (clear zz32_8 zz32_7 zz32_6 zz32_5 zz32_4 zz32_3 u217c hM216 eM216 ua214 la214 ea214 hM213 eM213 ua211 la211 ea211 hM210 eM210 ua208 la208 ea208 hM207 eM207 ua205 la205 ea205 hM204 eM204 ua202 la202 ea202 hM201 eM201 ua199 la199 ea199 h193 fM190 hM190 ih187 u104z hM103 eM103 ua101 la101 hret C hq8_0 hpr hM0; omega)) (by exact zz32_3) (by exact zz32_4) (by exact zz32_5) (by exact zz32_6) (by exact zz32_7) (by exact zz32_8) (show b01 (CPA M216 M0 33 16 34 17 8) = 1 from by exact u217c)
        exact hret _ _ _ dX9_copyFrom_94 ⟨hM216, (((((((FX.rf.tr fM190 (by decide)).wI eM201 (by decide)).wI eM204 (by decide)).wI eM207 (by decide)).wI eM210 (by decide)).wI eM213 (by decide)).wI eM216 (by decide)), by exact u217k⟩
      · refine j_aload_n C 0 0 dX9_copyFrom_16 rfl rfl ?_
        refine y_getC C 8 33 fX9_copyFrom_15 rfl rfl ft_8_1 sm_8_1 rfl hM190 dX9_copyFrom_17 ?_
        refine j_iload_n C 2 2 dX9_copyFrom_20 rfl rfl ?_
        refine j_aload_n C 1 1 dX9_copyFrom_21 rfl rfl ?_
        refine y_getC C 8 16 fX9_copyFrom_15 rfl rfl ft_8_1 sm_8_1 rfl hM190 dX9_copyFrom_22 ?_
        refine j_iload_n C 2 2 dX9_copyFrom_25 rfl rfl ?_
        refine y_iald C 25 8 _ _ rfl rfl rfl ak_25 an_25 rfl (sb_25 _) hM190 dX9_copyFrom_26 (by exact ⟨h191.1, (by omega)⟩) (fun a194 ea194 la194 ua194 => ?_)
        obtain rfl : a194 = (M0.1 16 (a189).toNat).toInt := s_fX fM190 (by decide) (ea194)
        refine y_iastF C 25 8 rfl rfl rfl ak_25 an_25 rfl (sb_25 _) hM190 (PX.w hpr rfl rfl) dX9_copyFrom_27 (by exact ⟨h191.1, (by omega)⟩) (fun M195 eM195 hM195 => ?_)
        refine j_aload_n C 0 0 dX9_copyFrom_28 rfl rfl ?_
        refine y_getC C 8 34 fX9_copyFrom_19 rfl rfl ft_8_2 sm_8_2 rfl hM195 dX9_copyFrom_29 ?_
        refine j_iload_n C 2 2 dX9_copyFrom_32 rfl rfl ?_
        refine j_aload_n C 1 1 dX9_copyFrom_33 rfl rfl ?_
        refine y_getC C 8 17 fX9_copyFrom_19 rfl rfl ft_8_2 sm_8_2 rfl hM195 dX9_copyFrom_34 ?_
        refine j_iload_n C 2 2 dX9_copyFrom_37 rfl rfl ?_
        refine y_iald C 26 8 _ _ rfl rfl rfl ak_26 an_26 rfl (sb_26 _) hM195 dX9_copyFrom_38 (by exact ⟨h191.1, (by omega)⟩) (fun a196 ea196 la196 ua196 => ?_)
        obtain rfl : a196 = (M0.1 17 (a189).toNat).toInt := s_fX fM190 (by decide) (s_fa eM195 (by decide) (ea196))
        refine y_iastF C 26 8 rfl rfl rfl ak_26 an_26 rfl (sb_26 _) hM195 (PX.w hpr rfl rfl) dX9_copyFrom_39 (by exact ⟨h191.1, (by omega)⟩) (fun M197 eM197 hM197 => ?_)
        refine y_iinc C 2 [(2, .int (sI (a189 + 1))), (0, .ref (ad 32)), (1, .ref (ad 15))] dX9_copyFrom_40 rfl (by decide) rfl ?_
        refine j_goto C 10 dX9_copyFrom_43 (by decide) ?_
        have u198s := cpa_s (B := M0) (p1 := 16) (g1 := 17) (n := a189) (n' := (a189 + 1)) (by exact h191.2.2.2.1) (by omega) eM195 eM197 (by decide)
        have zz32_0 : (M197.1 32 0).toInt = (M190.1 32 0).toInt := s_fa eM195 (by decide) (s_fa eM197 (by decide) (rfl)); refine j_lv [1, 2, 0] rfl ?_; exact ih187 (a189 + 1) M197 (by exact ⟨(by (clear hM197 eM197 ua196 la196 ea196 hM195 eM195 ua194 la194 ea194 fM190 hM190 ih187 u104z hM103 eM103 ua101 la101 hret C hq8_0 hpr hM0; omega)), ⟨(by (clear hM197 eM197 ua196 la196 ea196 hM195 eM195 ua194 la194 ea194 fM190 hM190 ih187 u104z hM103 eM103 ua101 la101 hret C hq8_0 hpr hM0; omega)), ⟨(by (clear hM197 eM197 ua196 la196 ea196 hM195 eM195 ua194 la194 ea194 fM190 hM190 ih187 u104z hM103 eM103 ua101 la101 hret C hq8_0 hpr hM0; omega)), ⟨u198s, (by (clear hM197 eM197 ua196 la196 ea196 hM195 eM195 ua194 la194 ea194 fM190 hM190 ih187 u104z hM103 eM103 ua101 la101 hret C hq8_0 hpr hM0; omega))⟩⟩⟩⟩) hM197 (((FX.rf.tr fM190 (by decide)).wI eM195 (by decide)).wI eM197 (by decide))
  have zz32_0 := (Eq.trans (rfl : (M103.1 32 0).toInt = (M103.1 32 0).toInt) (s_wr eM103 (by omega))); refine j_lv [1, 2, 0] rfl ?_; exact L188 2010 0 M103 (by exact ⟨(by decide), ⟨(by decide), ⟨zz32_0, ⟨u104z, (by decide)⟩⟩⟩⟩) hM103 (FX.rf.wI eM103 (by decide))
set_option maxHeartbeats 4000000 in
theorem s8_X9_copyFrom {l : Launch} {dC : Nat → ClassId} {dI : Nat → Nat → Nat} {ad : Nat → Nat} {cA : Nat → ClassId} {pr : Nat → Nat → Bool} {Kz : mm_M} {M0 : mm_M} (hM0 : INV pr Kz M0) (hpr : PX pr) (hq8_0 : ∀ i, s_c i = 8 → pr i 0 = false)  : Cv l 0 yX9_copyFrom wsX9_copyFrom dC dI ad cA [.ref (ad 35), .ref (ad 15)] M0 (fun M' => INV pr Kz M' ∧ FX [35, 36, 37] M0 M' ∧ (b01 (skX M' 35 = skX M0 15) = 1)) := by
  refine cv_of (cc := cX9_copyFrom) (maxL := 3) (lv := [(0, .ref (ad 35)), (1, .ref (ad 15))]) (by decide) rfl (Nat.le_of_ble_eq_true rfl) rfl ?_
  intro p e s m args below meth c A Q C hret
  refine j_aload_n C 0 0 dX9_copyFrom_0 rfl rfl ?_
  refine j_aload_n C 1 1 dX9_copyFrom_1 rfl rfl ?_
  refine y_getI C 8 _ _ fX9_copyFrom_9 rfl rfl ft_8_0 sb_8_0 hM0 dX9_copyFrom_2 (fun a101 ea101 la101 ua101 => ?_)
  obtain rfl : a101 = (M0.1 15 0).toInt := ea101
  refine y_putI C 8 _ _ qX9_copyFrom_9 rfl rfl ft_8_0 sb_8_0 hM0 (hq8_0 _ rfl) dX9_copyFrom_5 (by exact ⟨⟨(by omega), (by omega)⟩, ⟨la101, ua101⟩⟩) (fun M103 eM103 hM103 => ?_)
  refine y_iconst C dX9_copyFrom_8 ?_
  refine j_istore_n C 2 [(2, .int (sI 0)), (0, .ref (ad 35)), (1, .ref (ad 15))] dX9_copyFrom_9 rfl (by decide) rfl ?_
  have u104z := cpa_0 M103 M0 36 16 37 17
  have L188 : ∀ (n186 : Nat), ∀ (a189 : Int) (M190 : mm_M), (0 ≤ a189 ∧ a189 ≤ 8 ∧ ((M190.1 35 0).toInt = (M0.1 15 0).toInt) ∧ (b01 (CPA M190 M0 36 16 37 17 a189) = 1) ∧ (8 - a189) < (n186 : Int)) → INV pr Kz M190 → FX [35, 36, 37] M0 M190 → jj p l e (cn_R 0) s m args below meth c 0 0 Q 3 dC dI ad cA A M190 10 [(0, .ref (ad 35)), (1, .ref (ad 15)), (2, .int (sI a189))] [] := by
    intro n186
    induction n186 with
    | zero =>
      intro a189 M190 h191 hM190 fM190
      exfalso; omega
    | succ n186 ih187 =>
      intro a189 M190 h191 hM190 fM190
      refine j_iload_n C 2 2 dX9_copyFrom_10 rfl rfl ?_
      refine y_bipush C dX9_copyFrom_11 rfl ?_
      refine y_icmp_ge C 46 dX9_copyFrom_13 (by decide) (by exact ⟨⟨(by omega), (by omega)⟩, ⟨(by decide), (by decide)⟩⟩) (fun h193 => ?_) (fun h193 => ?_)
      · refine j_aload_n C 0 0 dX9_copyFrom_46 rfl rfl ?_
        refine j_aload_n C 1 1 dX9_copyFrom_47 rfl rfl ?_
        refine y_getI C 8 _ _ fX9_copyFrom_22 rfl rfl ft_8_3 sb_8_3 hM190 dX9_copyFrom_48 (fun a199 ea199 la199 ua199 => ?_)
        obtain rfl : a199 = (M0.1 15 3).toInt := s_fX fM190 (by decide) (ea199)
        refine y_putI C 8 _ _ qX9_copyFrom_22 rfl rfl ft_8_3 sb_8_3 hM190 (PX.w hpr rfl rfl) dX9_copyFrom_51 (by exact ⟨⟨(by omega), (by omega)⟩, ⟨la199, ua199⟩⟩) (fun M201 eM201 hM201 => ?_)
        refine j_aload_n C 0 0 dX9_copyFrom_54 rfl rfl ?_
        refine j_aload_n C 1 1 dX9_copyFrom_55 rfl rfl ?_
        refine y_getI C 8 _ _ fX9_copyFrom_25 rfl rfl ft_8_4 sb_8_4 hM201 dX9_copyFrom_56 (fun a202 ea202 la202 ua202 => ?_)
        obtain rfl : a202 = (M0.1 15 4).toInt := s_fX fM190 (by decide) (s_fa eM201 (by decide) (ea202))
        refine y_putI C 8 _ _ qX9_copyFrom_25 rfl rfl ft_8_4 sb_8_4 hM201 (PX.w hpr rfl rfl) dX9_copyFrom_59 (by exact ⟨⟨(by omega), (by omega)⟩, ⟨la202, ua202⟩⟩) (fun M204 eM204 hM204 => ?_)
        refine j_aload_n C 0 0 dX9_copyFrom_62 rfl rfl ?_
        refine j_aload_n C 1 1 dX9_copyFrom_63 rfl rfl ?_
        refine y_getI C 8 _ _ fX9_copyFrom_28 rfl rfl ft_8_5 sb_8_5 hM204 dX9_copyFrom_64 (fun a205 ea205 la205 ua205 => ?_)
        obtain rfl : a205 = (M0.1 15 5).toInt := s_fX fM190 (by decide) (s_fa eM201 (by decide) (s_fa eM204 (by decide) (ea205)))
        refine y_putIF C 8 qX9_copyFrom_28 rfl rfl ft_8_5 sb_8_5 hM204 (PX.w hpr rfl rfl) dX9_copyFrom_67 (fun M207 eM207 hM207 => ?_)
        refine j_aload_n C 0 0 dX9_copyFrom_70 rfl rfl ?_
        refine j_aload_n C 1 1 dX9_copyFrom_71 rfl rfl ?_
        refine y_getI C 8 _ _ fX9_copyFrom_31 rfl rfl ft_8_6 sb_8_6 hM207 dX9_copyFrom_72 (fun a208 ea208 la208 ua208 => ?_)
        obtain rfl : a208 = (M0.1 15 6).toInt := s_fX fM190 (by decide) (s_fa eM201 (by decide) (s_fa eM204 (by decide) (s_fa eM207 (by decide) (ea208))))
        refine y_putIF C 8 qX9_copyFrom_31 rfl rfl ft_8_6 sb_8_6 hM207 (PX.w hpr rfl rfl) dX9_copyFrom_75 (fun M210 eM210 hM210 => ?_)
        refine j_aload_n C 0 0 dX9_copyFrom_78 rfl rfl ?_
        refine j_aload_n C 1 1 dX9_copyFrom_79 rfl rfl ?_
        refine y_getI C 8 _ _ fX9_copyFrom_34 rfl rfl ft_8_7 sb_8_7 hM210 dX9_copyFrom_80 (fun a211 ea211 la211 ua211 => ?_)
        obtain rfl : a211 = (M0.1 15 7).toInt := s_fX fM190 (by decide) (s_fa eM201 (by decide) (s_fa eM204 (by decide) (s_fa eM207 (by decide) (s_fa eM210 (by decide) (ea211)))))
        refine y_putIF C 8 qX9_copyFrom_34 rfl rfl ft_8_7 sb_8_7 hM210 (PX.w hpr rfl rfl) dX9_copyFrom_83 (fun M213 eM213 hM213 => ?_)
        refine j_aload_n C 0 0 dX9_copyFrom_86 rfl rfl ?_
        refine j_aload_n C 1 1 dX9_copyFrom_87 rfl rfl ?_
        refine y_getI C 8 _ _ fX9_copyFrom_37 rfl rfl ft_8_8 sb_8_8 hM213 dX9_copyFrom_88 (fun a214 ea214 la214 ua214 => ?_)
        obtain rfl : a214 = (M0.1 15 8).toInt := s_fX fM190 (by decide) (s_fa eM201 (by decide) (s_fa eM204 (by decide) (s_fa eM207 (by decide) (s_fa eM210 (by decide) (s_fa eM213 (by decide) (ea214))))))
        refine y_putIF C 8 qX9_copyFrom_37 rfl rfl ft_8_8 sb_8_8 hM213 (PX.w hpr rfl rfl) dX9_copyFrom_91 (fun M216 eM216 hM216 => ?_)
        have u217c := cpa_c (M := M190) (M' := M216) (B := M0) (p0 := 36) (p1 := 16) (g0 := 37) (g1 := 17) (n := a189) (n' := 8) (by exact h191.2.2.2.1) ((((((wI_cell eM216 (by decide)).trans (wI_cell eM213 (by decide))).trans (wI_cell eM210 (by decide))).trans (wI_cell eM207 (by decide))).trans (wI_cell eM204 (by decide))).trans (wI_cell eM201 (by decide))) ((((((wI_cell eM216 (by decide)).trans (wI_cell eM213 (by decide))).trans (wI_cell eM210 (by decide))).trans (wI_cell eM207 (by decide))).trans (wI_cell eM204 (by decide))).trans (wI_cell eM201 (by decide))) (by omega)
        have zz35_0 : (M216.1 35 0).toInt = (M190.1 35 0).toInt := s_fb eM201 (by decide) (s_fb eM204 (by decide) (s_fb eM207 (by decide) (s_fb eM210 (by decide) (s_fb eM213 (by decide) (s_fb eM216 (by decide) (rfl))))))
        have zz35_3 := (Eq.trans (s_fb eM204 (by decide) (s_fb eM207 (by decide) (s_fb eM210 (by decide) (s_fb eM213 (by decide) (s_fb eM216 (by decide) (rfl))))) : (M216.1 35 3).toInt = (M201.1 35 3).toInt) (s_wr eM201 (by omega)))
        have zz35_4 := (Eq.trans (s_fb eM207 (by decide) (s_fb eM210 (by decide) (s_fb eM213 (by decide) (s_fb eM216 (by decide) (rfl)))) : (M216.1 35 4).toInt = (M204.1 35 4).toInt) (s_wr eM204 (by omega)))
        have zz35_5 := (Eq.trans (s_fb eM210 (by decide) (s_fb eM213 (by decide) (s_fb eM216 (by decide) (rfl))) : (M216.1 35 5).toInt = (M207.1 35 5).toInt) (s_wr eM207 (by exact ⟨la205, ua205⟩)))
        have zz35_6 := (Eq.trans (s_fb eM213 (by decide) (s_fb eM216 (by decide) (rfl)) : (M216.1 35 6).toInt = (M210.1 35 6).toInt) (s_wr eM210 (by exact ⟨la208, ua208⟩)))
        have zz35_7 := (Eq.trans (s_fb eM216 (by decide) (rfl) : (M216.1 35 7).toInt = (M213.1 35 7).toInt) (s_wr eM213 (by exact ⟨la211, ua211⟩)))
        have zz35_8 := (Eq.trans (rfl : (M216.1 35 8).toInt = (M216.1 35 8).toInt) (s_wr eM216 (by exact ⟨la214, ua214⟩)))
        have u217k := copy_k (M := M0) (N := M216) (d := 35) (s := 15) (p := 0) (by (clear zz35_8 zz35_7 zz35_6 zz35_5 zz35_4 zz35_3 u217c hM216 eM216 ua214 la214 ea214 hM213 eM213 ua211 la211 ea211 hM210 eM210 ua208 la208 ea208 hM207 eM207 ua205 la205 ea205 hM204 eM204 ua202 la202 ea202 hM201 eM201 ua199 la199 ea199 h193 fM190 hM190 ih187 u104z hM103 eM103 ua101 la101 hret C hq8_0 hpr hM0; omega)) (by exact zz35_3) (by exact zz35_4) (by exact zz35_5) (by exact zz35_6) (by exact zz35_7) (by exact zz35_8) (show b01 (CPA M216 M0 36 16 37 17 8) = 1 from by exact u217c)
        exact hret _ _ _ dX9_copyFrom_94 ⟨hM216, (((((((FX.rf.tr fM190 (by decide)).wI eM201 (by decide)).wI eM204 (by decide)).wI eM207 (by decide)).wI eM210 (by decide)).wI eM213 (by decide)).wI eM216 (by decide)), by exact u217k⟩
      · refine j_aload_n C 0 0 dX9_copyFrom_16 rfl rfl ?_
        refine y_getC C 8 36 fX9_copyFrom_15 rfl rfl ft_8_1 sm_8_1 rfl hM190 dX9_copyFrom_17 ?_
        refine j_iload_n C 2 2 dX9_copyFrom_20 rfl rfl ?_
        refine j_aload_n C 1 1 dX9_copyFrom_21 rfl rfl ?_
        refine y_getC C 8 16 fX9_copyFrom_15 rfl rfl ft_8_1 sm_8_1 rfl hM190 dX9_copyFrom_22 ?_
        refine j_iload_n C 2 2 dX9_copyFrom_25 rfl rfl ?_
        refine y_iald C 25 8 _ _ rfl rfl rfl ak_25 an_25 rfl (sb_25 _) hM190 dX9_copyFrom_26 (by exact ⟨h191.1, (by (clear fM190 hM190 ih187 u104z hM103 eM103 ua101 la101 hret C hq8_0 hpr hM0; omega))⟩) (fun a194 ea194 la194 ua194 => ?_)
        obtain rfl : a194 = (M0.1 16 (a189).toNat).toInt := s_fX fM190 (by decide) (ea194)
        refine y_iastF C 25 8 rfl rfl rfl ak_25 an_25 rfl (sb_25 _) hM190 (PX.w hpr rfl rfl) dX9_copyFrom_27 (by exact ⟨h191.1, (by omega)⟩) (fun M195 eM195 hM195 => ?_)
        refine j_aload_n C 0 0 dX9_copyFrom_28 rfl rfl ?_
        refine y_getC C 8 37 fX9_copyFrom_19 rfl rfl ft_8_2 sm_8_2 rfl hM195 dX9_copyFrom_29 ?_
        refine j_iload_n C 2 2 dX9_copyFrom_32 rfl rfl ?_
        refine j_aload_n C 1 1 dX9_copyFrom_33 rfl rfl ?_
        refine y_getC C 8 17 fX9_copyFrom_19 rfl rfl ft_8_2 sm_8_2 rfl hM195 dX9_copyFrom_34 ?_
        refine j_iload_n C 2 2 dX9_copyFrom_37 rfl rfl ?_
        refine y_iald C 26 8 _ _ rfl rfl rfl ak_26 an_26 rfl (sb_26 _) hM195 dX9_copyFrom_38 (by exact ⟨h191.1, (by omega)⟩) (fun a196 ea196 la196 ua196 => ?_)
        obtain rfl : a196 = (M0.1 17 (a189).toNat).toInt := s_fX fM190 (by decide) (s_fa eM195 (by decide) (ea196))
        refine y_iastF C 26 8 rfl rfl rfl ak_26 an_26 rfl (sb_26 _) hM195 (PX.w hpr rfl rfl) dX9_copyFrom_39 (by exact ⟨h191.1, (by omega)⟩) (fun M197 eM197 hM197 => ?_)
        refine y_iinc C 2 [(2, .int (sI (a189 + 1))), (0, .ref (ad 35)), (1, .ref (ad 15))] dX9_copyFrom_40 rfl (by decide) rfl ?_
        refine j_goto C 10 dX9_copyFrom_43 (by decide) ?_
        have u198s := cpa_s (B := M0) (p1 := 16) (g1 := 17) (n := a189) (n' := (a189 + 1)) (by exact h191.2.2.2.1) (by omega) eM195 eM197 (by decide)
        have zz35_0 : (M197.1 35 0).toInt = (M190.1 35 0).toInt := s_fa eM195 (by decide) (s_fa eM197 (by decide) (rfl)); refine j_lv [1, 2, 0] rfl ?_; exact ih187 (a189 + 1) M197 (by exact ⟨(by (clear hM197 eM197 ua196 la196 ea196 hM195 eM195 ua194 la194 ea194 fM190 hM190 ih187 u104z hM103 eM103 ua101 la101 hret C hq8_0 hpr hM0; omega)), ⟨(by (clear hM197 eM197 ua196 la196 ea196 hM195 eM195 ua194 la194 ea194 fM190 hM190 ih187 u104z hM103 eM103 ua101 la101 hret C hq8_0 hpr hM0; omega)), ⟨(by (clear hM197 eM197 ua196 la196 ea196 hM195 eM195 ua194 la194 ea194 fM190 hM190 ih187 u104z hM103 eM103 ua101 la101 hret C hq8_0 hpr hM0; omega)), ⟨u198s, (by (clear hM197 eM197 ua196 la196 ea196 hM195 eM195 ua194 la194 ea194 fM190 hM190 ih187 u104z hM103 eM103 ua101 la101 hret C hq8_0 hpr hM0; omega))⟩⟩⟩⟩) hM197 (((FX.rf.tr fM190 (by decide)).wI eM195 (by decide)).wI eM197 (by decide))
  have zz35_0 := (Eq.trans (rfl : (M103.1 35 0).toInt = (M103.1 35 0).toInt) (s_wr eM103 (by omega))); refine j_lv [1, 2, 0] rfl ?_; exact L188 2010 0 M103 (by exact ⟨(by decide), ⟨(by decide), ⟨zz35_0, ⟨u104z, (by decide)⟩⟩⟩⟩) hM103 (FX.rf.wI eM103 (by decide))
end
