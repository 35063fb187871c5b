set_option maxHeartbeats 4000000 in
theorem s2_X11_ending {l : Launch} {dC : Nat → ClassId} {dI : Nat → Nat → Nat} {ad : Nat → Nat} {cA : Nat → ClassId} {pr : Nat → Nat → Bool} {Kz : mm_M} {M0 : mm_M} (hM0 : INV pr Kz M0) (hpr : PX pr) (gp : Nat) (cgp : s_c gp = 6) (egp : gp = M0.2.2 0 4) (hp0 : b01 (APX M0 gp) = 1) (hp1 : b01 (LAW M0 gp) = 1) (hp2 : b01 (PRR (rwX M0 gp 12)) = 1) (hp3 : (M0.1 12 3).toInt < pw2 (M0.1 12 0).toInt) : Ci l 6 yX11_ending wsX11_ending dC dI ad cA [.ref (ad 0)] M0 (fun r M' => ∃ a : Int, r = sI a ∧ INV pr Kz M' ∧ FX [81, 82, 83, 84, 85, 86, 88, 89, 90, 91] M0 M' ∧ (-1) ≤ a ∧ a ≤ 8 ∧ (a = enF (rwX M0 gp 12) (-1)) ∧ (b01 (APX M' gp) = 1)) := by
  refine ci_of (cc := cX11_ending) (maxL := 1) (ty := .int) (lv := [(0, .ref (ad 0))]) (by decide) rfl (fun r M' hp => rfl) (Nat.le_of_ble_eq_true rfl) rfl ?_
  intro p e s m args below meth c A Q C hret
  refine j_aload_n C 0 0 dX11_ending_0 rfl rfl ?_
  refine y_getC C 10 88 fX11_ending_94 rfl rfl ft_10_14 sm_10_14 rfl hM0 dX11_ending_1 ?_
  refine j_aload_n C 0 0 dX11_ending_4 rfl rfl ?_
  refine y_getV C 10 gp fX11_ending_26 rfl rfl ft_10_4 (egp) dX11_ending_5 ?_
  refine j_aload_n C 0 0 dX11_ending_8 rfl rfl ?_
  refine y_getC C 10 12 fX11_ending_36 rfl rfl ft_10_6 sm_10_6 rfl hM0 dX11_ending_9 ?_
  refine j_aload_n C 0 0 dX11_ending_12 rfl rfl ?_
  refine y_getC C 10 12 fX11_ending_36 rfl rfl ft_10_6 sm_10_6 rfl hM0 dX11_ending_13 ?_
  refine y_getI C 8 _ _ fX11_ending_153 rfl rfl ft_8_4 sb_8_4 hM0 dX11_ending_16 (fun a101 ea101 la101 ua101 => ?_)
  obtain rfl : a101 = (M0.1 12 4).toInt := ea101
  refine j_callVv C (d := 5) (As := [.ref (ad gp), .ref (ad 12), .int (sI (M0.1 12 4).toInt)]) (st := []) 88 (s_lt rfl rfl) (s_kc (c := 4) rfl rfl) (by decide) rfl (s2_X5_look hM0 hpr cgp (M0.1 12 4).toInt (by omega) (by omega) (by omega) (by omega) (by omega) (by omega)) gX11_ending_X5_look rfl hdX5_look (by decide) (Nat.le_of_ble_eq_true rfl) dX11_ending_19 rfl (fun M104 h105 => ?_)
  obtain ⟨hM104, fM104, h106⟩ := h105
  have e88M104 : gp = M104.2.2 88 9 := by omega
  have u107l : b01 (LKP M104 gp (rwX M0 gp 12)) = 1 := by rw [← se_id M0 gp 12]; omega
  have u107e := lkp_e (M := M104) (p := gp) (f := (rwX M0 gp 12)) u107l
  have u107n := en_8 (f := (rwX M0 gp 12)) (-1) (by omega) (by omega)
  have u107a := tn_a (M := M104) (p := gp) (f := (rwX M0 gp 12)) (by omega)
  refine j_aload_n C 0 0 dX11_ending_22 rfl rfl ?_
  refine y_getC C 10 88 fX11_ending_94 rfl rfl ft_10_14 sm_10_14 rfl hM104 dX11_ending_23 ?_
  refine j_callVi C (d := 3) (As := []) (st := []) 88 (s_lt rfl rfl) (s_kc (c := 4) rfl rfl) (by decide) rfl (s2_X5_shortest hM104 hpr gp cgp (e88M104) (rwX M0 gp 12) (by omega)) gX11_ending_X5_shortest rfl hdX5_shortest (by decide) (Nat.le_of_ble_eq_true rfl) dX11_ending_26 rfl (fun r108 M109 h110 => ?_)
  obtain ⟨a112, rfl, hM109, fM109, h111⟩ := h110
  have u113A7 := hM104.rd (i := gp) (c := 6) (k := 7) cgp (show s_b 6 7 = (0, 900) from rfl)
  have u113A9 := hM104.rd (i := gp) (c := 6) (k := 9) cgp (show s_b 6 9 = (0, 900) from rfl)
  have u113A := apx_o (M := M104) (N := M109) (p := gp) (ple_f (p := gp) ((FX.rf.tr fM109 (by decide)) : FX [91] M104 M109) cgp (by decide)) (((FX.rf.tr fM109 (by decide)) : FX [91] M104 M109).cell (by decide)) (((FX.rf.tr fM109 (by decide)) : FX [91] M104 M109).cell (by decide)) (((FX.rf.tr fM109 (by decide)) : FX [91] M104 M109).cell (by decide)) u113A7.1 u113A9.1 (by omega)
  exact hret _ _ _ _ dX11_ending_29 ⟨a112, rfl, hM109, ((FX.rf.tr fM104 (by decide)).tr fM109 (by decide)), by omega⟩
set_option maxHeartbeats 4000000 in
theorem s2_X11_endingBy {l : Launch} {dC : Nat → ClassId} {dI : Nat → Nat → Nat} {ad : Nat → Nat} {cA : Nat → ClassId} {pr : Nat → Nat → Bool} {Kz : mm_M} {M0 : mm_M} (hM0 : INV pr Kz M0) (hpr : PX pr) (a1 : Int) (ha1 : -2147483648 ≤ a1 ∧ a1 ≤ 2147483647) (gp : Nat) (cgp : s_c gp = 6) (egp : gp = M0.2.2 0 4) (hp0 : b01 (APX M0 gp) = 1) (hp1 : b01 (LAW M0 gp) = 1) (hp2 : b01 (PRR (rwX M0 gp 12)) = 1) (hp3 : (M0.1 12 3).toInt < pw2 (M0.1 12 0).toInt) : Ci l 6 yX11_endingBy wsX11_endingBy dC dI ad cA [.ref (ad 0), .int (sI a1)] M0 (fun r M' => ∃ a : Int, r = sI a ∧ INV pr Kz M' ∧ FX [81, 82, 83, 84, 85, 86, 88, 89, 90, 91] M0 M' ∧ (-3) ≤ a ∧ a ≤ 5 ∧ (a = ebA (rwX M0 gp 12) a1) ∧ (b01 (APX M' gp) = 1)) := by
  refine ci_of (cc := cX11_endingBy) (maxL := 2) (ty := .int) (lv := [(0, .ref (ad 0)), (1, .int (sI a1))]) (by decide) rfl (fun r M' hp => rfl) (Nat.le_of_ble_eq_true rfl) rfl ?_
  intro p e s m args below meth c A Q C hret
  refine j_iload_n C 1 1 dX11_endingBy_0 rfl rfl ?_
  refine y_if_ge C 7 dX11_endingBy_1 (by decide) (by omega) (fun h101 => ?_) (fun h101 => ?_)
  · refine j_aload_n C 0 0 dX11_endingBy_7 rfl rfl ?_
    refine y_getC C 10 88 fX11_endingBy_94 rfl rfl ft_10_14 sm_10_14 rfl hM0 dX11_endingBy_8 ?_
    refine j_aload_n C 0 0 dX11_endingBy_11 rfl rfl ?_
    refine y_getV C 10 gp fX11_endingBy_26 rfl rfl ft_10_4 (egp) dX11_endingBy_12 ?_
    refine j_aload_n C 0 0 dX11_endingBy_15 rfl rfl ?_
    refine y_getC C 10 12 fX11_endingBy_36 rfl rfl ft_10_6 sm_10_6 rfl hM0 dX11_endingBy_16 ?_
    refine j_aload_n C 0 0 dX11_endingBy_19 rfl rfl ?_
    refine y_getC C 10 12 fX11_endingBy_36 rfl rfl ft_10_6 sm_10_6 rfl hM0 dX11_endingBy_20 ?_
    refine y_getI C 8 _ _ fX11_endingBy_153 rfl rfl ft_8_4 sb_8_4 hM0 dX11_endingBy_23 (fun a102 ea102 la102 ua102 => ?_)
    obtain rfl : a102 = (M0.1 12 4).toInt := ea102
    refine j_callVv C (d := 5) (As := [.ref (ad gp), .ref (ad 12), .int (sI (M0.1 12 4).toInt)]) (st := []) 88 (s_lt rfl rfl) (s_kc (c := 4) rfl rfl) (by decide) rfl (s2_X5_look hM0 hpr cgp (M0.1 12 4).toInt (by omega) (by omega) (by omega) (by omega) (by omega) (by omega)) gX11_endingBy_X5_look rfl hdX5_look (by decide) (Nat.le_of_ble_eq_true rfl) dX11_endingBy_26 rfl (fun M105 h106 => ?_)
    obtain ⟨hM105, fM105, h107⟩ := h106
    have e88M105 : gp = M105.2.2 88 9 := by omega
    have u108l : b01 (LKP M105 gp (rwX M0 gp 12)) = 1 := by rw [← se_id M0 gp 12]; omega
    have u108e := lkp_e (M := M105) (p := gp) (f := (rwX M0 gp 12)) u108l
    have u108n := en_8 (f := (rwX M0 gp 12)) (-1) (by omega) (by omega)
    have u108a := tn_a (M := M105) (p := gp) (f := (rwX M0 gp 12)) (by omega)
    refine j_iload_n C 1 1 dX11_endingBy_29 rfl rfl ?_
    refine j_aload_n C 0 0 dX11_endingBy_30 rfl rfl ?_
    refine y_getC C 10 88 fX11_endingBy_94 rfl rfl ft_10_14 sm_10_14 rfl hM105 dX11_endingBy_31 ?_
    refine j_callVi C (d := 3) (As := []) (st := [.int (sI a1)]) 88 (s_lt rfl rfl) (s_kc (c := 4) rfl rfl) (by decide) rfl (s2_X5_shortest hM105 hpr gp cgp (e88M105) (rwX M0 gp 12) (by omega)) gX11_endingBy_X5_shortest rfl hdX5_shortest (by decide) (Nat.le_of_ble_eq_true rfl) dX11_endingBy_34 rfl (fun r109 M110 h111 => ?_)
    obtain ⟨a113, rfl, hM110, fM110, h112⟩ := h111
    refine y_icmp_ge C 51 dX11_endingBy_37 (by decide) (by omega) (fun h114 => ?_) (fun h114 => ?_)
    · refine y_iconst C dX11_endingBy_51 ?_
      have u115s := ebA_s (rwX M0 gp 12) a1
      have u115A7 := hM105.rd (i := gp) (c := 6) (k := 7) cgp (show s_b 6 7 = (0, 900) from rfl)
      have u115A9 := hM105.rd (i := gp) (c := 6) (k := 9) cgp (show s_b 6 9 = (0, 900) from rfl)
      have u115A := apx_o (M := M105) (N := M110) (p := gp) (ple_f (p := gp) ((FX.rf.tr fM110 (by decide)) : FX [91] M105 M110) cgp (by decide)) (((FX.rf.tr fM110 (by decide)) : FX [91] M105 M110).cell (by decide)) (((FX.rf.tr fM110 (by decide)) : FX [91] M105 M110).cell (by decide)) (((FX.rf.tr fM110 (by decide)) : FX [91] M105 M110).cell (by decide)) u115A7.1 u115A9.1 (by omega)
      exact hret _ _ _ _ dX11_endingBy_52 ⟨(-1), rfl, hM110, ((FX.rf.tr fM105 (by decide)).tr fM110 (by decide)), by omega⟩
    · refine j_aload_n C 0 0 dX11_endingBy_40 rfl rfl ?_
      refine y_getC C 10 88 fX11_endingBy_94 rfl rfl ft_10_14 sm_10_14 rfl hM110 dX11_endingBy_41 ?_
      refine j_iload_n C 1 1 dX11_endingBy_44 rfl rfl ?_
      have u116l := lkp_c (M := M105) (N := M110) (p := gp) (f := (rwX M0 gp 12)) (by omega) ((FX.rf.tr fM110 (by decide)) : FX [91] M105 M110) cgp (by decide)
      refine j_callVi C (d := 2) (As := [.int (sI a1)]) (st := []) 88 (s_lt rfl rfl) (s_kc (c := 4) rfl rfl) (by decide) rfl (s2_X5_comerAt hM110 a1 (by omega) gp cgp (s_pX fM110 (e88M105)) (rwX M0 gp 12) (by omega) (by omega) (by omega) (by omega) (by omega)) gX11_endingBy_X5_comerAt rfl hdX5_comerAt (by decide) (Nat.le_of_ble_eq_true rfl) dX11_endingBy_45 rfl (fun r117 M118 h119 => ?_)
      obtain ⟨a121, rfl, rfl, h120⟩ := h119
      obtain rfl : a121 = (roB (rwX M0 gp 12) (enF (rwX M0 gp 12) (-1)) (a1).toNat) := by omega
      refine j_goto C 52 dX11_endingBy_48 (by decide) ?_
      have u122s := ebA_s (rwX M0 gp 12) a1
      have u122A7 := hM105.rd (i := gp) (c := 6) (k := 7) cgp (show s_b 6 7 = (0, 900) from rfl)
      have u122A9 := hM105.rd (i := gp) (c := 6) (k := 9) cgp (show s_b 6 9 = (0, 900) from rfl)
      have u122A := apx_o (M := M105) (N := M110) (p := gp) (ple_f (p := gp) ((FX.rf.tr fM110 (by decide)) : FX [91] M105 M110) cgp (by decide)) (((FX.rf.tr fM110 (by decide)) : FX [91] M105 M110).cell (by decide)) (((FX.rf.tr fM110 (by decide)) : FX [91] M105 M110).cell (by decide)) (((FX.rf.tr fM110 (by decide)) : FX [91] M105 M110).cell (by decide)) u122A7.1 u122A9.1 (by omega)
      exact hret _ _ _ _ dX11_endingBy_52 ⟨(roB (rwX M0 gp 12) (enF (rwX M0 gp 12) (-1)) (a1).toNat), rfl, hM110, ((FX.rf.tr fM105 (by decide)).tr fM110 (by decide)), by omega⟩
  · refine y_bipush C dX11_endingBy_4 rfl ?_
    have u123s := ebA_s (rwX M0 gp 12) a1
    exact hret _ _ _ _ dX11_endingBy_6 ⟨(-3), rfl, hM0, FX.rf, by omega⟩
set_option maxHeartbeats 4000000 in
theorem s3_X10_size {l : Launch} {dC : Nat → ClassId} {dI : Nat → Nat → Nat} {ad : Nat → Nat} {cA : Nat → ClassId} {pr : Nat → Nat → Bool} {Kz : mm_M} {M0 : mm_M} (hM0 : INV pr Kz M0)  : Ci l 1 yX10_size wsX10_size dC dI ad cA [.ref (ad 51)] M0 (fun r M' => ∃ a : Int, r = sI a ∧ M0 = M' ∧ 0 ≤ a ∧ a ≤ 40 ∧ (0 ≤ (M0.1 51 2).toInt ∧ a = (M0.1 51 2).toInt ∨ (M0.1 51 2).toInt < 0 ∧ a = 0)) := by
  refine ci_of (cc := cX10_size) (maxL := 1) (ty := .int) (lv := [(0, .ref (ad 51))]) (by decide) rfl (fun r M' hp => rfl) (Nat.le_of_ble_eq_true rfl) rfl ?_
  intro p e s m args below meth c A Q C hret
  refine j_aload_n C 0 0 dX10_size_0 rfl rfl ?_
  refine y_getI C 9 _ _ fX10_size_19 rfl rfl ft_9_2 sb_9_2 hM0 dX10_size_1 (fun a101 ea101 la101 ua101 => ?_)
  obtain rfl : a101 = (M0.1 51 2).toInt := ea101
  refine y_iconst C dX10_size_4 ?_
  refine y_mmax C wX10_size_22_0 wX10_size_22_1 wX10_size_22_2 wX10_size_22_3 (by decide) (Nat.le_of_ble_eq_true rfl) dX10_size_5 (by omega) (fun a103 ha103 => ?_)
  exact hret _ _ _ _ dX10_size_8 ⟨a103, rfl, rfl, by omega⟩
set_option maxHeartbeats 4000000 in
theorem s4_X10_size {l : Launch} {dC : Nat → ClassId} {dI : Nat → Nat → Nat} {ad : Nat → Nat} {cA : Nat → ClassId} {pr : Nat → Nat → Bool} {Kz : mm_M} {M0 : mm_M} (hM0 : INV pr Kz M0)  : Ci l 1 yX10_size wsX10_size dC dI ad cA [.ref (ad 53)] M0 (fun r M' => ∃ a : Int, r = sI a ∧ M0 = M' ∧ 0 ≤ a ∧ a ≤ 40 ∧ (0 ≤ (M0.1 53 2).toInt ∧ a = (M0.1 53 2).toInt ∨ (M0.1 53 2).toInt < 0 ∧ a = 0)) := by
  refine ci_of (cc := cX10_size) (maxL := 1) (ty := .int) (lv := [(0, .ref (ad 53))]) (by decide) rfl (fun r M' hp => rfl) (Nat.le_of_ble_eq_true rfl) rfl ?_
  intro p e s m args below meth c A Q C hret
  refine j_aload_n C 0 0 dX10_size_0 rfl rfl ?_
  refine y_getI C 9 _ _ fX10_size_19 rfl rfl ft_9_2 sb_9_2 hM0 dX10_size_1 (fun a101 ea101 la101 ua101 => ?_)
  obtain rfl : a101 = (M0.1 53 2).toInt := ea101
  refine y_iconst C dX10_size_4 ?_
  refine y_mmax C wX10_size_22_0 wX10_size_22_1 wX10_size_22_2 wX10_size_22_3 (by decide) (Nat.le_of_ble_eq_true rfl) dX10_size_5 (by omega) (fun a103 ha103 => ?_)
  exact hret _ _ _ _ dX10_size_8 ⟨a103, rfl, rfl, by omega⟩
set_option maxHeartbeats 4000000 in
theorem s5_X10_size {l : Launch} {dC : Nat → ClassId} {dI : Nat → Nat → Nat} {ad : Nat → Nat} {cA : Nat → ClassId} {pr : Nat → Nat → Bool} {Kz : mm_M} {M0 : mm_M} (hM0 : INV pr Kz M0)  : Ci l 1 yX10_size wsX10_size dC dI ad cA [.ref (ad 55)] M0 (fun r M' => ∃ a : Int, r = sI a ∧ M0 = M' ∧ 0 ≤ a ∧ a ≤ 40 ∧ (0 ≤ (M0.1 55 2).toInt ∧ a = (M0.1 55 2).toInt ∨ (M0.1 55 2).toInt < 0 ∧ a = 0)) := by
  refine ci_of (cc := cX10_size) (maxL := 1) (ty := .int) (lv := [(0, .ref (ad 55))]) (by decide) rfl (fun r M' hp => rfl) (Nat.le_of_ble_eq_true rfl) rfl ?_
  intro p e s m args below meth c A Q C hret
  refine j_aload_n C 0 0 dX10_size_0 rfl rfl ?_
  refine y_getI C 9 _ _ fX10_size_19 rfl rfl ft_9_2 sb_9_2 hM0 dX10_size_1 (fun a101 ea101 la101 ua101 => ?_)
  obtain rfl : a101 = (M0.1 55 2).toInt := ea101
  refine y_iconst C dX10_size_4 ?_
  refine y_mmax C wX10_size_22_0 wX10_size_22_1 wX10_size_22_2 wX10_size_22_3 (by decide) (Nat.le_of_ble_eq_true rfl) dX10_size_5 (by omega) (fun a103 ha103 => ?_)
  exact hret _ _ _ _ dX10_size_8 ⟨a103, rfl, rfl, by omega⟩
set_option maxHeartbeats 4000000 in
theorem s6_X10_size {l : Launch} {dC : Nat → ClassId} {dI : Nat → Nat → Nat} {ad : Nat → Nat} {cA : Nat → ClassId} {pr : Nat → Nat → Bool} {Kz : mm_M} {M0 : mm_M} (hM0 : INV pr Kz M0)  : Ci l 1 yX10_size wsX10_size dC dI ad cA [.ref (ad 57)] M0 (fun r M' => ∃ a : Int, r = sI a ∧ M0 = M' ∧ 0 ≤ a ∧ a ≤ 40 ∧ (0 ≤ (M0.1 57 2).toInt ∧ a = (M0.1 57 2).toInt ∨ (M0.1 57 2).toInt < 0 ∧ a = 0)) := by
  refine ci_of (cc := cX10_size) (maxL := 1) (ty := .int) (lv := [(0, .ref (ad 57))]) (by decide) rfl (fun r M' hp => rfl) (Nat.le_of_ble_eq_true rfl) rfl ?_
  intro p e s m args below meth c A Q C hret
  refine j_aload_n C 0 0 dX10_size_0 rfl rfl ?_
  refine y_getI C 9 _ _ fX10_size_19 rfl rfl ft_9_2 sb_9_2 hM0 dX10_size_1 (fun a101 ea101 la101 ua101 => ?_)
  obtain rfl : a101 = (M0.1 57 2).toInt := ea101
  refine y_iconst C dX10_size_4 ?_
  refine y_mmax C wX10_size_22_0 wX10_size_22_1 wX10_size_22_2 wX10_size_22_3 (by decide) (Nat.le_of_ble_eq_true rfl) dX10_size_5 (by omega) (fun a103 ha103 => ?_)
  exact hret _ _ _ _ dX10_size_8 ⟨a103, rfl, rfl, by omega⟩
set_option maxHeartbeats 4000000 in
theorem s2_X11_lists {l : Launch} {dC : Nat → ClassId} {dI : Nat → Nat → Nat} {ad : Nat → Nat} {cA : Nat → ClassId} {pr : Nat → Nat → Bool} {Kz : mm_M} {M0 : mm_M} (hM0 : INV pr Kz M0) (hpr : PX pr) (a1 : Int) (ha1 : -2147483648 ≤ a1 ∧ a1 ≤ 2147483647) (gp : Nat) (cgp : s_c gp = 6) (egp : gp = M0.2.2 0 4) (hp0 : b01 (APX M0 gp) = 1) (hp1 : b01 (LAW M0 gp) = 1) (hp2 : b01 (PRR (rwX M0 gp 12)) = 1) (hp3 : (M0.1 12 3).toInt < pw2 (M0.1 12 0).toInt) : Ci l 6 yX11_lists wsX11_lists dC dI ad cA [.ref (ad 0), .int (sI a1)] M0 (fun r M' => ∃ a : Int, r = sI a ∧ INV pr Kz M' ∧ FX [52, 54, 56, 58, 81, 82, 83, 84, 85, 86, 88, 89, 90, 91] M0 M' ∧ (-6) ≤ a ∧ a ≤ 40 ∧ (a = lsA (ntX M0 a1) (enF (rwX M0 gp 12) (-1)) (tsX M0 a1)) ∧ (a < 0 ∧ b01 (TRS M0 M') = 1 ∨ 0 ≤ a ∧ b01 (TRL M0 M' a1 (rwX M0 gp 12) a) = 1) ∧ (b01 (APX M' gp) = 1)) := by
  refine ci_of (cc := cX11_lists) (maxL := 6) (ty := .int) (lv := [(0, .ref (ad 0)), (1, .int (sI a1))]) (by decide) rfl (fun r M' hp => rfl) (Nat.le_of_ble_eq_true rfl) rfl ?_
  intro p e s m args below meth c A Q C hret
  refine j_aload_n C 0 0 dX11_lists_0 rfl rfl ?_
  refine j_iload_n C 1 1 dX11_lists_1 rfl rfl ?_
  refine j_callVi C (d := 1) (As := [.int (sI a1)]) (st := []) 0 (s_lt rfl rfl) (s_kc (c := 10) rfl rfl) (by decide) rfl (s3_X11_trayRefusal hM0 a1 (by omega)) gX11_lists_X11_trayRefusal rfl hdX11_trayRefusal (by decide) (Nat.le_of_ble_eq_true rfl) dX11_lists_2 rfl (fun r101 M102 h103 => ?_)
  obtain ⟨a105, rfl, rfl, h104⟩ := h103
  have u106t := ntX_s M0 a1
  have u106z : tsX M0 a1 = (M0.1 (s_p0 50 (a1).toNat) 2).toInt := rfl
  refine j_istore_n C 2 [(2, .int (sI a105)), (0, .ref (ad 0)), (1, .int (sI a1))] dX11_lists_5 rfl (by decide) rfl ?_
  refine j_iload_n C 0 2 dX11_lists_6 rfl rfl ?_
  refine y_if_eq C 12 dX11_lists_7 (by decide) (by omega) (fun h107 => ?_) (fun h107 => ?_)
  · refine j_aload_n C 1 0 dX11_lists_12 rfl rfl ?_
    refine y_getC C 10 88 fX11_lists_94 rfl rfl ft_10_14 sm_10_14 rfl hM0 dX11_lists_13 ?_
    refine j_aload_n C 1 0 dX11_lists_16 rfl rfl ?_
    refine y_getV C 10 gp fX11_lists_26 rfl rfl ft_10_4 (egp) dX11_lists_17 ?_
    refine j_aload_n C 1 0 dX11_lists_20 rfl rfl ?_
    refine y_getC C 10 12 fX11_lists_36 rfl rfl ft_10_6 sm_10_6 rfl hM0 dX11_lists_21 ?_
    refine j_aload_n C 1 0 dX11_lists_24 rfl rfl ?_
    refine y_getC C 10 12 fX11_lists_36 rfl rfl ft_10_6 sm_10_6 rfl hM0 dX11_lists_25 ?_
    refine y_getI C 8 _ _ fX11_lists_153 rfl rfl ft_8_4 sb_8_4 hM0 dX11_lists_28 (fun a108 ea108 la108 ua108 => ?_)
    obtain rfl : a108 = (M0.1 12 4).toInt := ea108
    refine j_callVv C (d := 5) (As := [.ref (ad gp), .ref (ad 12), .int (sI (M0.1 12 4).toInt)]) (st := []) 88 (s_lt rfl rfl) (s_kc (c := 4) rfl rfl) (by decide) rfl (s2_X5_look hM0 hpr cgp (M0.1 12 4).toInt (by omega) (by omega) (by omega) (by omega) (by omega) (by omega)) gX11_lists_X5_look rfl hdX5_look (by decide) (Nat.le_of_ble_eq_true rfl) dX11_lists_31 rfl (fun M111 h112 => ?_)
    obtain ⟨hM111, fM111, h113⟩ := h112
    have e88M111 : gp = M111.2.2 88 9 := by omega
    have u114l : b01 (LKP M111 gp (rwX M0 gp 12)) = 1 := by rw [← se_id M0 gp 12]; omega
    have u114e := lkp_e (M := M111) (p := gp) (f := (rwX M0 gp 12)) u114l
    have u114n := en_8 (f := (rwX M0 gp 12)) (-1) (by omega) (by omega)
    have u114a := tn_a (M := M111) (p := gp) (f := (rwX M0 gp 12)) (by omega)
    refine j_aload_n C 1 0 dX11_lists_34 rfl rfl ?_
    refine y_getC C 10 88 fX11_lists_94 rfl rfl ft_10_14 sm_10_14 rfl hM111 dX11_lists_35 ?_
    refine j_callVi C (d := 3) (As := []) (st := []) 88 (s_lt rfl rfl) (s_kc (c := 4) rfl rfl) (by decide) rfl (s2_X5_shortest hM111 hpr gp cgp (e88M111) (rwX M0 gp 12) (by omega)) gX11_lists_X5_shortest rfl hdX5_shortest (by decide) (Nat.le_of_ble_eq_true rfl) dX11_lists_38 rfl (fun r115 M116 h117 => ?_)
    obtain ⟨a119, rfl, hM116, fM116, h118⟩ := h117
    refine j_istore_n C 3 [(3, .int (sI a119)), (2, .int (sI a105)), (0, .ref (ad 0)), (1, .int (sI a1))] dX11_lists_41 rfl (by decide) rfl ?_
    refine j_iload_n C 0 3 dX11_lists_42 rfl rfl ?_
    refine y_iconst C dX11_lists_43 ?_
    refine y_icmp_ne C 50 dX11_lists_44 (by decide) (by omega) (fun h120 => ?_) (fun h120 => ?_)
    · refine j_iload_n C 0 3 dX11_lists_50 rfl rfl ?_
      refine j_aload_n C 2 0 dX11_lists_51 rfl rfl ?_
      refine y_getC C 10 50 fX11_lists_52 rfl rfl ft_10_9 sm_10_9 rfl hM116 dX11_lists_52 ?_
      refine j_iload_n C 3 1 dX11_lists_55 rfl rfl ?_
      rcases (show a1 = 0 ∨ a1 = 1 ∨ a1 = 2 ∨ a1 = 3 by omega) with h121 | h121 | h121 | h121
      · rw [h121]
        refine y_aaldK C 28 4 9 51 rfl rfl rfl rfl an_28 rfl sma_28 sta_28 (by decide) hM116 dX11_lists_56 (by omega) rfl ?_
        have u123t : tsX M0 a1 = (M0.1 51 2).toInt := by rw [show a1 = 0 by omega]; rfl
        have u123c : (M116.1 51 2).toInt = (M0.1 51 2).toInt := by rw [(((FX.rf.tr fM111 (by decide)).tr fM116 (by decide)) : FX [81, 82, 83, 84, 85, 86, 88, 89, 90, 91] M0 M116).cell (by decide)]
        have u123b := hM0.rd (i := 51) (c := 9) (k := 2) rfl (show s_b 9 2 = (-1, 40) from rfl)
        refine j_callVi C (d := 1) (As := []) (st := [.int (sI a119)]) 51 (s_lt rfl rfl) (s_kc (c := 9) rfl rfl) (by decide) rfl (s3_X10_size hM116) gX11_lists_X10_size rfl hdX10_size (by decide) (Nat.le_of_ble_eq_true rfl) dX11_lists_57 rfl (fun r124 M125 h126 => ?_)
        obtain ⟨a128, rfl, rfl, h127⟩ := h126
        refine y_mmin C wX11_lists_246_0 wX11_lists_246_1 wX11_lists_246_2 wX11_lists_246_3 (by decide) (Nat.le_of_ble_eq_true rfl) dX11_lists_60 (by omega) (fun a129 ha129 => ?_)
        refine j_istore C 4 [(4, .int (sI a129)), (3, .int (sI a119)), (2, .int (sI a105)), (0, .ref (ad 0)), (1, .int (sI 0))] dX11_lists_63 (by decide) rfl ?_
        refine y_iconst C dX11_lists_65 ?_
        refine j_istore C 5 [(5, .int (sI 0)), (4, .int (sI a129)), (3, .int (sI a119)), (2, .int (sI a105)), (0, .ref (ad 0)), (1, .int (sI 0))] dX11_lists_66 (by decide) rfl ?_
        have u130l := lkp_c (M := M111) (N := M116) (p := gp) (f := (rwX M0 gp 12)) (by omega) ((FX.rf.tr fM116 (by decide)) : FX [91] M111 M116) cgp (by decide)
        have u130t := trl_0 (M := M0) (N := M116) 0 (rwX M0 gp 12) (((FX.rf.tr fM111 (by decide)).tr fM116 (by decide)) : FX [81, 82, 83, 84, 85, 86, 88, 89, 90, 91] M0 M116) (by decide) (by decide)
        have u130A7 := hM111.rd (i := gp) (c := 6) (k := 7) cgp (show s_b 6 7 = (0, 900) from rfl)
        have u130A9 := hM111.rd (i := gp) (c := 6) (k := 9) cgp (show s_b 6 9 = (0, 900) from rfl)
        have u130A := apx_o (M := M111) (N := M116) (p := gp) (ple_f (p := gp) ((FX.rf.tr fM116 (by decide)) : FX [91] M111 M116) cgp (by decide)) (((FX.rf.tr fM116 (by decide)) : FX [91] M111 M116).cell (by decide)) (((FX.rf.tr fM116 (by decide)) : FX [91] M111 M116).cell (by decide)) (((FX.rf.tr fM116 (by decide)) : FX [91] M111 M116).cell (by decide)) u130A7.1 u130A9.1 (by omega)
        have L149 : ∀ (n147 : Nat), ∀ (a150 : Int) (M151 : mm_M), (0 ≤ a150 ∧ a150 ≤ 40 ∧ (b01 (LKP M151 gp (rwX M0 gp 12)) = 1) ∧ (b01 (FRQ M151 (rwX M0 gp 12) (-1) (((rwX M0 gp 12) 27).toInt + (-1))) = 1) ∧ (b01 (APX M151 gp) = 1) ∧ (b01 (TRL M0 M151 0 (rwX M0 gp 12) a150) = 1) ∧ (a150 ≤ a129) ∧ (40 - a150) < (n147 : Int)) → INV pr Kz M151 → FX [52, 54, 56, 58, 81, 82, 83, 84, 85, 86, 88, 89, 90, 91] M0 M151 → jj p l e (cn_R 6) s m args below meth c 0 0 Q 6 dC dI ad cA A M151 68 [(0, .ref (ad 0)), (1, .int (sI 0)), (4, .int (sI a129)), (5, .int (sI a150))] [] := by
          intro n147
          induction n147 with
          | zero =>
            intro a150 M151 h152 hM151 fM151
            exfalso; omega
          | succ n147 ih148 =>
            intro a150 M151 h152 hM151 fM151
            have u153e := lkp_e (M := M151) (p := gp) (f := (rwX M0 gp 12)) (by omega)
            have e88M151 : gp = M151.2.2 88 9 := u153e.1.1.symm
            have u153q : (M151.1 51 2).toInt = (M0.1 51 2).toInt := congrArg Int32.toInt (congrFun (b01_e (P := TRL M0 M151 0 (rwX M0 gp 12) a150) (by omega)).2.1 2)
            refine j_iload C 3 dX11_lists_68 rfl ?_
            refine j_iload C 2 dX11_lists_70 rfl ?_
            refine y_icmp_ge C 102 dX11_lists_72 (by decide) (by omega) (fun h154 => ?_) (fun h154 => ?_)
            · refine j_iload C 2 dX11_lists_102 rfl ?_
              have u168s := lsA_s (ntX M0 a1) (enF (rwX M0 gp 12) (-1)) (tsX M0 a1)
              have u168k : b01 (TRL M0 M151 a1 (rwX M0 gp 12) a129) = 1 := by rw [show a1 = 0 by omega, show a129 = a150 by omega]; omega
              exact hret _ _ _ _ dX11_lists_104 ⟨a129, rfl, hM151, (FX.rf.tr fM151 (by decide)), by omega⟩
            · refine j_aload_n C 0 0 dX11_lists_75 rfl rfl ?_
              refine y_getC C 10 50 fX11_lists_52 rfl rfl ft_10_9 sm_10_9 rfl hM151 dX11_lists_76 ?_
              refine j_iload_n C 1 1 dX11_lists_79 rfl rfl ?_
              refine y_aaldK C 28 4 9 51 rfl rfl rfl rfl an_28 rfl sma_28 sta_28 (by decide) hM151 dX11_lists_80 (by omega) rfl ?_
              refine j_iload C 3 dX11_lists_81 rfl ?_
              refine j_aload_n C 0 0 dX11_lists_83 rfl rfl ?_
              refine y_getC C 10 88 fX11_lists_94 rfl rfl ft_10_14 sm_10_14 rfl hM151 dX11_lists_84 ?_
              refine j_iload C 3 dX11_lists_87 rfl ?_
              refine j_callVi C (d := 2) (As := [.int (sI a150)]) (st := [.int (sI a150), .ref (ad 51)]) 88 (s_lt rfl rfl) (s_kc (c := 4) rfl rfl) (by decide) rfl (s2_X5_comerAt hM151 a150 (by omega) gp cgp (e88M151) (rwX M0 gp 12) (by omega) (by omega) (by omega) (by omega) (by omega)) gX11_lists_X5_comerAt rfl hdX5_comerAt (by decide) (Nat.le_of_ble_eq_true rfl) dX11_lists_89 rfl (fun r156 M157 h158 => ?_)
              obtain ⟨a160, rfl, rfl, h159⟩ := h158
              obtain rfl : a160 = (roB (rwX M0 gp 12) (enF (rwX M0 gp 12) (-1)) (a150).toNat) := by omega
              refine y_i2l C dX11_lists_92 (by omega) ?_
              refine j_callVv C (d := 1) (As := [.int (sI a150), .long (sJ (roB (rwX M0 gp 12) (enF (rwX M0 gp 12) (-1)) (a150).toNat))]) (st := []) 51 (s_lt rfl rfl) (s_kc (c := 9) rfl rfl) (by decide) rfl (s3_X10_put hM151 hpr a150 (by omega) (roB (rwX M0 gp 12) (enF (rwX M0 gp 12) (-1)) (a150).toNat) (by omega)) gX11_lists_X10_put rfl hdX10_put (by decide) (Nat.le_of_ble_eq_true rfl) dX11_lists_93 rfl (fun M163 h164 => ?_)
              obtain ⟨hM163, fM163, h165⟩ := h164
              refine y_iinc C 3 [(5, .int (sI (a150 + 1))), (0, .ref (ad 0)), (1, .int (sI 0)), (4, .int (sI a129))] dX11_lists_96 rfl (by decide) rfl ?_
              refine j_goto C 68 dX11_lists_99 (by decide) ?_
              have u166l := lkp_c (M := M151) (N := M163) (p := gp) (f := (rwX M0 gp 12)) (by omega) fM163 cgp (by decide)
              have u166r := fr_c (M := M151) (N := M163) (f := (rwX M0 gp 12)) (a := -1) (s := ((rwX M0 gp 12) 27).toInt + (-1)) (by omega) fM163 (by decide)
              have u166A7 := hM151.rd (i := gp) (c := 6) (k := 7) cgp (show s_b 6 7 = (0, 900) from rfl)
              have u166A9 := hM151.rd (i := gp) (c := 6) (k := 9) cgp (show s_b 6 9 = (0, 900) from rfl)
              have u166A := apx_o (M := M151) (N := M163) (p := gp) (ple_f (p := gp) ((FX.rf.tr fM163 (by decide)) : FX [52] M151 M163) cgp (by decide)) (((FX.rf.tr fM163 (by decide)) : FX [52] M151 M163).cell (by decide)) (((FX.rf.tr fM163 (by decide)) : FX [52] M151 M163).cell (by decide)) (((FX.rf.tr fM163 (by decide)) : FX [52] M151 M163).cell (by decide)) u166A7.1 u166A9.1 (by omega)
              have u166e : M163.2.1 52 = uJ (M151.2.1 52) (a150).toNat (ctF (roB (rwX M0 gp 12) (enF (rwX M0 gp 12) (-1)) (a150).toNat) (M151.1 51 1).toInt) := b01_e (by omega)
              have u166t := trl_s (M := M0) (B := M151) (N := M163) (f := (rwX M0 gp 12)) (c := 0) (t := 0) (n := a150) (n' := a150 + 1) (v := (roB (rwX M0 gp 12) (enF (rwX M0 gp 12) (-1)) (a150).toNat)) (by omega) fM163 (by decide) (by decide) (by decide) u166e (by omega) (by omega)
              refine j_lv [1, 2, 3, 0] rfl ?_; exact ih148 (a150 + 1) M163 (by omega) hM163 ((FX.rf.tr fM151 (by decide)).tr fM163 (by decide))
        refine j_lv [4, 5, 1, 0] rfl ?_; exact L149 2010 0 M116 (by omega) hM116 ((FX.rf.tr fM111 (by decide)).tr fM116 (by decide))
      · rw [h121]
        refine y_aaldK C 28 4 9 53 rfl rfl rfl rfl an_28 rfl sma_28 sta_28 (by decide) hM116 dX11_lists_56 (by omega) rfl ?_
        have u170t : tsX M0 a1 = (M0.1 53 2).toInt := by rw [show a1 = 1 by omega]; rfl
        have u170c : (M116.1 53 2).toInt = (M0.1 53 2).toInt := by rw [(((FX.rf.tr fM111 (by decide)).tr fM116 (by decide)) : FX [81, 82, 83, 84, 85, 86, 88, 89, 90, 91] M0 M116).cell (by decide)]
        have u170b := hM0.rd (i := 53) (c := 9) (k := 2) rfl (show s_b 9 2 = (-1, 40) from rfl)
        refine j_callVi C (d := 1) (As := []) (st := [.int (sI a119)]) 53 (s_lt rfl rfl) (s_kc (c := 9) rfl rfl) (by decide) rfl (s4_X10_size hM116) gX11_lists_X10_size rfl hdX10_size (by decide) (Nat.le_of_ble_eq_true rfl) dX11_lists_57 rfl (fun r171 M172 h173 => ?_)
        obtain ⟨a175, rfl, rfl, h174⟩ := h173
        refine y_mmin C wX11_lists_246_0 wX11_lists_246_1 wX11_lists_246_2 wX11_lists_246_3 (by decide) (Nat.le_of_ble_eq_true rfl) dX11_lists_60 (by omega) (fun a176 ha176 => ?_)
        refine j_istore C 4 [(4, .int (sI a176)), (3, .int (sI a119)), (2, .int (sI a105)), (0, .ref (ad 0)), (1, .int (sI 1))] dX11_lists_63 (by decide) rfl ?_
        refine y_iconst C dX11_lists_65 ?_
        refine j_istore C 5 [(5, .int (sI 0)), (4, .int (sI a176)), (3, .int (sI a119)), (2, .int (sI a105)), (0, .ref (ad 0)), (1, .int (sI 1))] dX11_lists_66 (by decide) rfl ?_
        have u177l := lkp_c (M := M111) (N := M116) (p := gp) (f := (rwX M0 gp 12)) (by omega) ((FX.rf.tr fM116 (by decide)) : FX [91] M111 M116) cgp (by decide)
        have u177t := trl_0 (M := M0) (N := M116) 1 (rwX M0 gp 12) (((FX.rf.tr fM111 (by decide)).tr fM116 (by decide)) : FX [81, 82, 83, 84, 85, 86, 88, 89, 90, 91] M0 M116) (by decide) (by decide)
        have u177A7 := hM111.rd (i := gp) (c := 6) (k := 7) cgp (show s_b 6 7 = (0, 900) from rfl)
        have u177A9 := hM111.rd (i := gp) (c := 6) (k := 9) cgp (show s_b 6 9 = (0, 900) from rfl)
        have u177A := apx_o (M := M111) (N := M116) (p := gp) (ple_f (p := gp) ((FX.rf.tr fM116 (by decide)) : FX [91] M111 M116) cgp (by decide)) (((FX.rf.tr fM116 (by decide)) : FX [91] M111 M116).cell (by decide)) (((FX.rf.tr fM116 (by decide)) : FX [91] M111 M116).cell (by decide)) (((FX.rf.tr fM116 (by decide)) : FX [91] M111 M116).cell (by decide)) u177A7.1 u177A9.1 (by omega)
        have L196 : ∀ (n194 : Nat), ∀ (a197 : Int) (M198 : mm_M), (0 ≤ a197 ∧ a197 ≤ 40 ∧ (b01 (LKP M198 gp (rwX M0 gp 12)) = 1) ∧ (b01 (FRQ M198 (rwX M0 gp 12) (-1) (((rwX M0 gp 12) 27).toInt + (-1))) = 1) ∧ (b01 (APX M198 gp) = 1) ∧ (b01 (TRL M0 M198 1 (rwX M0 gp 12) a197) = 1) ∧ (a197 ≤ a176) ∧ (40 - a197) < (n194 : Int)) → INV pr Kz M198 → FX [52, 54, 56, 58, 81, 82, 83, 84, 85, 86, 88, 89, 90, 91] M0 M198 → jj p l e (cn_R 6) s m args below meth c 0 0 Q 6 dC dI ad cA A M198 68 [(0, .ref (ad 0)), (1, .int (sI 1)), (4, .int (sI a176)), (5, .int (sI a197))] [] := by
          intro n194
          induction n194 with
          | zero =>
            intro a197 M198 h199 hM198 fM198
            exfalso; omega
          | succ n194 ih195 =>
            intro a197 M198 h199 hM198 fM198
            have u200e := lkp_e (M := M198) (p := gp) (f := (rwX M0 gp 12)) (by omega)
            have e88M198 : gp = M198.2.2 88 9 := u200e.1.1.symm
            have u200q : (M198.1 53 2).toInt = (M0.1 53 2).toInt := congrArg Int32.toInt (congrFun (b01_e (P := TRL M0 M198 1 (rwX M0 gp 12) a197) (by omega)).2.1 2)
            refine j_iload C 3 dX11_lists_68 rfl ?_
            refine j_iload C 2 dX11_lists_70 rfl ?_
            refine y_icmp_ge C 102 dX11_lists_72 (by decide) (by omega) (fun h201 => ?_) (fun h201 => ?_)
            · refine j_iload C 2 dX11_lists_102 rfl ?_
              have u215s := lsA_s (ntX M0 a1) (enF (rwX M0 gp 12) (-1)) (tsX M0 a1)
              have u215k : b01 (TRL M0 M198 a1 (rwX M0 gp 12) a176) = 1 := by rw [show a1 = 1 by omega, show a176 = a197 by omega]; omega
              exact hret _ _ _ _ dX11_lists_104 ⟨a176, rfl, hM198, (FX.rf.tr fM198 (by decide)), by omega⟩
            · refine j_aload_n C 0 0 dX11_lists_75 rfl rfl ?_
              refine y_getC C 10 50 fX11_lists_52 rfl rfl ft_10_9 sm_10_9 rfl hM198 dX11_lists_76 ?_
              refine j_iload_n C 1 1 dX11_lists_79 rfl rfl ?_
              refine y_aaldK C 28 4 9 53 rfl rfl rfl rfl an_28 rfl sma_28 sta_28 (by decide) hM198 dX11_lists_80 (by omega) rfl ?_
              refine j_iload C 3 dX11_lists_81 rfl ?_
              refine j_aload_n C 0 0 dX11_lists_83 rfl rfl ?_
              refine y_getC C 10 88 fX11_lists_94 rfl rfl ft_10_14 sm_10_14 rfl hM198 dX11_lists_84 ?_
              refine j_iload C 3 dX11_lists_87 rfl ?_
              refine j_callVi C (d := 2) (As := [.int (sI a197)]) (st := [.int (sI a197), .ref (ad 53)]) 88 (s_lt rfl rfl) (s_kc (c := 4) rfl rfl) (by decide) rfl (s2_X5_comerAt hM198 a197 (by omega) gp cgp (e88M198) (rwX M0 gp 12) (by omega) (by omega) (by omega) (by omega) (by omega)) gX11_lists_X5_comerAt rfl hdX5_comerAt (by decide) (Nat.le_of_ble_eq_true rfl) dX11_lists_89 rfl (fun r203 M204 h205 => ?_)
              obtain ⟨a207, rfl, rfl, h206⟩ := h205
              obtain rfl : a207 = (roB (rwX M0 gp 12) (enF (rwX M0 gp 12) (-1)) (a197).toNat) := by omega
              refine y_i2l C dX11_lists_92 (by omega) ?_
              refine j_callVv C (d := 1) (As := [.int (sI a197), .long (sJ (roB (rwX M0 gp 12) (enF (rwX M0 gp 12) (-1)) (a197).toNat))]) (st := []) 53 (s_lt rfl rfl) (s_kc (c := 9) rfl rfl) (by decide) rfl (s4_X10_put hM198 hpr a197 (by omega) (roB (rwX M0 gp 12) (enF (rwX M0 gp 12) (-1)) (a197).toNat) (by omega)) gX11_lists_X10_put rfl hdX10_put (by decide) (Nat.le_of_ble_eq_true rfl) dX11_lists_93 rfl (fun M210 h211 => ?_)
              obtain ⟨hM210, fM210, h212⟩ := h211
              refine y_iinc C 3 [(5, .int (sI (a197 + 1))), (0, .ref (ad 0)), (1, .int (sI 1)), (4, .int (sI a176))] dX11_lists_96 rfl (by decide) rfl ?_
              refine j_goto C 68 dX11_lists_99 (by decide) ?_
              have u213l := lkp_c (M := M198) (N := M210) (p := gp) (f := (rwX M0 gp 12)) (by omega) fM210 cgp (by decide)
              have u213r := fr_c (M := M198) (N := M210) (f := (rwX M0 gp 12)) (a := -1) (s := ((rwX M0 gp 12) 27).toInt + (-1)) (by omega) fM210 (by decide)
              have u213A7 := hM198.rd (i := gp) (c := 6) (k := 7) cgp (show s_b 6 7 = (0, 900) from rfl)
              have u213A9 := hM198.rd (i := gp) (c := 6) (k := 9) cgp (show s_b 6 9 = (0, 900) from rfl)
              have u213A := apx_o (M := M198) (N := M210) (p := gp) (ple_f (p := gp) ((FX.rf.tr fM210 (by decide)) : FX [54] M198 M210) cgp (by decide)) (((FX.rf.tr fM210 (by decide)) : FX [54] M198 M210).cell (by decide)) (((FX.rf.tr fM210 (by decide)) : FX [54] M198 M210).cell (by decide)) (((FX.rf.tr fM210 (by decide)) : FX [54] M198 M210).cell (by decide)) u213A7.1 u213A9.1 (by omega)
              have u213e : M210.2.1 54 = uJ (M198.2.1 54) (a197).toNat (ctF (roB (rwX M0 gp 12) (enF (rwX M0 gp 12) (-1)) (a197).toNat) (M198.1 53 1).toInt) := b01_e (by omega)
              have u213t := trl_s (M := M0) (B := M198) (N := M210) (f := (rwX M0 gp 12)) (c := 1) (t := 1) (n := a197) (n' := a197 + 1) (v := (roB (rwX M0 gp 12) (enF (rwX M0 gp 12) (-1)) (a197).toNat)) (by omega) fM210 (by decide) (by decide) (by decide) u213e (by omega) (by omega)
              refine j_lv [1, 2, 3, 0] rfl ?_; exact ih195 (a197 + 1) M210 (by omega) hM210 ((FX.rf.tr fM198 (by decide)).tr fM210 (by decide))
        refine j_lv [4, 5, 1, 0] rfl ?_; exact L196 2010 0 M116 (by omega) hM116 ((FX.rf.tr fM111 (by decide)).tr fM116 (by decide))
      · rw [h121]
        refine y_aaldK C 28 4 9 55 rfl rfl rfl rfl an_28 rfl sma_28 sta_28 (by decide) hM116 dX11_lists_56 (by omega) rfl ?_
        have u217t : tsX M0 a1 = (M0.1 55 2).toInt := by rw [show a1 = 2 by omega]; rfl
        have u217c : (M116.1 55 2).toInt = (M0.1 55 2).toInt := by rw [(((FX.rf.tr fM111 (by decide)).tr fM116 (by decide)) : FX [81, 82, 83, 84, 85, 86, 88, 89, 90, 91] M0 M116).cell (by decide)]
        have u217b := hM0.rd (i := 55) (c := 9) (k := 2) rfl (show s_b 9 2 = (-1, 40) from rfl)
        refine j_callVi C (d := 1) (As := []) (st := [.int (sI a119)]) 55 (s_lt rfl rfl) (s_kc (c := 9) rfl rfl) (by decide) rfl (s5_X10_size hM116) gX11_lists_X10_size rfl hdX10_size (by decide) (Nat.le_of_ble_eq_true rfl) dX11_lists_57 rfl (fun r218 M219 h220 => ?_)
        obtain ⟨a222, rfl, rfl, h221⟩ := h220
        refine y_mmin C wX11_lists_246_0 wX11_lists_246_1 wX11_lists_246_2 wX11_lists_246_3 (by decide) (Nat.le_of_ble_eq_true rfl) dX11_lists_60 (by omega) (fun a223 ha223 => ?_)
        refine j_istore C 4 [(4, .int (sI a223)), (3, .int (sI a119)), (2, .int (sI a105)), (0, .ref (ad 0)), (1, .int (sI 2))] dX11_lists_63 (by decide) rfl ?_
        refine y_iconst C dX11_lists_65 ?_
        refine j_istore C 5 [(5, .int (sI 0)), (4, .int (sI a223)), (3, .int (sI a119)), (2, .int (sI a105)), (0, .ref (ad 0)), (1, .int (sI 2))] dX11_lists_66 (by decide) rfl ?_
        have u224l := lkp_c (M := M111) (N := M116) (p := gp) (f := (rwX M0 gp 12)) (by omega) ((FX.rf.tr fM116 (by decide)) : FX [91] M111 M116) cgp (by decide)
        have u224t := trl_0 (M := M0) (N := M116) 2 (rwX M0 gp 12) (((FX.rf.tr fM111 (by decide)).tr fM116 (by decide)) : FX [81, 82, 83, 84, 85, 86, 88, 89, 90, 91] M0 M116) (by decide) (by decide)
        have u224A7 := hM111.rd (i := gp) (c := 6) (k := 7) cgp (show s_b 6 7 = (0, 900) from rfl)
        have u224A9 := hM111.rd (i := gp) (c := 6) (k := 9) cgp (show s_b 6 9 = (0, 900) from rfl)
        have u224A := apx_o (M := M111) (N := M116) (p := gp) (ple_f (p := gp) ((FX.rf.tr fM116 (by decide)) : FX [91] M111 M116) cgp (by decide)) (((FX.rf.tr fM116 (by decide)) : FX [91] M111 M116).cell (by decide)) (((FX.rf.tr fM116 (by decide)) : FX [91] M111 M116).cell (by decide)) (((FX.rf.tr fM116 (by decide)) : FX [91] M111 M116).cell (by decide)) u224A7.1 u224A9.1 (by omega)
        have L243 : ∀ (n241 : Nat), ∀ (a244 : Int) (M245 : mm_M), (0 ≤ a244 ∧ a244 ≤ 40 ∧ (b01 (LKP M245 gp (rwX M0 gp 12)) = 1) ∧ (b01 (FRQ M245 (rwX M0 gp 12) (-1) (((rwX M0 gp 12) 27).toInt + (-1))) = 1) ∧ (b01 (APX M245 gp) = 1) ∧ (b01 (TRL M0 M245 2 (rwX M0 gp 12) a244) = 1) ∧ (a244 ≤ a223) ∧ (40 - a244) < (n241 : Int)) → INV pr Kz M245 → FX [52, 54, 56, 58, 81, 82, 83, 84, 85, 86, 88, 89, 90, 91] M0 M245 → jj p l e (cn_R 6) s m args below meth c 0 0 Q 6 dC dI ad cA A M245 68 [(0, .ref (ad 0)), (1, .int (sI 2)), (4, .int (sI a223)), (5, .int (sI a244))] [] := by
          intro n241
          induction n241 with
          | zero =>
            intro a244 M245 h246 hM245 fM245
            exfalso; omega
          | succ n241 ih242 =>
            intro a244 M245 h246 hM245 fM245
            have u247e := lkp_e (M := M245) (p := gp) (f := (rwX M0 gp 12)) (by omega)
            have e88M245 : gp = M245.2.2 88 9 := u247e.1.1.symm
            have u247q : (M245.1 55 2).toInt = (M0.1 55 2).toInt := congrArg Int32.toInt (congrFun (b01_e (P := TRL M0 M245 2 (rwX M0 gp 12) a244) (by omega)).2.1 2)
            refine j_iload C 3 dX11_lists_68 rfl ?_
            refine j_iload C 2 dX11_lists_70 rfl ?_
            refine y_icmp_ge C 102 dX11_lists_72 (by decide) (by omega) (fun h248 => ?_) (fun h248 => ?_)
            · refine j_iload C 2 dX11_lists_102 rfl ?_
              have u262s := lsA_s (ntX M0 a1) (enF (rwX M0 gp 12) (-1)) (tsX M0 a1)
              have u262k : b01 (TRL M0 M245 a1 (rwX M0 gp 12) a223) = 1 := by rw [show a1 = 2 by omega, show a223 = a244 by omega]; omega
              exact hret _ _ _ _ dX11_lists_104 ⟨a223, rfl, hM245, (FX.rf.tr fM245 (by decide)), by omega⟩
            · refine j_aload_n C 0 0 dX11_lists_75 rfl rfl ?_
              refine y_getC C 10 50 fX11_lists_52 rfl rfl ft_10_9 sm_10_9 rfl hM245 dX11_lists_76 ?_
              refine j_iload_n C 1 1 dX11_lists_79 rfl rfl ?_
              refine y_aaldK C 28 4 9 55 rfl rfl rfl rfl an_28 rfl sma_28 sta_28 (by decide) hM245 dX11_lists_80 (by omega) rfl ?_
              refine j_iload C 3 dX11_lists_81 rfl ?_
              refine j_aload_n C 0 0 dX11_lists_83 rfl rfl ?_
              refine y_getC C 10 88 fX11_lists_94 rfl rfl ft_10_14 sm_10_14 rfl hM245 dX11_lists_84 ?_
              refine j_iload C 3 dX11_lists_87 rfl ?_
              refine j_callVi C (d := 2) (As := [.int (sI a244)]) (st := [.int (sI a244), .ref (ad 55)]) 88 (s_lt rfl rfl) (s_kc (c := 4) rfl rfl) (by decide) rfl (s2_X5_comerAt hM245 a244 (by omega) gp cgp (e88M245) (rwX M0 gp 12) (by omega) (by omega) (by omega) (by omega) (by omega)) gX11_lists_X5_comerAt rfl hdX5_comerAt (by decide) (Nat.le_of_ble_eq_true rfl) dX11_lists_89 rfl (fun r250 M251 h252 => ?_)
              obtain ⟨a254, rfl, rfl, h253⟩ := h252
              obtain rfl : a254 = (roB (rwX M0 gp 12) (enF (rwX M0 gp 12) (-1)) (a244).toNat) := by omega
              refine y_i2l C dX11_lists_92 (by omega) ?_
              refine j_callVv C (d := 1) (As := [.int (sI a244), .long (sJ (roB (rwX M0 gp 12) (enF (rwX M0 gp 12) (-1)) (a244).toNat))]) (st := []) 55 (s_lt rfl rfl) (s_kc (c := 9) rfl rfl) (by decide) rfl (s5_X10_put hM245 hpr a244 (by omega) (roB (rwX M0 gp 12) (enF (rwX M0 gp 12) (-1)) (a244).toNat) (by omega)) gX11_lists_X10_put rfl hdX10_put (by decide) (Nat.le_of_ble_eq_true rfl) dX11_lists_93 rfl (fun M257 h258 => ?_)
              obtain ⟨hM257, fM257, h259⟩ := h258
              refine y_iinc C 3 [(5, .int (sI (a244 + 1))), (0, .ref (ad 0)), (1, .int (sI 2)), (4, .int (sI a223))] dX11_lists_96 rfl (by decide) rfl ?_
              refine j_goto C 68 dX11_lists_99 (by decide) ?_
              have u260l := lkp_c (M := M245) (N := M257) (p := gp) (f := (rwX M0 gp 12)) (by omega) fM257 cgp (by decide)
              have u260r := fr_c (M := M245) (N := M257) (f := (rwX M0 gp 12)) (a := -1) (s := ((rwX M0 gp 12) 27).toInt + (-1)) (by omega) fM257 (by decide)
              have u260A7 := hM245.rd (i := gp) (c := 6) (k := 7) cgp (show s_b 6 7 = (0, 900) from rfl)
              have u260A9 := hM245.rd (i := gp) (c := 6) (k := 9) cgp (show s_b 6 9 = (0, 900) from rfl)
              have u260A := apx_o (M := M245) (N := M257) (p := gp) (ple_f (p := gp) ((FX.rf.tr fM257 (by decide)) : FX [56] M245 M257) cgp (by decide)) (((FX.rf.tr fM257 (by decide)) : FX [56] M245 M257).cell (by decide)) (((FX.rf.tr fM257 (by decide)) : FX [56] M245 M257).cell (by decide)) (((FX.rf.tr fM257 (by decide)) : FX [56] M245 M257).cell (by decide)) u260A7.1 u260A9.1 (by omega)
              have u260e : M257.2.1 56 = uJ (M245.2.1 56) (a244).toNat (ctF (roB (rwX M0 gp 12) (enF (rwX M0 gp 12) (-1)) (a244).toNat) (M245.1 55 1).toInt) := b01_e (by omega)
              have u260t := trl_s (M := M0) (B := M245) (N := M257) (f := (rwX M0 gp 12)) (c := 2) (t := 2) (n := a244) (n' := a244 + 1) (v := (roB (rwX M0 gp 12) (enF (rwX M0 gp 12) (-1)) (a244).toNat)) (by omega) fM257 (by decide) (by decide) (by decide) u260e (by omega) (by omega)
              refine j_lv [1, 2, 3, 0] rfl ?_; exact ih242 (a244 + 1) M257 (by omega) hM257 ((FX.rf.tr fM245 (by decide)).tr fM257 (by decide))
        refine j_lv [4, 5, 1, 0] rfl ?_; exact L243 2010 0 M116 (by omega) hM116 ((FX.rf.tr fM111 (by decide)).tr fM116 (by decide))
      · rw [h121]
        refine y_aaldK C 28 4 9 57 rfl rfl rfl rfl an_28 rfl sma_28 sta_28 (by decide) hM116 dX11_lists_56 (by omega) rfl ?_
        have u264t : tsX M0 a1 = (M0.1 57 2).toInt := by rw [show a1 = 3 by omega]; rfl
        have u264c : (M116.1 57 2).toInt = (M0.1 57 2).toInt := by rw [(((FX.rf.tr fM111 (by decide)).tr fM116 (by decide)) : FX [81, 82, 83, 84, 85, 86, 88, 89, 90, 91] M0 M116).cell (by decide)]
        have u264b := hM0.rd (i := 57) (c := 9) (k := 2) rfl (show s_b 9 2 = (-1, 40) from rfl)
        refine j_callVi C (d := 1) (As := []) (st := [.int (sI a119)]) 57 (s_lt rfl rfl) (s_kc (c := 9) rfl rfl) (by decide) rfl (s6_X10_size hM116) gX11_lists_X10_size rfl hdX10_size (by decide) (Nat.le_of_ble_eq_true rfl) dX11_lists_57 rfl (fun r265 M266 h267 => ?_)
        obtain ⟨a269, rfl, rfl, h268⟩ := h267
        refine y_mmin C wX11_lists_246_0 wX11_lists_246_1 wX11_lists_246_2 wX11_lists_246_3 (by decide) (Nat.le_of_ble_eq_true rfl) dX11_lists_60 (by omega) (fun a270 ha270 => ?_)
        refine j_istore C 4 [(4, .int (sI a270)), (3, .int (sI a119)), (2, .int (sI a105)), (0, .ref (ad 0)), (1, .int (sI 3))] dX11_lists_63 (by decide) rfl ?_
        refine y_iconst C dX11_lists_65 ?_
        refine j_istore C 5 [(5, .int (sI 0)), (4, .int (sI a270)), (3, .int (sI a119)), (2, .int (sI a105)), (0, .ref (ad 0)), (1, .int (sI 3))] dX11_lists_66 (by decide) rfl ?_
        have u271l := lkp_c (M := M111) (N := M116) (p := gp) (f := (rwX M0 gp 12)) (by omega) ((FX.rf.tr fM116 (by decide)) : FX [91] M111 M116) cgp (by decide)
        have u271t := trl_0 (M := M0) (N := M116) 3 (rwX M0 gp 12) (((FX.rf.tr fM111 (by decide)).tr fM116 (by decide)) : FX [81, 82, 83, 84, 85, 86, 88, 89, 90, 91] M0 M116) (by decide) (by decide)
        have u271A7 := hM111.rd (i := gp) (c := 6) (k := 7) cgp (show s_b 6 7 = (0, 900) from rfl)
        have u271A9 := hM111.rd (i := gp) (c := 6) (k := 9) cgp (show s_b 6 9 = (0, 900) from rfl)
        have u271A := apx_o (M := M111) (N := M116) (p := gp) (ple_f (p := gp) ((FX.rf.tr fM116 (by decide)) : FX [91] M111 M116) cgp (by decide)) (((FX.rf.tr fM116 (by decide)) : FX [91] M111 M116).cell (by decide)) (((FX.rf.tr fM116 (by decide)) : FX [91] M111 M116).cell (by decide)) (((FX.rf.tr fM116 (by decide)) : FX [91] M111 M116).cell (by decide)) u271A7.1 u271A9.1 (by omega)
        have L290 : ∀ (n288 : Nat), ∀ (a291 : Int) (M292 : mm_M), (0 ≤ a291 ∧ a291 ≤ 40 ∧ (b01 (LKP M292 gp (rwX M0 gp 12)) = 1) ∧ (b01 (FRQ M292 (rwX M0 gp 12) (-1) (((rwX M0 gp 12) 27).toInt + (-1))) = 1) ∧ (b01 (APX M292 gp) = 1) ∧ (b01 (TRL M0 M292 3 (rwX M0 gp 12) a291) = 1) ∧ (a291 ≤ a270) ∧ (40 - a291) < (n288 : Int)) → INV pr Kz M292 → FX [52, 54, 56, 58, 81, 82, 83, 84, 85, 86, 88, 89, 90, 91] M0 M292 → jj p l e (cn_R 6) s m args below meth c 0 0 Q 6 dC dI ad cA A M292 68 [(0, .ref (ad 0)), (1, .int (sI 3)), (4, .int (sI a270)), (5, .int (sI a291))] [] := by
          intro n288
          induction n288 with
          | zero =>
            intro a291 M292 h293 hM292 fM292
            exfalso; omega
          | succ n288 ih289 =>
            intro a291 M292 h293 hM292 fM292
            have u294e := lkp_e (M := M292) (p := gp) (f := (rwX M0 gp 12)) (by omega)
            have e88M292 : gp = M292.2.2 88 9 := u294e.1.1.symm
            have u294q : (M292.1 57 2).toInt = (M0.1 57 2).toInt := congrArg Int32.toInt (congrFun (b01_e (P := TRL M0 M292 3 (rwX M0 gp 12) a291) (by omega)).2.1 2)
            refine j_iload C 3 dX11_lists_68 rfl ?_
            refine j_iload C 2 dX11_lists_70 rfl ?_
            refine y_icmp_ge C 102 dX11_lists_72 (by decide) (by omega) (fun h295 => ?_) (fun h295 => ?_)
            · refine j_iload C 2 dX11_lists_102 rfl ?_
              have u309s := lsA_s (ntX M0 a1) (enF (rwX M0 gp 12) (-1)) (tsX M0 a1)
              have u309k : b01 (TRL M0 M292 a1 (rwX M0 gp 12) a270) = 1 := by rw [show a1 = 3 by omega, show a270 = a291 by omega]; omega
              exact hret _ _ _ _ dX11_lists_104 ⟨a270, rfl, hM292, (FX.rf.tr fM292 (by decide)), by omega⟩
            · refine j_aload_n C 0 0 dX11_lists_75 rfl rfl ?_
              refine y_getC C 10 50 fX11_lists_52 rfl rfl ft_10_9 sm_10_9 rfl hM292 dX11_lists_76 ?_
              refine j_iload_n C 1 1 dX11_lists_79 rfl rfl ?_
              refine y_aaldK C 28 4 9 57 rfl rfl rfl rfl an_28 rfl sma_28 sta_28 (by decide) hM292 dX11_lists_80 (by omega) rfl ?_
              refine j_iload C 3 dX11_lists_81 rfl ?_
              refine j_aload_n C 0 0 dX11_lists_83 rfl rfl ?_
              refine y_getC C 10 88 fX11_lists_94 rfl rfl ft_10_14 sm_10_14 rfl hM292 dX11_lists_84 ?_
              refine j_iload C 3 dX11_lists_87 rfl ?_
              refine j_callVi C (d := 2) (As := [.int (sI a291)]) (st := [.int (sI a291), .ref (ad 57)]) 88 (s_lt rfl rfl) (s_kc (c := 4) rfl rfl) (by decide) rfl (s2_X5_comerAt hM292 a291 (by omega) gp cgp (e88M292) (rwX M0 gp 12) (by omega) (by omega) (by omega) (by omega) (by omega)) gX11_lists_X5_comerAt rfl hdX5_comerAt (by decide) (Nat.le_of_ble_eq_true rfl) dX11_lists_89 rfl (fun r297 M298 h299 => ?_)
              obtain ⟨a301, rfl, rfl, h300⟩ := h299
              obtain rfl : a301 = (roB (rwX M0 gp 12) (enF (rwX M0 gp 12) (-1)) (a291).toNat) := by omega
              refine y_i2l C dX11_lists_92 (by omega) ?_
              refine j_callVv C (d := 1) (As := [.int (sI a291), .long (sJ (roB (rwX M0 gp 12) (enF (rwX M0 gp 12) (-1)) (a291).toNat))]) (st := []) 57 (s_lt rfl rfl) (s_kc (c := 9) rfl rfl) (by decide) rfl (s6_X10_put hM292 hpr a291 (by omega) (roB (rwX M0 gp 12) (enF (rwX M0 gp 12) (-1)) (a291).toNat) (by omega)) gX11_lists_X10_put rfl hdX10_put (by decide) (Nat.le_of_ble_eq_true rfl) dX11_lists_93 rfl (fun M304 h305 => ?_)
              obtain ⟨hM304, fM304, h306⟩ := h305
              refine y_iinc C 3 [(5, .int (sI (a291 + 1))), (0, .ref (ad 0)), (1, .int (sI 3)), (4, .int (sI a270))] dX11_lists_96 rfl (by decide) rfl ?_
              refine j_goto C 68 dX11_lists_99 (by decide) ?_
              have u307l := lkp_c (M := M292) (N := M304) (p := gp) (f := (rwX M0 gp 12)) (by omega) fM304 cgp (by decide)
              have u307r := fr_c (M := M292) (N := M304) (f := (rwX M0 gp 12)) (a := -1) (s := ((rwX M0 gp 12) 27).toInt + (-1)) (by omega) fM304 (by decide)
              have u307A7 := hM292.rd (i := gp) (c := 6) (k := 7) cgp (show s_b 6 7 = (0, 900) from rfl)
              have u307A9 := hM292.rd (i := gp) (c := 6) (k := 9) cgp (show s_b 6 9 = (0, 900) from rfl)
              have u307A := apx_o (M := M292) (N := M304) (p := gp) (ple_f (p := gp) ((FX.rf.tr fM304 (by decide)) : FX [58] M292 M304) cgp (by decide)) (((FX.rf.tr fM304 (by decide)) : FX [58] M292 M304).cell (by decide)) (((FX.rf.tr fM304 (by decide)) : FX [58] M292 M304).cell (by decide)) (((FX.rf.tr fM304 (by decide)) : FX [58] M292 M304).cell (by decide)) u307A7.1 u307A9.1 (by omega)
              have u307e : M304.2.1 58 = uJ (M292.2.1 58) (a291).toNat (ctF (roB (rwX M0 gp 12) (enF (rwX M0 gp 12) (-1)) (a291).toNat) (M292.1 57 1).toInt) := b01_e (by omega)
              have u307t := trl_s (M := M0) (B := M292) (N := M304) (f := (rwX M0 gp 12)) (c := 3) (t := 3) (n := a291) (n' := a291 + 1) (v := (roB (rwX M0 gp 12) (enF (rwX M0 gp 12) (-1)) (a291).toNat)) (by omega) fM304 (by decide) (by decide) (by decide) u307e (by omega) (by omega)
              refine j_lv [1, 2, 3, 0] rfl ?_; exact ih289 (a291 + 1) M304 (by omega) hM304 ((FX.rf.tr fM292 (by decide)).tr fM304 (by decide))
        refine j_lv [4, 5, 1, 0] rfl ?_; exact L290 2010 0 M116 (by omega) hM116 ((FX.rf.tr fM111 (by decide)).tr fM116 (by decide))
    · refine y_bipush C dX11_lists_47 rfl ?_
      have u310s := lsA_s (ntX M0 a1) (enF (rwX M0 gp 12) (-1)) (tsX M0 a1)
      have u310k := trs_f (((FX.rf.tr fM111 (by decide)).tr fM116 (by decide)) : FX [81, 82, 83, 84, 85, 86, 88, 89, 90, 91] M0 M116) (by decide)
      have u310A7 := hM111.rd (i := gp) (c := 6) (k := 7) cgp (show s_b 6 7 = (0, 900) from rfl)
      have u310A9 := hM111.rd (i := gp) (c := 6) (k := 9) cgp (show s_b 6 9 = (0, 900) from rfl)
      have u310A := apx_o (M := M111) (N := M116) (p := gp) (ple_f (p := gp) ((FX.rf.tr fM116 (by decide)) : FX [91] M111 M116) cgp (by decide)) (((FX.rf.tr fM116 (by decide)) : FX [91] M111 M116).cell (by decide)) (((FX.rf.tr fM116 (by decide)) : FX [91] M111 M116).cell (by decide)) (((FX.rf.tr fM116 (by decide)) : FX [91] M111 M116).cell (by decide)) u310A7.1 u310A9.1 (by omega)
      exact hret _ _ _ _ dX11_lists_49 ⟨(-5), rfl, hM116, ((FX.rf.tr fM111 (by decide)).tr fM116 (by decide)), by omega⟩
  · refine j_iload_n C 0 2 dX11_lists_10 rfl rfl ?_
    have u311s := lsA_s (ntX M0 a1) (enF (rwX M0 gp 12) (-1)) (tsX M0 a1)
    have u311k := trs_r M0
    exact hret _ _ _ _ dX11_lists_11 ⟨a105, rfl, hM0, FX.rf, by omega⟩
