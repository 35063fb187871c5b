section
set_option maxHeartbeats 4000000 in
theorem s2_X11_ending {l : Launch} {dC : Nat → ClassId} {dI : Nat → Nat → Nat} {ad : Nat → Nat} {cA : Nat → ClassId} {pr : Nat → Nat → Bool} {Kz : mm_M} {M0 : mm_M} (hM0 : INV pr Kz M0) (hpr : PX pr) (gp : Nat) (cgp : s_c gp = 6) (egp : gp = M0.2.2 0 4) (hp0 : b01 (APX M0 gp) = 1) (hp1 : b01 (LAW M0 gp) = 1) (hp2 : b01 (PRR (rwX M0 gp 12)) = 1) (hp3 : (M0.1 12 3).toInt < pw2 (M0.1 12 0).toInt) : Ci l 6 yX11_ending wsX11_ending dC dI ad cA [.ref (ad 0)] M0 (fun r M' => ∃ a : Int, r = sI a ∧ INV pr Kz M' ∧ FX [81, 82, 83, 84, 85, 86, 88, 89, 90, 91] M0 M' ∧ (-1) ≤ a ∧ a ≤ 8 ∧ (a = enF (rwX M0 gp 12) (-1)) ∧ (b01 (APX M' gp) = 1)) := by
  refine ci_of (cc := cX11_ending) (maxL := 1) (ty := .int) (lv := [(0, .ref (ad 0))]) (by decide) rfl (fun r M' hp => rfl) (Nat.le_of_ble_eq_true rfl) rfl ?_
  intro p e s m args below meth c A Q C hret
  refine j_aload_n C 0 0 dX11_ending_0 rfl rfl ?_
  refine y_getC C 10 88 fX11_ending_94 rfl rfl ft_10_14 sm_10_14 rfl hM0 dX11_ending_1 ?_
  refine j_aload_n C 0 0 dX11_ending_4 rfl rfl ?_
  refine y_getV C 10 gp fX11_ending_26 rfl rfl ft_10_4 (egp) dX11_ending_5 ?_
  refine j_aload_n C 0 0 dX11_ending_8 rfl rfl ?_
  refine y_getC C 10 12 fX11_ending_36 rfl rfl ft_10_6 sm_10_6 rfl hM0 dX11_ending_9 ?_
  refine j_aload_n C 0 0 dX11_ending_12 rfl rfl ?_
  refine y_getC C 10 12 fX11_ending_36 rfl rfl ft_10_6 sm_10_6 rfl hM0 dX11_ending_13 ?_
  refine y_getI C 8 _ _ fX11_ending_153 rfl rfl ft_8_4 sb_8_4 hM0 dX11_ending_16 (fun a101 ea101 la101 ua101 => ?_)
  obtain rfl : a101 = (M0.1 12 4).toInt := ea101
  refine j_callVv C (d := 5) (As := [.ref (ad gp), .ref (ad 12), .int (sI (M0.1 12 4).toInt)]) (st := []) 88 (s_lt rfl rfl) (s_kc (c := 4) rfl rfl) (by decide) rfl (s2_X5_look hM0 hpr cgp (M0.1 12 4).toInt (by omega) (by exact hp0) (by exact hp1) (by exact hp2) (by exact hp3) (by exact ⟨la101, ua101⟩)) gX11_ending_X5_look rfl hdX5_look (by decide) (Nat.le_of_ble_eq_true rfl) dX11_ending_19 rfl (fun M104 h105 => ?_)
  obtain ⟨hM104, fM104, h106⟩ := h105
  have e88M104 : gp = M104.2.2 88 9 := by exact h106.2.2.symm
  have u107l : b01 (LKP M104 gp (rwX M0 gp 12)) = 1 := by rw [← se_id M0 gp 12]; exact h106.1
  have u107e := lkp_e (M := M104) (p := gp) (f := (rwX M0 gp 12)) u107l
  have u107n := en_8 (f := (rwX M0 gp 12)) (-1) (by exact ⟨u107e.2.1.1.1, u107e.2.1.1.2⟩) (by exact ⟨u107e.2.1.2.1.1, (by (clear u107l e88M104 h106 fM104 hM104 ua101 la101 hret C hp3 hp2 hp1 hp0 egp cgp hpr hM0; omega))⟩)
  have u107a := tn_a (M := M104) (p := gp) (f := (rwX M0 gp 12)) (by exact h106.2.1)
  refine j_aload_n C 0 0 dX11_ending_22 rfl rfl ?_
  refine y_getC C 10 88 fX11_ending_94 rfl rfl ft_10_14 sm_10_14 rfl hM104 dX11_ending_23 ?_
  refine j_callVi C (d := 3) (As := []) (st := []) 88 (s_lt rfl rfl) (s_kc (c := 4) rfl rfl) (by decide) rfl (s2_X5_shortest hM104 hpr gp cgp (e88M104) (rwX M0 gp 12) (by exact u107l)) gX11_ending_X5_shortest rfl hdX5_shortest (by decide) (Nat.le_of_ble_eq_true rfl) dX11_ending_26 rfl (fun r108 M109 h110 => ?_)
  obtain ⟨a112, rfl, hM109, fM109, h111⟩ := h110
  have u113A7 := hM104.rd (i := gp) (c := 6) (k := 7) cgp (show s_b 6 7 = (0, 900) from rfl)
  have u113A9 := hM104.rd (i := gp) (c := 6) (k := 9) cgp (show s_b 6 9 = (0, 900) from rfl)
  have u113A := apx_o (M := M104) (N := M109) (p := gp) (ple_f (p := gp) ((FX.rf.tr fM109 (by decide)) : FX [91] M104 M109) cgp (by decide)) (((FX.rf.tr fM109 (by decide)) : FX [91] M104 M109).cell (by decide)) (((FX.rf.tr fM109 (by decide)) : FX [91] M104 M109).cell (by decide)) (((FX.rf.tr fM109 (by decide)) : FX [91] M104 M109).cell (by decide)) u113A7.1 u113A9.1 (by exact u107a)
  exact hret _ _ _ _ dX11_ending_29 ⟨a112, rfl, hM109, ((FX.rf.tr fM104 (by decide)).tr fM109 (by decide)), by exact ⟨h111.1, ⟨(by (clear u113A9 u113A7 fM109 hM109 u107a u107e u107l e88M104 h106 fM104 hM104 ua101 la101 hret C hp3 hp2 hp1 hp0 egp cgp hpr hM0; omega)), ⟨h111.2.2.1, u113A⟩⟩⟩⟩
set_option maxHeartbeats 4000000 in
theorem s2_X11_endingBy {l : Launch} {dC : Nat → ClassId} {dI : Nat → Nat → Nat} {ad : Nat → Nat} {cA : Nat → ClassId} {pr : Nat → Nat → Bool} {Kz : mm_M} {M0 : mm_M} (hM0 : INV pr Kz M0) (hpr : PX pr) (a1 : Int) (ha1 : -2147483648 ≤ a1 ∧ a1 ≤ 2147483647) (gp : Nat) (cgp : s_c gp = 6) (egp : gp = M0.2.2 0 4) (hp0 : b01 (APX M0 gp) = 1) (hp1 : b01 (LAW M0 gp) = 1) (hp2 : b01 (PRR (rwX M0 gp 12)) = 1) (hp3 : (M0.1 12 3).toInt < pw2 (M0.1 12 0).toInt) : Ci l 6 yX11_endingBy wsX11_endingBy dC dI ad cA [.ref (ad 0), .int (sI a1)] M0 (fun r M' => ∃ a : Int, r = sI a ∧ INV pr Kz M' ∧ FX [81, 82, 83, 84, 85, 86, 88, 89, 90, 91] M0 M' ∧ (-3) ≤ a ∧ a ≤ 5 ∧ (a = ebA (rwX M0 gp 12) a1) ∧ (b01 (APX M' gp) = 1)) := by
  refine ci_of (cc := cX11_endingBy) (maxL := 2) (ty := .int) (lv := [(0, .ref (ad 0)), (1, .int (sI a1))]) (by decide) rfl (fun r M' hp => rfl) (Nat.le_of_ble_eq_true rfl) rfl ?_
  intro p e s m args below meth c A Q C hret
  refine j_iload_n C 1 1 dX11_endingBy_0 rfl rfl ?_
  refine y_if_ge C 7 dX11_endingBy_1 (by decide) (by exact ⟨ha1.1, ha1.2⟩) (fun h101 => ?_) (fun h101 => ?_)
  · refine j_aload_n C 0 0 dX11_endingBy_7 rfl rfl ?_
    refine y_getC C 10 88 fX11_endingBy_94 rfl rfl ft_10_14 sm_10_14 rfl hM0 dX11_endingBy_8 ?_
    refine j_aload_n C 0 0 dX11_endingBy_11 rfl rfl ?_
    refine y_getV C 10 gp fX11_endingBy_26 rfl rfl ft_10_4 (egp) dX11_endingBy_12 ?_
    refine j_aload_n C 0 0 dX11_endingBy_15 rfl rfl ?_
    refine y_getC C 10 12 fX11_endingBy_36 rfl rfl ft_10_6 sm_10_6 rfl hM0 dX11_endingBy_16 ?_
    refine j_aload_n C 0 0 dX11_endingBy_19 rfl rfl ?_
    refine y_getC C 10 12 fX11_endingBy_36 rfl rfl ft_10_6 sm_10_6 rfl hM0 dX11_endingBy_20 ?_
    refine y_getI C 8 _ _ fX11_endingBy_153 rfl rfl ft_8_4 sb_8_4 hM0 dX11_endingBy_23 (fun a102 ea102 la102 ua102 => ?_)
    obtain rfl : a102 = (M0.1 12 4).toInt := ea102
    refine j_callVv C (d := 5) (As := [.ref (ad gp), .ref (ad 12), .int (sI (M0.1 12 4).toInt)]) (st := []) 88 (s_lt rfl rfl) (s_kc (c := 4) rfl rfl) (by decide) rfl (s2_X5_look hM0 hpr cgp (M0.1 12 4).toInt (by omega) (by exact hp0) (by exact hp1) (by exact hp2) (by exact hp3) (by exact ⟨la102, ua102⟩)) gX11_endingBy_X5_look rfl hdX5_look (by decide) (Nat.le_of_ble_eq_true rfl) dX11_endingBy_26 rfl (fun M105 h106 => ?_)
    obtain ⟨hM105, fM105, h107⟩ := h106
    have e88M105 : gp = M105.2.2 88 9 := by exact h107.2.2.symm
    have u108l : b01 (LKP M105 gp (rwX M0 gp 12)) = 1 := by rw [← se_id M0 gp 12]; exact h107.1
    have u108e := lkp_e (M := M105) (p := gp) (f := (rwX M0 gp 12)) u108l
    have u108n := en_8 (f := (rwX M0 gp 12)) (-1) (by exact ⟨u108e.2.1.1.1, u108e.2.1.1.2⟩) (by exact ⟨u108e.2.1.2.1.1, (by (clear u108l e88M105 h107 fM105 hM105 ua102 la102 h101 hret C hp3 hp2 hp1 hp0 egp cgp ha1 hpr hM0; omega))⟩)
    have u108a := tn_a (M := M105) (p := gp) (f := (rwX M0 gp 12)) (by exact h107.2.1)
    refine j_iload_n C 1 1 dX11_endingBy_29 rfl rfl ?_
    refine j_aload_n C 0 0 dX11_endingBy_30 rfl rfl ?_
    refine y_getC C 10 88 fX11_endingBy_94 rfl rfl ft_10_14 sm_10_14 rfl hM105 dX11_endingBy_31 ?_
    refine j_callVi C (d := 3) (As := []) (st := [.int (sI a1)]) 88 (s_lt rfl rfl) (s_kc (c := 4) rfl rfl) (by decide) rfl (s2_X5_shortest hM105 hpr gp cgp (e88M105) (rwX M0 gp 12) (by exact u108l)) gX11_endingBy_X5_shortest rfl hdX5_shortest (by decide) (Nat.le_of_ble_eq_true rfl) dX11_endingBy_34 rfl (fun r109 M110 h111 => ?_)
    obtain ⟨a113, rfl, hM110, fM110, h112⟩ := h111
    refine y_icmp_ge C 51 dX11_endingBy_37 (by decide) (by exact ⟨⟨ha1.1, ha1.2⟩, ⟨(by (clear fM110 hM110 u108a u108e u108l e88M105 h107 fM105 hM105 ua102 la102 hret C hp3 hp2 hp1 hp0 egp cgp hpr hM0; omega)), (by (clear fM110 hM110 u108a u108e u108l e88M105 h107 fM105 hM105 ua102 la102 hret C hp3 hp2 hp1 hp0 egp cgp hpr hM0; omega))⟩⟩) (fun h114 => ?_) (fun h114 => ?_)
    · refine y_iconst C dX11_endingBy_51 ?_
      have u115s := ebA_s (rwX M0 gp 12) a1
      have u115A7 := hM105.rd (i := gp) (c := 6) (k := 7) cgp (show s_b 6 7 = (0, 900) from rfl)
      have u115A9 := hM105.rd (i := gp) (c := 6) (k := 9) cgp (show s_b 6 9 = (0, 900) from rfl)
      have u115A := apx_o (M := M105) (N := M110) (p := gp) (ple_f (p := gp) ((FX.rf.tr fM110 (by decide)) : FX [91] M105 M110) cgp (by decide)) (((FX.rf.tr fM110 (by decide)) : FX [91] M105 M110).cell (by decide)) (((FX.rf.tr fM110 (by decide)) : FX [91] M105 M110).cell (by decide)) (((FX.rf.tr fM110 (by decide)) : FX [91] M105 M110).cell (by decide)) u115A7.1 u115A9.1 (by exact u108a)
      exact hret _ _ _ _ dX11_endingBy_52 ⟨(-1), rfl, hM110, ((FX.rf.tr fM105 (by decide)).tr fM110 (by decide)), by exact ⟨(by decide), ⟨(by decide), ⟨(by (clear u115A9 u115A7 fM110 hM110 u108a u108n u108e u108l e88M105 h107 fM105 hM105 ua102 la102 hret C hp3 hp2 hp1 hp0 egp cgp hpr hM0; omega)), u115A⟩⟩⟩⟩
    · refine j_aload_n C 0 0 dX11_endingBy_40 rfl rfl ?_
      refine y_getC C 10 88 fX11_endingBy_94 rfl rfl ft_10_14 sm_10_14 rfl hM110 dX11_endingBy_41 ?_
      refine j_iload_n C 1 1 dX11_endingBy_44 rfl rfl ?_
      have u116l := lkp_c (M := M105) (N := M110) (p := gp) (f := (rwX M0 gp 12)) (by exact u108l) ((FX.rf.tr fM110 (by decide)) : FX [91] M105 M110) cgp (by decide)
      refine j_callVi C (d := 2) (As := [.int (sI a1)]) (st := []) 88 (s_lt rfl rfl) (s_kc (c := 4) rfl rfl) (by decide) rfl (s2_X5_comerAt hM110 a1 (by exact ⟨ha1.1, ha1.2⟩) gp cgp (s_pX fM110 (e88M105)) (rwX M0 gp 12) (by exact u116l) (by exact h112.2.2.2) (by (clear u116l fM110 hM110 u108a u108n u108e u108l e88M105 h107 fM105 hM105 ua102 la102 h101 hret C hp3 hp2 hp1 hp0 egp cgp ha1 hpr hM0; omega)) (by exact u108n.2) (by exact ⟨h101, (by (clear u116l fM110 hM110 u108a u108e u108l e88M105 h107 fM105 hM105 ua102 la102 hret C hp3 hp2 hp1 hp0 egp cgp hpr hM0; omega))⟩)) gX11_endingBy_X5_comerAt rfl hdX5_comerAt (by decide) (Nat.le_of_ble_eq_true rfl) dX11_endingBy_45 rfl (fun r117 M118 h119 => ?_)
      obtain ⟨a121, rfl, rfl, h120⟩ := h119
      obtain rfl : a121 = (roB (rwX M0 gp 12) (enF (rwX M0 gp 12) (-1)) (a1).toNat) := by exact h120.2.2
      refine j_goto C 52 dX11_endingBy_48 (by decide) ?_
      have u122s := ebA_s (rwX M0 gp 12) a1
      have u122A7 := hM105.rd (i := gp) (c := 6) (k := 7) cgp (show s_b 6 7 = (0, 900) from rfl)
      have u122A9 := hM105.rd (i := gp) (c := 6) (k := 9) cgp (show s_b 6 9 = (0, 900) from rfl)
      have u122A := apx_o (M := M105) (N := M110) (p := gp) (ple_f (p := gp) ((FX.rf.tr fM110 (by decide)) : FX [91] M105 M110) cgp (by decide)) (((FX.rf.tr fM110 (by decide)) : FX [91] M105 M110).cell (by decide)) (((FX.rf.tr fM110 (by decide)) : FX [91] M105 M110).cell (by decide)) (((FX.rf.tr fM110 (by decide)) : FX [91] M105 M110).cell (by decide)) u122A7.1 u122A9.1 (by exact u108a)
      exact hret _ _ _ _ dX11_endingBy_52 ⟨(roB (rwX M0 gp 12) (enF (rwX M0 gp 12) (-1)) (a1).toNat), rfl, hM110, ((FX.rf.tr fM105 (by decide)).tr fM110 (by decide)), by exact ⟨(by (clear u122A9 u122A7 u116l fM110 hM110 u108a u108n u108e u108l e88M105 h107 fM105 hM105 ua102 la102 hret C hp3 hp2 hp1 hp0 egp cgp hpr hM0; omega)), ⟨h120.2.1, ⟨(by (clear u122A9 u122A7 u116l fM110 hM110 u108a u108n u108e u108l e88M105 h107 fM105 hM105 ua102 la102 hret C hp3 hp2 hp1 hp0 egp cgp hpr hM0; omega)), u122A⟩⟩⟩⟩
  · refine y_bipush C dX11_endingBy_4 rfl ?_
    have u123s := ebA_s (rwX M0 gp 12) a1
    exact hret _ _ _ _ dX11_endingBy_6 ⟨(-3), rfl, hM0, FX.rf, by exact ⟨(by decide), ⟨(by decide), ⟨(by (clear hret C hp3 hp2 hp1 egp cgp hpr hM0; omega)), hp0⟩⟩⟩⟩
set_option maxHeartbeats 4000000 in
theorem s3_X10_size {l : Launch} {dC : Nat → ClassId} {dI : Nat → Nat → Nat} {ad : Nat → Nat} {cA : Nat → ClassId} {pr : Nat → Nat → Bool} {Kz : mm_M} {M0 : mm_M} (hM0 : INV pr Kz M0)  : Ci l 1 yX10_size wsX10_size dC dI ad cA [.ref (ad 51)] M0 (fun r M' => ∃ a : Int, r = sI a ∧ M0 = M' ∧ 0 ≤ a ∧ a ≤ 40 ∧ (0 ≤ (M0.1 51 2).toInt ∧ a = (M0.1 51 2).toInt ∨ (M0.1 51 2).toInt < 0 ∧ a = 0)) := by
  refine ci_of (cc := cX10_size) (maxL := 1) (ty := .int) (lv := [(0, .ref (ad 51))]) (by decide) rfl (fun r M' hp => rfl) (Nat.le_of_ble_eq_true rfl) rfl ?_
  intro p e s m args below meth c A Q C hret
  refine j_aload_n C 0 0 dX10_size_0 rfl rfl ?_
  refine y_getI C 9 _ _ fX10_size_19 rfl rfl ft_9_2 sb_9_2 hM0 dX10_size_1 (fun a101 ea101 la101 ua101 => ?_)
  obtain rfl : a101 = (M0.1 51 2).toInt := ea101
  refine y_iconst C dX10_size_4 ?_
  refine y_mmax C wX10_size_22_0 wX10_size_22_1 wX10_size_22_2 wX10_size_22_3 (by decide) (Nat.le_of_ble_eq_true rfl) dX10_size_5 (by exact ⟨⟨(by omega), (by omega)⟩, ⟨(by decide), (by decide)⟩⟩) (fun a103 ha103 => ?_)
  exact hret _ _ _ _ dX10_size_8 ⟨a103, rfl, rfl, by omega⟩
set_option maxHeartbeats 4000000 in
theorem s4_X10_size {l : Launch} {dC : Nat → ClassId} {dI : Nat → Nat → Nat} {ad : Nat → Nat} {cA : Nat → ClassId} {pr : Nat → Nat → Bool} {Kz : mm_M} {M0 : mm_M} (hM0 : INV pr Kz M0)  : Ci l 1 yX10_size wsX10_size dC dI ad cA [.ref (ad 53)] M0 (fun r M' => ∃ a : Int, r = sI a ∧ M0 = M' ∧ 0 ≤ a ∧ a ≤ 40 ∧ (0 ≤ (M0.1 53 2).toInt ∧ a = (M0.1 53 2).toInt ∨ (M0.1 53 2).toInt < 0 ∧ a = 0)) := by
  refine ci_of (cc := cX10_size) (maxL := 1) (ty := .int) (lv := [(0, .ref (ad 53))]) (by decide) rfl (fun r M' hp => rfl) (Nat.le_of_ble_eq_true rfl) rfl ?_
  intro p e s m args below meth c A Q C hret
  refine j_aload_n C 0 0 dX10_size_0 rfl rfl ?_
  refine y_getI C 9 _ _ fX10_size_19 rfl rfl ft_9_2 sb_9_2 hM0 dX10_size_1 (fun a101 ea101 la101 ua101 => ?_)
  obtain rfl : a101 = (M0.1 53 2).toInt := ea101
  refine y_iconst C dX10_size_4 ?_
  refine y_mmax C wX10_size_22_0 wX10_size_22_1 wX10_size_22_2 wX10_size_22_3 (by decide) (Nat.le_of_ble_eq_true rfl) dX10_size_5 (by exact ⟨⟨(by omega), (by omega)⟩, ⟨(by decide), (by decide)⟩⟩) (fun a103 ha103 => ?_)
  exact hret _ _ _ _ dX10_size_8 ⟨a103, rfl, rfl, by omega⟩
set_option maxHeartbeats 4000000 in
theorem s5_X10_size {l : Launch} {dC : Nat → ClassId} {dI : Nat → Nat → Nat} {ad : Nat → Nat} {cA : Nat → ClassId} {pr : Nat → Nat → Bool} {Kz : mm_M} {M0 : mm_M} (hM0 : INV pr Kz M0)  : Ci l 1 yX10_size wsX10_size dC dI ad cA [.ref (ad 55)] M0 (fun r M' => ∃ a : Int, r = sI a ∧ M0 = M' ∧ 0 ≤ a ∧ a ≤ 40 ∧ (0 ≤ (M0.1 55 2).toInt ∧ a = (M0.1 55 2).toInt ∨ (M0.1 55 2).toInt < 0 ∧ a = 0)) := by
  refine ci_of (cc := cX10_size) (maxL := 1) (ty := .int) (lv := [(0, .ref (ad 55))]) (by decide) rfl (fun r M' hp => rfl) (Nat.le_of_ble_eq_true rfl) rfl ?_
  intro p e s m args below meth c A Q C hret
  refine j_aload_n C 0 0 dX10_size_0 rfl rfl ?_
  refine y_getI C 9 _ _ fX10_size_19 rfl rfl ft_9_2 sb_9_2 hM0 dX10_size_1 (fun a101 ea101 la101 ua101 => ?_)
  obtain rfl : a101 = (M0.1 55 2).toInt := ea101
  refine y_iconst C dX10_size_4 ?_
  refine y_mmax C wX10_size_22_0 wX10_size_22_1 wX10_size_22_2 wX10_size_22_3 (by decide) (Nat.le_of_ble_eq_true rfl) dX10_size_5 (by exact ⟨⟨(by omega), (by omega)⟩, ⟨(by decide), (by decide)⟩⟩) (fun a103 ha103 => ?_)
  exact hret _ _ _ _ dX10_size_8 ⟨a103, rfl, rfl, by omega⟩
set_option maxHeartbeats 4000000 in
theorem s6_X10_size {l : Launch} {dC : Nat → ClassId} {dI : Nat → Nat → Nat} {ad : Nat → Nat} {cA : Nat → ClassId} {pr : Nat → Nat → Bool} {Kz : mm_M} {M0 : mm_M} (hM0 : INV pr Kz M0)  : Ci l 1 yX10_size wsX10_size dC dI ad cA [.ref (ad 57)] M0 (fun r M' => ∃ a : Int, r = sI a ∧ M0 = M' ∧ 0 ≤ a ∧ a ≤ 40 ∧ (0 ≤ (M0.1 57 2).toInt ∧ a = (M0.1 57 2).toInt ∨ (M0.1 57 2).toInt < 0 ∧ a = 0)) := by
  refine ci_of (cc := cX10_size) (maxL := 1) (ty := .int) (lv := [(0, .ref (ad 57))]) (by decide) rfl (fun r M' hp => rfl) (Nat.le_of_ble_eq_true rfl) rfl ?_
  intro p e s m args below meth c A Q C hret
  refine j_aload_n C 0 0 dX10_size_0 rfl rfl ?_
  refine y_getI C 9 _ _ fX10_size_19 rfl rfl ft_9_2 sb_9_2 hM0 dX10_size_1 (fun a101 ea101 la101 ua101 => ?_)
  obtain rfl : a101 = (M0.1 57 2).toInt := ea101
  refine y_iconst C dX10_size_4 ?_
  refine y_mmax C wX10_size_22_0 wX10_size_22_1 wX10_size_22_2 wX10_size_22_3 (by decide) (Nat.le_of_ble_eq_true rfl) dX10_size_5 (by exact ⟨⟨(by omega), (by omega)⟩, ⟨(by decide), (by decide)⟩⟩) (fun a103 ha103 => ?_)
  exact hret _ _ _ _ dX10_size_8 ⟨a103, rfl, rfl, by omega⟩
set_option maxHeartbeats 4000000 in
theorem s2_X11_lists {l : Launch} {dC : Nat → ClassId} {dI : Nat → Nat → Nat} {ad : Nat → Nat} {cA : Nat → ClassId} {pr : Nat → Nat → Bool} {Kz : mm_M} {M0 : mm_M} (hM0 : INV pr Kz M0) (hpr : PX pr) (a1 : Int) (ha1 : -2147483648 ≤ a1 ∧ a1 ≤ 2147483647) (gp : Nat) (cgp : s_c gp = 6) (egp : gp = M0.2.2 0 4) (hp0 : b01 (APX M0 gp) = 1) (hp1 : b01 (LAW M0 gp) = 1) (hp2 : b01 (PRR (rwX M0 gp 12)) = 1) (hp3 : (M0.1 12 3).toInt < pw2 (M0.1 12 0).toInt) : Ci l 6 yX11_lists wsX11_lists dC dI ad cA [.ref (ad 0), .int (sI a1)] M0 (fun r M' => ∃ a : Int, r = sI a ∧ INV pr Kz M' ∧ FX [52, 54, 56, 58, 81, 82, 83, 84, 85, 86, 88, 89, 90, 91] M0 M' ∧ (-6) ≤ a ∧ a ≤ 40 ∧ (a = lsA (ntX M0 a1) (enF (rwX M0 gp 12) (-1)) (tsX M0 a1)) ∧ (a < 0 ∧ b01 (TRS M0 M') = 1 ∨ 0 ≤ a ∧ b01 (TRL M0 M' a1 (rwX M0 gp 12) a) = 1) ∧ (b01 (APX M' gp) = 1)) := by
  refine ci_of (cc := cX11_lists) (maxL := 6) (ty := .int) (lv := [(0, .ref (ad 0)), (1, .int (sI a1))]) (by decide) rfl (fun r M' hp => rfl) (Nat.le_of_ble_eq_true rfl) rfl ?_
  intro p e s m args below meth c A Q C hret
  refine j_aload_n C 0 0 dX11_lists_0 rfl rfl ?_
  refine j_iload_n C 1 1 dX11_lists_1 rfl rfl ?_
  refine j_callVi C (d := 1) (As := [.int (sI a1)]) (st := []) 0 (s_lt rfl rfl) (s_kc (c := 10) rfl rfl) (by decide) rfl (s3_X11_trayRefusal hM0 a1 (by exact ⟨ha1.1, ha1.2⟩)) gX11_lists_X11_trayRefusal rfl hdX11_trayRefusal (by decide) (Nat.le_of_ble_eq_true rfl) dX11_lists_2 rfl (fun r101 M102 h103 => ?_)
  obtain ⟨a105, rfl, rfl, h104⟩ := h103
  have u106t := ntX_s M0 a1
  have u106z : tsX M0 a1 = (M0.1 (s_p0 50 (a1).toNat) 2).toInt := rfl
  refine j_istore_n C 2 [(2, .int (sI a105)), (0, .ref (ad 0)), (1, .int (sI a1))] dX11_lists_5 rfl (by decide) rfl ?_
  refine j_iload_n C 0 2 dX11_lists_6 rfl rfl ?_
  refine y_if_eq C 12 dX11_lists_7 (by decide) (by (clear u106z u106t hret C hp3 hp2 hp1 hp0 egp cgp ha1 hpr hM0; omega)) (fun h107 => ?_) (fun h107 => ?_)
  · refine j_aload_n C 1 0 dX11_lists_12 rfl rfl ?_
    refine y_getC C 10 88 fX11_lists_94 rfl rfl ft_10_14 sm_10_14 rfl hM0 dX11_lists_13 ?_
    refine j_aload_n C 1 0 dX11_lists_16 rfl rfl ?_
    refine y_getV C 10 gp fX11_lists_26 rfl rfl ft_10_4 (egp) dX11_lists_17 ?_
    refine j_aload_n C 1 0 dX11_lists_20 rfl rfl ?_
    refine y_getC C 10 12 fX11_lists_36 rfl rfl ft_10_6 sm_10_6 rfl hM0 dX11_lists_21 ?_
    refine j_aload_n C 1 0 dX11_lists_24 rfl rfl ?_
    refine y_getC C 10 12 fX11_lists_36 rfl rfl ft_10_6 sm_10_6 rfl hM0 dX11_lists_25 ?_
    refine y_getI C 8 _ _ fX11_lists_153 rfl rfl ft_8_4 sb_8_4 hM0 dX11_lists_28 (fun a108 ea108 la108 ua108 => ?_)
    obtain rfl : a108 = (M0.1 12 4).toInt := ea108
    refine j_callVv C (d := 5) (As := [.ref (ad gp), .ref (ad 12), .int (sI (M0.1 12 4).toInt)]) (st := []) 88 (s_lt rfl rfl) (s_kc (c := 4) rfl rfl) (by decide) rfl (s2_X5_look hM0 hpr cgp (M0.1 12 4).toInt (by (clear h107 u106z u106t h104 hret C hp3 hp2 hp1 hp0 egp cgp ha1 hpr hM0; omega)) (by exact hp0) (by exact hp1) (by exact hp2) (by exact hp3) (by exact ⟨la108, ua108⟩)) gX11_lists_X5_look rfl hdX5_look (by decide) (Nat.le_of_ble_eq_true rfl) dX11_lists_31 rfl (fun M111 h112 => ?_)
    obtain ⟨hM111, fM111, h113⟩ := h112
    have e88M111 : gp = M111.2.2 88 9 := by exact h113.2.2.symm
    have u114l : b01 (LKP M111 gp (rwX M0 gp 12)) = 1 := by rw [← se_id M0 gp 12]; exact h113.1
    have u114e := lkp_e (M := M111) (p := gp) (f := (rwX M0 gp 12)) u114l
    have u114n := en_8 (f := (rwX M0 gp 12)) (-1) (by exact ⟨u114e.2.1.1.1, u114e.2.1.1.2⟩) (by exact ⟨u114e.2.1.2.1.1, (by (clear u114l e88M111 h113 fM111 hM111 ua108 la108 h107 u106z u106t h104 hret C hp3 hp2 hp1 hp0 egp cgp ha1 hpr hM0; omega))⟩)
    have u114a := tn_a (M := M111) (p := gp) (f := (rwX M0 gp 12)) (by exact h113.2.1)
    refine j_aload_n C 1 0 dX11_lists_34 rfl rfl ?_
    refine y_getC C 10 88 fX11_lists_94 rfl rfl ft_10_14 sm_10_14 rfl hM111 dX11_lists_35 ?_
    refine j_callVi C (d := 3) (As := []) (st := []) 88 (s_lt rfl rfl) (s_kc (c := 4) rfl rfl) (by decide) rfl (s2_X5_shortest hM111 hpr gp cgp (e88M111) (rwX M0 gp 12) (by exact u114l)) gX11_lists_X5_shortest rfl hdX5_shortest (by decide) (Nat.le_of_ble_eq_true rfl) dX11_lists_38 rfl (fun r115 M116 h117 => ?_)
    obtain ⟨a119, rfl, hM116, fM116, h118⟩ := h117
    refine j_istore_n C 3 [(3, .int (sI a119)), (2, .int (sI a105)), (0, .ref (ad 0)), (1, .int (sI a1))] dX11_lists_41 rfl (by decide) rfl ?_
    refine j_iload_n C 0 3 dX11_lists_42 rfl rfl ?_
    refine y_iconst C dX11_lists_43 ?_
    refine y_icmp_ne C 50 dX11_lists_44 (by decide) (by exact ⟨⟨(by (clear fM116 hM116 u114a u114e u114l e88M111 h113 fM111 hM111 ua108 la108 h107 u106z u106t h104 hret C hp3 hp2 hp1 hp0 egp cgp ha1 hpr hM0; omega)), (by (clear fM116 hM116 u114a u114e u114l e88M111 h113 fM111 hM111 ua108 la108 h107 u106z u106t h104 hret C hp3 hp2 hp1 hp0 egp cgp ha1 hpr hM0; omega))⟩, ⟨(by decide), (by decide)⟩⟩) (fun h120 => ?_) (fun h120 => ?_)
    · refine j_iload_n C 0 3 dX11_lists_50 rfl rfl ?_
      refine j_aload_n C 2 0 dX11_lists_51 rfl rfl ?_
      refine y_getC C 10 50 fX11_lists_52 rfl rfl ft_10_9 sm_10_9 rfl hM116 dX11_lists_52 ?_
      refine j_iload_n C 3 1 dX11_lists_55 rfl rfl ?_
      rcases (show a1 = 0 ∨ a1 = 1 ∨ a1 = 2 ∨ a1 = 3 by (clear fM116 hM116 u114a u114e u114l e88M111 h113 fM111 hM111 ua108 la108 u106z hret C hp3 hp2 hp1 hp0 egp cgp hpr hM0; omega)) with h121 | h121 | h121 | h121
      · rw [h121]
        refine y_aaldK C 28 4 9 51 rfl rfl rfl rfl an_28 rfl sma_28 sta_28 (by decide) hM116 dX11_lists_56 (by exact ⟨(by decide), (by decide)⟩) rfl ?_
        have u123t : tsX M0 a1 = (M0.1 51 2).toInt := by rw [show a1 = 0 by exact h121]; rfl
        have u123c : (M116.1 51 2).toInt = (M0.1 51 2).toInt := by rw [(((FX.rf.tr fM111 (by decide)).tr fM116 (by decide)) : FX [81, 82, 83, 84, 85, 86, 88, 89, 90, 91] M0 M116).cell (by decide)]
        have u123b := hM0.rd (i := 51) (c := 9) (k := 2) rfl (show s_b 9 2 = (-1, 40) from rfl)
        refine j_callVi C (d := 1) (As := []) (st := [.int (sI a119)]) 51 (s_lt rfl rfl) (s_kc (c := 9) rfl rfl) (by decide) rfl (s3_X10_size hM116) gX11_lists_X10_size rfl hdX10_size (by decide) (Nat.le_of_ble_eq_true rfl) dX11_lists_57 rfl (fun r124 M125 h126 => ?_)
        obtain ⟨a128, rfl, rfl, h127⟩ := h126
        refine y_mmin C wX11_lists_246_0 wX11_lists_246_1 wX11_lists_246_2 wX11_lists_246_3 (by decide) (Nat.le_of_ble_eq_true rfl) dX11_lists_60 (by (clear u123b u123c u123t h121 h120 fM116 hM116 u114a u114e u114l e88M111 h113 fM111 hM111 ua108 la108 h107 u106z u106t h104 hret C hp3 hp2 hp1 hp0 egp cgp ha1 hpr hM0; omega)) (fun a129 ha129 => ?_)
        refine j_istore C 4 [(4, .int (sI a129)), (3, .int (sI a119)), (2, .int (sI a105)), (0, .ref (ad 0)), (1, .int (sI 0))] dX11_lists_63 (by decide) rfl ?_
        refine y_iconst C dX11_lists_65 ?_
        refine j_istore C 5 [(5, .int (sI 0)), (4, .int (sI a129)), (3, .int (sI a119)), (2, .int (sI a105)), (0, .ref (ad 0)), (1, .int (sI 0))] dX11_lists_66 (by decide) rfl ?_
        have u130l := lkp_c (M := M111) (N := M116) (p := gp) (f := (rwX M0 gp 12)) (by exact u114l) ((FX.rf.tr fM116 (by decide)) : FX [91] M111 M116) cgp (by decide)
        have u130t := trl_0 (M := M0) (N := M116) 0 (rwX M0 gp 12) (((FX.rf.tr fM111 (by decide)).tr fM116 (by decide)) : FX [81, 82, 83, 84, 85, 86, 88, 89, 90, 91] M0 M116) (by decide) (by decide)
        have u130A7 := hM111.rd (i := gp) (c := 6) (k := 7) cgp (show s_b 6 7 = (0, 900) from rfl)
        have u130A9 := hM111.rd (i := gp) (c := 6) (k := 9) cgp (show s_b 6 9 = (0, 900) from rfl)
        have u130A := apx_o (M := M111) (N := M116) (p := gp) (ple_f (p := gp) ((FX.rf.tr fM116 (by decide)) : FX [91] M111 M116) cgp (by decide)) (((FX.rf.tr fM116 (by decide)) : FX [91] M111 M116).cell (by decide)) (((FX.rf.tr fM116 (by decide)) : FX [91] M111 M116).cell (by decide)) (((FX.rf.tr fM116 (by decide)) : FX [91] M111 M116).cell (by decide)) u130A7.1 u130A9.1 (by exact u114a)
        have L149 : ∀ (n147 : Nat), ∀ (a150 : Int) (M151 : mm_M), (0 ≤ a150 ∧ a150 ≤ 40 ∧ (b01 (LKP M151 gp (rwX M0 gp 12)) = 1) ∧ (b01 (FRQ M151 (rwX M0 gp 12) (-1) (((rwX M0 gp 12) 27).toInt + (-1))) = 1) ∧ (b01 (APX M151 gp) = 1) ∧ (b01 (TRL M0 M151 0 (rwX M0 gp 12) a150) = 1) ∧ (a150 ≤ a129) ∧ (40 - a150) < (n147 : Int)) → INV pr Kz M151 → FX [52, 54, 56, 58, 81, 82, 83, 84, 85, 86, 88, 89, 90, 91] M0 M151 → jj p l e (cn_R 6) s m args below meth c 0 0 Q 6 dC dI ad cA A M151 68 [(0, .ref (ad 0)), (1, .int (sI 0)), (4, .int (sI a129)), (5, .int (sI a150))] [] := by
          intro n147
          induction n147 with
          | zero =>
            intro a150 M151 h152 hM151 fM151
            exfalso; (clear fM151 hM151 u130A u130A9 u130A7 u130t u130l ha129 h127 u123b u123c u123t h121 h120 h118 fM116 hM116 u114a u114n u114e u114l e88M111 h113 fM111 hM111 ua108 la108 h107 u106z u106t h104 hret C hp3 hp2 hp1 hp0 egp cgp ha1 hpr hM0; omega)
          | succ n147 ih148 =>
            intro a150 M151 h152 hM151 fM151
            have u153e := lkp_e (M := M151) (p := gp) (f := (rwX M0 gp 12)) (by exact h152.2.2.1)
            have e88M151 : gp = M151.2.2 88 9 := u153e.1.1.symm
            have u153q : (M151.1 51 2).toInt = (M0.1 51 2).toInt := congrArg Int32.toInt (congrFun (b01_e (P := TRL M0 M151 0 (rwX M0 gp 12) a150) (by exact h152.2.2.2.2.2.1)).2.1 2)
            refine j_iload C 3 dX11_lists_68 rfl ?_
            refine j_iload C 2 dX11_lists_70 rfl ?_
            refine y_icmp_ge C 102 dX11_lists_72 (by decide) (by (clear u153q e88M151 u153e fM151 hM151 ih148 u130A u130A9 u130A7 u130t u130l u123b u123c u123t h121 h120 fM116 hM116 u114a u114e u114l e88M111 h113 fM111 hM111 ua108 la108 h107 u106z u106t h104 hret C hp3 hp2 hp1 hp0 egp cgp ha1 hpr hM0; omega)) (fun h154 => ?_) (fun h154 => ?_)
            · refine j_iload C 2 dX11_lists_102 rfl ?_
              have u168s := lsA_s (ntX M0 a1) (enF (rwX M0 gp 12) (-1)) (tsX M0 a1)
              have u168k : b01 (TRL M0 M151 a1 (rwX M0 gp 12) a129) = 1 := by rw [show a1 = 0 by exact h121, show a129 = a150 by (clear u168s u153q e88M151 u153e fM151 hM151 ih148 u130A u130A9 u130A7 u130t u130l ha129 h127 u123b u123c u123t h121 h120 h118 fM116 hM116 u114a u114n u114e u114l e88M111 h113 fM111 hM111 ua108 la108 h107 u106z u106t h104 hret C hp3 hp2 hp1 hp0 egp cgp ha1 hpr hM0; omega)]; exact h152.2.2.2.2.2.1
              exact hret _ _ _ _ dX11_lists_104 ⟨a129, rfl, hM151, (FX.rf.tr fM151 (by decide)), by (clear h154 u153q e88M151 u153e fM151 hM151 ih148 u130A u130A9 u130A7 u130t u130l h121 h120 fM116 hM116 u114a u114n u114e u114l e88M111 h113 fM111 hM111 ua108 la108 u106z hret C hp3 hp2 hp1 hp0 egp cgp ha1 hpr hM0; exact ⟨(by omega), ⟨(by omega), ⟨(by omega), ⟨(by omega), h152.2.2.2.2.1⟩⟩⟩⟩)⟩
            · refine j_aload_n C 0 0 dX11_lists_75 rfl rfl ?_
              refine y_getC C 10 50 fX11_lists_52 rfl rfl ft_10_9 sm_10_9 rfl hM151 dX11_lists_76 ?_
              refine j_iload_n C 1 1 dX11_lists_79 rfl rfl ?_
              refine y_aaldK C 28 4 9 51 rfl rfl rfl rfl an_28 rfl sma_28 sta_28 (by decide) hM151 dX11_lists_80 (by exact ⟨(by decide), (by decide)⟩) rfl ?_
              refine j_iload C 3 dX11_lists_81 rfl ?_
              refine j_aload_n C 0 0 dX11_lists_83 rfl rfl ?_
              refine y_getC C 10 88 fX11_lists_94 rfl rfl ft_10_14 sm_10_14 rfl hM151 dX11_lists_84 ?_
              refine j_iload C 3 dX11_lists_87 rfl ?_
              refine j_callVi C (d := 2) (As := [.int (sI a150)]) (st := [.int (sI a150), .ref (ad 51)]) 88 (s_lt rfl rfl) (s_kc (c := 4) rfl rfl) (by decide) rfl (s2_X5_comerAt hM151 a150 (by (clear h154 u153q e88M151 u153e fM151 hM151 ih148 u130A u130A9 u130A7 u130t u130l ha129 h127 u123b u123c u123t h121 h120 h118 fM116 hM116 u114a u114n u114e u114l e88M111 h113 fM111 hM111 ua108 la108 h107 u106z u106t h104 hret C hp3 hp2 hp1 hp0 egp cgp ha1 hpr hM0; omega)) gp cgp (e88M151) (rwX M0 gp 12) (by exact h152.2.2.1) (by exact h152.2.2.2.1) (by (clear u153q e88M151 u153e fM151 hM151 h152 ih148 u130A u130A9 u130A7 u130t u130l h127 u123b u123c u123t h121 h120 fM116 hM116 u114a u114n u114e u114l e88M111 h113 fM111 hM111 ua108 la108 h107 u106z u106t h104 hret C hp3 hp2 hp1 hp0 egp cgp ha1 hpr hM0; omega)) (by exact u114n.2) (by exact ⟨h152.1, (by (clear h154 u153q e88M151 u153e fM151 hM151 ih148 u130A u130A9 u130A7 u130t u130l ha129 h127 u123b u123c u123t h121 h120 h118 fM116 hM116 u114a u114n u114e u114l e88M111 h113 fM111 hM111 ua108 la108 h107 u106z u106t h104 hret C hp3 hp2 hp1 hp0 egp cgp ha1 hpr hM0; omega))⟩)) gX11_lists_X5_comerAt rfl hdX5_comerAt (by decide) (Nat.le_of_ble_eq_true rfl) dX11_lists_89 rfl (fun r156 M157 h158 => ?_)
              obtain ⟨a160, rfl, rfl, h159⟩ := h158
              obtain rfl : a160 = (roB (rwX M0 gp 12) (enF (rwX M0 gp 12) (-1)) (a150).toNat) := by exact h159.2.2
              refine y_i2l C dX11_lists_92 (by (clear h154 u153q e88M151 u153e fM151 hM151 h152 ih148 u130A u130A9 u130A7 u130t u130l ha129 h127 u123b u123c u123t h121 h120 h118 fM116 hM116 u114a u114n u114e u114l e88M111 h113 fM111 hM111 ua108 la108 h107 u106z u106t h104 hret C hp3 hp2 hp1 hp0 egp cgp ha1 hpr hM0; omega)) ?_
              refine j_callVv C (d := 1) (As := [.int (sI a150), .long (sJ (roB (rwX M0 gp 12) (enF (rwX M0 gp 12) (-1)) (a150).toNat))]) (st := []) 51 (s_lt rfl rfl) (s_kc (c := 9) rfl rfl) (by decide) rfl (s3_X10_put hM151 hpr a150 (by omega) (roB (rwX M0 gp 12) (enF (rwX M0 gp 12) (-1)) (a150).toNat) (by (clear h154 u153q e88M151 u153e fM151 hM151 h152 ih148 u130A u130A9 u130A7 u130t u130l ha129 h127 u123b u123c u123t h121 h120 h118 fM116 hM116 u114a u114n u114e u114l e88M111 h113 fM111 hM111 ua108 la108 h107 u106z u106t h104 hret C hp3 hp2 hp1 hp0 egp cgp ha1 hpr hM0; omega))) gX11_lists_X10_put rfl hdX10_put (by decide) (Nat.le_of_ble_eq_true rfl) dX11_lists_93 rfl (fun M163 h164 => ?_)
              obtain ⟨hM163, fM163, h165⟩ := h164
              refine y_iinc C 3 [(5, .int (sI (a150 + 1))), (0, .ref (ad 0)), (1, .int (sI 0)), (4, .int (sI a129))] dX11_lists_96 rfl (by decide) rfl ?_
              refine j_goto C 68 dX11_lists_99 (by decide) ?_
              have u166l := lkp_c (M := M151) (N := M163) (p := gp) (f := (rwX M0 gp 12)) (by exact h152.2.2.1) fM163 cgp (by decide)
              have u166r := fr_c (M := M151) (N := M163) (f := (rwX M0 gp 12)) (a := -1) (s := ((rwX M0 gp 12) 27).toInt + (-1)) (by exact h152.2.2.2.1) fM163 (by decide)
              have u166A7 := hM151.rd (i := gp) (c := 6) (k := 7) cgp (show s_b 6 7 = (0, 900) from rfl)
              have u166A9 := hM151.rd (i := gp) (c := 6) (k := 9) cgp (show s_b 6 9 = (0, 900) from rfl)
              have u166A := apx_o (M := M151) (N := M163) (p := gp) (ple_f (p := gp) ((FX.rf.tr fM163 (by decide)) : FX [52] M151 M163) cgp (by decide)) (((FX.rf.tr fM163 (by decide)) : FX [52] M151 M163).cell (by decide)) (((FX.rf.tr fM163 (by decide)) : FX [52] M151 M163).cell (by decide)) (((FX.rf.tr fM163 (by decide)) : FX [52] M151 M163).cell (by decide)) u166A7.1 u166A9.1 (by exact h152.2.2.2.2.1)
              have u166e : M163.2.1 52 = uJ (M151.2.1 52) (a150).toNat (ctF (roB (rwX M0 gp 12) (enF (rwX M0 gp 12) (-1)) (a150).toNat) (M151.1 51 1).toInt) := b01_e (by (clear u166A u166A9 u166A7 u166r u166l fM163 hM163 h159 e88M151 u153e fM151 hM151 ih148 u130A u130A9 u130A7 u130t u130l u123b u123t h121 h120 fM116 hM116 u114a u114e u114l e88M111 h113 fM111 hM111 ua108 la108 h107 u106z u106t h104 hret C hp3 hp2 hp1 hp0 egp cgp ha1 hpr hM0; omega))
              have u166t := trl_s (M := M0) (B := M151) (N := M163) (f := (rwX M0 gp 12)) (c := 0) (t := 0) (n := a150) (n' := a150 + 1) (v := (roB (rwX M0 gp 12) (enF (rwX M0 gp 12) (-1)) (a150).toNat)) (by exact h152.2.2.2.2.2.1) fM163 (by decide) (by decide) (by decide) u166e (by exact ⟨⟨h159.1, h159.2.1⟩, h159.2.2⟩) (by (clear u166e u166A u166A9 u166A7 u166r u166l h165 fM163 hM163 h159 h154 u153q e88M151 u153e fM151 hM151 ih148 u130A u130A9 u130A7 u130t u130l ha129 h127 u123b u123c u123t h121 h120 h118 fM116 hM116 u114a u114n u114e u114l e88M111 h113 fM111 hM111 ua108 la108 h107 u106z u106t h104 hret C hp3 hp2 hp1 hp0 egp cgp ha1 hpr hM0; omega))
              refine j_lv [1, 2, 3, 0] rfl ?_; exact ih148 (a150 + 1) M163 (by exact ⟨(by (clear u166e u166A9 u166A7 fM163 hM163 h159 e88M151 u153e fM151 hM151 ih148 u130A u130A9 u130A7 u130t u130l u123t h121 h120 fM116 hM116 u114a u114e u114l e88M111 h113 fM111 hM111 ua108 la108 h107 u106z u106t h104 hret C hp3 hp2 hp1 hp0 egp cgp ha1 hpr hM0; omega)), ⟨(by (clear u166e u166A9 u166A7 fM163 hM163 h159 e88M151 u153e fM151 hM151 ih148 u130A u130A9 u130A7 u130t u130l u123t h121 h120 fM116 hM116 u114a u114e u114l e88M111 h113 fM111 hM111 ua108 la108 h107 u106z u106t h104 hret C hp3 hp2 hp1 hp0 egp cgp ha1 hpr hM0; omega)), ⟨u166l, ⟨u166r, ⟨u166A, ⟨u166t, ⟨(by (clear u166e u166A9 u166A7 fM163 hM163 h159 e88M151 u153e fM151 hM151 ih148 u130A u130A9 u130A7 u130t u130l u123t h121 h120 fM116 hM116 u114a u114e u114l e88M111 h113 fM111 hM111 ua108 la108 h107 u106z u106t h104 hret C hp3 hp2 hp1 hp0 egp cgp ha1 hpr hM0; omega)), (by (clear u166e u166A9 u166A7 fM163 hM163 h159 e88M151 u153e fM151 hM151 ih148 u130A u130A9 u130A7 u130t u130l u123t h121 h120 fM116 hM116 u114a u114e u114l e88M111 h113 fM111 hM111 ua108 la108 h107 u106z u106t h104 hret C hp3 hp2 hp1 hp0 egp cgp ha1 hpr hM0; omega))⟩⟩⟩⟩⟩⟩⟩) hM163 ((FX.rf.tr fM151 (by decide)).tr fM163 (by decide))
        refine j_lv [4, 5, 1, 0] rfl ?_; exact L149 2010 0 M116 (by exact ⟨(by decide), ⟨(by decide), ⟨u130l, ⟨h118.2.2.2, ⟨u130A, ⟨u130t, ⟨(by (clear L149 u130A9 u130A7 u123b u123c u123t h121 fM116 hM116 u114a u114e u114l e88M111 h113 fM111 hM111 ua108 la108 h107 u106z u106t h104 hret C hp3 hp2 hp1 hp0 egp cgp ha1 hpr hM0; omega)), (by decide)⟩⟩⟩⟩⟩⟩⟩) hM116 ((FX.rf.tr fM111 (by decide)).tr fM116 (by decide))
      · rw [h121]
        refine y_aaldK C 28 4 9 53 rfl rfl rfl rfl an_28 rfl sma_28 sta_28 (by decide) hM116 dX11_lists_56 (by exact ⟨(by decide), (by decide)⟩) rfl ?_
        have u170t : tsX M0 a1 = (M0.1 53 2).toInt := by rw [show a1 = 1 by exact h121]; rfl
        have u170c : (M116.1 53 2).toInt = (M0.1 53 2).toInt := by rw [(((FX.rf.tr fM111 (by decide)).tr fM116 (by decide)) : FX [81, 82, 83, 84, 85, 86, 88, 89, 90, 91] M0 M116).cell (by decide)]
        have u170b := hM0.rd (i := 53) (c := 9) (k := 2) rfl (show s_b 9 2 = (-1, 40) from rfl)
        refine j_callVi C (d := 1) (As := []) (st := [.int (sI a119)]) 53 (s_lt rfl rfl) (s_kc (c := 9) rfl rfl) (by decide) rfl (s4_X10_size hM116) gX11_lists_X10_size rfl hdX10_size (by decide) (Nat.le_of_ble_eq_true rfl) dX11_lists_57 rfl (fun r171 M172 h173 => ?_)
        obtain ⟨a175, rfl, rfl, h174⟩ := h173
        refine y_mmin C wX11_lists_246_0 wX11_lists_246_1 wX11_lists_246_2 wX11_lists_246_3 (by decide) (Nat.le_of_ble_eq_true rfl) dX11_lists_60 (by (clear u170b u170c u170t h121 h120 fM116 hM116 u114a u114e u114l e88M111 h113 fM111 hM111 ua108 la108 h107 u106z u106t h104 hret C hp3 hp2 hp1 hp0 egp cgp ha1 hpr hM0; omega)) (fun a176 ha176 => ?_)
        refine j_istore C 4 [(4, .int (sI a176)), (3, .int (sI a119)), (2, .int (sI a105)), (0, .ref (ad 0)), (1, .int (sI 1))] dX11_lists_63 (by decide) rfl ?_
        refine y_iconst C dX11_lists_65 ?_
        refine j_istore C 5 [(5, .int (sI 0)), (4, .int (sI a176)), (3, .int (sI a119)), (2, .int (sI a105)), (0, .ref (ad 0)), (1, .int (sI 1))] dX11_lists_66 (by decide) rfl ?_
        have u177l := lkp_c (M := M111) (N := M116) (p := gp) (f := (rwX M0 gp 12)) (by exact u114l) ((FX.rf.tr fM116 (by decide)) : FX [91] M111 M116) cgp (by decide)
        have u177t := trl_0 (M := M0) (N := M116) 1 (rwX M0 gp 12) (((FX.rf.tr fM111 (by decide)).tr fM116 (by decide)) : FX [81, 82, 83, 84, 85, 86, 88, 89, 90, 91] M0 M116) (by decide) (by decide)
        have u177A7 := hM111.rd (i := gp) (c := 6) (k := 7) cgp (show s_b 6 7 = (0, 900) from rfl)
        have u177A9 := hM111.rd (i := gp) (c := 6) (k := 9) cgp (show s_b 6 9 = (0, 900) from rfl)
        have u177A := apx_o (M := M111) (N := M116) (p := gp) (ple_f (p := gp) ((FX.rf.tr fM116 (by decide)) : FX [91] M111 M116) cgp (by decide)) (((FX.rf.tr fM116 (by decide)) : FX [91] M111 M116).cell (by decide)) (((FX.rf.tr fM116 (by decide)) : FX [91] M111 M116).cell (by decide)) (((FX.rf.tr fM116 (by decide)) : FX [91] M111 M116).cell (by decide)) u177A7.1 u177A9.1 (by exact u114a)
        have L196 : ∀ (n194 : Nat), ∀ (a197 : Int) (M198 : mm_M), (0 ≤ a197 ∧ a197 ≤ 40 ∧ (b01 (LKP M198 gp (rwX M0 gp 12)) = 1) ∧ (b01 (FRQ M198 (rwX M0 gp 12) (-1) (((rwX M0 gp 12) 27).toInt + (-1))) = 1) ∧ (b01 (APX M198 gp) = 1) ∧ (b01 (TRL M0 M198 1 (rwX M0 gp 12) a197) = 1) ∧ (a197 ≤ a176) ∧ (40 - a197) < (n194 : Int)) → INV pr Kz M198 → FX [52, 54, 56, 58, 81, 82, 83, 84, 85, 86, 88, 89, 90, 91] M0 M198 → jj p l e (cn_R 6) s m args below meth c 0 0 Q 6 dC dI ad cA A M198 68 [(0, .ref (ad 0)), (1, .int (sI 1)), (4, .int (sI a176)), (5, .int (sI a197))] [] := by
          intro n194
          induction n194 with
          | zero =>
            intro a197 M198 h199 hM198 fM198
            exfalso; (clear fM198 hM198 u177A u177A9 u177A7 u177t u177l ha176 h174 u170b u170c u170t h121 h120 h118 fM116 hM116 u114a u114n u114e u114l e88M111 h113 fM111 hM111 ua108 la108 h107 u106z u106t h104 hret C hp3 hp2 hp1 hp0 egp cgp ha1 hpr hM0; omega)
          | succ n194 ih195 =>
            intro a197 M198 h199 hM198 fM198
            have u200e := lkp_e (M := M198) (p := gp) (f := (rwX M0 gp 12)) (by exact h199.2.2.1)
            have e88M198 : gp = M198.2.2 88 9 := u200e.1.1.symm
            have u200q : (M198.1 53 2).toInt = (M0.1 53 2).toInt := congrArg Int32.toInt (congrFun (b01_e (P := TRL M0 M198 1 (rwX M0 gp 12) a197) (by exact h199.2.2.2.2.2.1)).2.1 2)
            refine j_iload C 3 dX11_lists_68 rfl ?_
            refine j_iload C 2 dX11_lists_70 rfl ?_
            refine y_icmp_ge C 102 dX11_lists_72 (by decide) (by (clear u200q e88M198 u200e fM198 hM198 ih195 u177A u177A9 u177A7 u177t u177l u170b u170c u170t h121 h120 fM116 hM116 u114a u114e u114l e88M111 h113 fM111 hM111 ua108 la108 h107 u106z u106t h104 hret C hp3 hp2 hp1 hp0 egp cgp ha1 hpr hM0; omega)) (fun h201 => ?_) (fun h201 => ?_)
            · refine j_iload C 2 dX11_lists_102 rfl ?_
              have u215s := lsA_s (ntX M0 a1) (enF (rwX M0 gp 12) (-1)) (tsX M0 a1)
              have u215k : b01 (TRL M0 M198 a1 (rwX M0 gp 12) a176) = 1 := by rw [show a1 = 1 by exact h121, show a176 = a197 by (clear u215s u200q e88M198 u200e fM198 hM198 ih195 u177A u177A9 u177A7 u177t u177l ha176 h174 u170b u170c u170t h121 h120 h118 fM116 hM116 u114a u114n u114e u114l e88M111 h113 fM111 hM111 ua108 la108 h107 u106z u106t h104 hret C hp3 hp2 hp1 hp0 egp cgp ha1 hpr hM0; omega)]; exact h199.2.2.2.2.2.1
              exact hret _ _ _ _ dX11_lists_104 ⟨a176, rfl, hM198, (FX.rf.tr fM198 (by decide)), by (clear h201 u200q e88M198 u200e fM198 hM198 ih195 u177A u177A9 u177A7 u177t u177l h121 h120 fM116 hM116 u114a u114n u114e u114l e88M111 h113 fM111 hM111 ua108 la108 u106z hret C hp3 hp2 hp1 hp0 egp cgp ha1 hpr hM0; exact ⟨(by omega), ⟨(by omega), ⟨(by omega), ⟨(by omega), h199.2.2.2.2.1⟩⟩⟩⟩)⟩
            · refine j_aload_n C 0 0 dX11_lists_75 rfl rfl ?_
              refine y_getC C 10 50 fX11_lists_52 rfl rfl ft_10_9 sm_10_9 rfl hM198 dX11_lists_76 ?_
              refine j_iload_n C 1 1 dX11_lists_79 rfl rfl ?_
              refine y_aaldK C 28 4 9 53 rfl rfl rfl rfl an_28 rfl sma_28 sta_28 (by decide) hM198 dX11_lists_80 (by exact ⟨(by decide), (by decide)⟩) rfl ?_
              refine j_iload C 3 dX11_lists_81 rfl ?_
              refine j_aload_n C 0 0 dX11_lists_83 rfl rfl ?_
              refine y_getC C 10 88 fX11_lists_94 rfl rfl ft_10_14 sm_10_14 rfl hM198 dX11_lists_84 ?_
              refine j_iload C 3 dX11_lists_87 rfl ?_
              refine j_callVi C (d := 2) (As := [.int (sI a197)]) (st := [.int (sI a197), .ref (ad 53)]) 88 (s_lt rfl rfl) (s_kc (c := 4) rfl rfl) (by decide) rfl (s2_X5_comerAt hM198 a197 (by (clear h201 u200q e88M198 u200e fM198 hM198 ih195 u177A u177A9 u177A7 u177t u177l ha176 h174 u170b u170c u170t h121 h120 h118 fM116 hM116 u114a u114n u114e u114l e88M111 h113 fM111 hM111 ua108 la108 h107 u106z u106t h104 hret C hp3 hp2 hp1 hp0 egp cgp ha1 hpr hM0; omega)) gp cgp (e88M198) (rwX M0 gp 12) (by exact h199.2.2.1) (by exact h199.2.2.2.1) (by omega) (by exact u114n.2) (by exact ⟨h199.1, (by (clear h201 u200q e88M198 u200e fM198 hM198 ih195 u177A u177A9 u177A7 u177t u177l ha176 h174 u170b u170c u170t h121 h120 h118 fM116 hM116 u114a u114n u114e u114l e88M111 h113 fM111 hM111 ua108 la108 h107 u106z u106t h104 hret C hp3 hp2 hp1 hp0 egp cgp ha1 hpr hM0; omega))⟩)) gX11_lists_X5_comerAt rfl hdX5_comerAt (by decide) (Nat.le_of_ble_eq_true rfl) dX11_lists_89 rfl (fun r203 M204 h205 => ?_)
              obtain ⟨a207, rfl, rfl, h206⟩ := h205
              obtain rfl : a207 = (roB (rwX M0 gp 12) (enF (rwX M0 gp 12) (-1)) (a197).toNat) := by exact h206.2.2
              refine y_i2l C dX11_lists_92 (by omega) ?_
              refine j_callVv C (d := 1) (As := [.int (sI a197), .long (sJ (roB (rwX M0 gp 12) (enF (rwX M0 gp 12) (-1)) (a197).toNat))]) (st := []) 53 (s_lt rfl rfl) (s_kc (c := 9) rfl rfl) (by decide) rfl (s4_X10_put hM198 hpr a197 (by omega) (roB (rwX M0 gp 12) (enF (rwX M0 gp 12) (-1)) (a197).toNat) (by omega)) gX11_lists_X10_put rfl hdX10_put (by decide) (Nat.le_of_ble_eq_true rfl) dX11_lists_93 rfl (fun M210 h211 => ?_)
              obtain ⟨hM210, fM210, h212⟩ := h211
              refine y_iinc C 3 [(5, .int (sI (a197 + 1))), (0, .ref (ad 0)), (1, .int (sI 1)), (4, .int (sI a176))] dX11_lists_96 rfl (by decide) rfl ?_
              refine j_goto C 68 dX11_lists_99 (by decide) ?_
              have u213l := lkp_c (M := M198) (N := M210) (p := gp) (f := (rwX M0 gp 12)) (by exact h199.2.2.1) fM210 cgp (by decide)
              have u213r := fr_c (M := M198) (N := M210) (f := (rwX M0 gp 12)) (a := -1) (s := ((rwX M0 gp 12) 27).toInt + (-1)) (by exact h199.2.2.2.1) fM210 (by decide)
              have u213A7 := hM198.rd (i := gp) (c := 6) (k := 7) cgp (show s_b 6 7 = (0, 900) from rfl)
              have u213A9 := hM198.rd (i := gp) (c := 6) (k := 9) cgp (show s_b 6 9 = (0, 900) from rfl)
              have u213A := apx_o (M := M198) (N := M210) (p := gp) (ple_f (p := gp) ((FX.rf.tr fM210 (by decide)) : FX [54] M198 M210) cgp (by decide)) (((FX.rf.tr fM210 (by decide)) : FX [54] M198 M210).cell (by decide)) (((FX.rf.tr fM210 (by decide)) : FX [54] M198 M210).cell (by decide)) (((FX.rf.tr fM210 (by decide)) : FX [54] M198 M210).cell (by decide)) u213A7.1 u213A9.1 (by exact h199.2.2.2.2.1)
              have u213e : M210.2.1 54 = uJ (M198.2.1 54) (a197).toNat (ctF (roB (rwX M0 gp 12) (enF (rwX M0 gp 12) (-1)) (a197).toNat) (M198.1 53 1).toInt) := b01_e (by (clear u213A u213A9 u213A7 u213r u213l fM210 hM210 h206 e88M198 u200e fM198 hM198 ih195 u177A u177A9 u177A7 u177t u177l u170b u170t h121 h120 fM116 hM116 u114a u114e u114l e88M111 h113 fM111 hM111 ua108 la108 h107 u106z u106t h104 hret C hp3 hp2 hp1 hp0 egp cgp ha1 hpr hM0; omega))
              have u213t := trl_s (M := M0) (B := M198) (N := M210) (f := (rwX M0 gp 12)) (c := 1) (t := 1) (n := a197) (n' := a197 + 1) (v := (roB (rwX M0 gp 12) (enF (rwX M0 gp 12) (-1)) (a197).toNat)) (by exact h199.2.2.2.2.2.1) fM210 (by decide) (by decide) (by decide) u213e (by exact ⟨⟨h206.1, h206.2.1⟩, h206.2.2⟩) (by (clear u213e u213A u213A9 u213A7 u213r u213l h212 fM210 hM210 h206 h201 u200q e88M198 u200e fM198 hM198 ih195 u177A u177A9 u177A7 u177t u177l ha176 h174 u170b u170c u170t h121 h120 h118 fM116 hM116 u114a u114n u114e u114l e88M111 h113 fM111 hM111 ua108 la108 h107 u106z u106t h104 hret C hp3 hp2 hp1 hp0 egp cgp ha1 hpr hM0; omega))
              refine j_lv [1, 2, 3, 0] rfl ?_; exact ih195 (a197 + 1) M210 (by exact ⟨(by (clear u213e u213A9 u213A7 fM210 hM210 h206 e88M198 u200e fM198 hM198 ih195 u177A u177A9 u177A7 u177t u177l u170t h121 h120 fM116 hM116 u114a u114e u114l e88M111 h113 fM111 hM111 ua108 la108 h107 u106z u106t h104 hret C hp3 hp2 hp1 hp0 egp cgp ha1 hpr hM0; omega)), ⟨(by (clear u213e u213A9 u213A7 fM210 hM210 h206 e88M198 u200e fM198 hM198 ih195 u177A u177A9 u177A7 u177t u177l u170t h121 h120 fM116 hM116 u114a u114e u114l e88M111 h113 fM111 hM111 ua108 la108 h107 u106z u106t h104 hret C hp3 hp2 hp1 hp0 egp cgp ha1 hpr hM0; omega)), ⟨u213l, ⟨u213r, ⟨u213A, ⟨u213t, ⟨(by (clear u213e u213A9 u213A7 fM210 hM210 h206 e88M198 u200e fM198 hM198 ih195 u177A u177A9 u177A7 u177t u177l u170t h121 h120 fM116 hM116 u114a u114e u114l e88M111 h113 fM111 hM111 ua108 la108 h107 u106z u106t h104 hret C hp3 hp2 hp1 hp0 egp cgp ha1 hpr hM0; omega)), (by (clear u213e u213A9 u213A7 fM210 hM210 h206 e88M198 u200e fM198 hM198 ih195 u177A u177A9 u177A7 u177t u177l u170t h121 h120 fM116 hM116 u114a u114e u114l e88M111 h113 fM111 hM111 ua108 la108 h107 u106z u106t h104 hret C hp3 hp2 hp1 hp0 egp cgp ha1 hpr hM0; omega))⟩⟩⟩⟩⟩⟩⟩) hM210 ((FX.rf.tr fM198 (by decide)).tr fM210 (by decide))
        refine j_lv [4, 5, 1, 0] rfl ?_; exact L196 2010 0 M116 (by exact ⟨(by decide), ⟨(by decide), ⟨u177l, ⟨h118.2.2.2, ⟨u177A, ⟨u177t, ⟨(by (clear L196 u177A9 u177A7 u170b u170c u170t h121 fM116 hM116 u114a u114e u114l e88M111 h113 fM111 hM111 ua108 la108 h107 u106z u106t h104 hret C hp3 hp2 hp1 hp0 egp cgp ha1 hpr hM0; omega)), (by decide)⟩⟩⟩⟩⟩⟩⟩) hM116 ((FX.rf.tr fM111 (by decide)).tr fM116 (by decide))
      · rw [h121]
        refine y_aaldK C 28 4 9 55 rfl rfl rfl rfl an_28 rfl sma_28 sta_28 (by decide) hM116 dX11_lists_56 (by exact ⟨(by decide), (by decide)⟩) rfl ?_
        have u217t : tsX M0 a1 = (M0.1 55 2).toInt := by rw [show a1 = 2 by exact h121]; rfl
        have u217c : (M116.1 55 2).toInt = (M0.1 55 2).toInt := by rw [(((FX.rf.tr fM111 (by decide)).tr fM116 (by decide)) : FX [81, 82, 83, 84, 85, 86, 88, 89, 90, 91] M0 M116).cell (by decide)]
        have u217b := hM0.rd (i := 55) (c := 9) (k := 2) rfl (show s_b 9 2 = (-1, 40) from rfl)
        refine j_callVi C (d := 1) (As := []) (st := [.int (sI a119)]) 55 (s_lt rfl rfl) (s_kc (c := 9) rfl rfl) (by decide) rfl (s5_X10_size hM116) gX11_lists_X10_size rfl hdX10_size (by decide) (Nat.le_of_ble_eq_true rfl) dX11_lists_57 rfl (fun r218 M219 h220 => ?_)
        obtain ⟨a222, rfl, rfl, h221⟩ := h220
        refine y_mmin C wX11_lists_246_0 wX11_lists_246_1 wX11_lists_246_2 wX11_lists_246_3 (by decide) (Nat.le_of_ble_eq_true rfl) dX11_lists_60 (by (clear u217b u217c u217t h121 h120 fM116 hM116 u114a u114e u114l e88M111 h113 fM111 hM111 ua108 la108 h107 u106z u106t h104 hret C hp3 hp2 hp1 hp0 egp cgp ha1 hpr hM0; omega)) (fun a223 ha223 => ?_)
        refine j_istore C 4 [(4, .int (sI a223)), (3, .int (sI a119)), (2, .int (sI a105)), (0, .ref (ad 0)), (1, .int (sI 2))] dX11_lists_63 (by decide) rfl ?_
        refine y_iconst C dX11_lists_65 ?_
        refine j_istore C 5 [(5, .int (sI 0)), (4, .int (sI a223)), (3, .int (sI a119)), (2, .int (sI a105)), (0, .ref (ad 0)), (1, .int (sI 2))] dX11_lists_66 (by decide) rfl ?_
        have u224l := lkp_c (M := M111) (N := M116) (p := gp) (f := (rwX M0 gp 12)) (by exact u114l) ((FX.rf.tr fM116 (by decide)) : FX [91] M111 M116) cgp (by decide)
        have u224t := trl_0 (M := M0) (N := M116) 2 (rwX M0 gp 12) (((FX.rf.tr fM111 (by decide)).tr fM116 (by decide)) : FX [81, 82, 83, 84, 85, 86, 88, 89, 90, 91] M0 M116) (by decide) (by decide)
        have u224A7 := hM111.rd (i := gp) (c := 6) (k := 7) cgp (show s_b 6 7 = (0, 900) from rfl)
        have u224A9 := hM111.rd (i := gp) (c := 6) (k := 9) cgp (show s_b 6 9 = (0, 900) from rfl)
        have u224A := apx_o (M := M111) (N := M116) (p := gp) (ple_f (p := gp) ((FX.rf.tr fM116 (by decide)) : FX [91] M111 M116) cgp (by decide)) (((FX.rf.tr fM116 (by decide)) : FX [91] M111 M116).cell (by decide)) (((FX.rf.tr fM116 (by decide)) : FX [91] M111 M116).cell (by decide)) (((FX.rf.tr fM116 (by decide)) : FX [91] M111 M116).cell (by decide)) u224A7.1 u224A9.1 (by exact u114a)
        have L243 : ∀ (n241 : Nat), ∀ (a244 : Int) (M245 : mm_M), (0 ≤ a244 ∧ a244 ≤ 40 ∧ (b01 (LKP M245 gp (rwX M0 gp 12)) = 1) ∧ (b01 (FRQ M245 (rwX M0 gp 12) (-1) (((rwX M0 gp 12) 27).toInt + (-1))) = 1) ∧ (b01 (APX M245 gp) = 1) ∧ (b01 (TRL M0 M245 2 (rwX M0 gp 12) a244) = 1) ∧ (a244 ≤ a223) ∧ (40 - a244) < (n241 : Int)) → INV pr Kz M245 → FX [52, 54, 56, 58, 81, 82, 83, 84, 85, 86, 88, 89, 90, 91] M0 M245 → jj p l e (cn_R 6) s m args below meth c 0 0 Q 6 dC dI ad cA A M245 68 [(0, .ref (ad 0)), (1, .int (sI 2)), (4, .int (sI a223)), (5, .int (sI a244))] [] := by
          intro n241
          induction n241 with
          | zero =>
            intro a244 M245 h246 hM245 fM245
            exfalso; (clear fM245 hM245 u224A u224A9 u224A7 u224t u224l ha223 h221 u217b u217c u217t h121 h120 h118 fM116 hM116 u114a u114n u114e u114l e88M111 h113 fM111 hM111 ua108 la108 h107 u106z u106t h104 hret C hp3 hp2 hp1 hp0 egp cgp ha1 hpr hM0; omega)
          | succ n241 ih242 =>
            intro a244 M245 h246 hM245 fM245
            have u247e := lkp_e (M := M245) (p := gp) (f := (rwX M0 gp 12)) (by exact h246.2.2.1)
            have e88M245 : gp = M245.2.2 88 9 := u247e.1.1.symm
            have u247q : (M245.1 55 2).toInt = (M0.1 55 2).toInt := congrArg Int32.toInt (congrFun (b01_e (P := TRL M0 M245 2 (rwX M0 gp 12) a244) (by exact h246.2.2.2.2.2.1)).2.1 2)
            refine j_iload C 3 dX11_lists_68 rfl ?_
            refine j_iload C 2 dX11_lists_70 rfl ?_
            refine y_icmp_ge C 102 dX11_lists_72 (by decide) (by (clear u247q e88M245 u247e fM245 hM245 ih242 u224A u224A9 u224A7 u224t u224l u217b u217c u217t h121 h120 fM116 hM116 u114a u114e u114l e88M111 h113 fM111 hM111 ua108 la108 h107 u106z u106t h104 hret C hp3 hp2 hp1 hp0 egp cgp ha1 hpr hM0; omega)) (fun h248 => ?_) (fun h248 => ?_)
            · refine j_iload C 2 dX11_lists_102 rfl ?_
              have u262s := lsA_s (ntX M0 a1) (enF (rwX M0 gp 12) (-1)) (tsX M0 a1)
              have u262k : b01 (TRL M0 M245 a1 (rwX M0 gp 12) a223) = 1 := by rw [show a1 = 2 by exact h121, show a223 = a244 by (clear u262s u247q e88M245 u247e fM245 hM245 ih242 u224A u224A9 u224A7 u224t u224l ha223 h221 u217b u217c u217t h121 h120 h118 fM116 hM116 u114a u114n u114e u114l e88M111 h113 fM111 hM111 ua108 la108 h107 u106z u106t h104 hret C hp3 hp2 hp1 hp0 egp cgp ha1 hpr hM0; omega)]; exact h246.2.2.2.2.2.1
              exact hret _ _ _ _ dX11_lists_104 ⟨a223, rfl, hM245, (FX.rf.tr fM245 (by decide)), by (clear h248 u247q e88M245 u247e fM245 hM245 ih242 u224A u224A9 u224A7 u224t u224l h121 h120 fM116 hM116 u114a u114n u114e u114l e88M111 h113 fM111 hM111 ua108 la108 u106z hret C hp3 hp2 hp1 hp0 egp cgp ha1 hpr hM0; exact ⟨(by omega), ⟨(by omega), ⟨(by omega), ⟨(by omega), h246.2.2.2.2.1⟩⟩⟩⟩)⟩
            · refine j_aload_n C 0 0 dX11_lists_75 rfl rfl ?_
              refine y_getC C 10 50 fX11_lists_52 rfl rfl ft_10_9 sm_10_9 rfl hM245 dX11_lists_76 ?_
              refine j_iload_n C 1 1 dX11_lists_79 rfl rfl ?_
              refine y_aaldK C 28 4 9 55 rfl rfl rfl rfl an_28 rfl sma_28 sta_28 (by decide) hM245 dX11_lists_80 (by exact ⟨(by decide), (by decide)⟩) rfl ?_
              refine j_iload C 3 dX11_lists_81 rfl ?_
              refine j_aload_n C 0 0 dX11_lists_83 rfl rfl ?_
              refine y_getC C 10 88 fX11_lists_94 rfl rfl ft_10_14 sm_10_14 rfl hM245 dX11_lists_84 ?_
              refine j_iload C 3 dX11_lists_87 rfl ?_
              refine j_callVi C (d := 2) (As := [.int (sI a244)]) (st := [.int (sI a244), .ref (ad 55)]) 88 (s_lt rfl rfl) (s_kc (c := 4) rfl rfl) (by decide) rfl (s2_X5_comerAt hM245 a244 (by (clear h248 u247q e88M245 u247e fM245 hM245 ih242 u224A u224A9 u224A7 u224t u224l ha223 h221 u217b u217c u217t h121 h120 h118 fM116 hM116 u114a u114n u114e u114l e88M111 h113 fM111 hM111 ua108 la108 h107 u106z u106t h104 hret C hp3 hp2 hp1 hp0 egp cgp ha1 hpr hM0; omega)) gp cgp (e88M245) (rwX M0 gp 12) (by exact h246.2.2.1) (by exact h246.2.2.2.1) (by omega) (by exact u114n.2) (by exact ⟨h246.1, (by (clear h248 u247q e88M245 u247e fM245 hM245 ih242 u224A u224A9 u224A7 u224t u224l ha223 h221 u217b u217c u217t h121 h120 h118 fM116 hM116 u114a u114n u114e u114l e88M111 h113 fM111 hM111 ua108 la108 h107 u106z u106t h104 hret C hp3 hp2 hp1 hp0 egp cgp ha1 hpr hM0; omega))⟩)) gX11_lists_X5_comerAt rfl hdX5_comerAt (by decide) (Nat.le_of_ble_eq_true rfl) dX11_lists_89 rfl (fun r250 M251 h252 => ?_)
              obtain ⟨a254, rfl, rfl, h253⟩ := h252
              obtain rfl : a254 = (roB (rwX M0 gp 12) (enF (rwX M0 gp 12) (-1)) (a244).toNat) := by exact h253.2.2
              refine y_i2l C dX11_lists_92 (by omega) ?_
              refine j_callVv C (d := 1) (As := [.int (sI a244), .long (sJ (roB (rwX M0 gp 12) (enF (rwX M0 gp 12) (-1)) (a244).toNat))]) (st := []) 55 (s_lt rfl rfl) (s_kc (c := 9) rfl rfl) (by decide) rfl (s5_X10_put hM245 hpr a244 (by omega) (roB (rwX M0 gp 12) (enF (rwX M0 gp 12) (-1)) (a244).toNat) (by omega)) gX11_lists_X10_put rfl hdX10_put (by decide) (Nat.le_of_ble_eq_true rfl) dX11_lists_93 rfl (fun M257 h258 => ?_)
              obtain ⟨hM257, fM257, h259⟩ := h258
              refine y_iinc C 3 [(5, .int (sI (a244 + 1))), (0, .ref (ad 0)), (1, .int (sI 2)), (4, .int (sI a223))] dX11_lists_96 rfl (by decide) rfl ?_
              refine j_goto C 68 dX11_lists_99 (by decide) ?_
              have u260l := lkp_c (M := M245) (N := M257) (p := gp) (f := (rwX M0 gp 12)) (by exact h246.2.2.1) fM257 cgp (by decide)
              have u260r := fr_c (M := M245) (N := M257) (f := (rwX M0 gp 12)) (a := -1) (s := ((rwX M0 gp 12) 27).toInt + (-1)) (by exact h246.2.2.2.1) fM257 (by decide)
              have u260A7 := hM245.rd (i := gp) (c := 6) (k := 7) cgp (show s_b 6 7 = (0, 900) from rfl)
              have u260A9 := hM245.rd (i := gp) (c := 6) (k := 9) cgp (show s_b 6 9 = (0, 900) from rfl)
              have u260A := apx_o (M := M245) (N := M257) (p := gp) (ple_f (p := gp) ((FX.rf.tr fM257 (by decide)) : FX [56] M245 M257) cgp (by decide)) (((FX.rf.tr fM257 (by decide)) : FX [56] M245 M257).cell (by decide)) (((FX.rf.tr fM257 (by decide)) : FX [56] M245 M257).cell (by decide)) (((FX.rf.tr fM257 (by decide)) : FX [56] M245 M257).cell (by decide)) u260A7.1 u260A9.1 (by exact h246.2.2.2.2.1)
              have u260e : M257.2.1 56 = uJ (M245.2.1 56) (a244).toNat (ctF (roB (rwX M0 gp 12) (enF (rwX M0 gp 12) (-1)) (a244).toNat) (M245.1 55 1).toInt) := b01_e (by (clear u260A u260A9 u260A7 u260r u260l fM257 hM257 h253 e88M245 u247e fM245 hM245 ih242 u224A u224A9 u224A7 u224t u224l u217b u217t h121 h120 fM116 hM116 u114a u114e u114l e88M111 h113 fM111 hM111 ua108 la108 h107 u106z u106t h104 hret C hp3 hp2 hp1 hp0 egp cgp ha1 hpr hM0; omega))
              have u260t := trl_s (M := M0) (B := M245) (N := M257) (f := (rwX M0 gp 12)) (c := 2) (t := 2) (n := a244) (n' := a244 + 1) (v := (roB (rwX M0 gp 12) (enF (rwX M0 gp 12) (-1)) (a244).toNat)) (by exact h246.2.2.2.2.2.1) fM257 (by decide) (by decide) (by decide) u260e (by exact ⟨⟨h253.1, h253.2.1⟩, h253.2.2⟩) (by (clear u260e u260A u260A9 u260A7 u260r u260l h259 fM257 hM257 h253 h248 u247q e88M245 u247e fM245 hM245 ih242 u224A u224A9 u224A7 u224t u224l ha223 h221 u217b u217c u217t h121 h120 h118 fM116 hM116 u114a u114n u114e u114l e88M111 h113 fM111 hM111 ua108 la108 h107 u106z u106t h104 hret C hp3 hp2 hp1 hp0 egp cgp ha1 hpr hM0; omega))
              refine j_lv [1, 2, 3, 0] rfl ?_; exact ih242 (a244 + 1) M257 (by exact ⟨(by (clear u260e u260A9 u260A7 fM257 hM257 h253 e88M245 u247e fM245 hM245 ih242 u224A u224A9 u224A7 u224t u224l u217t h121 h120 fM116 hM116 u114a u114e u114l e88M111 h113 fM111 hM111 ua108 la108 h107 u106z u106t h104 hret C hp3 hp2 hp1 hp0 egp cgp ha1 hpr hM0; omega)), ⟨(by (clear u260e u260A9 u260A7 fM257 hM257 h253 e88M245 u247e fM245 hM245 ih242 u224A u224A9 u224A7 u224t u224l u217t h121 h120 fM116 hM116 u114a u114e u114l e88M111 h113 fM111 hM111 ua108 la108 h107 u106z u106t h104 hret C hp3 hp2 hp1 hp0 egp cgp ha1 hpr hM0; omega)), ⟨u260l, ⟨u260r, ⟨u260A, ⟨u260t, ⟨(by (clear u260e u260A9 u260A7 fM257 hM257 h253 e88M245 u247e fM245 hM245 ih242 u224A u224A9 u224A7 u224t u224l u217t h121 h120 fM116 hM116 u114a u114e u114l e88M111 h113 fM111 hM111 ua108 la108 h107 u106z u106t h104 hret C hp3 hp2 hp1 hp0 egp cgp ha1 hpr hM0; omega)), (by (clear u260e u260A9 u260A7 fM257 hM257 h253 e88M245 u247e fM245 hM245 ih242 u224A u224A9 u224A7 u224t u224l u217t h121 h120 fM116 hM116 u114a u114e u114l e88M111 h113 fM111 hM111 ua108 la108 h107 u106z u106t h104 hret C hp3 hp2 hp1 hp0 egp cgp ha1 hpr hM0; omega))⟩⟩⟩⟩⟩⟩⟩) hM257 ((FX.rf.tr fM245 (by decide)).tr fM257 (by decide))
        refine j_lv [4, 5, 1, 0] rfl ?_; exact L243 2010 0 M116 (by exact ⟨(by decide), ⟨(by decide), ⟨u224l, ⟨h118.2.2.2, ⟨u224A, ⟨u224t, ⟨(by (clear L243 u224A9 u224A7 u217b u217c u217t h121 fM116 hM116 u114a u114e u114l e88M111 h113 fM111 hM111 ua108 la108 h107 u106z u106t h104 hret C hp3 hp2 hp1 hp0 egp cgp ha1 hpr hM0; omega)), (by decide)⟩⟩⟩⟩⟩⟩⟩) hM116 ((FX.rf.tr fM111 (by decide)).tr fM116 (by decide))
      · rw [h121]
        refine y_aaldK C 28 4 9 57 rfl rfl rfl rfl an_28 rfl sma_28 sta_28 (by decide) hM116 dX11_lists_56 (by exact ⟨(by decide), (by decide)⟩) rfl ?_
        have u264t : tsX M0 a1 = (M0.1 57 2).toInt := by rw [show a1 = 3 by exact h121]; rfl
        have u264c : (M116.1 57 2).toInt = (M0.1 57 2).toInt := by rw [(((FX.rf.tr fM111 (by decide)).tr fM116 (by decide)) : FX [81, 82, 83, 84, 85, 86, 88, 89, 90, 91] M0 M116).cell (by decide)]
        have u264b := hM0.rd (i := 57) (c := 9) (k := 2) rfl (show s_b 9 2 = (-1, 40) from rfl)
        refine j_callVi C (d := 1) (As := []) (st := [.int (sI a119)]) 57 (s_lt rfl rfl) (s_kc (c := 9) rfl rfl) (by decide) rfl (s6_X10_size hM116) gX11_lists_X10_size rfl hdX10_size (by decide) (Nat.le_of_ble_eq_true rfl) dX11_lists_57 rfl (fun r265 M266 h267 => ?_)
        obtain ⟨a269, rfl, rfl, h268⟩ := h267
        refine y_mmin C wX11_lists_246_0 wX11_lists_246_1 wX11_lists_246_2 wX11_lists_246_3 (by decide) (Nat.le_of_ble_eq_true rfl) dX11_lists_60 (by (clear u264b u264c u264t h121 h120 fM116 hM116 u114a u114e u114l e88M111 h113 fM111 hM111 ua108 la108 h107 u106z u106t h104 hret C hp3 hp2 hp1 hp0 egp cgp ha1 hpr hM0; omega)) (fun a270 ha270 => ?_)
        refine j_istore C 4 [(4, .int (sI a270)), (3, .int (sI a119)), (2, .int (sI a105)), (0, .ref (ad 0)), (1, .int (sI 3))] dX11_lists_63 (by decide) rfl ?_
        refine y_iconst C dX11_lists_65 ?_
        refine j_istore C 5 [(5, .int (sI 0)), (4, .int (sI a270)), (3, .int (sI a119)), (2, .int (sI a105)), (0, .ref (ad 0)), (1, .int (sI 3))] dX11_lists_66 (by decide) rfl ?_
        have u271l := lkp_c (M := M111) (N := M116) (p := gp) (f := (rwX M0 gp 12)) (by exact u114l) ((FX.rf.tr fM116 (by decide)) : FX [91] M111 M116) cgp (by decide)
        have u271t := trl_0 (M := M0) (N := M116) 3 (rwX M0 gp 12) (((FX.rf.tr fM111 (by decide)).tr fM116 (by decide)) : FX [81, 82, 83, 84, 85, 86, 88, 89, 90, 91] M0 M116) (by decide) (by decide)
        have u271A7 := hM111.rd (i := gp) (c := 6) (k := 7) cgp (show s_b 6 7 = (0, 900) from rfl)
        have u271A9 := hM111.rd (i := gp) (c := 6) (k := 9) cgp (show s_b 6 9 = (0, 900) from rfl)
        have u271A := apx_o (M := M111) (N := M116) (p := gp) (ple_f (p := gp) ((FX.rf.tr fM116 (by decide)) : FX [91] M111 M116) cgp (by decide)) (((FX.rf.tr fM116 (by decide)) : FX [91] M111 M116).cell (by decide)) (((FX.rf.tr fM116 (by decide)) : FX [91] M111 M116).cell (by decide)) (((FX.rf.tr fM116 (by decide)) : FX [91] M111 M116).cell (by decide)) u271A7.1 u271A9.1 (by exact u114a)
        have L290 : ∀ (n288 : Nat), ∀ (a291 : Int) (M292 : mm_M), (0 ≤ a291 ∧ a291 ≤ 40 ∧ (b01 (LKP M292 gp (rwX M0 gp 12)) = 1) ∧ (b01 (FRQ M292 (rwX M0 gp 12) (-1) (((rwX M0 gp 12) 27).toInt + (-1))) = 1) ∧ (b01 (APX M292 gp) = 1) ∧ (b01 (TRL M0 M292 3 (rwX M0 gp 12) a291) = 1) ∧ (a291 ≤ a270) ∧ (40 - a291) < (n288 : Int)) → INV pr Kz M292 → FX [52, 54, 56, 58, 81, 82, 83, 84, 85, 86, 88, 89, 90, 91] M0 M292 → jj p l e (cn_R 6) s m args below meth c 0 0 Q 6 dC dI ad cA A M292 68 [(0, .ref (ad 0)), (1, .int (sI 3)), (4, .int (sI a270)), (5, .int (sI a291))] [] := by
          intro n288
          induction n288 with
          | zero =>
            intro a291 M292 h293 hM292 fM292
            exfalso; (clear fM292 hM292 u271A u271A9 u271A7 u271t u271l ha270 h268 u264b u264c u264t h121 h120 h118 fM116 hM116 u114a u114n u114e u114l e88M111 h113 fM111 hM111 ua108 la108 h107 u106z u106t h104 hret C hp3 hp2 hp1 hp0 egp cgp ha1 hpr hM0; omega)
          | succ n288 ih289 =>
            intro a291 M292 h293 hM292 fM292
            have u294e := lkp_e (M := M292) (p := gp) (f := (rwX M0 gp 12)) (by exact h293.2.2.1)
            have e88M292 : gp = M292.2.2 88 9 := u294e.1.1.symm
            have u294q : (M292.1 57 2).toInt = (M0.1 57 2).toInt := congrArg Int32.toInt (congrFun (b01_e (P := TRL M0 M292 3 (rwX M0 gp 12) a291) (by exact h293.2.2.2.2.2.1)).2.1 2)
            refine j_iload C 3 dX11_lists_68 rfl ?_
            refine j_iload C 2 dX11_lists_70 rfl ?_
            refine y_icmp_ge C 102 dX11_lists_72 (by decide) (by (clear u294q e88M292 u294e fM292 hM292 ih289 u271A u271A9 u271A7 u271t u271l u264b u264c u264t h121 h120 fM116 hM116 u114a u114e u114l e88M111 h113 fM111 hM111 ua108 la108 h107 u106z u106t h104 hret C hp3 hp2 hp1 hp0 egp cgp ha1 hpr hM0; omega)) (fun h295 => ?_) (fun h295 => ?_)
            · refine j_iload C 2 dX11_lists_102 rfl ?_
              have u309s := lsA_s (ntX M0 a1) (enF (rwX M0 gp 12) (-1)) (tsX M0 a1)
              have u309k : b01 (TRL M0 M292 a1 (rwX M0 gp 12) a270) = 1 := by rw [show a1 = 3 by exact h121, show a270 = a291 by (clear u309s u294q e88M292 u294e fM292 hM292 ih289 u271A u271A9 u271A7 u271t u271l ha270 h268 u264b u264c u264t h121 h120 h118 fM116 hM116 u114a u114n u114e u114l e88M111 h113 fM111 hM111 ua108 la108 h107 u106z u106t h104 hret C hp3 hp2 hp1 hp0 egp cgp ha1 hpr hM0; omega)]; exact h293.2.2.2.2.2.1
              exact hret _ _ _ _ dX11_lists_104 ⟨a270, rfl, hM292, (FX.rf.tr fM292 (by decide)), by (clear h295 u294q e88M292 u294e fM292 hM292 ih289 u271A u271A9 u271A7 u271t u271l h121 h120 fM116 hM116 u114a u114n u114e u114l e88M111 h113 fM111 hM111 ua108 la108 u106z hret C hp3 hp2 hp1 hp0 egp cgp ha1 hpr hM0; exact ⟨(by omega), ⟨(by omega), ⟨(by omega), ⟨(by omega), h293.2.2.2.2.1⟩⟩⟩⟩)⟩
            · refine j_aload_n C 0 0 dX11_lists_75 rfl rfl ?_
              refine y_getC C 10 50 fX11_lists_52 rfl rfl ft_10_9 sm_10_9 rfl hM292 dX11_lists_76 ?_
              refine j_iload_n C 1 1 dX11_lists_79 rfl rfl ?_
              refine y_aaldK C 28 4 9 57 rfl rfl rfl rfl an_28 rfl sma_28 sta_28 (by decide) hM292 dX11_lists_80 (by exact ⟨(by decide), (by decide)⟩) rfl ?_
              refine j_iload C 3 dX11_lists_81 rfl ?_
              refine j_aload_n C 0 0 dX11_lists_83 rfl rfl ?_
              refine y_getC C 10 88 fX11_lists_94 rfl rfl ft_10_14 sm_10_14 rfl hM292 dX11_lists_84 ?_
              refine j_iload C 3 dX11_lists_87 rfl ?_
              refine j_callVi C (d := 2) (As := [.int (sI a291)]) (st := [.int (sI a291), .ref (ad 57)]) 88 (s_lt rfl rfl) (s_kc (c := 4) rfl rfl) (by decide) rfl (s2_X5_comerAt hM292 a291 (by (clear h295 u294q e88M292 u294e fM292 hM292 ih289 u271A u271A9 u271A7 u271t u271l ha270 h268 u264b u264c u264t h121 h120 h118 fM116 hM116 u114a u114n u114e u114l e88M111 h113 fM111 hM111 ua108 la108 h107 u106z u106t h104 hret C hp3 hp2 hp1 hp0 egp cgp ha1 hpr hM0; omega)) gp cgp (e88M292) (rwX M0 gp 12) (by exact h293.2.2.1) (by exact h293.2.2.2.1) (by omega) (by exact u114n.2) (by exact ⟨h293.1, (by (clear h295 u294q e88M292 u294e fM292 hM292 ih289 u271A u271A9 u271A7 u271t u271l ha270 h268 u264b u264c u264t h121 h120 h118 fM116 hM116 u114a u114n u114e u114l e88M111 h113 fM111 hM111 ua108 la108 h107 u106z u106t h104 hret C hp3 hp2 hp1 hp0 egp cgp ha1 hpr hM0; omega))⟩)) gX11_lists_X5_comerAt rfl hdX5_comerAt (by decide) (Nat.le_of_ble_eq_true rfl) dX11_lists_89 rfl (fun r297 M298 h299 => ?_)
              obtain ⟨a301, rfl, rfl, h300⟩ := h299
              obtain rfl : a301 = (roB (rwX M0 gp 12) (enF (rwX M0 gp 12) (-1)) (a291).toNat) := by exact h300.2.2
              refine y_i2l C dX11_lists_92 (by omega) ?_
              refine j_callVv C (d := 1) (As := [.int (sI a291), .long (sJ (roB (rwX M0 gp 12) (enF (rwX M0 gp 12) (-1)) (a291).toNat))]) (st := []) 57 (s_lt rfl rfl) (s_kc (c := 9) rfl rfl) (by decide) rfl (s6_X10_put hM292 hpr a291 (by omega) (roB (rwX M0 gp 12) (enF (rwX M0 gp 12) (-1)) (a291).toNat) (by omega)) gX11_lists_X10_put rfl hdX10_put (by decide) (Nat.le_of_ble_eq_true rfl) dX11_lists_93 rfl (fun M304 h305 => ?_)
              obtain ⟨hM304, fM304, h306⟩ := h305
              refine y_iinc C 3 [(5, .int (sI (a291 + 1))), (0, .ref (ad 0)), (1, .int (sI 3)), (4, .int (sI a270))] dX11_lists_96 rfl (by decide) rfl ?_
              refine j_goto C 68 dX11_lists_99 (by decide) ?_
              have u307l := lkp_c (M := M292) (N := M304) (p := gp) (f := (rwX M0 gp 12)) (by exact h293.2.2.1) fM304 cgp (by decide)
              have u307r := fr_c (M := M292) (N := M304) (f := (rwX M0 gp 12)) (a := -1) (s := ((rwX M0 gp 12) 27).toInt + (-1)) (by exact h293.2.2.2.1) fM304 (by decide)
              have u307A7 := hM292.rd (i := gp) (c := 6) (k := 7) cgp (show s_b 6 7 = (0, 900) from rfl)
              have u307A9 := hM292.rd (i := gp) (c := 6) (k := 9) cgp (show s_b 6 9 = (0, 900) from rfl)
              have u307A := apx_o (M := M292) (N := M304) (p := gp) (ple_f (p := gp) ((FX.rf.tr fM304 (by decide)) : FX [58] M292 M304) cgp (by decide)) (((FX.rf.tr fM304 (by decide)) : FX [58] M292 M304).cell (by decide)) (((FX.rf.tr fM304 (by decide)) : FX [58] M292 M304).cell (by decide)) (((FX.rf.tr fM304 (by decide)) : FX [58] M292 M304).cell (by decide)) u307A7.1 u307A9.1 (by exact h293.2.2.2.2.1)
              have u307e : M304.2.1 58 = uJ (M292.2.1 58) (a291).toNat (ctF (roB (rwX M0 gp 12) (enF (rwX M0 gp 12) (-1)) (a291).toNat) (M292.1 57 1).toInt) := b01_e (by (clear u307A u307A9 u307A7 u307r u307l fM304 hM304 h300 e88M292 u294e fM292 hM292 ih289 u271A u271A9 u271A7 u271t u271l u264b u264t h121 h120 fM116 hM116 u114a u114e u114l e88M111 h113 fM111 hM111 ua108 la108 h107 u106z u106t h104 hret C hp3 hp2 hp1 hp0 egp cgp ha1 hpr hM0; omega))
              have u307t := trl_s (M := M0) (B := M292) (N := M304) (f := (rwX M0 gp 12)) (c := 3) (t := 3) (n := a291) (n' := a291 + 1) (v := (roB (rwX M0 gp 12) (enF (rwX M0 gp 12) (-1)) (a291).toNat)) (by exact h293.2.2.2.2.2.1) fM304 (by decide) (by decide) (by decide) u307e (by exact ⟨⟨h300.1, h300.2.1⟩, h300.2.2⟩) (by (clear u307e u307A u307A9 u307A7 u307r u307l h306 fM304 hM304 h300 h295 u294q e88M292 u294e fM292 hM292 ih289 u271A u271A9 u271A7 u271t u271l ha270 h268 u264b u264c u264t h121 h120 h118 fM116 hM116 u114a u114n u114e u114l e88M111 h113 fM111 hM111 ua108 la108 h107 u106z u106t h104 hret C hp3 hp2 hp1 hp0 egp cgp ha1 hpr hM0; omega))
              refine j_lv [1, 2, 3, 0] rfl ?_; exact ih289 (a291 + 1) M304 (by exact ⟨(by (clear u307e u307A9 u307A7 fM304 hM304 h300 e88M292 u294e fM292 hM292 ih289 u271A u271A9 u271A7 u271t u271l u264t h121 h120 fM116 hM116 u114a u114e u114l e88M111 h113 fM111 hM111 ua108 la108 h107 u106z u106t h104 hret C hp3 hp2 hp1 hp0 egp cgp ha1 hpr hM0; omega)), ⟨(by (clear u307e u307A9 u307A7 fM304 hM304 h300 e88M292 u294e fM292 hM292 ih289 u271A u271A9 u271A7 u271t u271l u264t h121 h120 fM116 hM116 u114a u114e u114l e88M111 h113 fM111 hM111 ua108 la108 h107 u106z u106t h104 hret C hp3 hp2 hp1 hp0 egp cgp ha1 hpr hM0; omega)), ⟨u307l, ⟨u307r, ⟨u307A, ⟨u307t, ⟨(by (clear u307e u307A9 u307A7 fM304 hM304 h300 e88M292 u294e fM292 hM292 ih289 u271A u271A9 u271A7 u271t u271l u264t h121 h120 fM116 hM116 u114a u114e u114l e88M111 h113 fM111 hM111 ua108 la108 h107 u106z u106t h104 hret C hp3 hp2 hp1 hp0 egp cgp ha1 hpr hM0; omega)), (by (clear u307e u307A9 u307A7 fM304 hM304 h300 e88M292 u294e fM292 hM292 ih289 u271A u271A9 u271A7 u271t u271l u264t h121 h120 fM116 hM116 u114a u114e u114l e88M111 h113 fM111 hM111 ua108 la108 h107 u106z u106t h104 hret C hp3 hp2 hp1 hp0 egp cgp ha1 hpr hM0; omega))⟩⟩⟩⟩⟩⟩⟩) hM304 ((FX.rf.tr fM292 (by decide)).tr fM304 (by decide))
        refine j_lv [4, 5, 1, 0] rfl ?_; exact L290 2010 0 M116 (by exact ⟨(by decide), ⟨(by decide), ⟨u271l, ⟨h118.2.2.2, ⟨u271A, ⟨u271t, ⟨(by (clear L290 u271A9 u271A7 u264b u264c u264t h121 fM116 hM116 u114a u114e u114l e88M111 h113 fM111 hM111 ua108 la108 h107 u106z u106t h104 hret C hp3 hp2 hp1 hp0 egp cgp ha1 hpr hM0; omega)), (by decide)⟩⟩⟩⟩⟩⟩⟩) hM116 ((FX.rf.tr fM111 (by decide)).tr fM116 (by decide))
    · refine y_bipush C dX11_lists_47 rfl ?_
      have u310s := lsA_s (ntX M0 a1) (enF (rwX M0 gp 12) (-1)) (tsX M0 a1)
      have u310k := trs_f (((FX.rf.tr fM111 (by decide)).tr fM116 (by decide)) : FX [81, 82, 83, 84, 85, 86, 88, 89, 90, 91] M0 M116) (by decide)
      have u310A7 := hM111.rd (i := gp) (c := 6) (k := 7) cgp (show s_b 6 7 = (0, 900) from rfl)
      have u310A9 := hM111.rd (i := gp) (c := 6) (k := 9) cgp (show s_b 6 9 = (0, 900) from rfl)
      have u310A := apx_o (M := M111) (N := M116) (p := gp) (ple_f (p := gp) ((FX.rf.tr fM116 (by decide)) : FX [91] M111 M116) cgp (by decide)) (((FX.rf.tr fM116 (by decide)) : FX [91] M111 M116).cell (by decide)) (((FX.rf.tr fM116 (by decide)) : FX [91] M111 M116).cell (by decide)) (((FX.rf.tr fM116 (by decide)) : FX [91] M111 M116).cell (by decide)) u310A7.1 u310A9.1 (by exact u114a)
      exact hret _ _ _ _ dX11_lists_49 ⟨(-5), rfl, hM116, ((FX.rf.tr fM111 (by decide)).tr fM116 (by decide)), by exact ⟨(by decide), ⟨(by decide), ⟨(by (clear u310A9 u310A7 fM116 hM116 u114a u114n u114e u114l e88M111 h113 fM111 hM111 ua108 la108 u106z u106t hret C hp3 hp2 hp1 hp0 egp cgp ha1 hpr hM0; omega)), ⟨(by (clear u310A9 u310A7 fM116 hM116 u114a u114n u114e u114l e88M111 h113 fM111 hM111 ua108 la108 u106z u106t hret C hp3 hp2 hp1 hp0 egp cgp ha1 hpr hM0; omega)), u310A⟩⟩⟩⟩⟩
  · refine j_iload_n C 0 2 dX11_lists_10 rfl rfl ?_
    have u311s := lsA_s (ntX M0 a1) (enF (rwX M0 gp 12) (-1)) (tsX M0 a1)
    have u311k := trs_r M0
    exact hret _ _ _ _ dX11_lists_11 ⟨a105, rfl, hM0, FX.rf, by exact ⟨h104.1, ⟨(by (clear u106t hret C hp3 hp2 hp1 egp cgp ha1 hpr hM0; omega)), ⟨(by (clear u106t hret C hp3 hp2 hp1 egp cgp ha1 hpr hM0; omega)), ⟨(by (clear u106t hret C hp3 hp2 hp1 egp cgp ha1 hpr hM0; omega)), hp0⟩⟩⟩⟩⟩
end
section
set_option maxHeartbeats 4000000 in
theorem s8_J7_fill_d0a16 {l : Launch} {dC : Nat → ClassId} {dI : Nat → Nat → Nat} {ad : Nat → Nat} {cA : Nat → ClassId} {pr : Nat → Nat → Bool} {Kz : mm_M} {M0 : mm_M} (hM0 : INV pr Kz M0) (hpr : PX pr) {v0 : Nat} (cv0 : s_c v0 = 41) (a1 : Int) (ha1 : -9223372036854775808 ≤ a1 ∧ a1 ≤ 9223372036854775807) : Cv l 0 yJ7_fill_d0a16 wsJ7_fill_d0a16 dC dI ad cA [.ref (ad v0), .long (sJ a1)] M0 (fun M' => INV pr Kz M' ∧ FX [92, 93] M0 M' ∧ (b01 (FIJ M' v0 a1 256) = 1)) := by
  refine cv_of (cc := cJ7_fill_d0a16) (maxL := 5) (lv := [(0, .ref (ad v0)), (1, .long (sJ a1))]) (by decide) rfl (Nat.le_of_ble_eq_true rfl) rfl ?_
  intro p e s m args below meth c A Q C hret
  refine y_iconst C dJ7_fill_d0a16_0 ?_
  refine j_istore_n C 3 [(3, .int (sI 0)), (0, .ref (ad v0)), (1, .long (sJ a1))] dJ7_fill_d0a16_1 rfl (by decide) rfl ?_
  refine j_aload_n C 1 0 dJ7_fill_d0a16_2 rfl rfl ?_
  refine y_alen C 41 256 cv0 rfl rfl an_41 rfl rfl dJ7_fill_d0a16_3 ?_
  refine j_istore C 4 [(4, .int (sI 256)), (3, .int (sI 0)), (0, .ref (ad v0)), (1, .long (sJ a1))] dJ7_fill_d0a16_4 (by decide) rfl ?_
  have u101z := fij_0 M0 v0 a1
  have L266 : ∀ (n264 : Nat), ∀ (a267 : Int) (M268 : mm_M), (0 ≤ a267 ∧ a267 ≤ 256 ∧ (b01 (FIJ M268 v0 a1 a267) = 1) ∧ (256 - a267) < (n264 : Int)) → INV pr Kz M268 → FX [92, 93] M0 M268 → jj p l e (cn_R 0) s m args below meth c 0 0 Q 5 dC dI ad cA A M268 6 [(0, .ref (ad v0)), (1, .long (sJ a1)), (3, .int (sI a267)), (4, .int (sI 256))] [] := by
    intro n264
    induction n264 with
    | zero =>
      intro a267 M268 h269 hM268 fM268
      exfalso; omega
    | succ n264 ih265 =>
      intro a267 M268 h269 hM268 fM268
      refine j_iload_n C 2 3 dJ7_fill_d0a16_6 rfl rfl ?_
      refine j_iload C 3 dJ7_fill_d0a16_7 rfl ?_
      refine y_icmp_ge C 22 dJ7_fill_d0a16_9 (by decide) (by exact ⟨⟨(by (clear fM268 hM268 ih265 u101z hret C ha1 cv0 hpr hM0; omega)), (by (clear fM268 hM268 ih265 u101z hret C ha1 cv0 hpr hM0; omega))⟩, ⟨(by decide), (by decide)⟩⟩) (fun h271 => ?_) (fun h271 => ?_)
      · have u274x : b01 (FIJ M268 v0 a1 256) = 1 := b01_i (fun k hk => b01_e (P := FIJ M268 v0 a1 a267) (by exact h269.2.2.1) k (by (clear fM268 hM268 ih265 u101z hret C ha1 cv0 hpr hM0; omega)))
        exact hret _ _ _ dJ7_fill_d0a16_22 ⟨hM268, (FX.rf.tr fM268 (by decide)), by exact u274x⟩
      · refine j_aload_n C 0 0 dJ7_fill_d0a16_12 rfl rfl ?_
        refine j_iload_n C 2 3 dJ7_fill_d0a16_13 rfl rfl ?_
        refine j_lload_n C 1 1 dJ7_fill_d0a16_14 rfl rfl ?_
        refine y_last C 41 256 cv0 rfl rfl ak_41 an_41 rfl hM268 (PX.w hpr cv0 rfl) dJ7_fill_d0a16_15 (by exact ⟨h269.1, (by (clear fM268 hM268 ih265 u101z hret C ha1 cv0 hpr hM0; omega))⟩) (fun M272 eM272 hM272 => ?_)
        refine y_iinc C 2 [(3, .int (sI (a267 + 1))), (0, .ref (ad v0)), (1, .long (sJ a1)), (4, .int (sI 256))] dJ7_fill_d0a16_16 rfl (by decide) rfl ?_
        refine j_goto C 6 dJ7_fill_d0a16_19 (by decide) ?_
        have u273z := fij_s (M := M268) (N := M272) (c := v0) (v := a1) (n := a267) (n' := (a267 + 1)) (by exact h269.2.2.1) eM272 (by (clear hM272 eM272 fM268 hM268 ih265 u101z hret C cv0 hpr hM0; omega))
        refine j_lv [1, 2, 0, 3] rfl ?_; exact ih265 (a267 + 1) M272 (by exact ⟨(by (clear hM272 eM272 fM268 hM268 ih265 u101z hret C ha1 cv0 hpr hM0; omega)), ⟨(by (clear hM272 eM272 fM268 hM268 ih265 u101z hret C ha1 cv0 hpr hM0; omega)), ⟨u273z, (by (clear hM272 eM272 fM268 hM268 ih265 u101z hret C ha1 cv0 hpr hM0; omega))⟩⟩⟩) hM272 (fx_wJc (FX.rf.tr fM268 (by decide)) eM272 cv0 cw_41 (by decide))
  refine j_lv [2, 3, 1, 0] rfl ?_; exact L266 2010 0 M0 (by exact ⟨(by decide), ⟨(by decide), ⟨u101z, (by decide)⟩⟩⟩) hM0 FX.rf
set_option maxHeartbeats 4000000 in
theorem s2_X5_beginRows {l : Launch} {dC : Nat → ClassId} {dI : Nat → Nat → Nat} {ad : Nat → Nat} {cA : Nat → ClassId} {pr : Nat → Nat → Bool} {Kz : mm_M} {M0 : mm_M} (hM0 : INV pr Kz M0) (hpr : PX pr)  : Cv l 1 yX5_beginRows wsX5_beginRows dC dI ad cA [.ref (ad 88)] M0 (fun M' => INV pr Kz M' ∧ FX [92, 93] M0 M') := by
  refine cv_of (cc := cX5_beginRows) (maxL := 1) (lv := [(0, .ref (ad 88))]) (by decide) rfl (Nat.le_of_ble_eq_true rfl) rfl ?_
  intro p e s m args below meth c A Q C hret
  refine j_aload_n C 0 0 dX5_beginRows_0 rfl rfl ?_
  refine y_getM C 4 41 fX5_beginRows_21 rfl rfl ft_4_4 sm_4_4 (by decide) hM0 dX5_beginRows_1 (fun v101 ev101 cv101 => ?_)
  refine y_lconst C 0 dX5_beginRows_4 rfl ?_
  refine j_callSv C (d := 0) (As := [.ref (ad v101), .long (sJ 0)]) (st := []) (s8_J7_fill_d0a16 hM0 hpr cv101 0 (by exact ⟨(by decide), (by decide)⟩)) gX5_beginRows_J7_fill_d0a16 rfl hdJ7_fill_d0a16s (by decide) (Nat.le_of_ble_eq_true rfl) dX5_beginRows_5 rfl (fun M103 h104 => ?_)
  obtain ⟨hM103, fM103, h105⟩ := h104
  refine j_aload_n C 0 0 dX5_beginRows_8 rfl rfl ?_
  refine y_getV C 4 v101 fX5_beginRows_21 rfl rfl ft_4_4 (s_pX fM103 (ev101)) dX5_beginRows_9 ?_
  refine j_aload_n C 0 0 dX5_beginRows_12 rfl rfl ?_
  refine y_getI C 4 _ _ fX5_beginRows_45 rfl rfl ft_4_13 sb_4_13 hM103 dX5_beginRows_13 (fun a106 ea106 la106 ua106 => ?_)
  refine y_lconst C 1 dX5_beginRows_16 rfl ?_
  refine y_last C 41 256 cv101 rfl rfl ak_41 an_41 rfl hM103 (PX.w hpr cv101 rfl) dX5_beginRows_17 (by exact ⟨la106, (by (clear h105 fM103 hM103 cv101 ev101 hret C hpr hM0; omega))⟩) (fun M108 eM108 hM108 => ?_)
  exact hret _ _ _ dX5_beginRows_18 ⟨hM108, (fx_wJc (FX.rf.tr fM103 (by decide)) eM108 cv101 cw_41 (by decide))⟩
set_option maxHeartbeats 4000000 in
theorem s2_X5_swapWays {l : Launch} {dC : Nat → ClassId} {dI : Nat → Nat → Nat} {ad : Nat → Nat} {cA : Nat → ClassId} {pr : Nat → Nat → Bool} {Kz : mm_M} {M0 : mm_M} (hM0 : INV pr Kz M0) (hpr : PX pr)  : Cv l 0 yX5_swapWays wsX5_swapWays dC dI ad cA [.ref (ad 88)] M0 (fun M' => INV pr Kz M' ∧ FX [88] M0 M') := by
  refine cv_of (cc := cX5_swapWays) (maxL := 2) (lv := [(0, .ref (ad 88))]) (by decide) rfl (Nat.le_of_ble_eq_true rfl) rfl ?_
  intro p e s m args below meth c A Q C hret
  refine j_aload_n C 0 0 dX5_swapWays_0 rfl rfl ?_
  refine y_getM C 4 41 fX5_swapWays_21 rfl rfl ft_4_4 sm_4_4 (by decide) hM0 dX5_swapWays_1 (fun v101 ev101 cv101 => ?_)
  refine j_astore_n C 1 [(1, .ref (ad v101)), (0, .ref (ad 88))] dX5_swapWays_4 rfl (by decide) rfl ?_
  refine j_aload_n C 1 0 dX5_swapWays_5 rfl rfl ?_
  refine j_aload_n C 1 0 dX5_swapWays_6 rfl rfl ?_
  refine y_getM C 4 41 fX5_swapWays_25 rfl rfl ft_4_5 sm_4_5 (by decide) hM0 dX5_swapWays_7 (fun v102 ev102 cv102 => ?_)
  refine y_putP C 4 41 qX5_swapWays_21 rfl rfl rfl rfl ft_4_4 sm_4_4 (by decide) hM0 (PX.w hpr rfl rfl) cv102 dX5_swapWays_10 (fun M103 eM103 hM103 => ?_)
  refine j_aload_n C 1 0 dX5_swapWays_13 rfl rfl ?_
  refine j_aload_n C 0 1 dX5_swapWays_14 rfl rfl ?_
  refine y_putP C 4 41 qX5_swapWays_25 rfl rfl rfl rfl ft_4_5 sm_4_5 (by decide) hM103 (PX.w hpr rfl rfl) cv101 dX5_swapWays_15 (fun M104 eM104 hM104 => ?_)
  exact hret _ _ _ dX5_swapWays_18 ⟨hM104, ((FX.rf.wP eM103 (by decide)).wP eM104 (by decide))⟩
set_option maxHeartbeats 4000000 in
theorem s2_X5_lengthenRows {l : Launch} {dC : Nat → ClassId} {dI : Nat → Nat → Nat} {ad : Nat → Nat} {cA : Nat → ClassId} {pr : Nat → Nat → Bool} {Kz : mm_M} {M0 : mm_M} (hM0 : INV pr Kz M0) (hpr : PX pr) (a1 : Int) (ha1 : -2147483648 ≤ a1 ∧ a1 ≤ 2147483647) : Cv l 1 yX5_lengthenRows wsX5_lengthenRows dC dI ad cA [.ref (ad 88), .int (sI a1)] M0 (fun M' => INV pr Kz M' ∧ FX [88, 92, 93] M0 M') := by
  refine cv_of (cc := cX5_lengthenRows) (maxL := 5) (lv := [(0, .ref (ad 88)), (1, .int (sI a1))]) (by decide) rfl (Nat.le_of_ble_eq_true rfl) rfl ?_
  intro p e s m args below meth c A Q C hret
  refine j_aload_n C 0 0 dX5_lengthenRows_0 rfl rfl ?_
  refine y_getM C 4 41 fX5_lengthenRows_25 rfl rfl ft_4_5 sm_4_5 (by decide) hM0 dX5_lengthenRows_1 (fun v101 ev101 cv101 => ?_)
  refine y_lconst C 0 dX5_lengthenRows_4 rfl ?_
  refine j_callSv C (d := 0) (As := [.ref (ad v101), .long (sJ 0)]) (st := []) (s8_J7_fill_d0a16 hM0 hpr cv101 0 (by exact ⟨(by decide), (by decide)⟩)) gX5_lengthenRows_J7_fill_d0a16 rfl hdJ7_fill_d0a16s (by decide) (Nat.le_of_ble_eq_true rfl) dX5_lengthenRows_5 rfl (fun M103 h104 => ?_)
  obtain ⟨hM103, fM103, h105⟩ := h104
  refine j_aload_n C 0 0 dX5_lengthenRows_8 rfl rfl ?_
  refine y_getI C 4 _ _ fX5_lengthenRows_45 rfl rfl ft_4_13 sb_4_13 hM103 dX5_lengthenRows_9 (fun a106 ea106 la106 ua106 => ?_)
  refine j_istore_n C 2 [(2, .int (sI a106)), (0, .ref (ad 88)), (1, .int (sI a1))] dX5_lengthenRows_12 rfl (by decide) rfl ?_
  have L624 : ∀ (n622 : Nat), ∀ (a625 : Int) (M626 : mm_M), (0 ≤ a625 ∧ a625 ≤ 256 ∧ (256 - a625) < (n622 : Int)) → INV pr Kz M626 → FX [88, 92, 93] M0 M626 → jj p l e (cn_R 1) s m args below meth c 0 0 Q 5 dC dI ad cA A M626 13 [(0, .ref (ad 88)), (1, .int (sI a1)), (2, .int (sI a625))] [] := by
    intro n622
    induction n622 with
    | zero =>
      intro a625 M626 h627 hM626 fM626
      exfalso; omega
    | succ n622 ih623 =>
      intro a625 M626 h627 hM626 fM626
      refine j_iload_n C 2 2 dX5_lengthenRows_13 rfl rfl ?_
      refine j_aload_n C 0 0 dX5_lengthenRows_14 rfl rfl ?_
      refine y_getI C 4 _ _ fX5_lengthenRows_38 rfl rfl ft_4_11 sb_4_11 hM626 dX5_lengthenRows_15 (fun a628 ea628 la628 ua628 => ?_)
      refine y_icmp_gt C 101 dX5_lengthenRows_18 (by decide) (by (clear fM626 hM626 ih623 ua106 la106 ea106 h105 fM103 hM103 cv101 ev101 hret C ha1 hpr hM0; omega)) (fun h630 => ?_) (fun h630 => ?_)
      · refine j_aload_n C 0 0 dX5_lengthenRows_101 rfl rfl ?_
        refine j_callVv C (d := 0) (As := []) (st := []) 88 (s_lt rfl rfl) (s_kc (c := 4) rfl rfl) (by decide) rfl (s2_X5_swapWays hM626 hpr) gX5_lengthenRows_X5_swapWays rfl hdX5_swapWays (by decide) (Nat.le_of_ble_eq_true rfl) dX5_lengthenRows_102 rfl (fun M884 h885 => ?_)
        obtain ⟨hM884, fM884⟩ := h885
        exact hret _ _ _ dX5_lengthenRows_105 ⟨hM884, ((FX.rf.tr fM626 (by decide)).tr fM884 (by decide))⟩
      · refine y_iconst C dX5_lengthenRows_21 ?_
        refine j_istore_n C 3 [(3, .int (sI 0)), (0, .ref (ad 88)), (1, .int (sI a1)), (2, .int (sI a625))] dX5_lengthenRows_22 rfl (by decide) rfl ?_
        have L850 : ∀ (n848 : Nat), ∀ (a851 : Int) (M852 : mm_M), (0 ≤ a851 ∧ a851 ≤ 6 ∧ (6 - a851) < (n848 : Int)) → INV pr Kz M852 → FX [88, 92, 93] M0 M852 → jj p l e (cn_R 1) s m args below meth c 0 0 Q 5 dC dI ad cA A M852 23 [(0, .ref (ad 88)), (1, .int (sI a1)), (2, .int (sI a625)), (3, .int (sI a851))] [] := by
          intro n848
          induction n848 with
          | zero =>
            intro a851 M852 h853 hM852 fM852
            exfalso; omega
          | succ n848 ih849 =>
            intro a851 M852 h853 hM852 fM852
            refine j_iload_n C 3 3 dX5_lengthenRows_23 rfl rfl ?_
            refine j_aload_n C 0 0 dX5_lengthenRows_24 rfl rfl ?_
            refine y_getM C 4 6 fX5_lengthenRows_52 rfl rfl ft_4_9 sm_4_9 (by decide) hM852 dX5_lengthenRows_25 (fun v854 ev854 cv854 => ?_)
            refine y_getI C 6 _ _ fX5_lengthenRows_92 cv854 rfl ft_6_0 sb_6_0 hM852 dX5_lengthenRows_28 (fun a855 ea855 la855 ua855 => ?_)
            refine y_icmp_ge C 95 dX5_lengthenRows_31 (by decide) (by (clear cv854 ev854 fM852 hM852 ih849 h630 ua628 la628 ea628 fM626 hM626 h627 ih623 ua106 la106 ea106 h105 fM103 hM103 cv101 ev101 hret C ha1 hpr hM0; omega)) (fun h857 => ?_) (fun h857 => ?_)
            · refine y_iinc C 2 [(2, .int (sI (a625 + 1))), (0, .ref (ad 88)), (1, .int (sI a1)), (3, .int (sI a851))] dX5_lengthenRows_95 rfl (by decide) rfl ?_
              refine j_goto C 13 dX5_lengthenRows_98 (by decide) ?_
              refine j_lv [1, 2, 0] rfl ?_; exact ih623 (a625 + 1) M852 (by (clear h857 ua855 la855 ea855 cv854 ev854 fM852 hM852 h853 ih849 fM626 hM626 ih623 ua106 la106 ea106 h105 fM103 hM103 cv101 ev101 hret C ha1 hpr hM0; omega)) hM852 (FX.rf.tr fM852 (by decide))
            · refine j_aload_n C 0 0 dX5_lengthenRows_34 rfl rfl ?_
              refine y_getM C 4 41 fX5_lengthenRows_21 rfl rfl ft_4_4 sm_4_4 (by decide) hM852 dX5_lengthenRows_35 (fun v858 ev858 cv858 => ?_)
              refine j_iload_n C 2 2 dX5_lengthenRows_38 rfl rfl ?_
              refine y_lald C 41 256 cv858 rfl rfl ak_41 an_41 rfl dX5_lengthenRows_39 (by exact ⟨h627.1, (by (clear cv858 ev858 h857 ua855 la855 ea855 cv854 ev854 fM852 hM852 h853 ih849 fM626 hM626 ih623 ua106 la106 ea106 h105 fM103 hM103 cv101 ev101 hret C ha1 hpr hM0; omega))⟩) (fun a859 ea859 la859 ua859 => ?_)
              refine y_lconst C 0 dX5_lengthenRows_40 rfl ?_
              refine y_lcmp_eq C 95 dX5_lengthenRows_41 dX5_lengthenRows_42 (by decide) (by exact ⟨⟨la859, ua859⟩, ⟨(by decide), (by decide)⟩⟩) (fun h860 => ?_) (fun h860 => ?_)
              · refine y_iinc C 2 [(2, .int (sI (a625 + 1))), (0, .ref (ad 88)), (1, .int (sI a1)), (3, .int (sI a851))] dX5_lengthenRows_95 rfl (by decide) rfl ?_
                refine j_goto C 13 dX5_lengthenRows_98 (by decide) ?_
                refine j_lv [1, 2, 0] rfl ?_; exact ih623 (a625 + 1) M852 (by (clear h860 ua859 la859 ea859 cv858 ev858 h857 ua855 la855 ea855 cv854 ev854 fM852 hM852 h853 ih849 fM626 hM626 ih623 ua106 la106 ea106 h105 fM103 hM103 cv101 ev101 hret C ha1 hpr hM0; omega)) hM852 (FX.rf.tr fM852 (by decide))
              · refine j_aload_n C 0 0 dX5_lengthenRows_45 rfl rfl ?_
                refine j_iload_n C 2 2 dX5_lengthenRows_46 rfl rfl ?_
                refine j_iload_n C 3 3 dX5_lengthenRows_47 rfl rfl ?_
                refine j_callVi C (d := 0) (As := [.int (sI a625), .int (sI a851)]) (st := []) 88 (s_lt rfl rfl) (s_kc (c := 4) rfl rfl) (by decide) rfl (s1_X5_pick hM852 a625 (by omega) a851 (by (clear h860 ua859 la859 ea859 cv858 ev858 h857 ua855 la855 ea855 cv854 ev854 fM852 hM852 ih849 h630 ua628 la628 ea628 fM626 hM626 h627 ih623 ua106 la106 ea106 h105 fM103 hM103 cv101 ev101 hret C ha1 hpr hM0; omega))) gX5_lengthenRows_X5_pick rfl hdX5_pick (by decide) (Nat.le_of_ble_eq_true rfl) dX5_lengthenRows_48 rfl (fun r861 M862 h863 => ?_)
                obtain ⟨a865, rfl, rfl, h864⟩ := h863
                refine j_istore C 4 [(4, .int (sI a865)), (0, .ref (ad 88)), (1, .int (sI a1)), (2, .int (sI a625)), (3, .int (sI a851))] dX5_lengthenRows_51 (by decide) rfl ?_
                refine j_iload C 0 dX5_lengthenRows_53 rfl ?_
                refine y_if_lt C 89 dX5_lengthenRows_55 (by decide) (by (clear h860 ua859 la859 ea859 cv858 ev858 h857 ua855 la855 ea855 cv854 ev854 fM852 hM852 h853 ih849 h630 ua628 la628 ea628 fM626 hM626 h627 ih623 ua106 la106 ea106 h105 fM103 hM103 cv101 ev101 hret C ha1 hpr hM0; omega)) (fun h866 => ?_) (fun h866 => ?_)
                · refine y_iinc C 4 [(3, .int (sI (a851 + 1))), (4, .int (sI a865)), (0, .ref (ad 88)), (1, .int (sI a1)), (2, .int (sI a625))] dX5_lengthenRows_89 rfl (by decide) rfl ?_
                  refine j_goto C 23 dX5_lengthenRows_92 (by decide) ?_
                  refine j_lv [2, 3, 4, 0] rfl ?_; exact ih849 (a851 + 1) M852 (by (clear h866 h864 h860 ua859 la859 ea859 cv858 ev858 cv854 ev854 fM852 hM852 ih849 h630 ua628 la628 ea628 fM626 hM626 h627 ih623 ua106 la106 ea106 h105 fM103 hM103 cv101 ev101 hret C ha1 hpr hM0; omega)) hM852 (FX.rf.tr fM852 (by decide))
                · refine j_iload_n C 2 1 dX5_lengthenRows_58 rfl rfl ?_
                  refine y_iconst C dX5_lengthenRows_59 ?_
                  refine y_icmp_eq C 69 dX5_lengthenRows_60 (by decide) (by exact ⟨⟨ha1.1, ha1.2⟩, ⟨(by decide), (by decide)⟩⟩) (fun h867 => ?_) (fun h867 => ?_)
                  · refine j_aload_n C 1 0 dX5_lengthenRows_69 rfl rfl ?_
                    refine y_getM C 4 41 fX5_lengthenRows_25 rfl rfl ft_4_5 sm_4_5 (by decide) hM852 dX5_lengthenRows_70 (fun v868 ev868 cv868 => ?_)
                    refine j_iload_n C 3 2 dX5_lengthenRows_73 rfl rfl ?_
                    refine y_iconst C dX5_lengthenRows_74 ?_
                    refine j_iload C 0 dX5_lengthenRows_75 rfl ?_
                    refine y_shl1 C 7 128 dX5_lengthenRows_77 rfl (by decide) (by (clear cv868 ev868 h867 h860 ua859 la859 ea859 cv858 ev858 h857 ua855 la855 ea855 cv854 ev854 fM852 hM852 h853 ih849 h630 ua628 la628 ea628 fM626 hM626 h627 ih623 ua106 la106 ea106 h105 fM103 hM103 cv101 ev101 hret C ha1 hpr hM0; omega)) (fun a869 la869 ua869 => ?_)
                    refine y_iorN C 8 255 dX5_lengthenRows_78 rfl (by decide) (by exact ⟨h627.1, ⟨(by (clear cv868 ev868 h867 h866 h864 h860 ua859 la859 ea859 cv858 ev858 h857 ua855 la855 ea855 cv854 ev854 fM852 hM852 h853 ih849 fM626 hM626 ih623 ua106 la106 ea106 h105 fM103 hM103 cv101 ev101 hret C ha1 hpr hM0; omega)), ⟨(by (clear cv868 ev868 h867 h866 h864 h860 ua859 la859 ea859 cv858 ev858 h857 ua855 la855 ea855 cv854 ev854 fM852 hM852 h853 ih849 fM626 hM626 ih623 ua106 la106 ea106 h105 fM103 hM103 cv101 ev101 hret C ha1 hpr hM0; omega)), (by (clear cv868 ev868 h867 h866 h864 h860 ua859 la859 ea859 cv858 ev858 h857 ua855 la855 ea855 cv854 ev854 fM852 hM852 h853 ih849 fM626 hM626 ih623 ua106 la106 ea106 h105 fM103 hM103 cv101 ev101 hret C ha1 hpr hM0; omega))⟩⟩⟩) (fun a870 la870 ua870 => ?_)
                    refine j_dup2 C dX5_lengthenRows_79 rfl rfl ?_
                    refine y_lald C 41 256 cv868 rfl rfl ak_41 an_41 rfl dX5_lengthenRows_80 (by exact ⟨la870, (by (clear ua869 la869 cv868 ev868 h867 h866 h864 h860 ua859 la859 ea859 cv858 ev858 h857 ua855 la855 ea855 cv854 ev854 fM852 hM852 h853 ih849 h630 ua628 la628 ea628 fM626 hM626 h627 ih623 ua106 la106 ea106 h105 fM103 hM103 cv101 ev101 hret C ha1 hpr hM0; omega))⟩) (fun a871 ea871 la871 ua871 => ?_)
                    refine j_aload_n C 1 0 dX5_lengthenRows_81 rfl rfl ?_
                    refine y_getV C 4 v858 fX5_lengthenRows_21 rfl rfl ft_4_4 (ev858) dX5_lengthenRows_82 ?_
                    refine j_iload_n C 3 2 dX5_lengthenRows_85 rfl rfl ?_
                    refine y_lald C 41 256 cv858 rfl rfl ak_41 an_41 rfl dX5_lengthenRows_86 (by exact ⟨h627.1, (by (clear ua871 la871 ea871 ua870 la870 ua869 la869 cv868 ev868 h867 h866 h864 h860 ua859 la859 ea859 cv858 ev858 h857 ua855 la855 ea855 cv854 ev854 fM852 hM852 h853 ih849 fM626 hM626 ih623 ua106 la106 ea106 h105 fM103 hM103 cv101 ev101 hret C ha1 hpr hM0; omega))⟩) (fun a872 ea872 la872 ua872 => ?_)
                    refine y_ladd0 C dX5_lengthenRows_87 (fun a873 la873 ua873 => ?_)
                    refine y_last C 41 256 cv868 rfl rfl ak_41 an_41 rfl hM852 (PX.w hpr cv868 rfl) dX5_lengthenRows_88 (by exact ⟨la870, (by (clear ua873 la873 ua872 la872 ea872 ua871 la871 ea871 ua869 la869 cv868 ev868 h867 h866 h864 h860 ua859 la859 ea859 cv858 ev858 h857 ua855 la855 ea855 cv854 ev854 fM852 hM852 h853 ih849 h630 ua628 la628 ea628 fM626 hM626 h627 ih623 ua106 la106 ea106 h105 fM103 hM103 cv101 ev101 hret C ha1 hpr hM0; omega))⟩) (fun M874 eM874 hM874 => ?_)
                    refine y_iinc C 4 [(3, .int (sI (a851 + 1))), (4, .int (sI a865)), (0, .ref (ad 88)), (1, .int (sI a1)), (2, .int (sI a625))] dX5_lengthenRows_89 rfl (by decide) rfl ?_
                    refine j_goto C 23 dX5_lengthenRows_92 (by decide) ?_
                    refine j_lv [2, 3, 4, 0] rfl ?_; exact ih849 (a851 + 1) M874 (by (clear hM874 eM874 ua873 la873 ua872 la872 ea872 ua871 la871 ea871 ua870 la870 ua869 la869 cv868 ev868 h867 h866 h864 h860 ua859 la859 ea859 cv858 ev858 cv854 ev854 fM852 hM852 ih849 h630 ua628 la628 ea628 fM626 hM626 h627 ih623 ua106 la106 ea106 h105 fM103 hM103 cv101 ev101 hret C ha1 hpr hM0; omega)) hM874 (fx_wJc (FX.rf.tr fM852 (by decide)) eM874 cv868 cw_41 (by decide))
                  · refine j_iload_n C 2 1 dX5_lengthenRows_63 rfl rfl ?_
                    refine j_iload C 0 dX5_lengthenRows_64 rfl ?_
                    refine y_icmp_ne C 89 dX5_lengthenRows_66 (by decide) (by exact ⟨⟨ha1.1, ha1.2⟩, ⟨(by (clear h867 h860 ua859 la859 ea859 cv858 ev858 h857 ua855 la855 ea855 cv854 ev854 fM852 hM852 h853 ih849 h630 ua628 la628 ea628 fM626 hM626 h627 ih623 ua106 la106 ea106 h105 fM103 hM103 cv101 ev101 hret C hpr hM0; omega)), (by (clear h867 h860 ua859 la859 ea859 cv858 ev858 h857 ua855 la855 ea855 cv854 ev854 fM852 hM852 h853 ih849 h630 ua628 la628 ea628 fM626 hM626 h627 ih623 ua106 la106 ea106 h105 fM103 hM103 cv101 ev101 hret C hpr hM0; omega))⟩⟩) (fun h875 => ?_) (fun h875 => ?_)
                    · refine y_iinc C 4 [(3, .int (sI (a851 + 1))), (4, .int (sI a865)), (0, .ref (ad 88)), (1, .int (sI a1)), (2, .int (sI a625))] dX5_lengthenRows_89 rfl (by decide) rfl ?_
                      refine j_goto C 23 dX5_lengthenRows_92 (by decide) ?_
                      refine j_lv [2, 3, 4, 0] rfl ?_; exact ih849 (a851 + 1) M852 (by omega) hM852 (FX.rf.tr fM852 (by decide))
                    · refine j_aload_n C 1 0 dX5_lengthenRows_69 rfl rfl ?_
                      refine y_getM C 4 41 fX5_lengthenRows_25 rfl rfl ft_4_5 sm_4_5 (by decide) hM852 dX5_lengthenRows_70 (fun v876 ev876 cv876 => ?_)
                      refine j_iload_n C 3 2 dX5_lengthenRows_73 rfl rfl ?_
                      refine y_iconst C dX5_lengthenRows_74 ?_
                      refine j_iload C 0 dX5_lengthenRows_75 rfl ?_
                      refine y_shl1 C 7 128 dX5_lengthenRows_77 rfl (by decide) (by omega) (fun a877 la877 ua877 => ?_)
                      refine y_iorN C 8 255 dX5_lengthenRows_78 rfl (by decide) (by exact ⟨h627.1, ⟨(by omega), ⟨(by omega), (by omega)⟩⟩⟩) (fun a878 la878 ua878 => ?_)
                      refine j_dup2 C dX5_lengthenRows_79 rfl rfl ?_
                      refine y_lald C 41 256 cv876 rfl rfl ak_41 an_41 rfl dX5_lengthenRows_80 (by exact ⟨la878, (by omega)⟩) (fun a879 ea879 la879 ua879 => ?_)
                      refine j_aload_n C 1 0 dX5_lengthenRows_81 rfl rfl ?_
                      refine y_getV C 4 v858 fX5_lengthenRows_21 rfl rfl ft_4_4 (ev858) dX5_lengthenRows_82 ?_
                      refine j_iload_n C 3 2 dX5_lengthenRows_85 rfl rfl ?_
                      refine y_lald C 41 256 cv858 rfl rfl ak_41 an_41 rfl dX5_lengthenRows_86 (by exact ⟨h627.1, (by omega)⟩) (fun a880 ea880 la880 ua880 => ?_)
                      refine y_ladd0 C dX5_lengthenRows_87 (fun a881 la881 ua881 => ?_)
                      refine y_last C 41 256 cv876 rfl rfl ak_41 an_41 rfl hM852 (PX.w hpr cv876 rfl) dX5_lengthenRows_88 (by exact ⟨la878, (by omega)⟩) (fun M882 eM882 hM882 => ?_)
                      refine y_iinc C 4 [(3, .int (sI (a851 + 1))), (4, .int (sI a865)), (0, .ref (ad 88)), (1, .int (sI a1)), (2, .int (sI a625))] dX5_lengthenRows_89 rfl (by decide) rfl ?_
                      refine j_goto C 23 dX5_lengthenRows_92 (by decide) ?_
                      refine j_lv [2, 3, 4, 0] rfl ?_; exact ih849 (a851 + 1) M882 (by omega) hM882 (fx_wJc (FX.rf.tr fM852 (by decide)) eM882 cv876 cw_41 (by decide))
        refine j_lv [1, 2, 3, 0] rfl ?_; exact L850 2010 0 M626 (by exact ⟨(by decide), ⟨(by decide), (by decide)⟩⟩) hM626 (FX.rf.tr fM626 (by decide))
  refine j_lv [1, 2, 0] rfl ?_; exact L624 2010 a106 M103 (by exact ⟨la106, ⟨(by (clear L624 h105 fM103 hM103 cv101 ev101 hret C ha1 hpr hM0; omega)), (by (clear L624 h105 fM103 hM103 cv101 ev101 hret C ha1 hpr hM0; omega))⟩⟩) hM103 (FX.rf.tr fM103 (by decide))
set_option maxHeartbeats 4000000 in
theorem s2_X5_rowsToShut {l : Launch} {dC : Nat → ClassId} {dI : Nat → Nat → Nat} {ad : Nat → Nat} {cA : Nat → ClassId} {pr : Nat → Nat → Bool} {Kz : mm_M} {M0 : mm_M} (hM0 : INV pr Kz M0) (hpr : PX pr) (a1 : Int) (ha1 : -2147483648 ≤ a1 ∧ a1 ≤ 2147483647) : Cj l 2 yX5_rowsToShut wsX5_rowsToShut dC dI ad cA [.ref (ad 88), .int (sI a1)] M0 (fun r M' => ∃ a : Int, r = sJ a ∧ INV pr Kz M' ∧ FX [88, 92, 93] M0 M' ∧ (-9223372036854775808) ≤ a ∧ a ≤ 9223372036854775807) := by
  refine cj_of (cc := cX5_rowsToShut) (maxL := 3) (lv := [(0, .ref (ad 88)), (1, .int (sI a1))]) (by decide) rfl (Nat.le_of_ble_eq_true rfl) rfl ?_
  intro p e s m args below meth c A Q C hret
  refine j_aload_n C 0 0 dX5_rowsToShut_0 rfl rfl ?_
  refine j_callVv C (d := 1) (As := []) (st := []) 88 (s_lt rfl rfl) (s_kc (c := 4) rfl rfl) (by decide) rfl (s2_X5_beginRows hM0 hpr) gX5_rowsToShut_X5_beginRows rfl hdX5_beginRows (by decide) (Nat.le_of_ble_eq_true rfl) dX5_rowsToShut_1 rfl (fun M102 h103 => ?_)
  obtain ⟨hM102, fM102⟩ := h103
  refine y_iconst C dX5_rowsToShut_4 ?_
  refine j_istore_n C 2 [(2, .int (sI 0)), (0, .ref (ad 88)), (1, .int (sI a1))] dX5_rowsToShut_5 rfl (by decide) rfl ?_
  have L345 : ∀ (n343 : Nat), ∀ (a346 : Int) (M347 : mm_M), (0 ≤ a346 ∧ a346 ≤ 2147483647 ∧ (2147483647 - a346) < (n343 : Int)) → INV pr Kz M347 → FX [88, 92, 93] M0 M347 → jj p l e (cn_R 2) s m args below meth c 0 0 Q 3 dC dI ad cA A M347 6 [(0, .ref (ad 88)), (1, .int (sI a1)), (2, .int (sI a346))] [] := by
    intro n343
    induction n343 with
    | zero =>
      intro a346 M347 h348 hM347 fM347
      exfalso; omega
    | succ n343 ih344 =>
      intro a346 M347 h348 hM347 fM347
      refine j_iload_n C 2 2 dX5_rowsToShut_6 rfl rfl ?_
      refine j_iload_n C 1 1 dX5_rowsToShut_7 rfl rfl ?_
      refine y_icmp_ge C 22 dX5_rowsToShut_8 (by decide) (by exact ⟨⟨(by (clear fM347 hM347 ih344 fM102 hM102 hret C hpr hM0; omega)), h348.2.1⟩, ⟨ha1.1, ha1.2⟩⟩) (fun h349 => ?_) (fun h349 => ?_)
      · refine j_aload_n C 0 0 dX5_rowsToShut_22 rfl rfl ?_
        refine j_callVj C (d := 0) (As := []) (st := []) 88 (s_lt rfl rfl) (s_kc (c := 4) rfl rfl) (by decide) rfl (s1_X5_allWays hM347) gX5_rowsToShut_X5_allWays rfl hdX5_allWays (by decide) (Nat.le_of_ble_eq_true rfl) dX5_rowsToShut_23 rfl (fun r354 M355 h356 => ?_)
        obtain ⟨a358, rfl, rfl, h357⟩ := h356
        refine j_aload_n C 0 0 dX5_rowsToShut_26 rfl rfl ?_
        refine j_callVj C (d := 1) (As := []) (st := [.long (sJ a358)]) 88 (s_lt rfl rfl) (s_kc (c := 4) rfl rfl) (by decide) rfl (s1_X5_openWays hM347) gX5_rowsToShut_X5_openWays rfl hdX5_openWays (by decide) (Nat.le_of_ble_eq_true rfl) dX5_rowsToShut_27 rfl (fun r359 M360 h361 => ?_)
        obtain ⟨a363, rfl, rfl, h362⟩ := h361
        refine y_lsub0 C dX5_rowsToShut_30 (fun a364 la364 ua364 => ?_)
        exact hret _ _ _ _ dX5_rowsToShut_31 ⟨a364, rfl, hM347, (FX.rf.tr fM347 (by decide)), by exact ⟨la364, ua364⟩⟩
      · refine j_aload_n C 0 0 dX5_rowsToShut_11 rfl rfl ?_
        refine y_iconst C dX5_rowsToShut_12 ?_
        refine j_callVv C (d := 1) (As := [.int (sI (-1))]) (st := []) 88 (s_lt rfl rfl) (s_kc (c := 4) rfl rfl) (by decide) rfl (s2_X5_lengthenRows hM347 hpr (-1) (by exact ⟨(by decide), (by decide)⟩)) gX5_rowsToShut_X5_lengthenRows rfl hdX5_lengthenRows (by decide) (Nat.le_of_ble_eq_true rfl) dX5_rowsToShut_13 rfl (fun M351 h352 => ?_)
        obtain ⟨hM351, fM351⟩ := h352
        refine y_iinc C 2 [(2, .int (sI (a346 + 1))), (0, .ref (ad 88)), (1, .int (sI a1))] dX5_rowsToShut_16 rfl (by decide) rfl ?_
        refine j_goto C 6 dX5_rowsToShut_19 (by decide) ?_
        refine j_lv [1, 2, 0] rfl ?_; exact ih344 (a346 + 1) M351 (by (clear fM351 hM351 fM347 hM347 ih344 fM102 hM102 hret C hpr hM0; omega)) hM351 ((FX.rf.tr fM347 (by decide)).tr fM351 (by decide))
  refine j_lv [1, 2, 0] rfl ?_; exact L345 4294967304 0 M102 (by exact ⟨(by decide), ⟨(by decide), (by decide)⟩⟩) hM102 (FX.rf.tr fM102 (by decide))
set_option maxHeartbeats 4000000 in
theorem s2_X11_endings {l : Launch} {dC : Nat → ClassId} {dI : Nat → Nat → Nat} {ad : Nat → Nat} {cA : Nat → ClassId} {pr : Nat → Nat → Bool} {Kz : mm_M} {M0 : mm_M} (hM0 : INV pr Kz M0) (hpr : PX pr) (a1 : Int) (ha1 : -2147483648 ≤ a1 ∧ a1 ≤ 2147483647) (gp : Nat) (cgp : s_c gp = 6) (egp : gp = M0.2.2 0 4) (hp0 : b01 (APX M0 gp) = 1) (hp1 : b01 (LAW M0 gp) = 1) (hp2 : b01 (PRR (rwX M0 gp 12)) = 1) (hp3 : (M0.1 12 3).toInt < pw2 (M0.1 12 0).toInt) : Cj l 6 yX11_endings wsX11_endings dC dI ad cA [.ref (ad 0), .int (sI a1)] M0 (fun r M' => ∃ a : Int, r = sJ a ∧ INV pr Kz M' ∧ FX [81, 82, 83, 84, 85, 86, 88, 89, 90, 92, 93] M0 M' ∧ (-9223372036854775808) ≤ a ∧ a ≤ 9223372036854775807 ∧ (b01 (APX M' gp) = 1)) := by
  refine cj_of (cc := cX11_endings) (maxL := 2) (lv := [(0, .ref (ad 0)), (1, .int (sI a1))]) (by decide) rfl (Nat.le_of_ble_eq_true rfl) rfl ?_
  intro p e s m args below meth c A Q C hret
  refine j_iload_n C 1 1 dX11_endings_0 rfl rfl ?_
  refine y_if_lt C 10 dX11_endings_1 (by decide) (by exact ⟨ha1.1, ha1.2⟩) (fun h102 => ?_) (fun h102 => ?_)
  · refine y_ldc2 C (-3) dX11_endings_10 kX11_endings_272 rfl ?_
    exact hret _ _ _ _ dX11_endings_13 ⟨(-3), rfl, hM0, FX.rf, by exact ⟨(by decide), ⟨(by decide), hp0⟩⟩⟩
  · refine j_iload_n C 1 1 dX11_endings_4 rfl rfl ?_
    refine y_bipush C dX11_endings_5 rfl ?_
    refine y_icmp_le C 14 dX11_endings_7 (by decide) (by exact ⟨⟨ha1.1, ha1.2⟩, ⟨(by decide), (by decide)⟩⟩) (fun h104 => ?_) (fun h104 => ?_)
    · refine j_aload_n C 0 0 dX11_endings_14 rfl rfl ?_
      refine y_getC C 10 88 fX11_endings_94 rfl rfl ft_10_14 sm_10_14 rfl hM0 dX11_endings_15 ?_
      refine j_aload_n C 0 0 dX11_endings_18 rfl rfl ?_
      refine y_getV C 10 gp fX11_endings_26 rfl rfl ft_10_4 (egp) dX11_endings_19 ?_
      refine j_aload_n C 0 0 dX11_endings_22 rfl rfl ?_
      refine y_getC C 10 12 fX11_endings_36 rfl rfl ft_10_6 sm_10_6 rfl hM0 dX11_endings_23 ?_
      refine j_aload_n C 0 0 dX11_endings_26 rfl rfl ?_
      refine y_getC C 10 12 fX11_endings_36 rfl rfl ft_10_6 sm_10_6 rfl hM0 dX11_endings_27 ?_
      refine y_getI C 8 _ _ fX11_endings_153 rfl rfl ft_8_4 sb_8_4 hM0 dX11_endings_30 (fun a105 ea105 la105 ua105 => ?_)
      refine j_callVv C (d := 5) (As := [.ref (ad gp), .ref (ad 12), .int (sI a105)]) (st := []) 88 (s_lt rfl rfl) (s_kc (c := 4) rfl rfl) (by decide) rfl (s2_X5_look hM0 hpr cgp a105 (by (clear h104 h102 hret C hp3 hp2 hp1 hp0 egp cgp ha1 hpr hM0; omega)) (by exact hp0) (by exact hp1) (by exact hp2) (by exact hp3) (by exact ⟨la105, ua105⟩)) gX11_endings_X5_look rfl hdX5_look (by decide) (Nat.le_of_ble_eq_true rfl) dX11_endings_33 rfl (fun M109 h110 => ?_)
      obtain ⟨hM109, fM109, h111⟩ := h110
      have u112a := tn_a (M := M109) (p := gp) (f := rwX M0 gp 12) (by exact h111.2.1)
      refine j_aload_n C 0 0 dX11_endings_36 rfl rfl ?_
      refine y_getC C 10 88 fX11_endings_94 rfl rfl ft_10_14 sm_10_14 rfl hM109 dX11_endings_37 ?_
      refine j_iload_n C 1 1 dX11_endings_40 rfl rfl ?_
      refine j_callVj C (d := 2) (As := [.int (sI a1)]) (st := []) 88 (s_lt rfl rfl) (s_kc (c := 4) rfl rfl) (by decide) rfl (s2_X5_rowsToShut hM109 hpr a1 (by exact ⟨ha1.1, ha1.2⟩)) gX11_endings_X5_rowsToShut rfl hdX5_rowsToShut (by decide) (Nat.le_of_ble_eq_true rfl) dX11_endings_41 rfl (fun r113 M114 h115 => ?_)
      obtain ⟨a117, rfl, hM114, fM114, h116⟩ := h115
      have u118A7 := hM109.rd (i := gp) (c := 6) (k := 7) cgp (show s_b 6 7 = (0, 900) from rfl)
      have u118A9 := hM109.rd (i := gp) (c := 6) (k := 9) cgp (show s_b 6 9 = (0, 900) from rfl)
      have u118A := apx_o (M := M109) (N := M114) (p := gp) (ple_f (p := gp) ((FX.rf.tr fM114 (by decide)) : FX [88, 92, 93] M109 M114) cgp (by decide)) (((FX.rf.tr fM114 (by decide)) : FX [88, 92, 93] M109 M114).cell (by decide)) (((FX.rf.tr fM114 (by decide)) : FX [88, 92, 93] M109 M114).cell (by decide)) (((FX.rf.tr fM114 (by decide)) : FX [88, 92, 93] M109 M114).cell (by decide)) u118A7.1 u118A9.1 (by exact u112a)
      exact hret _ _ _ _ dX11_endings_44 ⟨a117, rfl, hM114, ((FX.rf.tr fM109 (by decide)).tr fM114 (by decide)), by exact ⟨h116.1, ⟨h116.2, u118A⟩⟩⟩
    · refine y_ldc2 C (-3) dX11_endings_10 kX11_endings_272 rfl ?_
      exact hret _ _ _ _ dX11_endings_13 ⟨(-3), rfl, hM0, FX.rf, by exact ⟨(by decide), ⟨(by decide), hp0⟩⟩⟩
set_option maxHeartbeats 4000000 in
theorem s9_J7_fill_d0a16 {l : Launch} {dC : Nat → ClassId} {dI : Nat → Nat → Nat} {ad : Nat → Nat} {cA : Nat → ClassId} {pr : Nat → Nat → Bool} {Kz : mm_M} {M0 : mm_M} (hM0 : INV pr Kz M0) (hpr : PX pr) (a1 : Int) (ha1 : -9223372036854775808 ≤ a1 ∧ a1 ≤ 9223372036854775807) : Cv l 0 yJ7_fill_d0a16 wsJ7_fill_d0a16 dC dI ad cA [.ref (ad 94), .long (sJ a1)] M0 (fun M' => INV pr Kz M' ∧ FX [94] M0 M' ∧ (b01 (FIJ M' 94 a1 6) = 1)) := by
  refine cv_of (cc := cJ7_fill_d0a16) (maxL := 5) (lv := [(0, .ref (ad 94)), (1, .long (sJ a1))]) (by decide) rfl (Nat.le_of_ble_eq_true rfl) rfl ?_
  intro p e s m args below meth c A Q C hret
  refine y_iconst C dJ7_fill_d0a16_0 ?_
  refine j_istore_n C 3 [(3, .int (sI 0)), (0, .ref (ad 94)), (1, .long (sJ a1))] dJ7_fill_d0a16_1 rfl (by decide) rfl ?_
  refine j_aload_n C 1 0 dJ7_fill_d0a16_2 rfl rfl ?_
  refine y_alen C 42 6 rfl rfl rfl an_42 rfl rfl dJ7_fill_d0a16_3 ?_
  refine j_istore C 4 [(4, .int (sI 6)), (3, .int (sI 0)), (0, .ref (ad 94)), (1, .long (sJ a1))] dJ7_fill_d0a16_4 (by decide) rfl ?_
  have u101z := fij_0 M0 94 a1
  have L146 : ∀ (n144 : Nat), ∀ (a147 : Int) (M148 : mm_M), (0 ≤ a147 ∧ a147 ≤ 6 ∧ (b01 (FIJ M148 94 a1 a147) = 1) ∧ (6 - a147) < (n144 : Int)) → INV pr Kz M148 → FX [94] M0 M148 → jj p l e (cn_R 0) s m args below meth c 0 0 Q 5 dC dI ad cA A M148 6 [(0, .ref (ad 94)), (1, .long (sJ a1)), (3, .int (sI a147)), (4, .int (sI 6))] [] := by
    intro n144
    induction n144 with
    | zero =>
      intro a147 M148 h149 hM148 fM148
      exfalso; omega
    | succ n144 ih145 =>
      intro a147 M148 h149 hM148 fM148
      refine j_iload_n C 2 3 dJ7_fill_d0a16_6 rfl rfl ?_
      refine j_iload C 3 dJ7_fill_d0a16_7 rfl ?_
      refine y_icmp_ge C 22 dJ7_fill_d0a16_9 (by decide) (by exact ⟨⟨(by omega), (by omega)⟩, ⟨(by decide), (by decide)⟩⟩) (fun h151 => ?_) (fun h151 => ?_)
      · have u154x : b01 (FIJ M148 94 a1 6) = 1 := b01_i (fun k hk => b01_e (P := FIJ M148 94 a1 a147) (by exact h149.2.2.1) k (by omega))
        exact hret _ _ _ dJ7_fill_d0a16_22 ⟨hM148, (FX.rf.tr fM148 (by decide)), by exact u154x⟩
      · refine j_aload_n C 0 0 dJ7_fill_d0a16_12 rfl rfl ?_
        refine j_iload_n C 2 3 dJ7_fill_d0a16_13 rfl rfl ?_
        refine j_lload_n C 1 1 dJ7_fill_d0a16_14 rfl rfl ?_
        refine y_last C 42 6 rfl rfl rfl ak_42 an_42 rfl hM148 (PX.w hpr rfl rfl) dJ7_fill_d0a16_15 (by exact ⟨h149.1, (by omega)⟩) (fun M152 eM152 hM152 => ?_)
        refine y_iinc C 2 [(3, .int (sI (a147 + 1))), (0, .ref (ad 94)), (1, .long (sJ a1)), (4, .int (sI 6))] dJ7_fill_d0a16_16 rfl (by decide) rfl ?_
        refine j_goto C 6 dJ7_fill_d0a16_19 (by decide) ?_
        have u153z := fij_s (M := M148) (N := M152) (c := 94) (v := a1) (n := a147) (n' := (a147 + 1)) (by exact h149.2.2.1) eM152 (by (clear hM152 eM152 fM148 hM148 ih145 u101z hret C hpr hM0; omega))
        refine j_lv [1, 2, 0, 3] rfl ?_; exact ih145 (a147 + 1) M152 (by exact ⟨(by (clear hM152 eM152 fM148 hM148 ih145 u101z hret C ha1 hpr hM0; omega)), ⟨(by (clear hM152 eM152 fM148 hM148 ih145 u101z hret C ha1 hpr hM0; omega)), ⟨u153z, (by (clear hM152 eM152 fM148 hM148 ih145 u101z hret C ha1 hpr hM0; omega))⟩⟩⟩) hM152 ((FX.rf.tr fM148 (by decide)).wJ eM152 (by decide))
  refine j_lv [2, 3, 1, 0] rfl ?_; exact L146 2010 0 M0 (by exact ⟨(by decide), ⟨(by decide), ⟨u101z, (by decide)⟩⟩⟩) hM0 FX.rf
set_option maxHeartbeats 4000000 in
theorem s2_X5_spread {l : Launch} {dC : Nat → ClassId} {dI : Nat → Nat → Nat} {ad : Nat → Nat} {cA : Nat → ClassId} {pr : Nat → Nat → Bool} {Kz : mm_M} {M0 : mm_M} (hM0 : INV pr Kz M0) (hpr : PX pr) (a1 : Int) (ha1 : -2147483648 ≤ a1 ∧ a1 ≤ 2147483647) (hp0 : 0 ≤ a1 ∧ a1 ≤ 255) : Cv l 1 yX5_spread wsX5_spread dC dI ad cA [.ref (ad 88), .int (sI a1)] M0 (fun M' => INV pr Kz M' ∧ FX [88, 92, 93, 94] M0 M') := by
  refine cv_of (cc := cX5_spread) (maxL := 7) (lv := [(0, .ref (ad 88)), (1, .int (sI a1))]) (by decide) rfl (Nat.le_of_ble_eq_true rfl) rfl ?_
  intro p e s m args below meth c A Q C hret
  refine y_iconst C dX5_spread_0 ?_
  refine j_istore_n C 2 [(2, .int (sI 0)), (0, .ref (ad 88)), (1, .int (sI a1))] dX5_spread_1 rfl (by decide) rfl ?_
  have L411 : ∀ (n409 : Nat), ∀ (a412 : Int) (M413 : mm_M), (0 ≤ a412 ∧ a412 ≤ 6 ∧ (6 - a412) < (n409 : Int)) → INV pr Kz M413 → FX [88, 92, 93, 94] M0 M413 → jj p l e (cn_R 1) s m args below meth c 0 0 Q 7 dC dI ad cA A M413 2 [(0, .ref (ad 88)), (1, .int (sI a1)), (2, .int (sI a412))] [] := by
    intro n409
    induction n409 with
    | zero =>
      intro a412 M413 h414 hM413 fM413
      exfalso; omega
    | succ n409 ih410 =>
      intro a412 M413 h414 hM413 fM413
      refine j_iload_n C 2 2 dX5_spread_2 rfl rfl ?_
      refine j_aload_n C 0 0 dX5_spread_3 rfl rfl ?_
      refine y_getM C 4 6 fX5_spread_52 rfl rfl ft_4_9 sm_4_9 (by decide) hM413 dX5_spread_4 (fun v415 ev415 cv415 => ?_)
      refine y_getI C 6 _ _ fX5_spread_92 cv415 rfl ft_6_0 sb_6_0 hM413 dX5_spread_7 (fun a416 ea416 la416 ua416 => ?_)
      refine y_icmp_ge C 127 dX5_spread_10 (by decide) (by (clear cv415 ev415 fM413 hM413 ih410 hret C hp0 ha1 hpr hM0; omega)) (fun h418 => ?_) (fun h418 => ?_)
      · exact hret _ _ _ dX5_spread_127 ⟨hM413, (FX.rf.tr fM413 (by decide))⟩
      · refine j_aload_n C 0 0 dX5_spread_13 rfl rfl ?_
        refine y_getM C 4 41 fX5_spread_21 rfl rfl ft_4_4 sm_4_4 (by decide) hM413 dX5_spread_14 (fun v419 ev419 cv419 => ?_)
        refine j_iload_n C 1 1 dX5_spread_17 rfl rfl ?_
        refine y_lald C 41 256 cv419 rfl rfl ak_41 an_41 rfl dX5_spread_18 (by exact ⟨hp0.1, (by omega)⟩) (fun a420 ea420 la420 ua420 => ?_)
        refine j_aload_n C 0 0 dX5_spread_19 rfl rfl ?_
        refine y_getV C 4 v415 fX5_spread_52 rfl rfl ft_4_9 (ev415) dX5_spread_20 ?_
        refine y_getT C 6 23 fX5_spread_153 cv415 rfl ft_6_4 rfl sm_6_4 st_6_4 (by decide) hM413 dX5_spread_23 (fun v421 cv421 => ?_)
        refine j_iload_n C 2 2 dX5_spread_26 rfl rfl ?_
        refine y_iald C 23 6 _ _ cv421 rfl rfl ak_23 an_23 rfl (sb_23 _) hM413 dX5_spread_27 (by exact ⟨h414.1, (by (clear cv421 ua420 la420 ea420 cv419 ev419 cv415 ev415 fM413 hM413 ih410 hret C hp0 ha1 hpr hM0; omega))⟩) (fun a422 ea422 la422 ua422 => ?_)
        refine y_i2l C dX5_spread_28 (by exact ⟨la422, ua422⟩) ?_
        refine y_lmul0 C dX5_spread_29 (fun a423 la423 ua423 => ?_)
        refine j_lstore_n C 3 [(3, .long (sJ a423)), (0, .ref (ad 88)), (1, .int (sI a1)), (2, .int (sI a412))] dX5_spread_30 rfl (by decide) rfl ?_
        refine j_aload_n C 1 0 dX5_spread_31 rfl rfl ?_
        refine j_iload_n C 2 1 dX5_spread_32 rfl rfl ?_
        refine j_iload_n C 3 2 dX5_spread_33 rfl rfl ?_
        refine j_callVi C (d := 0) (As := [.int (sI a1), .int (sI a412)]) (st := []) 88 (s_lt rfl rfl) (s_kc (c := 4) rfl rfl) (by decide) rfl (s1_X5_pick hM413 a1 (by exact ⟨ha1.1, ha1.2⟩) a412 (by omega)) gX5_spread_X5_pick rfl hdX5_pick (by decide) (Nat.le_of_ble_eq_true rfl) dX5_spread_34 rfl (fun r424 M425 h426 => ?_)
        obtain ⟨a428, rfl, rfl, h427⟩ := h426
        refine j_istore C 5 [(5, .int (sI a428)), (3, .long (sJ a423)), (0, .ref (ad 88)), (1, .int (sI a1)), (2, .int (sI a412))] dX5_spread_37 (by decide) rfl ?_
        refine j_iload C 0 dX5_spread_39 rfl ?_
        refine y_if_ge C 57 dX5_spread_41 (by decide) (by (clear ua423 la423 ua422 la422 ea422 cv421 ua420 la420 ea420 cv419 ev419 h418 ua416 la416 ea416 cv415 ev415 fM413 hM413 h414 ih410 hret C hp0 ha1 hpr hM0; omega)) (fun h429 => ?_) (fun h429 => ?_)
        · refine j_iload_n C 3 1 dX5_spread_57 rfl rfl ?_
          refine y_iconst C dX5_spread_58 ?_
          refine j_iload C 0 dX5_spread_59 rfl ?_
          refine y_shl1 C 7 128 dX5_spread_61 rfl (by decide) (by exact ⟨h429, (by (clear ua423 la423 ua422 la422 ea422 cv421 ua420 la420 ea420 cv419 ev419 h418 ua416 la416 ea416 cv415 ev415 fM413 hM413 h414 ih410 hret C hp0 ha1 hpr hM0; omega))⟩) (fun a430 la430 ua430 => ?_)
          refine y_iorN C 8 255 dX5_spread_62 rfl (by decide) (by exact ⟨hp0.1, ⟨hp0.2, ⟨(by (clear h429 h427 ua423 la423 ua422 la422 ea422 cv421 ua420 la420 ea420 cv419 ev419 h418 ua416 la416 ea416 cv415 ev415 fM413 hM413 h414 ih410 hret C hpr hM0; omega)), (by (clear h429 h427 ua423 la423 ua422 la422 ea422 cv421 ua420 la420 ea420 cv419 ev419 h418 ua416 la416 ea416 cv415 ev415 fM413 hM413 h414 ih410 hret C hpr hM0; omega))⟩⟩⟩) (fun a431 la431 ua431 => ?_)
          refine j_istore C 6 [(6, .int (sI a431)), (5, .int (sI a428)), (3, .long (sJ a423)), (0, .ref (ad 88)), (1, .int (sI a1)), (2, .int (sI a412))] dX5_spread_63 (by decide) rfl ?_
          refine j_aload_n C 3 0 dX5_spread_65 rfl rfl ?_
          refine y_getM C 4 41 fX5_spread_25 rfl rfl ft_4_5 sm_4_5 (by decide) hM413 dX5_spread_66 (fun v432 ev432 cv432 => ?_)
          refine j_iload C 0 dX5_spread_69 rfl ?_
          refine j_dup2 C dX5_spread_71 rfl rfl ?_
          refine y_lald C 41 256 cv432 rfl rfl ak_41 an_41 rfl dX5_spread_72 (by exact ⟨la431, (by (clear cv432 ev432 ua430 la430 h429 h427 ua423 la423 ua422 la422 ea422 cv421 ua420 la420 ea420 cv419 ev419 h418 ua416 la416 ea416 cv415 ev415 fM413 hM413 h414 ih410 hret C hp0 ha1 hpr hM0; omega))⟩) (fun a433 ea433 la433 ua433 => ?_)
          refine j_lload_n C 2 3 dX5_spread_73 rfl rfl ?_
          refine y_ladd0 C dX5_spread_74 (fun a434 la434 ua434 => ?_)
          refine y_last C 41 256 cv432 rfl rfl ak_41 an_41 rfl hM413 (PX.w hpr cv432 rfl) dX5_spread_75 (by exact ⟨la431, (by (clear ua434 la434 ua433 la433 ea433 cv432 ev432 ua430 la430 h429 h427 ua423 la423 ua422 la422 ea422 cv421 ua420 la420 ea420 cv419 ev419 h418 ua416 la416 ea416 cv415 ev415 fM413 hM413 h414 ih410 hret C hp0 ha1 hpr hM0; omega))⟩) (fun M435 eM435 hM435 => ?_)
          refine j_aload_n C 3 0 dX5_spread_76 rfl rfl ?_
          refine j_dup C dX5_spread_77 rfl ?_
          refine y_getJ C 4 fX5_spread_35 rfl rfl ft_4_8 dX5_spread_78 (fun a436 ea436 la436 ua436 => ?_)
          refine j_lload_n C 2 3 dX5_spread_81 rfl rfl ?_
          refine j_aload_n C 3 0 dX5_spread_82 rfl rfl ?_
          refine y_getM C 4 8 fX5_spread_56 rfl rfl ft_4_10 sm_4_10 (by decide) hM435 dX5_spread_83 (fun v437 ev437 cv437 => ?_)
          refine y_getT C 8 25 fX5_spread_156 cv437 rfl ft_8_1 rfl sm_8_1 st_8_1 (by decide) hM435 dX5_spread_86 (fun v438 cv438 => ?_)
          refine j_iload C 1 dX5_spread_89 rfl ?_
          refine y_iald C 25 8 _ _ cv438 rfl rfl ak_25 an_25 rfl (sb_25 _) hM435 dX5_spread_91 (by exact ⟨h429, (by (clear cv438 cv437 ev437 ua436 la436 ea436 hM435 eM435 ua434 la434 ua433 la433 ea433 cv432 ev432 ua431 la431 ua430 la430 ua423 la423 ua422 la422 ea422 cv421 ua420 la420 ea420 cv419 ev419 h418 ua416 la416 ea416 cv415 ev415 fM413 hM413 h414 ih410 hret C hp0 ha1 hpr hM0; omega))⟩) (fun a439 ea439 la439 ua439 => ?_)
          refine y_i2l C dX5_spread_92 (by exact ⟨la439, ua439⟩) ?_
          refine y_lmul0 C dX5_spread_93 (fun a440 la440 ua440 => ?_)
          refine y_ladd0 C dX5_spread_94 (fun a441 la441 ua441 => ?_)
          refine y_putJ C 4 qX5_spread_35 rfl rfl ft_4_8 hM435 (PX.w hpr rfl rfl) dX5_spread_95 (fun M442 eM442 hM442 => ?_)
          refine j_aload_n C 3 0 dX5_spread_98 rfl rfl ?_
          refine y_getC C 4 94 fX5_spread_28 rfl rfl ft_4_6 sm_4_6 rfl hM442 dX5_spread_99 ?_
          refine j_iload_n C 5 2 dX5_spread_102 rfl rfl ?_
          refine j_dup2 C dX5_spread_103 rfl rfl ?_
          refine y_lald C 42 6 rfl rfl rfl ak_42 an_42 rfl dX5_spread_104 (by exact ⟨h414.1, (by (clear hM442 eM442 ua441 la441 ua440 la440 ua439 la439 ea439 cv438 cv437 ev437 ua436 la436 ea436 hM435 eM435 ua434 la434 ua433 la433 ea433 cv432 ev432 ua431 la431 ua430 la430 h429 h427 ua423 la423 ua422 la422 ea422 cv421 ua420 la420 ea420 cv419 ev419 cv415 ev415 fM413 hM413 ih410 hret C hp0 ha1 hpr hM0; omega))⟩) (fun a443 ea443 la443 ua443 => ?_)
          refine j_aload_n C 3 0 dX5_spread_105 rfl rfl ?_
          refine j_iload C 0 dX5_spread_106 rfl ?_
          refine j_callVi C (d := 0) (As := [.int (sI a431)]) (st := [.long (sJ a443), .int (sI a412), .ref (ad 94)]) 88 (s_lt rfl rfl) (s_kc (c := 4) rfl rfl) (by decide) rfl (s1_X5_isShutAt hM442 a431 (by (clear ua443 la443 ea443 hM442 eM442 ua441 la441 ua440 la440 ua439 la439 ea439 cv438 cv437 ev437 ua436 la436 ea436 hM435 eM435 ua434 la434 ua433 la433 ea433 cv432 ev432 ua430 la430 h429 h427 ua423 la423 ua422 la422 ea422 cv421 ua420 la420 ea420 cv419 ev419 h418 ua416 la416 ea416 cv415 ev415 fM413 hM413 h414 ih410 hret C hp0 ha1 hpr hM0; omega))) gX5_spread_X5_isShutAt rfl hdX5_isShutAt (by decide) (Nat.le_of_ble_eq_true rfl) dX5_spread_108 rfl (fun r444 M445 h446 => ?_)
          obtain ⟨a448, rfl, rfl, h447⟩ := h446
          refine y_if_eq C 118 dX5_spread_111 (by decide) (by (clear ua443 la443 ea443 hM442 eM442 ua441 la441 ua440 la440 ua439 la439 ea439 cv438 cv437 ev437 ua436 la436 ea436 hM435 eM435 ua434 la434 ua433 la433 ea433 cv432 ev432 ua431 la431 ua430 la430 h429 h427 ua423 la423 ua422 la422 ea422 cv421 ua420 la420 ea420 cv419 ev419 h418 ua416 la416 ea416 cv415 ev415 fM413 hM413 h414 ih410 hret C hp0 ha1 hpr hM0; omega)) (fun h449 => ?_) (fun h449 => ?_)
          · refine y_lconst C 0 dX5_spread_118 rfl ?_
            refine y_ladd C dX5_spread_119 ?_
            refine y_last C 42 6 rfl rfl rfl ak_42 an_42 rfl hM442 (PX.w hpr rfl rfl) dX5_spread_120 (by exact ⟨h414.1, (by (clear h449 h447 ua443 la443 ea443 hM442 eM442 ua441 la441 ua440 la440 ua439 la439 ea439 cv438 cv437 ev437 ua436 la436 ea436 hM435 eM435 ua434 la434 ua433 la433 ea433 cv432 ev432 ua431 la431 ua430 la430 h429 h427 ua423 la423 ua422 la422 ea422 cv421 ua420 la420 ea420 cv419 ev419 cv415 ev415 fM413 hM413 ih410 hret C hp0 ha1 hpr hM0; omega))⟩) (fun M450 eM450 hM450 => ?_)
            refine y_iinc C 5 [(2, .int (sI (a412 + 1))), (6, .int (sI a431)), (5, .int (sI a428)), (3, .long (sJ a423)), (0, .ref (ad 88)), (1, .int (sI a1))] dX5_spread_121 rfl (by decide) rfl ?_
            refine j_goto C 2 dX5_spread_124 (by decide) ?_
            refine j_lv [4, 5, 0] rfl ?_; exact ih410 (a412 + 1) M450 (by (clear hM450 eM450 h449 h447 ua443 la443 ea443 hM442 eM442 ua441 la441 ua440 la440 ua439 la439 ea439 cv438 cv437 ev437 ua436 la436 ea436 hM435 eM435 ua434 la434 ua433 la433 ea433 cv432 ev432 ua431 la431 ua430 la430 h429 h427 ua423 la423 ua422 la422 ea422 cv421 ua420 la420 ea420 cv419 ev419 cv415 ev415 fM413 hM413 ih410 hret C hp0 ha1 hpr hM0; omega)) hM450 (((fx_wJc (FX.rf.tr fM413 (by decide)) eM435 cv432 cw_41 (by decide)).wJ eM442 (by decide)).wJ eM450 (by decide))
          · refine j_lload_n C 2 3 dX5_spread_114 rfl rfl ?_
            refine j_goto C 119 dX5_spread_115 (by decide) ?_
            refine y_ladd0 C dX5_spread_119 (fun a451 la451 ua451 => ?_)
            refine y_last C 42 6 rfl rfl rfl ak_42 an_42 rfl hM442 (PX.w hpr rfl rfl) dX5_spread_120 (by exact ⟨h414.1, (by (clear ua451 la451 h449 h447 ua443 la443 ea443 hM442 eM442 ua441 la441 ua440 la440 ua439 la439 ea439 cv438 cv437 ev437 ua436 la436 ea436 hM435 eM435 ua434 la434 ua433 la433 ea433 cv432 ev432 ua431 la431 ua430 la430 h429 h427 ua423 la423 ua422 la422 ea422 cv421 ua420 la420 ea420 cv419 ev419 cv415 ev415 fM413 hM413 ih410 hret C hp0 ha1 hpr hM0; omega))⟩) (fun M452 eM452 hM452 => ?_)
            refine y_iinc C 5 [(2, .int (sI (a412 + 1))), (6, .int (sI a431)), (5, .int (sI a428)), (3, .long (sJ a423)), (0, .ref (ad 88)), (1, .int (sI a1))] dX5_spread_121 rfl (by decide) rfl ?_
            refine j_goto C 2 dX5_spread_124 (by decide) ?_
            refine j_lv [4, 5, 0] rfl ?_; exact ih410 (a412 + 1) M452 (by (clear hM452 eM452 ua451 la451 h449 h447 ua443 la443 ea443 hM442 eM442 ua441 la441 ua440 la440 ua439 la439 ea439 cv438 cv437 ev437 ua436 la436 ea436 hM435 eM435 ua434 la434 ua433 la433 ea433 cv432 ev432 ua431 la431 ua430 la430 h429 h427 ua423 la423 ua422 la422 ea422 cv421 ua420 la420 ea420 cv419 ev419 cv415 ev415 fM413 hM413 ih410 hret C hp0 ha1 hpr hM0; omega)) hM452 (((fx_wJc (FX.rf.tr fM413 (by decide)) eM435 cv432 cw_41 (by decide)).wJ eM442 (by decide)).wJ eM452 (by decide))
        · refine j_aload_n C 2 0 dX5_spread_44 rfl rfl ?_
          refine y_getM C 4 41 fX5_spread_25 rfl rfl ft_4_5 sm_4_5 (by decide) hM413 dX5_spread_45 (fun v453 ev453 cv453 => ?_)
          refine j_iload_n C 3 1 dX5_spread_48 rfl rfl ?_
          refine j_dup2 C dX5_spread_49 rfl rfl ?_
          refine y_lald C 41 256 cv453 rfl rfl ak_41 an_41 rfl dX5_spread_50 (by exact ⟨hp0.1, (by omega)⟩) (fun a454 ea454 la454 ua454 => ?_)
          refine j_lload_n C 1 3 dX5_spread_51 rfl rfl ?_
          refine y_ladd0 C dX5_spread_52 (fun a455 la455 ua455 => ?_)
          refine y_last C 41 256 cv453 rfl rfl ak_41 an_41 rfl hM413 (PX.w hpr cv453 rfl) dX5_spread_53 (by exact ⟨hp0.1, (by omega)⟩) (fun M456 eM456 hM456 => ?_)
          refine j_goto C 121 dX5_spread_54 (by decide) ?_
          refine y_iinc C 4 [(2, .int (sI (a412 + 1))), (5, .int (sI a428)), (3, .long (sJ a423)), (0, .ref (ad 88)), (1, .int (sI a1))] dX5_spread_121 rfl (by decide) rfl ?_
          refine j_goto C 2 dX5_spread_124 (by decide) ?_
          refine j_lv [3, 4, 0] rfl ?_; exact ih410 (a412 + 1) M456 (by (clear hM456 eM456 ua455 la455 ua454 la454 ea454 cv453 ev453 h429 h427 ua423 la423 ua422 la422 ea422 cv421 ua420 la420 ea420 cv419 ev419 cv415 ev415 fM413 hM413 ih410 hret C hp0 ha1 hpr hM0; omega)) hM456 (fx_wJc (FX.rf.tr fM413 (by decide)) eM456 cv453 cw_41 (by decide))
  refine j_lv [1, 2, 0] rfl ?_; exact L411 2010 0 M0 (by exact ⟨(by decide), ⟨(by decide), (by decide)⟩⟩) hM0 FX.rf
set_option maxHeartbeats 4000000 in
theorem s2_X5_passDay {l : Launch} {dC : Nat → ClassId} {dI : Nat → Nat → Nat} {ad : Nat → Nat} {cA : Nat → ClassId} {pr : Nat → Nat → Bool} {Kz : mm_M} {M0 : mm_M} (hM0 : INV pr Kz M0) (hpr : PX pr) (a1 : Int) (ha1 : -2147483648 ≤ a1 ∧ a1 ≤ 2147483647) : Cv l 2 yX5_passDay wsX5_passDay dC dI ad cA [.ref (ad 88), .int (sI a1)] M0 (fun M' => INV pr Kz M' ∧ FX [88, 92, 93, 94] M0 M') := by
  refine cv_of (cc := cX5_passDay) (maxL := 3) (lv := [(0, .ref (ad 88)), (1, .int (sI a1))]) (by decide) rfl (Nat.le_of_ble_eq_true rfl) rfl ?_
  intro p e s m args below meth c A Q C hret
  refine j_aload_n C 0 0 dX5_passDay_0 rfl rfl ?_
  refine y_getM C 4 41 fX5_passDay_25 rfl rfl ft_4_5 sm_4_5 (by decide) hM0 dX5_passDay_1 (fun v101 ev101 cv101 => ?_)
  refine y_lconst C 0 dX5_passDay_4 rfl ?_
  refine j_callSv C (d := 0) (As := [.ref (ad v101), .long (sJ 0)]) (st := []) (s8_J7_fill_d0a16 hM0 hpr cv101 0 (by exact ⟨(by decide), (by decide)⟩)) gX5_passDay_J7_fill_d0a16 rfl hdJ7_fill_d0a16s (by decide) (Nat.le_of_ble_eq_true rfl) dX5_passDay_5 rfl (fun M103 h104 => ?_)
  obtain ⟨hM103, fM103, h105⟩ := h104
  refine j_aload_n C 0 0 dX5_passDay_8 rfl rfl ?_
  refine j_dup C dX5_passDay_9 rfl ?_
  refine y_getJ C 4 fX5_passDay_31 rfl rfl ft_4_7 dX5_passDay_10 (fun a106 ea106 la106 ua106 => ?_)
  refine j_iload_n C 1 1 dX5_passDay_13 rfl rfl ?_
  refine y_i2l C dX5_passDay_14 (by exact ⟨ha1.1, ha1.2⟩) ?_
  refine y_lmul0 C dX5_passDay_15 (fun a107 la107 ua107 => ?_)
  refine y_putJ C 4 qX5_passDay_31 rfl rfl ft_4_7 hM103 (PX.w hpr rfl rfl) dX5_passDay_16 (fun M108 eM108 hM108 => ?_)
  refine j_aload_n C 0 0 dX5_passDay_19 rfl rfl ?_
  refine j_dup C dX5_passDay_20 rfl ?_
  refine y_getJ C 4 fX5_passDay_35 rfl rfl ft_4_8 dX5_passDay_21 (fun a109 ea109 la109 ua109 => ?_)
  refine j_iload_n C 1 1 dX5_passDay_24 rfl rfl ?_
  refine y_i2l C dX5_passDay_25 (by exact ⟨ha1.1, ha1.2⟩) ?_
  refine y_lmul0 C dX5_passDay_26 (fun a110 la110 ua110 => ?_)
  refine y_putJ C 4 qX5_passDay_35 rfl rfl ft_4_8 hM108 (PX.w hpr rfl rfl) dX5_passDay_27 (fun M111 eM111 hM111 => ?_)
  refine y_iconst C dX5_passDay_30 ?_
  refine j_istore_n C 2 [(2, .int (sI 0)), (0, .ref (ad 88)), (1, .int (sI a1))] dX5_passDay_31 rfl (by decide) rfl ?_
  have L177 : ∀ (n175 : Nat), ∀ (a178 : Int) (M179 : mm_M), (0 ≤ a178 ∧ a178 ≤ 6 ∧ (6 - a178) < (n175 : Int)) → INV pr Kz M179 → FX [88, 92, 93, 94] M0 M179 → jj p l e (cn_R 2) s m args below meth c 0 0 Q 3 dC dI ad cA A M179 32 [(0, .ref (ad 88)), (1, .int (sI a1)), (2, .int (sI a178))] [] := by
    intro n175
    induction n175 with
    | zero =>
      intro a178 M179 h180 hM179 fM179
      exfalso; omega
    | succ n175 ih176 =>
      intro a178 M179 h180 hM179 fM179
      refine j_iload_n C 2 2 dX5_passDay_32 rfl rfl ?_
      refine j_aload_n C 0 0 dX5_passDay_33 rfl rfl ?_
      refine y_getM C 4 6 fX5_passDay_52 rfl rfl ft_4_9 sm_4_9 (by decide) hM179 dX5_passDay_34 (fun v181 ev181 cv181 => ?_)
      refine y_getI C 6 _ _ fX5_passDay_92 cv181 rfl ft_6_0 sb_6_0 hM179 dX5_passDay_37 (fun a182 ea182 la182 ua182 => ?_)
      refine y_icmp_ge C 60 dX5_passDay_40 (by decide) (by (clear cv181 ev181 fM179 hM179 ih176 hM111 eM111 ua110 la110 ua109 la109 ea109 hM108 eM108 ua107 la107 ua106 la106 ea106 h105 fM103 hM103 cv101 ev101 hret C ha1 hpr hM0; omega)) (fun h184 => ?_) (fun h184 => ?_)
      · refine j_aload_n C 0 0 dX5_passDay_60 rfl rfl ?_
        refine y_getI C 4 _ _ fX5_passDay_45 rfl rfl ft_4_13 sb_4_13 hM179 dX5_passDay_61 (fun a188 ea188 la188 ua188 => ?_)
        refine j_istore_n C 2 [(2, .int (sI a188)), (0, .ref (ad 88)), (1, .int (sI a1))] dX5_passDay_64 rfl (by decide) rfl ?_
        have L216 : ∀ (n214 : Nat), ∀ (a217 : Int) (M218 : mm_M), (0 ≤ a217 ∧ a217 ≤ 256 ∧ (256 - a217) < (n214 : Int)) → INV pr Kz M218 → FX [88, 92, 93, 94] M0 M218 → jj p l e (cn_R 2) s m args below meth c 0 0 Q 3 dC dI ad cA A M218 65 [(0, .ref (ad 88)), (2, .int (sI a217))] [] := by
          intro n214
          induction n214 with
          | zero =>
            intro a217 M218 h219 hM218 fM218
            exfalso; omega
          | succ n214 ih215 =>
            intro a217 M218 h219 hM218 fM218
            refine j_iload_n C 1 2 dX5_passDay_65 rfl rfl ?_
            refine j_aload_n C 0 0 dX5_passDay_66 rfl rfl ?_
            refine y_getI C 4 _ _ fX5_passDay_38 rfl rfl ft_4_11 sb_4_11 hM218 dX5_passDay_67 (fun a220 ea220 la220 ua220 => ?_)
            refine y_icmp_gt C 95 dX5_passDay_70 (by decide) (by (clear fM218 hM218 ih215 ua188 la188 ea188 h184 ua182 la182 ea182 cv181 ev181 fM179 hM179 h180 ih176 hM111 eM111 ua110 la110 ua109 la109 ea109 hM108 eM108 ua107 la107 ua106 la106 ea106 h105 fM103 hM103 cv101 ev101 hret C ha1 hpr hM0; omega)) (fun h222 => ?_) (fun h222 => ?_)
            · refine j_aload_n C 0 0 dX5_passDay_95 rfl rfl ?_
              refine j_callVv C (d := 0) (As := []) (st := []) 88 (s_lt rfl rfl) (s_kc (c := 4) rfl rfl) (by decide) rfl (s2_X5_swapWays hM218 hpr) gX5_passDay_X5_swapWays rfl hdX5_swapWays (by decide) (Nat.le_of_ble_eq_true rfl) dX5_passDay_96 rfl (fun M231 h232 => ?_)
              obtain ⟨hM231, fM231⟩ := h232
              exact hret _ _ _ dX5_passDay_99 ⟨hM231, ((FX.rf.tr fM218 (by decide)).tr fM231 (by decide))⟩
            · refine j_aload_n C 0 0 dX5_passDay_73 rfl rfl ?_
              refine y_getM C 4 41 fX5_passDay_21 rfl rfl ft_4_4 sm_4_4 (by decide) hM218 dX5_passDay_74 (fun v223 ev223 cv223 => ?_)
              refine j_iload_n C 1 2 dX5_passDay_77 rfl rfl ?_
              refine y_lald C 41 256 cv223 rfl rfl ak_41 an_41 rfl dX5_passDay_78 (by exact ⟨h219.1, (by (clear cv223 ev223 fM218 hM218 ih215 ua188 la188 ea188 h184 ua182 la182 ea182 cv181 ev181 fM179 hM179 h180 ih176 hM111 eM111 ua110 la110 ua109 la109 ea109 hM108 eM108 ua107 la107 ua106 la106 ea106 h105 fM103 hM103 cv101 ev101 hret C ha1 hpr hM0; omega))⟩) (fun a224 ea224 la224 ua224 => ?_)
              refine y_lconst C 0 dX5_passDay_79 rfl ?_
              refine y_lcmp_eq C 89 dX5_passDay_80 dX5_passDay_81 (by decide) (by exact ⟨⟨la224, ua224⟩, ⟨(by decide), (by decide)⟩⟩) (fun h225 => ?_) (fun h225 => ?_)
              · refine y_iinc C 1 [(2, .int (sI (a217 + 1))), (0, .ref (ad 88))] dX5_passDay_89 rfl (by decide) rfl ?_
                refine j_goto C 65 dX5_passDay_92 (by decide) ?_
                refine j_lv [1, 0] rfl ?_; exact ih215 (a217 + 1) M218 (by (clear h225 ua224 la224 ea224 cv223 ev223 fM218 hM218 ih215 ua188 la188 ea188 h184 ua182 la182 ea182 cv181 ev181 fM179 hM179 h180 ih176 hM111 eM111 ua110 la110 ua109 la109 ea109 hM108 eM108 ua107 la107 ua106 la106 ea106 h105 fM103 hM103 cv101 ev101 hret C ha1 hpr hM0; omega)) hM218 (FX.rf.tr fM218 (by decide))
              · refine j_aload_n C 0 0 dX5_passDay_84 rfl rfl ?_
                refine j_iload_n C 1 2 dX5_passDay_85 rfl rfl ?_
                refine j_callVv C (d := 1) (As := [.int (sI a217)]) (st := []) 88 (s_lt rfl rfl) (s_kc (c := 4) rfl rfl) (by decide) rfl (s2_X5_spread hM218 hpr a217 (by (clear h225 ua224 la224 ea224 cv223 ev223 h222 ua220 la220 ea220 fM218 hM218 ih215 ua188 la188 ea188 h184 ua182 la182 ea182 cv181 ev181 fM179 hM179 h180 ih176 hM111 eM111 ua110 la110 ua109 la109 ea109 hM108 eM108 ua107 la107 ua106 la106 ea106 h105 fM103 hM103 cv101 ev101 hret C ha1 hpr hM0; omega)) (by exact ⟨h219.1, (by (clear h225 ua224 la224 ea224 cv223 ev223 fM218 hM218 ih215 ua188 la188 ea188 h184 ua182 la182 ea182 cv181 ev181 fM179 hM179 h180 ih176 hM111 eM111 ua110 la110 ua109 la109 ea109 hM108 eM108 ua107 la107 ua106 la106 ea106 h105 fM103 hM103 cv101 ev101 hret C ha1 hpr hM0; omega))⟩)) gX5_passDay_X5_spread rfl hdX5_spread (by decide) (Nat.le_of_ble_eq_true rfl) dX5_passDay_86 rfl (fun M227 h228 => ?_)
                obtain ⟨hM227, fM227⟩ := h228
                refine y_iinc C 1 [(2, .int (sI (a217 + 1))), (0, .ref (ad 88))] dX5_passDay_89 rfl (by decide) rfl ?_
                refine j_goto C 65 dX5_passDay_92 (by decide) ?_
                refine j_lv [1, 0] rfl ?_; exact ih215 (a217 + 1) M227 (by omega) hM227 ((FX.rf.tr fM218 (by decide)).tr fM227 (by decide))
        refine j_lv [1, 0] rfl ?_; exact L216 2010 a188 M179 (by exact ⟨la188, ⟨(by (clear L216 h184 ua182 la182 ea182 cv181 ev181 fM179 hM179 h180 ih176 hM111 eM111 ua110 la110 ua109 la109 ea109 hM108 eM108 ua107 la107 ua106 la106 ea106 h105 fM103 hM103 cv101 ev101 hret C ha1 hpr hM0; omega)), (by (clear L216 h184 ua182 la182 ea182 cv181 ev181 fM179 hM179 h180 ih176 hM111 eM111 ua110 la110 ua109 la109 ea109 hM108 eM108 ua107 la107 ua106 la106 ea106 h105 fM103 hM103 cv101 ev101 hret C ha1 hpr hM0; omega))⟩⟩) hM179 (FX.rf.tr fM179 (by decide))
      · refine j_aload_n C 0 0 dX5_passDay_43 rfl rfl ?_
        refine y_getC C 4 94 fX5_passDay_28 rfl rfl ft_4_6 sm_4_6 rfl hM179 dX5_passDay_44 ?_
        refine j_iload_n C 2 2 dX5_passDay_47 rfl rfl ?_
        refine j_dup2 C dX5_passDay_48 rfl rfl ?_
        refine y_lald C 42 6 rfl rfl rfl ak_42 an_42 rfl dX5_passDay_49 (by exact ⟨h180.1, (by (clear cv181 ev181 fM179 hM179 ih176 hM111 eM111 ua110 la110 ua109 la109 ea109 hM108 eM108 ua107 la107 ua106 la106 ea106 h105 fM103 hM103 cv101 ev101 hret C ha1 hpr hM0; omega))⟩) (fun a185 ea185 la185 ua185 => ?_)
        refine j_iload_n C 1 1 dX5_passDay_50 rfl rfl ?_
        refine y_i2l C dX5_passDay_51 (by exact ⟨ha1.1, ha1.2⟩) ?_
        refine y_lmul0 C dX5_passDay_52 (fun a186 la186 ua186 => ?_)
        refine y_last C 42 6 rfl rfl rfl ak_42 an_42 rfl hM179 (PX.w hpr rfl rfl) dX5_passDay_53 (by exact ⟨h180.1, (by (clear ua186 la186 ua185 la185 ea185 cv181 ev181 fM179 hM179 ih176 hM111 eM111 ua110 la110 ua109 la109 ea109 hM108 eM108 ua107 la107 ua106 la106 ea106 h105 fM103 hM103 cv101 ev101 hret C ha1 hpr hM0; omega))⟩) (fun M187 eM187 hM187 => ?_)
        refine y_iinc C 2 [(2, .int (sI (a178 + 1))), (0, .ref (ad 88)), (1, .int (sI a1))] dX5_passDay_54 rfl (by decide) rfl ?_
        refine j_goto C 32 dX5_passDay_57 (by decide) ?_
        refine j_lv [1, 2, 0] rfl ?_; exact ih176 (a178 + 1) M187 (by (clear hM187 eM187 ua186 la186 ua185 la185 ea185 cv181 ev181 fM179 hM179 ih176 hM111 eM111 ua110 la110 ua109 la109 ea109 hM108 eM108 ua107 la107 ua106 la106 ea106 h105 fM103 hM103 cv101 ev101 hret C ha1 hpr hM0; omega)) hM187 ((FX.rf.tr fM179 (by decide)).wJ eM187 (by decide))
  refine j_lv [1, 2, 0] rfl ?_; exact L177 2010 0 M111 (by exact ⟨(by decide), ⟨(by decide), (by decide)⟩⟩) hM111 (((FX.rf.tr fM103 (by decide)).wJ eM108 (by decide)).wJ eM111 (by decide))
set_option maxHeartbeats 4000000 in
theorem s2_X5_passDays {l : Launch} {dC : Nat → ClassId} {dI : Nat → Nat → Nat} {ad : Nat → Nat} {cA : Nat → ClassId} {pr : Nat → Nat → Bool} {Kz : mm_M} {M0 : mm_M} (hM0 : INV pr Kz M0) (hpr : PX pr) (a1 : Int) (ha1 : -2147483648 ≤ a1 ∧ a1 ≤ 2147483647) : Cv l 3 yX5_passDays wsX5_passDays dC dI ad cA [.ref (ad 88), .int (sI a1)] M0 (fun M' => INV pr Kz M' ∧ FX [88, 92, 93, 94] M0 M') := by
  refine cv_of (cc := cX5_passDays) (maxL := 4) (lv := [(0, .ref (ad 88)), (1, .int (sI a1))]) (by decide) rfl (Nat.le_of_ble_eq_true rfl) rfl ?_
  intro p e s m args below meth c A Q C hret
  refine j_aload_n C 0 0 dX5_passDays_0 rfl rfl ?_
  refine j_callVv C (d := 1) (As := []) (st := []) 88 (s_lt rfl rfl) (s_kc (c := 4) rfl rfl) (by decide) rfl (s2_X5_beginRows hM0 hpr) gX5_passDays_X5_beginRows rfl hdX5_beginRows (by decide) (Nat.le_of_ble_eq_true rfl) dX5_passDays_1 rfl (fun M102 h103 => ?_)
  obtain ⟨hM102, fM102⟩ := h103
  refine j_aload_n C 0 0 dX5_passDays_4 rfl rfl ?_
  refine y_getC C 4 94 fX5_passDays_28 rfl rfl ft_4_6 sm_4_6 rfl hM102 dX5_passDays_5 ?_
  refine y_lconst C 0 dX5_passDays_8 rfl ?_
  refine j_callSv C (d := 0) (As := [.ref (ad 94), .long (sJ 0)]) (st := []) (s9_J7_fill_d0a16 hM102 hpr 0 (by exact ⟨(by decide), (by decide)⟩)) gX5_passDays_J7_fill_d0a16 rfl hdJ7_fill_d0a16s (by decide) (Nat.le_of_ble_eq_true rfl) dX5_passDays_9 rfl (fun M106 h107 => ?_)
  obtain ⟨hM106, fM106, h108⟩ := h107
  refine j_aload_n C 0 0 dX5_passDays_12 rfl rfl ?_
  refine y_lconst C 1 dX5_passDays_13 rfl ?_
  refine y_putJ C 4 qX5_passDays_31 rfl rfl ft_4_7 hM106 (PX.w hpr rfl rfl) dX5_passDays_14 (fun M109 eM109 hM109 => ?_)
  refine j_aload_n C 0 0 dX5_passDays_17 rfl rfl ?_
  refine y_lconst C 0 dX5_passDays_18 rfl ?_
  refine y_putJ C 4 qX5_passDays_35 rfl rfl ft_4_8 hM109 (PX.w hpr rfl rfl) dX5_passDays_19 (fun M110 eM110 hM110 => ?_)
  refine j_aload_n C 0 0 dX5_passDays_22 rfl rfl ?_
  refine y_getM C 4 6 fX5_passDays_52 rfl rfl ft_4_9 sm_4_9 (by decide) hM110 dX5_passDays_23 (fun v111 ev111 cv111 => ?_)
  refine j_callVi C (d := 0) (As := []) (st := []) v111 (s_lt cv111 rfl) (s_kc (c := 6) cv111 rfl) (by decide) rfl (s1_X7_together hM110 cv111) gX5_passDays_X7_together rfl hdX7_together (by decide) (Nat.le_of_ble_eq_true rfl) dX5_passDays_26 rfl (fun r112 M113 h114 => ?_)
  obtain ⟨a116, rfl, rfl, h115⟩ := h114
  refine j_istore_n C 2 [(2, .int (sI a116)), (0, .ref (ad 88)), (1, .int (sI a1))] dX5_passDays_29 rfl (by decide) rfl ?_
  refine y_iconst C dX5_passDays_30 ?_
  refine j_istore_n C 3 [(3, .int (sI 0)), (2, .int (sI a116)), (0, .ref (ad 88)), (1, .int (sI a1))] dX5_passDays_31 rfl (by decide) rfl ?_
  have L391 : ∀ (n389 : Nat), ∀ (a392 : Int) (M393 : mm_M), (0 ≤ a392 ∧ a392 ≤ 2147483647 ∧ (2147483647 - a392) < (n389 : Int)) → INV pr Kz M393 → FX [88, 92, 93, 94] M0 M393 → jj p l e (cn_R 3) s m args below meth c 0 0 Q 4 dC dI ad cA A M393 32 [(0, .ref (ad 88)), (1, .int (sI a1)), (2, .int (sI a116)), (3, .int (sI a392))] [] := by
    intro n389
    induction n389 with
    | zero =>
      intro a392 M393 h394 hM393 fM393
      exfalso; omega
    | succ n389 ih390 =>
      intro a392 M393 h394 hM393 fM393
      refine j_iload_n C 3 3 dX5_passDays_32 rfl rfl ?_
      refine j_iload_n C 1 1 dX5_passDays_33 rfl rfl ?_
      refine y_icmp_ge C 52 dX5_passDays_34 (by decide) (by exact ⟨⟨(by (clear fM393 hM393 ih390 h115 cv111 ev111 hM110 eM110 hM109 eM109 h108 fM106 hM106 fM102 hM102 hret C hpr hM0; omega)), h394.2.1⟩, ⟨ha1.1, ha1.2⟩⟩) (fun h395 => ?_) (fun h395 => ?_)
      · exact hret _ _ _ dX5_passDays_52 ⟨hM393, (FX.rf.tr fM393 (by decide))⟩
      · refine j_iload_n C 2 2 dX5_passDays_37 rfl rfl ?_
        refine y_if_le C 52 dX5_passDays_38 (by decide) (by exact ⟨h115.1, h115.2⟩) (fun h396 => ?_) (fun h396 => ?_)
        · exact hret _ _ _ dX5_passDays_52 ⟨hM393, (FX.rf.tr fM393 (by decide))⟩
        · refine j_aload_n C 0 0 dX5_passDays_41 rfl rfl ?_
          refine j_iload_n C 2 2 dX5_passDays_42 rfl rfl ?_
          refine j_callVv C (d := 2) (As := [.int (sI a116)]) (st := []) 88 (s_lt rfl rfl) (s_kc (c := 4) rfl rfl) (by decide) rfl (s2_X5_passDay hM393 hpr a116 (by exact ⟨h115.1, h115.2⟩)) gX5_passDays_X5_passDay rfl hdX5_passDay (by decide) (Nat.le_of_ble_eq_true rfl) dX5_passDays_43 rfl (fun M398 h399 => ?_)
          obtain ⟨hM398, fM398⟩ := h399
          refine y_iinc C 3 [(3, .int (sI (a392 + 1))), (0, .ref (ad 88)), (1, .int (sI a1)), (2, .int (sI a116))] dX5_passDays_46 rfl (by decide) rfl ?_
          refine j_goto C 32 dX5_passDays_49 (by decide) ?_
          refine j_lv [1, 2, 3, 0] rfl ?_; exact ih390 (a392 + 1) M398 (by (clear fM398 hM398 h396 fM393 hM393 ih390 h115 cv111 ev111 hM110 eM110 hM109 eM109 h108 fM106 hM106 fM102 hM102 hret C hpr hM0; omega)) hM398 ((FX.rf.tr fM393 (by decide)).tr fM398 (by decide))
  refine j_lv [2, 3, 1, 0] rfl ?_; exact L391 4294967304 0 M110 (by exact ⟨(by decide), ⟨(by decide), (by decide)⟩⟩) hM110 ((((FX.rf.tr fM102 (by decide)).tr fM106 (by decide)).wJ eM109 (by decide)).wJ eM110 (by decide))
set_option maxHeartbeats 4000000 in
theorem s2_X11_open {l : Launch} {dC : Nat → ClassId} {dI : Nat → Nat → Nat} {ad : Nat → Nat} {cA : Nat → ClassId} {pr : Nat → Nat → Bool} {Kz : mm_M} {M0 : mm_M} (hM0 : INV pr Kz M0) (hpr : PX pr) (a1 : Int) (ha1 : -2147483648 ≤ a1 ∧ a1 ≤ 2147483647) (a2 : Int) (ha2 : -2147483648 ≤ a2 ∧ a2 ≤ 2147483647) (gp : Nat) (cgp : s_c gp = 6) (egp : gp = M0.2.2 0 4) (hp0 : b01 (APX M0 gp) = 1) (hp1 : b01 (LAW M0 gp) = 1) (hp2 : b01 (PRR (rwX M0 gp 12)) = 1) (hp3 : (M0.1 12 3).toInt < pw2 (M0.1 12 0).toInt) : Cj l 6 yX11_open wsX11_open dC dI ad cA [.ref (ad 0), .int (sI a1), .int (sI a2)] M0 (fun r M' => ∃ a : Int, r = sJ a ∧ INV pr Kz M' ∧ FX [81, 82, 83, 84, 85, 86, 88, 89, 90, 92, 93, 94] M0 M' ∧ (-9223372036854775808) ≤ a ∧ a ≤ 9223372036854775807 ∧ (b01 (APX M' gp) = 1)) := by
  refine cj_of (cc := cX11_open) (maxL := 4) (lv := [(0, .ref (ad 0)), (1, .int (sI a1)), (2, .int (sI a2))]) (by decide) rfl (Nat.le_of_ble_eq_true rfl) rfl ?_
  intro p e s m args below meth c A Q C hret
  refine j_iload_n C 2 2 dX11_open_0 rfl rfl ?_
  refine j_iload_n C 1 1 dX11_open_1 rfl rfl ?_
  refine y_bipush C dX11_open_2 rfl ?_
  refine j_callSi C (d := 0) (As := [.int (sI a2), .int (sI a1), .int (sI 10)]) (st := []) (s1_X11_chanceRefusal hM0 a2 (by exact ⟨ha2.1, ha2.2⟩) a1 (by exact ⟨ha1.1, ha1.2⟩) 10 (by exact ⟨(by decide), (by decide)⟩)) gX11_open_X11_chanceRefusal rfl hdX11_chanceRefusals (by decide) (Nat.le_of_ble_eq_true rfl) dX11_open_4 rfl (fun r102 M103 h104 => ?_)
  obtain ⟨a106, rfl, rfl, h105⟩ := h104
  refine j_istore_n C 3 [(3, .int (sI a106)), (0, .ref (ad 0)), (1, .int (sI a1)), (2, .int (sI a2))] dX11_open_7 rfl (by decide) rfl ?_
  refine j_iload_n C 0 3 dX11_open_8 rfl rfl ?_
  refine y_if_eq C 15 dX11_open_9 (by decide) (by (clear hret C hp3 hp2 hp1 hp0 egp cgp ha2 ha1 hpr hM0; omega)) (fun h107 => ?_) (fun h107 => ?_)
  · refine j_aload_n C 1 0 dX11_open_15 rfl rfl ?_
    refine y_getC C 10 88 fX11_open_94 rfl rfl ft_10_14 sm_10_14 rfl hM0 dX11_open_16 ?_
    refine j_aload_n C 1 0 dX11_open_19 rfl rfl ?_
    refine y_getV C 10 gp fX11_open_26 rfl rfl ft_10_4 (egp) dX11_open_20 ?_
    refine j_aload_n C 1 0 dX11_open_23 rfl rfl ?_
    refine y_getC C 10 12 fX11_open_36 rfl rfl ft_10_6 sm_10_6 rfl hM0 dX11_open_24 ?_
    refine j_aload_n C 1 0 dX11_open_27 rfl rfl ?_
    refine y_getC C 10 12 fX11_open_36 rfl rfl ft_10_6 sm_10_6 rfl hM0 dX11_open_28 ?_
    refine y_getI C 8 _ _ fX11_open_153 rfl rfl ft_8_4 sb_8_4 hM0 dX11_open_31 (fun a108 ea108 la108 ua108 => ?_)
    refine j_callVv C (d := 5) (As := [.ref (ad gp), .ref (ad 12), .int (sI a108)]) (st := []) 88 (s_lt rfl rfl) (s_kc (c := 4) rfl rfl) (by decide) rfl (s2_X5_look hM0 hpr cgp a108 (by (clear h107 h105 hret C hp3 hp2 hp1 hp0 egp cgp ha2 ha1 hpr hM0; omega)) (by exact hp0) (by exact hp1) (by exact hp2) (by exact hp3) (by exact ⟨la108, ua108⟩)) gX11_open_X5_look rfl hdX5_look (by decide) (Nat.le_of_ble_eq_true rfl) dX11_open_34 rfl (fun M112 h113 => ?_)
    obtain ⟨hM112, fM112, h114⟩ := h113
    have u115a := tn_a (M := M112) (p := gp) (f := rwX M0 gp 12) (by exact h114.2.1)
    refine j_aload_n C 1 0 dX11_open_37 rfl rfl ?_
    refine y_getC C 10 88 fX11_open_94 rfl rfl ft_10_14 sm_10_14 rfl hM112 dX11_open_38 ?_
    refine j_iload_n C 2 1 dX11_open_41 rfl rfl ?_
    refine j_callVv C (d := 3) (As := [.int (sI a1)]) (st := []) 88 (s_lt rfl rfl) (s_kc (c := 4) rfl rfl) (by decide) rfl (s2_X5_passDays hM112 hpr a1 (by exact ⟨ha1.1, ha1.2⟩)) gX11_open_X5_passDays rfl hdX5_passDays (by decide) (Nat.le_of_ble_eq_true rfl) dX11_open_42 rfl (fun M117 h118 => ?_)
    obtain ⟨hM117, fM117⟩ := h118
    refine j_aload_n C 1 0 dX11_open_45 rfl rfl ?_
    refine y_getC C 10 88 fX11_open_94 rfl rfl ft_10_14 sm_10_14 rfl hM117 dX11_open_46 ?_
    refine j_callVj C (d := 1) (As := []) (st := []) 88 (s_lt rfl rfl) (s_kc (c := 4) rfl rfl) (by decide) rfl (s1_X5_openWays hM117) gX11_open_X5_openWays rfl hdX5_openWays (by decide) (Nat.le_of_ble_eq_true rfl) dX11_open_49 rfl (fun r120 M121 h122 => ?_)
    obtain ⟨a124, rfl, rfl, h123⟩ := h122
    refine j_aload_n C 1 0 dX11_open_52 rfl rfl ?_
    refine y_getC C 10 88 fX11_open_94 rfl rfl ft_10_14 sm_10_14 rfl hM117 dX11_open_53 ?_
    refine y_getJ C 4 fX11_open_296 rfl rfl ft_4_7 dX11_open_56 (fun a125 ea125 la125 ua125 => ?_)
    refine j_iload_n C 3 2 dX11_open_59 rfl rfl ?_
    refine j_callSj C (d := 1) (As := [.long (sJ a124), .long (sJ a125), .int (sI a2)]) (st := []) (s1_X11_inLowestTerms hM117 a124 (by exact ⟨h123.1, h123.2⟩) a125 (by exact ⟨la125, ua125⟩) a2 (by exact ⟨ha2.1, ha2.2⟩)) gX11_open_X11_inLowestTerms rfl hdX11_inLowestTermss (by decide) (Nat.le_of_ble_eq_true rfl) dX11_open_60 rfl (fun r126 M127 h128 => ?_)
    obtain ⟨a130, rfl, rfl, h129⟩ := h128
    have u131A7 := hM112.rd (i := gp) (c := 6) (k := 7) cgp (show s_b 6 7 = (0, 900) from rfl)
    have u131A9 := hM112.rd (i := gp) (c := 6) (k := 9) cgp (show s_b 6 9 = (0, 900) from rfl)
    have u131A := apx_o (M := M112) (N := M117) (p := gp) (ple_f (p := gp) ((FX.rf.tr fM117 (by decide)) : FX [88, 92, 93, 94] M112 M117) cgp (by decide)) (((FX.rf.tr fM117 (by decide)) : FX [88, 92, 93, 94] M112 M117).cell (by decide)) (((FX.rf.tr fM117 (by decide)) : FX [88, 92, 93, 94] M112 M117).cell (by decide)) (((FX.rf.tr fM117 (by decide)) : FX [88, 92, 93, 94] M112 M117).cell (by decide)) u131A7.1 u131A9.1 (by exact u115a)
    exact hret _ _ _ _ dX11_open_63 ⟨a130, rfl, hM117, ((FX.rf.tr fM112 (by decide)).tr fM117 (by decide)), by exact ⟨h129.1, ⟨h129.2, u131A⟩⟩⟩
  · refine j_iload_n C 0 3 dX11_open_12 rfl rfl ?_
    refine y_i2l C dX11_open_13 (by omega) ?_
    exact hret _ _ _ _ dX11_open_14 ⟨a106, rfl, hM0, FX.rf, by exact ⟨(by (clear h107 hret C hp3 hp2 hp1 egp cgp ha2 ha1 hpr hM0; omega)), ⟨(by (clear h107 hret C hp3 hp2 hp1 egp cgp ha2 ha1 hpr hM0; omega)), hp0⟩⟩⟩
set_option maxHeartbeats 4000000 in
theorem s2_X11_likely {l : Launch} {dC : Nat → ClassId} {dI : Nat → Nat → Nat} {ad : Nat → Nat} {cA : Nat → ClassId} {pr : Nat → Nat → Bool} {Kz : mm_M} {M0 : mm_M} (hM0 : INV pr Kz M0) (hpr : PX pr) (a1 : Int) (ha1 : -2147483648 ≤ a1 ∧ a1 ≤ 2147483647) (gp : Nat) (cgp : s_c gp = 6) (egp : gp = M0.2.2 0 4) (hp0 : b01 (APX M0 gp) = 1) (hp1 : b01 (LAW M0 gp) = 1) (hp2 : b01 (PRR (rwX M0 gp 12)) = 1) (hp3 : (M0.1 12 3).toInt < pw2 (M0.1 12 0).toInt) : Ci l 6 yX11_likely wsX11_likely dC dI ad cA [.ref (ad 0), .int (sI a1)] M0 (fun r M' => ∃ a : Int, r = sI a ∧ INV pr Kz M' ∧ FX [81, 82, 83, 84, 85, 86, 88, 89, 90, 92, 93, 94] M0 M' ∧ (-3) ≤ a ∧ a ≤ 10 ∧ (b01 (APX M' gp) = 1)) := by
  refine ci_of (cc := cX11_likely) (maxL := 3) (ty := .int) (lv := [(0, .ref (ad 0)), (1, .int (sI a1))]) (by decide) rfl (fun r M' hp => rfl) (Nat.le_of_ble_eq_true rfl) rfl ?_
  intro p e s m args below meth c A Q C hret
  refine j_iload_n C 1 1 dX11_likely_0 rfl rfl ?_
  refine y_if_lt C 10 dX11_likely_1 (by decide) (by exact ⟨ha1.1, ha1.2⟩) (fun h102 => ?_) (fun h102 => ?_)
  · refine y_bipush C dX11_likely_10 rfl ?_
    exact hret _ _ _ _ dX11_likely_12 ⟨(-3), rfl, hM0, FX.rf, by exact ⟨(by decide), ⟨(by decide), hp0⟩⟩⟩
  · refine j_iload_n C 1 1 dX11_likely_4 rfl rfl ?_
    refine y_bipush C dX11_likely_5 rfl ?_
    refine y_icmp_le C 13 dX11_likely_7 (by decide) (by exact ⟨⟨ha1.1, ha1.2⟩, ⟨(by decide), (by decide)⟩⟩) (fun h104 => ?_) (fun h104 => ?_)
    · refine j_aload_n C 0 0 dX11_likely_13 rfl rfl ?_
      refine y_getC C 10 88 fX11_likely_94 rfl rfl ft_10_14 sm_10_14 rfl hM0 dX11_likely_14 ?_
      refine j_aload_n C 0 0 dX11_likely_17 rfl rfl ?_
      refine y_getV C 10 gp fX11_likely_26 rfl rfl ft_10_4 (egp) dX11_likely_18 ?_
      refine j_aload_n C 0 0 dX11_likely_21 rfl rfl ?_
      refine y_getC C 10 12 fX11_likely_36 rfl rfl ft_10_6 sm_10_6 rfl hM0 dX11_likely_22 ?_
      refine j_aload_n C 0 0 dX11_likely_25 rfl rfl ?_
      refine y_getC C 10 12 fX11_likely_36 rfl rfl ft_10_6 sm_10_6 rfl hM0 dX11_likely_26 ?_
      refine y_getI C 8 _ _ fX11_likely_153 rfl rfl ft_8_4 sb_8_4 hM0 dX11_likely_29 (fun a105 ea105 la105 ua105 => ?_)
      refine j_callVv C (d := 5) (As := [.ref (ad gp), .ref (ad 12), .int (sI a105)]) (st := []) 88 (s_lt rfl rfl) (s_kc (c := 4) rfl rfl) (by decide) rfl (s2_X5_look hM0 hpr cgp a105 (by omega) (by exact hp0) (by exact hp1) (by exact hp2) (by exact hp3) (by exact ⟨la105, ua105⟩)) gX11_likely_X5_look rfl hdX5_look (by decide) (Nat.le_of_ble_eq_true rfl) dX11_likely_32 rfl (fun M109 h110 => ?_)
      obtain ⟨hM109, fM109, h111⟩ := h110
      have u112a := tn_a (M := M109) (p := gp) (f := rwX M0 gp 12) (by exact h111.2.1)
      refine y_iconst C dX11_likely_35 ?_
      refine j_istore_n C 2 [(2, .int (sI 0)), (0, .ref (ad 0)), (1, .int (sI a1))] dX11_likely_36 rfl (by decide) rfl ?_
      have L405 : ∀ (n403 : Nat), ∀ (a406 : Int) (M407 : mm_M), (0 ≤ a406 ∧ a406 ≤ 11 ∧ (b01 (APX M407 gp) = 1) ∧ (11 - a406) < (n403 : Int)) → INV pr Kz M407 → FX [81, 82, 83, 84, 85, 86, 88, 89, 90, 92, 93, 94] M0 M407 → jj p l e (cn_R 6) s m args below meth c 0 0 Q 3 dC dI ad cA A M407 37 [(0, .ref (ad 0)), (1, .int (sI a1)), (2, .int (sI a406))] [] := by
        intro n403
        induction n403 with
        | zero =>
          intro a406 M407 h408 hM407 fM407
          exfalso; omega
        | succ n403 ih404 =>
          intro a406 M407 h408 hM407 fM407
          refine j_iload_n C 2 2 dX11_likely_37 rfl rfl ?_
          refine y_bipush C dX11_likely_38 rfl ?_
          refine y_icmp_gt C 90 dX11_likely_40 (by decide) (by exact ⟨⟨(by (clear fM407 hM407 ih404 u112a h111 fM109 hM109 ua105 la105 ea105 h104 h102 hret C hp3 hp2 hp1 hp0 egp cgp ha1 hpr hM0; omega)), (by (clear fM407 hM407 ih404 u112a h111 fM109 hM109 ua105 la105 ea105 h104 h102 hret C hp3 hp2 hp1 hp0 egp cgp ha1 hpr hM0; omega))⟩, ⟨(by decide), (by decide)⟩⟩) (fun h410 => ?_) (fun h410 => ?_)
          · refine y_iconst C dX11_likely_90 ?_
            exact hret _ _ _ _ dX11_likely_91 ⟨(-1), rfl, hM407, (FX.rf.tr fM407 (by decide)), by exact ⟨(by decide), ⟨(by decide), h408.2.2.1⟩⟩⟩
          · refine j_aload_n C 0 0 dX11_likely_43 rfl rfl ?_
            refine y_getC C 10 88 fX11_likely_94 rfl rfl ft_10_14 sm_10_14 rfl hM407 dX11_likely_44 ?_
            refine j_iload_n C 2 2 dX11_likely_47 rfl rfl ?_
            refine j_callVv C (d := 3) (As := [.int (sI a406)]) (st := []) 88 (s_lt rfl rfl) (s_kc (c := 4) rfl rfl) (by decide) rfl (s2_X5_passDays hM407 hpr a406 (by (clear fM407 hM407 ih404 u112a h111 fM109 hM109 ua105 la105 ea105 h104 h102 hret C hp3 hp2 hp1 hp0 egp cgp ha1 hpr hM0; omega))) gX11_likely_X5_passDays rfl hdX5_passDays (by decide) (Nat.le_of_ble_eq_true rfl) dX11_likely_48 rfl (fun M413 h414 => ?_)
            obtain ⟨hM413, fM413⟩ := h414
            refine j_aload_n C 0 0 dX11_likely_51 rfl rfl ?_
            refine y_getC C 10 88 fX11_likely_94 rfl rfl ft_10_14 sm_10_14 rfl hM413 dX11_likely_52 ?_
            refine y_getJ C 4 fX11_likely_296 rfl rfl ft_4_7 dX11_likely_55 (fun a416 ea416 la416 ua416 => ?_)
            refine j_aload_n C 0 0 dX11_likely_58 rfl rfl ?_
            refine y_getC C 10 88 fX11_likely_94 rfl rfl ft_10_14 sm_10_14 rfl hM413 dX11_likely_59 ?_
            refine j_callVj C (d := 1) (As := []) (st := [.long (sJ a416)]) 88 (s_lt rfl rfl) (s_kc (c := 4) rfl rfl) (by decide) rfl (s1_X5_openWays hM413) gX11_likely_X5_openWays rfl hdX5_openWays (by decide) (Nat.le_of_ble_eq_true rfl) dX11_likely_62 rfl (fun r417 M418 h419 => ?_)
            obtain ⟨a421, rfl, rfl, h420⟩ := h419
            refine y_lsub0 C dX11_likely_65 (fun a422 la422 ua422 => ?_)
            refine j_aload_n C 0 0 dX11_likely_66 rfl rfl ?_
            refine y_getC C 10 88 fX11_likely_94 rfl rfl ft_10_14 sm_10_14 rfl hM413 dX11_likely_67 ?_
            refine y_getJ C 4 fX11_likely_296 rfl rfl ft_4_7 dX11_likely_70 (fun a423 ea423 la423 ua423 => ?_)
            refine j_callSj C (d := 0) (As := [.long (sJ a422), .long (sJ a423)]) (st := []) (s1_X11_hundredths hM413 a422 (by exact ⟨la422, ua422⟩) a423 (by exact ⟨la423, ua423⟩)) gX11_likely_X11_hundredths rfl hdX11_hundredthss (by decide) (Nat.le_of_ble_eq_true rfl) dX11_likely_73 rfl (fun r424 M425 h426 => ?_)
            obtain ⟨a428, rfl, rfl, h427⟩ := h426
            refine j_iload_n C 1 1 dX11_likely_76 rfl rfl ?_
            refine y_i2l C dX11_likely_77 (by exact ⟨ha1.1, ha1.2⟩) ?_
            refine y_lcmp_lt C 84 dX11_likely_78 dX11_likely_79 (by decide) (by exact ⟨⟨h427.1, h427.2⟩, ⟨(by (clear ua423 la423 ea423 ua422 la422 h420 ua416 la416 ea416 fM413 hM413 h410 fM407 hM407 h408 ih404 u112a h111 fM109 hM109 ua105 la105 ea105 hret C hp3 hp2 hp1 hp0 egp cgp hpr hM0; omega)), (by (clear ua423 la423 ea423 ua422 la422 h420 ua416 la416 ea416 fM413 hM413 h410 fM407 hM407 h408 ih404 u112a h111 fM109 hM109 ua105 la105 ea105 hret C hp3 hp2 hp1 hp0 egp cgp hpr hM0; omega))⟩⟩) (fun h429 => ?_) (fun h429 => ?_)
            · refine y_iinc C 2 [(2, .int (sI (a406 + 1))), (0, .ref (ad 0)), (1, .int (sI a1))] dX11_likely_84 rfl (by decide) rfl ?_
              refine j_goto C 37 dX11_likely_87 (by decide) ?_
              have u430A7 := hM407.rd (i := gp) (c := 6) (k := 7) cgp (show s_b 6 7 = (0, 900) from rfl)
              have u430A9 := hM407.rd (i := gp) (c := 6) (k := 9) cgp (show s_b 6 9 = (0, 900) from rfl)
              have u430A := apx_o (M := M407) (N := M413) (p := gp) (ple_f (p := gp) ((FX.rf.tr fM413 (by decide)) : FX [88, 92, 93, 94] M407 M413) cgp (by decide)) (((FX.rf.tr fM413 (by decide)) : FX [88, 92, 93, 94] M407 M413).cell (by decide)) (((FX.rf.tr fM413 (by decide)) : FX [88, 92, 93, 94] M407 M413).cell (by decide)) (((FX.rf.tr fM413 (by decide)) : FX [88, 92, 93, 94] M407 M413).cell (by decide)) u430A7.1 u430A9.1 (by exact h408.2.2.1)
              refine j_lv [1, 2, 0] rfl ?_; exact ih404 (a406 + 1) M413 (by exact ⟨(by (clear u430A9 u430A7 h429 h427 ua423 la423 ea423 ua422 la422 h420 ua416 la416 ea416 fM413 hM413 fM407 hM407 ih404 u112a h111 fM109 hM109 ua105 la105 ea105 h104 h102 hret C hp3 hp2 hp1 hp0 egp cgp ha1 hpr hM0; omega)), ⟨(by (clear u430A9 u430A7 h429 h427 ua423 la423 ea423 ua422 la422 h420 ua416 la416 ea416 fM413 hM413 fM407 hM407 ih404 u112a h111 fM109 hM109 ua105 la105 ea105 h104 h102 hret C hp3 hp2 hp1 hp0 egp cgp ha1 hpr hM0; omega)), ⟨u430A, (by (clear u430A9 u430A7 h429 h427 ua423 la423 ea423 ua422 la422 h420 ua416 la416 ea416 fM413 hM413 fM407 hM407 ih404 u112a h111 fM109 hM109 ua105 la105 ea105 h104 h102 hret C hp3 hp2 hp1 hp0 egp cgp ha1 hpr hM0; omega))⟩⟩⟩) hM413 ((FX.rf.tr fM407 (by decide)).tr fM413 (by decide))
            · refine j_iload_n C 2 2 dX11_likely_82 rfl rfl ?_
              have u431A7 := hM407.rd (i := gp) (c := 6) (k := 7) cgp (show s_b 6 7 = (0, 900) from rfl)
              have u431A9 := hM407.rd (i := gp) (c := 6) (k := 9) cgp (show s_b 6 9 = (0, 900) from rfl)
              have u431A := apx_o (M := M407) (N := M413) (p := gp) (ple_f (p := gp) ((FX.rf.tr fM413 (by decide)) : FX [88, 92, 93, 94] M407 M413) cgp (by decide)) (((FX.rf.tr fM413 (by decide)) : FX [88, 92, 93, 94] M407 M413).cell (by decide)) (((FX.rf.tr fM413 (by decide)) : FX [88, 92, 93, 94] M407 M413).cell (by decide)) (((FX.rf.tr fM413 (by decide)) : FX [88, 92, 93, 94] M407 M413).cell (by decide)) u431A7.1 u431A9.1 (by exact h408.2.2.1)
              exact hret _ _ _ _ dX11_likely_83 ⟨a406, rfl, hM413, ((FX.rf.tr fM407 (by decide)).tr fM413 (by decide)), by exact ⟨(by (clear u431A9 u431A7 h429 h427 ua423 la423 ea423 ua422 la422 h420 ua416 la416 ea416 fM413 hM413 fM407 hM407 ih404 u112a h111 fM109 hM109 ua105 la105 ea105 h104 h102 hret C hp3 hp2 hp1 hp0 egp cgp ha1 hpr hM0; omega)), ⟨(by (clear u431A9 u431A7 h429 h427 ua423 la423 ea423 ua422 la422 h420 ua416 la416 ea416 fM413 hM413 fM407 hM407 ih404 u112a h111 fM109 hM109 ua105 la105 ea105 h104 h102 hret C hp3 hp2 hp1 hp0 egp cgp ha1 hpr hM0; omega)), u431A⟩⟩⟩
      refine j_lv [1, 2, 0] rfl ?_; exact L405 2010 0 M109 (by exact ⟨(by decide), ⟨(by decide), ⟨u112a, (by decide)⟩⟩⟩) hM109 (FX.rf.tr fM109 (by decide))
    · refine y_bipush C dX11_likely_10 rfl ?_
      exact hret _ _ _ _ dX11_likely_12 ⟨(-3), rfl, hM0, FX.rf, by exact ⟨(by decide), ⟨(by decide), hp0⟩⟩⟩
end
