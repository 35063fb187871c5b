set_option maxHeartbeats 4000000 in
theorem s2_X11_settle {l : Launch} {dC : Nat → ClassId} {dI : Nat → Nat → Nat} {ad : Nat → Nat} {cA : Nat → ClassId} {pr : Nat → Nat → Bool} {Kz : mm_M} {M0 : mm_M} (hM0 : INV pr Kz M0) (hpr : PX pr) (hq8_0 : ∀ i, s_c i = 8 → pr i 0 = false) (a1 : Int) (ha1 : -2147483648 ≤ a1 ∧ a1 ≤ 2147483647) : Ci l 2 yX11_settle wsX11_settle dC dI ad cA [.ref (ad 0), .int (sI a1)] M0 (fun r M' => ∃ a : Int, r = sI a ∧ INV pr Kz M' ∧ FX [18, 20, 21, 22, 23, 24, 25, 26, 27, 28, 29, 30, 31, 32, 33, 34, 35, 36, 37, 38, 39, 40, 41, 42, 43, 44, 45, 46, 47, 48, 49] M0 M' ∧ (-2147483648) ≤ a ∧ a ≤ 2147483647 ∧ (a = a1) ∧ (b01 (RGI a1 M0 M' (skX M0 15)) = 1)) := by
  refine ci_of (cc := cX11_settle) (maxL := 2) (ty := .int) (lv := [(0, .ref (ad 0)), (1, .int (sI a1))]) (by decide) rfl (fun r M' hp => rfl) (Nat.le_of_ble_eq_true rfl) rfl ?_
  intro p e s m args below meth c A Q C hret
  refine j_iload_n C 1 1 dX11_settle_0 rfl rfl ?_
  refine y_if_lt C 15 dX11_settle_1 (by decide) (by omega) (fun h101 => ?_) (fun h101 => ?_)
  · refine j_iload_n C 1 1 dX11_settle_15 rfl rfl ?_
    have u102k := rgi_n (a := a1) (r := skX M0 15) (by omega) (rg_s M0)
    exact hret _ _ _ _ dX11_settle_16 ⟨a1, rfl, hM0, FX.rf, by omega⟩
  · refine j_aload_n C 0 0 dX11_settle_4 rfl rfl ?_
    refine y_getC C 10 18 fX11_settle_46 rfl rfl ft_10_8 sm_10_8 rfl hM0 dX11_settle_5 ?_
    refine j_aload_n C 0 0 dX11_settle_8 rfl rfl ?_
    refine y_getC C 10 15 fX11_settle_40 rfl rfl ft_10_7 sm_10_7 rfl hM0 dX11_settle_9 ?_
    refine j_callVv C (d := 1) (As := [.ref (ad 15)]) (st := []) 18 (s_lt rfl rfl) (s_kc (c := 5) rfl rfl) (by decide) rfl (s2_X6_keep hM0 hpr hq8_0) gX11_settle_X6_keep rfl hdX6_keep (by decide) (Nat.le_of_ble_eq_true rfl) dX11_settle_12 rfl (fun M104 h105 => ?_)
    obtain ⟨hM104, fM104, h106⟩ := h105
    refine j_iload_n C 1 1 dX11_settle_15 rfl rfl ?_
    have u107k := rgi_y (a := a1) (M := M0) (N := M104) (r := skX M0 15) (by omega) (by omega)
    exact hret _ _ _ _ dX11_settle_16 ⟨a1, rfl, hM104, (FX.rf.tr fM104 (by decide)), by omega⟩
set_option maxHeartbeats 4000000 in
theorem s2_X11_visit {l : Launch} {dC : Nat → ClassId} {dI : Nat → Nat → Nat} {ad : Nat → Nat} {cA : Nat → ClassId} {pr : Nat → Nat → Bool} {Kz : mm_M} {M0 : mm_M} (hM0 : INV pr Kz M0) (hpr : PX pr) (hq8_0 : ∀ i, s_c i = 8 → pr i 0 = false) (a1 : Int) (ha1 : -2147483648 ≤ a1 ∧ a1 ≤ 2147483647) (gp : Nat) (cgp : s_c gp = 6) (egp : gp = M0.2.2 0 4) (hp0 : b01 (APX M0 gp) = 1) (hp1 : b01 (LAW M0 gp) = 1) (hp2 : b01 (PRR (rwX M0 gp 12)) = 1) : Ci l 5 yX11_visit wsX11_visit dC dI ad cA [.ref (ad 0), .int (sI a1)] M0 (fun r M' => ∃ a : Int, r = sI a ∧ INV pr Kz M' ∧ FX [12, 15, 16, 17, 18, 20, 21, 22, 23, 24, 25, 26, 27, 28, 29, 30, 31, 32, 33, 34, 35, 36, 37, 38, 39, 40, 41, 42, 43, 44, 45, 46, 47, 48, 49, 81, 82, 83, 84, 85, 86] M0 M' ∧ (-2147483648) ≤ a ∧ a ≤ 2147483647 ∧ (a = aI (wvF (rwX M0 gp 12) a1) (bnF (rwX M0 gp 12) a1)) ∧ (b01 (rwX M' gp 12 = dvS (wvF (rwX M0 gp 12) a1) (rwX M0 gp 12) (vsS (rwX M0 gp 12) a1)) = 1) ∧ (b01 (APX M' gp) = 1) ∧ (b01 (RGI a M0 M' (skX M0 12)) = 1)) := by
  refine ci_of (cc := cX11_visit) (maxL := 2) (ty := .int) (lv := [(0, .ref (ad 0)), (1, .int (sI a1))]) (by decide) rfl (fun r M' hp => rfl) (Nat.le_of_ble_eq_true rfl) rfl ?_
  intro p e s m args below meth c A Q C hret
  refine j_aload_n C 0 0 dX11_visit_0 rfl rfl ?_
  refine y_getC C 10 15 fX11_visit_40 rfl rfl ft_10_7 sm_10_7 rfl hM0 dX11_visit_1 ?_
  refine j_aload_n C 0 0 dX11_visit_4 rfl rfl ?_
  refine y_getC C 10 12 fX11_visit_36 rfl rfl ft_10_6 sm_10_6 rfl hM0 dX11_visit_5 ?_
  refine j_callVv C (d := 0) (As := [.ref (ad 12)]) (st := []) 15 (s_lt rfl rfl) (s_kc (c := 8) rfl rfl) (by decide) rfl (s2_X9_copyFrom hM0 hpr hq8_0) gX11_visit_X9_copyFrom rfl hdX9_copyFrom (by decide) (Nat.le_of_ble_eq_true rfl) dX11_visit_8 rfl (fun M103 h104 => ?_)
  obtain ⟨hM103, fM103, h105⟩ := h104
  refine j_aload_n C 0 0 dX11_visit_11 rfl rfl ?_
  refine j_aload_n C 0 0 dX11_visit_12 rfl rfl ?_
  refine y_getC C 10 87 fX11_visit_85 rfl rfl ft_10_13 sm_10_13 rfl hM103 dX11_visit_13 ?_
  refine j_aload_n C 0 0 dX11_visit_16 rfl rfl ?_
  refine y_getV C 10 gp fX11_visit_26 rfl rfl ft_10_4 (s_pX fM103 (egp)) dX11_visit_17 ?_
  refine j_aload_n C 0 0 dX11_visit_20 rfl rfl ?_
  refine y_getC C 10 12 fX11_visit_36 rfl rfl ft_10_6 sm_10_6 rfl hM103 dX11_visit_21 ?_
  refine j_iload_n C 1 1 dX11_visit_24 rfl rfl ?_
  have u106A7 := hM0.rd (i := gp) (c := 6) (k := 7) cgp (show s_b 6 7 = (0, 900) from rfl)
  have u106A9 := hM0.rd (i := gp) (c := 6) (k := 9) cgp (show s_b 6 9 = (0, 900) from rfl)
  have u106A := apx_o (M := M0) (N := M103) (p := gp) (ple_f (p := gp) ((FX.rf.tr fM103 (by decide)) : FX [15, 16, 17] M0 M103) cgp (by decide)) (((FX.rf.tr fM103 (by decide)) : FX [15, 16, 17] M0 M103).cell (by decide)) (((FX.rf.tr fM103 (by decide)) : FX [15, 16, 17] M0 M103).cell (by decide)) (((FX.rf.tr fM103 (by decide)) : FX [15, 16, 17] M0 M103).cell (by decide)) u106A7.1 u106A9.1 (by omega)
  have u106L7 := hM0.rd (i := gp) (c := 6) (k := 7) cgp (show s_b 6 7 = (0, 900) from rfl)
  have u106L9 := hM0.rd (i := gp) (c := 6) (k := 9) cgp (show s_b 6 9 = (0, 900) from rfl)
  have u106L := law_p (M := M0) (N := M103) (p := gp) (ple_f (p := gp) ((FX.rf.tr fM103 (by decide)) : FX [15, 16, 17] M0 M103) cgp (by decide)) u106L7.1 u106L9.1 (by omega)
  have u106e : rwX M103 gp 12 = rwX M0 gp 12 := (rx_f (p := gp) (v := 12) (ple_f (p := gp) ((FX.rf.tr fM103 (by decide)) : FX [15, 16, 17] M0 M103) cgp (by decide)) (ske_n ((FX.rf.tr fM103 (by decide)) : FX [15, 16, 17] M0 M103) ⟨by decide, by decide, by decide⟩))
  have u106R : b01 (PRR (rwX M103 gp 12)) = 1 := by rw [u106e]; omega
  refine j_callVi C (d := 4) (As := [.ref (ad gp), .ref (ad 12), .int (sI a1)]) (st := [.ref (ad 0)]) 87 (s_lt rfl rfl) (s_kc (c := 1) rfl rfl) (by decide) rfl (s2_X1_visitBy hM103 hpr cgp a1 (by omega) (by omega) (by omega) (by omega)) gX11_visit_X1_visitBy rfl hdX1_visitBy (by decide) (Nat.le_of_ble_eq_true rfl) dX11_visit_25 rfl (fun r107 M108 h109 => ?_)
  obtain ⟨a111, rfl, hM108, fM108, h110⟩ := h109
  refine j_callVi C (d := 2) (As := [.int (sI a111)]) (st := []) 0 (s_lt rfl rfl) (s_kc (c := 10) rfl rfl) (by decide) rfl (s2_X11_settle hM108 hpr hq8_0 a111 (by omega)) gX11_visit_X11_settle rfl hdX11_settle (by decide) (Nat.le_of_ble_eq_true rfl) dX11_visit_28 rfl (fun r113 M114 h115 => ?_)
  obtain ⟨a117, rfl, hM114, fM114, h116⟩ := h115
  have u118e : rwX M103 gp 12 = rwX M0 gp 12 := (rx_f (p := gp) (v := 12) (ple_f (p := gp) ((FX.rf.tr fM103 (by decide)) : FX [15, 16, 17] M0 M103) cgp (by decide)) (ske_n ((FX.rf.tr fM103 (by decide)) : FX [15, 16, 17] M0 M103) ⟨by decide, by decide, by decide⟩))
  have u118r : b01 (rwX M114 gp 12 = dvS (wvF (rwX M0 gp 12) a1) (rwX M0 gp 12) (vsS (rwX M0 gp 12) a1)) = 1 := by rw [(rx_f (p := gp) (v := 12) (ple_f (p := gp) ((FX.rf.tr fM114 (by decide)) : FX [18, 20, 21, 22, 23, 24, 25, 26, 27, 28, 29, 30, 31, 32, 33, 34, 35, 36, 37, 38, 39, 40, 41, 42, 43, 44, 45, 46, 47, 48, 49] M108 M114) cgp (by decide)) (ske_n ((FX.rf.tr fM114 (by decide)) : FX [18, 20, 21, 22, 23, 24, 25, 26, 27, 28, 29, 30, 31, 32, 33, 34, 35, 36, 37, 38, 39, 40, 41, 42, 43, 44, 45, 46, 47, 48, 49] M108 M114) ⟨by decide, by decide, by decide⟩)), ← u118e]; omega
  have u118a : a117 = aI (wvF (rwX M0 gp 12) a1) (bnF (rwX M0 gp 12) a1) := by rw [← u118e]; omega
  have u118A7 := hM108.rd (i := gp) (c := 6) (k := 7) cgp (show s_b 6 7 = (0, 900) from rfl)
  have u118A9 := hM108.rd (i := gp) (c := 6) (k := 9) cgp (show s_b 6 9 = (0, 900) from rfl)
  have u118A := apx_o (M := M108) (N := M114) (p := gp) (ple_f (p := gp) ((FX.rf.tr fM114 (by decide)) : FX [18, 20, 21, 22, 23, 24, 25, 26, 27, 28, 29, 30, 31, 32, 33, 34, 35, 36, 37, 38, 39, 40, 41, 42, 43, 44, 45, 46, 47, 48, 49] M108 M114) cgp (by decide)) (((FX.rf.tr fM114 (by decide)) : FX [18, 20, 21, 22, 23, 24, 25, 26, 27, 28, 29, 30, 31, 32, 33, 34, 35, 36, 37, 38, 39, 40, 41, 42, 43, 44, 45, 46, 47, 48, 49] M108 M114).cell (by decide)) (((FX.rf.tr fM114 (by decide)) : FX [18, 20, 21, 22, 23, 24, 25, 26, 27, 28, 29, 30, 31, 32, 33, 34, 35, 36, 37, 38, 39, 40, 41, 42, 43, 44, 45, 46, 47, 48, 49] M108 M114).cell (by decide)) (((FX.rf.tr fM114 (by decide)) : FX [18, 20, 21, 22, 23, 24, 25, 26, 27, 28, 29, 30, 31, 32, 33, 34, 35, 36, 37, 38, 39, 40, 41, 42, 43, 44, 45, 46, 47, 48, 49] M108 M114).cell (by decide)) u118A7.1 u118A9.1 (by omega)
  have u118s : skX M108 15 = skX M0 12 := (sk_f (ske_n ((FX.rf.tr fM108 (by decide)) : FX [12, 81, 82, 83, 84, 85, 86] M103 M108) ⟨by decide, by decide, by decide⟩)).trans (b01_e (P := skX M103 15 = skX M0 12) (by omega))
  have u118g := rgi_m (a := a111) (M := M0) (B := M108) (N := M114) (r := skX M108 15) (((FX.rf.tr fM103 (by decide)).tr fM108 (by decide)) : FX [12, 15, 16, 17, 81, 82, 83, 84, 85, 86] M0 M108) (by decide) (by decide) u118s (by omega)
  have u118h : b01 (RGI a117 M0 M114 (skX M0 12)) = 1 := by rw [show a117 = a111 by omega]; exact u118g
  exact hret _ _ _ _ dX11_visit_31 ⟨a117, rfl, hM114, (((FX.rf.tr fM103 (by decide)).tr fM108 (by decide)).tr fM114 (by decide)), by omega⟩
set_option maxHeartbeats 4000000 in
theorem s2_X11_gift {l : Launch} {dC : Nat → ClassId} {dI : Nat → Nat → Nat} {ad : Nat → Nat} {cA : Nat → ClassId} {pr : Nat → Nat → Bool} {Kz : mm_M} {M0 : mm_M} (hM0 : INV pr Kz M0) (hpr : PX pr) (hq8_0 : ∀ i, s_c i = 8 → pr i 0 = false) (a1 : Int) (ha1 : -2147483648 ≤ a1 ∧ a1 ≤ 2147483647) (gp : Nat) (cgp : s_c gp = 6) (egp : gp = M0.2.2 0 4) (hp0 : b01 (APX M0 gp) = 1) : Ci l 3 yX11_gift wsX11_gift dC dI ad cA [.ref (ad 0), .int (sI a1)] M0 (fun r M' => ∃ a : Int, r = sI a ∧ INV pr Kz M' ∧ FX [12, 15, 16, 17, 18, 20, 21, 22, 23, 24, 25, 26, 27, 28, 29, 30, 31, 32, 33, 34, 35, 36, 37, 38, 39, 40, 41, 42, 43, 44, 45, 46, 47, 48, 49] M0 M' ∧ (-2147483648) ≤ a ∧ a ≤ 2147483647 ∧ (a = aI (wkF (rwX M0 gp 12) a1) (addI ((rwX M0 gp 12) 30).toInt 1)) ∧ (b01 (rwX M' gp 12 = dvS (wkF (rwX M0 gp 12) a1) (rwX M0 gp 12) (gsS (rwX M0 gp 12))) = 1) ∧ (b01 (APX M' gp) = 1) ∧ (b01 (RGI a M0 M' (skX M0 12)) = 1)) := by
  refine ci_of (cc := cX11_gift) (maxL := 2) (ty := .int) (lv := [(0, .ref (ad 0)), (1, .int (sI a1))]) (by decide) rfl (fun r M' hp => rfl) (Nat.le_of_ble_eq_true rfl) rfl ?_
  intro p e s m args below meth c A Q C hret
  refine j_aload_n C 0 0 dX11_gift_0 rfl rfl ?_
  refine y_getC C 10 15 fX11_gift_40 rfl rfl ft_10_7 sm_10_7 rfl hM0 dX11_gift_1 ?_
  refine j_aload_n C 0 0 dX11_gift_4 rfl rfl ?_
  refine y_getC C 10 12 fX11_gift_36 rfl rfl ft_10_6 sm_10_6 rfl hM0 dX11_gift_5 ?_
  refine j_callVv C (d := 0) (As := [.ref (ad 12)]) (st := []) 15 (s_lt rfl rfl) (s_kc (c := 8) rfl rfl) (by decide) rfl (s2_X9_copyFrom hM0 hpr hq8_0) gX11_gift_X9_copyFrom rfl hdX9_copyFrom (by decide) (Nat.le_of_ble_eq_true rfl) dX11_gift_8 rfl (fun M103 h104 => ?_)
  obtain ⟨hM103, fM103, h105⟩ := h104
  refine j_aload_n C 0 0 dX11_gift_11 rfl rfl ?_
  refine j_aload_n C 0 0 dX11_gift_12 rfl rfl ?_
  refine y_getC C 10 87 fX11_gift_85 rfl rfl ft_10_13 sm_10_13 rfl hM103 dX11_gift_13 ?_
  refine j_aload_n C 0 0 dX11_gift_16 rfl rfl ?_
  refine y_getC C 10 12 fX11_gift_36 rfl rfl ft_10_6 sm_10_6 rfl hM103 dX11_gift_17 ?_
  refine j_iload_n C 1 1 dX11_gift_20 rfl rfl ?_
  refine j_callVi C (d := 2) (As := [.ref (ad 12), .int (sI a1)]) (st := [.ref (ad 0)]) 87 (s_lt rfl rfl) (s_kc (c := 1) rfl rfl) (by decide) rfl (s2_X1_giveAway hM103 hpr a1 (by omega) gp cgp) gX11_gift_X1_giveAway rfl hdX1_giveAway (by decide) (Nat.le_of_ble_eq_true rfl) dX11_gift_21 rfl (fun r106 M107 h108 => ?_)
  obtain ⟨a110, rfl, hM107, fM107, h109⟩ := h108
  refine j_callVi C (d := 2) (As := [.int (sI a110)]) (st := []) 0 (s_lt rfl rfl) (s_kc (c := 10) rfl rfl) (by decide) rfl (s2_X11_settle hM107 hpr hq8_0 a110 (by omega)) gX11_gift_X11_settle rfl hdX11_settle (by decide) (Nat.le_of_ble_eq_true rfl) dX11_gift_24 rfl (fun r112 M113 h114 => ?_)
  obtain ⟨a116, rfl, hM113, fM113, h115⟩ := h114
  have u117e : rwX M103 gp 12 = rwX M0 gp 12 := (rx_f (p := gp) (v := 12) (ple_f (p := gp) ((FX.rf.tr fM103 (by decide)) : FX [15, 16, 17] M0 M103) cgp (by decide)) (ske_n ((FX.rf.tr fM103 (by decide)) : FX [15, 16, 17] M0 M103) ⟨by decide, by decide, by decide⟩))
  have u117r : b01 (rwX M113 gp 12 = dvS (wkF (rwX M0 gp 12) a1) (rwX M0 gp 12) (gsS (rwX M0 gp 12))) = 1 := by rw [(rx_f (p := gp) (v := 12) (ple_f (p := gp) ((FX.rf.tr fM113 (by decide)) : FX [18, 20, 21, 22, 23, 24, 25, 26, 27, 28, 29, 30, 31, 32, 33, 34, 35, 36, 37, 38, 39, 40, 41, 42, 43, 44, 45, 46, 47, 48, 49] M107 M113) cgp (by decide)) (ske_n ((FX.rf.tr fM113 (by decide)) : FX [18, 20, 21, 22, 23, 24, 25, 26, 27, 28, 29, 30, 31, 32, 33, 34, 35, 36, 37, 38, 39, 40, 41, 42, 43, 44, 45, 46, 47, 48, 49] M107 M113) ⟨by decide, by decide, by decide⟩)), ← u117e]; omega
  have u117a : a116 = aI (wkF (rwX M0 gp 12) a1) (addI ((rwX M0 gp 12) 30).toInt 1) := by rw [← u117e]; omega
  have u117A7 := hM0.rd (i := gp) (c := 6) (k := 7) cgp (show s_b 6 7 = (0, 900) from rfl)
  have u117A9 := hM0.rd (i := gp) (c := 6) (k := 9) cgp (show s_b 6 9 = (0, 900) from rfl)
  have u117A := apx_o (M := M0) (N := M113) (p := gp) (ple_f (p := gp) ((((FX.rf.tr fM103 (by decide)).tr fM107 (by decide)).tr fM113 (by decide)) : FX [12, 15, 16, 17, 18, 20, 21, 22, 23, 24, 25, 26, 27, 28, 29, 30, 31, 32, 33, 34, 35, 36, 37, 38, 39, 40, 41, 42, 43, 44, 45, 46, 47, 48, 49] M0 M113) cgp (by decide)) (((((FX.rf.tr fM103 (by decide)).tr fM107 (by decide)).tr fM113 (by decide)) : FX [12, 15, 16, 17, 18, 20, 21, 22, 23, 24, 25, 26, 27, 28, 29, 30, 31, 32, 33, 34, 35, 36, 37, 38, 39, 40, 41, 42, 43, 44, 45, 46, 47, 48, 49] M0 M113).cell (by decide)) (((((FX.rf.tr fM103 (by decide)).tr fM107 (by decide)).tr fM113 (by decide)) : FX [12, 15, 16, 17, 18, 20, 21, 22, 23, 24, 25, 26, 27, 28, 29, 30, 31, 32, 33, 34, 35, 36, 37, 38, 39, 40, 41, 42, 43, 44, 45, 46, 47, 48, 49] M0 M113).cell (by decide)) (((((FX.rf.tr fM103 (by decide)).tr fM107 (by decide)).tr fM113 (by decide)) : FX [12, 15, 16, 17, 18, 20, 21, 22, 23, 24, 25, 26, 27, 28, 29, 30, 31, 32, 33, 34, 35, 36, 37, 38, 39, 40, 41, 42, 43, 44, 45, 46, 47, 48, 49] M0 M113).cell (by decide)) u117A7.1 u117A9.1 (by omega)
  have u117s : skX M107 15 = skX M0 12 := (sk_f (ske_n ((FX.rf.tr fM107 (by decide)) : FX [12] M103 M107) ⟨by decide, by decide, by decide⟩)).trans (b01_e (P := skX M103 15 = skX M0 12) (by omega))
  have u117g := rgi_m (a := a110) (M := M0) (B := M107) (N := M113) (r := skX M107 15) (((FX.rf.tr fM103 (by decide)).tr fM107 (by decide)) : FX [12, 15, 16, 17] M0 M107) (by decide) (by decide) u117s (by omega)
  have u117h : b01 (RGI a116 M0 M113 (skX M0 12)) = 1 := by rw [show a116 = a110 by omega]; exact u117g
  exact hret _ _ _ _ dX11_gift_27 ⟨a116, rfl, hM113, (((FX.rf.tr fM103 (by decide)).tr fM107 (by decide)).tr fM113 (by decide)), by omega⟩
set_option maxHeartbeats 4000000 in
theorem s2_X11_hide {l : Launch} {dC : Nat → ClassId} {dI : Nat → Nat → Nat} {ad : Nat → Nat} {cA : Nat → ClassId} {pr : Nat → Nat → Bool} {Kz : mm_M} {M0 : mm_M} (hM0 : INV pr Kz M0) (hpr : PX pr) (hq8_0 : ∀ i, s_c i = 8 → pr i 0 = false) (a1 : Int) (ha1 : -2147483648 ≤ a1 ∧ a1 ≤ 2147483647) (gp : Nat) (cgp : s_c gp = 6) (egp : gp = M0.2.2 0 4) (hp0 : b01 (APX M0 gp) = 1) : Ci l 3 yX11_hide wsX11_hide dC dI ad cA [.ref (ad 0), .int (sI a1)] M0 (fun r M' => ∃ a : Int, r = sI a ∧ INV pr Kz M' ∧ FX [12, 15, 16, 17, 18, 20, 21, 22, 23, 24, 25, 26, 27, 28, 29, 30, 31, 32, 33, 34, 35, 36, 37, 38, 39, 40, 41, 42, 43, 44, 45, 46, 47, 48, 49] M0 M' ∧ (-2147483648) ≤ a ∧ a ≤ 2147483647 ∧ (a = aI (wkF (rwX M0 gp 12) a1) (andI (shrI (xorI ((rwX M0 gp 12) 28).toInt (pw2 a1)) a1) 1)) ∧ (b01 (rwX M' gp 12 = dvS (wkF (rwX M0 gp 12) a1) (rwX M0 gp 12) (hsS (rwX M0 gp 12) a1)) = 1) ∧ (b01 (APX M' gp) = 1) ∧ (b01 (RGI a M0 M' (skX M0 12)) = 1)) := by
  refine ci_of (cc := cX11_hide) (maxL := 2) (ty := .int) (lv := [(0, .ref (ad 0)), (1, .int (sI a1))]) (by decide) rfl (fun r M' hp => rfl) (Nat.le_of_ble_eq_true rfl) rfl ?_
  intro p e s m args below meth c A Q C hret
  refine j_aload_n C 0 0 dX11_hide_0 rfl rfl ?_
  refine y_getC C 10 15 fX11_hide_40 rfl rfl ft_10_7 sm_10_7 rfl hM0 dX11_hide_1 ?_
  refine j_aload_n C 0 0 dX11_hide_4 rfl rfl ?_
  refine y_getC C 10 12 fX11_hide_36 rfl rfl ft_10_6 sm_10_6 rfl hM0 dX11_hide_5 ?_
  refine j_callVv C (d := 0) (As := [.ref (ad 12)]) (st := []) 15 (s_lt rfl rfl) (s_kc (c := 8) rfl rfl) (by decide) rfl (s2_X9_copyFrom hM0 hpr hq8_0) gX11_hide_X9_copyFrom rfl hdX9_copyFrom (by decide) (Nat.le_of_ble_eq_true rfl) dX11_hide_8 rfl (fun M103 h104 => ?_)
  obtain ⟨hM103, fM103, h105⟩ := h104
  refine j_aload_n C 0 0 dX11_hide_11 rfl rfl ?_
  refine j_aload_n C 0 0 dX11_hide_12 rfl rfl ?_
  refine y_getC C 10 87 fX11_hide_85 rfl rfl ft_10_13 sm_10_13 rfl hM103 dX11_hide_13 ?_
  refine j_aload_n C 0 0 dX11_hide_16 rfl rfl ?_
  refine y_getC C 10 12 fX11_hide_36 rfl rfl ft_10_6 sm_10_6 rfl hM103 dX11_hide_17 ?_
  refine j_iload_n C 1 1 dX11_hide_20 rfl rfl ?_
  refine j_callVi C (d := 2) (As := [.ref (ad 12), .int (sI a1)]) (st := [.ref (ad 0)]) 87 (s_lt rfl rfl) (s_kc (c := 1) rfl rfl) (by decide) rfl (s2_X1_turn hM103 hpr a1 (by omega) gp cgp) gX11_hide_X1_turn rfl hdX1_turn (by decide) (Nat.le_of_ble_eq_true rfl) dX11_hide_21 rfl (fun r106 M107 h108 => ?_)
  obtain ⟨a110, rfl, hM107, fM107, h109⟩ := h108
  refine j_callVi C (d := 2) (As := [.int (sI a110)]) (st := []) 0 (s_lt rfl rfl) (s_kc (c := 10) rfl rfl) (by decide) rfl (s2_X11_settle hM107 hpr hq8_0 a110 (by omega)) gX11_hide_X11_settle rfl hdX11_settle (by decide) (Nat.le_of_ble_eq_true rfl) dX11_hide_24 rfl (fun r112 M113 h114 => ?_)
  obtain ⟨a116, rfl, hM113, fM113, h115⟩ := h114
  have u117e : rwX M103 gp 12 = rwX M0 gp 12 := (rx_f (p := gp) (v := 12) (ple_f (p := gp) ((FX.rf.tr fM103 (by decide)) : FX [15, 16, 17] M0 M103) cgp (by decide)) (ske_n ((FX.rf.tr fM103 (by decide)) : FX [15, 16, 17] M0 M103) ⟨by decide, by decide, by decide⟩))
  have u117r : b01 (rwX M113 gp 12 = dvS (wkF (rwX M0 gp 12) a1) (rwX M0 gp 12) (hsS (rwX M0 gp 12) a1)) = 1 := by rw [(rx_f (p := gp) (v := 12) (ple_f (p := gp) ((FX.rf.tr fM113 (by decide)) : FX [18, 20, 21, 22, 23, 24, 25, 26, 27, 28, 29, 30, 31, 32, 33, 34, 35, 36, 37, 38, 39, 40, 41, 42, 43, 44, 45, 46, 47, 48, 49] M107 M113) cgp (by decide)) (ske_n ((FX.rf.tr fM113 (by decide)) : FX [18, 20, 21, 22, 23, 24, 25, 26, 27, 28, 29, 30, 31, 32, 33, 34, 35, 36, 37, 38, 39, 40, 41, 42, 43, 44, 45, 46, 47, 48, 49] M107 M113) ⟨by decide, by decide, by decide⟩)), ← u117e]; omega
  have u117a : a116 = aI (wkF (rwX M0 gp 12) a1) (andI (shrI (xorI ((rwX M0 gp 12) 28).toInt (pw2 a1)) a1) 1) := by rw [← u117e]; omega
  have u117A7 := hM0.rd (i := gp) (c := 6) (k := 7) cgp (show s_b 6 7 = (0, 900) from rfl)
  have u117A9 := hM0.rd (i := gp) (c := 6) (k := 9) cgp (show s_b 6 9 = (0, 900) from rfl)
  have u117A := apx_o (M := M0) (N := M113) (p := gp) (ple_f (p := gp) ((((FX.rf.tr fM103 (by decide)).tr fM107 (by decide)).tr fM113 (by decide)) : FX [12, 15, 16, 17, 18, 20, 21, 22, 23, 24, 25, 26, 27, 28, 29, 30, 31, 32, 33, 34, 35, 36, 37, 38, 39, 40, 41, 42, 43, 44, 45, 46, 47, 48, 49] M0 M113) cgp (by decide)) (((((FX.rf.tr fM103 (by decide)).tr fM107 (by decide)).tr fM113 (by decide)) : FX [12, 15, 16, 17, 18, 20, 21, 22, 23, 24, 25, 26, 27, 28, 29, 30, 31, 32, 33, 34, 35, 36, 37, 38, 39, 40, 41, 42, 43, 44, 45, 46, 47, 48, 49] M0 M113).cell (by decide)) (((((FX.rf.tr fM103 (by decide)).tr fM107 (by decide)).tr fM113 (by decide)) : FX [12, 15, 16, 17, 18, 20, 21, 22, 23, 24, 25, 26, 27, 28, 29, 30, 31, 32, 33, 34, 35, 36, 37, 38, 39, 40, 41, 42, 43, 44, 45, 46, 47, 48, 49] M0 M113).cell (by decide)) (((((FX.rf.tr fM103 (by decide)).tr fM107 (by decide)).tr fM113 (by decide)) : FX [12, 15, 16, 17, 18, 20, 21, 22, 23, 24, 25, 26, 27, 28, 29, 30, 31, 32, 33, 34, 35, 36, 37, 38, 39, 40, 41, 42, 43, 44, 45, 46, 47, 48, 49] M0 M113).cell (by decide)) u117A7.1 u117A9.1 (by omega)
  have u117s : skX M107 15 = skX M0 12 := (sk_f (ske_n ((FX.rf.tr fM107 (by decide)) : FX [12] M103 M107) ⟨by decide, by decide, by decide⟩)).trans (b01_e (P := skX M103 15 = skX M0 12) (by omega))
  have u117g := rgi_m (a := a110) (M := M0) (B := M107) (N := M113) (r := skX M107 15) (((FX.rf.tr fM103 (by decide)).tr fM107 (by decide)) : FX [12, 15, 16, 17] M0 M107) (by decide) (by decide) u117s (by omega)
  have u117h : b01 (RGI a116 M0 M113 (skX M0 12)) = 1 := by rw [show a116 = a110 by omega]; exact u117g
  exact hret _ _ _ _ dX11_hide_27 ⟨a116, rfl, hM113, (((FX.rf.tr fM103 (by decide)).tr fM107 (by decide)).tr fM113 (by decide)), by omega⟩
set_option maxHeartbeats 4000000 in
theorem s2_X11_add {l : Launch} {dC : Nat → ClassId} {dI : Nat → Nat → Nat} {ad : Nat → Nat} {cA : Nat → ClassId} {pr : Nat → Nat → Bool} {Kz : mm_M} {M0 : mm_M} (hM0 : INV pr Kz M0) (hpr : PX pr) (hq8_0 : ∀ i, s_c i = 8 → pr i 0 = false) (a1 : Int) (ha1 : -2147483648 ≤ a1 ∧ a1 ≤ 2147483647) (a2 : Int) (ha2 : -2147483648 ≤ a2 ∧ a2 ≤ 2147483647) (gp : Nat) (cgp : s_c gp = 6) (egp : gp = M0.2.2 0 4) (hp0 : b01 (APX M0 gp) = 1) : Ci l 3 yX11_add wsX11_add dC dI ad cA [.ref (ad 0), .int (sI a1), .int (sI a2)] M0 (fun r M' => ∃ a : Int, r = sI a ∧ INV pr Kz M' ∧ FX [12, 13, 14, 15, 16, 17, 18, 20, 21, 22, 23, 24, 25, 26, 27, 28, 29, 30, 31, 32, 33, 34, 35, 36, 37, 38, 39, 40, 41, 42, 43, 44, 45, 46, 47, 48, 49] M0 M' ∧ (-2147483648) ≤ a ∧ a ≤ 2147483647 ∧ (a = aI (waF (rwX M0 gp 12) a1 a2) (((rwX M0 gp 12) 26).toInt)) ∧ (b01 (rwX M' gp 12 = dvS (waF (rwX M0 gp 12) a1 a2) (rwX M0 gp 12) (asS (rwX M0 gp 12) a1 a2)) = 1) ∧ (b01 (APX M' gp) = 1) ∧ (b01 (RGI a M0 M' (skX M0 12)) = 1)) := by
  refine ci_of (cc := cX11_add) (maxL := 3) (ty := .int) (lv := [(0, .ref (ad 0)), (1, .int (sI a1)), (2, .int (sI a2))]) (by decide) rfl (fun r M' hp => rfl) (Nat.le_of_ble_eq_true rfl) rfl ?_
  intro p e s m args below meth c A Q C hret
  refine j_aload_n C 0 0 dX11_add_0 rfl rfl ?_
  refine y_getC C 10 15 fX11_add_40 rfl rfl ft_10_7 sm_10_7 rfl hM0 dX11_add_1 ?_
  refine j_aload_n C 0 0 dX11_add_4 rfl rfl ?_
  refine y_getC C 10 12 fX11_add_36 rfl rfl ft_10_6 sm_10_6 rfl hM0 dX11_add_5 ?_
  refine j_callVv C (d := 0) (As := [.ref (ad 12)]) (st := []) 15 (s_lt rfl rfl) (s_kc (c := 8) rfl rfl) (by decide) rfl (s2_X9_copyFrom hM0 hpr hq8_0) gX11_add_X9_copyFrom rfl hdX9_copyFrom (by decide) (Nat.le_of_ble_eq_true rfl) dX11_add_8 rfl (fun M103 h104 => ?_)
  obtain ⟨hM103, fM103, h105⟩ := h104
  refine j_aload_n C 0 0 dX11_add_11 rfl rfl ?_
  refine j_aload_n C 0 0 dX11_add_12 rfl rfl ?_
  refine y_getC C 10 87 fX11_add_85 rfl rfl ft_10_13 sm_10_13 rfl hM103 dX11_add_13 ?_
  refine j_aload_n C 0 0 dX11_add_16 rfl rfl ?_
  refine y_getC C 10 12 fX11_add_36 rfl rfl ft_10_6 sm_10_6 rfl hM103 dX11_add_17 ?_
  refine j_iload_n C 1 1 dX11_add_20 rfl rfl ?_
  refine j_iload_n C 2 2 dX11_add_21 rfl rfl ?_
  refine j_callVi C (d := 2) (As := [.ref (ad 12), .int (sI a1), .int (sI a2)]) (st := [.ref (ad 0)]) 87 (s_lt rfl rfl) (s_kc (c := 1) rfl rfl) (by decide) rfl (s2_X1_bringIn hM103 hpr hq8_0 a1 (by omega) a2 (by omega) gp cgp) gX11_add_X1_bringIn rfl hdX1_bringIn (by decide) (Nat.le_of_ble_eq_true rfl) dX11_add_22 rfl (fun r106 M107 h108 => ?_)
  obtain ⟨a110, rfl, hM107, fM107, h109⟩ := h108
  refine j_callVi C (d := 2) (As := [.int (sI a110)]) (st := []) 0 (s_lt rfl rfl) (s_kc (c := 10) rfl rfl) (by decide) rfl (s2_X11_settle hM107 hpr hq8_0 a110 (by omega)) gX11_add_X11_settle rfl hdX11_settle (by decide) (Nat.le_of_ble_eq_true rfl) dX11_add_25 rfl (fun r112 M113 h114 => ?_)
  obtain ⟨a116, rfl, hM113, fM113, h115⟩ := h114
  have u117e : rwX M103 gp 12 = rwX M0 gp 12 := (rx_f (p := gp) (v := 12) (ple_f (p := gp) ((FX.rf.tr fM103 (by decide)) : FX [15, 16, 17] M0 M103) cgp (by decide)) (ske_n ((FX.rf.tr fM103 (by decide)) : FX [15, 16, 17] M0 M103) ⟨by decide, by decide, by decide⟩))
  have u117r : b01 (rwX M113 gp 12 = dvS (waF (rwX M0 gp 12) a1 a2) (rwX M0 gp 12) (asS (rwX M0 gp 12) a1 a2)) = 1 := by rw [(rx_f (p := gp) (v := 12) (ple_f (p := gp) ((FX.rf.tr fM113 (by decide)) : FX [18, 20, 21, 22, 23, 24, 25, 26, 27, 28, 29, 30, 31, 32, 33, 34, 35, 36, 37, 38, 39, 40, 41, 42, 43, 44, 45, 46, 47, 48, 49] M107 M113) cgp (by decide)) (ske_n ((FX.rf.tr fM113 (by decide)) : FX [18, 20, 21, 22, 23, 24, 25, 26, 27, 28, 29, 30, 31, 32, 33, 34, 35, 36, 37, 38, 39, 40, 41, 42, 43, 44, 45, 46, 47, 48, 49] M107 M113) ⟨by decide, by decide, by decide⟩)), ← u117e]; omega
  have u117a : a116 = aI (waF (rwX M0 gp 12) a1 a2) (((rwX M0 gp 12) 26).toInt) := by rw [← u117e]; omega
  have u117A7 := hM0.rd (i := gp) (c := 6) (k := 7) cgp (show s_b 6 7 = (0, 900) from rfl)
  have u117A9 := hM0.rd (i := gp) (c := 6) (k := 9) cgp (show s_b 6 9 = (0, 900) from rfl)
  have u117A := apx_o (M := M0) (N := M113) (p := gp) (ple_f (p := gp) ((((FX.rf.tr fM103 (by decide)).tr fM107 (by decide)).tr fM113 (by decide)) : FX [12, 13, 14, 15, 16, 17, 18, 20, 21, 22, 23, 24, 25, 26, 27, 28, 29, 30, 31, 32, 33, 34, 35, 36, 37, 38, 39, 40, 41, 42, 43, 44, 45, 46, 47, 48, 49] M0 M113) cgp (by decide)) (((((FX.rf.tr fM103 (by decide)).tr fM107 (by decide)).tr fM113 (by decide)) : FX [12, 13, 14, 15, 16, 17, 18, 20, 21, 22, 23, 24, 25, 26, 27, 28, 29, 30, 31, 32, 33, 34, 35, 36, 37, 38, 39, 40, 41, 42, 43, 44, 45, 46, 47, 48, 49] M0 M113).cell (by decide)) (((((FX.rf.tr fM103 (by decide)).tr fM107 (by decide)).tr fM113 (by decide)) : FX [12, 13, 14, 15, 16, 17, 18, 20, 21, 22, 23, 24, 25, 26, 27, 28, 29, 30, 31, 32, 33, 34, 35, 36, 37, 38, 39, 40, 41, 42, 43, 44, 45, 46, 47, 48, 49] M0 M113).cell (by decide)) (((((FX.rf.tr fM103 (by decide)).tr fM107 (by decide)).tr fM113 (by decide)) : FX [12, 13, 14, 15, 16, 17, 18, 20, 21, 22, 23, 24, 25, 26, 27, 28, 29, 30, 31, 32, 33, 34, 35, 36, 37, 38, 39, 40, 41, 42, 43, 44, 45, 46, 47, 48, 49] M0 M113).cell (by decide)) u117A7.1 u117A9.1 (by omega)
  have u117s : skX M107 15 = skX M0 12 := (sk_f (ske_n ((FX.rf.tr fM107 (by decide)) : FX [12, 13, 14] M103 M107) ⟨by decide, by decide, by decide⟩)).trans (b01_e (P := skX M103 15 = skX M0 12) (by omega))
  have u117g := rgi_m (a := a110) (M := M0) (B := M107) (N := M113) (r := skX M107 15) (((FX.rf.tr fM103 (by decide)).tr fM107 (by decide)) : FX [12, 13, 14, 15, 16, 17] M0 M107) (by decide) (by decide) u117s (by omega)
  have u117h : b01 (RGI a116 M0 M113 (skX M0 12)) = 1 := by rw [show a116 = a110 by omega]; exact u117g
  exact hret _ _ _ _ dX11_add_28 ⟨a116, rfl, hM113, (((FX.rf.tr fM103 (by decide)).tr fM107 (by decide)).tr fM113 (by decide)), by omega⟩
set_option maxHeartbeats 4000000 in
theorem s2_X11_price {l : Launch} {dC : Nat → ClassId} {dI : Nat → Nat → Nat} {ad : Nat → Nat} {cA : Nat → ClassId} {pr : Nat → Nat → Bool} {Kz : mm_M} {M0 : mm_M} (hM0 : INV pr Kz M0) (hpr : PX pr) (hq8_0 : ∀ i, s_c i = 8 → pr i 0 = false) (a1 : Int) (ha1 : -2147483648 ≤ a1 ∧ a1 ≤ 2147483647) (a2 : Int) (ha2 : -2147483648 ≤ a2 ∧ a2 ≤ 2147483647) (gp : Nat) (cgp : s_c gp = 6) (egp : gp = M0.2.2 0 4) (hp0 : b01 (APX M0 gp) = 1) : Ci l 3 yX11_price wsX11_price dC dI ad cA [.ref (ad 0), .int (sI a1), .int (sI a2)] M0 (fun r M' => ∃ a : Int, r = sI a ∧ INV pr Kz M' ∧ FX [13, 15, 16, 17, 18, 20, 21, 22, 23, 24, 25, 26, 27, 28, 29, 30, 31, 32, 33, 34, 35, 36, 37, 38, 39, 40, 41, 42, 43, 44, 45, 46, 47, 48, 49] M0 M' ∧ (-2147483648) ≤ a ∧ a ≤ 2147483647 ∧ (a = aI (wpF (rwX M0 gp 12) a1 a2) (((rwX M0 gp 12) (33 + a1).toNat).toInt)) ∧ (b01 (rwX M' gp 12 = dvS (wpF (rwX M0 gp 12) a1 a2) (rwX M0 gp 12) (psS (rwX M0 gp 12) a1 a2)) = 1) ∧ (b01 (APX M' gp) = 1) ∧ (b01 (RGI a M0 M' (skX M0 12)) = 1)) := by
  refine ci_of (cc := cX11_price) (maxL := 3) (ty := .int) (lv := [(0, .ref (ad 0)), (1, .int (sI a1)), (2, .int (sI a2))]) (by decide) rfl (fun r M' hp => rfl) (Nat.le_of_ble_eq_true rfl) rfl ?_
  intro p e s m args below meth c A Q C hret
  refine j_aload_n C 0 0 dX11_price_0 rfl rfl ?_
  refine y_getC C 10 15 fX11_price_40 rfl rfl ft_10_7 sm_10_7 rfl hM0 dX11_price_1 ?_
  refine j_aload_n C 0 0 dX11_price_4 rfl rfl ?_
  refine y_getC C 10 12 fX11_price_36 rfl rfl ft_10_6 sm_10_6 rfl hM0 dX11_price_5 ?_
  refine j_callVv C (d := 0) (As := [.ref (ad 12)]) (st := []) 15 (s_lt rfl rfl) (s_kc (c := 8) rfl rfl) (by decide) rfl (s2_X9_copyFrom hM0 hpr hq8_0) gX11_price_X9_copyFrom rfl hdX9_copyFrom (by decide) (Nat.le_of_ble_eq_true rfl) dX11_price_8 rfl (fun M103 h104 => ?_)
  obtain ⟨hM103, fM103, h105⟩ := h104
  refine j_aload_n C 0 0 dX11_price_11 rfl rfl ?_
  refine j_aload_n C 0 0 dX11_price_12 rfl rfl ?_
  refine y_getC C 10 87 fX11_price_85 rfl rfl ft_10_13 sm_10_13 rfl hM103 dX11_price_13 ?_
  refine j_aload_n C 0 0 dX11_price_16 rfl rfl ?_
  refine y_getC C 10 12 fX11_price_36 rfl rfl ft_10_6 sm_10_6 rfl hM103 dX11_price_17 ?_
  refine j_iload_n C 1 1 dX11_price_20 rfl rfl ?_
  refine j_iload_n C 2 2 dX11_price_21 rfl rfl ?_
  refine j_callVi C (d := 2) (As := [.ref (ad 12), .int (sI a1), .int (sI a2)]) (st := [.ref (ad 0)]) 87 (s_lt rfl rfl) (s_kc (c := 1) rfl rfl) (by decide) rfl (s2_X1_reprice hM103 hpr a1 (by omega) a2 (by omega) gp cgp) gX11_price_X1_reprice rfl hdX1_reprice (by decide) (Nat.le_of_ble_eq_true rfl) dX11_price_22 rfl (fun r106 M107 h108 => ?_)
  obtain ⟨a110, rfl, hM107, fM107, h109⟩ := h108
  refine j_callVi C (d := 2) (As := [.int (sI a110)]) (st := []) 0 (s_lt rfl rfl) (s_kc (c := 10) rfl rfl) (by decide) rfl (s2_X11_settle hM107 hpr hq8_0 a110 (by omega)) gX11_price_X11_settle rfl hdX11_settle (by decide) (Nat.le_of_ble_eq_true rfl) dX11_price_25 rfl (fun r112 M113 h114 => ?_)
  obtain ⟨a116, rfl, hM113, fM113, h115⟩ := h114
  have u117e : rwX M103 gp 12 = rwX M0 gp 12 := (rx_f (p := gp) (v := 12) (ple_f (p := gp) ((FX.rf.tr fM103 (by decide)) : FX [15, 16, 17] M0 M103) cgp (by decide)) (ske_n ((FX.rf.tr fM103 (by decide)) : FX [15, 16, 17] M0 M103) ⟨by decide, by decide, by decide⟩))
  have u117r : b01 (rwX M113 gp 12 = dvS (wpF (rwX M0 gp 12) a1 a2) (rwX M0 gp 12) (psS (rwX M0 gp 12) a1 a2)) = 1 := by rw [(rx_f (p := gp) (v := 12) (ple_f (p := gp) ((FX.rf.tr fM113 (by decide)) : FX [18, 20, 21, 22, 23, 24, 25, 26, 27, 28, 29, 30, 31, 32, 33, 34, 35, 36, 37, 38, 39, 40, 41, 42, 43, 44, 45, 46, 47, 48, 49] M107 M113) cgp (by decide)) (ske_n ((FX.rf.tr fM113 (by decide)) : FX [18, 20, 21, 22, 23, 24, 25, 26, 27, 28, 29, 30, 31, 32, 33, 34, 35, 36, 37, 38, 39, 40, 41, 42, 43, 44, 45, 46, 47, 48, 49] M107 M113) ⟨by decide, by decide, by decide⟩)), ← u117e]; omega
  have u117a : a116 = aI (wpF (rwX M0 gp 12) a1 a2) (((rwX M0 gp 12) (33 + a1).toNat).toInt) := by rw [← u117e]; omega
  have u117A7 := hM0.rd (i := gp) (c := 6) (k := 7) cgp (show s_b 6 7 = (0, 900) from rfl)
  have u117A9 := hM0.rd (i := gp) (c := 6) (k := 9) cgp (show s_b 6 9 = (0, 900) from rfl)
  have u117A := apx_o (M := M0) (N := M113) (p := gp) (ple_f (p := gp) ((((FX.rf.tr fM103 (by decide)).tr fM107 (by decide)).tr fM113 (by decide)) : FX [13, 15, 16, 17, 18, 20, 21, 22, 23, 24, 25, 26, 27, 28, 29, 30, 31, 32, 33, 34, 35, 36, 37, 38, 39, 40, 41, 42, 43, 44, 45, 46, 47, 48, 49] M0 M113) cgp (by decide)) (((((FX.rf.tr fM103 (by decide)).tr fM107 (by decide)).tr fM113 (by decide)) : FX [13, 15, 16, 17, 18, 20, 21, 22, 23, 24, 25, 26, 27, 28, 29, 30, 31, 32, 33, 34, 35, 36, 37, 38, 39, 40, 41, 42, 43, 44, 45, 46, 47, 48, 49] M0 M113).cell (by decide)) (((((FX.rf.tr fM103 (by decide)).tr fM107 (by decide)).tr fM113 (by decide)) : FX [13, 15, 16, 17, 18, 20, 21, 22, 23, 24, 25, 26, 27, 28, 29, 30, 31, 32, 33, 34, 35, 36, 37, 38, 39, 40, 41, 42, 43, 44, 45, 46, 47, 48, 49] M0 M113).cell (by decide)) (((((FX.rf.tr fM103 (by decide)).tr fM107 (by decide)).tr fM113 (by decide)) : FX [13, 15, 16, 17, 18, 20, 21, 22, 23, 24, 25, 26, 27, 28, 29, 30, 31, 32, 33, 34, 35, 36, 37, 38, 39, 40, 41, 42, 43, 44, 45, 46, 47, 48, 49] M0 M113).cell (by decide)) u117A7.1 u117A9.1 (by omega)
  have u117s : skX M107 15 = skX M0 12 := (sk_f (ske_n ((FX.rf.tr fM107 (by decide)) : FX [13] M103 M107) ⟨by decide, by decide, by decide⟩)).trans (b01_e (P := skX M103 15 = skX M0 12) (by omega))
  have u117g := rgi_m (a := a110) (M := M0) (B := M107) (N := M113) (r := skX M107 15) (((FX.rf.tr fM103 (by decide)).tr fM107 (by decide)) : FX [13, 15, 16, 17] M0 M107) (by decide) (by decide) u117s (by omega)
  have u117h : b01 (RGI a116 M0 M113 (skX M0 12)) = 1 := by rw [show a116 = a110 by omega]; exact u117g
  exact hret _ _ _ _ dX11_price_28 ⟨a116, rfl, hM113, (((FX.rf.tr fM103 (by decide)).tr fM107 (by decide)).tr fM113 (by decide)), by omega⟩
set_option maxHeartbeats 4000000 in
theorem s13_X9_copyFrom {l : Launch} {dC : Nat → ClassId} {dI : Nat → Nat → Nat} {ad : Nat → Nat} {cA : Nat → ClassId} {pr : Nat → Nat → Bool} {Kz : mm_M} {M0 : mm_M} (hM0 : INV pr Kz M0) (hpr : PX pr) (hq8_0 : ∀ i, s_c i = 8 → pr i 0 = false)  : Cv l 0 yX9_copyFrom wsX9_copyFrom dC dI ad cA [.ref (ad 20), .ref (ad 12)] M0 (fun M' => INV pr Kz M' ∧ FX [20, 21, 22] M0 M' ∧ (b01 (skX M' 20 = skX M0 12) = 1)) := by
  refine cv_of (cc := cX9_copyFrom) (maxL := 3) (lv := [(0, .ref (ad 20)), (1, .ref (ad 12))]) (by decide) rfl (Nat.le_of_ble_eq_true rfl) rfl ?_
  intro p e s m args below meth c A Q C hret
  refine j_aload_n C 0 0 dX9_copyFrom_0 rfl rfl ?_
  refine j_aload_n C 1 1 dX9_copyFrom_1 rfl rfl ?_
  refine y_getI C 8 _ _ fX9_copyFrom_9 rfl rfl ft_8_0 sb_8_0 hM0 dX9_copyFrom_2 (fun a101 ea101 la101 ua101 => ?_)
  obtain rfl : a101 = (M0.1 12 0).toInt := ea101
  refine y_putI C 8 _ _ qX9_copyFrom_9 rfl rfl ft_8_0 sb_8_0 hM0 (hq8_0 _ rfl) dX9_copyFrom_5 (by omega) (fun M103 eM103 hM103 => ?_)
  refine y_iconst C dX9_copyFrom_8 ?_
  refine j_istore_n C 2 [(2, .int (sI 0)), (0, .ref (ad 20)), (1, .ref (ad 12))] dX9_copyFrom_9 rfl (by decide) rfl ?_
  have u104z := cpa_0 M103 M0 21 13 22 14
  have L188 : ∀ (n186 : Nat), ∀ (a189 : Int) (M190 : mm_M), (0 ≤ a189 ∧ a189 ≤ 8 ∧ ((M190.1 20 0).toInt = (M0.1 12 0).toInt) ∧ (b01 (CPA M190 M0 21 13 22 14 a189) = 1) ∧ (8 - a189) < (n186 : Int)) → INV pr Kz M190 → FX [20, 21, 22] M0 M190 → jj p l e (cn_R 0) s m args below meth c 0 0 Q 3 dC dI ad cA A M190 10 [(0, .ref (ad 20)), (1, .ref (ad 12)), (2, .int (sI a189))] [] := by
    intro n186
    induction n186 with
    | zero =>
      intro a189 M190 h191 hM190 fM190
      exfalso; omega
    | succ n186 ih187 =>
      intro a189 M190 h191 hM190 fM190
      refine j_iload_n C 2 2 dX9_copyFrom_10 rfl rfl ?_
      refine y_bipush C dX9_copyFrom_11 rfl ?_
      refine y_icmp_ge C 46 dX9_copyFrom_13 (by decide) (by omega) (fun h193 => ?_) (fun h193 => ?_)
      · refine j_aload_n C 0 0 dX9_copyFrom_46 rfl rfl ?_
        refine j_aload_n C 1 1 dX9_copyFrom_47 rfl rfl ?_
        refine y_getI C 8 _ _ fX9_copyFrom_22 rfl rfl ft_8_3 sb_8_3 hM190 dX9_copyFrom_48 (fun a199 ea199 la199 ua199 => ?_)
        obtain rfl : a199 = (M0.1 12 3).toInt := s_fX fM190 (by decide) (ea199)
        refine y_putI C 8 _ _ qX9_copyFrom_22 rfl rfl ft_8_3 sb_8_3 hM190 (PX.w hpr rfl rfl) dX9_copyFrom_51 (by omega) (fun M201 eM201 hM201 => ?_)
        refine j_aload_n C 0 0 dX9_copyFrom_54 rfl rfl ?_
        refine j_aload_n C 1 1 dX9_copyFrom_55 rfl rfl ?_
        refine y_getI C 8 _ _ fX9_copyFrom_25 rfl rfl ft_8_4 sb_8_4 hM201 dX9_copyFrom_56 (fun a202 ea202 la202 ua202 => ?_)
        obtain rfl : a202 = (M0.1 12 4).toInt := s_fX fM190 (by decide) (s_fa eM201 (by decide) (ea202))
        refine y_putI C 8 _ _ qX9_copyFrom_25 rfl rfl ft_8_4 sb_8_4 hM201 (PX.w hpr rfl rfl) dX9_copyFrom_59 (by omega) (fun M204 eM204 hM204 => ?_)
        refine j_aload_n C 0 0 dX9_copyFrom_62 rfl rfl ?_
        refine j_aload_n C 1 1 dX9_copyFrom_63 rfl rfl ?_
        refine y_getI C 8 _ _ fX9_copyFrom_28 rfl rfl ft_8_5 sb_8_5 hM204 dX9_copyFrom_64 (fun a205 ea205 la205 ua205 => ?_)
        obtain rfl : a205 = (M0.1 12 5).toInt := s_fX fM190 (by decide) (s_fa eM201 (by decide) (s_fa eM204 (by decide) (ea205)))
        refine y_putIF C 8 qX9_copyFrom_28 rfl rfl ft_8_5 sb_8_5 hM204 (PX.w hpr rfl rfl) dX9_copyFrom_67 (fun M207 eM207 hM207 => ?_)
        refine j_aload_n C 0 0 dX9_copyFrom_70 rfl rfl ?_
        refine j_aload_n C 1 1 dX9_copyFrom_71 rfl rfl ?_
        refine y_getI C 8 _ _ fX9_copyFrom_31 rfl rfl ft_8_6 sb_8_6 hM207 dX9_copyFrom_72 (fun a208 ea208 la208 ua208 => ?_)
        obtain rfl : a208 = (M0.1 12 6).toInt := s_fX fM190 (by decide) (s_fa eM201 (by decide) (s_fa eM204 (by decide) (s_fa eM207 (by decide) (ea208))))
        refine y_putIF C 8 qX9_copyFrom_31 rfl rfl ft_8_6 sb_8_6 hM207 (PX.w hpr rfl rfl) dX9_copyFrom_75 (fun M210 eM210 hM210 => ?_)
        refine j_aload_n C 0 0 dX9_copyFrom_78 rfl rfl ?_
        refine j_aload_n C 1 1 dX9_copyFrom_79 rfl rfl ?_
        refine y_getI C 8 _ _ fX9_copyFrom_34 rfl rfl ft_8_7 sb_8_7 hM210 dX9_copyFrom_80 (fun a211 ea211 la211 ua211 => ?_)
        obtain rfl : a211 = (M0.1 12 7).toInt := s_fX fM190 (by decide) (s_fa eM201 (by decide) (s_fa eM204 (by decide) (s_fa eM207 (by decide) (s_fa eM210 (by decide) (ea211)))))
        refine y_putIF C 8 qX9_copyFrom_34 rfl rfl ft_8_7 sb_8_7 hM210 (PX.w hpr rfl rfl) dX9_copyFrom_83 (fun M213 eM213 hM213 => ?_)
        refine j_aload_n C 0 0 dX9_copyFrom_86 rfl rfl ?_
        refine j_aload_n C 1 1 dX9_copyFrom_87 rfl rfl ?_
        refine y_getI C 8 _ _ fX9_copyFrom_37 rfl rfl ft_8_8 sb_8_8 hM213 dX9_copyFrom_88 (fun a214 ea214 la214 ua214 => ?_)
        obtain rfl : a214 = (M0.1 12 8).toInt := s_fX fM190 (by decide) (s_fa eM201 (by decide) (s_fa eM204 (by decide) (s_fa eM207 (by decide) (s_fa eM210 (by decide) (s_fa eM213 (by decide) (ea214))))))
        refine y_putIF C 8 qX9_copyFrom_37 rfl rfl ft_8_8 sb_8_8 hM213 (PX.w hpr rfl rfl) dX9_copyFrom_91 (fun M216 eM216 hM216 => ?_)
        have u217c := cpa_c (M := M190) (M' := M216) (B := M0) (p0 := 21) (p1 := 13) (g0 := 22) (g1 := 14) (n := a189) (n' := 8) (by omega) ((((((wI_cell eM216 (by decide)).trans (wI_cell eM213 (by decide))).trans (wI_cell eM210 (by decide))).trans (wI_cell eM207 (by decide))).trans (wI_cell eM204 (by decide))).trans (wI_cell eM201 (by decide))) ((((((wI_cell eM216 (by decide)).trans (wI_cell eM213 (by decide))).trans (wI_cell eM210 (by decide))).trans (wI_cell eM207 (by decide))).trans (wI_cell eM204 (by decide))).trans (wI_cell eM201 (by decide))) (by omega)
        have zz20_0 : (M216.1 20 0).toInt = (M190.1 20 0).toInt := s_fb eM201 (by decide) (s_fb eM204 (by decide) (s_fb eM207 (by decide) (s_fb eM210 (by decide) (s_fb eM213 (by decide) (s_fb eM216 (by decide) (rfl))))))
        have zz20_3 := (Eq.trans (s_fb eM204 (by decide) (s_fb eM207 (by decide) (s_fb eM210 (by decide) (s_fb eM213 (by decide) (s_fb eM216 (by decide) (rfl))))) : (M216.1 20 3).toInt = (M201.1 20 3).toInt) (s_wr eM201 (by omega)))
        have zz20_4 := (Eq.trans (s_fb eM207 (by decide) (s_fb eM210 (by decide) (s_fb eM213 (by decide) (s_fb eM216 (by decide) (rfl)))) : (M216.1 20 4).toInt = (M204.1 20 4).toInt) (s_wr eM204 (by omega)))
        have zz20_5 := (Eq.trans (s_fb eM210 (by decide) (s_fb eM213 (by decide) (s_fb eM216 (by decide) (rfl))) : (M216.1 20 5).toInt = (M207.1 20 5).toInt) (s_wr eM207 (by omega)))
        have zz20_6 := (Eq.trans (s_fb eM213 (by decide) (s_fb eM216 (by decide) (rfl)) : (M216.1 20 6).toInt = (M210.1 20 6).toInt) (s_wr eM210 (by omega)))
        have zz20_7 := (Eq.trans (s_fb eM216 (by decide) (rfl) : (M216.1 20 7).toInt = (M213.1 20 7).toInt) (s_wr eM213 (by omega)))
        have zz20_8 := (Eq.trans (rfl : (M216.1 20 8).toInt = (M216.1 20 8).toInt) (s_wr eM216 (by omega)))
        have u217k := copy_k (M := M0) (N := M216) (d := 20) (s := 12) (p := 0) (by omega) (by omega) (by omega) (by omega) (by omega) (by omega) (by omega) (show b01 (CPA M216 M0 21 13 22 14 8) = 1 from by omega)
        exact hret _ _ _ dX9_copyFrom_94 ⟨hM216, (((((((FX.rf.tr fM190 (by decide)).wI eM201 (by decide)).wI eM204 (by decide)).wI eM207 (by decide)).wI eM210 (by decide)).wI eM213 (by decide)).wI eM216 (by decide)), by omega⟩
      · refine j_aload_n C 0 0 dX9_copyFrom_16 rfl rfl ?_
        refine y_getC C 8 21 fX9_copyFrom_15 rfl rfl ft_8_1 sm_8_1 rfl hM190 dX9_copyFrom_17 ?_
        refine j_iload_n C 2 2 dX9_copyFrom_20 rfl rfl ?_
        refine j_aload_n C 1 1 dX9_copyFrom_21 rfl rfl ?_
        refine y_getC C 8 13 fX9_copyFrom_15 rfl rfl ft_8_1 sm_8_1 rfl hM190 dX9_copyFrom_22 ?_
        refine j_iload_n C 2 2 dX9_copyFrom_25 rfl rfl ?_
        refine y_iald C 25 8 _ _ rfl rfl rfl ak_25 an_25 rfl (sb_25 _) hM190 dX9_copyFrom_26 (by omega) (fun a194 ea194 la194 ua194 => ?_)
        obtain rfl : a194 = (M0.1 13 (a189).toNat).toInt := s_fX fM190 (by decide) (ea194)
        refine y_iastF C 25 8 rfl rfl rfl ak_25 an_25 rfl (sb_25 _) hM190 (PX.w hpr rfl rfl) dX9_copyFrom_27 (by omega) (fun M195 eM195 hM195 => ?_)
        refine j_aload_n C 0 0 dX9_copyFrom_28 rfl rfl ?_
        refine y_getC C 8 22 fX9_copyFrom_19 rfl rfl ft_8_2 sm_8_2 rfl hM195 dX9_copyFrom_29 ?_
        refine j_iload_n C 2 2 dX9_copyFrom_32 rfl rfl ?_
        refine j_aload_n C 1 1 dX9_copyFrom_33 rfl rfl ?_
        refine y_getC C 8 14 fX9_copyFrom_19 rfl rfl ft_8_2 sm_8_2 rfl hM195 dX9_copyFrom_34 ?_
        refine j_iload_n C 2 2 dX9_copyFrom_37 rfl rfl ?_
        refine y_iald C 26 8 _ _ rfl rfl rfl ak_26 an_26 rfl (sb_26 _) hM195 dX9_copyFrom_38 (by omega) (fun a196 ea196 la196 ua196 => ?_)
        obtain rfl : a196 = (M0.1 14 (a189).toNat).toInt := s_fX fM190 (by decide) (s_fa eM195 (by decide) (ea196))
        refine y_iastF C 26 8 rfl rfl rfl ak_26 an_26 rfl (sb_26 _) hM195 (PX.w hpr rfl rfl) dX9_copyFrom_39 (by omega) (fun M197 eM197 hM197 => ?_)
        refine y_iinc C 2 [(2, .int (sI (a189 + 1))), (0, .ref (ad 20)), (1, .ref (ad 12))] dX9_copyFrom_40 rfl (by decide) rfl ?_
        refine j_goto C 10 dX9_copyFrom_43 (by decide) ?_
        have u198s := cpa_s (B := M0) (p1 := 13) (g1 := 14) (n := a189) (n' := (a189 + 1)) (by omega) (by omega) eM195 eM197 (by decide)
        have zz20_0 : (M197.1 20 0).toInt = (M190.1 20 0).toInt := s_fa eM195 (by decide) (s_fa eM197 (by decide) (rfl)); refine j_lv [1, 2, 0] rfl ?_; exact ih187 (a189 + 1) M197 (by omega) hM197 (((FX.rf.tr fM190 (by decide)).wI eM195 (by decide)).wI eM197 (by decide))
  have zz20_0 := (Eq.trans (rfl : (M103.1 20 0).toInt = (M103.1 20 0).toInt) (s_wr eM103 (by omega))); refine j_lv [1, 2, 0] rfl ?_; exact L188 2010 0 M103 (by omega) hM103 (FX.rf.wI eM103 (by decide))
set_option maxHeartbeats 4000000 in
theorem s14_X9_copyFrom {l : Launch} {dC : Nat → ClassId} {dI : Nat → Nat → Nat} {ad : Nat → Nat} {cA : Nat → ClassId} {pr : Nat → Nat → Bool} {Kz : mm_M} {M0 : mm_M} (hM0 : INV pr Kz M0) (hpr : PX pr) (hq8_0 : ∀ i, s_c i = 8 → pr i 0 = false)  : Cv l 0 yX9_copyFrom wsX9_copyFrom dC dI ad cA [.ref (ad 23), .ref (ad 12)] M0 (fun M' => INV pr Kz M' ∧ FX [23, 24, 25] M0 M' ∧ (b01 (skX M' 23 = skX M0 12) = 1)) := by
  refine cv_of (cc := cX9_copyFrom) (maxL := 3) (lv := [(0, .ref (ad 23)), (1, .ref (ad 12))]) (by decide) rfl (Nat.le_of_ble_eq_true rfl) rfl ?_
  intro p e s m args below meth c A Q C hret
  refine j_aload_n C 0 0 dX9_copyFrom_0 rfl rfl ?_
  refine j_aload_n C 1 1 dX9_copyFrom_1 rfl rfl ?_
  refine y_getI C 8 _ _ fX9_copyFrom_9 rfl rfl ft_8_0 sb_8_0 hM0 dX9_copyFrom_2 (fun a101 ea101 la101 ua101 => ?_)
  obtain rfl : a101 = (M0.1 12 0).toInt := ea101
  refine y_putI C 8 _ _ qX9_copyFrom_9 rfl rfl ft_8_0 sb_8_0 hM0 (hq8_0 _ rfl) dX9_copyFrom_5 (by omega) (fun M103 eM103 hM103 => ?_)
  refine y_iconst C dX9_copyFrom_8 ?_
  refine j_istore_n C 2 [(2, .int (sI 0)), (0, .ref (ad 23)), (1, .ref (ad 12))] dX9_copyFrom_9 rfl (by decide) rfl ?_
  have u104z := cpa_0 M103 M0 24 13 25 14
  have L188 : ∀ (n186 : Nat), ∀ (a189 : Int) (M190 : mm_M), (0 ≤ a189 ∧ a189 ≤ 8 ∧ ((M190.1 23 0).toInt = (M0.1 12 0).toInt) ∧ (b01 (CPA M190 M0 24 13 25 14 a189) = 1) ∧ (8 - a189) < (n186 : Int)) → INV pr Kz M190 → FX [23, 24, 25] M0 M190 → jj p l e (cn_R 0) s m args below meth c 0 0 Q 3 dC dI ad cA A M190 10 [(0, .ref (ad 23)), (1, .ref (ad 12)), (2, .int (sI a189))] [] := by
    intro n186
    induction n186 with
    | zero =>
      intro a189 M190 h191 hM190 fM190
      exfalso; omega
    | succ n186 ih187 =>
      intro a189 M190 h191 hM190 fM190
      refine j_iload_n C 2 2 dX9_copyFrom_10 rfl rfl ?_
      refine y_bipush C dX9_copyFrom_11 rfl ?_
      refine y_icmp_ge C 46 dX9_copyFrom_13 (by decide) (by omega) (fun h193 => ?_) (fun h193 => ?_)
      · refine j_aload_n C 0 0 dX9_copyFrom_46 rfl rfl ?_
        refine j_aload_n C 1 1 dX9_copyFrom_47 rfl rfl ?_
        refine y_getI C 8 _ _ fX9_copyFrom_22 rfl rfl ft_8_3 sb_8_3 hM190 dX9_copyFrom_48 (fun a199 ea199 la199 ua199 => ?_)
        obtain rfl : a199 = (M0.1 12 3).toInt := s_fX fM190 (by decide) (ea199)
        refine y_putI C 8 _ _ qX9_copyFrom_22 rfl rfl ft_8_3 sb_8_3 hM190 (PX.w hpr rfl rfl) dX9_copyFrom_51 (by omega) (fun M201 eM201 hM201 => ?_)
        refine j_aload_n C 0 0 dX9_copyFrom_54 rfl rfl ?_
        refine j_aload_n C 1 1 dX9_copyFrom_55 rfl rfl ?_
        refine y_getI C 8 _ _ fX9_copyFrom_25 rfl rfl ft_8_4 sb_8_4 hM201 dX9_copyFrom_56 (fun a202 ea202 la202 ua202 => ?_)
        obtain rfl : a202 = (M0.1 12 4).toInt := s_fX fM190 (by decide) (s_fa eM201 (by decide) (ea202))
        refine y_putI C 8 _ _ qX9_copyFrom_25 rfl rfl ft_8_4 sb_8_4 hM201 (PX.w hpr rfl rfl) dX9_copyFrom_59 (by omega) (fun M204 eM204 hM204 => ?_)
        refine j_aload_n C 0 0 dX9_copyFrom_62 rfl rfl ?_
        refine j_aload_n C 1 1 dX9_copyFrom_63 rfl rfl ?_
        refine y_getI C 8 _ _ fX9_copyFrom_28 rfl rfl ft_8_5 sb_8_5 hM204 dX9_copyFrom_64 (fun a205 ea205 la205 ua205 => ?_)
        obtain rfl : a205 = (M0.1 12 5).toInt := s_fX fM190 (by decide) (s_fa eM201 (by decide) (s_fa eM204 (by decide) (ea205)))
        refine y_putIF C 8 qX9_copyFrom_28 rfl rfl ft_8_5 sb_8_5 hM204 (PX.w hpr rfl rfl) dX9_copyFrom_67 (fun M207 eM207 hM207 => ?_)
        refine j_aload_n C 0 0 dX9_copyFrom_70 rfl rfl ?_
        refine j_aload_n C 1 1 dX9_copyFrom_71 rfl rfl ?_
        refine y_getI C 8 _ _ fX9_copyFrom_31 rfl rfl ft_8_6 sb_8_6 hM207 dX9_copyFrom_72 (fun a208 ea208 la208 ua208 => ?_)
        obtain rfl : a208 = (M0.1 12 6).toInt := s_fX fM190 (by decide) (s_fa eM201 (by decide) (s_fa eM204 (by decide) (s_fa eM207 (by decide) (ea208))))
        refine y_putIF C 8 qX9_copyFrom_31 rfl rfl ft_8_6 sb_8_6 hM207 (PX.w hpr rfl rfl) dX9_copyFrom_75 (fun M210 eM210 hM210 => ?_)
        refine j_aload_n C 0 0 dX9_copyFrom_78 rfl rfl ?_
        refine j_aload_n C 1 1 dX9_copyFrom_79 rfl rfl ?_
        refine y_getI C 8 _ _ fX9_copyFrom_34 rfl rfl ft_8_7 sb_8_7 hM210 dX9_copyFrom_80 (fun a211 ea211 la211 ua211 => ?_)
        obtain rfl : a211 = (M0.1 12 7).toInt := s_fX fM190 (by decide) (s_fa eM201 (by decide) (s_fa eM204 (by decide) (s_fa eM207 (by decide) (s_fa eM210 (by decide) (ea211)))))
        refine y_putIF C 8 qX9_copyFrom_34 rfl rfl ft_8_7 sb_8_7 hM210 (PX.w hpr rfl rfl) dX9_copyFrom_83 (fun M213 eM213 hM213 => ?_)
        refine j_aload_n C 0 0 dX9_copyFrom_86 rfl rfl ?_
        refine j_aload_n C 1 1 dX9_copyFrom_87 rfl rfl ?_
        refine y_getI C 8 _ _ fX9_copyFrom_37 rfl rfl ft_8_8 sb_8_8 hM213 dX9_copyFrom_88 (fun a214 ea214 la214 ua214 => ?_)
        obtain rfl : a214 = (M0.1 12 8).toInt := s_fX fM190 (by decide) (s_fa eM201 (by decide) (s_fa eM204 (by decide) (s_fa eM207 (by decide) (s_fa eM210 (by decide) (s_fa eM213 (by decide) (ea214))))))
        refine y_putIF C 8 qX9_copyFrom_37 rfl rfl ft_8_8 sb_8_8 hM213 (PX.w hpr rfl rfl) dX9_copyFrom_91 (fun M216 eM216 hM216 => ?_)
        have u217c := cpa_c (M := M190) (M' := M216) (B := M0) (p0 := 24) (p1 := 13) (g0 := 25) (g1 := 14) (n := a189) (n' := 8) (by omega) ((((((wI_cell eM216 (by decide)).trans (wI_cell eM213 (by decide))).trans (wI_cell eM210 (by decide))).trans (wI_cell eM207 (by decide))).trans (wI_cell eM204 (by decide))).trans (wI_cell eM201 (by decide))) ((((((wI_cell eM216 (by decide)).trans (wI_cell eM213 (by decide))).trans (wI_cell eM210 (by decide))).trans (wI_cell eM207 (by decide))).trans (wI_cell eM204 (by decide))).trans (wI_cell eM201 (by decide))) (by omega)
        have zz23_0 : (M216.1 23 0).toInt = (M190.1 23 0).toInt := s_fb eM201 (by decide) (s_fb eM204 (by decide) (s_fb eM207 (by decide) (s_fb eM210 (by decide) (s_fb eM213 (by decide) (s_fb eM216 (by decide) (rfl))))))
        have zz23_3 := (Eq.trans (s_fb eM204 (by decide) (s_fb eM207 (by decide) (s_fb eM210 (by decide) (s_fb eM213 (by decide) (s_fb eM216 (by decide) (rfl))))) : (M216.1 23 3).toInt = (M201.1 23 3).toInt) (s_wr eM201 (by omega)))
        have zz23_4 := (Eq.trans (s_fb eM207 (by decide) (s_fb eM210 (by decide) (s_fb eM213 (by decide) (s_fb eM216 (by decide) (rfl)))) : (M216.1 23 4).toInt = (M204.1 23 4).toInt) (s_wr eM204 (by omega)))
        have zz23_5 := (Eq.trans (s_fb eM210 (by decide) (s_fb eM213 (by decide) (s_fb eM216 (by decide) (rfl))) : (M216.1 23 5).toInt = (M207.1 23 5).toInt) (s_wr eM207 (by omega)))
        have zz23_6 := (Eq.trans (s_fb eM213 (by decide) (s_fb eM216 (by decide) (rfl)) : (M216.1 23 6).toInt = (M210.1 23 6).toInt) (s_wr eM210 (by omega)))
        have zz23_7 := (Eq.trans (s_fb eM216 (by decide) (rfl) : (M216.1 23 7).toInt = (M213.1 23 7).toInt) (s_wr eM213 (by omega)))
        have zz23_8 := (Eq.trans (rfl : (M216.1 23 8).toInt = (M216.1 23 8).toInt) (s_wr eM216 (by omega)))
        have u217k := copy_k (M := M0) (N := M216) (d := 23) (s := 12) (p := 0) (by omega) (by omega) (by omega) (by omega) (by omega) (by omega) (by omega) (show b01 (CPA M216 M0 24 13 25 14 8) = 1 from by omega)
        exact hret _ _ _ dX9_copyFrom_94 ⟨hM216, (((((((FX.rf.tr fM190 (by decide)).wI eM201 (by decide)).wI eM204 (by decide)).wI eM207 (by decide)).wI eM210 (by decide)).wI eM213 (by decide)).wI eM216 (by decide)), by omega⟩
      · refine j_aload_n C 0 0 dX9_copyFrom_16 rfl rfl ?_
        refine y_getC C 8 24 fX9_copyFrom_15 rfl rfl ft_8_1 sm_8_1 rfl hM190 dX9_copyFrom_17 ?_
        refine j_iload_n C 2 2 dX9_copyFrom_20 rfl rfl ?_
        refine j_aload_n C 1 1 dX9_copyFrom_21 rfl rfl ?_
        refine y_getC C 8 13 fX9_copyFrom_15 rfl rfl ft_8_1 sm_8_1 rfl hM190 dX9_copyFrom_22 ?_
        refine j_iload_n C 2 2 dX9_copyFrom_25 rfl rfl ?_
        refine y_iald C 25 8 _ _ rfl rfl rfl ak_25 an_25 rfl (sb_25 _) hM190 dX9_copyFrom_26 (by omega) (fun a194 ea194 la194 ua194 => ?_)
        obtain rfl : a194 = (M0.1 13 (a189).toNat).toInt := s_fX fM190 (by decide) (ea194)
        refine y_iastF C 25 8 rfl rfl rfl ak_25 an_25 rfl (sb_25 _) hM190 (PX.w hpr rfl rfl) dX9_copyFrom_27 (by omega) (fun M195 eM195 hM195 => ?_)
        refine j_aload_n C 0 0 dX9_copyFrom_28 rfl rfl ?_
        refine y_getC C 8 25 fX9_copyFrom_19 rfl rfl ft_8_2 sm_8_2 rfl hM195 dX9_copyFrom_29 ?_
        refine j_iload_n C 2 2 dX9_copyFrom_32 rfl rfl ?_
        refine j_aload_n C 1 1 dX9_copyFrom_33 rfl rfl ?_
        refine y_getC C 8 14 fX9_copyFrom_19 rfl rfl ft_8_2 sm_8_2 rfl hM195 dX9_copyFrom_34 ?_
        refine j_iload_n C 2 2 dX9_copyFrom_37 rfl rfl ?_
        refine y_iald C 26 8 _ _ rfl rfl rfl ak_26 an_26 rfl (sb_26 _) hM195 dX9_copyFrom_38 (by omega) (fun a196 ea196 la196 ua196 => ?_)
        obtain rfl : a196 = (M0.1 14 (a189).toNat).toInt := s_fX fM190 (by decide) (s_fa eM195 (by decide) (ea196))
        refine y_iastF C 26 8 rfl rfl rfl ak_26 an_26 rfl (sb_26 _) hM195 (PX.w hpr rfl rfl) dX9_copyFrom_39 (by omega) (fun M197 eM197 hM197 => ?_)
        refine y_iinc C 2 [(2, .int (sI (a189 + 1))), (0, .ref (ad 23)), (1, .ref (ad 12))] dX9_copyFrom_40 rfl (by decide) rfl ?_
        refine j_goto C 10 dX9_copyFrom_43 (by decide) ?_
        have u198s := cpa_s (B := M0) (p1 := 13) (g1 := 14) (n := a189) (n' := (a189 + 1)) (by omega) (by omega) eM195 eM197 (by decide)
        have zz23_0 : (M197.1 23 0).toInt = (M190.1 23 0).toInt := s_fa eM195 (by decide) (s_fa eM197 (by decide) (rfl)); refine j_lv [1, 2, 0] rfl ?_; exact ih187 (a189 + 1) M197 (by omega) hM197 (((FX.rf.tr fM190 (by decide)).wI eM195 (by decide)).wI eM197 (by decide))
  have zz23_0 := (Eq.trans (rfl : (M103.1 23 0).toInt = (M103.1 23 0).toInt) (s_wr eM103 (by omega))); refine j_lv [1, 2, 0] rfl ?_; exact L188 2010 0 M103 (by omega) hM103 (FX.rf.wI eM103 (by decide))
set_option maxHeartbeats 4000000 in
theorem s15_X9_copyFrom {l : Launch} {dC : Nat → ClassId} {dI : Nat → Nat → Nat} {ad : Nat → Nat} {cA : Nat → ClassId} {pr : Nat → Nat → Bool} {Kz : mm_M} {M0 : mm_M} (hM0 : INV pr Kz M0) (hpr : PX pr) (hq8_0 : ∀ i, s_c i = 8 → pr i 0 = false)  : Cv l 0 yX9_copyFrom wsX9_copyFrom dC dI ad cA [.ref (ad 26), .ref (ad 12)] M0 (fun M' => INV pr Kz M' ∧ FX [26, 27, 28] M0 M' ∧ (b01 (skX M' 26 = skX M0 12) = 1)) := by
  refine cv_of (cc := cX9_copyFrom) (maxL := 3) (lv := [(0, .ref (ad 26)), (1, .ref (ad 12))]) (by decide) rfl (Nat.le_of_ble_eq_true rfl) rfl ?_
  intro p e s m args below meth c A Q C hret
  refine j_aload_n C 0 0 dX9_copyFrom_0 rfl rfl ?_
  refine j_aload_n C 1 1 dX9_copyFrom_1 rfl rfl ?_
  refine y_getI C 8 _ _ fX9_copyFrom_9 rfl rfl ft_8_0 sb_8_0 hM0 dX9_copyFrom_2 (fun a101 ea101 la101 ua101 => ?_)
  obtain rfl : a101 = (M0.1 12 0).toInt := ea101
  refine y_putI C 8 _ _ qX9_copyFrom_9 rfl rfl ft_8_0 sb_8_0 hM0 (hq8_0 _ rfl) dX9_copyFrom_5 (by omega) (fun M103 eM103 hM103 => ?_)
  refine y_iconst C dX9_copyFrom_8 ?_
  refine j_istore_n C 2 [(2, .int (sI 0)), (0, .ref (ad 26)), (1, .ref (ad 12))] dX9_copyFrom_9 rfl (by decide) rfl ?_
  have u104z := cpa_0 M103 M0 27 13 28 14
  have L188 : ∀ (n186 : Nat), ∀ (a189 : Int) (M190 : mm_M), (0 ≤ a189 ∧ a189 ≤ 8 ∧ ((M190.1 26 0).toInt = (M0.1 12 0).toInt) ∧ (b01 (CPA M190 M0 27 13 28 14 a189) = 1) ∧ (8 - a189) < (n186 : Int)) → INV pr Kz M190 → FX [26, 27, 28] M0 M190 → jj p l e (cn_R 0) s m args below meth c 0 0 Q 3 dC dI ad cA A M190 10 [(0, .ref (ad 26)), (1, .ref (ad 12)), (2, .int (sI a189))] [] := by
    intro n186
    induction n186 with
    | zero =>
      intro a189 M190 h191 hM190 fM190
      exfalso; omega
    | succ n186 ih187 =>
      intro a189 M190 h191 hM190 fM190
      refine j_iload_n C 2 2 dX9_copyFrom_10 rfl rfl ?_
      refine y_bipush C dX9_copyFrom_11 rfl ?_
      refine y_icmp_ge C 46 dX9_copyFrom_13 (by decide) (by omega) (fun h193 => ?_) (fun h193 => ?_)
      · refine j_aload_n C 0 0 dX9_copyFrom_46 rfl rfl ?_
        refine j_aload_n C 1 1 dX9_copyFrom_47 rfl rfl ?_
        refine y_getI C 8 _ _ fX9_copyFrom_22 rfl rfl ft_8_3 sb_8_3 hM190 dX9_copyFrom_48 (fun a199 ea199 la199 ua199 => ?_)
        obtain rfl : a199 = (M0.1 12 3).toInt := s_fX fM190 (by decide) (ea199)
        refine y_putI C 8 _ _ qX9_copyFrom_22 rfl rfl ft_8_3 sb_8_3 hM190 (PX.w hpr rfl rfl) dX9_copyFrom_51 (by omega) (fun M201 eM201 hM201 => ?_)
        refine j_aload_n C 0 0 dX9_copyFrom_54 rfl rfl ?_
        refine j_aload_n C 1 1 dX9_copyFrom_55 rfl rfl ?_
        refine y_getI C 8 _ _ fX9_copyFrom_25 rfl rfl ft_8_4 sb_8_4 hM201 dX9_copyFrom_56 (fun a202 ea202 la202 ua202 => ?_)
        obtain rfl : a202 = (M0.1 12 4).toInt := s_fX fM190 (by decide) (s_fa eM201 (by decide) (ea202))
        refine y_putI C 8 _ _ qX9_copyFrom_25 rfl rfl ft_8_4 sb_8_4 hM201 (PX.w hpr rfl rfl) dX9_copyFrom_59 (by omega) (fun M204 eM204 hM204 => ?_)
        refine j_aload_n C 0 0 dX9_copyFrom_62 rfl rfl ?_
        refine j_aload_n C 1 1 dX9_copyFrom_63 rfl rfl ?_
        refine y_getI C 8 _ _ fX9_copyFrom_28 rfl rfl ft_8_5 sb_8_5 hM204 dX9_copyFrom_64 (fun a205 ea205 la205 ua205 => ?_)
        obtain rfl : a205 = (M0.1 12 5).toInt := s_fX fM190 (by decide) (s_fa eM201 (by decide) (s_fa eM204 (by decide) (ea205)))
        refine y_putIF C 8 qX9_copyFrom_28 rfl rfl ft_8_5 sb_8_5 hM204 (PX.w hpr rfl rfl) dX9_copyFrom_67 (fun M207 eM207 hM207 => ?_)
        refine j_aload_n C 0 0 dX9_copyFrom_70 rfl rfl ?_
        refine j_aload_n C 1 1 dX9_copyFrom_71 rfl rfl ?_
        refine y_getI C 8 _ _ fX9_copyFrom_31 rfl rfl ft_8_6 sb_8_6 hM207 dX9_copyFrom_72 (fun a208 ea208 la208 ua208 => ?_)
        obtain rfl : a208 = (M0.1 12 6).toInt := s_fX fM190 (by decide) (s_fa eM201 (by decide) (s_fa eM204 (by decide) (s_fa eM207 (by decide) (ea208))))
        refine y_putIF C 8 qX9_copyFrom_31 rfl rfl ft_8_6 sb_8_6 hM207 (PX.w hpr rfl rfl) dX9_copyFrom_75 (fun M210 eM210 hM210 => ?_)
        refine j_aload_n C 0 0 dX9_copyFrom_78 rfl rfl ?_
        refine j_aload_n C 1 1 dX9_copyFrom_79 rfl rfl ?_
        refine y_getI C 8 _ _ fX9_copyFrom_34 rfl rfl ft_8_7 sb_8_7 hM210 dX9_copyFrom_80 (fun a211 ea211 la211 ua211 => ?_)
        obtain rfl : a211 = (M0.1 12 7).toInt := s_fX fM190 (by decide) (s_fa eM201 (by decide) (s_fa eM204 (by decide) (s_fa eM207 (by decide) (s_fa eM210 (by decide) (ea211)))))
        refine y_putIF C 8 qX9_copyFrom_34 rfl rfl ft_8_7 sb_8_7 hM210 (PX.w hpr rfl rfl) dX9_copyFrom_83 (fun M213 eM213 hM213 => ?_)
        refine j_aload_n C 0 0 dX9_copyFrom_86 rfl rfl ?_
        refine j_aload_n C 1 1 dX9_copyFrom_87 rfl rfl ?_
        refine y_getI C 8 _ _ fX9_copyFrom_37 rfl rfl ft_8_8 sb_8_8 hM213 dX9_copyFrom_88 (fun a214 ea214 la214 ua214 => ?_)
        obtain rfl : a214 = (M0.1 12 8).toInt := s_fX fM190 (by decide) (s_fa eM201 (by decide) (s_fa eM204 (by decide) (s_fa eM207 (by decide) (s_fa eM210 (by decide) (s_fa eM213 (by decide) (ea214))))))
        refine y_putIF C 8 qX9_copyFrom_37 rfl rfl ft_8_8 sb_8_8 hM213 (PX.w hpr rfl rfl) dX9_copyFrom_91 (fun M216 eM216 hM216 => ?_)
        have u217c := cpa_c (M := M190) (M' := M216) (B := M0) (p0 := 27) (p1 := 13) (g0 := 28) (g1 := 14) (n := a189) (n' := 8) (by omega) ((((((wI_cell eM216 (by decide)).trans (wI_cell eM213 (by decide))).trans (wI_cell eM210 (by decide))).trans (wI_cell eM207 (by decide))).trans (wI_cell eM204 (by decide))).trans (wI_cell eM201 (by decide))) ((((((wI_cell eM216 (by decide)).trans (wI_cell eM213 (by decide))).trans (wI_cell eM210 (by decide))).trans (wI_cell eM207 (by decide))).trans (wI_cell eM204 (by decide))).trans (wI_cell eM201 (by decide))) (by omega)
        have zz26_0 : (M216.1 26 0).toInt = (M190.1 26 0).toInt := s_fb eM201 (by decide) (s_fb eM204 (by decide) (s_fb eM207 (by decide) (s_fb eM210 (by decide) (s_fb eM213 (by decide) (s_fb eM216 (by decide) (rfl))))))
        have zz26_3 := (Eq.trans (s_fb eM204 (by decide) (s_fb eM207 (by decide) (s_fb eM210 (by decide) (s_fb eM213 (by decide) (s_fb eM216 (by decide) (rfl))))) : (M216.1 26 3).toInt = (M201.1 26 3).toInt) (s_wr eM201 (by omega)))
        have zz26_4 := (Eq.trans (s_fb eM207 (by decide) (s_fb eM210 (by decide) (s_fb eM213 (by decide) (s_fb eM216 (by decide) (rfl)))) : (M216.1 26 4).toInt = (M204.1 26 4).toInt) (s_wr eM204 (by omega)))
        have zz26_5 := (Eq.trans (s_fb eM210 (by decide) (s_fb eM213 (by decide) (s_fb eM216 (by decide) (rfl))) : (M216.1 26 5).toInt = (M207.1 26 5).toInt) (s_wr eM207 (by omega)))
        have zz26_6 := (Eq.trans (s_fb eM213 (by decide) (s_fb eM216 (by decide) (rfl)) : (M216.1 26 6).toInt = (M210.1 26 6).toInt) (s_wr eM210 (by omega)))
        have zz26_7 := (Eq.trans (s_fb eM216 (by decide) (rfl) : (M216.1 26 7).toInt = (M213.1 26 7).toInt) (s_wr eM213 (by omega)))
        have zz26_8 := (Eq.trans (rfl : (M216.1 26 8).toInt = (M216.1 26 8).toInt) (s_wr eM216 (by omega)))
        have u217k := copy_k (M := M0) (N := M216) (d := 26) (s := 12) (p := 0) (by omega) (by omega) (by omega) (by omega) (by omega) (by omega) (by omega) (show b01 (CPA M216 M0 27 13 28 14 8) = 1 from by omega)
        exact hret _ _ _ dX9_copyFrom_94 ⟨hM216, (((((((FX.rf.tr fM190 (by decide)).wI eM201 (by decide)).wI eM204 (by decide)).wI eM207 (by decide)).wI eM210 (by decide)).wI eM213 (by decide)).wI eM216 (by decide)), by omega⟩
      · refine j_aload_n C 0 0 dX9_copyFrom_16 rfl rfl ?_
        refine y_getC C 8 27 fX9_copyFrom_15 rfl rfl ft_8_1 sm_8_1 rfl hM190 dX9_copyFrom_17 ?_
        refine j_iload_n C 2 2 dX9_copyFrom_20 rfl rfl ?_
        refine j_aload_n C 1 1 dX9_copyFrom_21 rfl rfl ?_
        refine y_getC C 8 13 fX9_copyFrom_15 rfl rfl ft_8_1 sm_8_1 rfl hM190 dX9_copyFrom_22 ?_
        refine j_iload_n C 2 2 dX9_copyFrom_25 rfl rfl ?_
        refine y_iald C 25 8 _ _ rfl rfl rfl ak_25 an_25 rfl (sb_25 _) hM190 dX9_copyFrom_26 (by omega) (fun a194 ea194 la194 ua194 => ?_)
        obtain rfl : a194 = (M0.1 13 (a189).toNat).toInt := s_fX fM190 (by decide) (ea194)
        refine y_iastF C 25 8 rfl rfl rfl ak_25 an_25 rfl (sb_25 _) hM190 (PX.w hpr rfl rfl) dX9_copyFrom_27 (by omega) (fun M195 eM195 hM195 => ?_)
        refine j_aload_n C 0 0 dX9_copyFrom_28 rfl rfl ?_
        refine y_getC C 8 28 fX9_copyFrom_19 rfl rfl ft_8_2 sm_8_2 rfl hM195 dX9_copyFrom_29 ?_
        refine j_iload_n C 2 2 dX9_copyFrom_32 rfl rfl ?_
        refine j_aload_n C 1 1 dX9_copyFrom_33 rfl rfl ?_
        refine y_getC C 8 14 fX9_copyFrom_19 rfl rfl ft_8_2 sm_8_2 rfl hM195 dX9_copyFrom_34 ?_
        refine j_iload_n C 2 2 dX9_copyFrom_37 rfl rfl ?_
        refine y_iald C 26 8 _ _ rfl rfl rfl ak_26 an_26 rfl (sb_26 _) hM195 dX9_copyFrom_38 (by omega) (fun a196 ea196 la196 ua196 => ?_)
        obtain rfl : a196 = (M0.1 14 (a189).toNat).toInt := s_fX fM190 (by decide) (s_fa eM195 (by decide) (ea196))
        refine y_iastF C 26 8 rfl rfl rfl ak_26 an_26 rfl (sb_26 _) hM195 (PX.w hpr rfl rfl) dX9_copyFrom_39 (by omega) (fun M197 eM197 hM197 => ?_)
        refine y_iinc C 2 [(2, .int (sI (a189 + 1))), (0, .ref (ad 26)), (1, .ref (ad 12))] dX9_copyFrom_40 rfl (by decide) rfl ?_
        refine j_goto C 10 dX9_copyFrom_43 (by decide) ?_
        have u198s := cpa_s (B := M0) (p1 := 13) (g1 := 14) (n := a189) (n' := (a189 + 1)) (by omega) (by omega) eM195 eM197 (by decide)
        have zz26_0 : (M197.1 26 0).toInt = (M190.1 26 0).toInt := s_fa eM195 (by decide) (s_fa eM197 (by decide) (rfl)); refine j_lv [1, 2, 0] rfl ?_; exact ih187 (a189 + 1) M197 (by omega) hM197 (((FX.rf.tr fM190 (by decide)).wI eM195 (by decide)).wI eM197 (by decide))
  have zz26_0 := (Eq.trans (rfl : (M103.1 26 0).toInt = (M103.1 26 0).toInt) (s_wr eM103 (by omega))); refine j_lv [1, 2, 0] rfl ?_; exact L188 2010 0 M103 (by omega) hM103 (FX.rf.wI eM103 (by decide))
