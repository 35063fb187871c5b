set_option maxHeartbeats 4000000 in
theorem s2_X11_needed {l : Launch} {dC : Nat → ClassId} {dI : Nat → Nat → Nat} {ad : Nat → Nat} {cA : Nat → ClassId} {pr : Nat → Nat → Bool} {Kz : mm_M} {M0 : mm_M} (hM0 : INV pr Kz M0) (hpr : PX pr) (gp : Nat) (cgp : s_c gp = 6) (egp : gp = M0.2.2 0 4) (hp0 : b01 (APX M0 gp) = 1) (hp1 : b01 (LAW M0 gp) = 1) (hp2 : b01 (PRR (rwX M0 gp 12)) = 1) (hp3 : (M0.1 12 3).toInt < pw2 (M0.1 12 0).toInt) : Ci l 6 yX11_needed wsX11_needed dC dI ad cA [.ref (ad 0)] M0 (fun r M' => ∃ a : Int, r = sI a ∧ INV pr Kz M' ∧ FX [81, 82, 83, 84, 85, 86, 88, 89, 90, 91] M0 M' ∧ 0 ≤ a ∧ a ≤ 63 ∧ (a = ndA (rwX M0 gp 12)) ∧ (b01 (APX M' gp) = 1)) := by
  refine ci_of (cc := cX11_needed) (maxL := 1) (ty := .int) (lv := [(0, .ref (ad 0))]) (by decide) rfl (fun r M' hp => rfl) (Nat.le_of_ble_eq_true rfl) rfl ?_
  intro p e s m args below meth c A Q C hret
  refine j_aload_n C 0 0 dX11_needed_0 rfl rfl ?_
  refine y_getC C 10 88 fX11_needed_94 rfl rfl ft_10_14 sm_10_14 rfl hM0 dX11_needed_1 ?_
  refine j_aload_n C 0 0 dX11_needed_4 rfl rfl ?_
  refine y_getV C 10 gp fX11_needed_26 rfl rfl ft_10_4 (egp) dX11_needed_5 ?_
  refine j_aload_n C 0 0 dX11_needed_8 rfl rfl ?_
  refine y_getC C 10 12 fX11_needed_36 rfl rfl ft_10_6 sm_10_6 rfl hM0 dX11_needed_9 ?_
  refine j_aload_n C 0 0 dX11_needed_12 rfl rfl ?_
  refine y_getC C 10 12 fX11_needed_36 rfl rfl ft_10_6 sm_10_6 rfl hM0 dX11_needed_13 ?_
  refine y_getI C 8 _ _ fX11_needed_153 rfl rfl ft_8_4 sb_8_4 hM0 dX11_needed_16 (fun a101 ea101 la101 ua101 => ?_)
  obtain rfl : a101 = (M0.1 12 4).toInt := ea101
  refine j_callVv C (d := 5) (As := [.ref (ad gp), .ref (ad 12), .int (sI (M0.1 12 4).toInt)]) (st := []) 88 (s_lt rfl rfl) (s_kc (c := 4) rfl rfl) (by decide) rfl (s2_X5_look hM0 hpr cgp (M0.1 12 4).toInt (by omega) (by omega) (by omega) (by omega) (by omega) (by omega)) gX11_needed_X5_look rfl hdX5_look (by decide) (Nat.le_of_ble_eq_true rfl) dX11_needed_19 rfl (fun M104 h105 => ?_)
  obtain ⟨hM104, fM104, h106⟩ := h105
  have e88M104 : gp = M104.2.2 88 9 := by omega
  have u107l : b01 (LKP M104 gp (rwX M0 gp 12)) = 1 := by rw [← se_id M0 gp 12]; omega
  have u107e := lkp_e (M := M104) (p := gp) (f := (rwX M0 gp 12)) u107l
  have u107n := en_8 (f := (rwX M0 gp 12)) (-1) (by omega) (by omega)
  have u107a := tn_a (M := M104) (p := gp) (f := (rwX M0 gp 12)) (by omega)
  refine j_aload_n C 0 0 dX11_needed_22 rfl rfl ?_
  refine y_getC C 10 88 fX11_needed_94 rfl rfl ft_10_14 sm_10_14 rfl hM104 dX11_needed_23 ?_
  refine j_callVi C (d := 3) (As := []) (st := []) 88 (s_lt rfl rfl) (s_kc (c := 4) rfl rfl) (by decide) rfl (s2_X5_neededBuyers hM104 hpr gp cgp (e88M104) (rwX M0 gp 12) (by omega)) gX11_needed_X5_neededBuyers rfl hdX5_neededBuyers (by decide) (Nat.le_of_ble_eq_true rfl) dX11_needed_26 rfl (fun r108 M109 h110 => ?_)
  obtain ⟨a112, rfl, hM109, fM109, h111⟩ := h110
  obtain rfl : a112 = (ndA (rwX M0 gp 12)) := by omega
  have u113A7 := hM104.rd (i := gp) (c := 6) (k := 7) cgp (show s_b 6 7 = (0, 900) from rfl)
  have u113A9 := hM104.rd (i := gp) (c := 6) (k := 9) cgp (show s_b 6 9 = (0, 900) from rfl)
  have u113A := apx_o (M := M104) (N := M109) (p := gp) (ple_f (p := gp) ((FX.rf.tr fM109 (by decide)) : FX [91] M104 M109) cgp (by decide)) (((FX.rf.tr fM109 (by decide)) : FX [91] M104 M109).cell (by decide)) (((FX.rf.tr fM109 (by decide)) : FX [91] M104 M109).cell (by decide)) (((FX.rf.tr fM109 (by decide)) : FX [91] M104 M109).cell (by decide)) u113A7.1 u113A9.1 (by omega)
  exact hret _ _ _ _ dX11_needed_29 ⟨(ndA (rwX M0 gp 12)), rfl, hM109, ((FX.rf.tr fM104 (by decide)).tr fM109 (by decide)), by omega⟩
set_option maxHeartbeats 4000000 in
theorem s2_X11_guards {l : Launch} {dC : Nat → ClassId} {dI : Nat → Nat → Nat} {ad : Nat → Nat} {cA : Nat → ClassId} {pr : Nat → Nat → Bool} {Kz : mm_M} {M0 : mm_M} (hM0 : INV pr Kz M0) (hpr : PX pr) (gp : Nat) (cgp : s_c gp = 6) (egp : gp = M0.2.2 0 4) (hp0 : b01 (APX M0 gp) = 1) (hp1 : b01 (LAW M0 gp) = 1) (hp2 : b01 (PRR (rwX M0 gp 12)) = 1) (hp3 : (M0.1 12 3).toInt < pw2 (M0.1 12 0).toInt) : Ci l 6 yX11_guards wsX11_guards dC dI ad cA [.ref (ad 0)] M0 (fun r M' => ∃ a : Int, r = sI a ∧ INV pr Kz M' ∧ FX [81, 82, 83, 84, 85, 86, 88, 89, 90, 91] M0 M' ∧ 0 ≤ a ∧ a ≤ 255 ∧ (a = guA (rwX M0 gp 12)) ∧ (b01 (APX M' gp) = 1)) := by
  refine ci_of (cc := cX11_guards) (maxL := 3) (ty := .int) (lv := [(0, .ref (ad 0))]) (by decide) rfl (fun r M' hp => rfl) (Nat.le_of_ble_eq_true rfl) rfl ?_
  intro p e s m args below meth c A Q C hret
  refine y_iconst C dX11_guards_0 ?_
  refine j_istore_n C 1 [(1, .int (sI 0)), (0, .ref (ad 0))] dX11_guards_1 rfl (by decide) rfl ?_
  refine j_aload_n C 1 0 dX11_guards_2 rfl rfl ?_
  refine y_getC C 10 88 fX11_guards_94 rfl rfl ft_10_14 sm_10_14 rfl hM0 dX11_guards_3 ?_
  refine j_aload_n C 1 0 dX11_guards_6 rfl rfl ?_
  refine y_getV C 10 gp fX11_guards_26 rfl rfl ft_10_4 (egp) dX11_guards_7 ?_
  refine j_aload_n C 1 0 dX11_guards_10 rfl rfl ?_
  refine y_getC C 10 12 fX11_guards_36 rfl rfl ft_10_6 sm_10_6 rfl hM0 dX11_guards_11 ?_
  refine j_aload_n C 1 0 dX11_guards_14 rfl rfl ?_
  refine y_getC C 10 12 fX11_guards_36 rfl rfl ft_10_6 sm_10_6 rfl hM0 dX11_guards_15 ?_
  refine y_getI C 8 _ _ fX11_guards_153 rfl rfl ft_8_4 sb_8_4 hM0 dX11_guards_18 (fun a102 ea102 la102 ua102 => ?_)
  obtain rfl : a102 = (M0.1 12 4).toInt := ea102
  refine j_callVv C (d := 5) (As := [.ref (ad gp), .ref (ad 12), .int (sI (M0.1 12 4).toInt)]) (st := []) 88 (s_lt rfl rfl) (s_kc (c := 4) rfl rfl) (by decide) rfl (s2_X5_look hM0 hpr cgp (M0.1 12 4).toInt (by omega) (by omega) (by omega) (by omega) (by omega) (by omega)) gX11_guards_X5_look rfl hdX5_look (by decide) (Nat.le_of_ble_eq_true rfl) dX11_guards_21 rfl (fun M106 h107 => ?_)
  obtain ⟨hM106, fM106, h108⟩ := h107
  have e88M106 : gp = M106.2.2 88 9 := by omega
  have u109l : b01 (LKP M106 gp (rwX M0 gp 12)) = 1 := by rw [← se_id M0 gp 12]; omega
  have u109e := lkp_e (M := M106) (p := gp) (f := (rwX M0 gp 12)) u109l
  have u109n := en_8 (f := (rwX M0 gp 12)) (-1) (by omega) (by omega)
  have u109a := tn_a (M := M106) (p := gp) (f := (rwX M0 gp 12)) (by omega)
  have u109z : guF (rwX M0 gp 12) (0 : Int).toNat = 0 := rfl
  have u109s := guA_s (rwX M0 gp 12)
  have u109k : ((rwX M0 gp 12) 26).toInt = (M0.1 12 0).toInt := rfl
  refine j_aload_n C 1 0 dX11_guards_24 rfl rfl ?_
  refine y_getC C 10 88 fX11_guards_94 rfl rfl ft_10_14 sm_10_14 rfl hM106 dX11_guards_25 ?_
  refine j_callVi C (d := 3) (As := []) (st := []) 88 (s_lt rfl rfl) (s_kc (c := 4) rfl rfl) (by decide) rfl (s2_X5_shortest hM106 hpr gp cgp (e88M106) (rwX M0 gp 12) (by omega)) gX11_guards_X5_shortest rfl hdX5_shortest (by decide) (Nat.le_of_ble_eq_true rfl) dX11_guards_28 rfl (fun r110 M111 h112 => ?_)
  obtain ⟨a114, rfl, hM111, fM111, h113⟩ := h112
  refine y_iconst C dX11_guards_31 ?_
  refine y_icmp_ne C 37 dX11_guards_32 (by decide) (by omega) (fun h115 => ?_) (fun h115 => ?_)
  · refine y_iconst C dX11_guards_37 ?_
    refine j_istore_n C 2 [(2, .int (sI 0)), (1, .int (sI 0)), (0, .ref (ad 0))] dX11_guards_38 rfl (by decide) rfl ?_
    have u116A7 := hM106.rd (i := gp) (c := 6) (k := 7) cgp (show s_b 6 7 = (0, 900) from rfl)
    have u116A9 := hM106.rd (i := gp) (c := 6) (k := 9) cgp (show s_b 6 9 = (0, 900) from rfl)
    have u116A := apx_o (M := M106) (N := M111) (p := gp) (ple_f (p := gp) ((FX.rf.tr fM111 (by decide)) : FX [91] M106 M111) cgp (by decide)) (((FX.rf.tr fM111 (by decide)) : FX [91] M106 M111).cell (by decide)) (((FX.rf.tr fM111 (by decide)) : FX [91] M106 M111).cell (by decide)) (((FX.rf.tr fM111 (by decide)) : FX [91] M106 M111).cell (by decide)) u116A7.1 u116A9.1 (by omega)
    have L154 : ∀ (n152 : Nat), ∀ (a155 : Int) (a156 : Int) (M157 : mm_M), (0 ≤ a155 ∧ a155 ≤ 255 ∧ 0 ≤ a156 ∧ a156 ≤ 8 ∧ (b01 (APX M157 gp) = 1) ∧ (a155 = guF (rwX M0 gp 12) (a156).toNat) ∧ (a156 ≤ (M0.1 12 0).toInt) ∧ (¬ enF (rwX M0 gp 12) (-1) = -1) ∧ (8 - a156) < (n152 : Int)) → INV pr Kz M157 → FX [81, 82, 83, 84, 85, 86, 88, 89, 90, 91] M0 M157 → jj p l e (cn_R 6) s m args below meth c 0 0 Q 3 dC dI ad cA A M157 39 [(0, .ref (ad 0)), (1, .int (sI a155)), (2, .int (sI a156))] [] := by
      intro n152
      induction n152 with
      | zero =>
        intro a155 a156 M157 h158 hM157 fM157
        exfalso; omega
      | succ n152 ih153 =>
        intro a155 a156 M157 h158 hM157 fM157
        have u159K := hM0.rd (i := 12) (c := 8) (k := 0) rfl (show s_b 8 0 = (0, 8) from rfl)
        have u159H := hM0.rd (i := 12) (c := 8) (k := 4) rfl (show s_b 8 4 = (0, 255) from rfl)
        refine j_iload_n C 2 2 dX11_guards_39 rfl rfl ?_
        refine j_aload_n C 0 0 dX11_guards_40 rfl rfl ?_
        refine y_getC C 10 12 fX11_guards_36 rfl rfl ft_10_6 sm_10_6 rfl hM157 dX11_guards_41 ?_
        refine y_getI C 8 _ _ fX11_guards_160 rfl rfl ft_8_0 sb_8_0 hM157 dX11_guards_44 (fun a160 ea160 la160 ua160 => ?_)
        obtain rfl : a160 = (M0.1 12 0).toInt := s_fX fM157 (by decide) (ea160)
        refine y_icmp_ge C 117 dX11_guards_47 (by decide) (by omega) (fun h162 => ?_) (fun h162 => ?_)
        · have u191x : a156 = (M0.1 12 0).toInt := by omega
          have u191y : guF (rwX M0 gp 12) (a156).toNat = guF (rwX M0 gp 12) (M0.1 12 0).toInt.toNat := by rw [u191x]
          have u191s : guA (rwX M0 gp 12) = guF (rwX M0 gp 12) (M0.1 12 0).toInt.toNat := (guA_s (rwX M0 gp 12)).elim (fun z => absurd z.1 (by omega)) (fun z => z.2)
          refine j_iload_n C 1 1 dX11_guards_117 rfl rfl ?_
          exact hret _ _ _ _ dX11_guards_118 ⟨a155, rfl, hM157, (FX.rf.tr fM157 (by decide)), by omega⟩
        · refine j_aload_n C 0 0 dX11_guards_50 rfl rfl ?_
          refine y_getC C 10 12 fX11_guards_36 rfl rfl ft_10_6 sm_10_6 rfl hM157 dX11_guards_51 ?_
          refine y_getI C 8 _ _ fX11_guards_153 rfl rfl ft_8_4 sb_8_4 hM157 dX11_guards_54 (fun a163 ea163 la163 ua163 => ?_)
          obtain rfl : a163 = (M0.1 12 4).toInt := s_fX fM157 (by decide) (ea163)
          refine j_iload_n C 2 2 dX11_guards_57 rfl rfl ?_
          refine e_ishrP C dX11_guards_58 (by omega) (fun lb165 ub165 => ?_)
          refine y_iconst C dX11_guards_59 ?_
          refine e_iandR C dX11_guards_60 (by omega) (fun lb166 ub166 => ?_)
          have u167s := gu_s (rwX M0 gp 12) (x := a156) (x' := a156 + 1) (a := a155) (by omega) rfl (by omega)
          have u167i := ii_e (a := (M0.1 12 4).toInt) (k := a156) (by omega) (by omega)
          have u167f : iiF ((rwX M0 gp 12) 28).toInt a156 = iiF (M0.1 12 4).toInt a156 := rfl
          have u167o := or_0 a155 (by omega)
          refine y_if_ne C 111 dX11_guards_61 (by decide) (by omega) (fun h168 => ?_) (fun h168 => ?_)
          · refine y_iinc C 2 [(2, .int (sI (a156 + 1))), (0, .ref (ad 0)), (1, .int (sI a155))] dX11_guards_111 rfl (by decide) rfl ?_
            refine j_goto C 39 dX11_guards_114 (by decide) ?_
            refine j_lv [1, 2, 0] rfl ?_; exact ih153 a155 (a156 + 1) M157 (by omega) hM157 (FX.rf.tr fM157 (by decide))
          · refine j_aload_n C 0 0 dX11_guards_64 rfl rfl ?_
            refine y_getC C 10 88 fX11_guards_94 rfl rfl ft_10_14 sm_10_14 rfl hM157 dX11_guards_65 ?_
            refine j_aload_n C 0 0 dX11_guards_68 rfl rfl ?_
            refine y_getV C 10 gp fX11_guards_26 rfl rfl ft_10_4 (s_pX fM157 (egp)) dX11_guards_69 ?_
            refine j_aload_n C 0 0 dX11_guards_72 rfl rfl ?_
            refine y_getC C 10 12 fX11_guards_36 rfl rfl ft_10_6 sm_10_6 rfl hM157 dX11_guards_73 ?_
            refine j_aload_n C 0 0 dX11_guards_76 rfl rfl ?_
            refine y_getC C 10 12 fX11_guards_36 rfl rfl ft_10_6 sm_10_6 rfl hM157 dX11_guards_77 ?_
            refine y_getI C 8 _ _ fX11_guards_153 rfl rfl ft_8_4 sb_8_4 hM157 dX11_guards_80 (fun a170 ea170 la170 ua170 => ?_)
            obtain rfl : a170 = (M0.1 12 4).toInt := s_fX fM157 (by decide) (ea170)
            refine y_iconst C dX11_guards_83 ?_
            refine j_iload_n C 2 2 dX11_guards_84 rfl rfl ?_
            refine e_shl1 C 7 128 dX11_guards_85 rfl (by decide) (by omega) (fun lb172 ub172 => ?_)
            refine e_iorN C 8 255 dX11_guards_86 rfl (by decide) (by omega) (fun lb173 ub173 ob173 => ?_)
            have u174L7 := hM0.rd (i := gp) (c := 6) (k := 7) cgp (show s_b 6 7 = (0, 900) from rfl)
            have u174L9 := hM0.rd (i := gp) (c := 6) (k := 9) cgp (show s_b 6 9 = (0, 900) from rfl)
            have u174L := law_p (M := M0) (N := M157) (p := gp) (ple_f (p := gp) ((FX.rf.tr fM157 (by decide)) : FX [81, 82, 83, 84, 85, 86, 88, 89, 90, 91] M0 M157) cgp (by decide)) u174L7.1 u174L9.1 (by omega)
            have u174e : rwX M157 gp 12 = rwX M0 gp 12 := (rx_f (p := gp) (v := 12) (ple_f (p := gp) ((FX.rf.tr fM157 (by decide)) : FX [81, 82, 83, 84, 85, 86, 88, 89, 90, 91] M0 M157) cgp (by decide)) (ske_n ((FX.rf.tr fM157 (by decide)) : FX [81, 82, 83, 84, 85, 86, 88, 89, 90, 91] M0 M157) ⟨by decide, by decide, by decide⟩))
            have u174R : b01 (PRR (rwX M157 gp 12)) = 1 := by rw [u174e]; omega
            have u174S : (M157.1 12 3).toInt < pw2 (M157.1 12 0).toInt := by rw [((FX.rf.tr fM157 (by decide)) : FX [81, 82, 83, 84, 85, 86, 88, 89, 90, 91] M0 M157).cell (i := 12) (by decide)]; omega
            refine j_callVv C (d := 5) (As := [.ref (ad gp), .ref (ad 12), .int (sI (orI (M0.1 12 4).toInt (pw2 a156)))]) (st := []) 88 (s_lt rfl rfl) (s_kc (c := 4) rfl rfl) (by decide) rfl (s2_X5_look hM157 hpr cgp (orI (M0.1 12 4).toInt (pw2 a156)) (by omega) (by omega) (by omega) (by omega) (by omega) (by omega)) gX11_guards_X5_look rfl hdX5_look (by decide) (Nat.le_of_ble_eq_true rfl) dX11_guards_87 rfl (fun M176 h177 => ?_)
            obtain ⟨hM176, fM176, h178⟩ := h177
            have e88M176 : gp = M176.2.2 88 9 := by omega
            have u179e : rwX M157 gp 12 = (rwX M0 gp 12) := (rx_f (p := gp) (v := 12) (ple_f (p := gp) ((FX.rf.tr fM157 (by decide)) : FX [81, 82, 83, 84, 85, 86, 88, 89, 90, 91] M0 M157) cgp (by decide)) (ske_n ((FX.rf.tr fM157 (by decide)) : FX [81, 82, 83, 84, 85, 86, 88, 89, 90, 91] M0 M157) ⟨by decide, by decide, by decide⟩))
            have u179l : b01 (LKP M176 gp (hdS (rwX M0 gp 12) a156)) = 1 := by
              have z : b01 (LKP M176 gp (seH (rwX M157 gp 12) (sI (orI (M0.1 12 4).toInt (pw2 a156))))) = 1 := by omega
              rw [u179e, hdS_e (f := (rwX M0 gp 12)) (k := a156) (x := (orI (M0.1 12 4).toInt (pw2 a156))) (show (orI (M0.1 12 4).toInt (pw2 a156)) = orI (M0.1 12 4).toInt (pw2 a156) by omega)] at z
              exact z
            have u179a := tn_a (M := M176) (p := gp) (f := rwX M157 gp 12) (by omega)
            refine j_iload_n C 1 1 dX11_guards_90 rfl rfl ?_
            refine j_aload_n C 0 0 dX11_guards_91 rfl rfl ?_
            refine y_getC C 10 88 fX11_guards_94 rfl rfl ft_10_14 sm_10_14 rfl hM176 dX11_guards_92 ?_
            refine j_callVi C (d := 3) (As := []) (st := [.int (sI a155)]) 88 (s_lt rfl rfl) (s_kc (c := 4) rfl rfl) (by decide) rfl (s2_X5_shortest hM176 hpr gp cgp (e88M176) (hdS (rwX M0 gp 12) a156) (by omega)) gX11_guards_X5_shortest rfl hdX5_shortest (by decide) (Nat.le_of_ble_eq_true rfl) dX11_guards_95 rfl (fun r180 M181 h182 => ?_)
            obtain ⟨a184, rfl, hM181, fM181, h183⟩ := h182
            refine y_iconst C dX11_guards_98 ?_
            refine y_icmp_ne C 108 dX11_guards_99 (by decide) (by omega) (fun h185 => ?_) (fun h185 => ?_)
            · refine y_iconst C dX11_guards_108 ?_
              refine e_iorN C 8 255 dX11_guards_109 rfl (by decide) (by omega) (fun lb186 ub186 ob186 => ?_)
              refine j_istore_n C 1 [(1, .int (sI (orI a155 0))), (0, .ref (ad 0)), (2, .int (sI a156))] dX11_guards_110 rfl (by decide) rfl ?_
              refine y_iinc C 2 [(2, .int (sI (a156 + 1))), (1, .int (sI (orI a155 0))), (0, .ref (ad 0))] dX11_guards_111 rfl (by decide) rfl ?_
              refine j_goto C 39 dX11_guards_114 (by decide) ?_
              have u187A7 := hM176.rd (i := gp) (c := 6) (k := 7) cgp (show s_b 6 7 = (0, 900) from rfl)
              have u187A9 := hM176.rd (i := gp) (c := 6) (k := 9) cgp (show s_b 6 9 = (0, 900) from rfl)
              have u187A := apx_o (M := M176) (N := M181) (p := gp) (ple_f (p := gp) ((FX.rf.tr fM181 (by decide)) : FX [91] M176 M181) cgp (by decide)) (((FX.rf.tr fM181 (by decide)) : FX [91] M176 M181).cell (by decide)) (((FX.rf.tr fM181 (by decide)) : FX [91] M176 M181).cell (by decide)) (((FX.rf.tr fM181 (by decide)) : FX [91] M176 M181).cell (by decide)) u187A7.1 u187A9.1 (by omega)
              refine j_lv [2, 1, 0] rfl ?_; exact ih153 (orI a155 0) (a156 + 1) M181 (by omega) hM181 (((FX.rf.tr fM157 (by decide)).tr fM176 (by decide)).tr fM181 (by decide))
            · refine y_iconst C dX11_guards_102 ?_
              refine j_iload_n C 2 2 dX11_guards_103 rfl rfl ?_
              refine e_shl1 C 7 128 dX11_guards_104 rfl (by decide) (by omega) (fun lb188 ub188 => ?_)
              refine j_goto C 109 dX11_guards_105 (by decide) ?_
              refine e_iorN C 8 255 dX11_guards_109 rfl (by decide) (by omega) (fun lb189 ub189 ob189 => ?_)
              refine j_istore_n C 1 [(1, .int (sI (orI a155 (pw2 a156)))), (0, .ref (ad 0)), (2, .int (sI a156))] dX11_guards_110 rfl (by decide) rfl ?_
              refine y_iinc C 2 [(2, .int (sI (a156 + 1))), (1, .int (sI (orI a155 (pw2 a156)))), (0, .ref (ad 0))] dX11_guards_111 rfl (by decide) rfl ?_
              refine j_goto C 39 dX11_guards_114 (by decide) ?_
              have u190A7 := hM176.rd (i := gp) (c := 6) (k := 7) cgp (show s_b 6 7 = (0, 900) from rfl)
              have u190A9 := hM176.rd (i := gp) (c := 6) (k := 9) cgp (show s_b 6 9 = (0, 900) from rfl)
              have u190A := apx_o (M := M176) (N := M181) (p := gp) (ple_f (p := gp) ((FX.rf.tr fM181 (by decide)) : FX [91] M176 M181) cgp (by decide)) (((FX.rf.tr fM181 (by decide)) : FX [91] M176 M181).cell (by decide)) (((FX.rf.tr fM181 (by decide)) : FX [91] M176 M181).cell (by decide)) (((FX.rf.tr fM181 (by decide)) : FX [91] M176 M181).cell (by decide)) u190A7.1 u190A9.1 (by omega)
              refine j_lv [2, 1, 0] rfl ?_; exact ih153 (orI a155 (pw2 a156)) (a156 + 1) M181 (by omega) hM181 (((FX.rf.tr fM157 (by decide)).tr fM176 (by decide)).tr fM181 (by decide))
    refine j_lv [2, 1, 0] rfl ?_; exact L154 2010 0 0 M111 (by omega) hM111 ((FX.rf.tr fM106 (by decide)).tr fM111 (by decide))
  · refine j_iload_n C 0 1 dX11_guards_35 rfl rfl ?_
    have u193A7 := hM106.rd (i := gp) (c := 6) (k := 7) cgp (show s_b 6 7 = (0, 900) from rfl)
    have u193A9 := hM106.rd (i := gp) (c := 6) (k := 9) cgp (show s_b 6 9 = (0, 900) from rfl)
    have u193A := apx_o (M := M106) (N := M111) (p := gp) (ple_f (p := gp) ((FX.rf.tr fM111 (by decide)) : FX [91] M106 M111) cgp (by decide)) (((FX.rf.tr fM111 (by decide)) : FX [91] M106 M111).cell (by decide)) (((FX.rf.tr fM111 (by decide)) : FX [91] M106 M111).cell (by decide)) (((FX.rf.tr fM111 (by decide)) : FX [91] M106 M111).cell (by decide)) u193A7.1 u193A9.1 (by omega)
    exact hret _ _ _ _ dX11_guards_36 ⟨0, rfl, hM111, ((FX.rf.tr fM106 (by decide)).tr fM111 (by decide)), by omega⟩
set_option maxHeartbeats 4000000 in
theorem s2_X5_everSold {l : Launch} {dC : Nat → ClassId} {dI : Nat → Nat → Nat} {ad : Nat → Nat} {cA : Nat → ClassId} {pr : Nat → Nat → Bool} {Kz : mm_M} {M0 : mm_M} (hM0 : INV pr Kz M0) (gp : Nat) (cgp : s_c gp = 6) (egp : gp = M0.2.2 88 9) (f : Nat → Int32) (hp0 : b01 (LKP M0 gp f) = 1) : Ci l 0 yX5_everSold wsX5_everSold dC dI ad cA [.ref (ad 88)] M0 (fun r M' => ∃ a : Int, r = sI a ∧ M0 = M' ∧ 0 ≤ a ∧ a ≤ 255 ∧ (a = (svA f))) := by
  refine ci_of (cc := cX5_everSold) (maxL := 3) (ty := .int) (lv := [(0, .ref (ad 88))]) (by decide) rfl (fun r M' hp => rfl) (Nat.le_of_ble_eq_true rfl) rfl ?_
  intro p e s m args below meth c A Q C hret
  have u101e := lkp_e (M := M0) (p := gp) (f := f) (by omega)
  have rns : RNS f := lkp_n (M := M0) (p := gp) (f := f) (by omega)
  refine j_aload_n C 0 0 dX5_everSold_0 rfl rfl ?_
  refine y_getI C 4 _ _ fX5_everSold_45 rfl rfl ft_4_13 sb_4_13 hM0 dX5_everSold_1 (fun a102 ea102 la102 ua102 => ?_)
  obtain rfl : a102 = (M0.1 88 13).toInt := ea102
  refine j_istore_n C 1 [(1, .int (sI (M0.1 88 13).toInt)), (0, .ref (ad 88))] dX5_everSold_4 rfl (by decide) rfl ?_
  refine j_aload_n C 1 0 dX5_everSold_5 rfl rfl ?_
  refine y_getI C 4 _ _ fX5_everSold_45 rfl rfl ft_4_13 sb_4_13 hM0 dX5_everSold_6 (fun a104 ea104 la104 ua104 => ?_)
  obtain rfl : a104 = (M0.1 88 13).toInt := ea104
  refine j_istore_n C 2 [(2, .int (sI (M0.1 88 13).toInt)), (1, .int (sI (M0.1 88 13).toInt)), (0, .ref (ad 88))] dX5_everSold_9 rfl (by decide) rfl ?_
  have L120 : ∀ (n118 : Nat), ∀ (a121 : Int) (a122 : Int), (0 ≤ a121 ∧ a121 ≤ 255 ∧ 0 ≤ a122 ∧ a122 ≤ 256 ∧ ((a122 = (f 27).toInt ∧ a121 = (f 27).toInt) ∨ ((f 27).toInt < a122 ∧ a121 = scF f (a122).toNat)) ∧ ((f 27).toInt ≤ a122) ∧ (a122 ≤ evF f + 1) ∧ (256 - a122) < (n118 : Int)) → jj p l e (cn_R 0) s m args below meth c 0 0 Q 3 dC dI ad cA A M0 10 [(0, .ref (ad 88)), (1, .int (sI a121)), (2, .int (sI a122))] [] := by
    intro n118
    induction n118 with
    | zero =>
      intro a121 a122 h123
      exfalso; omega
    | succ n118 ih119 =>
      intro a121 a122 h123
      refine j_iload_n C 2 2 dX5_everSold_10 rfl rfl ?_
      refine j_aload_n C 0 0 dX5_everSold_11 rfl rfl ?_
      refine y_getI C 4 _ _ fX5_everSold_38 rfl rfl ft_4_11 sb_4_11 hM0 dX5_everSold_12 (fun a124 ea124 la124 ua124 => ?_)
      obtain rfl : a124 = (M0.1 88 11).toInt := ea124
      refine y_icmp_gt C 42 dX5_everSold_15 (by decide) (by omega) (fun h126 => ?_) (fun h126 => ?_)
      · have u134s := sv_e rns (x := a122) (by omega)
        refine j_iload_n C 1 1 dX5_everSold_42 rfl rfl ?_
        exact hret _ _ _ _ dX5_everSold_43 ⟨a121, rfl, rfl, by omega⟩
      · refine j_iload_n C 1 1 dX5_everSold_18 rfl rfl ?_
        refine j_aload_n C 0 0 dX5_everSold_19 rfl rfl ?_
        refine y_getC C 4 90 fX5_everSold_15 rfl rfl ft_4_2 sm_4_2 rfl hM0 dX5_everSold_20 ?_
        refine j_iload_n C 2 2 dX5_everSold_23 rfl rfl ?_
        refine y_iald C 39 256 _ _ rfl rfl rfl ak_39 an_39 rfl (sb_39 _) hM0 dX5_everSold_24 (by omega) (fun a127 ea127 la127 ua127 => ?_)
        obtain rfl : a127 = (M0.1 90 (a122).toNat).toInt := ea127
        have u128r := lkp_rx (M := M0) (p := gp) (f := f) (by omega) (s := a122) (by omega)
        refine y_iconst C dX5_everSold_25 ?_
        refine y_icmp_ne C 33 dX5_everSold_26 (by decide) (by omega) (fun h129 => ?_) (fun h129 => ?_)
        · refine y_iconst C dX5_everSold_33 ?_
          have u130s := ev_s rns (l := a121) (x := a122) (x' := a122 + 1) (y := 0) (by omega) (by omega) (by omega)
          refine e_iorN C 8 255 dX5_everSold_34 rfl (by decide) (by omega) (fun lb131 ub131 ob131 => ?_)
          refine j_istore_n C 1 [(1, .int (sI (orI a121 0))), (0, .ref (ad 88)), (2, .int (sI a122))] dX5_everSold_35 rfl (by decide) rfl ?_
          refine y_iinc C 2 [(2, .int (sI (a122 + 1))), (1, .int (sI (orI a121 0))), (0, .ref (ad 88))] dX5_everSold_36 rfl (by decide) rfl ?_
          refine j_goto C 10 dX5_everSold_39 (by decide) ?_
          refine j_lv [2, 1, 0] rfl ?_; exact ih119 (orI a121 0) (a122 + 1) (by omega)
        · refine j_iload_n C 2 2 dX5_everSold_29 rfl rfl ?_
          refine j_goto C 34 dX5_everSold_30 (by decide) ?_
          have u132s := ev_s rns (l := a121) (x := a122) (x' := a122 + 1) (y := a122) (by omega) (by omega) (by omega)
          refine e_iorN C 8 255 dX5_everSold_34 rfl (by decide) (by omega) (fun lb133 ub133 ob133 => ?_)
          refine j_istore_n C 1 [(1, .int (sI (orI a121 a122))), (0, .ref (ad 88)), (2, .int (sI a122))] dX5_everSold_35 rfl (by decide) rfl ?_
          refine y_iinc C 2 [(2, .int (sI (a122 + 1))), (1, .int (sI (orI a121 a122))), (0, .ref (ad 88))] dX5_everSold_36 rfl (by decide) rfl ?_
          refine j_goto C 10 dX5_everSold_39 (by decide) ?_
          refine j_lv [2, 1, 0] rfl ?_; exact ih119 (orI a121 a122) (a122 + 1) (by omega)
  refine j_lv [2, 1, 0] rfl ?_; exact L120 2010 (M0.1 88 13).toInt (M0.1 88 13).toInt (by omega)
set_option maxHeartbeats 4000000 in
theorem s2_X11_sellable {l : Launch} {dC : Nat → ClassId} {dI : Nat → Nat → Nat} {ad : Nat → Nat} {cA : Nat → ClassId} {pr : Nat → Nat → Bool} {Kz : mm_M} {M0 : mm_M} (hM0 : INV pr Kz M0) (hpr : PX pr) (gp : Nat) (cgp : s_c gp = 6) (egp : gp = M0.2.2 0 4) (hp0 : b01 (APX M0 gp) = 1) (hp1 : b01 (LAW M0 gp) = 1) (hp2 : b01 (PRR (rwX M0 gp 12)) = 1) (hp3 : (M0.1 12 3).toInt < pw2 (M0.1 12 0).toInt) : Ci l 6 yX11_sellable wsX11_sellable dC dI ad cA [.ref (ad 0)] M0 (fun r M' => ∃ a : Int, r = sI a ∧ INV pr Kz M' ∧ FX [81, 82, 83, 84, 85, 86, 88, 89, 90] M0 M' ∧ 0 ≤ a ∧ a ≤ 255 ∧ (a = svA (rwX M0 gp 12)) ∧ (b01 (APX M' gp) = 1)) := by
  refine ci_of (cc := cX11_sellable) (maxL := 1) (ty := .int) (lv := [(0, .ref (ad 0))]) (by decide) rfl (fun r M' hp => rfl) (Nat.le_of_ble_eq_true rfl) rfl ?_
  intro p e s m args below meth c A Q C hret
  refine j_aload_n C 0 0 dX11_sellable_0 rfl rfl ?_
  refine y_getC C 10 88 fX11_sellable_94 rfl rfl ft_10_14 sm_10_14 rfl hM0 dX11_sellable_1 ?_
  refine j_aload_n C 0 0 dX11_sellable_4 rfl rfl ?_
  refine y_getV C 10 gp fX11_sellable_26 rfl rfl ft_10_4 (egp) dX11_sellable_5 ?_
  refine j_aload_n C 0 0 dX11_sellable_8 rfl rfl ?_
  refine y_getC C 10 12 fX11_sellable_36 rfl rfl ft_10_6 sm_10_6 rfl hM0 dX11_sellable_9 ?_
  refine j_aload_n C 0 0 dX11_sellable_12 rfl rfl ?_
  refine y_getC C 10 12 fX11_sellable_36 rfl rfl ft_10_6 sm_10_6 rfl hM0 dX11_sellable_13 ?_
  refine y_getI C 8 _ _ fX11_sellable_153 rfl rfl ft_8_4 sb_8_4 hM0 dX11_sellable_16 (fun a101 ea101 la101 ua101 => ?_)
  obtain rfl : a101 = (M0.1 12 4).toInt := ea101
  refine j_callVv C (d := 5) (As := [.ref (ad gp), .ref (ad 12), .int (sI (M0.1 12 4).toInt)]) (st := []) 88 (s_lt rfl rfl) (s_kc (c := 4) rfl rfl) (by decide) rfl (s2_X5_look hM0 hpr cgp (M0.1 12 4).toInt (by omega) (by omega) (by omega) (by omega) (by omega) (by omega)) gX11_sellable_X5_look rfl hdX5_look (by decide) (Nat.le_of_ble_eq_true rfl) dX11_sellable_19 rfl (fun M104 h105 => ?_)
  obtain ⟨hM104, fM104, h106⟩ := h105
  have e88M104 : gp = M104.2.2 88 9 := by omega
  have u107l : b01 (LKP M104 gp (rwX M0 gp 12)) = 1 := by rw [← se_id M0 gp 12]; omega
  have u107e := lkp_e (M := M104) (p := gp) (f := (rwX M0 gp 12)) u107l
  have u107n := en_8 (f := (rwX M0 gp 12)) (-1) (by omega) (by omega)
  have u107a := tn_a (M := M104) (p := gp) (f := (rwX M0 gp 12)) (by omega)
  refine j_aload_n C 0 0 dX11_sellable_22 rfl rfl ?_
  refine y_getC C 10 88 fX11_sellable_94 rfl rfl ft_10_14 sm_10_14 rfl hM104 dX11_sellable_23 ?_
  refine j_callVi C (d := 0) (As := []) (st := []) 88 (s_lt rfl rfl) (s_kc (c := 4) rfl rfl) (by decide) rfl (s2_X5_everSold hM104 gp cgp (e88M104) (rwX M0 gp 12) (by omega)) gX11_sellable_X5_everSold rfl hdX5_everSold (by decide) (Nat.le_of_ble_eq_true rfl) dX11_sellable_26 rfl (fun r108 M109 h110 => ?_)
  obtain ⟨a112, rfl, rfl, h111⟩ := h110
  obtain rfl : a112 = (svA (rwX M0 gp 12)) := by omega
  exact hret _ _ _ _ dX11_sellable_29 ⟨(svA (rwX M0 gp 12)), rfl, hM104, (FX.rf.tr fM104 (by decide)), by omega⟩
set_option maxHeartbeats 4000000 in
theorem s2_X5_lastLeft {l : Launch} {dC : Nat → ClassId} {dI : Nat → Nat → Nat} {ad : Nat → Nat} {cA : Nat → ClassId} {pr : Nat → Nat → Bool} {Kz : mm_M} {M0 : mm_M} (hM0 : INV pr Kz M0) (gp : Nat) (cgp : s_c gp = 6) (egp : gp = M0.2.2 88 9) (f : Nat → Int32) (hp0 : b01 (LKP M0 gp f) = 1) : Ci l 1 yX5_lastLeft wsX5_lastLeft dC dI ad cA [.ref (ad 88)] M0 (fun r M' => ∃ a : Int, r = sI a ∧ M0 = M' ∧ 0 ≤ a ∧ a ≤ 255 ∧ (a = (laA f))) := by
  refine ci_of (cc := cX5_lastLeft) (maxL := 4) (ty := .int) (lv := [(0, .ref (ad 88))]) (by decide) rfl (fun r M' hp => rfl) (Nat.le_of_ble_eq_true rfl) rfl ?_
  intro p e s m args below meth c A Q C hret
  have u101e := lkp_e (M := M0) (p := gp) (f := f) (by omega)
  have rns : RNS f := lkp_n (M := M0) (p := gp) (f := f) (by omega)
  have u101z := la_lo rns (f 27).toInt.toNat (by omega)
  have u101y : laF f (M0.1 88 13).toInt.toNat = laF f (f 27).toInt.toNat := by rw [show (M0.1 88 13).toInt = (f 27).toInt by omega]
  refine y_iconst C dX5_lastLeft_0 ?_
  refine j_istore_n C 1 [(1, .int (sI 0)), (0, .ref (ad 88))] dX5_lastLeft_1 rfl (by decide) rfl ?_
  refine j_aload_n C 1 0 dX5_lastLeft_2 rfl rfl ?_
  refine y_getI C 4 _ _ fX5_lastLeft_45 rfl rfl ft_4_13 sb_4_13 hM0 dX5_lastLeft_3 (fun a102 ea102 la102 ua102 => ?_)
  obtain rfl : a102 = (M0.1 88 13).toInt := ea102
  refine j_istore_n C 2 [(2, .int (sI (M0.1 88 13).toInt)), (1, .int (sI 0)), (0, .ref (ad 88))] dX5_lastLeft_6 rfl (by decide) rfl ?_
  have L124 : ∀ (n122 : Nat), ∀ (a125 : Int) (a126 : Int), (0 ≤ a125 ∧ a125 ≤ 255 ∧ 0 ≤ a126 ∧ a126 ≤ 256 ∧ (a125 = laF f (a126).toNat) ∧ ((f 27).toInt ≤ a126) ∧ (a126 ≤ evF f + 1) ∧ (256 - a126) < (n122 : Int)) → jj p l e (cn_R 1) s m args below meth c 0 0 Q 4 dC dI ad cA A M0 7 [(0, .ref (ad 88)), (1, .int (sI a125)), (2, .int (sI a126))] [] := by
    intro n122
    induction n122 with
    | zero =>
      intro a125 a126 h127
      exfalso; omega
    | succ n122 ih123 =>
      intro a125 a126 h127
      refine j_iload_n C 2 2 dX5_lastLeft_7 rfl rfl ?_
      refine j_aload_n C 0 0 dX5_lastLeft_8 rfl rfl ?_
      refine y_getI C 4 _ _ fX5_lastLeft_38 rfl rfl ft_4_11 sb_4_11 hM0 dX5_lastLeft_9 (fun a128 ea128 la128 ua128 => ?_)
      obtain rfl : a128 = (M0.1 88 11).toInt := ea128
      refine y_icmp_gt C 52 dX5_lastLeft_12 (by decide) (by omega) (fun h130 => ?_) (fun h130 => ?_)
      · have u144x : a126 = evF f + 1 := by omega
        have u144y : laF f (a126).toNat = laA f := by rw [u144x]; rfl
        refine j_iload_n C 1 1 dX5_lastLeft_52 rfl rfl ?_
        exact hret _ _ _ _ dX5_lastLeft_53 ⟨a125, rfl, rfl, by omega⟩
      · refine j_aload_n C 0 0 dX5_lastLeft_15 rfl rfl ?_
        refine y_getI C 4 _ _ fX5_lastLeft_42 rfl rfl ft_4_12 sb_4_12 hM0 dX5_lastLeft_16 (fun a131 ea131 la131 ua131 => ?_)
        obtain rfl : a131 = (M0.1 88 12).toInt := ea131
        refine j_iload_n C 2 2 dX5_lastLeft_19 rfl rfl ?_
        refine y_iconst C dX5_lastLeft_20 ?_
        refine y_not C dX5_lastLeft_21 ?_
        refine e_iandL C dX5_lastLeft_22 (by omega) (fun lb133 ub133 => ?_)
        refine j_istore_n C 3 [(3, .int (sI (andI (M0.1 88 12).toInt ((-1) - a126)))), (0, .ref (ad 88)), (1, .int (sI a125)), (2, .int (sI a126))] dX5_lastLeft_23 rfl (by decide) rfl ?_
        refine j_aload_n C 1 0 dX5_lastLeft_24 rfl rfl ?_
        refine y_getC C 4 90 fX5_lastLeft_15 rfl rfl ft_4_2 sm_4_2 rfl hM0 dX5_lastLeft_25 ?_
        refine j_iload_n C 3 2 dX5_lastLeft_28 rfl rfl ?_
        refine y_iald C 39 256 _ _ rfl rfl rfl ak_39 an_39 rfl (sb_39 _) hM0 dX5_lastLeft_29 (by omega) (fun a134 ea134 la134 ua134 => ?_)
        obtain rfl : a134 = (M0.1 90 (a126).toNat).toInt := ea134
        have u135r := lkp_rx (M := M0) (p := gp) (f := f) (by omega) (s := a126) (by omega)
        have u135s := la_s f (x := a126) (x' := a126 + 1) (a := a125) (by omega) rfl (by omega)
        have u135q : (andI (M0.1 88 12).toInt ((-1) - a126)) = andI (snF f) (-1 - a126) := by rw [show snF f = (M0.1 88 12).toInt by omega]
        have u135b : bsF (andI (M0.1 88 12).toInt ((-1) - a126)) (8 : Int).toNat = bsF (andI (snF f) (-1 - a126)) (8 : Int).toNat := by rw [u135q]
        have u135o : orI a125 (andI (M0.1 88 12).toInt ((-1) - a126)) = orI a125 (andI (snF f) (-1 - a126)) := by rw [u135q]
        refine y_iconst C dX5_lastLeft_30 ?_
        refine y_icmp_ne C 46 dX5_lastLeft_31 (by decide) (by omega) (fun h136 => ?_) (fun h136 => ?_)
        · refine y_iinc C 3 [(2, .int (sI (a126 + 1))), (3, .int (sI (andI (M0.1 88 12).toInt ((-1) - a126)))), (0, .ref (ad 88)), (1, .int (sI a125))] dX5_lastLeft_46 rfl (by decide) rfl ?_
          refine j_goto C 7 dX5_lastLeft_49 (by decide) ?_
          refine j_lv [2, 3, 0] rfl ?_; exact ih123 a125 (a126 + 1) (by omega)
        · refine j_iload_n C 0 3 dX5_lastLeft_34 rfl rfl ?_
          refine j_callSi C (d := 0) (As := [.int (sI (andI (M0.1 88 12).toInt ((-1) - a126)))]) (st := []) (hx_J6_bitCount_0f7a4 hM0 (andI (M0.1 88 12).toInt ((-1) - a126)) (by omega) (by omega)) gX5_lastLeft_J6_bitCount_0f7a4 rfl hdJ6_bitCount_0f7a4s (by decide) (Nat.le_of_ble_eq_true rfl) dX5_lastLeft_35 rfl (fun r137 M138 h139 => ?_)
          obtain ⟨a141, rfl, rfl, h140⟩ := h139
          obtain rfl : a141 = (bsF (andI (M0.1 88 12).toInt ((-1) - a126)) (8 : Int).toNat) := by omega
          refine y_iconst C dX5_lastLeft_38 ?_
          refine y_icmp_ne C 46 dX5_lastLeft_39 (by decide) (by omega) (fun h142 => ?_) (fun h142 => ?_)
          · refine y_iinc C 3 [(2, .int (sI (a126 + 1))), (3, .int (sI (andI (M0.1 88 12).toInt ((-1) - a126)))), (0, .ref (ad 88)), (1, .int (sI a125))] dX5_lastLeft_46 rfl (by decide) rfl ?_
            refine j_goto C 7 dX5_lastLeft_49 (by decide) ?_
            refine j_lv [2, 3, 0] rfl ?_; exact ih123 a125 (a126 + 1) (by omega)
          · refine j_iload_n C 2 1 dX5_lastLeft_42 rfl rfl ?_
            refine j_iload_n C 0 3 dX5_lastLeft_43 rfl rfl ?_
            refine e_iorN C 8 255 dX5_lastLeft_44 rfl (by decide) (by omega) (fun lb143 ub143 ob143 => ?_)
            refine j_istore_n C 1 [(1, .int (sI (orI a125 (andI (M0.1 88 12).toInt ((-1) - a126))))), (3, .int (sI (andI (M0.1 88 12).toInt ((-1) - a126)))), (0, .ref (ad 88)), (2, .int (sI a126))] dX5_lastLeft_45 rfl (by decide) rfl ?_
            refine y_iinc C 3 [(2, .int (sI (a126 + 1))), (1, .int (sI (orI a125 (andI (M0.1 88 12).toInt ((-1) - a126))))), (3, .int (sI (andI (M0.1 88 12).toInt ((-1) - a126)))), (0, .ref (ad 88))] dX5_lastLeft_46 rfl (by decide) rfl ?_
            refine j_goto C 7 dX5_lastLeft_49 (by decide) ?_
            refine j_lv [3, 1, 0] rfl ?_; exact ih123 (orI a125 (andI (M0.1 88 12).toInt ((-1) - a126))) (a126 + 1) (by omega)
  refine j_lv [2, 1, 0] rfl ?_; exact L124 2010 0 (M0.1 88 13).toInt (by omega)
set_option maxHeartbeats 4000000 in
theorem s2_X11_last {l : Launch} {dC : Nat → ClassId} {dI : Nat → Nat → Nat} {ad : Nat → Nat} {cA : Nat → ClassId} {pr : Nat → Nat → Bool} {Kz : mm_M} {M0 : mm_M} (hM0 : INV pr Kz M0) (hpr : PX pr) (gp : Nat) (cgp : s_c gp = 6) (egp : gp = M0.2.2 0 4) (hp0 : b01 (APX M0 gp) = 1) (hp1 : b01 (LAW M0 gp) = 1) (hp2 : b01 (PRR (rwX M0 gp 12)) = 1) (hp3 : (M0.1 12 3).toInt < pw2 (M0.1 12 0).toInt) : Ci l 6 yX11_last wsX11_last dC dI ad cA [.ref (ad 0)] M0 (fun r M' => ∃ a : Int, r = sI a ∧ INV pr Kz M' ∧ FX [81, 82, 83, 84, 85, 86, 88, 89, 90] M0 M' ∧ 0 ≤ a ∧ a ≤ 255 ∧ (a = laA (rwX M0 gp 12)) ∧ (b01 (APX M' gp) = 1)) := by
  refine ci_of (cc := cX11_last) (maxL := 1) (ty := .int) (lv := [(0, .ref (ad 0))]) (by decide) rfl (fun r M' hp => rfl) (Nat.le_of_ble_eq_true rfl) rfl ?_
  intro p e s m args below meth c A Q C hret
  refine j_aload_n C 0 0 dX11_last_0 rfl rfl ?_
  refine y_getC C 10 88 fX11_last_94 rfl rfl ft_10_14 sm_10_14 rfl hM0 dX11_last_1 ?_
  refine j_aload_n C 0 0 dX11_last_4 rfl rfl ?_
  refine y_getV C 10 gp fX11_last_26 rfl rfl ft_10_4 (egp) dX11_last_5 ?_
  refine j_aload_n C 0 0 dX11_last_8 rfl rfl ?_
  refine y_getC C 10 12 fX11_last_36 rfl rfl ft_10_6 sm_10_6 rfl hM0 dX11_last_9 ?_
  refine j_aload_n C 0 0 dX11_last_12 rfl rfl ?_
  refine y_getC C 10 12 fX11_last_36 rfl rfl ft_10_6 sm_10_6 rfl hM0 dX11_last_13 ?_
  refine y_getI C 8 _ _ fX11_last_153 rfl rfl ft_8_4 sb_8_4 hM0 dX11_last_16 (fun a101 ea101 la101 ua101 => ?_)
  obtain rfl : a101 = (M0.1 12 4).toInt := ea101
  refine j_callVv C (d := 5) (As := [.ref (ad gp), .ref (ad 12), .int (sI (M0.1 12 4).toInt)]) (st := []) 88 (s_lt rfl rfl) (s_kc (c := 4) rfl rfl) (by decide) rfl (s2_X5_look hM0 hpr cgp (M0.1 12 4).toInt (by omega) (by omega) (by omega) (by omega) (by omega) (by omega)) gX11_last_X5_look rfl hdX5_look (by decide) (Nat.le_of_ble_eq_true rfl) dX11_last_19 rfl (fun M104 h105 => ?_)
  obtain ⟨hM104, fM104, h106⟩ := h105
  have e88M104 : gp = M104.2.2 88 9 := by omega
  have u107l : b01 (LKP M104 gp (rwX M0 gp 12)) = 1 := by rw [← se_id M0 gp 12]; omega
  have u107e := lkp_e (M := M104) (p := gp) (f := (rwX M0 gp 12)) u107l
  have u107n := en_8 (f := (rwX M0 gp 12)) (-1) (by omega) (by omega)
  have u107a := tn_a (M := M104) (p := gp) (f := (rwX M0 gp 12)) (by omega)
  refine j_aload_n C 0 0 dX11_last_22 rfl rfl ?_
  refine y_getC C 10 88 fX11_last_94 rfl rfl ft_10_14 sm_10_14 rfl hM104 dX11_last_23 ?_
  refine j_callVi C (d := 1) (As := []) (st := []) 88 (s_lt rfl rfl) (s_kc (c := 4) rfl rfl) (by decide) rfl (s2_X5_lastLeft hM104 gp cgp (e88M104) (rwX M0 gp 12) (by omega)) gX11_last_X5_lastLeft rfl hdX5_lastLeft (by decide) (Nat.le_of_ble_eq_true rfl) dX11_last_26 rfl (fun r108 M109 h110 => ?_)
  obtain ⟨a112, rfl, rfl, h111⟩ := h110
  obtain rfl : a112 = (laA (rwX M0 gp 12)) := by omega
  exact hret _ _ _ _ dX11_last_29 ⟨(laA (rwX M0 gp 12)), rfl, hM104, (FX.rf.tr fM104 (by decide)), by omega⟩
set_option maxHeartbeats 4000000 in
theorem s2_X11_putBytes {l : Launch} {dC : Nat → ClassId} {dI : Nat → Nat → Nat} {ad : Nat → Nat} {cA : Nat → ClassId} {pr : Nat → Nat → Bool} {Kz : mm_M} {M0 : mm_M} (hM0 : INV pr Kz M0) (hpr : PX pr) (hq20 : ∀ i k, s_c i = 20 → pr i k = false) (hq10_1 : ∀ i, s_c i = 10 → pr i 1 = false) (a1 : Int) (ha1 : -2147483648 ≤ a1 ∧ a1 ≤ 2147483647) (hp0 : (M0.1 0 1).toInt ≤ 896) : Cv l 0 yX11_putBytes wsX11_putBytes dC dI ad cA [.ref (ad 0), .int (sI a1)] M0 (fun M' => INV pr Kz M' ∧ FX [0, 1] M0 M' ∧ ((M'.1 0 1).toInt = (M0.1 0 1).toInt + 4 ∨ 896 < (M0.1 0 1).toInt) ∧ (b01 (PBX M0 M' a1) = 1)) := by
  refine cv_of (cc := cX11_putBytes) (maxL := 3) (lv := [(0, .ref (ad 0)), (1, .int (sI a1))]) (by decide) rfl (Nat.le_of_ble_eq_true rfl) rfl ?_
  intro p e s m args below meth c A Q C hret
  refine y_bipush C dX11_putBytes_0 rfl ?_
  refine j_istore_n C 2 [(2, .int (sI 24)), (0, .ref (ad 0)), (1, .int (sI a1))] dX11_putBytes_2 rfl (by decide) rfl ?_
  have u101z := pbx0 M0 a1
  have L119 : ∀ (n117 : Nat), ∀ (a120 : Int) (M121 : mm_M), ((-8) ≤ a120 ∧ a120 ≤ 24 ∧ (8 * (M121.1 0 1).toInt + a120 = 8 * (M0.1 0 1).toInt + 24 ∨ 896 < (M0.1 0 1).toInt) ∧ (b01 (PBX M0 M121 a1) = 1) ∧ ((M0.1 0 1).toInt ≤ (M121.1 0 1).toInt) ∧ (a120 - (-8)) < (n117 : Int)) → INV pr Kz M121 → FX [0, 1] M0 M121 → jj p l e (cn_R 0) s m args below meth c 0 0 Q 3 dC dI ad cA A M121 3 [(0, .ref (ad 0)), (1, .int (sI a1)), (2, .int (sI a120))] [] := by
    intro n117
    induction n117 with
    | zero =>
      intro a120 M121 h122 hM121 fM121
      exfalso; omega
    | succ n117 ih118 =>
      intro a120 M121 h122 hM121 fM121
      refine j_iload_n C 2 2 dX11_putBytes_3 rfl rfl ?_
      refine y_if_lt C 51 dX11_putBytes_4 (by decide) (by omega) (fun h123 => ?_) (fun h123 => ?_)
      · exact hret _ _ _ dX11_putBytes_51 ⟨hM121, (FX.rf.tr fM121 (by decide)), by omega⟩
      · refine j_aload_n C 0 0 dX11_putBytes_7 rfl rfl ?_
        refine y_getI C 10 _ _ fX11_putBytes_13 rfl rfl ft_10_1 sb_10_1 hM121 dX11_putBytes_8 (fun a124 ea124 la124 ua124 => ?_)
        refine j_aload_n C 0 0 dX11_putBytes_11 rfl rfl ?_
        refine y_getC C 10 1 fX11_putBytes_9 rfl rfl ft_10_0 sm_10_0 rfl hM121 dX11_putBytes_12 ?_
        refine y_alen C 20 900 rfl rfl rfl an_20 rfl rfl dX11_putBytes_15 ?_
        refine y_icmp_ge C 51 dX11_putBytes_16 (by decide) (by omega) (fun h126 => ?_) (fun h126 => ?_)
        · exact hret _ _ _ dX11_putBytes_51 ⟨hM121, (FX.rf.tr fM121 (by decide)), by omega⟩
        · refine j_aload_n C 0 0 dX11_putBytes_19 rfl rfl ?_
          refine y_getC C 10 1 fX11_putBytes_9 rfl rfl ft_10_0 sm_10_0 rfl hM121 dX11_putBytes_20 ?_
          refine j_aload_n C 0 0 dX11_putBytes_23 rfl rfl ?_
          refine y_getI C 10 _ _ fX11_putBytes_13 rfl rfl ft_10_1 sb_10_1 hM121 dX11_putBytes_24 (fun a127 ea127 la127 ua127 => ?_)
          refine j_iload_n C 1 1 dX11_putBytes_27 rfl rfl ?_
          refine j_iload_n C 2 2 dX11_putBytes_28 rfl rfl ?_
          refine e_iushr C dX11_putBytes_29 (fun lb129 ub129 => ?_)
          refine y_sipush C dX11_putBytes_30 rfl ?_
          refine e_iandR C dX11_putBytes_33 (by omega) (fun lb130 ub130 => ?_)
          refine y_iast C 20 900 _ _ rfl rfl rfl ak_20 an_20 rfl (sb_20 _) hM121 (hq20 _ _ rfl) dX11_putBytes_34 (by omega) (by omega) (fun M131 eM131 hM131 => ?_)
          refine j_aload_n C 0 0 dX11_putBytes_35 rfl rfl ?_
          refine j_dup C dX11_putBytes_36 rfl ?_
          refine y_getI C 10 _ _ fX11_putBytes_13 rfl rfl ft_10_1 sb_10_1 hM131 dX11_putBytes_37 (fun a132 ea132 la132 ua132 => ?_)
          have qa132 : a132 = a124 := (s_fa eM131 (by decide) (ea132)).trans ea124.symm
          refine y_iconst C dX11_putBytes_40 ?_
          refine y_iadd C dX11_putBytes_41 ?_
          refine y_putI C 10 _ _ qX11_putBytes_13 rfl rfl ft_10_1 sb_10_1 hM131 (hq10_1 _ rfl) dX11_putBytes_42 (by omega) (fun M134 eM134 hM134 => ?_)
          refine y_iinc C 2 [(2, .int (sI (a120 + (-8)))), (0, .ref (ad 0)), (1, .int (sI a1))] dX11_putBytes_45 rfl (by decide) rfl ?_
          refine j_goto C 3 dX11_putBytes_48 (by decide) ?_
          have u135s := pbxt (M0 := M0) (M := M121) (x := a1) (by omega) eM131 eM134 (by omega) (by omega) ⟨rfl, by omega, by omega⟩ (by omega)
          have zz0_1 := (Eq.trans (rfl : (M134.1 0 1).toInt = (M134.1 0 1).toInt) (s_wr eM134 (by omega))); refine j_lv [1, 2, 0] rfl ?_; exact ih118 (a120 + (-8)) M134 (by omega) hM134 (((FX.rf.tr fM121 (by decide)).wI eM131 (by decide)).wI eM134 (by decide))
  refine j_lv [1, 2, 0] rfl ?_; exact L119 2010 24 M0 (by omega) hM0 FX.rf
set_option maxHeartbeats 4000000 in
theorem s2_X11_feed {l : Launch} {dC : Nat → ClassId} {dI : Nat → Nat → Nat} {ad : Nat → Nat} {cA : Nat → ClassId} {pr : Nat → Nat → Bool} {Kz : mm_M} {M0 : mm_M} (hM0 : INV pr Kz M0) (hpr : PX pr) (hq20 : ∀ i k, s_c i = 20 → pr i k = false) (hq10_1 : ∀ i, s_c i = 10 → pr i 1 = false) (a1 : Int) (ha1 : -2147483648 ≤ a1 ∧ a1 ≤ 2147483647) (a2 : Int) (ha2 : -2147483648 ≤ a2 ∧ a2 ≤ 2147483647) (a3 : Int) (ha3 : -2147483648 ≤ a3 ∧ a3 ≤ 2147483647) (a4 : Int) (ha4 : -2147483648 ≤ a4 ∧ a4 ≤ 2147483647) (a5 : Int) (ha5 : -2147483648 ≤ a5 ∧ a5 ≤ 2147483647) : Ci l 1 yX11_feed wsX11_feed dC dI ad cA [.ref (ad 0), .int (sI a1), .int (sI a2), .int (sI a3), .int (sI a4), .int (sI a5)] M0 (fun r M' => ∃ a : Int, r = sI a ∧ INV pr Kz M' ∧ FX [0, 1] M0 M' ∧ (-5) ≤ a ∧ a ≤ 900 ∧ ((M0.1 0 1).toInt ≤ 880 ∧ a = (M0.1 0 1).toInt + 20 ∧ (M'.1 0 1).toInt = a ∨ 880 < (M0.1 0 1).toInt ∧ a = -5 ∧ (M'.1 0 1).toInt = (M0.1 0 1).toInt) ∧ (b01 (FDX M0 M' a1 a2 a3 a4 a5) = 1)) := by
  refine ci_of (cc := cX11_feed) (maxL := 6) (ty := .int) (lv := [(0, .ref (ad 0)), (1, .int (sI a1)), (2, .int (sI a2)), (3, .int (sI a3)), (4, .int (sI a4)), (5, .int (sI a5))]) (by decide) rfl (fun r M' hp => rfl) (Nat.le_of_ble_eq_true rfl) rfl ?_
  intro p e s m args below meth c A Q C hret
  refine j_aload_n C 0 0 dX11_feed_0 rfl rfl ?_
  refine y_getI C 10 _ _ fX11_feed_13 rfl rfl ft_10_1 sb_10_1 hM0 dX11_feed_1 (fun a101 ea101 la101 ua101 => ?_)
  refine y_bipush C dX11_feed_4 rfl ?_
  refine y_iadd C dX11_feed_6 ?_
  refine y_sipush C dX11_feed_7 rfl ?_
  refine y_icmp_le C 16 dX11_feed_10 (by decide) (by omega) (fun h103 => ?_) (fun h103 => ?_)
  · refine j_aload_n C 0 0 dX11_feed_16 rfl rfl ?_
    refine j_iload_n C 1 1 dX11_feed_17 rfl rfl ?_
    refine j_callVv C (d := 0) (As := [.int (sI a1)]) (st := []) 0 (s_lt rfl rfl) (s_kc (c := 10) rfl rfl) (by decide) rfl (s2_X11_putBytes hM0 hpr hq20 hq10_1 a1 (by omega) (by omega)) gX11_feed_X11_putBytes rfl hdX11_putBytes (by decide) (Nat.le_of_ble_eq_true rfl) dX11_feed_18 rfl (fun M105 h106 => ?_)
    obtain ⟨hM105, fM105, h107⟩ := h106
    refine j_aload_n C 0 0 dX11_feed_21 rfl rfl ?_
    refine j_iload_n C 2 2 dX11_feed_22 rfl rfl ?_
    refine j_callVv C (d := 0) (As := [.int (sI a2)]) (st := []) 0 (s_lt rfl rfl) (s_kc (c := 10) rfl rfl) (by decide) rfl (s2_X11_putBytes hM105 hpr hq20 hq10_1 a2 (by omega) (by omega)) gX11_feed_X11_putBytes rfl hdX11_putBytes (by decide) (Nat.le_of_ble_eq_true rfl) dX11_feed_23 rfl (fun M109 h110 => ?_)
    obtain ⟨hM109, fM109, h111⟩ := h110
    refine j_aload_n C 0 0 dX11_feed_26 rfl rfl ?_
    refine j_iload_n C 3 3 dX11_feed_27 rfl rfl ?_
    refine j_callVv C (d := 0) (As := [.int (sI a3)]) (st := []) 0 (s_lt rfl rfl) (s_kc (c := 10) rfl rfl) (by decide) rfl (s2_X11_putBytes hM109 hpr hq20 hq10_1 a3 (by omega) (by omega)) gX11_feed_X11_putBytes rfl hdX11_putBytes (by decide) (Nat.le_of_ble_eq_true rfl) dX11_feed_28 rfl (fun M113 h114 => ?_)
    obtain ⟨hM113, fM113, h115⟩ := h114
    refine j_aload_n C 0 0 dX11_feed_31 rfl rfl ?_
    refine j_iload C 4 dX11_feed_32 rfl ?_
    refine j_callVv C (d := 0) (As := [.int (sI a4)]) (st := []) 0 (s_lt rfl rfl) (s_kc (c := 10) rfl rfl) (by decide) rfl (s2_X11_putBytes hM113 hpr hq20 hq10_1 a4 (by omega) (by omega)) gX11_feed_X11_putBytes rfl hdX11_putBytes (by decide) (Nat.le_of_ble_eq_true rfl) dX11_feed_34 rfl (fun M117 h118 => ?_)
    obtain ⟨hM117, fM117, h119⟩ := h118
    refine j_aload_n C 0 0 dX11_feed_37 rfl rfl ?_
    refine j_iload C 5 dX11_feed_38 rfl ?_
    refine j_callVv C (d := 0) (As := [.int (sI a5)]) (st := []) 0 (s_lt rfl rfl) (s_kc (c := 10) rfl rfl) (by decide) rfl (s2_X11_putBytes hM117 hpr hq20 hq10_1 a5 (by omega) (by omega)) gX11_feed_X11_putBytes rfl hdX11_putBytes (by decide) (Nat.le_of_ble_eq_true rfl) dX11_feed_40 rfl (fun M121 h122 => ?_)
    obtain ⟨hM121, fM121, h123⟩ := h122
    refine j_aload_n C 0 0 dX11_feed_43 rfl rfl ?_
    refine y_getI C 10 _ _ fX11_feed_13 rfl rfl ft_10_1 sb_10_1 hM121 dX11_feed_44 (fun a124 ea124 la124 ua124 => ?_)
    have u126f := fdx5 (a := a1) (b := a2) (c := a3) (d := a4) (e := a5) (M := M0) (M1 := M105) (M2 := M109) (M3 := M113) (M4 := M117) (M5 := M121) (by omega) (by omega) (by omega) (by omega) (by omega) (by omega)
    exact hret _ _ _ _ dX11_feed_47 ⟨a124, rfl, hM121, (((((FX.rf.tr fM105 (by decide)).tr fM109 (by decide)).tr fM113 (by decide)).tr fM117 (by decide)).tr fM121 (by decide)), by omega⟩
  · refine y_bipush C dX11_feed_13 rfl ?_
    have u127z := fdx0 M0 a1 a2 a3 a4 a5
    exact hret _ _ _ _ dX11_feed_15 ⟨(-5), rfl, hM0, FX.rf, by omega⟩
