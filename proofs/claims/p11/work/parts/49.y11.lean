section
set_option maxHeartbeats 4000000 in
theorem s2_X11_shutsBy {l : Launch} {dC : Nat → ClassId} {dI : Nat → Nat → Nat} {ad : Nat → Nat} {cA : Nat → ClassId} {pr : Nat → Nat → Bool} {Kz : mm_M} {M0 : mm_M} (hM0 : INV pr Kz M0) (hpr : PX pr) (a1 : Int) (ha1 : -2147483648 ≤ a1 ∧ a1 ≤ 2147483647) (a2 : Int) (ha2 : -2147483648 ≤ a2 ∧ a2 ≤ 2147483647) (a3 : Int) (ha3 : -2147483648 ≤ a3 ∧ a3 ≤ 2147483647) (gp : Nat) (cgp : s_c gp = 6) (egp : gp = M0.2.2 0 4) (hp0 : b01 (APX M0 gp) = 1) (hp1 : b01 (LAW M0 gp) = 1) (hp2 : b01 (PRR (rwX M0 gp 12)) = 1) (hp3 : (M0.1 12 3).toInt < pw2 (M0.1 12 0).toInt) : Cj l 6 yX11_shutsBy wsX11_shutsBy dC dI ad cA [.ref (ad 0), .int (sI a1), .int (sI a2), .int (sI a3)] M0 (fun r M' => ∃ a : Int, r = sJ a ∧ INV pr Kz M' ∧ FX [81, 82, 83, 84, 85, 86, 88, 89, 90, 92, 93, 94] M0 M' ∧ (-9223372036854775808) ≤ a ∧ a ≤ 9223372036854775807 ∧ (b01 (APX M' gp) = 1)) := by
  refine cj_of (cc := cX11_shutsBy) (maxL := 5) (lv := [(0, .ref (ad 0)), (1, .int (sI a1)), (2, .int (sI a2)), (3, .int (sI a3))]) (by decide) rfl (Nat.le_of_ble_eq_true rfl) rfl ?_
  intro p e s m args below meth c A Q C hret
  refine j_aload_n C 0 0 dX11_shutsBy_0 rfl rfl ?_
  refine j_iload_n C 1 1 dX11_shutsBy_1 rfl rfl ?_
  refine j_callVi C (d := 0) (As := [.int (sI a1)]) (st := []) 0 (s_lt rfl rfl) (s_kc (c := 10) rfl rfl) (by decide) rfl (s1_X11_isBuyer hM0 a1 (by exact ⟨ha1.1, ha1.2⟩)) gX11_shutsBy_X11_isBuyer rfl hdX11_isBuyer (by decide) (Nat.le_of_ble_eq_true rfl) dX11_shutsBy_2 rfl (fun r102 M103 h104 => ?_)
  obtain ⟨a106, rfl, rfl, h105⟩ := h104
  have J114 : ∀ (a113 : Int), ((-3) ≤ a113 ∧ a113 ≤ 0 ∧ (¬ a113 = 0 ∨ (0 ≤ a1 ∧ a1 < 6))) → jj p l e (cn_R 6) s m args below meth c 0 0 Q 5 dC dI ad cA A M0 20 [(0, .ref (ad 0)), (1, .int (sI a1)), (2, .int (sI a2)), (3, .int (sI a3))] [.int (sI a113)] := by
    intro a113 h115
    refine j_istore C 4 [(4, .int (sI a113)), (0, .ref (ad 0)), (1, .int (sI a1)), (2, .int (sI a2)), (3, .int (sI a3))] dX11_shutsBy_20 (by decide) rfl ?_
    refine j_iload C 0 dX11_shutsBy_22 rfl ?_
    refine y_if_eq C 31 dX11_shutsBy_24 (by decide) (by (clear h105 hret C hp3 hp2 hp1 hp0 egp cgp ha3 ha2 ha1 hpr hM0; omega)) (fun h116 => ?_) (fun h116 => ?_)
    · refine j_aload_n C 1 0 dX11_shutsBy_31 rfl rfl ?_
      refine y_getC C 10 88 fX11_shutsBy_94 rfl rfl ft_10_14 sm_10_14 rfl hM0 dX11_shutsBy_32 ?_
      refine j_aload_n C 1 0 dX11_shutsBy_35 rfl rfl ?_
      refine y_getV C 10 gp fX11_shutsBy_26 rfl rfl ft_10_4 (egp) dX11_shutsBy_36 ?_
      refine j_aload_n C 1 0 dX11_shutsBy_39 rfl rfl ?_
      refine y_getC C 10 12 fX11_shutsBy_36 rfl rfl ft_10_6 sm_10_6 rfl hM0 dX11_shutsBy_40 ?_
      refine j_aload_n C 1 0 dX11_shutsBy_43 rfl rfl ?_
      refine y_getC C 10 12 fX11_shutsBy_36 rfl rfl ft_10_6 sm_10_6 rfl hM0 dX11_shutsBy_44 ?_
      refine y_getI C 8 _ _ fX11_shutsBy_153 rfl rfl ft_8_4 sb_8_4 hM0 dX11_shutsBy_47 (fun a117 ea117 la117 ua117 => ?_)
      refine j_callVv C (d := 5) (As := [.ref (ad gp), .ref (ad 12), .int (sI a117)]) (st := []) 88 (s_lt rfl rfl) (s_kc (c := 4) rfl rfl) (by decide) rfl (s2_X5_look hM0 hpr cgp a117 (by (clear h116 h115 h105 hret C hp3 hp2 hp1 hp0 egp cgp ha3 ha2 ha1 hpr hM0; omega)) (by exact hp0) (by exact hp1) (by exact hp2) (by exact hp3) (by exact ⟨la117, ua117⟩)) gX11_shutsBy_X5_look rfl hdX5_look (by decide) (Nat.le_of_ble_eq_true rfl) dX11_shutsBy_50 rfl (fun M121 h122 => ?_)
      obtain ⟨hM121, fM121, h123⟩ := h122
      have u124a := tn_a (M := M121) (p := gp) (f := rwX M0 gp 12) (by exact h123.2.1)
      refine j_aload_n C 1 0 dX11_shutsBy_53 rfl rfl ?_
      refine y_getC C 10 88 fX11_shutsBy_94 rfl rfl ft_10_14 sm_10_14 rfl hM121 dX11_shutsBy_54 ?_
      refine j_iload_n C 3 2 dX11_shutsBy_57 rfl rfl ?_
      refine j_callVv C (d := 3) (As := [.int (sI a2)]) (st := []) 88 (s_lt rfl rfl) (s_kc (c := 4) rfl rfl) (by decide) rfl (s2_X5_passDays hM121 hpr a2 (by exact ⟨ha2.1, ha2.2⟩)) gX11_shutsBy_X5_passDays rfl hdX5_passDays (by decide) (Nat.le_of_ble_eq_true rfl) dX11_shutsBy_58 rfl (fun M126 h127 => ?_)
      obtain ⟨hM126, fM126⟩ := h127
      refine j_aload_n C 1 0 dX11_shutsBy_61 rfl rfl ?_
      refine y_getC C 10 88 fX11_shutsBy_94 rfl rfl ft_10_14 sm_10_14 rfl hM126 dX11_shutsBy_62 ?_
      refine y_getC C 4 94 fX11_shutsBy_308 rfl rfl ft_4_6 sm_4_6 rfl hM126 dX11_shutsBy_65 ?_
      refine j_iload_n C 2 1 dX11_shutsBy_68 rfl rfl ?_
      refine y_lald C 42 6 rfl rfl rfl ak_42 an_42 rfl dX11_shutsBy_69 (by (clear fM126 hM126 u124a h123 fM121 hM121 ua117 la117 ea117 h105 hret C hp3 hp2 hp1 hp0 egp cgp ha3 ha2 hpr hM0; omega)) (fun a129 ea129 la129 ua129 => ?_)
      refine j_aload_n C 1 0 dX11_shutsBy_70 rfl rfl ?_
      refine y_getC C 10 88 fX11_shutsBy_94 rfl rfl ft_10_14 sm_10_14 rfl hM126 dX11_shutsBy_71 ?_
      refine y_getJ C 4 fX11_shutsBy_296 rfl rfl ft_4_7 dX11_shutsBy_74 (fun a130 ea130 la130 ua130 => ?_)
      refine j_iload_n C 4 3 dX11_shutsBy_77 rfl rfl ?_
      refine j_callSj C (d := 1) (As := [.long (sJ a129), .long (sJ a130), .int (sI a3)]) (st := []) (s1_X11_inLowestTerms hM126 a129 (by exact ⟨la129, ua129⟩) a130 (by exact ⟨la130, ua130⟩) a3 (by exact ⟨ha3.1, ha3.2⟩)) gX11_shutsBy_X11_inLowestTerms rfl hdX11_inLowestTermss (by decide) (Nat.le_of_ble_eq_true rfl) dX11_shutsBy_78 rfl (fun r131 M132 h133 => ?_)
      obtain ⟨a135, rfl, rfl, h134⟩ := h133
      have u136A7 := hM121.rd (i := gp) (c := 6) (k := 7) cgp (show s_b 6 7 = (0, 900) from rfl)
      have u136A9 := hM121.rd (i := gp) (c := 6) (k := 9) cgp (show s_b 6 9 = (0, 900) from rfl)
      have u136A := apx_o (M := M121) (N := M126) (p := gp) (ple_f (p := gp) ((FX.rf.tr fM126 (by decide)) : FX [88, 92, 93, 94] M121 M126) cgp (by decide)) (((FX.rf.tr fM126 (by decide)) : FX [88, 92, 93, 94] M121 M126).cell (by decide)) (((FX.rf.tr fM126 (by decide)) : FX [88, 92, 93, 94] M121 M126).cell (by decide)) (((FX.rf.tr fM126 (by decide)) : FX [88, 92, 93, 94] M121 M126).cell (by decide)) u136A7.1 u136A9.1 (by exact u124a)
      exact hret _ _ _ _ dX11_shutsBy_81 ⟨a135, rfl, hM126, ((FX.rf.tr fM121 (by decide)).tr fM126 (by decide)), by exact ⟨h134.1, ⟨h134.2, u136A⟩⟩⟩
    · refine j_iload C 0 dX11_shutsBy_27 rfl ?_
      refine y_i2l C dX11_shutsBy_29 (by omega) ?_
      exact hret _ _ _ _ dX11_shutsBy_30 ⟨a113, rfl, hM0, FX.rf, by exact ⟨(by (clear h116 h105 hret C hp3 hp2 hp1 egp cgp ha3 ha2 ha1 hpr hM0; omega)), ⟨(by (clear h116 h105 hret C hp3 hp2 hp1 egp cgp ha3 ha2 ha1 hpr hM0; omega)), hp0⟩⟩⟩
  refine y_if_eq C 18 dX11_shutsBy_5 (by decide) (by omega) (fun h107 => ?_) (fun h107 => ?_)
  · refine y_bipush C dX11_shutsBy_18 rfl ?_
    exact J114 (-2) (by exact ⟨(by decide), ⟨(by decide), (by omega)⟩⟩)
  · refine j_iload_n C 3 3 dX11_shutsBy_8 rfl rfl ?_
    refine j_iload_n C 2 2 dX11_shutsBy_9 rfl rfl ?_
    refine y_bipush C dX11_shutsBy_10 rfl ?_
    refine j_callSi C (d := 0) (As := [.int (sI a3), .int (sI a2), .int (sI 10)]) (st := []) (s1_X11_chanceRefusal hM0 a3 (by exact ⟨ha3.1, ha3.2⟩) a2 (by exact ⟨ha2.1, ha2.2⟩) 10 (by exact ⟨(by decide), (by decide)⟩)) gX11_shutsBy_X11_chanceRefusal rfl hdX11_chanceRefusals (by decide) (Nat.le_of_ble_eq_true rfl) dX11_shutsBy_12 rfl (fun r108 M109 h110 => ?_)
    obtain ⟨a112, rfl, rfl, h111⟩ := h110
    refine j_goto C 20 dX11_shutsBy_15 (by decide) ?_
    exact J114 a112 (by exact ⟨h111.1, ⟨h111.2.1, (by (clear J114 hret C hp3 hp2 hp1 hp0 egp cgp ha3 ha2 hpr hM0; omega))⟩⟩)
set_option maxHeartbeats 4000000 in
theorem s2_X11_closer {l : Launch} {dC : Nat → ClassId} {dI : Nat → Nat → Nat} {ad : Nat → Nat} {cA : Nat → ClassId} {pr : Nat → Nat → Bool} {Kz : mm_M} {M0 : mm_M} (hM0 : INV pr Kz M0) (hpr : PX pr) (a1 : Int) (ha1 : -2147483648 ≤ a1 ∧ a1 ≤ 2147483647) (gp : Nat) (cgp : s_c gp = 6) (egp : gp = M0.2.2 0 4) (hp0 : b01 (APX M0 gp) = 1) (hp1 : b01 (LAW M0 gp) = 1) (hp2 : b01 (PRR (rwX M0 gp 12)) = 1) (hp3 : (M0.1 12 3).toInt < pw2 (M0.1 12 0).toInt) : Ci l 6 yX11_closer wsX11_closer dC dI ad cA [.ref (ad 0), .int (sI a1)] M0 (fun r M' => ∃ a : Int, r = sI a ∧ INV pr Kz M' ∧ FX [81, 82, 83, 84, 85, 86, 88, 89, 90, 92, 93, 94] M0 M' ∧ (-3) ≤ a ∧ a ≤ 5 ∧ (b01 (APX M' gp) = 1)) := by
  refine ci_of (cc := cX11_closer) (maxL := 6) (ty := .int) (lv := [(0, .ref (ad 0)), (1, .int (sI a1))]) (by decide) rfl (fun r M' hp => rfl) (Nat.le_of_ble_eq_true rfl) rfl ?_
  intro p e s m args below meth c A Q C hret
  refine j_iload_n C 1 1 dX11_closer_0 rfl rfl ?_
  refine y_if_lt C 10 dX11_closer_1 (by decide) (by exact ⟨ha1.1, ha1.2⟩) (fun h102 => ?_) (fun h102 => ?_)
  · refine y_bipush C dX11_closer_10 rfl ?_
    exact hret _ _ _ _ dX11_closer_12 ⟨(-3), rfl, hM0, FX.rf, by exact ⟨(by decide), ⟨(by decide), hp0⟩⟩⟩
  · refine j_iload_n C 1 1 dX11_closer_4 rfl rfl ?_
    refine y_bipush C dX11_closer_5 rfl ?_
    refine y_icmp_le C 13 dX11_closer_7 (by decide) (by exact ⟨⟨ha1.1, ha1.2⟩, ⟨(by decide), (by decide)⟩⟩) (fun h104 => ?_) (fun h104 => ?_)
    · refine j_aload_n C 0 0 dX11_closer_13 rfl rfl ?_
      refine y_getC C 10 88 fX11_closer_94 rfl rfl ft_10_14 sm_10_14 rfl hM0 dX11_closer_14 ?_
      refine j_aload_n C 0 0 dX11_closer_17 rfl rfl ?_
      refine y_getV C 10 gp fX11_closer_26 rfl rfl ft_10_4 (egp) dX11_closer_18 ?_
      refine j_aload_n C 0 0 dX11_closer_21 rfl rfl ?_
      refine y_getC C 10 12 fX11_closer_36 rfl rfl ft_10_6 sm_10_6 rfl hM0 dX11_closer_22 ?_
      refine j_aload_n C 0 0 dX11_closer_25 rfl rfl ?_
      refine y_getC C 10 12 fX11_closer_36 rfl rfl ft_10_6 sm_10_6 rfl hM0 dX11_closer_26 ?_
      refine y_getI C 8 _ _ fX11_closer_153 rfl rfl ft_8_4 sb_8_4 hM0 dX11_closer_29 (fun a105 ea105 la105 ua105 => ?_)
      refine j_callVv C (d := 5) (As := [.ref (ad gp), .ref (ad 12), .int (sI a105)]) (st := []) 88 (s_lt rfl rfl) (s_kc (c := 4) rfl rfl) (by decide) rfl (s2_X5_look hM0 hpr cgp a105 (by (clear h104 h102 hret C hp3 hp2 hp1 hp0 egp cgp ha1 hpr hM0; omega)) (by exact hp0) (by exact hp1) (by exact hp2) (by exact hp3) (by exact ⟨la105, ua105⟩)) gX11_closer_X5_look rfl hdX5_look (by decide) (Nat.le_of_ble_eq_true rfl) dX11_closer_32 rfl (fun M109 h110 => ?_)
      obtain ⟨hM109, fM109, h111⟩ := h110
      have u112a := tn_a (M := M109) (p := gp) (f := rwX M0 gp 12) (by exact h111.2.1)
      refine j_aload_n C 0 0 dX11_closer_35 rfl rfl ?_
      refine y_getC C 10 88 fX11_closer_94 rfl rfl ft_10_14 sm_10_14 rfl hM109 dX11_closer_36 ?_
      refine j_iload_n C 1 1 dX11_closer_39 rfl rfl ?_
      refine j_callVv C (d := 3) (As := [.int (sI a1)]) (st := []) 88 (s_lt rfl rfl) (s_kc (c := 4) rfl rfl) (by decide) rfl (s2_X5_passDays hM109 hpr a1 (by exact ⟨ha1.1, ha1.2⟩)) gX11_closer_X5_passDays rfl hdX5_passDays (by decide) (Nat.le_of_ble_eq_true rfl) dX11_closer_40 rfl (fun M114 h115 => ?_)
      obtain ⟨hM114, fM114⟩ := h115
      refine y_iconst C dX11_closer_43 ?_
      refine j_istore_n C 2 [(2, .int (sI (-1))), (0, .ref (ad 0)), (1, .int (sI a1))] dX11_closer_44 rfl (by decide) rfl ?_
      refine y_lconst C 0 dX11_closer_45 rfl ?_
      refine j_lstore_n C 3 [(3, .long (sJ 0)), (2, .int (sI (-1))), (0, .ref (ad 0)), (1, .int (sI a1))] dX11_closer_46 rfl (by decide) rfl ?_
      refine y_iconst C dX11_closer_47 ?_
      refine j_istore C 5 [(5, .int (sI 0)), (3, .long (sJ 0)), (2, .int (sI (-1))), (0, .ref (ad 0)), (1, .int (sI a1))] dX11_closer_48 (by decide) rfl ?_
      have L182 : ∀ (n180 : Nat), ∀ (a183 : Int) (a184 : Int) (a185 : Int), ((-1) ≤ a183 ∧ a183 ≤ 5 ∧ (-9223372036854775808) ≤ a184 ∧ a184 ≤ 9223372036854775807 ∧ 0 ≤ a185 ∧ a185 ≤ 6 ∧ (6 - a185) < (n180 : Int)) → jj p l e (cn_R 6) s m args below meth c 0 0 Q 6 dC dI ad cA A M114 50 [(0, .ref (ad 0)), (2, .int (sI a183)), (3, .long (sJ a184)), (5, .int (sI a185))] [] := by
        intro n180
        induction n180 with
        | zero =>
          intro a183 a184 a185 h186
          exfalso; omega
        | succ n180 ih181 =>
          intro a183 a184 a185 h186
          refine j_iload C 3 dX11_closer_50 rfl ?_
          refine j_aload_n C 0 0 dX11_closer_52 rfl rfl ?_
          refine y_getV C 10 gp fX11_closer_26 rfl rfl ft_10_4 (s_pX fM114 (s_pX fM109 (egp))) dX11_closer_53 ?_
          refine y_getI C 6 _ _ fX11_closer_163 cgp rfl ft_6_0 sb_6_0 hM114 dX11_closer_56 (fun a187 ea187 la187 ua187 => ?_)
          have qa187 : a187 = (M0.1 gp 0).toInt := s_fX fM109 (s_nin cgp (by decide)) (s_fX fM114 (s_nin cgp (by decide)) (ea187))
          refine y_icmp_ge C 97 dX11_closer_59 (by decide) (by (clear ih181 fM114 hM114 u112a h111 fM109 hM109 ua105 la105 ea105 h104 h102 hret C hp3 hp2 hp1 hp0 egp cgp ha1 hpr hM0; omega)) (fun h189 => ?_) (fun h189 => ?_)
          · refine j_iload_n C 1 2 dX11_closer_97 rfl rfl ?_
            have u193A7 := hM109.rd (i := gp) (c := 6) (k := 7) cgp (show s_b 6 7 = (0, 900) from rfl)
            have u193A9 := hM109.rd (i := gp) (c := 6) (k := 9) cgp (show s_b 6 9 = (0, 900) from rfl)
            have u193A := apx_o (M := M109) (N := M114) (p := gp) (ple_f (p := gp) ((FX.rf.tr fM114 (by decide)) : FX [88, 92, 93, 94] M109 M114) cgp (by decide)) (((FX.rf.tr fM114 (by decide)) : FX [88, 92, 93, 94] M109 M114).cell (by decide)) (((FX.rf.tr fM114 (by decide)) : FX [88, 92, 93, 94] M109 M114).cell (by decide)) (((FX.rf.tr fM114 (by decide)) : FX [88, 92, 93, 94] M109 M114).cell (by decide)) u193A7.1 u193A9.1 (by exact u112a)
            exact hret _ _ _ _ dX11_closer_98 ⟨a183, rfl, hM114, ((FX.rf.tr fM109 (by decide)).tr fM114 (by decide)), by exact ⟨(by (clear u193A9 u193A7 h189 qa187 ua187 la187 ea187 ih181 fM114 hM114 u112a h111 fM109 hM109 ua105 la105 ea105 h104 h102 hret C hp3 hp2 hp1 hp0 egp cgp ha1 hpr hM0; omega)), ⟨h186.2.1, u193A⟩⟩⟩
          · refine j_aload_n C 0 0 dX11_closer_62 rfl rfl ?_
            refine y_getC C 10 88 fX11_closer_94 rfl rfl ft_10_14 sm_10_14 rfl hM114 dX11_closer_63 ?_
            refine y_getC C 4 94 fX11_closer_308 rfl rfl ft_4_6 sm_4_6 rfl hM114 dX11_closer_66 ?_
            refine j_iload C 3 dX11_closer_69 rfl ?_
            refine y_lald C 42 6 rfl rfl rfl ak_42 an_42 rfl dX11_closer_71 (by exact ⟨h186.2.2.2.2.1, (by (clear ih181 fM114 hM114 u112a h111 fM109 hM109 ua105 la105 ea105 h104 h102 hret C hp3 hp2 hp1 hp0 egp cgp ha1 hpr hM0; omega))⟩) (fun a190 ea190 la190 ua190 => ?_)
            refine j_lload_n C 2 3 dX11_closer_72 rfl rfl ?_
            refine y_lcmp_le C 91 dX11_closer_73 dX11_closer_74 (by decide) (by exact ⟨⟨la190, ua190⟩, ⟨h186.2.2.1, h186.2.2.2.1⟩⟩) (fun h191 => ?_) (fun h191 => ?_)
            · refine y_iinc C 3 [(5, .int (sI (a185 + 1))), (0, .ref (ad 0)), (2, .int (sI a183)), (3, .long (sJ a184))] dX11_closer_91 rfl (by decide) rfl ?_
              refine j_goto C 50 dX11_closer_94 (by decide) ?_
              refine j_lv [1, 2, 3, 0] rfl ?_; exact ih181 a183 a184 (a185 + 1) (by exact ⟨h186.1, ⟨h186.2.1, ⟨h186.2.2.1, ⟨h186.2.2.2.1, ⟨(by (clear h191 ua190 la190 ea190 ih181 fM114 hM114 u112a h111 fM109 hM109 ua105 la105 ea105 h104 h102 hret C hp3 hp2 hp1 hp0 egp cgp ha1 hpr hM0; omega)), ⟨(by (clear h191 ua190 la190 ea190 ih181 fM114 hM114 u112a h111 fM109 hM109 ua105 la105 ea105 h104 h102 hret C hp3 hp2 hp1 hp0 egp cgp ha1 hpr hM0; omega)), (by (clear h191 ua190 la190 ea190 ih181 fM114 hM114 u112a h111 fM109 hM109 ua105 la105 ea105 h104 h102 hret C hp3 hp2 hp1 hp0 egp cgp ha1 hpr hM0; omega))⟩⟩⟩⟩⟩⟩)
            · refine j_aload_n C 0 0 dX11_closer_77 rfl rfl ?_
              refine y_getC C 10 88 fX11_closer_94 rfl rfl ft_10_14 sm_10_14 rfl hM114 dX11_closer_78 ?_
              refine y_getC C 4 94 fX11_closer_308 rfl rfl ft_4_6 sm_4_6 rfl hM114 dX11_closer_81 ?_
              refine j_iload C 3 dX11_closer_84 rfl ?_
              refine y_lald C 42 6 rfl rfl rfl ak_42 an_42 rfl dX11_closer_86 (by exact ⟨h186.2.2.2.2.1, (by (clear h191 ua190 la190 ea190 ih181 fM114 hM114 u112a h111 fM109 hM109 ua105 la105 ea105 h104 h102 hret C hp3 hp2 hp1 hp0 egp cgp ha1 hpr hM0; omega))⟩) (fun a192 ea192 la192 ua192 => ?_)
              refine j_lstore_n C 3 [(3, .long (sJ a192)), (0, .ref (ad 0)), (2, .int (sI a183)), (5, .int (sI a185))] dX11_closer_87 rfl (by decide) rfl ?_
              refine j_iload C 3 dX11_closer_88 rfl ?_
              refine j_istore_n C 2 [(2, .int (sI a185)), (3, .long (sJ a192)), (0, .ref (ad 0)), (5, .int (sI a185))] dX11_closer_90 rfl (by decide) rfl ?_
              refine y_iinc C 3 [(5, .int (sI (a185 + 1))), (2, .int (sI a185)), (3, .long (sJ a192)), (0, .ref (ad 0))] dX11_closer_91 rfl (by decide) rfl ?_
              refine j_goto C 50 dX11_closer_94 (by decide) ?_
              refine j_lv [3, 1, 2, 0] rfl ?_; exact ih181 a185 a192 (a185 + 1) (by exact ⟨(by (clear ua192 la192 h191 ih181 fM114 hM114 u112a h111 fM109 hM109 ua105 la105 ea105 h104 h102 hret C hp3 hp2 hp1 hp0 egp cgp ha1 hpr hM0; omega)), ⟨(by (clear ua192 la192 h191 ih181 fM114 hM114 u112a h111 fM109 hM109 ua105 la105 ea105 h104 h102 hret C hp3 hp2 hp1 hp0 egp cgp ha1 hpr hM0; omega)), ⟨la192, ⟨ua192, ⟨(by (clear ua192 la192 h191 ih181 fM114 hM114 u112a h111 fM109 hM109 ua105 la105 ea105 h104 h102 hret C hp3 hp2 hp1 hp0 egp cgp ha1 hpr hM0; omega)), ⟨(by (clear ua192 la192 h191 ih181 fM114 hM114 u112a h111 fM109 hM109 ua105 la105 ea105 h104 h102 hret C hp3 hp2 hp1 hp0 egp cgp ha1 hpr hM0; omega)), (by (clear ua192 la192 h191 ih181 fM114 hM114 u112a h111 fM109 hM109 ua105 la105 ea105 h104 h102 hret C hp3 hp2 hp1 hp0 egp cgp ha1 hpr hM0; omega))⟩⟩⟩⟩⟩⟩)
      refine j_lv [3, 2, 1, 0] rfl ?_; exact L182 2010 (-1) 0 0 (by exact ⟨(by decide), ⟨(by decide), ⟨(by decide), ⟨(by decide), ⟨(by decide), ⟨(by decide), (by decide)⟩⟩⟩⟩⟩⟩)
    · refine y_bipush C dX11_closer_10 rfl ?_
      exact hret _ _ _ _ dX11_closer_12 ⟨(-3), rfl, hM0, FX.rf, by exact ⟨(by decide), ⟨(by decide), hp0⟩⟩⟩
set_option maxHeartbeats 4000000 in
theorem s2_X11_soldIn {l : Launch} {dC : Nat → ClassId} {dI : Nat → Nat → Nat} {ad : Nat → Nat} {cA : Nat → ClassId} {pr : Nat → Nat → Bool} {Kz : mm_M} {M0 : mm_M} (hM0 : INV pr Kz M0) (hpr : PX pr) (a1 : Int) (ha1 : -2147483648 ≤ a1 ∧ a1 ≤ 2147483647) (a2 : Int) (ha2 : -2147483648 ≤ a2 ∧ a2 ≤ 2147483647) (a3 : Int) (ha3 : -2147483648 ≤ a3 ∧ a3 ≤ 2147483647) (gp : Nat) (cgp : s_c gp = 6) (egp : gp = M0.2.2 0 4) (hp0 : b01 (APX M0 gp) = 1) (hp1 : b01 (LAW M0 gp) = 1) (hp2 : b01 (PRR (rwX M0 gp 12)) = 1) (hp3 : (M0.1 12 3).toInt < pw2 (M0.1 12 0).toInt) : Cj l 6 yX11_soldIn wsX11_soldIn dC dI ad cA [.ref (ad 0), .int (sI a1), .int (sI a2), .int (sI a3)] M0 (fun r M' => ∃ a : Int, r = sJ a ∧ INV pr Kz M' ∧ FX [81, 82, 83, 84, 85, 86, 88, 89, 90, 92, 93, 94] M0 M' ∧ (-9223372036854775808) ≤ a ∧ a ≤ 9223372036854775807 ∧ (b01 (APX M' gp) = 1)) := by
  refine cj_of (cc := cX11_soldIn) (maxL := 5) (lv := [(0, .ref (ad 0)), (1, .int (sI a1)), (2, .int (sI a2)), (3, .int (sI a3))]) (by decide) rfl (Nat.le_of_ble_eq_true rfl) rfl ?_
  intro p e s m args below meth c A Q C hret
  refine j_aload_n C 0 0 dX11_soldIn_0 rfl rfl ?_
  refine j_iload_n C 1 1 dX11_soldIn_1 rfl rfl ?_
  refine j_callVi C (d := 0) (As := [.int (sI a1)]) (st := []) 0 (s_lt rfl rfl) (s_kc (c := 10) rfl rfl) (by decide) rfl (s1_X11_isKind hM0 a1 (by exact ⟨ha1.1, ha1.2⟩)) gX11_soldIn_X11_isKind rfl hdX11_isKind (by decide) (Nat.le_of_ble_eq_true rfl) dX11_soldIn_2 rfl (fun r102 M103 h104 => ?_)
  obtain ⟨a106, rfl, rfl, h105⟩ := h104
  have J114 : ∀ (a113 : Int), ((-3) ≤ a113 ∧ a113 ≤ 0) → jj p l e (cn_R 6) s m args below meth c 0 0 Q 5 dC dI ad cA A M0 20 [(0, .ref (ad 0)), (1, .int (sI a1)), (2, .int (sI a2)), (3, .int (sI a3))] [.int (sI a113)] := by
    intro a113 h115
    refine j_istore C 4 [(4, .int (sI a113)), (0, .ref (ad 0)), (1, .int (sI a1)), (2, .int (sI a2)), (3, .int (sI a3))] dX11_soldIn_20 (by decide) rfl ?_
    refine j_iload C 0 dX11_soldIn_22 rfl ?_
    refine y_if_eq C 31 dX11_soldIn_24 (by decide) (by (clear h105 hret C hp3 hp2 hp1 hp0 egp cgp ha3 ha2 ha1 hpr hM0; omega)) (fun h116 => ?_) (fun h116 => ?_)
    · refine j_aload_n C 1 0 dX11_soldIn_31 rfl rfl ?_
      refine y_getC C 10 88 fX11_soldIn_94 rfl rfl ft_10_14 sm_10_14 rfl hM0 dX11_soldIn_32 ?_
      refine j_aload_n C 1 0 dX11_soldIn_35 rfl rfl ?_
      refine y_getV C 10 gp fX11_soldIn_26 rfl rfl ft_10_4 (egp) dX11_soldIn_36 ?_
      refine j_aload_n C 1 0 dX11_soldIn_39 rfl rfl ?_
      refine y_getC C 10 12 fX11_soldIn_36 rfl rfl ft_10_6 sm_10_6 rfl hM0 dX11_soldIn_40 ?_
      refine j_aload_n C 1 0 dX11_soldIn_43 rfl rfl ?_
      refine y_getC C 10 12 fX11_soldIn_36 rfl rfl ft_10_6 sm_10_6 rfl hM0 dX11_soldIn_44 ?_
      refine y_getI C 8 _ _ fX11_soldIn_153 rfl rfl ft_8_4 sb_8_4 hM0 dX11_soldIn_47 (fun a117 ea117 la117 ua117 => ?_)
      refine j_callVv C (d := 5) (As := [.ref (ad gp), .ref (ad 12), .int (sI a117)]) (st := []) 88 (s_lt rfl rfl) (s_kc (c := 4) rfl rfl) (by decide) rfl (s2_X5_look hM0 hpr cgp a117 (by omega) (by exact hp0) (by exact hp1) (by exact hp2) (by exact hp3) (by exact ⟨la117, ua117⟩)) gX11_soldIn_X5_look rfl hdX5_look (by decide) (Nat.le_of_ble_eq_true rfl) dX11_soldIn_50 rfl (fun M121 h122 => ?_)
      obtain ⟨hM121, fM121, h123⟩ := h122
      have u124a := tn_a (M := M121) (p := gp) (f := rwX M0 gp 12) (by exact h123.2.1)
      refine j_aload_n C 1 0 dX11_soldIn_53 rfl rfl ?_
      refine y_getC C 10 88 fX11_soldIn_94 rfl rfl ft_10_14 sm_10_14 rfl hM121 dX11_soldIn_54 ?_
      refine j_iload_n C 3 2 dX11_soldIn_57 rfl rfl ?_
      refine j_callVv C (d := 3) (As := [.int (sI a2)]) (st := []) 88 (s_lt rfl rfl) (s_kc (c := 4) rfl rfl) (by decide) rfl (s2_X5_passDays hM121 hpr a2 (by exact ⟨ha2.1, ha2.2⟩)) gX11_soldIn_X5_passDays rfl hdX5_passDays (by decide) (Nat.le_of_ble_eq_true rfl) dX11_soldIn_58 rfl (fun M126 h127 => ?_)
      obtain ⟨hM126, fM126⟩ := h127
      refine j_aload_n C 1 0 dX11_soldIn_61 rfl rfl ?_
      refine y_getC C 10 88 fX11_soldIn_94 rfl rfl ft_10_14 sm_10_14 rfl hM126 dX11_soldIn_62 ?_
      refine j_iload_n C 2 1 dX11_soldIn_65 rfl rfl ?_
      refine j_callVj C (d := 0) (As := [.int (sI a1)]) (st := []) 88 (s_lt rfl rfl) (s_kc (c := 4) rfl rfl) (by decide) rfl (s1_X5_soldWays hM126 a1 (by exact ⟨ha1.1, ha1.2⟩)) gX11_soldIn_X5_soldWays rfl hdX5_soldWays (by decide) (Nat.le_of_ble_eq_true rfl) dX11_soldIn_66 rfl (fun r129 M130 h131 => ?_)
      obtain ⟨a133, rfl, rfl, h132⟩ := h131
      refine j_aload_n C 1 0 dX11_soldIn_69 rfl rfl ?_
      refine y_getC C 10 88 fX11_soldIn_94 rfl rfl ft_10_14 sm_10_14 rfl hM126 dX11_soldIn_70 ?_
      refine y_getJ C 4 fX11_soldIn_296 rfl rfl ft_4_7 dX11_soldIn_73 (fun a134 ea134 la134 ua134 => ?_)
      refine j_iload_n C 4 3 dX11_soldIn_76 rfl rfl ?_
      refine j_callSj C (d := 1) (As := [.long (sJ a133), .long (sJ a134), .int (sI a3)]) (st := []) (s1_X11_inLowestTerms hM126 a133 (by exact ⟨h132.1, h132.2⟩) a134 (by exact ⟨la134, ua134⟩) a3 (by exact ⟨ha3.1, ha3.2⟩)) gX11_soldIn_X11_inLowestTerms rfl hdX11_inLowestTermss (by decide) (Nat.le_of_ble_eq_true rfl) dX11_soldIn_77 rfl (fun r135 M136 h137 => ?_)
      obtain ⟨a139, rfl, rfl, h138⟩ := h137
      have u140A7 := hM121.rd (i := gp) (c := 6) (k := 7) cgp (show s_b 6 7 = (0, 900) from rfl)
      have u140A9 := hM121.rd (i := gp) (c := 6) (k := 9) cgp (show s_b 6 9 = (0, 900) from rfl)
      have u140A := apx_o (M := M121) (N := M126) (p := gp) (ple_f (p := gp) ((FX.rf.tr fM126 (by decide)) : FX [88, 92, 93, 94] M121 M126) cgp (by decide)) (((FX.rf.tr fM126 (by decide)) : FX [88, 92, 93, 94] M121 M126).cell (by decide)) (((FX.rf.tr fM126 (by decide)) : FX [88, 92, 93, 94] M121 M126).cell (by decide)) (((FX.rf.tr fM126 (by decide)) : FX [88, 92, 93, 94] M121 M126).cell (by decide)) u140A7.1 u140A9.1 (by exact u124a)
      exact hret _ _ _ _ dX11_soldIn_80 ⟨a139, rfl, hM126, ((FX.rf.tr fM121 (by decide)).tr fM126 (by decide)), by exact ⟨h138.1, ⟨h138.2, u140A⟩⟩⟩
    · refine j_iload C 0 dX11_soldIn_27 rfl ?_
      refine y_i2l C dX11_soldIn_29 (by omega) ?_
      exact hret _ _ _ _ dX11_soldIn_30 ⟨a113, rfl, hM0, FX.rf, by exact ⟨(by (clear h116 h105 hret C hp3 hp2 hp1 egp cgp ha3 ha2 ha1 hpr hM0; omega)), ⟨(by (clear h116 h105 hret C hp3 hp2 hp1 egp cgp ha3 ha2 ha1 hpr hM0; omega)), hp0⟩⟩⟩
  refine y_if_eq C 18 dX11_soldIn_5 (by decide) (by omega) (fun h107 => ?_) (fun h107 => ?_)
  · refine y_bipush C dX11_soldIn_18 rfl ?_
    exact J114 (-2) (by exact ⟨(by decide), (by decide)⟩)
  · refine j_iload_n C 3 3 dX11_soldIn_8 rfl rfl ?_
    refine j_iload_n C 2 2 dX11_soldIn_9 rfl rfl ?_
    refine y_bipush C dX11_soldIn_10 rfl ?_
    refine j_callSi C (d := 0) (As := [.int (sI a3), .int (sI a2), .int (sI 10)]) (st := []) (s1_X11_chanceRefusal hM0 a3 (by exact ⟨ha3.1, ha3.2⟩) a2 (by exact ⟨ha2.1, ha2.2⟩) 10 (by exact ⟨(by decide), (by decide)⟩)) gX11_soldIn_X11_chanceRefusal rfl hdX11_chanceRefusals (by decide) (Nat.le_of_ble_eq_true rfl) dX11_soldIn_12 rfl (fun r108 M109 h110 => ?_)
    obtain ⟨a112, rfl, rfl, h111⟩ := h110
    refine j_goto C 20 dX11_soldIn_15 (by decide) ?_
    exact J114 a112 (by exact ⟨h111.1, h111.2.1⟩)
set_option maxHeartbeats 4000000 in
theorem s2_X11_hides {l : Launch} {dC : Nat → ClassId} {dI : Nat → Nat → Nat} {ad : Nat → Nat} {cA : Nat → ClassId} {pr : Nat → Nat → Bool} {Kz : mm_M} {M0 : mm_M} (hM0 : INV pr Kz M0) (hpr : PX pr) (a1 : Int) (ha1 : -2147483648 ≤ a1 ∧ a1 ≤ 2147483647) (a2 : Int) (ha2 : -2147483648 ≤ a2 ∧ a2 ≤ 2147483647) (a3 : Int) (ha3 : -2147483648 ≤ a3 ∧ a3 ≤ 2147483647) (gp : Nat) (cgp : s_c gp = 6) (egp : gp = M0.2.2 0 4) (hp0 : b01 (APX M0 gp) = 1) (hp1 : b01 (LAW M0 gp) = 1) (hp2 : b01 (PRR (rwX M0 gp 12)) = 1) (hp3 : (M0.1 12 3).toInt < pw2 (M0.1 12 0).toInt) : Ci l 6 yX11_hides wsX11_hides dC dI ad cA [.ref (ad 0), .int (sI a1), .int (sI a2), .int (sI a3)] M0 (fun r M' => ∃ a : Int, r = sI a ∧ INV pr Kz M' ∧ FX [81, 82, 83, 84, 85, 86, 88, 89, 90, 92, 93, 94] M0 M' ∧ (-5) ≤ a ∧ a ≤ 255 ∧ (b01 (APX M' gp) = 1)) := by
  refine ci_of (cc := cX11_hides) (maxL := 11) (ty := .int) (lv := [(0, .ref (ad 0)), (1, .int (sI a1)), (2, .int (sI a2)), (3, .int (sI a3))]) (by decide) rfl (fun r M' hp => rfl) (Nat.le_of_ble_eq_true rfl) rfl ?_
  intro p e s m args below meth c A Q C hret
  refine j_iload_n C 3 3 dX11_hides_0 rfl rfl ?_
  refine y_if_lt C 9 dX11_hides_1 (by decide) (by exact ⟨ha3.1, ha3.2⟩) (fun h102 => ?_) (fun h102 => ?_)
  · refine y_bipush C dX11_hides_9 rfl ?_
    exact hret _ _ _ _ dX11_hides_11 ⟨(-2), rfl, hM0, FX.rf, by exact ⟨(by decide), ⟨(by decide), hp0⟩⟩⟩
  · refine j_iload_n C 3 3 dX11_hides_4 rfl rfl ?_
    refine y_iconst C dX11_hides_5 ?_
    refine y_icmp_le C 12 dX11_hides_6 (by decide) (by exact ⟨⟨ha3.1, ha3.2⟩, ⟨(by decide), (by decide)⟩⟩) (fun h104 => ?_) (fun h104 => ?_)
    · refine j_iload_n C 1 1 dX11_hides_12 rfl rfl ?_
      refine y_if_lt C 32 dX11_hides_13 (by decide) (by exact ⟨ha1.1, ha1.2⟩) (fun h105 => ?_) (fun h105 => ?_)
      · refine y_bipush C dX11_hides_32 rfl ?_
        exact hret _ _ _ _ dX11_hides_34 ⟨(-3), rfl, hM0, FX.rf, by exact ⟨(by decide), ⟨(by decide), hp0⟩⟩⟩
      · refine j_iload_n C 1 1 dX11_hides_16 rfl rfl ?_
        refine y_iconst C dX11_hides_17 ?_
        refine y_icmp_gt C 32 dX11_hides_18 (by decide) (by exact ⟨⟨ha1.1, ha1.2⟩, ⟨(by decide), (by decide)⟩⟩) (fun h107 => ?_) (fun h107 => ?_)
        · refine y_bipush C dX11_hides_32 rfl ?_
          exact hret _ _ _ _ dX11_hides_34 ⟨(-3), rfl, hM0, FX.rf, by exact ⟨(by decide), ⟨(by decide), hp0⟩⟩⟩
        · refine j_iload_n C 2 2 dX11_hides_21 rfl rfl ?_
          refine y_iconst C dX11_hides_22 ?_
          refine y_icmp_lt C 32 dX11_hides_23 (by decide) (by exact ⟨⟨ha2.1, ha2.2⟩, ⟨(by decide), (by decide)⟩⟩) (fun h109 => ?_) (fun h109 => ?_)
          · refine y_bipush C dX11_hides_32 rfl ?_
            exact hret _ _ _ _ dX11_hides_34 ⟨(-3), rfl, hM0, FX.rf, by exact ⟨(by decide), ⟨(by decide), hp0⟩⟩⟩
          · refine j_iload_n C 2 2 dX11_hides_26 rfl rfl ?_
            refine y_bipush C dX11_hides_27 rfl ?_
            refine y_icmp_le C 35 dX11_hides_29 (by decide) (by exact ⟨⟨ha2.1, ha2.2⟩, ⟨(by decide), (by decide)⟩⟩) (fun h111 => ?_) (fun h111 => ?_)
            · refine j_aload_n C 0 0 dX11_hides_35 rfl rfl ?_
              refine y_getC C 10 12 fX11_hides_36 rfl rfl ft_10_6 sm_10_6 rfl hM0 dX11_hides_36 ?_
              refine j_callVi C (d := 1) (As := []) (st := []) 12 (s_lt rfl rfl) (s_kc (c := 8) rfl rfl) (by decide) rfl (s1_X9_isShut hM0 rfl) gX11_hides_X9_isShut rfl hdX9_isShut (by decide) (Nat.le_of_ble_eq_true rfl) dX11_hides_39 rfl (fun r112 M113 h114 => ?_)
              obtain ⟨a116, rfl, rfl, h115⟩ := h114
              refine y_if_eq C 48 dX11_hides_42 (by decide) (by (clear h111 h109 h107 h105 h104 h102 hret C hp3 hp2 hp1 hp0 egp cgp ha3 ha2 ha1 hpr hM0; omega)) (fun h117 => ?_) (fun h117 => ?_)
              · refine y_iconst C dX11_hides_48 ?_
                refine j_istore C 4 [(4, .int (sI 0)), (0, .ref (ad 0)), (1, .int (sI a1)), (2, .int (sI a2)), (3, .int (sI a3))] dX11_hides_49 (by decide) rfl ?_
                refine y_ldc2 C (-1) dX11_hides_51 kX11_hides_219 rfl ?_
                refine j_lstore C 5 [(5, .long (sJ (-1))), (4, .int (sI 0)), (0, .ref (ad 0)), (1, .int (sI a1)), (2, .int (sI a2)), (3, .int (sI a3))] dX11_hides_54 (by decide) rfl ?_
                refine y_iconst C dX11_hides_56 ?_
                refine j_istore C 7 [(7, .int (sI 0)), (5, .long (sJ (-1))), (4, .int (sI 0)), (0, .ref (ad 0)), (1, .int (sI a1)), (2, .int (sI a2)), (3, .int (sI a3))] dX11_hides_57 (by decide) rfl ?_
                have L6061 : ∀ (n6059 : Nat), ∀ (a6062 : Int) (a6063 : Int) (a6064 : Int) (M6065 : mm_M), (0 ≤ a6062 ∧ a6062 ≤ 255 ∧ (-9223372036854775808) ≤ a6063 ∧ a6063 ≤ 9223372036854775807 ∧ 0 ≤ a6064 ∧ a6064 ≤ 4 ∧ (b01 (APX M6065 gp) = 1) ∧ (4 - a6064) < (n6059 : Int)) → INV pr Kz M6065 → FX [81, 82, 83, 84, 85, 86, 88, 89, 90, 92, 93, 94] M0 M6065 → jj p l e (cn_R 6) s m args below meth c 0 0 Q 11 dC dI ad cA A M6065 59 [(0, .ref (ad 0)), (1, .int (sI a1)), (2, .int (sI a2)), (3, .int (sI a3)), (4, .int (sI a6062)), (5, .long (sJ a6063)), (7, .int (sI a6064))] [] := by
                  intro n6059
                  induction n6059 with
                  | zero =>
                    intro a6062 a6063 a6064 M6065 h6066 hM6065 fM6065
                    exfalso; omega
                  | succ n6059 ih6060 =>
                    intro a6062 a6063 a6064 M6065 h6066 hM6065 fM6065
                    refine j_iload C 6 dX11_hides_59 rfl ?_
                    refine j_iload_n C 1 1 dX11_hides_61 rfl rfl ?_
                    refine y_icmp_gt C 171 dX11_hides_62 (by decide) (by exact ⟨⟨(by (clear fM6065 hM6065 ih6060 h117 h115 h111 h109 h104 h102 hret C hp3 hp2 hp1 hp0 egp cgp ha3 ha2 hpr hM0; omega)), (by (clear fM6065 hM6065 ih6060 h117 h115 h111 h109 h104 h102 hret C hp3 hp2 hp1 hp0 egp cgp ha3 ha2 hpr hM0; omega))⟩, ⟨ha1.1, ha1.2⟩⟩) (fun h6068 => ?_) (fun h6068 => ?_)
                    · refine j_iload_n C 3 3 dX11_hides_171 rfl rfl ?_
                      refine y_if_ne C 183 dX11_hides_172 (by decide) (by exact ⟨ha3.1, ha3.2⟩) (fun h7251 => ?_) (fun h7251 => ?_)
                      · refine j_iload C 4 dX11_hides_183 rfl ?_
                        exact hret _ _ _ _ dX11_hides_185 ⟨a6062, rfl, hM6065, (FX.rf.tr fM6065 (by decide)), by exact ⟨(by (clear h7251 h6068 fM6065 hM6065 ih6060 h117 h115 h111 h109 h107 h105 h104 h102 hret C hp3 hp2 hp1 hp0 egp cgp ha3 ha2 ha1 hpr hM0; omega)), ⟨h6066.2.1, h6066.2.2.2.2.2.2.1⟩⟩⟩
                      · refine j_iload C 4 dX11_hides_175 rfl ?_
                        refine j_callSi C (d := 0) (As := [.int (sI a6062)]) (st := []) (s1_J6_bitCount_0f7a4 hM6065 a6062 (by omega)) gX11_hides_J6_bitCount_0f7a4 rfl hdJ6_bitCount_0f7a4s (by decide) (Nat.le_of_ble_eq_true rfl) dX11_hides_177 rfl (fun r7253 M7254 h7255 => ?_)
                        obtain ⟨a7257, rfl, rfl, h7256⟩ := h7255
                        refine j_goto C 185 dX11_hides_180 (by decide) ?_
                        exact hret _ _ _ _ dX11_hides_185 ⟨a7257, rfl, hM6065, (FX.rf.tr fM6065 (by decide)), by exact ⟨(by (clear h7251 h6068 fM6065 hM6065 ih6060 h117 h115 h111 h109 h107 h105 h104 h102 hret C hp3 hp2 hp1 hp0 egp cgp ha3 ha2 ha1 hpr hM0; omega)), ⟨(by (clear h7251 h6068 fM6065 hM6065 ih6060 h117 h115 h111 h109 h107 h105 h104 h102 hret C hp3 hp2 hp1 hp0 egp cgp ha3 ha2 ha1 hpr hM0; omega)), h6066.2.2.2.2.2.2.1⟩⟩⟩
                    · refine y_iconst C dX11_hides_65 ?_
                      refine j_istore C 8 [(8, .int (sI 0)), (0, .ref (ad 0)), (1, .int (sI a1)), (2, .int (sI a2)), (3, .int (sI a3)), (4, .int (sI a6062)), (5, .long (sJ a6063)), (7, .int (sI a6064))] dX11_hides_66 (by decide) rfl ?_
                      have L7206 : ∀ (n7204 : Nat), ∀ (a7207 : Int) (a7208 : Int) (a7209 : Int) (M7210 : mm_M), (0 ≤ a7207 ∧ a7207 ≤ 255 ∧ (-9223372036854775808) ≤ a7208 ∧ a7208 ≤ 9223372036854775807 ∧ 0 ≤ a7209 ∧ a7209 ≤ 256 ∧ (b01 (APX M7210 gp) = 1) ∧ (256 - a7209) < (n7204 : Int)) → INV pr Kz M7210 → FX [81, 82, 83, 84, 85, 86, 88, 89, 90, 92, 93, 94] M0 M7210 → jj p l e (cn_R 6) s m args below meth c 0 0 Q 11 dC dI ad cA A M7210 68 [(0, .ref (ad 0)), (1, .int (sI a1)), (2, .int (sI a2)), (3, .int (sI a3)), (4, .int (sI a7207)), (5, .long (sJ a7208)), (7, .int (sI a6064)), (8, .int (sI a7209))] [] := by
                        intro n7204
                        induction n7204 with
                        | zero =>
                          intro a7207 a7208 a7209 M7210 h7211 hM7210 fM7210
                          exfalso; (clear fM7210 hM7210 h6068 fM6065 hM6065 h6066 ih6060 h117 h115 h111 h109 h107 h105 h104 h102 hret C hp3 hp2 hp1 hp0 egp cgp ha3 ha2 ha1 hpr hM0; omega)
                        | succ n7204 ih7205 =>
                          intro a7207 a7208 a7209 M7210 h7211 hM7210 fM7210
                          refine j_iload C 7 dX11_hides_68 rfl ?_
                          refine j_aload_n C 0 0 dX11_hides_70 rfl rfl ?_
                          refine y_getC C 10 12 fX11_hides_36 rfl rfl ft_10_6 sm_10_6 rfl hM7210 dX11_hides_71 ?_
                          refine j_callVi C (d := 0) (As := []) (st := [.int (sI a7209)]) 12 (s_lt rfl rfl) (s_kc (c := 8) rfl rfl) (by decide) rfl (s1_X9_everyKind hM7210 rfl) gX11_hides_X9_everyKind rfl hdX9_everyKind (by decide) (Nat.le_of_ble_eq_true rfl) dX11_hides_74 rfl (fun r7213 M7214 h7215 => ?_)
                          obtain ⟨a7217, rfl, rfl, h7216⟩ := h7215
                          refine y_icmp_gt C 165 dX11_hides_77 (by decide) (by (clear fM7210 hM7210 ih7205 h6068 fM6065 hM6065 h6066 ih6060 h117 h115 h111 h109 h107 h105 h104 h102 hret C hp3 hp2 hp1 hp0 egp cgp ha3 ha2 ha1 hpr hM0; omega)) (fun h7218 => ?_) (fun h7218 => ?_)
                          · refine y_iinc C 6 [(7, .int (sI (a6064 + 1))), (0, .ref (ad 0)), (1, .int (sI a1)), (2, .int (sI a2)), (3, .int (sI a3)), (4, .int (sI a7207)), (5, .long (sJ a7208)), (8, .int (sI a7209))] dX11_hides_165 rfl (by decide) rfl ?_
                            refine j_goto C 59 dX11_hides_168 (by decide) ?_
                            refine j_lv [1, 2, 3, 4, 5, 6, 0] rfl ?_; exact ih6060 a7207 a7208 (a6064 + 1) M7210 (by exact ⟨h7211.1, ⟨h7211.2.1, ⟨h7211.2.2.1, ⟨h7211.2.2.2.1, ⟨(by (clear h7218 h7216 fM7210 hM7210 ih7205 fM6065 hM6065 ih6060 h117 h115 h111 h109 h104 h102 hret C hp3 hp2 hp1 hp0 egp cgp ha3 ha2 hpr hM0; omega)), ⟨(by (clear h7218 h7216 fM7210 hM7210 ih7205 fM6065 hM6065 ih6060 h117 h115 h111 h109 h104 h102 hret C hp3 hp2 hp1 hp0 egp cgp ha3 ha2 hpr hM0; omega)), ⟨h7211.2.2.2.2.2.2.1, (by (clear h7218 h7216 fM7210 hM7210 ih7205 fM6065 hM6065 ih6060 h117 h115 h111 h109 h104 h102 hret C hp3 hp2 hp1 hp0 egp cgp ha3 ha2 hpr hM0; omega))⟩⟩⟩⟩⟩⟩⟩) hM7210 (FX.rf.tr fM7210 (by decide))
                          · refine j_aload_n C 0 0 dX11_hides_80 rfl rfl ?_
                            refine j_iload C 7 dX11_hides_81 rfl ?_
                            refine j_iload C 6 dX11_hides_83 rfl ?_
                            refine j_callVi C (d := 1) (As := [.int (sI a7209), .int (sI a6064)]) (st := []) 0 (s_lt rfl rfl) (s_kc (c := 10) rfl rfl) (by decide) rfl (s1_X11_isHideable hM7210 a7209 (by (clear h7218 h7216 fM7210 hM7210 ih7205 h6068 fM6065 hM6065 h6066 ih6060 h117 h115 h111 h109 h107 h105 h104 h102 hret C hp3 hp2 hp1 hp0 egp cgp ha3 ha2 ha1 hpr hM0; omega)) a6064 (by (clear h7218 h7216 fM7210 hM7210 h7211 ih7205 h6068 fM6065 hM6065 ih6060 h117 h115 h111 h109 h107 h105 h104 h102 hret C hp3 hp2 hp1 hp0 egp cgp ha3 ha2 ha1 hpr hM0; omega))) gX11_hides_X11_isHideable rfl hdX11_isHideable (by decide) (Nat.le_of_ble_eq_true rfl) dX11_hides_85 rfl (fun r7219 M7220 h7221 => ?_)
                            obtain ⟨a7223, rfl, rfl, h7222⟩ := h7221
                            refine y_if_eq C 159 dX11_hides_88 (by decide) (by (clear h7218 h7216 fM7210 hM7210 h7211 ih7205 h6068 fM6065 hM6065 h6066 ih6060 h117 h115 h111 h109 h107 h105 h104 h102 hret C hp3 hp2 hp1 hp0 egp cgp ha3 ha2 ha1 hpr hM0; omega)) (fun h7224 => ?_) (fun h7224 => ?_)
                            · refine y_iinc C 7 [(8, .int (sI (a7209 + 1))), (0, .ref (ad 0)), (1, .int (sI a1)), (2, .int (sI a2)), (3, .int (sI a3)), (4, .int (sI a7207)), (5, .long (sJ a7208)), (7, .int (sI a6064))] dX11_hides_159 rfl (by decide) rfl ?_
                              refine j_goto C 68 dX11_hides_162 (by decide) ?_
                              refine j_lv [1, 2, 3, 4, 5, 6, 7, 0] rfl ?_; exact ih7205 a7207 a7208 (a7209 + 1) M7210 (by exact ⟨h7211.1, ⟨h7211.2.1, ⟨h7211.2.2.1, ⟨h7211.2.2.2.1, ⟨(by (clear h7224 h7222 fM7210 hM7210 ih7205 h6068 fM6065 hM6065 h6066 ih6060 h117 h115 h111 h109 h107 h105 h104 h102 hret C hp3 hp2 hp1 hp0 egp cgp ha3 ha2 ha1 hpr hM0; omega)), ⟨(by (clear h7224 h7222 fM7210 hM7210 ih7205 h6068 fM6065 hM6065 h6066 ih6060 h117 h115 h111 h109 h107 h105 h104 h102 hret C hp3 hp2 hp1 hp0 egp cgp ha3 ha2 ha1 hpr hM0; omega)), ⟨h7211.2.2.2.2.2.2.1, (by (clear h7224 h7222 fM7210 hM7210 ih7205 h6068 fM6065 hM6065 h6066 ih6060 h117 h115 h111 h109 h107 h105 h104 h102 hret C hp3 hp2 hp1 hp0 egp cgp ha3 ha2 ha1 hpr hM0; omega))⟩⟩⟩⟩⟩⟩⟩) hM7210 (FX.rf.tr fM7210 (by decide))
                            · refine j_aload_n C 0 0 dX11_hides_91 rfl rfl ?_
                              refine y_getC C 10 88 fX11_hides_94 rfl rfl ft_10_14 sm_10_14 rfl hM7210 dX11_hides_92 ?_
                              refine j_aload_n C 0 0 dX11_hides_95 rfl rfl ?_
                              refine y_getV C 10 gp fX11_hides_26 rfl rfl ft_10_4 (s_pX fM7210 (egp)) dX11_hides_96 ?_
                              refine j_aload_n C 0 0 dX11_hides_99 rfl rfl ?_
                              refine y_getC C 10 12 fX11_hides_36 rfl rfl ft_10_6 sm_10_6 rfl hM7210 dX11_hides_100 ?_
                              refine j_aload_n C 0 0 dX11_hides_103 rfl rfl ?_
                              refine y_getC C 10 12 fX11_hides_36 rfl rfl ft_10_6 sm_10_6 rfl hM7210 dX11_hides_104 ?_
                              refine y_getI C 8 _ _ fX11_hides_153 rfl rfl ft_8_4 sb_8_4 hM7210 dX11_hides_107 (fun a7226 ea7226 la7226 ua7226 => ?_)
                              have qa7226 : a7226 = (M0.1 12 4).toInt := s_fX fM7210 (by decide) (ea7226)
                              refine j_iload C 7 dX11_hides_110 rfl ?_
                              refine y_iorN C 8 255 dX11_hides_112 rfl (by decide) (by exact ⟨la7226, ⟨ua7226, ⟨h7211.2.2.2.2.1, (by (clear h7224 h7222 fM7210 hM7210 ih7205 h6068 fM6065 hM6065 h6066 ih6060 h117 h115 h111 h109 h107 h105 h104 h102 hret C hp3 hp2 hp1 hp0 egp cgp ha3 ha2 ha1 hpr hM0; omega))⟩⟩⟩) (fun a7228 la7228 ua7228 => ?_)
                              have u7229L7 := hM0.rd (i := gp) (c := 6) (k := 7) cgp (show s_b 6 7 = (0, 900) from rfl)
                              have u7229L9 := hM0.rd (i := gp) (c := 6) (k := 9) cgp (show s_b 6 9 = (0, 900) from rfl)
                              have u7229L := law_p (M := M0) (N := M7210) (p := gp) (ple_f (p := gp) ((FX.rf.tr fM7210 (by decide)) : FX [81, 82, 83, 84, 85, 86, 88, 89, 90, 92, 93, 94] M0 M7210) cgp (by decide)) u7229L7.1 u7229L9.1 (by exact hp1)
                              have u7229e : rwX M7210 gp 12 = rwX M0 gp 12 := (rx_f (p := gp) (v := 12) (ple_f (p := gp) ((FX.rf.tr fM7210 (by decide)) : FX [81, 82, 83, 84, 85, 86, 88, 89, 90, 92, 93, 94] M0 M7210) cgp (by decide)) (ske_n ((FX.rf.tr fM7210 (by decide)) : FX [81, 82, 83, 84, 85, 86, 88, 89, 90, 92, 93, 94] M0 M7210) ⟨by decide, by decide, by decide⟩))
                              have u7229R : b01 (PRR (rwX M7210 gp 12)) = 1 := by rw [u7229e]; exact hp2
                              have u7229S : (M7210.1 12 3).toInt < pw2 (M7210.1 12 0).toInt := by rw [((FX.rf.tr fM7210 (by decide)) : FX [81, 82, 83, 84, 85, 86, 88, 89, 90, 92, 93, 94] M0 M7210).cell (i := 12) (by decide)]; exact hp3
                              refine j_callVv C (d := 5) (As := [.ref (ad gp), .ref (ad 12), .int (sI a7228)]) (st := []) 88 (s_lt rfl rfl) (s_kc (c := 4) rfl rfl) (by decide) rfl (s2_X5_look hM7210 hpr cgp a7228 (by (clear u7229S u7229R u7229e u7229L u7229L9 u7229L7 qa7226 ua7226 la7226 ea7226 h7224 h7222 h7218 h7216 fM7210 hM7210 h7211 ih7205 h6068 fM6065 hM6065 h6066 ih6060 h117 h115 h111 h109 h107 h105 h104 h102 hret C hp3 hp2 hp1 hp0 egp cgp ha3 ha2 ha1 hpr hM0; omega)) (by exact h7211.2.2.2.2.2.2.1) (by exact u7229L) (by exact u7229R) (by exact u7229S) (by exact ⟨la7228, ua7228⟩)) gX11_hides_X5_look rfl hdX5_look (by decide) (Nat.le_of_ble_eq_true rfl) dX11_hides_113 rfl (fun M7231 h7232 => ?_)
                              obtain ⟨hM7231, fM7231, h7233⟩ := h7232
                              have u7234a := tn_a (M := M7231) (p := gp) (f := rwX M7210 gp 12) (by exact h7233.2.1)
                              refine j_aload_n C 0 0 dX11_hides_116 rfl rfl ?_
                              refine y_getC C 10 88 fX11_hides_94 rfl rfl ft_10_14 sm_10_14 rfl hM7231 dX11_hides_117 ?_
                              refine j_iload_n C 2 2 dX11_hides_120 rfl rfl ?_
                              refine j_callVv C (d := 3) (As := [.int (sI a2)]) (st := []) 88 (s_lt rfl rfl) (s_kc (c := 4) rfl rfl) (by decide) rfl (s2_X5_passDays hM7231 hpr a2 (by exact ⟨ha2.1, ha2.2⟩)) gX11_hides_X5_passDays rfl hdX5_passDays (by decide) (Nat.le_of_ble_eq_true rfl) dX11_hides_121 rfl (fun M7236 h7237 => ?_)
                              obtain ⟨hM7236, fM7236⟩ := h7237
                              refine j_aload_n C 0 0 dX11_hides_124 rfl rfl ?_
                              refine y_getC C 10 88 fX11_hides_94 rfl rfl ft_10_14 sm_10_14 rfl hM7236 dX11_hides_125 ?_
                              refine j_callVj C (d := 1) (As := []) (st := []) 88 (s_lt rfl rfl) (s_kc (c := 4) rfl rfl) (by decide) rfl (s1_X5_openWays hM7236) gX11_hides_X5_openWays rfl hdX5_openWays (by decide) (Nat.le_of_ble_eq_true rfl) dX11_hides_128 rfl (fun r7239 M7240 h7241 => ?_)
                              obtain ⟨a7243, rfl, rfl, h7242⟩ := h7241
                              refine j_lstore C 9 [(9, .long (sJ a7243)), (0, .ref (ad 0)), (1, .int (sI a1)), (2, .int (sI a2)), (3, .int (sI a3)), (4, .int (sI a7207)), (5, .long (sJ a7208)), (7, .int (sI a6064)), (8, .int (sI a7209))] dX11_hides_131 (by decide) rfl ?_
                              refine j_lload C 0 dX11_hides_133 rfl ?_
                              refine j_lload C 6 dX11_hides_135 rfl ?_
                              have J7246 : ∀ (a7245 : Int), (0 ≤ a7245 ∧ a7245 ≤ 255) → jj p l e (cn_R 6) s m args below meth c 0 0 Q 11 dC dI ad cA A M7236 148 [(0, .ref (ad 0)), (1, .int (sI a1)), (2, .int (sI a2)), (3, .int (sI a3)), (5, .long (sJ a7208)), (7, .int (sI a6064)), (8, .int (sI a7209)), (9, .long (sJ a7243))] [.int (sI a7245)] := by
                                intro a7245 h7247
                                refine j_istore C 4 [(4, .int (sI a7245)), (0, .ref (ad 0)), (1, .int (sI a1)), (2, .int (sI a2)), (3, .int (sI a3)), (5, .long (sJ a7208)), (7, .int (sI a6064)), (8, .int (sI a7209)), (9, .long (sJ a7243))] dX11_hides_148 (by decide) rfl ?_
                                refine j_lload C 5 dX11_hides_150 rfl ?_
                                refine j_lload C 8 dX11_hides_152 rfl ?_
                                refine y_mmaxl C wX11_hides_330_0 wX11_hides_330_1 wX11_hides_330_2 wX11_hides_330_3 (by decide) (Nat.le_of_ble_eq_true rfl) dX11_hides_154 (fun a7248 la7248 ua7248 => ?_)
                                refine j_lstore C 5 [(5, .long (sJ a7248)), (4, .int (sI a7245)), (0, .ref (ad 0)), (1, .int (sI a1)), (2, .int (sI a2)), (3, .int (sI a3)), (7, .int (sI a6064)), (8, .int (sI a7209)), (9, .long (sJ a7243))] dX11_hides_157 (by decide) rfl ?_
                                refine y_iinc C 7 [(8, .int (sI (a7209 + 1))), (5, .long (sJ a7248)), (4, .int (sI a7245)), (0, .ref (ad 0)), (1, .int (sI a1)), (2, .int (sI a2)), (3, .int (sI a3)), (7, .int (sI a6064)), (9, .long (sJ a7243))] dX11_hides_159 rfl (by decide) rfl ?_
                                refine j_goto C 68 dX11_hides_162 (by decide) ?_
                                have u7249A7 := hM7231.rd (i := gp) (c := 6) (k := 7) cgp (show s_b 6 7 = (0, 900) from rfl)
                                have u7249A9 := hM7231.rd (i := gp) (c := 6) (k := 9) cgp (show s_b 6 9 = (0, 900) from rfl)
                                have u7249A := apx_o (M := M7231) (N := M7236) (p := gp) (ple_f (p := gp) ((FX.rf.tr fM7236 (by decide)) : FX [88, 92, 93, 94] M7231 M7236) cgp (by decide)) (((FX.rf.tr fM7236 (by decide)) : FX [88, 92, 93, 94] M7231 M7236).cell (by decide)) (((FX.rf.tr fM7236 (by decide)) : FX [88, 92, 93, 94] M7231 M7236).cell (by decide)) (((FX.rf.tr fM7236 (by decide)) : FX [88, 92, 93, 94] M7231 M7236).cell (by decide)) u7249A7.1 u7249A9.1 (by exact u7234a)
                                refine j_lv [3, 4, 5, 6, 2, 1, 7, 0] rfl ?_; exact ih7205 a7245 a7248 (a7209 + 1) M7236 (by exact ⟨h7247.1, ⟨h7247.2, ⟨la7248, ⟨ua7248, ⟨(by (clear u7249A9 u7249A7 h7242 fM7236 hM7236 u7234a h7233 fM7231 hM7231 u7229S u7229R u7229e u7229L u7229L9 u7229L7 ua7228 la7228 qa7226 ua7226 la7226 ea7226 h7224 h7222 fM7210 hM7210 ih7205 h6068 fM6065 hM6065 h6066 ih6060 h117 h115 h111 h109 h107 h105 h104 h102 hret C hp3 hp2 hp1 hp0 egp cgp ha3 ha2 ha1 hpr hM0; omega)), ⟨(by (clear u7249A9 u7249A7 h7242 fM7236 hM7236 u7234a h7233 fM7231 hM7231 u7229S u7229R u7229e u7229L u7229L9 u7229L7 ua7228 la7228 qa7226 ua7226 la7226 ea7226 h7224 h7222 fM7210 hM7210 ih7205 h6068 fM6065 hM6065 h6066 ih6060 h117 h115 h111 h109 h107 h105 h104 h102 hret C hp3 hp2 hp1 hp0 egp cgp ha3 ha2 ha1 hpr hM0; omega)), ⟨u7249A, (by (clear u7249A9 u7249A7 h7242 fM7236 hM7236 u7234a h7233 fM7231 hM7231 u7229S u7229R u7229e u7229L u7229L9 u7229L7 ua7228 la7228 qa7226 ua7226 la7226 ea7226 h7224 h7222 fM7210 hM7210 ih7205 h6068 fM6065 hM6065 h6066 ih6060 h117 h115 h111 h109 h107 h105 h104 h102 hret C hp3 hp2 hp1 hp0 egp cgp ha3 ha2 ha1 hpr hM0; omega))⟩⟩⟩⟩⟩⟩⟩) hM7236 (((FX.rf.tr fM7210 (by decide)).tr fM7231 (by decide)).tr fM7236 (by decide))
                              refine y_lcmp_le C 146 dX11_hides_137 dX11_hides_138 (by decide) (by exact ⟨⟨h7242.1, h7242.2⟩, ⟨h7211.2.2.1, h7211.2.2.2.1⟩⟩) (fun h7244 => ?_) (fun h7244 => ?_)
                              · refine j_iload C 5 dX11_hides_146 rfl ?_
                                refine j_lv [1, 2, 3, 4, 6, 7, 8, 0] rfl ?_; exact J7246 a7207 (by exact ⟨h7211.1, h7211.2.1⟩)
                              · refine j_iload C 8 dX11_hides_141 rfl ?_
                                refine j_goto C 148 dX11_hides_143 (by decide) ?_
                                refine j_lv [1, 2, 3, 4, 6, 7, 8, 0] rfl ?_; exact J7246 a7209 (by exact ⟨h7211.2.2.2.2.1, (by (clear h7244 J7246 h7242 fM7236 hM7236 u7234a h7233 fM7231 hM7231 u7229S u7229R u7229e u7229L u7229L9 u7229L7 ua7228 la7228 qa7226 ua7226 la7226 ea7226 h7224 h7222 fM7210 hM7210 ih7205 h6068 fM6065 hM6065 h6066 ih6060 h117 h115 h111 h109 h107 h105 h104 h102 hret C hp3 hp2 hp1 hp0 egp cgp ha3 ha2 ha1 hpr hM0; omega))⟩)
                      refine j_lv [1, 2, 3, 4, 5, 6, 7, 0] rfl ?_; exact L7206 2010 a6062 a6063 0 M6065 (by exact ⟨h6066.1, ⟨h6066.2.1, ⟨h6066.2.2.1, ⟨h6066.2.2.2.1, ⟨(by decide), ⟨(by decide), ⟨h6066.2.2.2.2.2.2.1, (by decide)⟩⟩⟩⟩⟩⟩⟩) hM6065 (FX.rf.tr fM6065 (by decide))
                refine j_lv [3, 4, 5, 6, 2, 1, 0] rfl ?_; exact L6061 2010 0 (-1) 0 M0 (by exact ⟨(by decide), ⟨(by decide), ⟨(by decide), ⟨(by decide), ⟨(by decide), ⟨(by decide), ⟨hp0, (by decide)⟩⟩⟩⟩⟩⟩⟩) hM0 FX.rf
              · refine y_bipush C dX11_hides_45 rfl ?_
                exact hret _ _ _ _ dX11_hides_47 ⟨(-5), rfl, hM0, FX.rf, by exact ⟨(by decide), ⟨(by decide), hp0⟩⟩⟩
            · refine y_bipush C dX11_hides_32 rfl ?_
              exact hret _ _ _ _ dX11_hides_34 ⟨(-3), rfl, hM0, FX.rf, by exact ⟨(by decide), ⟨(by decide), hp0⟩⟩⟩
    · refine y_bipush C dX11_hides_9 rfl ?_
      exact hret _ _ _ _ dX11_hides_11 ⟨(-2), rfl, hM0, FX.rf, by exact ⟨(by decide), ⟨(by decide), hp0⟩⟩⟩
set_option maxHeartbeats 4000000 in
theorem s3_X5_measure {l : Launch} {dC : Nat → ClassId} {dI : Nat → Nat → Nat} {ad : Nat → Nat} {cA : Nat → ClassId} {pr : Nat → Nat → Bool} {Kz : mm_M} {M0 : mm_M} (hM0 : INV pr Kz M0) (hpr : PX pr) (a1 : Int) (ha1 : -2147483648 ≤ a1 ∧ a1 ≤ 2147483647) : Ci l 2 yX5_measure wsX5_measure dC dI ad cA [.ref (ad 88), .int (sI a1)] M0 (fun r M' => ∃ a : Int, r = sI a ∧ INV pr Kz M' ∧ FX [91] M0 M' ∧ (-2147483648) ≤ a ∧ a ≤ 2147483647) := by
  refine ci_of (cc := cX5_measure) (maxL := 3) (ty := .int) (lv := [(0, .ref (ad 88)), (1, .int (sI a1))]) (by decide) rfl (fun r M' hp => rfl) (Nat.le_of_ble_eq_true rfl) rfl ?_
  intro p e s m args below meth c A Q C hret
  refine j_aload_n C 0 0 dX5_measure_0 rfl rfl ?_
  refine y_getI C 4 _ _ fX5_measure_38 rfl rfl ft_4_11 sb_4_11 hM0 dX5_measure_1 (fun a101 ea101 la101 ua101 => ?_)
  refine j_istore_n C 2 [(2, .int (sI a101)), (0, .ref (ad 88)), (1, .int (sI a1))] dX5_measure_4 rfl (by decide) rfl ?_
  have L145 : ∀ (n143 : Nat), ∀ (a146 : Int) (M147 : mm_M), ((-1) ≤ a146 ∧ a146 ≤ 255 ∧ (a146 - (-1)) < (n143 : Int)) → INV pr Kz M147 → FX [91] M0 M147 → jj p l e (cn_R 2) s m args below meth c 0 0 Q 3 dC dI ad cA A M147 5 [(0, .ref (ad 88)), (1, .int (sI a1)), (2, .int (sI a146))] [] := by
    intro n143
    induction n143 with
    | zero =>
      intro a146 M147 h148 hM147 fM147
      exfalso; omega
    | succ n143 ih144 =>
      intro a146 M147 h148 hM147 fM147
      refine j_iload_n C 2 2 dX5_measure_5 rfl rfl ?_
      refine j_aload_n C 0 0 dX5_measure_6 rfl rfl ?_
      refine y_getI C 4 _ _ fX5_measure_45 rfl rfl ft_4_13 sb_4_13 hM147 dX5_measure_7 (fun a149 ea149 la149 ua149 => ?_)
      refine y_icmp_lt C 53 dX5_measure_10 (by decide) (by (clear fM147 hM147 ih144 ua101 la101 ea101 hret C ha1 hpr hM0; omega)) (fun h151 => ?_) (fun h151 => ?_)
      · refine j_aload_n C 0 0 dX5_measure_53 rfl rfl ?_
        refine y_getC C 4 91 fX5_measure_18 rfl rfl ft_4_3 sm_4_3 rfl hM147 dX5_measure_54 ?_
        refine j_aload_n C 0 0 dX5_measure_57 rfl rfl ?_
        refine y_getI C 4 _ _ fX5_measure_45 rfl rfl ft_4_13 sb_4_13 hM147 dX5_measure_58 (fun a167 ea167 la167 ua167 => ?_)
        refine y_iald C 40 256 _ _ rfl rfl rfl ak_40 an_40 rfl (sb_40 _) hM147 dX5_measure_61 (by exact ⟨la167, (by (clear ua167 la167 h151 fM147 hM147 h148 ih144 ua101 la101 ea101 hret C ha1 hpr hM0; omega))⟩) (fun a169 ea169 la169 ua169 => ?_)
        exact hret _ _ _ _ dX5_measure_62 ⟨a169, rfl, hM147, (FX.rf.tr fM147 (by decide)), by exact ⟨la169, ua169⟩⟩
      · refine j_aload_n C 0 0 dX5_measure_13 rfl rfl ?_
        refine y_getC C 4 90 fX5_measure_15 rfl rfl ft_4_2 sm_4_2 rfl hM147 dX5_measure_14 ?_
        refine j_iload_n C 2 2 dX5_measure_17 rfl rfl ?_
        refine y_iald C 39 256 _ _ rfl rfl rfl ak_39 an_39 rfl (sb_39 _) hM147 dX5_measure_18 (by (clear fM147 hM147 ih144 ua101 la101 ea101 hret C ha1 hpr hM0; omega)) (fun a152 ea152 la152 ua152 => ?_)
        refine y_iconst C dX5_measure_19 ?_
        refine y_icmp_ne C 47 dX5_measure_20 (by decide) (by exact ⟨⟨la152, ua152⟩, ⟨(by decide), (by decide)⟩⟩) (fun h153 => ?_) (fun h153 => ?_)
        · refine y_iinc C 2 [(2, .int (sI (a146 + (-1)))), (0, .ref (ad 88)), (1, .int (sI a1))] dX5_measure_47 rfl (by decide) rfl ?_
          refine j_goto C 5 dX5_measure_50 (by decide) ?_
          refine j_lv [1, 2, 0] rfl ?_; exact ih144 (a146 + (-1)) M147 (by (clear h153 ua152 la152 ea152 fM147 hM147 ih144 ua101 la101 ea101 hret C ha1 hpr hM0; omega)) hM147 (FX.rf.tr fM147 (by decide))
        · refine j_aload_n C 0 0 dX5_measure_23 rfl rfl ?_
          refine y_getC C 4 91 fX5_measure_18 rfl rfl ft_4_3 sm_4_3 rfl hM147 dX5_measure_24 ?_
          refine j_iload_n C 2 2 dX5_measure_27 rfl rfl ?_
          refine j_aload_n C 0 0 dX5_measure_28 rfl rfl ?_
          refine j_iload_n C 2 2 dX5_measure_29 rfl rfl ?_
          refine j_callVi C (d := 0) (As := [.int (sI a146)]) (st := [.int (sI a146), .ref (ad 91)]) 88 (s_lt rfl rfl) (s_kc (c := 4) rfl rfl) (by decide) rfl (s1_X5_isShutAt hM147 a146 (by omega)) gX5_measure_X5_isShutAt rfl hdX5_isShutAt (by decide) (Nat.le_of_ble_eq_true rfl) dX5_measure_30 rfl (fun r154 M155 h156 => ?_)
          obtain ⟨a158, rfl, rfl, h157⟩ := h156
          refine y_if_eq C 40 dX5_measure_33 (by decide) (by omega) (fun h159 => ?_) (fun h159 => ?_)
          · refine j_aload_n C 0 0 dX5_measure_40 rfl rfl ?_
            refine j_iload_n C 2 2 dX5_measure_41 rfl rfl ?_
            refine j_iload_n C 1 1 dX5_measure_42 rfl rfl ?_
            refine j_callVi C (d := 1) (As := [.int (sI a146), .int (sI a1)]) (st := [.int (sI a146), .ref (ad 91)]) 88 (s_lt rfl rfl) (s_kc (c := 4) rfl rfl) (by decide) rfl (s1_X5_stepsFrom hM147 a146 (by omega) a1 (by exact ⟨ha1.1, ha1.2⟩) (by exact ⟨(by (clear h159 h157 h153 ua152 la152 ea152 fM147 hM147 ih144 ua101 la101 ea101 hret C ha1 hpr hM0; omega)), h148.2.1⟩)) gX5_measure_X5_stepsFrom rfl hdX5_stepsFrom (by decide) (Nat.le_of_ble_eq_true rfl) dX5_measure_43 rfl (fun r160 M161 h162 => ?_)
            obtain ⟨a164, rfl, rfl, h163⟩ := h162
            refine y_iastF C 40 256 rfl rfl rfl ak_40 an_40 rfl (sb_40 _) hM147 (PX.w hpr rfl rfl) dX5_measure_46 (by (clear h163 h159 h157 h153 ua152 la152 ea152 fM147 hM147 ih144 ua101 la101 ea101 hret C ha1 hpr hM0; omega)) (fun M165 eM165 hM165 => ?_)
            refine y_iinc C 2 [(2, .int (sI (a146 + (-1)))), (0, .ref (ad 88)), (1, .int (sI a1))] dX5_measure_47 rfl (by decide) rfl ?_
            refine j_goto C 5 dX5_measure_50 (by decide) ?_
            refine j_lv [1, 2, 0] rfl ?_; exact ih144 (a146 + (-1)) M165 (by (clear hM165 eM165 h163 h159 h157 h153 ua152 la152 ea152 fM147 hM147 ih144 ua101 la101 ea101 hret C ha1 hpr hM0; omega)) hM165 ((FX.rf.tr fM147 (by decide)).wI eM165 (by decide))
          · refine y_iconst C dX5_measure_36 ?_
            refine j_goto C 46 dX5_measure_37 (by decide) ?_
            refine y_iastF C 40 256 rfl rfl rfl ak_40 an_40 rfl (sb_40 _) hM147 (PX.w hpr rfl rfl) dX5_measure_46 (by (clear h159 h157 h153 ua152 la152 ea152 fM147 hM147 ih144 ua101 la101 ea101 hret C ha1 hpr hM0; omega)) (fun M166 eM166 hM166 => ?_)
            refine y_iinc C 2 [(2, .int (sI (a146 + (-1)))), (0, .ref (ad 88)), (1, .int (sI a1))] dX5_measure_47 rfl (by decide) rfl ?_
            refine j_goto C 5 dX5_measure_50 (by decide) ?_
            refine j_lv [1, 2, 0] rfl ?_; exact ih144 (a146 + (-1)) M166 (by (clear hM166 eM166 h159 h157 h153 ua152 la152 ea152 fM147 hM147 ih144 ua101 la101 ea101 hret C ha1 hpr hM0; omega)) hM166 ((FX.rf.tr fM147 (by decide)).wI eM166 (by decide))
  refine j_lv [1, 2, 0] rfl ?_; exact L145 2010 a101 M0 (by exact ⟨(by (clear L145 hret C ha1 hpr hM0; omega)), ⟨ua101, (by (clear L145 hret C ha1 hpr hM0; omega))⟩⟩) hM0 FX.rf
set_option maxHeartbeats 4000000 in
theorem s3_X5_shortest {l : Launch} {dC : Nat → ClassId} {dI : Nat → Nat → Nat} {ad : Nat → Nat} {cA : Nat → ClassId} {pr : Nat → Nat → Bool} {Kz : mm_M} {M0 : mm_M} (hM0 : INV pr Kz M0) (hpr : PX pr)  : Ci l 3 yX5_shortest wsX5_shortest dC dI ad cA [.ref (ad 88)] M0 (fun r M' => ∃ a : Int, r = sI a ∧ INV pr Kz M' ∧ FX [91] M0 M' ∧ (-2147483648) ≤ a ∧ a ≤ 2147483647) := by
  refine ci_of (cc := cX5_shortest) (maxL := 1) (ty := .int) (lv := [(0, .ref (ad 88))]) (by decide) rfl (fun r M' hp => rfl) (Nat.le_of_ble_eq_true rfl) rfl ?_
  intro p e s m args below meth c A Q C hret
  refine j_aload_n C 0 0 dX5_shortest_0 rfl rfl ?_
  refine y_iconst C dX5_shortest_1 ?_
  refine j_aload_n C 0 0 dX5_shortest_2 rfl rfl ?_
  refine y_getM C 4 6 fX5_shortest_52 rfl rfl ft_4_9 sm_4_9 (by decide) hM0 dX5_shortest_3 (fun v101 ev101 cv101 => ?_)
  refine y_getI C 6 _ _ fX5_shortest_92 cv101 rfl ft_6_0 sb_6_0 hM0 dX5_shortest_6 (fun a102 ea102 la102 ua102 => ?_)
  refine y_shl1 C 6 64 dX5_shortest_9 rfl (by decide) (by exact ⟨la102, (by omega)⟩) (fun a104 la104 ua104 => ?_)
  refine y_iconst C dX5_shortest_10 ?_
  refine y_isub C dX5_shortest_11 ?_
  refine j_callVi C (d := 2) (As := [.int (sI (a104 - 1))]) (st := []) 88 (s_lt rfl rfl) (s_kc (c := 4) rfl rfl) (by decide) rfl (s3_X5_measure hM0 hpr (a104 - 1) (by omega)) gX5_shortest_X5_measure rfl hdX5_measure (by decide) (Nat.le_of_ble_eq_true rfl) dX5_shortest_12 rfl (fun r105 M106 h107 => ?_)
  obtain ⟨a109, rfl, hM106, fM106, h108⟩ := h107
  exact hret _ _ _ _ dX5_shortest_15 ⟨a109, rfl, hM106, (FX.rf.tr fM106 (by decide)), by exact ⟨h108.1, h108.2⟩⟩
set_option maxHeartbeats 4000000 in
theorem s2_X11_rota {l : Launch} {dC : Nat → ClassId} {dI : Nat → Nat → Nat} {ad : Nat → Nat} {cA : Nat → ClassId} {pr : Nat → Nat → Bool} {Kz : mm_M} {M0 : mm_M} (hM0 : INV pr Kz M0) (hpr : PX pr) (a1 : Int) (ha1 : -2147483648 ≤ a1 ∧ a1 ≤ 2147483647) (gp : Nat) (cgp : s_c gp = 6) (egp : gp = M0.2.2 0 4) (hp0 : b01 (APX M0 gp) = 1) (hp1 : b01 (LAW M0 gp) = 1) (hp2 : b01 (PRR (rwX M0 gp 12)) = 1) (hp3 : (M0.1 12 3).toInt < pw2 (M0.1 12 0).toInt) : Ci l 6 yX11_rota wsX11_rota dC dI ad cA [.ref (ad 0), .int (sI a1)] M0 (fun r M' => ∃ a : Int, r = sI a ∧ INV pr Kz M' ∧ FX [81, 82, 83, 84, 85, 86, 88, 89, 90, 91] M0 M' ∧ (-5) ≤ a ∧ a ≤ 255 ∧ (b01 (APX M' gp) = 1)) := by
  refine ci_of (cc := cX11_rota) (maxL := 5) (ty := .int) (lv := [(0, .ref (ad 0)), (1, .int (sI a1))]) (by decide) rfl (fun r M' hp => rfl) (Nat.le_of_ble_eq_true rfl) rfl ?_
  intro p e s m args below meth c A Q C hret
  refine j_iload_n C 1 1 dX11_rota_0 rfl rfl ?_
  refine y_if_lt C 9 dX11_rota_1 (by decide) (by exact ⟨ha1.1, ha1.2⟩) (fun h102 => ?_) (fun h102 => ?_)
  · refine y_bipush C dX11_rota_9 rfl ?_
    exact hret _ _ _ _ dX11_rota_11 ⟨(-2), rfl, hM0, FX.rf, by exact ⟨(by decide), ⟨(by decide), hp0⟩⟩⟩
  · refine j_iload_n C 1 1 dX11_rota_4 rfl rfl ?_
    refine y_iconst C dX11_rota_5 ?_
    refine y_icmp_le C 12 dX11_rota_6 (by decide) (by exact ⟨⟨ha1.1, ha1.2⟩, ⟨(by decide), (by decide)⟩⟩) (fun h104 => ?_) (fun h104 => ?_)
    · refine j_aload_n C 0 0 dX11_rota_12 rfl rfl ?_
      refine y_getC C 10 12 fX11_rota_36 rfl rfl ft_10_6 sm_10_6 rfl hM0 dX11_rota_13 ?_
      refine j_callVi C (d := 1) (As := []) (st := []) 12 (s_lt rfl rfl) (s_kc (c := 8) rfl rfl) (by decide) rfl (s1_X9_isShut hM0 rfl) gX11_rota_X9_isShut rfl hdX9_isShut (by decide) (Nat.le_of_ble_eq_true rfl) dX11_rota_16 rfl (fun r105 M106 h107 => ?_)
      obtain ⟨a109, rfl, rfl, h108⟩ := h107
      refine y_if_eq C 25 dX11_rota_19 (by decide) (by omega) (fun h110 => ?_) (fun h110 => ?_)
      · refine j_aload_n C 0 0 dX11_rota_25 rfl rfl ?_
        refine y_getC C 10 88 fX11_rota_94 rfl rfl ft_10_14 sm_10_14 rfl hM0 dX11_rota_26 ?_
        refine j_aload_n C 0 0 dX11_rota_29 rfl rfl ?_
        refine y_getV C 10 gp fX11_rota_26 rfl rfl ft_10_4 (egp) dX11_rota_30 ?_
        refine j_aload_n C 0 0 dX11_rota_33 rfl rfl ?_
        refine y_getC C 10 12 fX11_rota_36 rfl rfl ft_10_6 sm_10_6 rfl hM0 dX11_rota_34 ?_
        refine j_aload_n C 0 0 dX11_rota_37 rfl rfl ?_
        refine y_getC C 10 12 fX11_rota_36 rfl rfl ft_10_6 sm_10_6 rfl hM0 dX11_rota_38 ?_
        refine y_getI C 8 _ _ fX11_rota_153 rfl rfl ft_8_4 sb_8_4 hM0 dX11_rota_41 (fun a111 ea111 la111 ua111 => ?_)
        refine j_callVv C (d := 5) (As := [.ref (ad gp), .ref (ad 12), .int (sI a111)]) (st := []) 88 (s_lt rfl rfl) (s_kc (c := 4) rfl rfl) (by decide) rfl (s2_X5_look hM0 hpr cgp a111 (by (clear h110 h108 h104 h102 hret C hp3 hp2 hp1 hp0 egp cgp ha1 hpr hM0; omega)) (by exact hp0) (by exact hp1) (by exact hp2) (by exact hp3) (by exact ⟨la111, ua111⟩)) gX11_rota_X5_look rfl hdX5_look (by decide) (Nat.le_of_ble_eq_true rfl) dX11_rota_44 rfl (fun M115 h116 => ?_)
        obtain ⟨hM115, fM115, h117⟩ := h116
        have u118a := tn_a (M := M115) (p := gp) (f := rwX M0 gp 12) (by exact h117.2.1)
        refine j_aload_n C 0 0 dX11_rota_47 rfl rfl ?_
        refine y_getC C 10 88 fX11_rota_94 rfl rfl ft_10_14 sm_10_14 rfl hM115 dX11_rota_48 ?_
        refine j_callVi C (d := 1) (As := []) (st := []) 88 (s_lt rfl rfl) (s_kc (c := 4) rfl rfl) (by decide) rfl (s1_X5_takersNow hM115) gX11_rota_X5_takersNow rfl hdX5_takersNow (by decide) (Nat.le_of_ble_eq_true rfl) dX11_rota_51 rfl (fun r119 M120 h121 => ?_)
        obtain ⟨a123, rfl, rfl, h122⟩ := h121
        refine j_istore_n C 2 [(2, .int (sI a123)), (0, .ref (ad 0)), (1, .int (sI a1))] dX11_rota_54 rfl (by decide) rfl ?_
        refine y_iconst C dX11_rota_55 ?_
        refine j_istore_n C 3 [(3, .int (sI 0)), (2, .int (sI a123)), (0, .ref (ad 0)), (1, .int (sI a1))] dX11_rota_56 rfl (by decide) rfl ?_
        have L12556 : ∀ (n12554 : Nat), ∀ (a12557 : Int) (M12558 : mm_M), (0 ≤ a12557 ∧ a12557 ≤ 9 ∧ (b01 (APX M12558 gp) = 1) ∧ (9 - a12557) < (n12554 : Int)) → INV pr Kz M12558 → FX [81, 82, 83, 84, 85, 86, 88, 89, 90, 91] M0 M12558 → jj p l e (cn_R 6) s m args below meth c 0 0 Q 5 dC dI ad cA A M12558 57 [(0, .ref (ad 0)), (1, .int (sI a1)), (2, .int (sI a123)), (3, .int (sI a12557))] [] := by
          intro n12554
          induction n12554 with
          | zero =>
            intro a12557 M12558 h12559 hM12558 fM12558
            exfalso; omega
          | succ n12554 ih12555 =>
            intro a12557 M12558 h12559 hM12558 fM12558
            refine j_iload_n C 3 3 dX11_rota_57 rfl rfl ?_
            refine j_aload_n C 0 0 dX11_rota_58 rfl rfl ?_
            refine y_getC C 10 12 fX11_rota_36 rfl rfl ft_10_6 sm_10_6 rfl hM12558 dX11_rota_59 ?_
            refine y_getI C 8 _ _ fX11_rota_160 rfl rfl ft_8_0 sb_8_0 hM12558 dX11_rota_62 (fun a12561 ea12561 la12561 ua12561 => ?_)
            have qa12561 : a12561 = (M0.1 12 0).toInt := s_fX fM12558 (by decide) (ea12561)
            refine y_icmp_gt C 166 dX11_rota_65 (by decide) (by (clear fM12558 hM12558 ih12555 h122 u118a h117 fM115 hM115 ua111 la111 ea111 h110 h108 h104 h102 hret C hp3 hp2 hp1 hp0 egp cgp ha1 hpr hM0; omega)) (fun h12563 => ?_) (fun h12563 => ?_)
            · refine y_iconst C dX11_rota_166 ?_
              exact hret _ _ _ _ dX11_rota_167 ⟨(-1), rfl, hM12558, (FX.rf.tr fM12558 (by decide)), by exact ⟨(by decide), ⟨(by decide), h12559.2.2.1⟩⟩⟩
            · refine y_iconst C dX11_rota_68 ?_
              refine j_istore C 4 [(4, .int (sI 0)), (0, .ref (ad 0)), (1, .int (sI a1)), (2, .int (sI a123)), (3, .int (sI a12557))] dX11_rota_69 (by decide) rfl ?_
              have L13755 : ∀ (n13753 : Nat), ∀ (a13756 : Int) (M13757 : mm_M), (0 ≤ a13756 ∧ a13756 ≤ 256 ∧ (b01 (APX M13757 gp) = 1) ∧ (256 - a13756) < (n13753 : Int)) → INV pr Kz M13757 → FX [81, 82, 83, 84, 85, 86, 88, 89, 90, 91] M0 M13757 → jj p l e (cn_R 6) s m args below meth c 0 0 Q 5 dC dI ad cA A M13757 71 [(0, .ref (ad 0)), (1, .int (sI a1)), (2, .int (sI a123)), (3, .int (sI a12557)), (4, .int (sI a13756))] [] := by
                intro n13753
                induction n13753 with
                | zero =>
                  intro a13756 M13757 h13758 hM13757 fM13757
                  exfalso; (clear fM13757 hM13757 h12563 qa12561 ua12561 la12561 ea12561 fM12558 hM12558 h12559 ih12555 h122 u118a h117 fM115 hM115 ua111 la111 ea111 h110 h108 h104 h102 hret C hp3 hp2 hp1 hp0 egp cgp ha1 hpr hM0; omega)
                | succ n13753 ih13754 =>
                  intro a13756 M13757 h13758 hM13757 fM13757
                  refine j_iload C 4 dX11_rota_71 rfl ?_
                  refine j_aload_n C 0 0 dX11_rota_73 rfl rfl ?_
                  refine y_getC C 10 12 fX11_rota_36 rfl rfl ft_10_6 sm_10_6 rfl hM13757 dX11_rota_74 ?_
                  refine j_callVi C (d := 0) (As := []) (st := [.int (sI a13756)]) 12 (s_lt rfl rfl) (s_kc (c := 8) rfl rfl) (by decide) rfl (s1_X9_everyKind hM13757 rfl) gX11_rota_X9_everyKind rfl hdX9_everyKind (by decide) (Nat.le_of_ble_eq_true rfl) dX11_rota_77 rfl (fun r13760 M13761 h13762 => ?_)
                  obtain ⟨a13764, rfl, rfl, h13763⟩ := h13762
                  refine y_icmp_gt C 160 dX11_rota_80 (by decide) (by (clear fM13757 hM13757 ih13754 h12563 qa12561 ua12561 la12561 ea12561 fM12558 hM12558 h12559 ih12555 h122 u118a h117 fM115 hM115 ua111 la111 ea111 h110 h108 h104 h102 hret C hp3 hp2 hp1 hp0 egp cgp ha1 hpr hM0; omega)) (fun h13765 => ?_) (fun h13765 => ?_)
                  · refine y_iinc C 3 [(3, .int (sI (a12557 + 1))), (0, .ref (ad 0)), (1, .int (sI a1)), (2, .int (sI a123)), (4, .int (sI a13756))] dX11_rota_160 rfl (by decide) rfl ?_
                    refine j_goto C 57 dX11_rota_163 (by decide) ?_
                    refine j_lv [1, 2, 3, 0] rfl ?_; exact ih12555 (a12557 + 1) M13757 (by exact ⟨(by (clear h13765 h13763 fM13757 hM13757 ih13754 fM12558 hM12558 ih12555 h122 u118a h117 fM115 hM115 ua111 la111 ea111 h110 h108 h104 h102 hret C hp3 hp2 hp1 hp0 egp cgp ha1 hpr hM0; omega)), ⟨(by (clear h13765 h13763 fM13757 hM13757 ih13754 fM12558 hM12558 ih12555 h122 u118a h117 fM115 hM115 ua111 la111 ea111 h110 h108 h104 h102 hret C hp3 hp2 hp1 hp0 egp cgp ha1 hpr hM0; omega)), ⟨h13758.2.2.1, (by (clear h13765 h13763 fM13757 hM13757 ih13754 fM12558 hM12558 ih12555 h122 u118a h117 fM115 hM115 ua111 la111 ea111 h110 h108 h104 h102 hret C hp3 hp2 hp1 hp0 egp cgp ha1 hpr hM0; omega))⟩⟩⟩) hM13757 (FX.rf.tr fM13757 (by decide))
                  · refine j_aload_n C 0 0 dX11_rota_83 rfl rfl ?_
                    refine j_iload C 4 dX11_rota_84 rfl ?_
                    refine j_iload_n C 3 3 dX11_rota_86 rfl rfl ?_
                    refine j_callVi C (d := 1) (As := [.int (sI a13756), .int (sI a12557)]) (st := []) 0 (s_lt rfl rfl) (s_kc (c := 10) rfl rfl) (by decide) rfl (s1_X11_isHideable hM13757 a13756 (by (clear h13765 h13763 fM13757 hM13757 ih13754 h12563 qa12561 ua12561 la12561 ea12561 fM12558 hM12558 h12559 ih12555 h122 u118a h117 fM115 hM115 ua111 la111 ea111 h110 h108 h104 h102 hret C hp3 hp2 hp1 hp0 egp cgp ha1 hpr hM0; omega)) a12557 (by (clear h13765 h13763 fM13757 hM13757 h13758 ih13754 h12563 qa12561 ua12561 la12561 ea12561 fM12558 hM12558 ih12555 h122 u118a h117 fM115 hM115 ua111 la111 ea111 h110 h108 h104 h102 hret C hp3 hp2 hp1 hp0 egp cgp ha1 hpr hM0; omega))) gX11_rota_X11_isHideable rfl hdX11_isHideable (by decide) (Nat.le_of_ble_eq_true rfl) dX11_rota_87 rfl (fun r13767 M13768 h13769 => ?_)
                    obtain ⟨a13771, rfl, rfl, h13770⟩ := h13769
                    refine y_if_eq C 154 dX11_rota_90 (by decide) (by (clear h13765 h13763 fM13757 hM13757 h13758 ih13754 h12563 qa12561 ua12561 la12561 ea12561 fM12558 hM12558 h12559 ih12555 h122 u118a h117 fM115 hM115 ua111 la111 ea111 h110 h108 h104 h102 hret C hp3 hp2 hp1 hp0 egp cgp ha1 hpr hM0; omega)) (fun h13772 => ?_) (fun h13772 => ?_)
                    · refine y_iinc C 4 [(4, .int (sI (a13756 + 1))), (0, .ref (ad 0)), (1, .int (sI a1)), (2, .int (sI a123)), (3, .int (sI a12557))] dX11_rota_154 rfl (by decide) rfl ?_
                      refine j_goto C 71 dX11_rota_157 (by decide) ?_
                      refine j_lv [1, 2, 3, 4, 0] rfl ?_; exact ih13754 (a13756 + 1) M13757 (by exact ⟨(by (clear h13772 h13770 fM13757 hM13757 ih13754 h12563 qa12561 ua12561 la12561 ea12561 fM12558 hM12558 h12559 ih12555 h122 u118a h117 fM115 hM115 ua111 la111 ea111 h110 h108 h104 h102 hret C hp3 hp2 hp1 hp0 egp cgp ha1 hpr hM0; omega)), ⟨(by (clear h13772 h13770 fM13757 hM13757 ih13754 h12563 qa12561 ua12561 la12561 ea12561 fM12558 hM12558 h12559 ih12555 h122 u118a h117 fM115 hM115 ua111 la111 ea111 h110 h108 h104 h102 hret C hp3 hp2 hp1 hp0 egp cgp ha1 hpr hM0; omega)), ⟨h13758.2.2.1, (by (clear h13772 h13770 fM13757 hM13757 ih13754 h12563 qa12561 ua12561 la12561 ea12561 fM12558 hM12558 h12559 ih12555 h122 u118a h117 fM115 hM115 ua111 la111 ea111 h110 h108 h104 h102 hret C hp3 hp2 hp1 hp0 egp cgp ha1 hpr hM0; omega))⟩⟩⟩) hM13757 (FX.rf.tr fM13757 (by decide))
                    · refine j_aload_n C 0 0 dX11_rota_93 rfl rfl ?_
                      refine y_getC C 10 88 fX11_rota_94 rfl rfl ft_10_14 sm_10_14 rfl hM13757 dX11_rota_94 ?_
                      refine j_aload_n C 0 0 dX11_rota_97 rfl rfl ?_
                      refine y_getV C 10 gp fX11_rota_26 rfl rfl ft_10_4 (s_pX fM13757 (egp)) dX11_rota_98 ?_
                      refine j_aload_n C 0 0 dX11_rota_101 rfl rfl ?_
                      refine y_getC C 10 12 fX11_rota_36 rfl rfl ft_10_6 sm_10_6 rfl hM13757 dX11_rota_102 ?_
                      refine j_aload_n C 0 0 dX11_rota_105 rfl rfl ?_
                      refine y_getC C 10 12 fX11_rota_36 rfl rfl ft_10_6 sm_10_6 rfl hM13757 dX11_rota_106 ?_
                      refine y_getI C 8 _ _ fX11_rota_153 rfl rfl ft_8_4 sb_8_4 hM13757 dX11_rota_109 (fun a13774 ea13774 la13774 ua13774 => ?_)
                      have qa13774 : a13774 = a111 := (s_fX fM13757 (by decide) (ea13774)).trans ea111.symm
                      refine j_iload C 4 dX11_rota_112 rfl ?_
                      refine y_iorN C 8 255 dX11_rota_114 rfl (by decide) (by exact ⟨la13774, ⟨ua13774, ⟨h13758.1, (by (clear ua13774 la13774 h13772 h13770 fM13757 hM13757 ih13754 h12563 qa12561 ua12561 la12561 ea12561 fM12558 hM12558 h12559 ih12555 h122 u118a h117 fM115 hM115 h110 h108 h104 h102 hret C hp3 hp2 hp1 hp0 egp cgp ha1 hpr hM0; omega))⟩⟩⟩) (fun a13776 la13776 ua13776 => ?_)
                      have u13777L7 := hM0.rd (i := gp) (c := 6) (k := 7) cgp (show s_b 6 7 = (0, 900) from rfl)
                      have u13777L9 := hM0.rd (i := gp) (c := 6) (k := 9) cgp (show s_b 6 9 = (0, 900) from rfl)
                      have u13777L := law_p (M := M0) (N := M13757) (p := gp) (ple_f (p := gp) ((FX.rf.tr fM13757 (by decide)) : FX [81, 82, 83, 84, 85, 86, 88, 89, 90, 91] M0 M13757) cgp (by decide)) u13777L7.1 u13777L9.1 (by exact hp1)
                      have u13777e : rwX M13757 gp 12 = rwX M0 gp 12 := (rx_f (p := gp) (v := 12) (ple_f (p := gp) ((FX.rf.tr fM13757 (by decide)) : FX [81, 82, 83, 84, 85, 86, 88, 89, 90, 91] M0 M13757) cgp (by decide)) (ske_n ((FX.rf.tr fM13757 (by decide)) : FX [81, 82, 83, 84, 85, 86, 88, 89, 90, 91] M0 M13757) ⟨by decide, by decide, by decide⟩))
                      have u13777R : b01 (PRR (rwX M13757 gp 12)) = 1 := by rw [u13777e]; exact hp2
                      have u13777S : (M13757.1 12 3).toInt < pw2 (M13757.1 12 0).toInt := by rw [((FX.rf.tr fM13757 (by decide)) : FX [81, 82, 83, 84, 85, 86, 88, 89, 90, 91] M0 M13757).cell (i := 12) (by decide)]; exact hp3
                      refine j_callVv C (d := 5) (As := [.ref (ad gp), .ref (ad 12), .int (sI a13776)]) (st := []) 88 (s_lt rfl rfl) (s_kc (c := 4) rfl rfl) (by decide) rfl (s2_X5_look hM13757 hpr cgp a13776 (by (clear u13777S u13777R u13777e u13777L u13777L9 u13777L7 qa13774 ua13774 la13774 ea13774 h13772 h13770 h13765 h13763 fM13757 hM13757 h13758 ih13754 h12563 qa12561 ua12561 la12561 ea12561 fM12558 hM12558 h12559 ih12555 h122 u118a h117 fM115 hM115 ua111 la111 ea111 h110 h108 h104 h102 hret C hp3 hp2 hp1 hp0 egp cgp ha1 hpr hM0; omega)) (by exact h13758.2.2.1) (by exact u13777L) (by exact u13777R) (by exact u13777S) (by exact ⟨la13776, ua13776⟩)) gX11_rota_X5_look rfl hdX5_look (by decide) (Nat.le_of_ble_eq_true rfl) dX11_rota_115 rfl (fun M13779 h13780 => ?_)
                      obtain ⟨hM13779, fM13779, h13781⟩ := h13780
                      have u13782a := tn_a (M := M13779) (p := gp) (f := rwX M13757 gp 12) (by exact h13781.2.1)
                      refine j_iload_n C 2 2 dX11_rota_118 rfl rfl ?_
                      refine j_aload_n C 0 0 dX11_rota_119 rfl rfl ?_
                      refine y_getC C 10 88 fX11_rota_94 rfl rfl ft_10_14 sm_10_14 rfl hM13779 dX11_rota_120 ?_
                      refine j_callVi C (d := 1) (As := []) (st := [.int (sI a123)]) 88 (s_lt rfl rfl) (s_kc (c := 4) rfl rfl) (by decide) rfl (s1_X5_takersNow hM13779) gX11_rota_X5_takersNow rfl hdX5_takersNow (by decide) (Nat.le_of_ble_eq_true rfl) dX11_rota_123 rfl (fun r13783 M13784 h13785 => ?_)
                      obtain ⟨a13787, rfl, rfl, h13786⟩ := h13785
                      refine y_iconst C dX11_rota_126 ?_
                      refine y_not C dX11_rota_127 ?_
                      refine y_iandL C dX11_rota_128 (by exact ⟨h122.1, (by (clear h13786 u13782a h13781 fM13779 hM13779 u13777S u13777R u13777e u13777L u13777L9 u13777L7 ua13776 la13776 qa13774 ua13774 la13774 ea13774 h13772 h13770 h13765 h13763 fM13757 hM13757 h13758 ih13754 h12563 qa12561 ua12561 la12561 ea12561 fM12558 hM12558 h12559 ih12555 u118a h117 fM115 hM115 ua111 la111 ea111 h110 h108 h104 h102 hret C hp3 hp2 hp1 hp0 egp cgp ha1 hpr hM0; omega))⟩) (fun a13788 la13788 ua13788 => ?_)
                      refine y_if_ne C 154 dX11_rota_129 (by decide) (by (clear h13786 u13782a h13781 fM13779 hM13779 u13777S u13777R u13777e u13777L u13777L9 u13777L7 ua13776 la13776 qa13774 ua13774 la13774 ea13774 h13772 h13770 h13765 h13763 fM13757 hM13757 h13758 ih13754 h12563 qa12561 ua12561 la12561 ea12561 fM12558 hM12558 h12559 ih12555 u118a h117 fM115 hM115 ua111 la111 ea111 h110 h108 h104 h102 hret C hp3 hp2 hp1 hp0 egp cgp ha1 hpr hM0; omega)) (fun h13789 => ?_) (fun h13789 => ?_)
                      · refine y_iinc C 4 [(4, .int (sI (a13756 + 1))), (0, .ref (ad 0)), (1, .int (sI a1)), (2, .int (sI a123)), (3, .int (sI a12557))] dX11_rota_154 rfl (by decide) rfl ?_
                        refine j_goto C 71 dX11_rota_157 (by decide) ?_
                        refine j_lv [1, 2, 3, 4, 0] rfl ?_; exact ih13754 (a13756 + 1) M13779 (by exact ⟨(by (clear h13789 ua13788 la13788 h13786 h13781 fM13779 hM13779 u13777S u13777R u13777e u13777L u13777L9 u13777L7 ua13776 la13776 qa13774 ua13774 la13774 ea13774 h13772 h13770 fM13757 hM13757 ih13754 h12563 qa12561 ua12561 la12561 ea12561 fM12558 hM12558 h12559 ih12555 h122 u118a h117 fM115 hM115 ua111 la111 ea111 h110 h108 h104 h102 hret C hp3 hp2 hp1 hp0 egp cgp ha1 hpr hM0; omega)), ⟨(by (clear h13789 ua13788 la13788 h13786 h13781 fM13779 hM13779 u13777S u13777R u13777e u13777L u13777L9 u13777L7 ua13776 la13776 qa13774 ua13774 la13774 ea13774 h13772 h13770 fM13757 hM13757 ih13754 h12563 qa12561 ua12561 la12561 ea12561 fM12558 hM12558 h12559 ih12555 h122 u118a h117 fM115 hM115 ua111 la111 ea111 h110 h108 h104 h102 hret C hp3 hp2 hp1 hp0 egp cgp ha1 hpr hM0; omega)), ⟨u13782a, (by (clear h13789 ua13788 la13788 h13786 h13781 fM13779 hM13779 u13777S u13777R u13777e u13777L u13777L9 u13777L7 ua13776 la13776 qa13774 ua13774 la13774 ea13774 h13772 h13770 fM13757 hM13757 ih13754 h12563 qa12561 ua12561 la12561 ea12561 fM12558 hM12558 h12559 ih12555 h122 u118a h117 fM115 hM115 ua111 la111 ea111 h110 h108 h104 h102 hret C hp3 hp2 hp1 hp0 egp cgp ha1 hpr hM0; omega))⟩⟩⟩) hM13779 ((FX.rf.tr fM13757 (by decide)).tr fM13779 (by decide))
                      · refine j_aload_n C 0 0 dX11_rota_132 rfl rfl ?_
                        refine y_getC C 10 88 fX11_rota_94 rfl rfl ft_10_14 sm_10_14 rfl hM13779 dX11_rota_133 ?_
                        refine j_callVi C (d := 3) (As := []) (st := []) 88 (s_lt rfl rfl) (s_kc (c := 4) rfl rfl) (by decide) rfl (s3_X5_shortest hM13779 hpr) gX11_rota_X5_shortest rfl hdX5_shortest (by decide) (Nat.le_of_ble_eq_true rfl) dX11_rota_136 rfl (fun r13791 M13792 h13793 => ?_)
                        obtain ⟨a13795, rfl, hM13792, fM13792, h13794⟩ := h13793
                        refine y_iconst C dX11_rota_139 ?_
                        refine y_icmp_ne C 154 dX11_rota_140 (by decide) (by exact ⟨⟨h13794.1, h13794.2⟩, ⟨(by decide), (by decide)⟩⟩) (fun h13796 => ?_) (fun h13796 => ?_)
                        · refine y_iinc C 4 [(4, .int (sI (a13756 + 1))), (0, .ref (ad 0)), (1, .int (sI a1)), (2, .int (sI a123)), (3, .int (sI a12557))] dX11_rota_154 rfl (by decide) rfl ?_
                          refine j_goto C 71 dX11_rota_157 (by decide) ?_
                          have u13797A7 := hM13779.rd (i := gp) (c := 6) (k := 7) cgp (show s_b 6 7 = (0, 900) from rfl)
                          have u13797A9 := hM13779.rd (i := gp) (c := 6) (k := 9) cgp (show s_b 6 9 = (0, 900) from rfl)
                          have u13797A := apx_o (M := M13779) (N := M13792) (p := gp) (ple_f (p := gp) ((FX.rf.tr fM13792 (by decide)) : FX [91] M13779 M13792) cgp (by decide)) (((FX.rf.tr fM13792 (by decide)) : FX [91] M13779 M13792).cell (by decide)) (((FX.rf.tr fM13792 (by decide)) : FX [91] M13779 M13792).cell (by decide)) (((FX.rf.tr fM13792 (by decide)) : FX [91] M13779 M13792).cell (by decide)) u13797A7.1 u13797A9.1 (by exact u13782a)
                          refine j_lv [1, 2, 3, 4, 0] rfl ?_; exact ih13754 (a13756 + 1) M13792 (by exact ⟨(by (clear u13797A9 u13797A7 h13796 h13794 fM13792 hM13792 h13789 ua13788 la13788 h13786 u13782a h13781 fM13779 hM13779 u13777S u13777R u13777e u13777L u13777L9 u13777L7 ua13776 la13776 qa13774 ua13774 la13774 ea13774 h13772 h13770 fM13757 hM13757 ih13754 h12563 qa12561 ua12561 la12561 ea12561 fM12558 hM12558 h12559 ih12555 h122 u118a h117 fM115 hM115 ua111 la111 ea111 h110 h108 h104 h102 hret C hp3 hp2 hp1 hp0 egp cgp ha1 hpr hM0; omega)), ⟨(by (clear u13797A9 u13797A7 h13796 h13794 fM13792 hM13792 h13789 ua13788 la13788 h13786 u13782a h13781 fM13779 hM13779 u13777S u13777R u13777e u13777L u13777L9 u13777L7 ua13776 la13776 qa13774 ua13774 la13774 ea13774 h13772 h13770 fM13757 hM13757 ih13754 h12563 qa12561 ua12561 la12561 ea12561 fM12558 hM12558 h12559 ih12555 h122 u118a h117 fM115 hM115 ua111 la111 ea111 h110 h108 h104 h102 hret C hp3 hp2 hp1 hp0 egp cgp ha1 hpr hM0; omega)), ⟨u13797A, (by (clear u13797A9 u13797A7 h13796 h13794 fM13792 hM13792 h13789 ua13788 la13788 h13786 u13782a h13781 fM13779 hM13779 u13777S u13777R u13777e u13777L u13777L9 u13777L7 ua13776 la13776 qa13774 ua13774 la13774 ea13774 h13772 h13770 fM13757 hM13757 ih13754 h12563 qa12561 ua12561 la12561 ea12561 fM12558 hM12558 h12559 ih12555 h122 u118a h117 fM115 hM115 ua111 la111 ea111 h110 h108 h104 h102 hret C hp3 hp2 hp1 hp0 egp cgp ha1 hpr hM0; omega))⟩⟩⟩) hM13792 (((FX.rf.tr fM13757 (by decide)).tr fM13779 (by decide)).tr fM13792 (by decide))
                        · refine j_iload_n C 1 1 dX11_rota_143 rfl rfl ?_
                          refine y_if_ne C 151 dX11_rota_144 (by decide) (by exact ⟨ha1.1, ha1.2⟩) (fun h13798 => ?_) (fun h13798 => ?_)
                          · refine j_iload C 4 dX11_rota_151 rfl ?_
                            have u13799A7 := hM13779.rd (i := gp) (c := 6) (k := 7) cgp (show s_b 6 7 = (0, 900) from rfl)
                            have u13799A9 := hM13779.rd (i := gp) (c := 6) (k := 9) cgp (show s_b 6 9 = (0, 900) from rfl)
                            have u13799A := apx_o (M := M13779) (N := M13792) (p := gp) (ple_f (p := gp) ((FX.rf.tr fM13792 (by decide)) : FX [91] M13779 M13792) cgp (by decide)) (((FX.rf.tr fM13792 (by decide)) : FX [91] M13779 M13792).cell (by decide)) (((FX.rf.tr fM13792 (by decide)) : FX [91] M13779 M13792).cell (by decide)) (((FX.rf.tr fM13792 (by decide)) : FX [91] M13779 M13792).cell (by decide)) u13799A7.1 u13799A9.1 (by exact u13782a)
                            exact hret _ _ _ _ dX11_rota_153 ⟨a13756, rfl, hM13792, (((FX.rf.tr fM13757 (by decide)).tr fM13779 (by decide)).tr fM13792 (by decide)), by exact ⟨(by (clear u13799A9 u13799A7 h13798 h13796 h13794 fM13792 hM13792 h13789 ua13788 la13788 h13786 u13782a h13781 fM13779 hM13779 u13777S u13777R u13777e u13777L u13777L9 u13777L7 ua13776 la13776 qa13774 ua13774 la13774 ea13774 h13772 h13770 fM13757 hM13757 ih13754 h12563 qa12561 ua12561 la12561 ea12561 fM12558 hM12558 h12559 ih12555 h122 u118a h117 fM115 hM115 ua111 la111 ea111 h110 h108 h104 h102 hret C hp3 hp2 hp1 hp0 egp cgp ha1 hpr hM0; omega)), ⟨(by (clear u13799A9 u13799A7 h13798 h13796 h13794 fM13792 hM13792 h13789 ua13788 la13788 h13786 u13782a h13781 fM13779 hM13779 u13777S u13777R u13777e u13777L u13777L9 u13777L7 ua13776 la13776 qa13774 ua13774 la13774 ea13774 h13772 h13770 fM13757 hM13757 ih13754 h12563 qa12561 ua12561 la12561 ea12561 fM12558 hM12558 h12559 ih12555 h122 u118a h117 fM115 hM115 ua111 la111 ea111 h110 h108 h104 h102 hret C hp3 hp2 hp1 hp0 egp cgp ha1 hpr hM0; omega)), u13799A⟩⟩⟩
                          · refine j_iload_n C 3 3 dX11_rota_147 rfl rfl ?_
                            refine j_goto C 153 dX11_rota_148 (by decide) ?_
                            have u13800A7 := hM13779.rd (i := gp) (c := 6) (k := 7) cgp (show s_b 6 7 = (0, 900) from rfl)
                            have u13800A9 := hM13779.rd (i := gp) (c := 6) (k := 9) cgp (show s_b 6 9 = (0, 900) from rfl)
                            have u13800A := apx_o (M := M13779) (N := M13792) (p := gp) (ple_f (p := gp) ((FX.rf.tr fM13792 (by decide)) : FX [91] M13779 M13792) cgp (by decide)) (((FX.rf.tr fM13792 (by decide)) : FX [91] M13779 M13792).cell (by decide)) (((FX.rf.tr fM13792 (by decide)) : FX [91] M13779 M13792).cell (by decide)) (((FX.rf.tr fM13792 (by decide)) : FX [91] M13779 M13792).cell (by decide)) u13800A7.1 u13800A9.1 (by exact u13782a)
                            exact hret _ _ _ _ dX11_rota_153 ⟨a12557, rfl, hM13792, (((FX.rf.tr fM13757 (by decide)).tr fM13779 (by decide)).tr fM13792 (by decide)), by exact ⟨(by (clear u13800A9 u13800A7 h13798 h13796 h13794 fM13792 hM13792 h13789 ua13788 la13788 h13786 u13782a h13781 fM13779 hM13779 u13777S u13777R u13777e u13777L u13777L9 u13777L7 ua13776 la13776 qa13774 ua13774 la13774 ea13774 h13772 h13770 h13765 h13763 fM13757 hM13757 h13758 ih13754 h12563 qa12561 ua12561 la12561 ea12561 fM12558 hM12558 ih12555 h122 u118a h117 fM115 hM115 ua111 la111 ea111 h110 h108 h104 h102 hret C hp3 hp2 hp1 hp0 egp cgp ha1 hpr hM0; omega)), ⟨(by (clear u13800A9 u13800A7 h13798 h13796 h13794 fM13792 hM13792 h13789 ua13788 la13788 h13786 u13782a h13781 fM13779 hM13779 u13777S u13777R u13777e u13777L u13777L9 u13777L7 ua13776 la13776 qa13774 ua13774 la13774 ea13774 h13772 h13770 h13765 h13763 fM13757 hM13757 h13758 ih13754 h12563 qa12561 ua12561 la12561 ea12561 fM12558 hM12558 ih12555 h122 u118a h117 fM115 hM115 ua111 la111 ea111 h110 h108 h104 h102 hret C hp3 hp2 hp1 hp0 egp cgp ha1 hpr hM0; omega)), u13800A⟩⟩⟩
              refine j_lv [1, 2, 3, 4, 0] rfl ?_; exact L13755 2010 0 M12558 (by exact ⟨(by decide), ⟨(by decide), ⟨h12559.2.2.1, (by decide)⟩⟩⟩) hM12558 (FX.rf.tr fM12558 (by decide))
        refine j_lv [2, 3, 1, 0] rfl ?_; exact L12556 2010 0 M115 (by exact ⟨(by decide), ⟨(by decide), ⟨u118a, (by decide)⟩⟩⟩) hM115 (FX.rf.tr fM115 (by decide))
      · refine y_bipush C dX11_rota_22 rfl ?_
        exact hret _ _ _ _ dX11_rota_24 ⟨(-5), rfl, hM0, FX.rf, by exact ⟨(by decide), ⟨(by decide), hp0⟩⟩⟩
    · refine y_bipush C dX11_rota_9 rfl ?_
      exact hret _ _ _ _ dX11_rota_11 ⟨(-2), rfl, hM0, FX.rf, by exact ⟨(by decide), ⟨(by decide), hp0⟩⟩⟩
end
section
set_option maxHeartbeats 4000000 in
theorem s2_X11_earns {l : Launch} {dC : Nat → ClassId} {dI : Nat → Nat → Nat} {ad : Nat → Nat} {cA : Nat → ClassId} {pr : Nat → Nat → Bool} {Kz : mm_M} {M0 : mm_M} (hM0 : INV pr Kz M0) (hpr : PX pr) (a1 : Int) (ha1 : -2147483648 ≤ a1 ∧ a1 ≤ 2147483647) (a2 : Int) (ha2 : -2147483648 ≤ a2 ∧ a2 ≤ 2147483647) (gp : Nat) (cgp : s_c gp = 6) (egp : gp = M0.2.2 0 4) (hp0 : b01 (APX M0 gp) = 1) (hp1 : b01 (LAW M0 gp) = 1) (hp2 : b01 (PRR (rwX M0 gp 12)) = 1) (hp3 : (M0.1 12 3).toInt < pw2 (M0.1 12 0).toInt) : Cj l 6 yX11_earns wsX11_earns dC dI ad cA [.ref (ad 0), .int (sI a1), .int (sI a2)] M0 (fun r M' => ∃ a : Int, r = sJ a ∧ INV pr Kz M' ∧ FX [81, 82, 83, 84, 85, 86, 88, 89, 90, 92, 93, 94] M0 M' ∧ (-9223372036854775808) ≤ a ∧ a ≤ 9223372036854775807 ∧ (b01 (APX M' gp) = 1)) := by
  refine cj_of (cc := cX11_earns) (maxL := 4) (lv := [(0, .ref (ad 0)), (1, .int (sI a1)), (2, .int (sI a2))]) (by decide) rfl (Nat.le_of_ble_eq_true rfl) rfl ?_
  intro p e s m args below meth c A Q C hret
  refine j_iload_n C 2 2 dX11_earns_0 rfl rfl ?_
  refine j_iload_n C 1 1 dX11_earns_1 rfl rfl ?_
  refine y_bipush C dX11_earns_2 rfl ?_
  refine j_callSi C (d := 0) (As := [.int (sI a2), .int (sI a1), .int (sI 8)]) (st := []) (s1_X11_chanceRefusal hM0 a2 (by exact ⟨ha2.1, ha2.2⟩) a1 (by exact ⟨ha1.1, ha1.2⟩) 8 (by exact ⟨(by decide), (by decide)⟩)) gX11_earns_X11_chanceRefusal rfl hdX11_chanceRefusals (by decide) (Nat.le_of_ble_eq_true rfl) dX11_earns_4 rfl (fun r102 M103 h104 => ?_)
  obtain ⟨a106, rfl, rfl, h105⟩ := h104
  refine j_istore_n C 3 [(3, .int (sI a106)), (0, .ref (ad 0)), (1, .int (sI a1)), (2, .int (sI a2))] dX11_earns_7 rfl (by decide) rfl ?_
  refine j_iload_n C 0 3 dX11_earns_8 rfl rfl ?_
  refine y_if_eq C 15 dX11_earns_9 (by decide) (by (clear hret C hp3 hp2 hp1 hp0 egp cgp ha2 ha1 hpr hM0; omega)) (fun h107 => ?_) (fun h107 => ?_)
  · refine j_aload_n C 1 0 dX11_earns_15 rfl rfl ?_
    refine y_getC C 10 88 fX11_earns_94 rfl rfl ft_10_14 sm_10_14 rfl hM0 dX11_earns_16 ?_
    refine j_aload_n C 1 0 dX11_earns_19 rfl rfl ?_
    refine y_getV C 10 gp fX11_earns_26 rfl rfl ft_10_4 (egp) dX11_earns_20 ?_
    refine j_aload_n C 1 0 dX11_earns_23 rfl rfl ?_
    refine y_getC C 10 12 fX11_earns_36 rfl rfl ft_10_6 sm_10_6 rfl hM0 dX11_earns_24 ?_
    refine j_aload_n C 1 0 dX11_earns_27 rfl rfl ?_
    refine y_getC C 10 12 fX11_earns_36 rfl rfl ft_10_6 sm_10_6 rfl hM0 dX11_earns_28 ?_
    refine y_getI C 8 _ _ fX11_earns_153 rfl rfl ft_8_4 sb_8_4 hM0 dX11_earns_31 (fun a108 ea108 la108 ua108 => ?_)
    refine j_callVv C (d := 5) (As := [.ref (ad gp), .ref (ad 12), .int (sI a108)]) (st := []) 88 (s_lt rfl rfl) (s_kc (c := 4) rfl rfl) (by decide) rfl (s2_X5_look hM0 hpr cgp a108 (by (clear h107 h105 hret C hp3 hp2 hp1 hp0 egp cgp ha2 ha1 hpr hM0; omega)) (by exact hp0) (by exact hp1) (by exact hp2) (by exact hp3) (by exact ⟨la108, ua108⟩)) gX11_earns_X5_look rfl hdX5_look (by decide) (Nat.le_of_ble_eq_true rfl) dX11_earns_34 rfl (fun M112 h113 => ?_)
    obtain ⟨hM112, fM112, h114⟩ := h113
    have u115a := tn_a (M := M112) (p := gp) (f := rwX M0 gp 12) (by exact h114.2.1)
    refine j_aload_n C 1 0 dX11_earns_37 rfl rfl ?_
    refine y_getC C 10 88 fX11_earns_94 rfl rfl ft_10_14 sm_10_14 rfl hM112 dX11_earns_38 ?_
    refine j_iload_n C 2 1 dX11_earns_41 rfl rfl ?_
    refine j_callVv C (d := 3) (As := [.int (sI a1)]) (st := []) 88 (s_lt rfl rfl) (s_kc (c := 4) rfl rfl) (by decide) rfl (s2_X5_passDays hM112 hpr a1 (by exact ⟨ha1.1, ha1.2⟩)) gX11_earns_X5_passDays rfl hdX5_passDays (by decide) (Nat.le_of_ble_eq_true rfl) dX11_earns_42 rfl (fun M117 h118 => ?_)
    obtain ⟨hM117, fM117⟩ := h118
    refine j_aload_n C 1 0 dX11_earns_45 rfl rfl ?_
    refine y_getC C 10 88 fX11_earns_94 rfl rfl ft_10_14 sm_10_14 rfl hM117 dX11_earns_46 ?_
    refine y_getJ C 4 fX11_earns_341 rfl rfl ft_4_8 dX11_earns_49 (fun a120 ea120 la120 ua120 => ?_)
    refine j_aload_n C 1 0 dX11_earns_52 rfl rfl ?_
    refine y_getC C 10 88 fX11_earns_94 rfl rfl ft_10_14 sm_10_14 rfl hM117 dX11_earns_53 ?_
    refine y_getJ C 4 fX11_earns_296 rfl rfl ft_4_7 dX11_earns_56 (fun a121 ea121 la121 ua121 => ?_)
    refine j_iload_n C 3 2 dX11_earns_59 rfl rfl ?_
    refine j_callSj C (d := 1) (As := [.long (sJ a120), .long (sJ a121), .int (sI a2)]) (st := []) (s1_X11_inLowestTerms hM117 a120 (by exact ⟨la120, ua120⟩) a121 (by exact ⟨la121, ua121⟩) a2 (by exact ⟨ha2.1, ha2.2⟩)) gX11_earns_X11_inLowestTerms rfl hdX11_inLowestTermss (by decide) (Nat.le_of_ble_eq_true rfl) dX11_earns_60 rfl (fun r122 M123 h124 => ?_)
    obtain ⟨a126, rfl, rfl, h125⟩ := h124
    have u127A7 := hM112.rd (i := gp) (c := 6) (k := 7) cgp (show s_b 6 7 = (0, 900) from rfl)
    have u127A9 := hM112.rd (i := gp) (c := 6) (k := 9) cgp (show s_b 6 9 = (0, 900) from rfl)
    have u127A := apx_o (M := M112) (N := M117) (p := gp) (ple_f (p := gp) ((FX.rf.tr fM117 (by decide)) : FX [88, 92, 93, 94] M112 M117) cgp (by decide)) (((FX.rf.tr fM117 (by decide)) : FX [88, 92, 93, 94] M112 M117).cell (by decide)) (((FX.rf.tr fM117 (by decide)) : FX [88, 92, 93, 94] M112 M117).cell (by decide)) (((FX.rf.tr fM117 (by decide)) : FX [88, 92, 93, 94] M112 M117).cell (by decide)) u127A7.1 u127A9.1 (by exact u115a)
    exact hret _ _ _ _ dX11_earns_63 ⟨a126, rfl, hM117, ((FX.rf.tr fM112 (by decide)).tr fM117 (by decide)), by exact ⟨h125.1, ⟨h125.2, u127A⟩⟩⟩
  · refine j_iload_n C 0 3 dX11_earns_12 rfl rfl ?_
    refine y_i2l C dX11_earns_13 (by omega) ?_
    exact hret _ _ _ _ dX11_earns_14 ⟨a106, rfl, hM0, FX.rf, by exact ⟨(by (clear h107 hret C hp3 hp2 hp1 egp cgp ha2 ha1 hpr hM0; omega)), ⟨(by (clear h107 hret C hp3 hp2 hp1 egp cgp ha2 ha1 hpr hM0; omega)), hp0⟩⟩⟩
set_option maxHeartbeats 4000000 in
theorem s3_X5_aim {l : Launch} {dC : Nat → ClassId} {dI : Nat → Nat → Nat} {ad : Nat → Nat} {cA : Nat → ClassId} {pr : Nat → Nat → Bool} {Kz : mm_M} {M0 : mm_M} (hM0 : INV pr Kz M0) (hpr : PX pr) {v1 : Nat} (cv1 : s_c v1 = 6) (a3 : Int) (ha3 : -2147483648 ≤ a3 ∧ a3 ≤ 2147483647) (hp0 : b01 (APX M0 v1) = 1) (hp1 : b01 (LAW M0 v1) = 1) (hp2 : b01 (PRR (rwX M0 v1 15)) = 1) (hp3 : (M0.1 15 3).toInt < pw2 (M0.1 15 0).toInt) (hp4 : 0 ≤ a3 ∧ a3 ≤ 255) : Cv l 1 yX5_aim wsX5_aim dC dI ad cA [.ref (ad 88), .ref (ad v1), .ref (ad 15), .int (sI a3)] M0 (fun M' => INV pr Kz M' ∧ FX [81, 82, 83, 84, 88] M0 M' ∧ (b01 (AIM M' v1 (seH (rwX M0 v1 15) (sI a3))) = 1) ∧ (b01 (TN M' v1 (rwX M0 v1 15)) = 1) ∧ (M'.2.2 88 10 = 15)) := by
  refine cv_of (cc := cX5_aim) (maxL := 4) (lv := [(0, .ref (ad 88)), (1, .ref (ad v1)), (2, .ref (ad 15)), (3, .int (sI a3))]) (by decide) rfl (Nat.le_of_ble_eq_true rfl) rfl ?_
  intro p e s m args below meth c A Q C hret
  refine j_aload_n C 0 0 dX5_aim_0 rfl rfl ?_
  refine j_aload_n C 1 1 dX5_aim_1 rfl rfl ?_
  refine y_putP C 4 6 qX5_aim_52 rfl rfl rfl rfl ft_4_9 sm_4_9 (by decide) hM0 (PX.w hpr rfl rfl) cv1 dX5_aim_2 (fun M101 eM101 hM101 => ?_)
  refine j_aload_n C 0 0 dX5_aim_5 rfl rfl ?_
  refine j_aload_n C 2 2 dX5_aim_6 rfl rfl ?_
  refine y_putP C 4 8 qX5_aim_56 rfl rfl rfl rfl ft_4_10 sm_4_10 (by decide) hM101 (PX.w hpr rfl rfl) rfl dX5_aim_7 (fun M102 eM102 hM102 => ?_)
  refine j_aload_n C 0 0 dX5_aim_10 rfl rfl ?_
  refine j_aload_n C 0 0 dX5_aim_11 rfl rfl ?_
  refine y_getV C 4 15 fX5_aim_56 rfl rfl ft_4_10 (s_pW eM102) dX5_aim_12 ?_
  refine j_callVi C (d := 0) (As := []) (st := [.ref (ad 88)]) 15 (s_lt rfl rfl) (s_kc (c := 8) rfl rfl) (by decide) rfl (s3_X9_everyKind hM102) gX5_aim_X9_everyKind rfl hdX9_everyKind (by decide) (Nat.le_of_ble_eq_true rfl) dX5_aim_15 rfl (fun r103 M104 h105 => ?_)
  obtain ⟨a107, rfl, rfl, h106⟩ := h105
  rw [show M102.1 15 = M0.1 15 from ((wP_cell eM102).trans (wP_cell eM101))] at h106
  obtain rfl : a107 = (pw2 (M0.1 15 0).toInt - 1) := by exact h106.2.2
  refine y_putI C 4 _ _ qX5_aim_38 rfl rfl ft_4_11 sb_4_11 hM102 (PX.w hpr rfl rfl) dX5_aim_18 (by exact ⟨⟨(by (clear hM102 eM102 hM101 eM101 hret C hp4 hp3 hp2 hp1 hp0 ha3 cv1 hpr hM0; omega)), (by (clear hM102 eM102 hM101 eM101 hret C hp4 hp3 hp2 hp1 hp0 ha3 cv1 hpr hM0; omega))⟩, ⟨h106.1, h106.2.1⟩⟩) (fun M108 eM108 hM108 => ?_)
  refine j_aload_n C 0 0 dX5_aim_21 rfl rfl ?_
  refine j_aload_n C 0 0 dX5_aim_22 rfl rfl ?_
  refine y_getI C 4 _ _ fX5_aim_38 rfl rfl ft_4_11 sb_4_11 hM108 dX5_aim_23 (fun a109 ea109 la109 ua109 => ?_)
  obtain rfl : a109 = (pw2 (M0.1 15 0).toInt - 1) := (ea109).trans (s_wr eM108 (by omega))
  refine j_iload_n C 3 3 dX5_aim_26 rfl rfl ?_
  refine y_iconst C dX5_aim_27 ?_
  refine y_not C dX5_aim_28 ?_
  refine e_iandL C dX5_aim_29 (by exact ⟨h106.1, (by (clear ua109 la109 hM108 eM108 hM102 eM102 hM101 eM101 hret C hp4 hp3 hp2 hp1 hp0 ha3 cv1 hpr hM0; omega))⟩) (fun lb111 ub111 => ?_)
  refine y_putI C 4 _ _ qX5_aim_42 rfl rfl ft_4_12 sb_4_12 hM108 (PX.w hpr rfl rfl) dX5_aim_30 (by exact ⟨⟨(by (clear ua109 la109 hM108 eM108 hM102 eM102 hM101 eM101 hret C hp4 hp3 hp2 hp1 hp0 ha3 cv1 hpr hM0; omega)), (by (clear ua109 la109 hM108 eM108 hM102 eM102 hM101 eM101 hret C hp4 hp3 hp2 hp1 hp0 ha3 cv1 hpr hM0; omega))⟩, ⟨lb111, (by (clear ua109 la109 hM108 eM108 hM102 eM102 hM101 eM101 hret C hp4 hp3 hp2 hp1 hp0 ha3 cv1 hpr hM0; omega))⟩⟩) (fun M112 eM112 hM112 => ?_)
  refine j_aload_n C 0 0 dX5_aim_33 rfl rfl ?_
  refine j_aload_n C 0 0 dX5_aim_34 rfl rfl ?_
  refine y_getV C 4 15 fX5_aim_56 rfl rfl ft_4_10 (s_pI eM112 (s_pI eM108 (s_pW eM102))) dX5_aim_35 ?_
  refine y_getI C 8 _ _ fX5_aim_66 rfl rfl ft_8_3 sb_8_3 hM112 dX5_aim_38 (fun a113 ea113 la113 ua113 => ?_)
  obtain rfl : a113 = (M0.1 15 3).toInt := s_fP eM101 (s_fP eM102 (s_fa eM108 (by decide) (s_fa eM112 (by decide) (ea113))))
  refine j_aload_n C 0 0 dX5_aim_41 rfl rfl ?_
  refine y_getI C 4 _ _ fX5_aim_38 rfl rfl ft_4_11 sb_4_11 hM112 dX5_aim_42 (fun a115 ea115 la115 ua115 => ?_)
  obtain rfl : a115 = (pw2 (M0.1 15 0).toInt - 1) := (s_fb eM112 (by decide) (ea115)).trans (s_wr eM108 (by (clear ua115 la115 ea115 ua113 la113 ea113 hM112 eM112 ub111 lb111 ua109 la109 hM108 eM108 hM102 eM102 hM101 eM101 hret C hp4 hp3 hp2 hp1 hp0 ha3 cv1 hpr hM0; omega)))
  refine e_iandR C dX5_aim_45 (by exact ⟨h106.1, (by (clear ua115 la115 ua113 la113 ea113 hM112 eM112 ub111 lb111 ua109 la109 hM108 eM108 hM102 eM102 hM101 eM101 hret C hp4 hp3 hp2 hp1 hp0 ha3 cv1 hpr hM0; omega))⟩) (fun lb117 ub117 => ?_)
  refine y_putI C 4 _ _ qX5_aim_45 rfl rfl ft_4_13 sb_4_13 hM112 (PX.w hpr rfl rfl) dX5_aim_46 (by exact ⟨⟨(by (clear ua115 la115 ua113 la113 ea113 hM112 eM112 ub111 lb111 ua109 la109 hM108 eM108 hM102 eM102 hM101 eM101 hret C hp4 hp3 hp2 hp1 hp0 ha3 cv1 hpr hM0; omega)), (by (clear ua115 la115 ua113 la113 ea113 hM112 eM112 ub111 lb111 ua109 la109 hM108 eM108 hM102 eM102 hM101 eM101 hret C hp4 hp3 hp2 hp1 hp0 ha3 cv1 hpr hM0; omega))⟩, ⟨lb117, (by (clear ua115 la115 ua113 la113 ea113 hM112 eM112 ub111 lb111 ua109 la109 hM108 eM108 hM102 eM102 hM101 eM101 hret C hp4 hp3 hp2 hp1 hp0 ha3 cv1 hpr hM0; omega))⟩⟩) (fun M118 eM118 hM118 => ?_)
  refine j_aload_n C 0 0 dX5_aim_49 rfl rfl ?_
  refine y_getC C 4 81 fX5_aim_48 rfl rfl ft_4_0 sm_4_0 rfl hM118 dX5_aim_50 ?_
  refine j_aload_n C 0 0 dX5_aim_53 rfl rfl ?_
  refine y_getV C 4 v1 fX5_aim_52 rfl rfl ft_4_9 (s_pI eM118 (s_pI eM112 (s_pI eM108 (s_pP eM102 (by decide) (s_pW eM101))))) dX5_aim_54 ?_
  refine j_aload_n C 0 0 dX5_aim_57 rfl rfl ?_
  refine y_getV C 4 15 fX5_aim_56 rfl rfl ft_4_10 (s_pI eM118 (s_pI eM112 (s_pI eM108 (s_pW eM102)))) dX5_aim_58 ?_
  have u1197 := hM0.rd (i := v1) (c := 6) (k := 7) cv1 (show s_b 6 7 = (0, 900) from rfl)
  have u1199 := hM0.rd (i := v1) (c := 6) (k := 9) cv1 (show s_b 6 9 = (0, 900) from rfl)
  have u119A := apx_o (M := M0) (N := M118) (p := v1) (ple_f ((((((FX.rf.wP eM101 (by decide)).wP eM102 (by decide)).wI eM108 (by decide)).wI eM112 (by decide)).wI eM118 (by decide)) : FX [88] M0 M118) cv1 (by decide)) (((((((FX.rf.wP eM101 (by decide)).wP eM102 (by decide)).wI eM108 (by decide)).wI eM112 (by decide)).wI eM118 (by decide)) : FX [88] M0 M118).cell (by decide)) (((((((FX.rf.wP eM101 (by decide)).wP eM102 (by decide)).wI eM108 (by decide)).wI eM112 (by decide)).wI eM118 (by decide)) : FX [88] M0 M118).cell (by decide)) (((((((FX.rf.wP eM101 (by decide)).wP eM102 (by decide)).wI eM108 (by decide)).wI eM112 (by decide)).wI eM118 (by decide)) : FX [88] M0 M118).cell (by decide)) u1197.1 u1199.1 (by exact hp0)
  refine j_callVv C (d := 0) (As := [.ref (ad v1), .ref (ad 15)]) (st := []) 81 (s_lt rfl rfl) (s_kc (c := 3) rfl rfl) (by decide) rfl (s2_X4_tune hM118 hpr cv1 rfl (by exact u119A)) gX5_aim_X4_tune rfl hdX4_tune (by decide) (Nat.le_of_ble_eq_true rfl) dX5_aim_61 rfl (fun M121 h122 => ?_)
  obtain ⟨hM121, fM121, h123⟩ := h122
  have ev181 : v1 = M121.2.2 81 5 := by exact h123.1.symm
  have zz88_11 := (Eq.trans (s_fb eM112 (by decide) (s_fb eM118 (by decide) (s_fX fM121 (by decide) (rfl))) : (M121.1 88 11).toInt = (M108.1 88 11).toInt) (s_wr eM108 (by (clear ev181 h123 fM121 hM121 u119A u1199 u1197 hM118 eM118 ub117 lb117 ua115 la115 ua113 la113 ea113 hM112 eM112 ub111 lb111 ua109 la109 hM108 eM108 hM102 eM102 hM101 eM101 hret C hp4 hp3 hp2 hp1 hp0 ha3 cv1 hpr hM0; omega))))
  have zz88_12 := (Eq.trans (s_fb eM118 (by decide) (s_fX fM121 (by decide) (rfl)) : (M121.1 88 12).toInt = (M112.1 88 12).toInt) (s_wr eM112 (by (clear ev181 h123 fM121 hM121 u119A u1199 u1197 hM118 eM118 ub117 lb117 ua115 la115 ua113 la113 ea113 hM112 eM112 ua109 la109 hM108 eM108 hM102 eM102 hM101 eM101 hret C hp4 hp3 hp2 hp1 hp0 ha3 cv1 hpr hM0; omega))))
  have zz88_13 := (Eq.trans (s_fX fM121 (by decide) (rfl) : (M121.1 88 13).toInt = (M118.1 88 13).toInt) (s_wr eM118 (by (clear zz88_12 ev181 h123 fM121 hM121 u119A u1199 u1197 hM118 eM118 ua115 la115 ua113 la113 ea113 hM112 eM112 ub111 lb111 ua109 la109 hM108 eM108 hM102 eM102 hM101 eM101 hret C hp4 hp3 hp2 hp1 hp0 ha3 cv1 hpr hM0; omega))))
  have u1247 := hM0.rd (i := v1) (c := 6) (k := 7) cv1 (show s_b 6 7 = (0, 900) from rfl)
  have u1249 := hM0.rd (i := v1) (c := 6) (k := 9) cv1 (show s_b 6 9 = (0, 900) from rfl)
  have u124p := (ple_f (p := v1) (((((((FX.rf.wP eM101 (by decide)).wP eM102 (by decide)).wI eM108 (by decide)).wI eM112 (by decide)).wI eM118 (by decide)).tr fM121 (by decide)) : FX [81, 82, 83, 84, 88] M0 M121) cv1 (by decide))
  have u124r : rwX M118 v1 15 = rwX M0 v1 15 := (rx_f (p := v1) (v := 15) (ple_f (p := v1) ((((((FX.rf.wP eM101 (by decide)).wP eM102 (by decide)).wI eM108 (by decide)).wI eM112 (by decide)).wI eM118 (by decide)) : FX [88] M0 M118) cv1 (by decide)) (ske_n ((((((FX.rf.wP eM101 (by decide)).wP eM102 (by decide)).wI eM108 (by decide)).wI eM112 (by decide)).wI eM118 (by decide)) : FX [88] M0 M118) ⟨by decide, by decide, by decide⟩))
  have u124K := hM0.rd (i := 15) (c := 8) (k := 0) rfl (show s_b 8 0 = (0, 8) from rfl)
  have u124S := hM0.rd (i := 15) (c := 8) (k := 3) rfl (show s_b 8 3 = (0, 255) from rfl)
  have u124B := hM0.rd (i := v1) (c := 6) (k := 0) cv1 (show s_b 6 0 = (0, 6) from rfl)
  have u124e0 : M118.1 15 = M0.1 15 := ((((((FX.rf.wP eM101 (by decide)).wP eM102 (by decide)).wI eM108 (by decide)).wI eM112 (by decide)).wI eM118 (by decide)) : FX [88] M0 M118).cell (by decide)
  have u124L := law_p (M := M0) (N := M118) (p := v1) (ple_f (p := v1) ((((((FX.rf.wP eM101 (by decide)).wP eM102 (by decide)).wI eM108 (by decide)).wI eM112 (by decide)).wI eM118 (by decide)) : FX [88] M0 M118) cv1 (by decide)) u1247.1 u1249.1 (by exact hp1)
  have u124b7 := hM118.rd (i := v1) (c := 6) (k := 7) cv1 (show s_b 6 7 = (0, 900) from rfl)
  have u124b9 := hM118.rd (i := v1) (c := 6) (k := 9) cv1 (show s_b 6 9 = (0, 900) from rfl)
  have u124T := tn_0 (M := M118) (N := M121) (p := v1) (v := 15) (ple_f (p := v1) ((FX.rf.tr fM121 (by decide)) : FX [81, 82, 83, 84] M118 M121) cv1 (by decide)) (by exact h123.1) (by exact h123.2.2.1) u124L (by rw [u124r]; exact hp2) (by exact h123.2.1) (by exact h123.2.2.2) u124b7.1 u124b9.1
  rw [u124r] at u124T
  have u1249p : M121.2.2 88 9 = v1 := (s_pX fM121 (s_pI eM118 (s_pI eM112 (s_pI eM108 (s_pP eM102 (by decide) (s_pW eM101))))) : v1 = M121.2.2 88 9).symm
  have u12410p : M121.2.2 88 10 = 15 := (s_pX fM121 (s_pI eM118 (s_pI eM112 (s_pI eM108 (s_pW eM102)))) : 15 = M121.2.2 88 10).symm
  have u124a := aim_i (M := M0) (N := M121) (p := v1) (v := 15) (h := a3) cv1 u1249p (by exact zz88_11) (by exact zz88_12) (by exact zz88_13) u124p (by exact ⟨hp4.1, hp4.2⟩) (by exact ⟨u124K.1, u124K.2⟩) (by exact ⟨la113, hp3⟩) (by exact ⟨u124B.1, u124B.2⟩)
  exact hret _ _ _ dX5_aim_64 ⟨hM121, ((((((FX.rf.wP eM101 (by decide)).wP eM102 (by decide)).wI eM108 (by decide)).wI eM112 (by decide)).wI eM118 (by decide)).tr fM121 (by decide)), by exact ⟨u124a, ⟨u124T, u12410p⟩⟩⟩
set_option maxHeartbeats 4000000 in
theorem s3_X5_look {l : Launch} {dC : Nat → ClassId} {dI : Nat → Nat → Nat} {ad : Nat → Nat} {cA : Nat → ClassId} {pr : Nat → Nat → Bool} {Kz : mm_M} {M0 : mm_M} (hM0 : INV pr Kz M0) (hpr : PX pr) {v1 : Nat} (cv1 : s_c v1 = 6) (a3 : Int) (ha3 : -2147483648 ≤ a3 ∧ a3 ≤ 2147483647) (hp0 : b01 (APX M0 v1) = 1) (hp1 : b01 (LAW M0 v1) = 1) (hp2 : b01 (PRR (rwX M0 v1 15)) = 1) (hp3 : (M0.1 15 3).toInt < pw2 (M0.1 15 0).toInt) (hp4 : 0 ≤ a3 ∧ a3 ≤ 255) : Cv l 5 yX5_look wsX5_look dC dI ad cA [.ref (ad 88), .ref (ad v1), .ref (ad 15), .int (sI a3)] M0 (fun M' => INV pr Kz M' ∧ FX [81, 82, 83, 84, 85, 86, 88, 89, 90] M0 M' ∧ (b01 (LKP M' v1 (seH (rwX M0 v1 15) (sI a3))) = 1) ∧ (b01 (TN M' v1 (rwX M0 v1 15)) = 1) ∧ (M'.2.2 88 9 = v1)) := by
  refine cv_of (cc := cX5_look) (maxL := 5) (lv := [(0, .ref (ad 88)), (1, .ref (ad v1)), (2, .ref (ad 15)), (3, .int (sI a3))]) (by decide) rfl (Nat.le_of_ble_eq_true rfl) rfl ?_
  intro p e s m args below meth c A Q C hret
  refine j_aload_n C 0 0 dX5_look_0 rfl rfl ?_
  refine j_aload_n C 1 1 dX5_look_1 rfl rfl ?_
  refine j_aload_n C 2 2 dX5_look_2 rfl rfl ?_
  refine j_iload_n C 3 3 dX5_look_3 rfl rfl ?_
  refine j_callVv C (d := 1) (As := [.ref (ad v1), .ref (ad 15), .int (sI a3)]) (st := []) 88 (s_lt rfl rfl) (s_kc (c := 4) rfl rfl) (by decide) rfl (s3_X5_aim hM0 hpr cv1 a3 (by exact ⟨ha3.1, ha3.2⟩) (by exact hp0) (by exact hp1) (by exact hp2) (by exact hp3) (by exact ⟨hp4.1, hp4.2⟩)) gX5_look_X5_aim rfl hdX5_aim (by decide) (Nat.le_of_ble_eq_true rfl) dX5_look_4 rfl (fun M102 h103 => ?_)
  obtain ⟨hM102, fM102, h104⟩ := h103
  have e88a : v1 = M102.2.2 88 9 := (b01_e (P := AIM M102 v1 (seH (rwX M0 v1 15) (sI a3))) (by exact h104.1)).1.symm
  have u105a := aim_e (M := M102) (p := v1) (f := (seH (rwX M0 v1 15) (sI a3))) (by exact h104.1)
  have u105v := evF_b (f := (seH (rwX M0 v1 15) (sI a3))) (by exact ⟨u105a.2.2.2.2.1.1, u105a.2.2.2.2.1.2⟩)
  refine j_aload_n C 0 0 dX5_look_7 rfl rfl ?_
  refine y_getC C 4 90 fX5_look_15 rfl rfl ft_4_2 sm_4_2 rfl hM102 dX5_look_8 ?_
  refine y_iconst C dX5_look_11 ?_
  refine j_callSv C (d := 0) (As := [.ref (ad 90), .int (sI 0)]) (st := []) (s6_J7_fill_53178 hM102 hpr 0 (by exact ⟨(by decide), (by decide)⟩)) gX5_look_J7_fill_53178 rfl hdJ7_fill_53178s (by decide) (Nat.le_of_ble_eq_true rfl) dX5_look_12 rfl (fun M107 h108 => ?_)
  obtain ⟨hM107, fM107, h109⟩ := h108
  refine j_aload_n C 0 0 dX5_look_15 rfl rfl ?_
  refine y_getC C 4 90 fX5_look_15 rfl rfl ft_4_2 sm_4_2 rfl hM107 dX5_look_16 ?_
  refine j_aload_n C 0 0 dX5_look_19 rfl rfl ?_
  refine y_getI C 4 _ _ fX5_look_45 rfl rfl ft_4_13 sb_4_13 hM107 dX5_look_20 (fun a110 ea110 la110 ua110 => ?_)
  obtain rfl : a110 = (M102.1 88 13).toInt := s_fX fM107 (by decide) (ea110)
  refine y_iconst C dX5_look_23 ?_
  refine y_iastF C 39 256 rfl rfl rfl ak_39 an_39 rfl (sb_39 _) hM107 (PX.w hpr rfl rfl) dX5_look_24 (by exact ⟨la110, (by (clear la110 h109 fM107 hM107 u105v e88a h104 fM102 hM102 hret C hp4 hp3 hp2 hp1 hp0 ha3 cv1 hpr hM0; omega))⟩) (fun M112 eM112 hM112 => ?_)
  refine j_aload_n C 0 0 dX5_look_25 rfl rfl ?_
  refine y_getI C 4 _ _ fX5_look_45 rfl rfl ft_4_13 sb_4_13 hM112 dX5_look_26 (fun a113 ea113 la113 ua113 => ?_)
  obtain rfl : a113 = (M102.1 88 13).toInt := s_fX fM107 (by decide) (s_fa eM112 (by decide) (ea113))
  refine j_istore C 4 [(4, .int (sI (M102.1 88 13).toInt)), (0, .ref (ad 88)), (1, .ref (ad v1)), (2, .ref (ad 15)), (3, .int (sI a3))] dX5_look_29 (by decide) rfl ?_
  have u115l := lkq_0 (M := M107) (N := M112) (f := (seH (rwX M0 v1 15) (sI a3))) (s := (M102.1 88 13).toInt) (by exact h109) eM112 (by exact ⟨u105a.2.2.1, la110⟩)
  have u115T := tn_g (M := M102) (N := M112) (p := v1) (f := rwX M0 v1 15) (by exact h104.2.1) (((FX.rf.tr fM107 (by decide)).wI eM112 (by decide)) : FX [90] M102 M112) cv1 (by decide)
  have u115A := aim_c (M := M102) (N := M112) (p := v1) (f := (seH (rwX M0 v1 15) (sI a3))) (by exact h104.1) (((FX.rf.tr fM107 (by decide)).wI eM112 (by decide)) : FX [90] M102 M112) cv1 (by decide)
  have L133 : ∀ (n131 : Nat), ∀ (a134 : Int) (M135 : mm_M), (0 ≤ a134 ∧ a134 ≤ 256 ∧ (b01 (LKQ M135 (seH (rwX M0 v1 15) (sI a3)) a134) = 1) ∧ (b01 (TN M135 v1 (rwX M0 v1 15)) = 1) ∧ (b01 (AIM M135 v1 (seH (rwX M0 v1 15) (sI a3))) = 1) ∧ (((seH (rwX M0 v1 15) (sI a3)) 27).toInt ≤ a134) ∧ (a134 ≤ evF (seH (rwX M0 v1 15) (sI a3)) + 1) ∧ (256 - a134) < (n131 : Int)) → INV pr Kz M135 → FX [81, 82, 83, 84, 85, 86, 88, 89, 90] M0 M135 → jj p l e (cn_R 5) s m args below meth c 0 0 Q 5 dC dI ad cA A M135 31 [(0, .ref (ad 88)), (3, .int (sI a3)), (4, .int (sI a134))] [] := by
    intro n131
    induction n131 with
    | zero =>
      intro a134 M135 h136 hM135 fM135
      exfalso; (clear fM135 hM135 u115A u115T u115l ua113 la113 ea113 hM112 eM112 ua110 la110 ea110 h109 fM107 hM107 u105v u105a e88a h104 fM102 hM102 hret C hp4 hp3 hp2 hp1 hp0 ha3 cv1 hpr hM0; omega)
    | succ n131 ih132 =>
      intro a134 M135 h136 hM135 fM135
      have e88M135 : v1 = M135.2.2 88 9 := (b01_e (P := AIM M135 v1 (seH (rwX M0 v1 15) (sI a3))) (by exact h136.2.2.2.2.1)).1.symm
      have u137a := aim_e (M := M135) (p := v1) (f := (seH (rwX M0 v1 15) (sI a3))) (by exact h136.2.2.2.2.1)
      have u137v := evF_b (f := (seH (rwX M0 v1 15) (sI a3))) (by exact ⟨u105a.2.2.2.2.1.1, u105a.2.2.2.2.1.2⟩)
      refine j_iload C 2 dX5_look_31 rfl ?_
      refine j_aload_n C 0 0 dX5_look_33 rfl rfl ?_
      refine y_getI C 4 _ _ fX5_look_38 rfl rfl ft_4_11 sb_4_11 hM135 dX5_look_34 (fun a138 ea138 la138 ua138 => ?_)
      obtain rfl : a138 = (M135.1 88 11).toInt := ea138
      refine y_icmp_gt C 64 dX5_look_37 (by decide) (by (clear ua138 la138 u137v e88M135 fM135 hM135 ih132 u115A u115T u115l ua113 la113 ea113 hM112 eM112 ua110 la110 ea110 h109 fM107 hM107 u105a e88a h104 fM102 hM102 hret C hp4 hp3 hp2 hp1 hp0 ha3 cv1 hpr hM0; omega)) (fun h140 => ?_) (fun h140 => ?_)
      · have u150p := lkp_i (M := M135) (p := v1) (f := (seH (rwX M0 v1 15) (sI a3))) (t := a134) (b01_e (by exact h136.2.2.2.2.1)) (by exact h136.2.2.1) (by (clear ua138 la138 u137v e88M135 fM135 hM135 ih132 u115A u115T u115l ua113 la113 ea113 hM112 eM112 ua110 la110 ea110 h109 fM107 hM107 u105v u105a e88a h104 fM102 hM102 hret C hp4 hp3 hp2 hp1 hp0 ha3 cv1 hpr hM0; omega))
        have u1509 : M135.2.2 88 9 = v1 := (b01_e (P := AIM M135 v1 (seH (rwX M0 v1 15) (sI a3))) (by exact h136.2.2.2.2.1)).1
        exact hret _ _ _ dX5_look_64 ⟨hM135, (FX.rf.tr fM135 (by decide)), by exact ⟨u150p, ⟨h136.2.2.2.1, u1509⟩⟩⟩
      · refine j_aload_n C 0 0 dX5_look_40 rfl rfl ?_
        refine y_getC C 4 90 fX5_look_15 rfl rfl ft_4_2 sm_4_2 rfl hM135 dX5_look_41 ?_
        refine j_iload C 2 dX5_look_44 rfl ?_
        refine y_iald C 39 256 _ _ rfl rfl rfl ak_39 an_39 rfl (sb_39 _) hM135 dX5_look_46 (by exact ⟨h136.1, (by (clear ua138 la138 u137v e88M135 fM135 hM135 ih132 u115A u115T u115l ua113 la113 ea113 hM112 eM112 ua110 la110 ea110 h109 fM107 hM107 u105a e88a h104 fM102 hM102 hret C hp4 hp3 hp2 hp1 hp0 ha3 cv1 hpr hM0; omega))⟩) (fun a141 ea141 la141 ua141 => ?_)
        obtain rfl : a141 = (M135.1 90 (a134).toNat).toInt := ea141
        refine y_iconst C dX5_look_47 ?_
        refine y_icmp_ne C 58 dX5_look_48 (by decide) (by exact ⟨⟨la141, ua141⟩, ⟨(by decide), (by decide)⟩⟩) (fun h142 => ?_) (fun h142 => ?_)
        · refine y_iinc C 2 [(4, .int (sI (a134 + 1))), (0, .ref (ad 88)), (3, .int (sI a3))] dX5_look_58 rfl (by decide) rfl ?_
          refine j_goto C 31 dX5_look_61 (by decide) ?_
          have u143l := lkq_n (M := M135) (f := (seH (rwX M0 v1 15) (sI a3))) (t := a134) (t' := a134 + 1) (by exact h136.2.2.1) (by exact h142) rfl
          refine j_lv [1, 2, 0] rfl ?_; exact ih132 (a134 + 1) M135 (by exact ⟨(by (clear h142 ua141 la141 ua138 la138 u137v e88M135 fM135 hM135 ih132 u115A u115T u115l ua113 la113 hM112 eM112 ua110 la110 h109 fM107 hM107 e88a h104 fM102 hM102 hret C hp4 hp3 hp2 hp1 hp0 ha3 cv1 hpr hM0; omega)), ⟨(by (clear h142 ua141 la141 ua138 la138 u137v e88M135 fM135 hM135 ih132 u115A u115T u115l ua113 la113 hM112 eM112 ua110 la110 h109 fM107 hM107 e88a h104 fM102 hM102 hret C hp4 hp3 hp2 hp1 hp0 ha3 cv1 hpr hM0; omega)), ⟨u143l, ⟨h136.2.2.2.1, ⟨h136.2.2.2.2.1, ⟨(by (clear h142 ua141 la141 ua138 la138 u137v e88M135 fM135 hM135 ih132 u115A u115T u115l ua113 la113 hM112 eM112 ua110 la110 h109 fM107 hM107 e88a h104 fM102 hM102 hret C hp4 hp3 hp2 hp1 hp0 ha3 cv1 hpr hM0; omega)), ⟨(by (clear h142 ua141 la141 ua138 la138 u137v e88M135 fM135 hM135 ih132 u115A u115T u115l ua113 la113 hM112 eM112 ua110 la110 h109 fM107 hM107 e88a h104 fM102 hM102 hret C hp4 hp3 hp2 hp1 hp0 ha3 cv1 hpr hM0; omega)), (by (clear h142 ua141 la141 ua138 la138 u137v e88M135 fM135 hM135 ih132 u115A u115T u115l ua113 la113 hM112 eM112 ua110 la110 h109 fM107 hM107 e88a h104 fM102 hM102 hret C hp4 hp3 hp2 hp1 hp0 ha3 cv1 hpr hM0; omega))⟩⟩⟩⟩⟩⟩⟩) hM135 (FX.rf.tr fM135 (by decide))
        · have u144r : b01 (RC (seH (rwX M0 v1 15) (sI a3)) a134) = 1 := b01_i ((b01_e (P := LKQ M135 (seH (rwX M0 v1 15) (sI a3)) a134) (by exact h136.2.2.1)).2.1 a134 (by exact h136.1) (by (clear h142 ua141 la141 ua138 la138 u137v e88M135 fM135 hM135 ih132 u115A u115T u115l ua113 la113 ea113 hM112 eM112 ua110 la110 ea110 h109 fM107 hM107 u105a e88a h104 fM102 hM102 hret C hp4 hp3 hp2 hp1 hp0 ha3 cv1 hpr hM0; omega)) (by exact h142))
          refine j_aload_n C 0 0 dX5_look_51 rfl rfl ?_
          refine j_iload C 2 dX5_look_52 rfl ?_
          refine j_iload_n C 1 3 dX5_look_54 rfl rfl ?_
          refine j_callVv C (d := 4) (As := [.int (sI a134), .int (sI a3)]) (st := []) 88 (s_lt rfl rfl) (s_kc (c := 4) rfl rfl) (by decide) rfl (s2_X5_meet hM135 hpr a134 (by (clear u144r h142 ua141 la141 h140 ua138 la138 u137v u137a e88M135 fM135 hM135 ih132 u115A u115T u115l ua113 la113 ea113 hM112 eM112 ua110 la110 ea110 h109 fM107 hM107 u105v u105a e88a h104 fM102 hM102 hret C hp4 hp3 hp2 hp1 hp0 ha3 cv1 hpr hM0; omega)) a3 (by exact ⟨ha3.1, ha3.2⟩) v1 cv1 (e88M135) (rwX M0 v1 15) (by exact h136.2.2.2.1) (by exact h136.2.2.2.2.1) (by exact h136.2.2.1) (by exact u144r) (by exact ⟨h136.2.2.2.2.2.1, (by (clear u144r h142 ua141 la141 ua138 la138 u137v e88M135 fM135 hM135 ih132 u115A u115T u115l ua113 la113 hM112 eM112 ua110 la110 h109 fM107 hM107 u105v e88a h104 fM102 hM102 hret C hp4 hp3 hp2 hp1 hp0 ha3 cv1 hpr hM0; omega))⟩) (by exact ⟨h136.1, (by (clear u144r h142 ua141 la141 ua138 la138 u137v e88M135 fM135 hM135 ih132 u115A u115T u115l ua113 la113 ea113 hM112 eM112 ua110 la110 ea110 h109 fM107 hM107 u105a e88a h104 fM102 hM102 hret C hp4 hp3 hp2 hp1 hp0 ha3 cv1 hpr hM0; omega))⟩) (by exact ⟨hp4.1, hp4.2⟩)) gX5_look_X5_meet rfl hdX5_meet (by decide) (Nat.le_of_ble_eq_true rfl) dX5_look_55 rfl (fun M146 h147 => ?_)
          obtain ⟨hM146, fM146, h148⟩ := h147
          refine y_iinc C 2 [(4, .int (sI (a134 + 1))), (0, .ref (ad 88)), (3, .int (sI a3))] dX5_look_58 rfl (by decide) rfl ?_
          refine j_goto C 31 dX5_look_61 (by decide) ?_
          have u149A := aim_c (M := M135) (N := M146) (p := v1) (f := (seH (rwX M0 v1 15) (sI a3))) (by exact h136.2.2.2.2.1) ((FX.rf.tr fM146 (by decide)) : FX [82, 85, 86, 89, 90] M135 M146) cv1 (by decide)
          refine j_lv [1, 2, 0] rfl ?_; exact ih132 (a134 + 1) M146 (by exact ⟨(by (clear fM146 hM146 u144r h142 ua141 la141 ua138 la138 u137v e88M135 fM135 hM135 ih132 u115A u115T u115l ua113 la113 hM112 eM112 ua110 la110 h109 fM107 hM107 e88a h104 fM102 hM102 hret C hp4 hp3 hp2 hp1 hp0 ha3 cv1 hpr hM0; omega)), ⟨(by (clear fM146 hM146 u144r h142 ua141 la141 ua138 la138 u137v e88M135 fM135 hM135 ih132 u115A u115T u115l ua113 la113 hM112 eM112 ua110 la110 h109 fM107 hM107 e88a h104 fM102 hM102 hret C hp4 hp3 hp2 hp1 hp0 ha3 cv1 hpr hM0; omega)), ⟨h148.1, ⟨h148.2, ⟨u149A, ⟨(by (clear fM146 hM146 u144r h142 ua141 la141 ua138 la138 u137v e88M135 fM135 hM135 ih132 u115A u115T u115l ua113 la113 hM112 eM112 ua110 la110 h109 fM107 hM107 e88a h104 fM102 hM102 hret C hp4 hp3 hp2 hp1 hp0 ha3 cv1 hpr hM0; omega)), ⟨(by (clear fM146 hM146 u144r h142 ua141 la141 ua138 la138 u137v e88M135 fM135 hM135 ih132 u115A u115T u115l ua113 la113 hM112 eM112 ua110 la110 h109 fM107 hM107 e88a h104 fM102 hM102 hret C hp4 hp3 hp2 hp1 hp0 ha3 cv1 hpr hM0; omega)), (by (clear fM146 hM146 u144r h142 ua141 la141 ua138 la138 u137v e88M135 fM135 hM135 ih132 u115A u115T u115l ua113 la113 hM112 eM112 ua110 la110 h109 fM107 hM107 e88a h104 fM102 hM102 hret C hp4 hp3 hp2 hp1 hp0 ha3 cv1 hpr hM0; omega))⟩⟩⟩⟩⟩⟩⟩) hM146 ((FX.rf.tr fM135 (by decide)).tr fM146 (by decide))
  refine j_lv [1, 4, 0] rfl ?_; exact L133 2010 (M102.1 88 13).toInt M112 (by exact ⟨la110, ⟨(by (clear L133 ua113 la113 hM112 eM112 la110 h109 fM107 hM107 u105v e88a h104 fM102 hM102 hret C hp4 hp3 hp2 hp1 hp0 ha3 cv1 hpr hM0; omega)), ⟨u115l, ⟨u115T, ⟨u115A, ⟨(by (clear L133 ua113 la113 hM112 eM112 la110 h109 fM107 hM107 u105v e88a h104 fM102 hM102 hret C hp4 hp3 hp2 hp1 hp0 ha3 cv1 hpr hM0; omega)), ⟨(by (clear L133 ua113 la113 hM112 eM112 la110 h109 fM107 hM107 u105v e88a h104 fM102 hM102 hret C hp4 hp3 hp2 hp1 hp0 ha3 cv1 hpr hM0; omega)), (by (clear L133 ua113 la113 hM112 eM112 la110 h109 fM107 hM107 u105v e88a h104 fM102 hM102 hret C hp4 hp3 hp2 hp1 hp0 ha3 cv1 hpr hM0; omega))⟩⟩⟩⟩⟩⟩⟩) hM112 (((FX.rf.tr fM102 (by decide)).tr fM107 (by decide)).wI eM112 (by decide))
set_option maxHeartbeats 4000000 in
theorem s2_X11_bestPrice {l : Launch} {dC : Nat → ClassId} {dI : Nat → Nat → Nat} {ad : Nat → Nat} {cA : Nat → ClassId} {pr : Nat → Nat → Bool} {Kz : mm_M} {M0 : mm_M} (hM0 : INV pr Kz M0) (hpr : PX pr) (hq8_0 : ∀ i, s_c i = 8 → pr i 0 = false) (a1 : Int) (ha1 : -2147483648 ≤ a1 ∧ a1 ≤ 2147483647) (a2 : Int) (ha2 : -2147483648 ≤ a2 ∧ a2 ≤ 2147483647) (gp : Nat) (cgp : s_c gp = 6) (egp : gp = M0.2.2 0 4) (hp0 : b01 (APX M0 gp) = 1) (hp1 : b01 (LAW M0 gp) = 1) (hp2 : b01 (PRR (rwX M0 gp 12)) = 1) (hp3 : (M0.1 12 3).toInt < pw2 (M0.1 12 0).toInt) : Ci l 6 yX11_bestPrice wsX11_bestPrice dC dI ad cA [.ref (ad 0), .int (sI a1), .int (sI a2)] M0 (fun r M' => ∃ a : Int, r = sI a ∧ INV pr Kz M' ∧ FX [15, 16, 17, 81, 82, 83, 84, 85, 86, 88, 89, 90, 92, 93, 94] M0 M' ∧ (-5) ≤ a ∧ a ≤ 99 ∧ (b01 (APX M' gp) = 1)) := by
  refine ci_of (cc := cX11_bestPrice) (maxL := 7) (ty := .int) (lv := [(0, .ref (ad 0)), (1, .int (sI a1)), (2, .int (sI a2))]) (by decide) rfl (fun r M' hp => rfl) (Nat.le_of_ble_eq_true rfl) rfl ?_
  intro p e s m args below meth c A Q C hret
  refine j_aload_n C 0 0 dX11_bestPrice_0 rfl rfl ?_
  refine j_iload_n C 1 1 dX11_bestPrice_1 rfl rfl ?_
  refine j_callVi C (d := 0) (As := [.int (sI a1)]) (st := []) 0 (s_lt rfl rfl) (s_kc (c := 10) rfl rfl) (by decide) rfl (s1_X11_isKind hM0 a1 (by exact ⟨ha1.1, ha1.2⟩)) gX11_bestPrice_X11_isKind rfl hdX11_isKind (by decide) (Nat.le_of_ble_eq_true rfl) dX11_bestPrice_2 rfl (fun r102 M103 h104 => ?_)
  obtain ⟨a106, rfl, rfl, h105⟩ := h104
  refine y_if_ne C 11 dX11_bestPrice_5 (by decide) (by omega) (fun h107 => ?_) (fun h107 => ?_)
  · refine j_iload_n C 2 2 dX11_bestPrice_11 rfl rfl ?_
    refine y_iconst C dX11_bestPrice_12 ?_
    refine y_icmp_lt C 21 dX11_bestPrice_13 (by decide) (by exact ⟨⟨ha2.1, ha2.2⟩, ⟨(by decide), (by decide)⟩⟩) (fun h108 => ?_) (fun h108 => ?_)
    · refine y_bipush C dX11_bestPrice_21 rfl ?_
      exact hret _ _ _ _ dX11_bestPrice_23 ⟨(-3), rfl, hM0, FX.rf, by exact ⟨(by decide), ⟨(by decide), hp0⟩⟩⟩
    · refine j_iload_n C 2 2 dX11_bestPrice_16 rfl rfl ?_
      refine y_iconst C dX11_bestPrice_17 ?_
      refine y_icmp_le C 24 dX11_bestPrice_18 (by decide) (by exact ⟨⟨ha2.1, ha2.2⟩, ⟨(by decide), (by decide)⟩⟩) (fun h110 => ?_) (fun h110 => ?_)
      · refine j_aload_n C 0 0 dX11_bestPrice_24 rfl rfl ?_
        refine y_getC C 10 12 fX11_bestPrice_36 rfl rfl ft_10_6 sm_10_6 rfl hM0 dX11_bestPrice_25 ?_
        refine j_callVi C (d := 1) (As := []) (st := []) 12 (s_lt rfl rfl) (s_kc (c := 8) rfl rfl) (by decide) rfl (s1_X9_isShut hM0 rfl) gX11_bestPrice_X9_isShut rfl hdX9_isShut (by decide) (Nat.le_of_ble_eq_true rfl) dX11_bestPrice_28 rfl (fun r111 M112 h113 => ?_)
        obtain ⟨a115, rfl, rfl, h114⟩ := h113
        refine y_if_eq C 37 dX11_bestPrice_31 (by decide) (by omega) (fun h116 => ?_) (fun h116 => ?_)
        · refine j_aload_n C 0 0 dX11_bestPrice_37 rfl rfl ?_
          refine y_getC C 10 15 fX11_bestPrice_40 rfl rfl ft_10_7 sm_10_7 rfl hM0 dX11_bestPrice_38 ?_
          refine j_aload_n C 0 0 dX11_bestPrice_41 rfl rfl ?_
          refine y_getC C 10 12 fX11_bestPrice_36 rfl rfl ft_10_6 sm_10_6 rfl hM0 dX11_bestPrice_42 ?_
          refine j_callVv C (d := 0) (As := [.ref (ad 12)]) (st := []) 15 (s_lt rfl rfl) (s_kc (c := 8) rfl rfl) (by decide) rfl (s2_X9_copyFrom hM0 hpr hq8_0) gX11_bestPrice_X9_copyFrom rfl hdX9_copyFrom (by decide) (Nat.le_of_ble_eq_true rfl) dX11_bestPrice_45 rfl (fun M118 h119 => ?_)
          obtain ⟨hM118, fM118, h120⟩ := h119
          refine y_iconst C dX11_bestPrice_48 ?_
          refine j_istore_n C 3 [(3, .int (sI 1)), (0, .ref (ad 0)), (1, .int (sI a1)), (2, .int (sI a2))] dX11_bestPrice_49 rfl (by decide) rfl ?_
          refine y_ldc2 C (-1) dX11_bestPrice_50 kX11_bestPrice_219 rfl ?_
          refine j_lstore C 4 [(4, .long (sJ (-1))), (3, .int (sI 1)), (0, .ref (ad 0)), (1, .int (sI a1)), (2, .int (sI a2))] dX11_bestPrice_53 (by decide) rfl ?_
          refine y_iconst C dX11_bestPrice_55 ?_
          refine j_istore C 6 [(6, .int (sI 1)), (4, .long (sJ (-1))), (3, .int (sI 1)), (0, .ref (ad 0)), (1, .int (sI a1)), (2, .int (sI a2))] dX11_bestPrice_56 (by decide) rfl ?_
          have u121A7 := hM0.rd (i := gp) (c := 6) (k := 7) cgp (show s_b 6 7 = (0, 900) from rfl)
          have u121A9 := hM0.rd (i := gp) (c := 6) (k := 9) cgp (show s_b 6 9 = (0, 900) from rfl)
          have u121A := apx_o (M := M0) (N := M118) (p := gp) (ple_f (p := gp) ((FX.rf.tr fM118 (by decide)) : FX [15, 16, 17] M0 M118) cgp (by decide)) (((FX.rf.tr fM118 (by decide)) : FX [15, 16, 17] M0 M118).cell (by decide)) (((FX.rf.tr fM118 (by decide)) : FX [15, 16, 17] M0 M118).cell (by decide)) (((FX.rf.tr fM118 (by decide)) : FX [15, 16, 17] M0 M118).cell (by decide)) u121A7.1 u121A9.1 (by exact hp0)
          have u121e : rwX M118 gp 15 = (rwX M0 gp 12) := rx_eq (M := M0) (N := M118) (p := gp) (v := 15) (w := 12) (ple_f (p := gp) ((FX.rf.tr fM118 (by decide)) : FX [15, 16, 17] M0 M118) cgp (by decide)) (b01_e (by exact h120))
          have u121R : b01 (PRR (rwX M118 gp 15)) = 1 := by rw [u121e]; exact hp2
          have u121S : (M118.1 15 3).toInt < pw2 (M118.1 15 0).toInt := by rw [show M118.1 15 3 = M0.1 12 3 from congrFun u121e 27, show M118.1 15 0 = M0.1 12 0 from congrFun u121e 26]; exact hp3
          have L718 : ∀ (n716 : Nat), ∀ (a719 : Int) (a720 : Int) (a721 : Int) (M722 : mm_M), (1 ≤ a719 ∧ a719 ≤ 99 ∧ (-9223372036854775808) ≤ a720 ∧ a720 ≤ 9223372036854775807 ∧ 1 ≤ a721 ∧ a721 ≤ 100 ∧ (b01 (APX M722 gp) = 1) ∧ (b01 (PRR (rwX M722 gp 15)) = 1) ∧ ((M722.1 15 3).toInt < pw2 (M722.1 15 0).toInt) ∧ (100 - a721) < (n716 : Int)) → INV pr Kz M722 → FX [15, 16, 17, 81, 82, 83, 84, 85, 86, 88, 89, 90, 92, 93, 94] M0 M722 → jj p l e (cn_R 6) s m args below meth c 0 0 Q 7 dC dI ad cA A M722 58 [(0, .ref (ad 0)), (1, .int (sI a1)), (2, .int (sI a2)), (3, .int (sI a719)), (4, .long (sJ a720)), (6, .int (sI a721))] [] := by
            intro n716
            induction n716 with
            | zero =>
              intro a719 a720 a721 M722 h723 hM722 fM722
              exfalso; (clear fM722 hM722 u121S u121R u121e u121A u121A9 u121A7 h120 fM118 hM118 h116 h114 h110 h108 h107 h105 hret C hp3 hp2 hp1 hp0 egp cgp ha2 ha1 hq8_0 hpr hM0; omega)
            | succ n716 ih717 =>
              intro a719 a720 a721 M722 h723 hM722 fM722
              refine j_iload C 5 dX11_bestPrice_58 rfl ?_
              refine y_bipush C dX11_bestPrice_60 rfl ?_
              refine y_icmp_gt C 146 dX11_bestPrice_62 (by decide) (by exact ⟨⟨(by (clear fM722 hM722 ih717 u121S u121R u121e u121A u121A9 u121A7 h120 fM118 hM118 h116 h114 h110 h108 h107 h105 hret C hp3 hp2 hp1 hp0 egp cgp ha2 ha1 hq8_0 hpr hM0; omega)), (by (clear fM722 hM722 ih717 u121S u121R u121e u121A u121A9 u121A7 h120 fM118 hM118 h116 h114 h110 h108 h107 h105 hret C hp3 hp2 hp1 hp0 egp cgp ha2 ha1 hq8_0 hpr hM0; omega))⟩, ⟨(by decide), (by decide)⟩⟩) (fun h725 => ?_) (fun h725 => ?_)
              · refine j_iload_n C 3 3 dX11_bestPrice_146 rfl rfl ?_
                exact hret _ _ _ _ dX11_bestPrice_147 ⟨a719, rfl, hM722, (FX.rf.tr fM722 (by decide)), by exact ⟨(by (clear h725 fM722 hM722 ih717 u121S u121R u121e u121A u121A9 u121A7 h120 fM118 hM118 h116 h114 h110 h108 h107 h105 hret C hp3 hp2 hp1 hp0 egp cgp ha2 ha1 hq8_0 hpr hM0; omega)), ⟨h723.2.1, h723.2.2.2.2.2.2.1⟩⟩⟩
              · refine j_aload_n C 0 0 dX11_bestPrice_65 rfl rfl ?_
                refine y_getC C 10 15 fX11_bestPrice_40 rfl rfl ft_10_7 sm_10_7 rfl hM722 dX11_bestPrice_66 ?_
                refine y_getC C 8 16 fX11_bestPrice_144 rfl rfl ft_8_1 sm_8_1 rfl hM722 dX11_bestPrice_69 ?_
                refine j_iload_n C 1 1 dX11_bestPrice_72 rfl rfl ?_
                refine j_iload C 5 dX11_bestPrice_73 rfl ?_
                refine y_iastF C 25 8 rfl rfl rfl ak_25 an_25 rfl (sb_25 _) hM722 (PX.w hpr rfl rfl) dX11_bestPrice_75 (by (clear h725 fM722 hM722 h723 ih717 u121S u121R u121e u121A u121A9 u121A7 h120 fM118 hM118 h110 h108 hret C hp3 hp2 hp1 hp0 egp cgp ha2 hq8_0 hpr hM0; omega)) (fun M726 eM726 hM726 => ?_)
                have u727A7 := hM722.rd (i := gp) (c := 6) (k := 7) cgp (show s_b 6 7 = (0, 900) from rfl)
                have u727A9 := hM722.rd (i := gp) (c := 6) (k := 9) cgp (show s_b 6 9 = (0, 900) from rfl)
                have u727A := apx_o (M := M722) (N := M726) (p := gp) (ple_f (p := gp) ((FX.rf.wI eM726 (by decide)) : FX [16] M722 M726) cgp (by decide)) (((FX.rf.wI eM726 (by decide)) : FX [16] M722 M726).cell (by decide)) (((FX.rf.wI eM726 (by decide)) : FX [16] M722 M726).cell (by decide)) (((FX.rf.wI eM726 (by decide)) : FX [16] M722 M726).cell (by decide)) u727A7.1 u727A9.1 (by exact h723.2.2.2.2.2.2.1)
                have u727L7 := hM0.rd (i := gp) (c := 6) (k := 7) cgp (show s_b 6 7 = (0, 900) from rfl)
                have u727L9 := hM0.rd (i := gp) (c := 6) (k := 9) cgp (show s_b 6 9 = (0, 900) from rfl)
                have u727L := law_p (M := M0) (N := M726) (p := gp) (ple_f (p := gp) (((FX.rf.tr fM722 (by decide)).wI eM726 (by decide)) : FX [15, 16, 17, 81, 82, 83, 84, 85, 86, 88, 89, 90, 92, 93, 94] M0 M726) cgp (by decide)) u727L7.1 u727L9.1 (by exact hp1)
                have u727R : b01 (PRR (rwX M726 gp 15)) = 1 := by rw [rx_p (v := 15) cgp rfl eM726 (by (clear u727L u727L9 u727L7 u727A u727A9 u727A7 hM726 eM726 h725 fM722 hM722 h723 ih717 u121S u121R u121e u121A u121A9 u121A7 h120 fM118 hM118 h110 h108 hret C hp3 hp2 hp1 hp0 egp cgp ha2 hq8_0 hpr hM0; omega))]; exact b01_i (prr_p (b01_e (by exact h723.2.2.2.2.2.2.2.1)) (by (clear u727L u727L9 u727L7 u727A u727A9 u727A7 hM726 eM726 h725 fM722 hM722 h723 ih717 u121S u121R u121e u121A u121A9 u121A7 h120 fM118 hM118 h110 h108 hret C hp3 hp2 hp1 hp0 egp cgp ha2 hq8_0 hpr hM0; omega)) (by exact ⟨h723.2.2.2.2.1, (by (clear u727L u727L9 u727L7 u727A u727A9 u727A7 hM726 eM726 fM722 hM722 ih717 u121S u121R u121e u121A u121A9 u121A7 h120 fM118 hM118 h116 h114 h110 h108 h107 h105 hret C hp3 hp2 hp1 hp0 egp cgp ha2 ha1 hq8_0 hpr hM0; omega))⟩))
                have u727S : (M726.1 15 3).toInt < pw2 (M726.1 15 0).toInt := by rw [((FX.rf.wI eM726 (by decide)) : FX [16] M722 M726).cell (i := 15) (by decide)]; exact h723.2.2.2.2.2.2.2.2.1
                refine j_aload_n C 0 0 dX11_bestPrice_76 rfl rfl ?_
                refine y_getC C 10 88 fX11_bestPrice_94 rfl rfl ft_10_14 sm_10_14 rfl hM726 dX11_bestPrice_77 ?_
                refine j_aload_n C 0 0 dX11_bestPrice_80 rfl rfl ?_
                refine y_getV C 10 gp fX11_bestPrice_26 rfl rfl ft_10_4 (s_pI eM726 (s_pX fM722 (egp))) dX11_bestPrice_81 ?_
                refine j_aload_n C 0 0 dX11_bestPrice_84 rfl rfl ?_
                refine y_getC C 10 15 fX11_bestPrice_40 rfl rfl ft_10_7 sm_10_7 rfl hM726 dX11_bestPrice_85 ?_
                refine j_aload_n C 0 0 dX11_bestPrice_88 rfl rfl ?_
                refine y_getC C 10 15 fX11_bestPrice_40 rfl rfl ft_10_7 sm_10_7 rfl hM726 dX11_bestPrice_89 ?_
                refine y_getI C 8 _ _ fX11_bestPrice_153 rfl rfl ft_8_4 sb_8_4 hM726 dX11_bestPrice_92 (fun a728 ea728 la728 ua728 => ?_)
                have qa728 : a728 = (M722.1 15 4).toInt := s_fa eM726 (by decide) (ea728)
                refine j_callVv C (d := 5) (As := [.ref (ad gp), .ref (ad 15), .int (sI a728)]) (st := []) 88 (s_lt rfl rfl) (s_kc (c := 4) rfl rfl) (by decide) rfl (s3_X5_look hM726 hpr cgp a728 (by (clear u727S u727R u727L u727L9 u727L7 u727A u727A9 u727A7 hM726 eM726 h725 fM722 hM722 h723 ih717 u121S u121R u121e u121A u121A9 u121A7 h120 fM118 hM118 h116 h114 h110 h108 h107 h105 hret C hp3 hp2 hp1 hp0 egp cgp ha2 ha1 hq8_0 hpr hM0; omega)) (by exact u727A) (by exact u727L) (by exact u727R) (by exact u727S) (by exact ⟨la728, ua728⟩)) gX11_bestPrice_X5_look rfl hdX5_look (by decide) (Nat.le_of_ble_eq_true rfl) dX11_bestPrice_95 rfl (fun M731 h732 => ?_)
                obtain ⟨hM731, fM731, h733⟩ := h732
                have u734a := tn_a (M := M731) (p := gp) (f := rwX M726 gp 15) (by exact h733.2.1)
                refine j_aload_n C 0 0 dX11_bestPrice_98 rfl rfl ?_
                refine y_getC C 10 88 fX11_bestPrice_94 rfl rfl ft_10_14 sm_10_14 rfl hM731 dX11_bestPrice_99 ?_
                refine j_iload_n C 2 2 dX11_bestPrice_102 rfl rfl ?_
                refine j_callVv C (d := 3) (As := [.int (sI a2)]) (st := []) 88 (s_lt rfl rfl) (s_kc (c := 4) rfl rfl) (by decide) rfl (s2_X5_passDays hM731 hpr a2 (by exact ⟨ha2.1, ha2.2⟩)) gX11_bestPrice_X5_passDays rfl hdX5_passDays (by decide) (Nat.le_of_ble_eq_true rfl) dX11_bestPrice_103 rfl (fun M736 h737 => ?_)
                obtain ⟨hM736, fM736⟩ := h737
                refine j_aload_n C 0 0 dX11_bestPrice_106 rfl rfl ?_
                refine y_getC C 10 88 fX11_bestPrice_94 rfl rfl ft_10_14 sm_10_14 rfl hM736 dX11_bestPrice_107 ?_
                refine y_getJ C 4 fX11_bestPrice_341 rfl rfl ft_4_8 dX11_bestPrice_110 (fun a739 ea739 la739 ua739 => ?_)
                refine j_lload C 4 dX11_bestPrice_113 rfl ?_
                have J742 : ∀ (a741 : Int), (1 ≤ a741 ∧ a741 ≤ 99) → jj p l e (cn_R 6) s m args below meth c 0 0 Q 7 dC dI ad cA A M736 125 [(0, .ref (ad 0)), (1, .int (sI a1)), (2, .int (sI a2)), (4, .long (sJ a720)), (6, .int (sI a721))] [.int (sI a741)] := by
                  intro a741 h743
                  refine j_istore_n C 3 [(3, .int (sI a741)), (0, .ref (ad 0)), (1, .int (sI a1)), (2, .int (sI a2)), (4, .long (sJ a720)), (6, .int (sI a721))] dX11_bestPrice_125 rfl (by decide) rfl ?_
                  refine j_lload C 4 dX11_bestPrice_126 rfl ?_
                  refine j_aload_n C 1 0 dX11_bestPrice_128 rfl rfl ?_
                  refine y_getC C 10 88 fX11_bestPrice_94 rfl rfl ft_10_14 sm_10_14 rfl hM736 dX11_bestPrice_129 ?_
                  refine y_getJ C 4 fX11_bestPrice_341 rfl rfl ft_4_8 dX11_bestPrice_132 (fun a744 ea744 la744 ua744 => ?_)
                  refine y_mmaxl C wX11_bestPrice_330_0 wX11_bestPrice_330_1 wX11_bestPrice_330_2 wX11_bestPrice_330_3 (by decide) (Nat.le_of_ble_eq_true rfl) dX11_bestPrice_135 (fun a745 la745 ua745 => ?_)
                  refine j_lstore C 4 [(4, .long (sJ a745)), (3, .int (sI a741)), (0, .ref (ad 0)), (1, .int (sI a1)), (2, .int (sI a2)), (6, .int (sI a721))] dX11_bestPrice_138 (by decide) rfl ?_
                  refine y_iinc C 5 [(6, .int (sI (a721 + 1))), (4, .long (sJ a745)), (3, .int (sI a741)), (0, .ref (ad 0)), (1, .int (sI a1)), (2, .int (sI a2))] dX11_bestPrice_140 rfl (by decide) rfl ?_
                  refine j_goto C 58 dX11_bestPrice_143 (by decide) ?_
                  have u746A7 := hM731.rd (i := gp) (c := 6) (k := 7) cgp (show s_b 6 7 = (0, 900) from rfl)
                  have u746A9 := hM731.rd (i := gp) (c := 6) (k := 9) cgp (show s_b 6 9 = (0, 900) from rfl)
                  have u746A := apx_o (M := M731) (N := M736) (p := gp) (ple_f (p := gp) ((FX.rf.tr fM736 (by decide)) : FX [88, 92, 93, 94] M731 M736) cgp (by decide)) (((FX.rf.tr fM736 (by decide)) : FX [88, 92, 93, 94] M731 M736).cell (by decide)) (((FX.rf.tr fM736 (by decide)) : FX [88, 92, 93, 94] M731 M736).cell (by decide)) (((FX.rf.tr fM736 (by decide)) : FX [88, 92, 93, 94] M731 M736).cell (by decide)) u746A7.1 u746A9.1 (by exact u734a)
                  have u746R : b01 (PRR (rwX M736 gp 15)) = 1 := by rw [(rx_f (p := gp) (v := 15) (ple_f (p := gp) (((FX.rf.tr fM731 (by decide)).tr fM736 (by decide)) : FX [81, 82, 83, 84, 85, 86, 88, 89, 90, 92, 93, 94] M726 M736) cgp (by decide)) (ske_n (((FX.rf.tr fM731 (by decide)).tr fM736 (by decide)) : FX [81, 82, 83, 84, 85, 86, 88, 89, 90, 92, 93, 94] M726 M736) ⟨by decide, by decide, by decide⟩))]; exact u727R
                  have u746S : (M736.1 15 3).toInt < pw2 (M736.1 15 0).toInt := by rw [((((FX.rf.wI eM726 (by decide)).tr fM731 (by decide)).tr fM736 (by decide)) : FX [16, 81, 82, 83, 84, 85, 86, 88, 89, 90, 92, 93, 94] M722 M736).cell (i := 15) (by decide)]; exact h723.2.2.2.2.2.2.2.2.1
                  refine j_lv [3, 4, 5, 2, 1, 0] rfl ?_; exact ih717 a741 a745 (a721 + 1) M736 (by exact ⟨h743.1, ⟨h743.2, ⟨la745, ⟨ua745, ⟨(by (clear u746A9 u746A7 ua744 la744 ea744 ua739 la739 ea739 fM736 hM736 u734a h733 fM731 hM731 qa728 ua728 la728 ea728 u727S u727R u727L u727L9 u727L7 u727A u727A9 u727A7 hM726 eM726 fM722 hM722 ih717 u121S u121R u121e u121A u121A9 u121A7 h120 fM118 hM118 h116 h114 h110 h108 h107 h105 hret C hp3 hp2 hp1 hp0 egp cgp ha2 ha1 hq8_0 hpr hM0; omega)), ⟨(by (clear u746A9 u746A7 ua744 la744 ea744 ua739 la739 ea739 fM736 hM736 u734a h733 fM731 hM731 qa728 ua728 la728 ea728 u727S u727R u727L u727L9 u727L7 u727A u727A9 u727A7 hM726 eM726 fM722 hM722 ih717 u121S u121R u121e u121A u121A9 u121A7 h120 fM118 hM118 h116 h114 h110 h108 h107 h105 hret C hp3 hp2 hp1 hp0 egp cgp ha2 ha1 hq8_0 hpr hM0; omega)), ⟨u746A, ⟨u746R, ⟨u746S, (by (clear u746A9 u746A7 ua744 la744 ea744 ua739 la739 ea739 fM736 hM736 u734a h733 fM731 hM731 qa728 ua728 la728 ea728 u727S u727R u727L u727L9 u727L7 u727A u727A9 u727A7 hM726 eM726 fM722 hM722 ih717 u121S u121R u121e u121A u121A9 u121A7 h120 fM118 hM118 h116 h114 h110 h108 h107 h105 hret C hp3 hp2 hp1 hp0 egp cgp ha2 ha1 hq8_0 hpr hM0; omega))⟩⟩⟩⟩⟩⟩⟩⟩⟩) hM736 ((((FX.rf.tr fM722 (by decide)).wI eM726 (by decide)).tr fM731 (by decide)).tr fM736 (by decide))
                refine y_lcmp_le C 124 dX11_bestPrice_115 dX11_bestPrice_116 (by decide) (by exact ⟨⟨la739, ua739⟩, ⟨h723.2.2.1, h723.2.2.2.1⟩⟩) (fun h740 => ?_) (fun h740 => ?_)
                · refine j_iload_n C 3 3 dX11_bestPrice_124 rfl rfl ?_
                  refine j_lv [0, 1, 2, 4, 5] rfl ?_; exact J742 a719 (by exact ⟨h723.1, h723.2.1⟩)
                · refine j_iload C 5 dX11_bestPrice_119 rfl ?_
                  refine j_goto C 125 dX11_bestPrice_121 (by decide) ?_
                  refine j_lv [0, 1, 2, 4, 5] rfl ?_; exact J742 a721 (by exact ⟨h723.2.2.2.2.1, (by (clear h740 J742 ua739 la739 ea739 fM736 hM736 u734a h733 fM731 hM731 qa728 ua728 la728 ea728 u727S u727R u727L u727L9 u727L7 u727A u727A9 u727A7 hM726 eM726 fM722 hM722 ih717 u121S u121R u121e u121A u121A9 u121A7 h120 fM118 hM118 h116 h114 h110 h108 h107 h105 hret C hp3 hp2 hp1 hp0 egp cgp ha2 ha1 hq8_0 hpr hM0; omega))⟩)
          refine j_lv [3, 4, 5, 2, 1, 0] rfl ?_; exact L718 2010 1 (-1) 1 M118 (by exact ⟨(by decide), ⟨(by decide), ⟨(by decide), ⟨(by decide), ⟨(by decide), ⟨(by decide), ⟨u121A, ⟨u121R, ⟨u121S, (by decide)⟩⟩⟩⟩⟩⟩⟩⟩⟩) hM118 (FX.rf.tr fM118 (by decide))
        · refine y_bipush C dX11_bestPrice_34 rfl ?_
          exact hret _ _ _ _ dX11_bestPrice_36 ⟨(-5), rfl, hM0, FX.rf, by exact ⟨(by decide), ⟨(by decide), hp0⟩⟩⟩
      · refine y_bipush C dX11_bestPrice_21 rfl ?_
        exact hret _ _ _ _ dX11_bestPrice_23 ⟨(-3), rfl, hM0, FX.rf, by exact ⟨(by decide), ⟨(by decide), hp0⟩⟩⟩
  · refine y_bipush C dX11_bestPrice_8 rfl ?_
    exact hret _ _ _ _ dX11_bestPrice_10 ⟨(-2), rfl, hM0, FX.rf, by exact ⟨(by decide), ⟨(by decide), hp0⟩⟩⟩
set_option maxHeartbeats 4000000 in
theorem s3_X5_meet {l : Launch} {dC : Nat → ClassId} {dI : Nat → Nat → Nat} {ad : Nat → Nat} {cA : Nat → ClassId} {pr : Nat → Nat → Bool} {Kz : mm_M} {M0 : mm_M} (hM0 : INV pr Kz M0) (hpr : PX pr) (a1 : Int) (ha1 : -2147483648 ≤ a1 ∧ a1 ≤ 2147483647) (a2 : Int) (ha2 : -2147483648 ≤ a2 ∧ a2 ≤ 2147483647) (gp : Nat) (cgp : s_c gp = 6) (egp : gp = M0.2.2 88 9) (f : Nat → Int32) (hp0 : b01 (TN M0 gp f) = 1) (hp1 : 0 ≤ a1 ∧ a1 ≤ 255) (hp2 : 0 ≤ a2 ∧ a2 ≤ 255) : Cv l 4 yX5_meet wsX5_meet dC dI ad cA [.ref (ad 88), .int (sI a1), .int (sI a2)] M0 (fun M' => INV pr Kz M' ∧ FX [82, 85, 86, 89, 90] M0 M' ∧ (b01 (TN M' gp f) = 1)) := by
  refine cv_of (cc := cX5_meet) (maxL := 5) (lv := [(0, .ref (ad 88)), (1, .int (sI a1)), (2, .int (sI a2))]) (by decide) rfl (Nat.le_of_ble_eq_true rfl) rfl ?_
  intro p e s m args below meth c A Q C hret
  have e81g : gp = M0.2.2 81 5 := (b01_e (P := TN M0 gp f) (by exact hp0)).1.1.symm
  refine j_aload_n C 0 0 dX5_meet_0 rfl rfl ?_
  refine y_getC C 4 90 fX5_meet_15 rfl rfl ft_4_2 sm_4_2 rfl hM0 dX5_meet_1 ?_
  refine j_iload_n C 1 1 dX5_meet_4 rfl rfl ?_
  refine y_iconst C dX5_meet_5 ?_
  refine y_iastF C 39 256 rfl rfl rfl ak_39 an_39 rfl (sb_39 _) hM0 (PX.w hpr rfl rfl) dX5_meet_6 (by exact ⟨hp1.1, (by omega)⟩) (fun M102 eM102 hM102 => ?_)
  refine y_iconst C dX5_meet_7 ?_
  refine j_istore_n C 3 [(3, .int (sI 0)), (0, .ref (ad 88)), (1, .int (sI a1)), (2, .int (sI a2))] dX5_meet_8 rfl (by decide) rfl ?_
  have u103T := tn_g (M := M0) (N := M102) (p := gp) (f := f) (by exact hp0) ((FX.rf.wI eM102 (by decide)) : FX [90] M0 M102) cgp (by decide)
  have L125 : ∀ (n123 : Nat), ∀ (a126 : Int) (M127 : mm_M), (0 ≤ a126 ∧ a126 ≤ 6 ∧ (b01 (TN M127 gp f) = 1) ∧ (6 - a126) < (n123 : Int)) → INV pr Kz M127 → FX [82, 85, 86, 89, 90] M0 M127 → jj p l e (cn_R 4) s m args below meth c 0 0 Q 5 dC dI ad cA A M127 9 [(0, .ref (ad 88)), (1, .int (sI a1)), (2, .int (sI a2)), (3, .int (sI a126))] [] := by
    intro n123
    induction n123 with
    | zero =>
      intro a126 M127 h128 hM127 fM127
      exfalso; omega
    | succ n123 ih124 =>
      intro a126 M127 h128 hM127 fM127
      have e81M127 : gp = M127.2.2 81 5 := (b01_e (P := TN M127 gp f) (by exact h128.2.2.1)).1.1.symm
      refine j_iload_n C 3 3 dX5_meet_9 rfl rfl ?_
      refine j_aload_n C 0 0 dX5_meet_10 rfl rfl ?_
      refine y_getV C 4 gp fX5_meet_52 rfl rfl ft_4_9 (s_pX fM127 (egp)) dX5_meet_11 ?_
      refine y_getI C 6 _ _ fX5_meet_92 cgp rfl ft_6_0 sb_6_0 hM127 dX5_meet_14 (fun a130 ea130 la130 ua130 => ?_)
      have qa130 : a130 = (M0.1 gp 0).toInt := s_fX fM127 (s_nin cgp (by decide)) (ea130)
      refine y_icmp_ge C 68 dX5_meet_17 (by decide) (by (clear e81M127 fM127 hM127 ih124 u103T hM102 eM102 e81g hret C hp2 hp1 hp0 egp cgp ha2 ha1 hpr hM0; omega)) (fun h132 => ?_) (fun h132 => ?_)
      · exact hret _ _ _ dX5_meet_68 ⟨hM127, (FX.rf.tr fM127 (by decide)), by exact h128.2.2.1⟩
      · refine j_aload_n C 0 0 dX5_meet_20 rfl rfl ?_
        refine y_getC C 4 81 fX5_meet_48 rfl rfl ft_4_0 sm_4_0 rfl hM127 dX5_meet_21 ?_
        refine j_iload_n C 3 3 dX5_meet_24 rfl rfl ?_
        refine j_iload_n C 1 1 dX5_meet_25 rfl rfl ?_
        refine j_iload_n C 2 2 dX5_meet_26 rfl rfl ?_
        have u133E := tn_e (M := M127) (p := gp) (f := f) (by exact h128.2.2.1)
        refine j_callVi C (d := 3) (As := [.int (sI a126), .int (sI a1), .int (sI a2)]) (st := []) 81 (s_lt rfl rfl) (s_kc (c := 3) rfl rfl) (by decide) rfl (s2_X4_choice hM127 hpr a126 (by omega) a1 (by exact ⟨ha1.1, ha1.2⟩) a2 (by exact ⟨ha2.1, ha2.2⟩) gp cgp (e81M127) (by exact u133E.1.2.1) (by exact u133E.1.1) (by exact u133E.1.2.2.2.2) (by exact u133E.1.2.2.1) (by exact u133E.1.2.2.2.1) (by exact ⟨h128.1, (by (clear u133E e81M127 fM127 hM127 ih124 u103T hM102 eM102 e81g hret C hp2 hp1 hp0 egp cgp ha2 ha1 hpr hM0; omega))⟩) (by exact ⟨hp1.1, hp1.2⟩) (by exact ⟨hp2.1, hp2.2⟩)) gX5_meet_X4_choice rfl hdX4_choice (by decide) (Nat.le_of_ble_eq_true rfl) dX5_meet_27 rfl (fun r134 M135 h136 => ?_)
        obtain ⟨a138, rfl, hM135, fM135, h137⟩ := h136
        refine j_istore C 4 [(4, .int (sI a138)), (0, .ref (ad 88)), (1, .int (sI a1)), (2, .int (sI a2)), (3, .int (sI a126))] dX5_meet_30 (by decide) rfl ?_
        refine j_aload_n C 1 0 dX5_meet_32 rfl rfl ?_
        refine y_getC C 4 89 fX5_meet_9 rfl rfl ft_4_1 sm_4_1 rfl hM135 dX5_meet_33 ?_
        refine j_iload_n C 2 1 dX5_meet_36 rfl rfl ?_
        refine y_bipush C dX5_meet_37 rfl ?_
        refine y_imul C dX5_meet_39 ?_
        refine j_iload_n C 4 3 dX5_meet_40 rfl rfl ?_
        refine y_iadd C dX5_meet_41 ?_
        refine j_iload C 0 dX5_meet_42 rfl ?_
        refine y_iast C 38 1536 _ _ rfl rfl rfl ak_38 an_38 rfl (sb_38 _) hM135 (PX.w hpr rfl rfl) dX5_meet_44 (by (clear h137 fM135 hM135 u133E e81M127 fM127 hM127 ih124 u103T hM102 eM102 e81g hret C hp2 hp0 egp cgp ha2 hpr hM0; omega)) (by exact ⟨⟨(by (clear fM135 hM135 u133E h132 qa130 ua130 la130 ea130 e81M127 fM127 hM127 h128 ih124 u103T hM102 eM102 e81g hret C hp2 hp1 hp0 egp cgp ha2 ha1 hpr hM0; omega)), (by (clear fM135 hM135 u133E h132 qa130 ua130 la130 ea130 e81M127 fM127 hM127 h128 ih124 u103T hM102 eM102 e81g hret C hp2 hp1 hp0 egp cgp ha2 ha1 hpr hM0; omega))⟩, ⟨h137.1, h137.2.1⟩⟩) (fun M139 eM139 hM139 => ?_)
        refine j_iload C 0 dX5_meet_45 rfl ?_
        refine y_if_lt C 62 dX5_meet_47 (by decide) (by (clear hM139 eM139 fM135 hM135 u133E h132 qa130 ua130 la130 ea130 e81M127 fM127 hM127 h128 ih124 u103T hM102 eM102 e81g hret C hp2 hp1 hp0 egp cgp ha2 ha1 hpr hM0; omega)) (fun h140 => ?_) (fun h140 => ?_)
        · refine y_iinc C 4 [(3, .int (sI (a126 + 1))), (4, .int (sI a138)), (0, .ref (ad 88)), (1, .int (sI a1)), (2, .int (sI a2))] dX5_meet_62 rfl (by decide) rfl ?_
          refine j_goto C 9 dX5_meet_65 (by decide) ?_
          have u141T := tn_f (M := M127) (N := M135) (p := gp) (f := f) (by exact h128.2.2.1) fM135 (by decide) cgp (by exact h137.2.2.2)
          have u141U := tn_g (M := M135) (N := M139) (p := gp) (f := f) u141T ((FX.rf.wI eM139 (by decide)) : FX [89] M135 M139) cgp (by decide)
          refine j_lv [2, 3, 4, 0] rfl ?_; exact ih124 (a126 + 1) M139 (by exact ⟨(by (clear u141T h140 hM139 eM139 h137 fM135 hM135 u133E e81M127 fM127 hM127 ih124 u103T hM102 eM102 e81g hret C hp2 hp1 hp0 egp cgp ha2 ha1 hpr hM0; omega)), ⟨(by (clear u141T h140 hM139 eM139 h137 fM135 hM135 u133E e81M127 fM127 hM127 ih124 u103T hM102 eM102 e81g hret C hp2 hp1 hp0 egp cgp ha2 ha1 hpr hM0; omega)), ⟨u141U, (by (clear u141T h140 hM139 eM139 h137 fM135 hM135 u133E e81M127 fM127 hM127 ih124 u103T hM102 eM102 e81g hret C hp2 hp1 hp0 egp cgp ha2 ha1 hpr hM0; omega))⟩⟩⟩) hM139 (((FX.rf.tr fM127 (by decide)).tr fM135 (by decide)).wI eM139 (by decide))
        · refine j_aload_n C 1 0 dX5_meet_50 rfl rfl ?_
          refine y_getC C 4 90 fX5_meet_15 rfl rfl ft_4_2 sm_4_2 rfl hM139 dX5_meet_51 ?_
          refine j_iload_n C 2 1 dX5_meet_54 rfl rfl ?_
          refine y_iconst C dX5_meet_55 ?_
          refine j_iload C 0 dX5_meet_56 rfl ?_
          refine y_shl1 C 7 128 dX5_meet_58 rfl (by decide) (by (clear hM139 eM139 fM135 hM135 u133E h132 qa130 ua130 la130 ea130 e81M127 fM127 hM127 h128 ih124 u103T hM102 eM102 e81g hret C hp2 hp1 hp0 egp cgp ha2 ha1 hpr hM0; omega)) (fun a142 la142 ua142 => ?_)
          refine y_iorN C 8 255 dX5_meet_59 rfl (by decide) (by exact ⟨hp1.1, ⟨hp1.2, ⟨(by (clear h140 hM139 eM139 h137 fM135 hM135 u133E h132 qa130 ua130 la130 ea130 e81M127 fM127 hM127 h128 ih124 u103T hM102 eM102 e81g hret C hp2 hp0 egp cgp ha2 hpr hM0; omega)), (by (clear h140 hM139 eM139 h137 fM135 hM135 u133E h132 qa130 ua130 la130 ea130 e81M127 fM127 hM127 h128 ih124 u103T hM102 eM102 e81g hret C hp2 hp0 egp cgp ha2 hpr hM0; omega))⟩⟩⟩) (fun a143 la143 ua143 => ?_)
          refine y_iconst C dX5_meet_60 ?_
          refine y_iastF C 39 256 rfl rfl rfl ak_39 an_39 rfl (sb_39 _) hM139 (PX.w hpr rfl rfl) dX5_meet_61 (by exact ⟨la143, (by (clear ua142 la142 h140 hM139 eM139 h137 fM135 hM135 u133E h132 qa130 ua130 la130 ea130 e81M127 fM127 hM127 h128 ih124 u103T hM102 eM102 e81g hret C hp2 hp1 hp0 egp cgp ha2 ha1 hpr hM0; omega))⟩) (fun M144 eM144 hM144 => ?_)
          refine y_iinc C 4 [(3, .int (sI (a126 + 1))), (4, .int (sI a138)), (0, .ref (ad 88)), (1, .int (sI a1)), (2, .int (sI a2))] dX5_meet_62 rfl (by decide) rfl ?_
          refine j_goto C 9 dX5_meet_65 (by decide) ?_
          have u145T := tn_f (M := M127) (N := M135) (p := gp) (f := f) (by exact h128.2.2.1) fM135 (by decide) cgp (by exact h137.2.2.2)
          have u145U := tn_g (M := M135) (N := M144) (p := gp) (f := f) u145T (((FX.rf.wI eM139 (by decide)).wI eM144 (by decide)) : FX [89, 90] M135 M144) cgp (by decide)
          refine j_lv [2, 3, 4, 0] rfl ?_; exact ih124 (a126 + 1) M144 (by exact ⟨(by (clear u145T hM144 eM144 ua143 la143 ua142 la142 h140 hM139 eM139 h137 fM135 hM135 u133E e81M127 fM127 hM127 ih124 u103T hM102 eM102 e81g hret C hp2 hp1 hp0 egp cgp ha2 ha1 hpr hM0; omega)), ⟨(by (clear u145T hM144 eM144 ua143 la143 ua142 la142 h140 hM139 eM139 h137 fM135 hM135 u133E e81M127 fM127 hM127 ih124 u103T hM102 eM102 e81g hret C hp2 hp1 hp0 egp cgp ha2 ha1 hpr hM0; omega)), ⟨u145U, (by (clear u145T hM144 eM144 ua143 la143 ua142 la142 h140 hM139 eM139 h137 fM135 hM135 u133E e81M127 fM127 hM127 ih124 u103T hM102 eM102 e81g hret C hp2 hp1 hp0 egp cgp ha2 ha1 hpr hM0; omega))⟩⟩⟩) hM144 ((((FX.rf.tr fM127 (by decide)).tr fM135 (by decide)).wI eM139 (by decide)).wI eM144 (by decide))
  refine j_lv [1, 2, 3, 0] rfl ?_; exact L125 2010 0 M102 (by exact ⟨(by decide), ⟨(by decide), ⟨u103T, (by decide)⟩⟩⟩) hM102 (FX.rf.wI eM102 (by decide))
set_option maxHeartbeats 4000000 in
theorem s2_X5_lookEverywhere {l : Launch} {dC : Nat → ClassId} {dI : Nat → Nat → Nat} {ad : Nat → Nat} {cA : Nat → ClassId} {pr : Nat → Nat → Bool} {Kz : mm_M} {M0 : mm_M} (hM0 : INV pr Kz M0) (hpr : PX pr) {v1 : Nat} (cv1 : s_c v1 = 6) (hp0 : b01 (APX M0 v1) = 1) (hp1 : b01 (LAW M0 v1) = 1) (hp2 : b01 (PRR (rwX M0 v1 12)) = 1) (hp3 : (M0.1 12 3).toInt < pw2 (M0.1 12 0).toInt) : Cv l 5 yX5_lookEverywhere wsX5_lookEverywhere dC dI ad cA [.ref (ad 88), .ref (ad v1), .ref (ad 12)] M0 (fun M' => INV pr Kz M' ∧ FX [81, 82, 83, 84, 85, 86, 88, 89, 90] M0 M' ∧ (b01 (TN M' v1 (rwX M0 v1 12)) = 1)) := by
  refine cv_of (cc := cX5_lookEverywhere) (maxL := 4) (lv := [(0, .ref (ad 88)), (1, .ref (ad v1)), (2, .ref (ad 12))]) (by decide) rfl (Nat.le_of_ble_eq_true rfl) rfl ?_
  intro p e s m args below meth c A Q C hret
  refine j_aload_n C 0 0 dX5_lookEverywhere_0 rfl rfl ?_
  refine j_aload_n C 1 1 dX5_lookEverywhere_1 rfl rfl ?_
  refine j_aload_n C 2 2 dX5_lookEverywhere_2 rfl rfl ?_
  refine j_aload_n C 2 2 dX5_lookEverywhere_3 rfl rfl ?_
  refine y_getI C 8 _ _ fX5_lookEverywhere_89 rfl rfl ft_8_4 sb_8_4 hM0 dX5_lookEverywhere_4 (fun a101 ea101 la101 ua101 => ?_)
  refine j_callVv C (d := 1) (As := [.ref (ad v1), .ref (ad 12), .int (sI a101)]) (st := []) 88 (s_lt rfl rfl) (s_kc (c := 4) rfl rfl) (by decide) rfl (s2_X5_aim hM0 hpr cv1 a101 (by (clear hret C hp3 hp2 hp1 hp0 cv1 hpr hM0; omega)) (by exact hp0) (by exact hp1) (by exact hp2) (by exact hp3) (by exact ⟨la101, ua101⟩)) gX5_lookEverywhere_X5_aim rfl hdX5_aim (by decide) (Nat.le_of_ble_eq_true rfl) dX5_lookEverywhere_7 rfl (fun M105 h106 => ?_)
  obtain ⟨hM105, fM105, h107⟩ := h106
  refine y_iconst C dX5_lookEverywhere_10 ?_
  refine j_istore_n C 3 [(3, .int (sI 0)), (0, .ref (ad 88)), (1, .ref (ad v1)), (2, .ref (ad 12))] dX5_lookEverywhere_11 rfl (by decide) rfl ?_
  have u109p : M105.2.2 88 9 = v1 := (b01_e (P := AIM M105 v1 (seH (rwX M0 v1 12) (sI a101))) (by exact h107.1)).1
  have L463 : ∀ (n461 : Nat), ∀ (a464 : Int) (M465 : mm_M), (0 ≤ a464 ∧ a464 ≤ 256 ∧ (b01 (TN M465 v1 (rwX M0 v1 12)) = 1) ∧ (M465.2.2 88 9 = v1) ∧ (256 - a464) < (n461 : Int)) → INV pr Kz M465 → FX [81, 82, 83, 84, 85, 86, 88, 89, 90] M0 M465 → jj p l e (cn_R 5) s m args below meth c 0 0 Q 4 dC dI ad cA A M465 12 [(0, .ref (ad 88)), (2, .ref (ad 12)), (3, .int (sI a464))] [] := by
    intro n461
    induction n461 with
    | zero =>
      intro a464 M465 h466 hM465 fM465
      exfalso; omega
    | succ n461 ih462 =>
      intro a464 M465 h466 hM465 fM465
      have e88M465 : v1 = M465.2.2 88 9 := by exact h466.2.2.2.1.symm
      refine j_iload_n C 2 3 dX5_lookEverywhere_12 rfl rfl ?_
      refine j_aload_n C 0 0 dX5_lookEverywhere_13 rfl rfl ?_
      refine y_getI C 4 _ _ fX5_lookEverywhere_38 rfl rfl ft_4_11 sb_4_11 hM465 dX5_lookEverywhere_14 (fun a468 ea468 la468 ua468 => ?_)
      refine y_icmp_gt C 35 dX5_lookEverywhere_17 (by decide) (by (clear e88M465 fM465 hM465 ih462 u109p h107 fM105 hM105 ua101 la101 ea101 hret C hp3 hp2 hp1 hp0 cv1 hpr hM0; omega)) (fun h470 => ?_) (fun h470 => ?_)
      · exact hret _ _ _ dX5_lookEverywhere_35 ⟨hM465, (FX.rf.tr fM465 (by decide)), by exact h466.2.2.1⟩
      · refine j_aload_n C 0 0 dX5_lookEverywhere_20 rfl rfl ?_
        refine j_iload_n C 2 3 dX5_lookEverywhere_21 rfl rfl ?_
        refine j_aload_n C 1 2 dX5_lookEverywhere_22 rfl rfl ?_
        refine y_getI C 8 _ _ fX5_lookEverywhere_89 rfl rfl ft_8_4 sb_8_4 hM465 dX5_lookEverywhere_23 (fun a471 ea471 la471 ua471 => ?_)
        have qa471 : a471 = a101 := (s_fX fM465 (by decide) (ea471)).trans ea101.symm
        refine j_callVv C (d := 4) (As := [.int (sI a464), .int (sI a471)]) (st := []) 88 (s_lt rfl rfl) (s_kc (c := 4) rfl rfl) (by decide) rfl (s3_X5_meet hM465 hpr a464 (by (clear qa471 ua471 la471 ea471 h470 ua468 la468 ea468 e88M465 fM465 hM465 ih462 u109p h107 fM105 hM105 ua101 la101 ea101 hret C hp3 hp2 hp1 hp0 cv1 hpr hM0; omega)) a471 (by (clear ua471 la471 h470 ua468 la468 ea468 e88M465 fM465 hM465 h466 ih462 u109p h107 fM105 hM105 hret C hp3 hp2 hp1 hp0 cv1 hpr hM0; omega)) v1 cv1 (e88M465) (rwX M0 v1 12) (by exact h466.2.2.1) (by exact ⟨h466.1, (by (clear qa471 ua471 la471 ea471 e88M465 fM465 hM465 ih462 u109p h107 fM105 hM105 ua101 la101 ea101 hret C hp3 hp2 hp1 hp0 cv1 hpr hM0; omega))⟩) (by exact ⟨la471, ua471⟩)) gX5_lookEverywhere_X5_meet rfl hdX5_meet (by decide) (Nat.le_of_ble_eq_true rfl) dX5_lookEverywhere_26 rfl (fun M474 h475 => ?_)
        obtain ⟨hM474, fM474, h476⟩ := h475
        refine y_iinc C 2 [(3, .int (sI (a464 + 1))), (0, .ref (ad 88)), (2, .ref (ad 12))] dX5_lookEverywhere_29 rfl (by decide) rfl ?_
        refine j_goto C 12 dX5_lookEverywhere_32 (by decide) ?_
        have u477p : M474.2.2 88 9 = v1 := (fM474.2.1 88 9 (by decide)).trans (by exact h466.2.2.2.1)
        refine j_lv [1, 2, 0] rfl ?_; exact ih462 (a464 + 1) M474 (by exact ⟨(by (clear fM474 hM474 qa471 ua471 la471 ea471 e88M465 fM465 hM465 ih462 u109p h107 fM105 hM105 ua101 la101 ea101 hret C hp3 hp2 hp1 hp0 cv1 hpr hM0; omega)), ⟨(by (clear fM474 hM474 qa471 ua471 la471 ea471 e88M465 fM465 hM465 ih462 u109p h107 fM105 hM105 ua101 la101 ea101 hret C hp3 hp2 hp1 hp0 cv1 hpr hM0; omega)), ⟨h476, ⟨u477p, (by (clear fM474 hM474 qa471 ua471 la471 ea471 e88M465 fM465 hM465 ih462 u109p h107 fM105 hM105 ua101 la101 ea101 hret C hp3 hp2 hp1 hp0 cv1 hpr hM0; omega))⟩⟩⟩⟩) hM474 ((FX.rf.tr fM465 (by decide)).tr fM474 (by decide))
  refine j_lv [1, 3, 0] rfl ?_; exact L463 2010 0 M105 (by exact ⟨(by decide), ⟨(by decide), ⟨h107.2.1, ⟨u109p, (by decide)⟩⟩⟩⟩) hM105 (FX.rf.tr fM105 (by decide))
set_option maxHeartbeats 4000000 in
theorem s2_X0_gather {l : Launch} {dC : Nat → ClassId} {dI : Nat → Nat → Nat} {ad : Nat → Nat} {cA : Nat → ClassId} {pr : Nat → Nat → Bool} {Kz : mm_M} {M0 : mm_M} (hM0 : INV pr Kz M0) (hpr : PX pr) {v1 : Nat} (cv1 : s_c v1 = 9) : Cv l 3 yX0_gather wsX0_gather dC dI ad cA [.ref (ad 95), .ref (ad v1)] M0 (fun M' => INV pr Kz M' ∧ FX [95, 96] M0 M') := by
  refine cv_of (cc := cX0_gather) (maxL := 3) (lv := [(0, .ref (ad 95)), (1, .ref (ad v1))]) (by decide) rfl (Nat.le_of_ble_eq_true rfl) rfl ?_
  intro p e s m args below meth c A Q C hret
  refine j_aload_n C 0 0 dX0_gather_0 rfl rfl ?_
  refine y_iconst C dX0_gather_1 ?_
  refine y_putIF C 0 qX0_gather_18 rfl rfl ft_0_3 sb_0_3 hM0 (PX.w hpr rfl rfl) dX0_gather_2 (fun M101 eM101 hM101 => ?_)
  refine j_aload_n C 0 0 dX0_gather_5 rfl rfl ?_
  refine j_aload_n C 0 0 dX0_gather_6 rfl rfl ?_
  refine y_getC C 0 88 fX0_gather_25 rfl rfl ft_0_0 sm_0_0 rfl hM101 dX0_gather_7 ?_
  refine j_callVi C (d := 0) (As := []) (st := [.ref (ad 95)]) 88 (s_lt rfl rfl) (s_kc (c := 4) rfl rfl) (by decide) rfl (s1_X5_everyKind hM101) gX0_gather_X5_everyKind rfl hdX5_everyKind (by decide) (Nat.le_of_ble_eq_true rfl) dX0_gather_10 rfl (fun r102 M103 h104 => ?_)
  obtain ⟨a106, rfl, rfl, h105⟩ := h104
  refine y_putIF C 0 qX0_gather_22 rfl rfl ft_0_4 sb_0_4 hM101 (PX.w hpr rfl rfl) dX0_gather_13 (fun M107 eM107 hM107 => ?_)
  refine y_iconst C dX0_gather_16 ?_
  refine j_istore_n C 2 [(2, .int (sI 0)), (0, .ref (ad 95)), (1, .ref (ad v1))] dX0_gather_17 rfl (by decide) rfl ?_
  have L758 : ∀ (n756 : Nat), ∀ (a759 : Int) (M760 : mm_M), (0 ≤ a759 ∧ a759 ≤ 256 ∧ (256 - a759) < (n756 : Int)) → INV pr Kz M760 → FX [95, 96] M0 M760 → jj p l e (cn_R 3) s m args below meth c 0 0 Q 3 dC dI ad cA A M760 18 [(0, .ref (ad 95)), (1, .ref (ad v1)), (2, .int (sI a759))] [] := by
    intro n756
    induction n756 with
    | zero =>
      intro a759 M760 h761 hM760 fM760
      exfalso; omega
    | succ n756 ih757 =>
      intro a759 M760 h761 hM760 fM760
      refine j_iload_n C 2 2 dX0_gather_18 rfl rfl ?_
      refine j_aload_n C 0 0 dX0_gather_19 rfl rfl ?_
      refine y_getC C 0 88 fX0_gather_25 rfl rfl ft_0_0 sm_0_0 rfl hM760 dX0_gather_20 ?_
      refine j_callVi C (d := 0) (As := []) (st := [.int (sI a759)]) 88 (s_lt rfl rfl) (s_kc (c := 4) rfl rfl) (by decide) rfl (s1_X5_everyKind hM760) gX0_gather_X5_everyKind rfl hdX5_everyKind (by decide) (Nat.le_of_ble_eq_true rfl) dX0_gather_23 rfl (fun r762 M763 h764 => ?_)
      obtain ⟨a766, rfl, rfl, h765⟩ := h764
      refine y_icmp_gt C 77 dX0_gather_26 (by decide) (by (clear fM760 hM760 ih757 hM107 eM107 h105 hM101 eM101 hret C cv1 hpr hM0; omega)) (fun h767 => ?_) (fun h767 => ?_)
      · exact hret _ _ _ dX0_gather_77 ⟨hM760, (FX.rf.tr fM760 (by decide))⟩
      · refine j_aload_n C 0 0 dX0_gather_29 rfl rfl ?_
        refine y_getC C 0 96 fX0_gather_9 rfl rfl ft_0_1 sm_0_1 rfl hM760 dX0_gather_30 ?_
        refine j_iload_n C 2 2 dX0_gather_33 rfl rfl ?_
        refine j_aload_n C 0 0 dX0_gather_34 rfl rfl ?_
        refine j_iload_n C 2 2 dX0_gather_35 rfl rfl ?_
        refine j_aload_n C 1 1 dX0_gather_36 rfl rfl ?_
        refine j_callVi C (d := 2) (As := [.int (sI a759), .ref (ad v1)]) (st := [.int (sI a759), .ref (ad 96)]) 95 (s_lt rfl rfl) (s_kc (c := 0) rfl rfl) (by decide) rfl (s1_X0_behind hM760 a759 (by omega) cv1) gX0_gather_X0_behind rfl hdX0_behind (by decide) (Nat.le_of_ble_eq_true rfl) dX0_gather_37 rfl (fun r768 M769 h770 => ?_)
        obtain ⟨a772, rfl, rfl, h771⟩ := h770
        refine y_iastF C 43 256 rfl rfl rfl ak_43 an_43 rfl (sb_43 _) hM760 (PX.w hpr rfl rfl) dX0_gather_40 (by exact ⟨h761.1, (by (clear h771 fM760 hM760 ih757 hM107 eM107 h105 hM101 eM101 hret C cv1 hpr hM0; omega))⟩) (fun M773 eM773 hM773 => ?_)
        refine j_aload_n C 0 0 dX0_gather_41 rfl rfl ?_
        refine y_getC C 0 96 fX0_gather_9 rfl rfl ft_0_1 sm_0_1 rfl hM773 dX0_gather_42 ?_
        refine j_iload_n C 2 2 dX0_gather_45 rfl rfl ?_
        refine y_iald C 43 256 _ _ rfl rfl rfl ak_43 an_43 rfl (sb_43 _) hM773 dX0_gather_46 (by exact ⟨h761.1, (by omega)⟩) (fun a774 ea774 la774 ua774 => ?_)
        refine y_iconst C dX0_gather_47 ?_
        refine y_icmp_eq C 71 dX0_gather_48 (by decide) (by exact ⟨⟨la774, ua774⟩, ⟨(by decide), (by decide)⟩⟩) (fun h775 => ?_) (fun h775 => ?_)
        · refine y_iinc C 2 [(2, .int (sI (a759 + 1))), (0, .ref (ad 95)), (1, .ref (ad v1))] dX0_gather_71 rfl (by decide) rfl ?_
          refine j_goto C 18 dX0_gather_74 (by decide) ?_
          refine j_lv [1, 2, 0] rfl ?_; exact ih757 (a759 + 1) M773 (by (clear h775 ua774 la774 ea774 hM773 eM773 h771 fM760 hM760 ih757 hM107 eM107 h105 hM101 eM101 hret C cv1 hpr hM0; omega)) hM773 ((FX.rf.tr fM760 (by decide)).wI eM773 (by decide))
        · refine j_aload_n C 0 0 dX0_gather_51 rfl rfl ?_
          refine j_dup C dX0_gather_52 rfl ?_
          refine y_getI C 0 _ _ fX0_gather_18 rfl rfl ft_0_3 sb_0_3 hM773 dX0_gather_53 (fun a776 ea776 la776 ua776 => ?_)
          refine y_iconst C dX0_gather_56 ?_
          refine y_iadd0 C dX0_gather_57 (fun a778 la778 ua778 => ?_)
          refine y_putIF C 0 qX0_gather_18 rfl rfl ft_0_3 sb_0_3 hM773 (PX.w hpr rfl rfl) dX0_gather_58 (fun M779 eM779 hM779 => ?_)
          refine j_aload_n C 0 0 dX0_gather_61 rfl rfl ?_
          refine j_dup C dX0_gather_62 rfl ?_
          refine y_getI C 0 _ _ fX0_gather_22 rfl rfl ft_0_4 sb_0_4 hM779 dX0_gather_63 (fun a780 ea780 la780 ua780 => ?_)
          refine j_iload_n C 2 2 dX0_gather_66 rfl rfl ?_
          refine y_iandR C dX0_gather_67 (by exact ⟨h761.1, (by omega)⟩) (fun a782 la782 ua782 => ?_)
          refine y_putIF C 0 qX0_gather_22 rfl rfl ft_0_4 sb_0_4 hM779 (PX.w hpr rfl rfl) dX0_gather_68 (fun M783 eM783 hM783 => ?_)
          refine y_iinc C 2 [(2, .int (sI (a759 + 1))), (0, .ref (ad 95)), (1, .ref (ad v1))] dX0_gather_71 rfl (by decide) rfl ?_
          refine j_goto C 18 dX0_gather_74 (by decide) ?_
          refine j_lv [1, 2, 0] rfl ?_; exact ih757 (a759 + 1) M783 (by (clear hM783 eM783 ua782 la782 ua780 la780 ea780 hM779 eM779 ua778 la778 ua776 la776 ea776 h775 ua774 la774 ea774 hM773 eM773 h771 fM760 hM760 ih757 hM107 eM107 h105 hM101 eM101 hret C cv1 hpr hM0; omega)) hM783 ((((FX.rf.tr fM760 (by decide)).wI eM773 (by decide)).wI eM779 (by decide)).wI eM783 (by decide))
  refine j_lv [1, 2, 0] rfl ?_; exact L758 2010 0 M107 (by exact ⟨(by decide), ⟨(by decide), (by decide)⟩⟩) hM107 ((FX.rf.wI eM101 (by decide)).wI eM107 (by decide))
set_option maxHeartbeats 4000000 in
theorem s2_X11_seen {l : Launch} {dC : Nat → ClassId} {dI : Nat → Nat → Nat} {ad : Nat → Nat} {cA : Nat → ClassId} {pr : Nat → Nat → Bool} {Kz : mm_M} {M0 : mm_M} (hM0 : INV pr Kz M0) (hpr : PX pr) (a1 : Int) (ha1 : -2147483648 ≤ a1 ∧ a1 ≤ 2147483647) (gp : Nat) (cgp : s_c gp = 6) (egp : gp = M0.2.2 0 4) (hp0 : b01 (APX M0 gp) = 1) (hp1 : b01 (LAW M0 gp) = 1) (hp2 : b01 (PRR (rwX M0 gp 12)) = 1) (hp3 : (M0.1 12 3).toInt < pw2 (M0.1 12 0).toInt) : Ci l 6 yX11_seen wsX11_seen dC dI ad cA [.ref (ad 0), .int (sI a1)] M0 (fun r M' => ∃ a : Int, r = sI a ∧ INV pr Kz M' ∧ FX [81, 82, 83, 84, 85, 86, 88, 89, 90, 95, 96] M0 M' ∧ (-2147483648) ≤ a ∧ a ≤ 2147483647 ∧ (b01 (APX M' gp) = 1)) := by
  refine ci_of (cc := cX11_seen) (maxL := 3) (ty := .int) (lv := [(0, .ref (ad 0)), (1, .int (sI a1))]) (by decide) rfl (fun r M' hp => rfl) (Nat.le_of_ble_eq_true rfl) rfl ?_
  intro p e s m args below meth c A Q C hret
  refine j_aload_n C 0 0 dX11_seen_0 rfl rfl ?_
  refine j_iload_n C 1 1 dX11_seen_1 rfl rfl ?_
  refine j_callVi C (d := 2) (As := [.int (sI a1)]) (st := []) 0 (s_lt rfl rfl) (s_kc (c := 10) rfl rfl) (by decide) rfl (s1_X11_seenRefusal hM0 a1 (by exact ⟨ha1.1, ha1.2⟩)) gX11_seen_X11_seenRefusal rfl hdX11_seenRefusal (by decide) (Nat.le_of_ble_eq_true rfl) dX11_seen_2 rfl (fun r102 M103 h104 => ?_)
  obtain ⟨a106, rfl, rfl, h105⟩ := h104
  refine j_istore_n C 2 [(2, .int (sI a106)), (0, .ref (ad 0)), (1, .int (sI a1))] dX11_seen_5 rfl (by decide) rfl ?_
  refine j_iload_n C 0 2 dX11_seen_6 rfl rfl ?_
  refine y_if_eq C 12 dX11_seen_7 (by decide) (by (clear hret C hp3 hp2 hp1 hp0 egp cgp ha1 hpr hM0; omega)) (fun h107 => ?_) (fun h107 => ?_)
  · refine j_aload_n C 1 0 dX11_seen_12 rfl rfl ?_
    refine y_getC C 10 88 fX11_seen_94 rfl rfl ft_10_14 sm_10_14 rfl hM0 dX11_seen_13 ?_
    refine j_aload_n C 1 0 dX11_seen_16 rfl rfl ?_
    refine y_getV C 10 gp fX11_seen_26 rfl rfl ft_10_4 (egp) dX11_seen_17 ?_
    refine j_aload_n C 1 0 dX11_seen_20 rfl rfl ?_
    refine y_getC C 10 12 fX11_seen_36 rfl rfl ft_10_6 sm_10_6 rfl hM0 dX11_seen_21 ?_
    refine j_callVv C (d := 5) (As := [.ref (ad gp), .ref (ad 12)]) (st := []) 88 (s_lt rfl rfl) (s_kc (c := 4) rfl rfl) (by decide) rfl (s2_X5_lookEverywhere hM0 hpr cgp (by exact hp0) (by exact hp1) (by exact hp2) (by exact hp3)) gX11_seen_X5_lookEverywhere rfl hdX5_lookEverywhere (by decide) (Nat.le_of_ble_eq_true rfl) dX11_seen_24 rfl (fun M110 h111 => ?_)
    obtain ⟨hM110, fM110, h112⟩ := h111
    have u113a := tn_a (M := M110) (p := gp) (f := rwX M0 gp 12) (by exact h112)
    refine j_aload_n C 1 0 dX11_seen_27 rfl rfl ?_
    refine y_getC C 10 95 fX11_seen_103 rfl rfl ft_10_15 sm_10_15 rfl hM110 dX11_seen_28 ?_
    refine j_aload_n C 1 0 dX11_seen_31 rfl rfl ?_
    refine y_getC C 10 50 fX11_seen_52 rfl rfl ft_10_9 sm_10_9 rfl hM110 dX11_seen_32 ?_
    refine j_iload_n C 2 1 dX11_seen_35 rfl rfl ?_
    refine y_aald C 28 4 9 rfl rfl rfl rfl an_28 rfl sma_28 sta_28 (by decide) hM110 dX11_seen_36 (by (clear u113a h112 fM110 hM110 hret C hp3 hp2 hp1 hp0 egp cgp hpr hM0; omega)) (fun v114 cv114 => ?_)
    refine j_callVv C (d := 3) (As := [.ref (ad v114)]) (st := []) 95 (s_lt rfl rfl) (s_kc (c := 0) rfl rfl) (by decide) rfl (s2_X0_gather hM110 hpr cv114) gX11_seen_X0_gather rfl hdX0_gather (by decide) (Nat.le_of_ble_eq_true rfl) dX11_seen_37 rfl (fun M116 h117 => ?_)
    obtain ⟨hM116, fM116⟩ := h117
    refine j_aload_n C 1 0 dX11_seen_40 rfl rfl ?_
    refine y_getC C 10 95 fX11_seen_103 rfl rfl ft_10_15 sm_10_15 rfl hM116 dX11_seen_41 ?_
    refine y_getI C 0 _ _ fX11_seen_354 rfl rfl ft_0_3 sb_0_3 hM116 dX11_seen_44 (fun a119 ea119 la119 ua119 => ?_)
    have u121A7 := hM110.rd (i := gp) (c := 6) (k := 7) cgp (show s_b 6 7 = (0, 900) from rfl)
    have u121A9 := hM110.rd (i := gp) (c := 6) (k := 9) cgp (show s_b 6 9 = (0, 900) from rfl)
    have u121A := apx_o (M := M110) (N := M116) (p := gp) (ple_f (p := gp) ((FX.rf.tr fM116 (by decide)) : FX [95, 96] M110 M116) cgp (by decide)) (((FX.rf.tr fM116 (by decide)) : FX [95, 96] M110 M116).cell (by decide)) (((FX.rf.tr fM116 (by decide)) : FX [95, 96] M110 M116).cell (by decide)) (((FX.rf.tr fM116 (by decide)) : FX [95, 96] M110 M116).cell (by decide)) u121A7.1 u121A9.1 (by exact u113a)
    exact hret _ _ _ _ dX11_seen_47 ⟨a119, rfl, hM116, ((FX.rf.tr fM110 (by decide)).tr fM116 (by decide)), by exact ⟨la119, ⟨ua119, u121A⟩⟩⟩
  · refine j_iload_n C 0 2 dX11_seen_10 rfl rfl ?_
    exact hret _ _ _ _ dX11_seen_11 ⟨a106, rfl, hM0, FX.rf, by exact ⟨(by (clear h107 hret C hp3 hp2 hp1 egp cgp ha1 hpr hM0; omega)), ⟨(by (clear h107 hret C hp3 hp2 hp1 egp cgp ha1 hpr hM0; omega)), hp0⟩⟩⟩
set_option maxHeartbeats 4000000 in
theorem s2_X11_sureGone {l : Launch} {dC : Nat → ClassId} {dI : Nat → Nat → Nat} {ad : Nat → Nat} {cA : Nat → ClassId} {pr : Nat → Nat → Bool} {Kz : mm_M} {M0 : mm_M} (hM0 : INV pr Kz M0) (hpr : PX pr) (a1 : Int) (ha1 : -2147483648 ≤ a1 ∧ a1 ≤ 2147483647) (gp : Nat) (cgp : s_c gp = 6) (egp : gp = M0.2.2 0 4) (hp0 : b01 (APX M0 gp) = 1) (hp1 : b01 (LAW M0 gp) = 1) (hp2 : b01 (PRR (rwX M0 gp 12)) = 1) (hp3 : (M0.1 12 3).toInt < pw2 (M0.1 12 0).toInt) : Ci l 6 yX11_sureGone wsX11_sureGone dC dI ad cA [.ref (ad 0), .int (sI a1)] M0 (fun r M' => ∃ a : Int, r = sI a ∧ INV pr Kz M' ∧ FX [81, 82, 83, 84, 85, 86, 88, 89, 90, 95, 96] M0 M' ∧ (-2147483648) ≤ a ∧ a ≤ 2147483647 ∧ (b01 (APX M' gp) = 1)) := by
  refine ci_of (cc := cX11_sureGone) (maxL := 3) (ty := .int) (lv := [(0, .ref (ad 0)), (1, .int (sI a1))]) (by decide) rfl (fun r M' hp => rfl) (Nat.le_of_ble_eq_true rfl) rfl ?_
  intro p e s m args below meth c A Q C hret
  refine j_aload_n C 0 0 dX11_sureGone_0 rfl rfl ?_
  refine j_iload_n C 1 1 dX11_sureGone_1 rfl rfl ?_
  refine j_callVi C (d := 2) (As := [.int (sI a1)]) (st := []) 0 (s_lt rfl rfl) (s_kc (c := 10) rfl rfl) (by decide) rfl (s1_X11_seenRefusal hM0 a1 (by exact ⟨ha1.1, ha1.2⟩)) gX11_sureGone_X11_seenRefusal rfl hdX11_seenRefusal (by decide) (Nat.le_of_ble_eq_true rfl) dX11_sureGone_2 rfl (fun r102 M103 h104 => ?_)
  obtain ⟨a106, rfl, rfl, h105⟩ := h104
  refine j_istore_n C 2 [(2, .int (sI a106)), (0, .ref (ad 0)), (1, .int (sI a1))] dX11_sureGone_5 rfl (by decide) rfl ?_
  refine j_iload_n C 0 2 dX11_sureGone_6 rfl rfl ?_
  refine y_if_eq C 12 dX11_sureGone_7 (by decide) (by omega) (fun h107 => ?_) (fun h107 => ?_)
  · refine j_aload_n C 1 0 dX11_sureGone_12 rfl rfl ?_
    refine y_getC C 10 88 fX11_sureGone_94 rfl rfl ft_10_14 sm_10_14 rfl hM0 dX11_sureGone_13 ?_
    refine j_aload_n C 1 0 dX11_sureGone_16 rfl rfl ?_
    refine y_getV C 10 gp fX11_sureGone_26 rfl rfl ft_10_4 (egp) dX11_sureGone_17 ?_
    refine j_aload_n C 1 0 dX11_sureGone_20 rfl rfl ?_
    refine y_getC C 10 12 fX11_sureGone_36 rfl rfl ft_10_6 sm_10_6 rfl hM0 dX11_sureGone_21 ?_
    refine j_callVv C (d := 5) (As := [.ref (ad gp), .ref (ad 12)]) (st := []) 88 (s_lt rfl rfl) (s_kc (c := 4) rfl rfl) (by decide) rfl (s2_X5_lookEverywhere hM0 hpr cgp (by exact hp0) (by exact hp1) (by exact hp2) (by exact hp3)) gX11_sureGone_X5_lookEverywhere rfl hdX5_lookEverywhere (by decide) (Nat.le_of_ble_eq_true rfl) dX11_sureGone_24 rfl (fun M110 h111 => ?_)
    obtain ⟨hM110, fM110, h112⟩ := h111
    have u113a := tn_a (M := M110) (p := gp) (f := rwX M0 gp 12) (by exact h112)
    refine j_aload_n C 1 0 dX11_sureGone_27 rfl rfl ?_
    refine y_getC C 10 95 fX11_sureGone_103 rfl rfl ft_10_15 sm_10_15 rfl hM110 dX11_sureGone_28 ?_
    refine j_aload_n C 1 0 dX11_sureGone_31 rfl rfl ?_
    refine y_getC C 10 50 fX11_sureGone_52 rfl rfl ft_10_9 sm_10_9 rfl hM110 dX11_sureGone_32 ?_
    refine j_iload_n C 2 1 dX11_sureGone_35 rfl rfl ?_
    refine y_aald C 28 4 9 rfl rfl rfl rfl an_28 rfl sma_28 sta_28 (by decide) hM110 dX11_sureGone_36 (by omega) (fun v114 cv114 => ?_)
    refine j_callVv C (d := 3) (As := [.ref (ad v114)]) (st := []) 95 (s_lt rfl rfl) (s_kc (c := 0) rfl rfl) (by decide) rfl (s2_X0_gather hM110 hpr cv114) gX11_sureGone_X0_gather rfl hdX0_gather (by decide) (Nat.le_of_ble_eq_true rfl) dX11_sureGone_37 rfl (fun M116 h117 => ?_)
    obtain ⟨hM116, fM116⟩ := h117
    refine j_aload_n C 1 0 dX11_sureGone_40 rfl rfl ?_
    refine y_getC C 10 95 fX11_sureGone_103 rfl rfl ft_10_15 sm_10_15 rfl hM116 dX11_sureGone_41 ?_
    refine y_getI C 0 _ _ fX11_sureGone_354 rfl rfl ft_0_3 sb_0_3 hM116 dX11_sureGone_44 (fun a119 ea119 la119 ua119 => ?_)
    refine y_if_ne C 54 dX11_sureGone_47 (by decide) (by exact ⟨la119, ua119⟩) (fun h121 => ?_) (fun h121 => ?_)
    · refine j_aload_n C 1 0 dX11_sureGone_54 rfl rfl ?_
      refine y_getC C 10 95 fX11_sureGone_103 rfl rfl ft_10_15 sm_10_15 rfl hM116 dX11_sureGone_55 ?_
      refine y_getI C 0 _ _ fX11_sureGone_357 rfl rfl ft_0_4 sb_0_4 hM116 dX11_sureGone_58 (fun a122 ea122 la122 ua122 => ?_)
      have u124A7 := hM110.rd (i := gp) (c := 6) (k := 7) cgp (show s_b 6 7 = (0, 900) from rfl)
      have u124A9 := hM110.rd (i := gp) (c := 6) (k := 9) cgp (show s_b 6 9 = (0, 900) from rfl)
      have u124A := apx_o (M := M110) (N := M116) (p := gp) (ple_f (p := gp) ((FX.rf.tr fM116 (by decide)) : FX [95, 96] M110 M116) cgp (by decide)) (((FX.rf.tr fM116 (by decide)) : FX [95, 96] M110 M116).cell (by decide)) (((FX.rf.tr fM116 (by decide)) : FX [95, 96] M110 M116).cell (by decide)) (((FX.rf.tr fM116 (by decide)) : FX [95, 96] M110 M116).cell (by decide)) u124A7.1 u124A9.1 (by exact u113a)
      exact hret _ _ _ _ dX11_sureGone_61 ⟨a122, rfl, hM116, ((FX.rf.tr fM110 (by decide)).tr fM116 (by decide)), by exact ⟨la122, ⟨ua122, u124A⟩⟩⟩
    · refine y_iconst C dX11_sureGone_50 ?_
      refine j_goto C 61 dX11_sureGone_51 (by decide) ?_
      have u125A7 := hM110.rd (i := gp) (c := 6) (k := 7) cgp (show s_b 6 7 = (0, 900) from rfl)
      have u125A9 := hM110.rd (i := gp) (c := 6) (k := 9) cgp (show s_b 6 9 = (0, 900) from rfl)
      have u125A := apx_o (M := M110) (N := M116) (p := gp) (ple_f (p := gp) ((FX.rf.tr fM116 (by decide)) : FX [95, 96] M110 M116) cgp (by decide)) (((FX.rf.tr fM116 (by decide)) : FX [95, 96] M110 M116).cell (by decide)) (((FX.rf.tr fM116 (by decide)) : FX [95, 96] M110 M116).cell (by decide)) (((FX.rf.tr fM116 (by decide)) : FX [95, 96] M110 M116).cell (by decide)) u125A7.1 u125A9.1 (by exact u113a)
      exact hret _ _ _ _ dX11_sureGone_61 ⟨0, rfl, hM116, ((FX.rf.tr fM110 (by decide)).tr fM116 (by decide)), by exact ⟨(by decide), ⟨(by decide), u125A⟩⟩⟩
  · refine j_iload_n C 0 2 dX11_sureGone_10 rfl rfl ?_
    exact hret _ _ _ _ dX11_sureGone_11 ⟨a106, rfl, hM0, FX.rf, by exact ⟨(by omega), ⟨(by omega), hp0⟩⟩⟩
end
