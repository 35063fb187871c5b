set_option maxHeartbeats 4000000 in
theorem s2_X11_shutsBy {l : Launch} {dC : Nat → ClassId} {dI : Nat → Nat → Nat} {ad : Nat → Nat} {cA : Nat → ClassId} {pr : Nat → Nat → Bool} {Kz : mm_M} {M0 : mm_M} (hM0 : INV pr Kz M0) (hpr : PX pr) (a1 : Int) (ha1 : -2147483648 ≤ a1 ∧ a1 ≤ 2147483647) (a2 : Int) (ha2 : -2147483648 ≤ a2 ∧ a2 ≤ 2147483647) (a3 : Int) (ha3 : -2147483648 ≤ a3 ∧ a3 ≤ 2147483647) (gp : Nat) (cgp : s_c gp = 6) (egp : gp = M0.2.2 0 4) (hp0 : b01 (APX M0 gp) = 1) (hp1 : b01 (LAW M0 gp) = 1) (hp2 : b01 (PRR (rwX M0 gp 12)) = 1) (hp3 : (M0.1 12 3).toInt < pw2 (M0.1 12 0).toInt) : Cj l 6 yX11_shutsBy wsX11_shutsBy dC dI ad cA [.ref (ad 0), .int (sI a1), .int (sI a2), .int (sI a3)] M0 (fun r M' => ∃ a : Int, r = sJ a ∧ INV pr Kz M' ∧ FX [81, 82, 83, 84, 85, 86, 88, 89, 90, 92, 93, 94] M0 M' ∧ (-9223372036854775808) ≤ a ∧ a ≤ 9223372036854775807 ∧ (b01 (APX M' gp) = 1)) := by
  refine cj_of (cc := cX11_shutsBy) (maxL := 5) (lv := [(0, .ref (ad 0)), (1, .int (sI a1)), (2, .int (sI a2)), (3, .int (sI a3))]) (by decide) rfl (Nat.le_of_ble_eq_true rfl) rfl ?_
  intro p e s m args below meth c A Q C hret
  refine j_aload_n C 0 0 dX11_shutsBy_0 rfl rfl ?_
  refine j_iload_n C 1 1 dX11_shutsBy_1 rfl rfl ?_
  refine j_callVi C (d := 0) (As := [.int (sI a1)]) (st := []) 0 (s_lt rfl rfl) (s_kc (c := 10) rfl rfl) (by decide) rfl (s1_X11_isBuyer hM0 a1 (by omega)) gX11_shutsBy_X11_isBuyer rfl hdX11_isBuyer (by decide) (Nat.le_of_ble_eq_true rfl) dX11_shutsBy_2 rfl (fun r102 M103 h104 => ?_)
  obtain ⟨a106, rfl, rfl, h105⟩ := h104
  have J114 : ∀ (a113 : Int), ((-3) ≤ a113 ∧ a113 ≤ 0 ∧ (¬ a113 = 0 ∨ (0 ≤ a1 ∧ a1 < 6))) → jj p l e (cn_R 6) s m args below meth c 0 0 Q 5 dC dI ad cA A M0 20 [(0, .ref (ad 0)), (1, .int (sI a1)), (2, .int (sI a2)), (3, .int (sI a3))] [.int (sI a113)] := by
    intro a113 h115
    refine j_istore C 4 [(4, .int (sI a113)), (0, .ref (ad 0)), (1, .int (sI a1)), (2, .int (sI a2)), (3, .int (sI a3))] dX11_shutsBy_20 (by decide) rfl ?_
    refine j_iload C 0 dX11_shutsBy_22 rfl ?_
    refine y_if_eq C 31 dX11_shutsBy_24 (by decide) (by omega) (fun h116 => ?_) (fun h116 => ?_)
    · refine j_aload_n C 1 0 dX11_shutsBy_31 rfl rfl ?_
      refine y_getC C 10 88 fX11_shutsBy_94 rfl rfl ft_10_14 sm_10_14 rfl hM0 dX11_shutsBy_32 ?_
      refine j_aload_n C 1 0 dX11_shutsBy_35 rfl rfl ?_
      refine y_getV C 10 gp fX11_shutsBy_26 rfl rfl ft_10_4 (egp) dX11_shutsBy_36 ?_
      refine j_aload_n C 1 0 dX11_shutsBy_39 rfl rfl ?_
      refine y_getC C 10 12 fX11_shutsBy_36 rfl rfl ft_10_6 sm_10_6 rfl hM0 dX11_shutsBy_40 ?_
      refine j_aload_n C 1 0 dX11_shutsBy_43 rfl rfl ?_
      refine y_getC C 10 12 fX11_shutsBy_36 rfl rfl ft_10_6 sm_10_6 rfl hM0 dX11_shutsBy_44 ?_
      refine y_getI C 8 _ _ fX11_shutsBy_153 rfl rfl ft_8_4 sb_8_4 hM0 dX11_shutsBy_47 (fun a117 ea117 la117 ua117 => ?_)
      refine j_callVv C (d := 5) (As := [.ref (ad gp), .ref (ad 12), .int (sI a117)]) (st := []) 88 (s_lt rfl rfl) (s_kc (c := 4) rfl rfl) (by decide) rfl (s2_X5_look hM0 hpr cgp a117 (by omega) (by omega) (by omega) (by omega) (by omega) (by omega)) gX11_shutsBy_X5_look rfl hdX5_look (by decide) (Nat.le_of_ble_eq_true rfl) dX11_shutsBy_50 rfl (fun M121 h122 => ?_)
      obtain ⟨hM121, fM121, h123⟩ := h122
      have u124a := tn_a (M := M121) (p := gp) (f := rwX M0 gp 12) (by omega)
      refine j_aload_n C 1 0 dX11_shutsBy_53 rfl rfl ?_
      refine y_getC C 10 88 fX11_shutsBy_94 rfl rfl ft_10_14 sm_10_14 rfl hM121 dX11_shutsBy_54 ?_
      refine j_iload_n C 3 2 dX11_shutsBy_57 rfl rfl ?_
      refine j_callVv C (d := 3) (As := [.int (sI a2)]) (st := []) 88 (s_lt rfl rfl) (s_kc (c := 4) rfl rfl) (by decide) rfl (s2_X5_passDays hM121 hpr a2 (by omega)) gX11_shutsBy_X5_passDays rfl hdX5_passDays (by decide) (Nat.le_of_ble_eq_true rfl) dX11_shutsBy_58 rfl (fun M126 h127 => ?_)
      obtain ⟨hM126, fM126⟩ := h127
      refine j_aload_n C 1 0 dX11_shutsBy_61 rfl rfl ?_
      refine y_getC C 10 88 fX11_shutsBy_94 rfl rfl ft_10_14 sm_10_14 rfl hM126 dX11_shutsBy_62 ?_
      refine y_getC C 4 94 fX11_shutsBy_308 rfl rfl ft_4_6 sm_4_6 rfl hM126 dX11_shutsBy_65 ?_
      refine j_iload_n C 2 1 dX11_shutsBy_68 rfl rfl ?_
      refine y_lald C 42 6 rfl rfl rfl ak_42 an_42 rfl dX11_shutsBy_69 (by omega) (fun a129 ea129 la129 ua129 => ?_)
      refine j_aload_n C 1 0 dX11_shutsBy_70 rfl rfl ?_
      refine y_getC C 10 88 fX11_shutsBy_94 rfl rfl ft_10_14 sm_10_14 rfl hM126 dX11_shutsBy_71 ?_
      refine y_getJ C 4 fX11_shutsBy_296 rfl rfl ft_4_7 dX11_shutsBy_74 (fun a130 ea130 la130 ua130 => ?_)
      refine j_iload_n C 4 3 dX11_shutsBy_77 rfl rfl ?_
      refine j_callSj C (d := 1) (As := [.long (sJ a129), .long (sJ a130), .int (sI a3)]) (st := []) (s1_X11_inLowestTerms hM126 a129 (by omega) a130 (by omega) a3 (by omega)) gX11_shutsBy_X11_inLowestTerms rfl hdX11_inLowestTermss (by decide) (Nat.le_of_ble_eq_true rfl) dX11_shutsBy_78 rfl (fun r131 M132 h133 => ?_)
      obtain ⟨a135, rfl, rfl, h134⟩ := h133
      have u136A7 := hM121.rd (i := gp) (c := 6) (k := 7) cgp (show s_b 6 7 = (0, 900) from rfl)
      have u136A9 := hM121.rd (i := gp) (c := 6) (k := 9) cgp (show s_b 6 9 = (0, 900) from rfl)
      have u136A := apx_o (M := M121) (N := M126) (p := gp) (ple_f (p := gp) ((FX.rf.tr fM126 (by decide)) : FX [88, 92, 93, 94] M121 M126) cgp (by decide)) (((FX.rf.tr fM126 (by decide)) : FX [88, 92, 93, 94] M121 M126).cell (by decide)) (((FX.rf.tr fM126 (by decide)) : FX [88, 92, 93, 94] M121 M126).cell (by decide)) (((FX.rf.tr fM126 (by decide)) : FX [88, 92, 93, 94] M121 M126).cell (by decide)) u136A7.1 u136A9.1 (by omega)
      exact hret _ _ _ _ dX11_shutsBy_81 ⟨a135, rfl, hM126, ((FX.rf.tr fM121 (by decide)).tr fM126 (by decide)), by omega⟩
    · refine j_iload C 0 dX11_shutsBy_27 rfl ?_
      refine y_i2l C dX11_shutsBy_29 (by omega) ?_
      exact hret _ _ _ _ dX11_shutsBy_30 ⟨a113, rfl, hM0, FX.rf, by omega⟩
  refine y_if_eq C 18 dX11_shutsBy_5 (by decide) (by omega) (fun h107 => ?_) (fun h107 => ?_)
  · refine y_bipush C dX11_shutsBy_18 rfl ?_
    exact J114 (-2) (by omega)
  · refine j_iload_n C 3 3 dX11_shutsBy_8 rfl rfl ?_
    refine j_iload_n C 2 2 dX11_shutsBy_9 rfl rfl ?_
    refine y_bipush C dX11_shutsBy_10 rfl ?_
    refine j_callSi C (d := 0) (As := [.int (sI a3), .int (sI a2), .int (sI 10)]) (st := []) (s1_X11_chanceRefusal hM0 a3 (by omega) a2 (by omega) 10 (by omega)) gX11_shutsBy_X11_chanceRefusal rfl hdX11_chanceRefusals (by decide) (Nat.le_of_ble_eq_true rfl) dX11_shutsBy_12 rfl (fun r108 M109 h110 => ?_)
    obtain ⟨a112, rfl, rfl, h111⟩ := h110
    refine j_goto C 20 dX11_shutsBy_15 (by decide) ?_
    exact J114 a112 (by omega)
set_option maxHeartbeats 4000000 in
theorem s2_X11_closer {l : Launch} {dC : Nat → ClassId} {dI : Nat → Nat → Nat} {ad : Nat → Nat} {cA : Nat → ClassId} {pr : Nat → Nat → Bool} {Kz : mm_M} {M0 : mm_M} (hM0 : INV pr Kz M0) (hpr : PX pr) (a1 : Int) (ha1 : -2147483648 ≤ a1 ∧ a1 ≤ 2147483647) (gp : Nat) (cgp : s_c gp = 6) (egp : gp = M0.2.2 0 4) (hp0 : b01 (APX M0 gp) = 1) (hp1 : b01 (LAW M0 gp) = 1) (hp2 : b01 (PRR (rwX M0 gp 12)) = 1) (hp3 : (M0.1 12 3).toInt < pw2 (M0.1 12 0).toInt) : Ci l 6 yX11_closer wsX11_closer dC dI ad cA [.ref (ad 0), .int (sI a1)] M0 (fun r M' => ∃ a : Int, r = sI a ∧ INV pr Kz M' ∧ FX [81, 82, 83, 84, 85, 86, 88, 89, 90, 92, 93, 94] M0 M' ∧ (-3) ≤ a ∧ a ≤ 5 ∧ (b01 (APX M' gp) = 1)) := by
  refine ci_of (cc := cX11_closer) (maxL := 6) (ty := .int) (lv := [(0, .ref (ad 0)), (1, .int (sI a1))]) (by decide) rfl (fun r M' hp => rfl) (Nat.le_of_ble_eq_true rfl) rfl ?_
  intro p e s m args below meth c A Q C hret
  refine j_iload_n C 1 1 dX11_closer_0 rfl rfl ?_
  refine y_if_lt C 10 dX11_closer_1 (by decide) (by omega) (fun h102 => ?_) (fun h102 => ?_)
  · refine y_bipush C dX11_closer_10 rfl ?_
    exact hret _ _ _ _ dX11_closer_12 ⟨(-3), rfl, hM0, FX.rf, by omega⟩
  · refine j_iload_n C 1 1 dX11_closer_4 rfl rfl ?_
    refine y_bipush C dX11_closer_5 rfl ?_
    refine y_icmp_le C 13 dX11_closer_7 (by decide) (by omega) (fun h104 => ?_) (fun h104 => ?_)
    · refine j_aload_n C 0 0 dX11_closer_13 rfl rfl ?_
      refine y_getC C 10 88 fX11_closer_94 rfl rfl ft_10_14 sm_10_14 rfl hM0 dX11_closer_14 ?_
      refine j_aload_n C 0 0 dX11_closer_17 rfl rfl ?_
      refine y_getV C 10 gp fX11_closer_26 rfl rfl ft_10_4 (egp) dX11_closer_18 ?_
      refine j_aload_n C 0 0 dX11_closer_21 rfl rfl ?_
      refine y_getC C 10 12 fX11_closer_36 rfl rfl ft_10_6 sm_10_6 rfl hM0 dX11_closer_22 ?_
      refine j_aload_n C 0 0 dX11_closer_25 rfl rfl ?_
      refine y_getC C 10 12 fX11_closer_36 rfl rfl ft_10_6 sm_10_6 rfl hM0 dX11_closer_26 ?_
      refine y_getI C 8 _ _ fX11_closer_153 rfl rfl ft_8_4 sb_8_4 hM0 dX11_closer_29 (fun a105 ea105 la105 ua105 => ?_)
      refine j_callVv C (d := 5) (As := [.ref (ad gp), .ref (ad 12), .int (sI a105)]) (st := []) 88 (s_lt rfl rfl) (s_kc (c := 4) rfl rfl) (by decide) rfl (s2_X5_look hM0 hpr cgp a105 (by omega) (by omega) (by omega) (by omega) (by omega) (by omega)) gX11_closer_X5_look rfl hdX5_look (by decide) (Nat.le_of_ble_eq_true rfl) dX11_closer_32 rfl (fun M109 h110 => ?_)
      obtain ⟨hM109, fM109, h111⟩ := h110
      have u112a := tn_a (M := M109) (p := gp) (f := rwX M0 gp 12) (by omega)
      refine j_aload_n C 0 0 dX11_closer_35 rfl rfl ?_
      refine y_getC C 10 88 fX11_closer_94 rfl rfl ft_10_14 sm_10_14 rfl hM109 dX11_closer_36 ?_
      refine j_iload_n C 1 1 dX11_closer_39 rfl rfl ?_
      refine j_callVv C (d := 3) (As := [.int (sI a1)]) (st := []) 88 (s_lt rfl rfl) (s_kc (c := 4) rfl rfl) (by decide) rfl (s2_X5_passDays hM109 hpr a1 (by omega)) gX11_closer_X5_passDays rfl hdX5_passDays (by decide) (Nat.le_of_ble_eq_true rfl) dX11_closer_40 rfl (fun M114 h115 => ?_)
      obtain ⟨hM114, fM114⟩ := h115
      refine y_iconst C dX11_closer_43 ?_
      refine j_istore_n C 2 [(2, .int (sI (-1))), (0, .ref (ad 0)), (1, .int (sI a1))] dX11_closer_44 rfl (by decide) rfl ?_
      refine y_lconst C 0 dX11_closer_45 rfl ?_
      refine j_lstore_n C 3 [(3, .long (sJ 0)), (2, .int (sI (-1))), (0, .ref (ad 0)), (1, .int (sI a1))] dX11_closer_46 rfl (by decide) rfl ?_
      refine y_iconst C dX11_closer_47 ?_
      refine j_istore C 5 [(5, .int (sI 0)), (3, .long (sJ 0)), (2, .int (sI (-1))), (0, .ref (ad 0)), (1, .int (sI a1))] dX11_closer_48 (by decide) rfl ?_
      have L182 : ∀ (n180 : Nat), ∀ (a183 : Int) (a184 : Int) (a185 : Int), ((-1) ≤ a183 ∧ a183 ≤ 5 ∧ (-9223372036854775808) ≤ a184 ∧ a184 ≤ 9223372036854775807 ∧ 0 ≤ a185 ∧ a185 ≤ 6 ∧ (6 - a185) < (n180 : Int)) → jj p l e (cn_R 6) s m args below meth c 0 0 Q 6 dC dI ad cA A M114 50 [(0, .ref (ad 0)), (2, .int (sI a183)), (3, .long (sJ a184)), (5, .int (sI a185))] [] := by
        intro n180
        induction n180 with
        | zero =>
          intro a183 a184 a185 h186
          exfalso; omega
        | succ n180 ih181 =>
          intro a183 a184 a185 h186
          refine j_iload C 3 dX11_closer_50 rfl ?_
          refine j_aload_n C 0 0 dX11_closer_52 rfl rfl ?_
          refine y_getV C 10 gp fX11_closer_26 rfl rfl ft_10_4 (s_pX fM114 (s_pX fM109 (egp))) dX11_closer_53 ?_
          refine y_getI C 6 _ _ fX11_closer_163 cgp rfl ft_6_0 sb_6_0 hM114 dX11_closer_56 (fun a187 ea187 la187 ua187 => ?_)
          have qa187 : a187 = (M0.1 gp 0).toInt := s_fX fM109 (s_nin cgp (by decide)) (s_fX fM114 (s_nin cgp (by decide)) (ea187))
          refine y_icmp_ge C 97 dX11_closer_59 (by decide) (by omega) (fun h189 => ?_) (fun h189 => ?_)
          · refine j_iload_n C 1 2 dX11_closer_97 rfl rfl ?_
            have u193A7 := hM109.rd (i := gp) (c := 6) (k := 7) cgp (show s_b 6 7 = (0, 900) from rfl)
            have u193A9 := hM109.rd (i := gp) (c := 6) (k := 9) cgp (show s_b 6 9 = (0, 900) from rfl)
            have u193A := apx_o (M := M109) (N := M114) (p := gp) (ple_f (p := gp) ((FX.rf.tr fM114 (by decide)) : FX [88, 92, 93, 94] M109 M114) cgp (by decide)) (((FX.rf.tr fM114 (by decide)) : FX [88, 92, 93, 94] M109 M114).cell (by decide)) (((FX.rf.tr fM114 (by decide)) : FX [88, 92, 93, 94] M109 M114).cell (by decide)) (((FX.rf.tr fM114 (by decide)) : FX [88, 92, 93, 94] M109 M114).cell (by decide)) u193A7.1 u193A9.1 (by omega)
            exact hret _ _ _ _ dX11_closer_98 ⟨a183, rfl, hM114, ((FX.rf.tr fM109 (by decide)).tr fM114 (by decide)), by omega⟩
          · refine j_aload_n C 0 0 dX11_closer_62 rfl rfl ?_
            refine y_getC C 10 88 fX11_closer_94 rfl rfl ft_10_14 sm_10_14 rfl hM114 dX11_closer_63 ?_
            refine y_getC C 4 94 fX11_closer_308 rfl rfl ft_4_6 sm_4_6 rfl hM114 dX11_closer_66 ?_
            refine j_iload C 3 dX11_closer_69 rfl ?_
            refine y_lald C 42 6 rfl rfl rfl ak_42 an_42 rfl dX11_closer_71 (by omega) (fun a190 ea190 la190 ua190 => ?_)
            refine j_lload_n C 2 3 dX11_closer_72 rfl rfl ?_
            refine y_lcmp_le C 91 dX11_closer_73 dX11_closer_74 (by decide) (by omega) (fun h191 => ?_) (fun h191 => ?_)
            · refine y_iinc C 3 [(5, .int (sI (a185 + 1))), (0, .ref (ad 0)), (2, .int (sI a183)), (3, .long (sJ a184))] dX11_closer_91 rfl (by decide) rfl ?_
              refine j_goto C 50 dX11_closer_94 (by decide) ?_
              refine j_lv [1, 2, 3, 0] rfl ?_; exact ih181 a183 a184 (a185 + 1) (by omega)
            · refine j_aload_n C 0 0 dX11_closer_77 rfl rfl ?_
              refine y_getC C 10 88 fX11_closer_94 rfl rfl ft_10_14 sm_10_14 rfl hM114 dX11_closer_78 ?_
              refine y_getC C 4 94 fX11_closer_308 rfl rfl ft_4_6 sm_4_6 rfl hM114 dX11_closer_81 ?_
              refine j_iload C 3 dX11_closer_84 rfl ?_
              refine y_lald C 42 6 rfl rfl rfl ak_42 an_42 rfl dX11_closer_86 (by omega) (fun a192 ea192 la192 ua192 => ?_)
              refine j_lstore_n C 3 [(3, .long (sJ a192)), (0, .ref (ad 0)), (2, .int (sI a183)), (5, .int (sI a185))] dX11_closer_87 rfl (by decide) rfl ?_
              refine j_iload C 3 dX11_closer_88 rfl ?_
              refine j_istore_n C 2 [(2, .int (sI a185)), (3, .long (sJ a192)), (0, .ref (ad 0)), (5, .int (sI a185))] dX11_closer_90 rfl (by decide) rfl ?_
              refine y_iinc C 3 [(5, .int (sI (a185 + 1))), (2, .int (sI a185)), (3, .long (sJ a192)), (0, .ref (ad 0))] dX11_closer_91 rfl (by decide) rfl ?_
              refine j_goto C 50 dX11_closer_94 (by decide) ?_
              refine j_lv [3, 1, 2, 0] rfl ?_; exact ih181 a185 a192 (a185 + 1) (by omega)
      refine j_lv [3, 2, 1, 0] rfl ?_; exact L182 2010 (-1) 0 0 (by omega)
    · refine y_bipush C dX11_closer_10 rfl ?_
      exact hret _ _ _ _ dX11_closer_12 ⟨(-3), rfl, hM0, FX.rf, by omega⟩
set_option maxHeartbeats 4000000 in
theorem s2_X11_soldIn {l : Launch} {dC : Nat → ClassId} {dI : Nat → Nat → Nat} {ad : Nat → Nat} {cA : Nat → ClassId} {pr : Nat → Nat → Bool} {Kz : mm_M} {M0 : mm_M} (hM0 : INV pr Kz M0) (hpr : PX pr) (a1 : Int) (ha1 : -2147483648 ≤ a1 ∧ a1 ≤ 2147483647) (a2 : Int) (ha2 : -2147483648 ≤ a2 ∧ a2 ≤ 2147483647) (a3 : Int) (ha3 : -2147483648 ≤ a3 ∧ a3 ≤ 2147483647) (gp : Nat) (cgp : s_c gp = 6) (egp : gp = M0.2.2 0 4) (hp0 : b01 (APX M0 gp) = 1) (hp1 : b01 (LAW M0 gp) = 1) (hp2 : b01 (PRR (rwX M0 gp 12)) = 1) (hp3 : (M0.1 12 3).toInt < pw2 (M0.1 12 0).toInt) : Cj l 6 yX11_soldIn wsX11_soldIn dC dI ad cA [.ref (ad 0), .int (sI a1), .int (sI a2), .int (sI a3)] M0 (fun r M' => ∃ a : Int, r = sJ a ∧ INV pr Kz M' ∧ FX [81, 82, 83, 84, 85, 86, 88, 89, 90, 92, 93, 94] M0 M' ∧ (-9223372036854775808) ≤ a ∧ a ≤ 9223372036854775807 ∧ (b01 (APX M' gp) = 1)) := by
  refine cj_of (cc := cX11_soldIn) (maxL := 5) (lv := [(0, .ref (ad 0)), (1, .int (sI a1)), (2, .int (sI a2)), (3, .int (sI a3))]) (by decide) rfl (Nat.le_of_ble_eq_true rfl) rfl ?_
  intro p e s m args below meth c A Q C hret
  refine j_aload_n C 0 0 dX11_soldIn_0 rfl rfl ?_
  refine j_iload_n C 1 1 dX11_soldIn_1 rfl rfl ?_
  refine j_callVi C (d := 0) (As := [.int (sI a1)]) (st := []) 0 (s_lt rfl rfl) (s_kc (c := 10) rfl rfl) (by decide) rfl (s1_X11_isKind hM0 a1 (by omega)) gX11_soldIn_X11_isKind rfl hdX11_isKind (by decide) (Nat.le_of_ble_eq_true rfl) dX11_soldIn_2 rfl (fun r102 M103 h104 => ?_)
  obtain ⟨a106, rfl, rfl, h105⟩ := h104
  have J114 : ∀ (a113 : Int), ((-3) ≤ a113 ∧ a113 ≤ 0) → jj p l e (cn_R 6) s m args below meth c 0 0 Q 5 dC dI ad cA A M0 20 [(0, .ref (ad 0)), (1, .int (sI a1)), (2, .int (sI a2)), (3, .int (sI a3))] [.int (sI a113)] := by
    intro a113 h115
    refine j_istore C 4 [(4, .int (sI a113)), (0, .ref (ad 0)), (1, .int (sI a1)), (2, .int (sI a2)), (3, .int (sI a3))] dX11_soldIn_20 (by decide) rfl ?_
    refine j_iload C 0 dX11_soldIn_22 rfl ?_
    refine y_if_eq C 31 dX11_soldIn_24 (by decide) (by omega) (fun h116 => ?_) (fun h116 => ?_)
    · refine j_aload_n C 1 0 dX11_soldIn_31 rfl rfl ?_
      refine y_getC C 10 88 fX11_soldIn_94 rfl rfl ft_10_14 sm_10_14 rfl hM0 dX11_soldIn_32 ?_
      refine j_aload_n C 1 0 dX11_soldIn_35 rfl rfl ?_
      refine y_getV C 10 gp fX11_soldIn_26 rfl rfl ft_10_4 (egp) dX11_soldIn_36 ?_
      refine j_aload_n C 1 0 dX11_soldIn_39 rfl rfl ?_
      refine y_getC C 10 12 fX11_soldIn_36 rfl rfl ft_10_6 sm_10_6 rfl hM0 dX11_soldIn_40 ?_
      refine j_aload_n C 1 0 dX11_soldIn_43 rfl rfl ?_
      refine y_getC C 10 12 fX11_soldIn_36 rfl rfl ft_10_6 sm_10_6 rfl hM0 dX11_soldIn_44 ?_
      refine y_getI C 8 _ _ fX11_soldIn_153 rfl rfl ft_8_4 sb_8_4 hM0 dX11_soldIn_47 (fun a117 ea117 la117 ua117 => ?_)
      refine j_callVv C (d := 5) (As := [.ref (ad gp), .ref (ad 12), .int (sI a117)]) (st := []) 88 (s_lt rfl rfl) (s_kc (c := 4) rfl rfl) (by decide) rfl (s2_X5_look hM0 hpr cgp a117 (by omega) (by omega) (by omega) (by omega) (by omega) (by omega)) gX11_soldIn_X5_look rfl hdX5_look (by decide) (Nat.le_of_ble_eq_true rfl) dX11_soldIn_50 rfl (fun M121 h122 => ?_)
      obtain ⟨hM121, fM121, h123⟩ := h122
      have u124a := tn_a (M := M121) (p := gp) (f := rwX M0 gp 12) (by omega)
      refine j_aload_n C 1 0 dX11_soldIn_53 rfl rfl ?_
      refine y_getC C 10 88 fX11_soldIn_94 rfl rfl ft_10_14 sm_10_14 rfl hM121 dX11_soldIn_54 ?_
      refine j_iload_n C 3 2 dX11_soldIn_57 rfl rfl ?_
      refine j_callVv C (d := 3) (As := [.int (sI a2)]) (st := []) 88 (s_lt rfl rfl) (s_kc (c := 4) rfl rfl) (by decide) rfl (s2_X5_passDays hM121 hpr a2 (by omega)) gX11_soldIn_X5_passDays rfl hdX5_passDays (by decide) (Nat.le_of_ble_eq_true rfl) dX11_soldIn_58 rfl (fun M126 h127 => ?_)
      obtain ⟨hM126, fM126⟩ := h127
      refine j_aload_n C 1 0 dX11_soldIn_61 rfl rfl ?_
      refine y_getC C 10 88 fX11_soldIn_94 rfl rfl ft_10_14 sm_10_14 rfl hM126 dX11_soldIn_62 ?_
      refine j_iload_n C 2 1 dX11_soldIn_65 rfl rfl ?_
      refine j_callVj C (d := 0) (As := [.int (sI a1)]) (st := []) 88 (s_lt rfl rfl) (s_kc (c := 4) rfl rfl) (by decide) rfl (s1_X5_soldWays hM126 a1 (by omega)) gX11_soldIn_X5_soldWays rfl hdX5_soldWays (by decide) (Nat.le_of_ble_eq_true rfl) dX11_soldIn_66 rfl (fun r129 M130 h131 => ?_)
      obtain ⟨a133, rfl, rfl, h132⟩ := h131
      refine j_aload_n C 1 0 dX11_soldIn_69 rfl rfl ?_
      refine y_getC C 10 88 fX11_soldIn_94 rfl rfl ft_10_14 sm_10_14 rfl hM126 dX11_soldIn_70 ?_
      refine y_getJ C 4 fX11_soldIn_296 rfl rfl ft_4_7 dX11_soldIn_73 (fun a134 ea134 la134 ua134 => ?_)
      refine j_iload_n C 4 3 dX11_soldIn_76 rfl rfl ?_
      refine j_callSj C (d := 1) (As := [.long (sJ a133), .long (sJ a134), .int (sI a3)]) (st := []) (s1_X11_inLowestTerms hM126 a133 (by omega) a134 (by omega) a3 (by omega)) gX11_soldIn_X11_inLowestTerms rfl hdX11_inLowestTermss (by decide) (Nat.le_of_ble_eq_true rfl) dX11_soldIn_77 rfl (fun r135 M136 h137 => ?_)
      obtain ⟨a139, rfl, rfl, h138⟩ := h137
      have u140A7 := hM121.rd (i := gp) (c := 6) (k := 7) cgp (show s_b 6 7 = (0, 900) from rfl)
      have u140A9 := hM121.rd (i := gp) (c := 6) (k := 9) cgp (show s_b 6 9 = (0, 900) from rfl)
      have u140A := apx_o (M := M121) (N := M126) (p := gp) (ple_f (p := gp) ((FX.rf.tr fM126 (by decide)) : FX [88, 92, 93, 94] M121 M126) cgp (by decide)) (((FX.rf.tr fM126 (by decide)) : FX [88, 92, 93, 94] M121 M126).cell (by decide)) (((FX.rf.tr fM126 (by decide)) : FX [88, 92, 93, 94] M121 M126).cell (by decide)) (((FX.rf.tr fM126 (by decide)) : FX [88, 92, 93, 94] M121 M126).cell (by decide)) u140A7.1 u140A9.1 (by omega)
      exact hret _ _ _ _ dX11_soldIn_80 ⟨a139, rfl, hM126, ((FX.rf.tr fM121 (by decide)).tr fM126 (by decide)), by omega⟩
    · refine j_iload C 0 dX11_soldIn_27 rfl ?_
      refine y_i2l C dX11_soldIn_29 (by omega) ?_
      exact hret _ _ _ _ dX11_soldIn_30 ⟨a113, rfl, hM0, FX.rf, by omega⟩
  refine y_if_eq C 18 dX11_soldIn_5 (by decide) (by omega) (fun h107 => ?_) (fun h107 => ?_)
  · refine y_bipush C dX11_soldIn_18 rfl ?_
    exact J114 (-2) (by omega)
  · refine j_iload_n C 3 3 dX11_soldIn_8 rfl rfl ?_
    refine j_iload_n C 2 2 dX11_soldIn_9 rfl rfl ?_
    refine y_bipush C dX11_soldIn_10 rfl ?_
    refine j_callSi C (d := 0) (As := [.int (sI a3), .int (sI a2), .int (sI 10)]) (st := []) (s1_X11_chanceRefusal hM0 a3 (by omega) a2 (by omega) 10 (by omega)) gX11_soldIn_X11_chanceRefusal rfl hdX11_chanceRefusals (by decide) (Nat.le_of_ble_eq_true rfl) dX11_soldIn_12 rfl (fun r108 M109 h110 => ?_)
    obtain ⟨a112, rfl, rfl, h111⟩ := h110
    refine j_goto C 20 dX11_soldIn_15 (by decide) ?_
    exact J114 a112 (by omega)
set_option maxHeartbeats 4000000 in
theorem s2_X11_hides {l : Launch} {dC : Nat → ClassId} {dI : Nat → Nat → Nat} {ad : Nat → Nat} {cA : Nat → ClassId} {pr : Nat → Nat → Bool} {Kz : mm_M} {M0 : mm_M} (hM0 : INV pr Kz M0) (hpr : PX pr) (a1 : Int) (ha1 : -2147483648 ≤ a1 ∧ a1 ≤ 2147483647) (a2 : Int) (ha2 : -2147483648 ≤ a2 ∧ a2 ≤ 2147483647) (a3 : Int) (ha3 : -2147483648 ≤ a3 ∧ a3 ≤ 2147483647) (gp : Nat) (cgp : s_c gp = 6) (egp : gp = M0.2.2 0 4) (hp0 : b01 (APX M0 gp) = 1) (hp1 : b01 (LAW M0 gp) = 1) (hp2 : b01 (PRR (rwX M0 gp 12)) = 1) (hp3 : (M0.1 12 3).toInt < pw2 (M0.1 12 0).toInt) : Ci l 6 yX11_hides wsX11_hides dC dI ad cA [.ref (ad 0), .int (sI a1), .int (sI a2), .int (sI a3)] M0 (fun r M' => ∃ a : Int, r = sI a ∧ INV pr Kz M' ∧ FX [81, 82, 83, 84, 85, 86, 88, 89, 90, 92, 93, 94] M0 M' ∧ (-5) ≤ a ∧ a ≤ 255 ∧ (b01 (APX M' gp) = 1)) := by
  refine ci_of (cc := cX11_hides) (maxL := 11) (ty := .int) (lv := [(0, .ref (ad 0)), (1, .int (sI a1)), (2, .int (sI a2)), (3, .int (sI a3))]) (by decide) rfl (fun r M' hp => rfl) (Nat.le_of_ble_eq_true rfl) rfl ?_
  intro p e s m args below meth c A Q C hret
  refine j_iload_n C 3 3 dX11_hides_0 rfl rfl ?_
  refine y_if_lt C 9 dX11_hides_1 (by decide) (by omega) (fun h102 => ?_) (fun h102 => ?_)
  · refine y_bipush C dX11_hides_9 rfl ?_
    exact hret _ _ _ _ dX11_hides_11 ⟨(-2), rfl, hM0, FX.rf, by omega⟩
  · refine j_iload_n C 3 3 dX11_hides_4 rfl rfl ?_
    refine y_iconst C dX11_hides_5 ?_
    refine y_icmp_le C 12 dX11_hides_6 (by decide) (by omega) (fun h104 => ?_) (fun h104 => ?_)
    · refine j_iload_n C 1 1 dX11_hides_12 rfl rfl ?_
      refine y_if_lt C 32 dX11_hides_13 (by decide) (by omega) (fun h105 => ?_) (fun h105 => ?_)
      · refine y_bipush C dX11_hides_32 rfl ?_
        exact hret _ _ _ _ dX11_hides_34 ⟨(-3), rfl, hM0, FX.rf, by omega⟩
      · refine j_iload_n C 1 1 dX11_hides_16 rfl rfl ?_
        refine y_iconst C dX11_hides_17 ?_
        refine y_icmp_gt C 32 dX11_hides_18 (by decide) (by omega) (fun h107 => ?_) (fun h107 => ?_)
        · refine y_bipush C dX11_hides_32 rfl ?_
          exact hret _ _ _ _ dX11_hides_34 ⟨(-3), rfl, hM0, FX.rf, by omega⟩
        · refine j_iload_n C 2 2 dX11_hides_21 rfl rfl ?_
          refine y_iconst C dX11_hides_22 ?_
          refine y_icmp_lt C 32 dX11_hides_23 (by decide) (by omega) (fun h109 => ?_) (fun h109 => ?_)
          · refine y_bipush C dX11_hides_32 rfl ?_
            exact hret _ _ _ _ dX11_hides_34 ⟨(-3), rfl, hM0, FX.rf, by omega⟩
          · refine j_iload_n C 2 2 dX11_hides_26 rfl rfl ?_
            refine y_bipush C dX11_hides_27 rfl ?_
            refine y_icmp_le C 35 dX11_hides_29 (by decide) (by omega) (fun h111 => ?_) (fun h111 => ?_)
            · refine j_aload_n C 0 0 dX11_hides_35 rfl rfl ?_
              refine y_getC C 10 12 fX11_hides_36 rfl rfl ft_10_6 sm_10_6 rfl hM0 dX11_hides_36 ?_
              refine j_callVi C (d := 1) (As := []) (st := []) 12 (s_lt rfl rfl) (s_kc (c := 8) rfl rfl) (by decide) rfl (s1_X9_isShut hM0 rfl) gX11_hides_X9_isShut rfl hdX9_isShut (by decide) (Nat.le_of_ble_eq_true rfl) dX11_hides_39 rfl (fun r112 M113 h114 => ?_)
              obtain ⟨a116, rfl, rfl, h115⟩ := h114
              refine y_if_eq C 48 dX11_hides_42 (by decide) (by omega) (fun h117 => ?_) (fun h117 => ?_)
              · refine y_iconst C dX11_hides_48 ?_
                refine j_istore C 4 [(4, .int (sI 0)), (0, .ref (ad 0)), (1, .int (sI a1)), (2, .int (sI a2)), (3, .int (sI a3))] dX11_hides_49 (by decide) rfl ?_
                refine y_ldc2 C (-1) dX11_hides_51 kX11_hides_219 rfl ?_
                refine j_lstore C 5 [(5, .long (sJ (-1))), (4, .int (sI 0)), (0, .ref (ad 0)), (1, .int (sI a1)), (2, .int (sI a2)), (3, .int (sI a3))] dX11_hides_54 (by decide) rfl ?_
                refine y_iconst C dX11_hides_56 ?_
                refine j_istore C 7 [(7, .int (sI 0)), (5, .long (sJ (-1))), (4, .int (sI 0)), (0, .ref (ad 0)), (1, .int (sI a1)), (2, .int (sI a2)), (3, .int (sI a3))] dX11_hides_57 (by decide) rfl ?_
                have L6061 : ∀ (n6059 : Nat), ∀ (a6062 : Int) (a6063 : Int) (a6064 : Int) (M6065 : mm_M), (0 ≤ a6062 ∧ a6062 ≤ 255 ∧ (-9223372036854775808) ≤ a6063 ∧ a6063 ≤ 9223372036854775807 ∧ 0 ≤ a6064 ∧ a6064 ≤ 4 ∧ (b01 (APX M6065 gp) = 1) ∧ (4 - a6064) < (n6059 : Int)) → INV pr Kz M6065 → FX [81, 82, 83, 84, 85, 86, 88, 89, 90, 92, 93, 94] M0 M6065 → jj p l e (cn_R 6) s m args below meth c 0 0 Q 11 dC dI ad cA A M6065 59 [(0, .ref (ad 0)), (1, .int (sI a1)), (2, .int (sI a2)), (3, .int (sI a3)), (4, .int (sI a6062)), (5, .long (sJ a6063)), (7, .int (sI a6064))] [] := by
                  intro n6059
                  induction n6059 with
                  | zero =>
                    intro a6062 a6063 a6064 M6065 h6066 hM6065 fM6065
                    exfalso; omega
                  | succ n6059 ih6060 =>
                    intro a6062 a6063 a6064 M6065 h6066 hM6065 fM6065
                    refine j_iload C 6 dX11_hides_59 rfl ?_
                    refine j_iload_n C 1 1 dX11_hides_61 rfl rfl ?_
                    refine y_icmp_gt C 171 dX11_hides_62 (by decide) (by omega) (fun h6068 => ?_) (fun h6068 => ?_)
                    · refine j_iload_n C 3 3 dX11_hides_171 rfl rfl ?_
                      refine y_if_ne C 183 dX11_hides_172 (by decide) (by omega) (fun h7251 => ?_) (fun h7251 => ?_)
                      · refine j_iload C 4 dX11_hides_183 rfl ?_
                        exact hret _ _ _ _ dX11_hides_185 ⟨a6062, rfl, hM6065, (FX.rf.tr fM6065 (by decide)), by omega⟩
                      · refine j_iload C 4 dX11_hides_175 rfl ?_
                        refine j_callSi C (d := 0) (As := [.int (sI a6062)]) (st := []) (s1_J6_bitCount_0f7a4 hM6065 a6062 (by omega)) gX11_hides_J6_bitCount_0f7a4 rfl hdJ6_bitCount_0f7a4s (by decide) (Nat.le_of_ble_eq_true rfl) dX11_hides_177 rfl (fun r7253 M7254 h7255 => ?_)
                        obtain ⟨a7257, rfl, rfl, h7256⟩ := h7255
                        refine j_goto C 185 dX11_hides_180 (by decide) ?_
                        exact hret _ _ _ _ dX11_hides_185 ⟨a7257, rfl, hM6065, (FX.rf.tr fM6065 (by decide)), by omega⟩
                    · refine y_iconst C dX11_hides_65 ?_
                      refine j_istore C 8 [(8, .int (sI 0)), (0, .ref (ad 0)), (1, .int (sI a1)), (2, .int (sI a2)), (3, .int (sI a3)), (4, .int (sI a6062)), (5, .long (sJ a6063)), (7, .int (sI a6064))] dX11_hides_66 (by decide) rfl ?_
                      have L7206 : ∀ (n7204 : Nat), ∀ (a7207 : Int) (a7208 : Int) (a7209 : Int) (M7210 : mm_M), (0 ≤ a7207 ∧ a7207 ≤ 255 ∧ (-9223372036854775808) ≤ a7208 ∧ a7208 ≤ 9223372036854775807 ∧ 0 ≤ a7209 ∧ a7209 ≤ 256 ∧ (b01 (APX M7210 gp) = 1) ∧ (256 - a7209) < (n7204 : Int)) → INV pr Kz M7210 → FX [81, 82, 83, 84, 85, 86, 88, 89, 90, 92, 93, 94] M0 M7210 → jj p l e (cn_R 6) s m args below meth c 0 0 Q 11 dC dI ad cA A M7210 68 [(0, .ref (ad 0)), (1, .int (sI a1)), (2, .int (sI a2)), (3, .int (sI a3)), (4, .int (sI a7207)), (5, .long (sJ a7208)), (7, .int (sI a6064)), (8, .int (sI a7209))] [] := by
                        intro n7204
                        induction n7204 with
                        | zero =>
                          intro a7207 a7208 a7209 M7210 h7211 hM7210 fM7210
                          exfalso; omega
                        | succ n7204 ih7205 =>
                          intro a7207 a7208 a7209 M7210 h7211 hM7210 fM7210
                          refine j_iload C 7 dX11_hides_68 rfl ?_
                          refine j_aload_n C 0 0 dX11_hides_70 rfl rfl ?_
                          refine y_getC C 10 12 fX11_hides_36 rfl rfl ft_10_6 sm_10_6 rfl hM7210 dX11_hides_71 ?_
                          refine j_callVi C (d := 0) (As := []) (st := [.int (sI a7209)]) 12 (s_lt rfl rfl) (s_kc (c := 8) rfl rfl) (by decide) rfl (s1_X9_everyKind hM7210 rfl) gX11_hides_X9_everyKind rfl hdX9_everyKind (by decide) (Nat.le_of_ble_eq_true rfl) dX11_hides_74 rfl (fun r7213 M7214 h7215 => ?_)
                          obtain ⟨a7217, rfl, rfl, h7216⟩ := h7215
                          refine y_icmp_gt C 165 dX11_hides_77 (by decide) (by omega) (fun h7218 => ?_) (fun h7218 => ?_)
                          · refine y_iinc C 6 [(7, .int (sI (a6064 + 1))), (0, .ref (ad 0)), (1, .int (sI a1)), (2, .int (sI a2)), (3, .int (sI a3)), (4, .int (sI a7207)), (5, .long (sJ a7208)), (8, .int (sI a7209))] dX11_hides_165 rfl (by decide) rfl ?_
                            refine j_goto C 59 dX11_hides_168 (by decide) ?_
                            refine j_lv [1, 2, 3, 4, 5, 6, 0] rfl ?_; exact ih6060 a7207 a7208 (a6064 + 1) M7210 (by omega) hM7210 (FX.rf.tr fM7210 (by decide))
                          · refine j_aload_n C 0 0 dX11_hides_80 rfl rfl ?_
                            refine j_iload C 7 dX11_hides_81 rfl ?_
                            refine j_iload C 6 dX11_hides_83 rfl ?_
                            refine j_callVi C (d := 1) (As := [.int (sI a7209), .int (sI a6064)]) (st := []) 0 (s_lt rfl rfl) (s_kc (c := 10) rfl rfl) (by decide) rfl (s1_X11_isHideable hM7210 a7209 (by omega) a6064 (by omega)) gX11_hides_X11_isHideable rfl hdX11_isHideable (by decide) (Nat.le_of_ble_eq_true rfl) dX11_hides_85 rfl (fun r7219 M7220 h7221 => ?_)
                            obtain ⟨a7223, rfl, rfl, h7222⟩ := h7221
                            refine y_if_eq C 159 dX11_hides_88 (by decide) (by omega) (fun h7224 => ?_) (fun h7224 => ?_)
                            · refine y_iinc C 7 [(8, .int (sI (a7209 + 1))), (0, .ref (ad 0)), (1, .int (sI a1)), (2, .int (sI a2)), (3, .int (sI a3)), (4, .int (sI a7207)), (5, .long (sJ a7208)), (7, .int (sI a6064))] dX11_hides_159 rfl (by decide) rfl ?_
                              refine j_goto C 68 dX11_hides_162 (by decide) ?_
                              refine j_lv [1, 2, 3, 4, 5, 6, 7, 0] rfl ?_; exact ih7205 a7207 a7208 (a7209 + 1) M7210 (by omega) hM7210 (FX.rf.tr fM7210 (by decide))
                            · refine j_aload_n C 0 0 dX11_hides_91 rfl rfl ?_
                              refine y_getC C 10 88 fX11_hides_94 rfl rfl ft_10_14 sm_10_14 rfl hM7210 dX11_hides_92 ?_
                              refine j_aload_n C 0 0 dX11_hides_95 rfl rfl ?_
                              refine y_getV C 10 gp fX11_hides_26 rfl rfl ft_10_4 (s_pX fM7210 (egp)) dX11_hides_96 ?_
                              refine j_aload_n C 0 0 dX11_hides_99 rfl rfl ?_
                              refine y_getC C 10 12 fX11_hides_36 rfl rfl ft_10_6 sm_10_6 rfl hM7210 dX11_hides_100 ?_
                              refine j_aload_n C 0 0 dX11_hides_103 rfl rfl ?_
                              refine y_getC C 10 12 fX11_hides_36 rfl rfl ft_10_6 sm_10_6 rfl hM7210 dX11_hides_104 ?_
                              refine y_getI C 8 _ _ fX11_hides_153 rfl rfl ft_8_4 sb_8_4 hM7210 dX11_hides_107 (fun a7226 ea7226 la7226 ua7226 => ?_)
                              have qa7226 : a7226 = (M0.1 12 4).toInt := s_fX fM7210 (by decide) (ea7226)
                              refine j_iload C 7 dX11_hides_110 rfl ?_
                              refine y_iorN C 8 255 dX11_hides_112 rfl (by decide) (by omega) (fun a7228 la7228 ua7228 => ?_)
                              have u7229L7 := hM0.rd (i := gp) (c := 6) (k := 7) cgp (show s_b 6 7 = (0, 900) from rfl)
                              have u7229L9 := hM0.rd (i := gp) (c := 6) (k := 9) cgp (show s_b 6 9 = (0, 900) from rfl)
                              have u7229L := law_p (M := M0) (N := M7210) (p := gp) (ple_f (p := gp) ((FX.rf.tr fM7210 (by decide)) : FX [81, 82, 83, 84, 85, 86, 88, 89, 90, 92, 93, 94] M0 M7210) cgp (by decide)) u7229L7.1 u7229L9.1 (by omega)
                              have u7229e : rwX M7210 gp 12 = rwX M0 gp 12 := (rx_f (p := gp) (v := 12) (ple_f (p := gp) ((FX.rf.tr fM7210 (by decide)) : FX [81, 82, 83, 84, 85, 86, 88, 89, 90, 92, 93, 94] M0 M7210) cgp (by decide)) (ske_n ((FX.rf.tr fM7210 (by decide)) : FX [81, 82, 83, 84, 85, 86, 88, 89, 90, 92, 93, 94] M0 M7210) ⟨by decide, by decide, by decide⟩))
                              have u7229R : b01 (PRR (rwX M7210 gp 12)) = 1 := by rw [u7229e]; omega
                              have u7229S : (M7210.1 12 3).toInt < pw2 (M7210.1 12 0).toInt := by rw [((FX.rf.tr fM7210 (by decide)) : FX [81, 82, 83, 84, 85, 86, 88, 89, 90, 92, 93, 94] M0 M7210).cell (i := 12) (by decide)]; omega
                              refine j_callVv C (d := 5) (As := [.ref (ad gp), .ref (ad 12), .int (sI a7228)]) (st := []) 88 (s_lt rfl rfl) (s_kc (c := 4) rfl rfl) (by decide) rfl (s2_X5_look hM7210 hpr cgp a7228 (by omega) (by omega) (by omega) (by omega) (by omega) (by omega)) gX11_hides_X5_look rfl hdX5_look (by decide) (Nat.le_of_ble_eq_true rfl) dX11_hides_113 rfl (fun M7231 h7232 => ?_)
                              obtain ⟨hM7231, fM7231, h7233⟩ := h7232
                              have u7234a := tn_a (M := M7231) (p := gp) (f := rwX M7210 gp 12) (by omega)
                              refine j_aload_n C 0 0 dX11_hides_116 rfl rfl ?_
                              refine y_getC C 10 88 fX11_hides_94 rfl rfl ft_10_14 sm_10_14 rfl hM7231 dX11_hides_117 ?_
                              refine j_iload_n C 2 2 dX11_hides_120 rfl rfl ?_
                              refine j_callVv C (d := 3) (As := [.int (sI a2)]) (st := []) 88 (s_lt rfl rfl) (s_kc (c := 4) rfl rfl) (by decide) rfl (s2_X5_passDays hM7231 hpr a2 (by omega)) gX11_hides_X5_passDays rfl hdX5_passDays (by decide) (Nat.le_of_ble_eq_true rfl) dX11_hides_121 rfl (fun M7236 h7237 => ?_)
                              obtain ⟨hM7236, fM7236⟩ := h7237
                              refine j_aload_n C 0 0 dX11_hides_124 rfl rfl ?_
                              refine y_getC C 10 88 fX11_hides_94 rfl rfl ft_10_14 sm_10_14 rfl hM7236 dX11_hides_125 ?_
                              refine j_callVj C (d := 1) (As := []) (st := []) 88 (s_lt rfl rfl) (s_kc (c := 4) rfl rfl) (by decide) rfl (s1_X5_openWays hM7236) gX11_hides_X5_openWays rfl hdX5_openWays (by decide) (Nat.le_of_ble_eq_true rfl) dX11_hides_128 rfl (fun r7239 M7240 h7241 => ?_)
                              obtain ⟨a7243, rfl, rfl, h7242⟩ := h7241
                              refine j_lstore C 9 [(9, .long (sJ a7243)), (0, .ref (ad 0)), (1, .int (sI a1)), (2, .int (sI a2)), (3, .int (sI a3)), (4, .int (sI a7207)), (5, .long (sJ a7208)), (7, .int (sI a6064)), (8, .int (sI a7209))] dX11_hides_131 (by decide) rfl ?_
                              refine j_lload C 0 dX11_hides_133 rfl ?_
                              refine j_lload C 6 dX11_hides_135 rfl ?_
                              have J7246 : ∀ (a7245 : Int), (0 ≤ a7245 ∧ a7245 ≤ 255) → jj p l e (cn_R 6) s m args below meth c 0 0 Q 11 dC dI ad cA A M7236 148 [(0, .ref (ad 0)), (1, .int (sI a1)), (2, .int (sI a2)), (3, .int (sI a3)), (5, .long (sJ a7208)), (7, .int (sI a6064)), (8, .int (sI a7209)), (9, .long (sJ a7243))] [.int (sI a7245)] := by
                                intro a7245 h7247
                                refine j_istore C 4 [(4, .int (sI a7245)), (0, .ref (ad 0)), (1, .int (sI a1)), (2, .int (sI a2)), (3, .int (sI a3)), (5, .long (sJ a7208)), (7, .int (sI a6064)), (8, .int (sI a7209)), (9, .long (sJ a7243))] dX11_hides_148 (by decide) rfl ?_
                                refine j_lload C 5 dX11_hides_150 rfl ?_
                                refine j_lload C 8 dX11_hides_152 rfl ?_
                                refine y_mmaxl C wX11_hides_330_0 wX11_hides_330_1 wX11_hides_330_2 wX11_hides_330_3 (by decide) (Nat.le_of_ble_eq_true rfl) dX11_hides_154 (fun a7248 la7248 ua7248 => ?_)
                                refine j_lstore C 5 [(5, .long (sJ a7248)), (4, .int (sI a7245)), (0, .ref (ad 0)), (1, .int (sI a1)), (2, .int (sI a2)), (3, .int (sI a3)), (7, .int (sI a6064)), (8, .int (sI a7209)), (9, .long (sJ a7243))] dX11_hides_157 (by decide) rfl ?_
                                refine y_iinc C 7 [(8, .int (sI (a7209 + 1))), (5, .long (sJ a7248)), (4, .int (sI a7245)), (0, .ref (ad 0)), (1, .int (sI a1)), (2, .int (sI a2)), (3, .int (sI a3)), (7, .int (sI a6064)), (9, .long (sJ a7243))] dX11_hides_159 rfl (by decide) rfl ?_
                                refine j_goto C 68 dX11_hides_162 (by decide) ?_
                                have u7249A7 := hM7231.rd (i := gp) (c := 6) (k := 7) cgp (show s_b 6 7 = (0, 900) from rfl)
                                have u7249A9 := hM7231.rd (i := gp) (c := 6) (k := 9) cgp (show s_b 6 9 = (0, 900) from rfl)
                                have u7249A := apx_o (M := M7231) (N := M7236) (p := gp) (ple_f (p := gp) ((FX.rf.tr fM7236 (by decide)) : FX [88, 92, 93, 94] M7231 M7236) cgp (by decide)) (((FX.rf.tr fM7236 (by decide)) : FX [88, 92, 93, 94] M7231 M7236).cell (by decide)) (((FX.rf.tr fM7236 (by decide)) : FX [88, 92, 93, 94] M7231 M7236).cell (by decide)) (((FX.rf.tr fM7236 (by decide)) : FX [88, 92, 93, 94] M7231 M7236).cell (by decide)) u7249A7.1 u7249A9.1 (by omega)
                                refine j_lv [3, 4, 5, 6, 2, 1, 7, 0] rfl ?_; exact ih7205 a7245 a7248 (a7209 + 1) M7236 (by omega) hM7236 (((FX.rf.tr fM7210 (by decide)).tr fM7231 (by decide)).tr fM7236 (by decide))
                              refine y_lcmp_le C 146 dX11_hides_137 dX11_hides_138 (by decide) (by omega) (fun h7244 => ?_) (fun h7244 => ?_)
                              · refine j_iload C 5 dX11_hides_146 rfl ?_
                                refine j_lv [1, 2, 3, 4, 6, 7, 8, 0] rfl ?_; exact J7246 a7207 (by omega)
                              · refine j_iload C 8 dX11_hides_141 rfl ?_
                                refine j_goto C 148 dX11_hides_143 (by decide) ?_
                                refine j_lv [1, 2, 3, 4, 6, 7, 8, 0] rfl ?_; exact J7246 a7209 (by omega)
                      refine j_lv [1, 2, 3, 4, 5, 6, 7, 0] rfl ?_; exact L7206 2010 a6062 a6063 0 M6065 (by omega) hM6065 (FX.rf.tr fM6065 (by decide))
                refine j_lv [3, 4, 5, 6, 2, 1, 0] rfl ?_; exact L6061 2010 0 (-1) 0 M0 (by omega) hM0 FX.rf
              · refine y_bipush C dX11_hides_45 rfl ?_
                exact hret _ _ _ _ dX11_hides_47 ⟨(-5), rfl, hM0, FX.rf, by omega⟩
            · refine y_bipush C dX11_hides_32 rfl ?_
              exact hret _ _ _ _ dX11_hides_34 ⟨(-3), rfl, hM0, FX.rf, by omega⟩
    · refine y_bipush C dX11_hides_9 rfl ?_
      exact hret _ _ _ _ dX11_hides_11 ⟨(-2), rfl, hM0, FX.rf, by omega⟩
set_option maxHeartbeats 4000000 in
theorem s3_X5_measure {l : Launch} {dC : Nat → ClassId} {dI : Nat → Nat → Nat} {ad : Nat → Nat} {cA : Nat → ClassId} {pr : Nat → Nat → Bool} {Kz : mm_M} {M0 : mm_M} (hM0 : INV pr Kz M0) (hpr : PX pr) (a1 : Int) (ha1 : -2147483648 ≤ a1 ∧ a1 ≤ 2147483647) : Ci l 2 yX5_measure wsX5_measure dC dI ad cA [.ref (ad 88), .int (sI a1)] M0 (fun r M' => ∃ a : Int, r = sI a ∧ INV pr Kz M' ∧ FX [91] M0 M' ∧ (-2147483648) ≤ a ∧ a ≤ 2147483647) := by
  refine ci_of (cc := cX5_measure) (maxL := 3) (ty := .int) (lv := [(0, .ref (ad 88)), (1, .int (sI a1))]) (by decide) rfl (fun r M' hp => rfl) (Nat.le_of_ble_eq_true rfl) rfl ?_
  intro p e s m args below meth c A Q C hret
  refine j_aload_n C 0 0 dX5_measure_0 rfl rfl ?_
  refine y_getI C 4 _ _ fX5_measure_38 rfl rfl ft_4_11 sb_4_11 hM0 dX5_measure_1 (fun a101 ea101 la101 ua101 => ?_)
  refine j_istore_n C 2 [(2, .int (sI a101)), (0, .ref (ad 88)), (1, .int (sI a1))] dX5_measure_4 rfl (by decide) rfl ?_
  have L145 : ∀ (n143 : Nat), ∀ (a146 : Int) (M147 : mm_M), ((-1) ≤ a146 ∧ a146 ≤ 255 ∧ (a146 - (-1)) < (n143 : Int)) → INV pr Kz M147 → FX [91] M0 M147 → jj p l e (cn_R 2) s m args below meth c 0 0 Q 3 dC dI ad cA A M147 5 [(0, .ref (ad 88)), (1, .int (sI a1)), (2, .int (sI a146))] [] := by
    intro n143
    induction n143 with
    | zero =>
      intro a146 M147 h148 hM147 fM147
      exfalso; omega
    | succ n143 ih144 =>
      intro a146 M147 h148 hM147 fM147
      refine j_iload_n C 2 2 dX5_measure_5 rfl rfl ?_
      refine j_aload_n C 0 0 dX5_measure_6 rfl rfl ?_
      refine y_getI C 4 _ _ fX5_measure_45 rfl rfl ft_4_13 sb_4_13 hM147 dX5_measure_7 (fun a149 ea149 la149 ua149 => ?_)
      refine y_icmp_lt C 53 dX5_measure_10 (by decide) (by omega) (fun h151 => ?_) (fun h151 => ?_)
      · refine j_aload_n C 0 0 dX5_measure_53 rfl rfl ?_
        refine y_getC C 4 91 fX5_measure_18 rfl rfl ft_4_3 sm_4_3 rfl hM147 dX5_measure_54 ?_
        refine j_aload_n C 0 0 dX5_measure_57 rfl rfl ?_
        refine y_getI C 4 _ _ fX5_measure_45 rfl rfl ft_4_13 sb_4_13 hM147 dX5_measure_58 (fun a167 ea167 la167 ua167 => ?_)
        refine y_iald C 40 256 _ _ rfl rfl rfl ak_40 an_40 rfl (sb_40 _) hM147 dX5_measure_61 (by omega) (fun a169 ea169 la169 ua169 => ?_)
        exact hret _ _ _ _ dX5_measure_62 ⟨a169, rfl, hM147, (FX.rf.tr fM147 (by decide)), by omega⟩
      · refine j_aload_n C 0 0 dX5_measure_13 rfl rfl ?_
        refine y_getC C 4 90 fX5_measure_15 rfl rfl ft_4_2 sm_4_2 rfl hM147 dX5_measure_14 ?_
        refine j_iload_n C 2 2 dX5_measure_17 rfl rfl ?_
        refine y_iald C 39 256 _ _ rfl rfl rfl ak_39 an_39 rfl (sb_39 _) hM147 dX5_measure_18 (by omega) (fun a152 ea152 la152 ua152 => ?_)
        refine y_iconst C dX5_measure_19 ?_
        refine y_icmp_ne C 47 dX5_measure_20 (by decide) (by omega) (fun h153 => ?_) (fun h153 => ?_)
        · refine y_iinc C 2 [(2, .int (sI (a146 + (-1)))), (0, .ref (ad 88)), (1, .int (sI a1))] dX5_measure_47 rfl (by decide) rfl ?_
          refine j_goto C 5 dX5_measure_50 (by decide) ?_
          refine j_lv [1, 2, 0] rfl ?_; exact ih144 (a146 + (-1)) M147 (by omega) hM147 (FX.rf.tr fM147 (by decide))
        · refine j_aload_n C 0 0 dX5_measure_23 rfl rfl ?_
          refine y_getC C 4 91 fX5_measure_18 rfl rfl ft_4_3 sm_4_3 rfl hM147 dX5_measure_24 ?_
          refine j_iload_n C 2 2 dX5_measure_27 rfl rfl ?_
          refine j_aload_n C 0 0 dX5_measure_28 rfl rfl ?_
          refine j_iload_n C 2 2 dX5_measure_29 rfl rfl ?_
          refine j_callVi C (d := 0) (As := [.int (sI a146)]) (st := [.int (sI a146), .ref (ad 91)]) 88 (s_lt rfl rfl) (s_kc (c := 4) rfl rfl) (by decide) rfl (s1_X5_isShutAt hM147 a146 (by omega)) gX5_measure_X5_isShutAt rfl hdX5_isShutAt (by decide) (Nat.le_of_ble_eq_true rfl) dX5_measure_30 rfl (fun r154 M155 h156 => ?_)
          obtain ⟨a158, rfl, rfl, h157⟩ := h156
          refine y_if_eq C 40 dX5_measure_33 (by decide) (by omega) (fun h159 => ?_) (fun h159 => ?_)
          · refine j_aload_n C 0 0 dX5_measure_40 rfl rfl ?_
            refine j_iload_n C 2 2 dX5_measure_41 rfl rfl ?_
            refine j_iload_n C 1 1 dX5_measure_42 rfl rfl ?_
            refine j_callVi C (d := 1) (As := [.int (sI a146), .int (sI a1)]) (st := [.int (sI a146), .ref (ad 91)]) 88 (s_lt rfl rfl) (s_kc (c := 4) rfl rfl) (by decide) rfl (s1_X5_stepsFrom hM147 a146 (by omega) a1 (by omega) (by omega)) gX5_measure_X5_stepsFrom rfl hdX5_stepsFrom (by decide) (Nat.le_of_ble_eq_true rfl) dX5_measure_43 rfl (fun r160 M161 h162 => ?_)
            obtain ⟨a164, rfl, rfl, h163⟩ := h162
            refine y_iastF C 40 256 rfl rfl rfl ak_40 an_40 rfl (sb_40 _) hM147 (PX.w hpr rfl rfl) dX5_measure_46 (by omega) (fun M165 eM165 hM165 => ?_)
            refine y_iinc C 2 [(2, .int (sI (a146 + (-1)))), (0, .ref (ad 88)), (1, .int (sI a1))] dX5_measure_47 rfl (by decide) rfl ?_
            refine j_goto C 5 dX5_measure_50 (by decide) ?_
            refine j_lv [1, 2, 0] rfl ?_; exact ih144 (a146 + (-1)) M165 (by omega) hM165 ((FX.rf.tr fM147 (by decide)).wI eM165 (by decide))
          · refine y_iconst C dX5_measure_36 ?_
            refine j_goto C 46 dX5_measure_37 (by decide) ?_
            refine y_iastF C 40 256 rfl rfl rfl ak_40 an_40 rfl (sb_40 _) hM147 (PX.w hpr rfl rfl) dX5_measure_46 (by omega) (fun M166 eM166 hM166 => ?_)
            refine y_iinc C 2 [(2, .int (sI (a146 + (-1)))), (0, .ref (ad 88)), (1, .int (sI a1))] dX5_measure_47 rfl (by decide) rfl ?_
            refine j_goto C 5 dX5_measure_50 (by decide) ?_
            refine j_lv [1, 2, 0] rfl ?_; exact ih144 (a146 + (-1)) M166 (by omega) hM166 ((FX.rf.tr fM147 (by decide)).wI eM166 (by decide))
  refine j_lv [1, 2, 0] rfl ?_; exact L145 2010 a101 M0 (by omega) hM0 FX.rf
set_option maxHeartbeats 4000000 in
theorem s3_X5_shortest {l : Launch} {dC : Nat → ClassId} {dI : Nat → Nat → Nat} {ad : Nat → Nat} {cA : Nat → ClassId} {pr : Nat → Nat → Bool} {Kz : mm_M} {M0 : mm_M} (hM0 : INV pr Kz M0) (hpr : PX pr)  : Ci l 3 yX5_shortest wsX5_shortest dC dI ad cA [.ref (ad 88)] M0 (fun r M' => ∃ a : Int, r = sI a ∧ INV pr Kz M' ∧ FX [91] M0 M' ∧ (-2147483648) ≤ a ∧ a ≤ 2147483647) := by
  refine ci_of (cc := cX5_shortest) (maxL := 1) (ty := .int) (lv := [(0, .ref (ad 88))]) (by decide) rfl (fun r M' hp => rfl) (Nat.le_of_ble_eq_true rfl) rfl ?_
  intro p e s m args below meth c A Q C hret
  refine j_aload_n C 0 0 dX5_shortest_0 rfl rfl ?_
  refine y_iconst C dX5_shortest_1 ?_
  refine j_aload_n C 0 0 dX5_shortest_2 rfl rfl ?_
  refine y_getM C 4 6 fX5_shortest_52 rfl rfl ft_4_9 sm_4_9 (by decide) hM0 dX5_shortest_3 (fun v101 ev101 cv101 => ?_)
  refine y_getI C 6 _ _ fX5_shortest_92 cv101 rfl ft_6_0 sb_6_0 hM0 dX5_shortest_6 (fun a102 ea102 la102 ua102 => ?_)
  refine y_shl1 C 6 64 dX5_shortest_9 rfl (by decide) (by omega) (fun a104 la104 ua104 => ?_)
  refine y_iconst C dX5_shortest_10 ?_
  refine y_isub C dX5_shortest_11 ?_
  refine j_callVi C (d := 2) (As := [.int (sI (a104 - 1))]) (st := []) 88 (s_lt rfl rfl) (s_kc (c := 4) rfl rfl) (by decide) rfl (s3_X5_measure hM0 hpr (a104 - 1) (by omega)) gX5_shortest_X5_measure rfl hdX5_measure (by decide) (Nat.le_of_ble_eq_true rfl) dX5_shortest_12 rfl (fun r105 M106 h107 => ?_)
  obtain ⟨a109, rfl, hM106, fM106, h108⟩ := h107
  exact hret _ _ _ _ dX5_shortest_15 ⟨a109, rfl, hM106, (FX.rf.tr fM106 (by decide)), by omega⟩
set_option maxHeartbeats 4000000 in
theorem s2_X11_rota {l : Launch} {dC : Nat → ClassId} {dI : Nat → Nat → Nat} {ad : Nat → Nat} {cA : Nat → ClassId} {pr : Nat → Nat → Bool} {Kz : mm_M} {M0 : mm_M} (hM0 : INV pr Kz M0) (hpr : PX pr) (a1 : Int) (ha1 : -2147483648 ≤ a1 ∧ a1 ≤ 2147483647) (gp : Nat) (cgp : s_c gp = 6) (egp : gp = M0.2.2 0 4) (hp0 : b01 (APX M0 gp) = 1) (hp1 : b01 (LAW M0 gp) = 1) (hp2 : b01 (PRR (rwX M0 gp 12)) = 1) (hp3 : (M0.1 12 3).toInt < pw2 (M0.1 12 0).toInt) : Ci l 6 yX11_rota wsX11_rota dC dI ad cA [.ref (ad 0), .int (sI a1)] M0 (fun r M' => ∃ a : Int, r = sI a ∧ INV pr Kz M' ∧ FX [81, 82, 83, 84, 85, 86, 88, 89, 90, 91] M0 M' ∧ (-5) ≤ a ∧ a ≤ 255 ∧ (b01 (APX M' gp) = 1)) := by
  refine ci_of (cc := cX11_rota) (maxL := 5) (ty := .int) (lv := [(0, .ref (ad 0)), (1, .int (sI a1))]) (by decide) rfl (fun r M' hp => rfl) (Nat.le_of_ble_eq_true rfl) rfl ?_
  intro p e s m args below meth c A Q C hret
  refine j_iload_n C 1 1 dX11_rota_0 rfl rfl ?_
  refine y_if_lt C 9 dX11_rota_1 (by decide) (by omega) (fun h102 => ?_) (fun h102 => ?_)
  · refine y_bipush C dX11_rota_9 rfl ?_
    exact hret _ _ _ _ dX11_rota_11 ⟨(-2), rfl, hM0, FX.rf, by omega⟩
  · refine j_iload_n C 1 1 dX11_rota_4 rfl rfl ?_
    refine y_iconst C dX11_rota_5 ?_
    refine y_icmp_le C 12 dX11_rota_6 (by decide) (by omega) (fun h104 => ?_) (fun h104 => ?_)
    · refine j_aload_n C 0 0 dX11_rota_12 rfl rfl ?_
      refine y_getC C 10 12 fX11_rota_36 rfl rfl ft_10_6 sm_10_6 rfl hM0 dX11_rota_13 ?_
      refine j_callVi C (d := 1) (As := []) (st := []) 12 (s_lt rfl rfl) (s_kc (c := 8) rfl rfl) (by decide) rfl (s1_X9_isShut hM0 rfl) gX11_rota_X9_isShut rfl hdX9_isShut (by decide) (Nat.le_of_ble_eq_true rfl) dX11_rota_16 rfl (fun r105 M106 h107 => ?_)
      obtain ⟨a109, rfl, rfl, h108⟩ := h107
      refine y_if_eq C 25 dX11_rota_19 (by decide) (by omega) (fun h110 => ?_) (fun h110 => ?_)
      · refine j_aload_n C 0 0 dX11_rota_25 rfl rfl ?_
        refine y_getC C 10 88 fX11_rota_94 rfl rfl ft_10_14 sm_10_14 rfl hM0 dX11_rota_26 ?_
        refine j_aload_n C 0 0 dX11_rota_29 rfl rfl ?_
        refine y_getV C 10 gp fX11_rota_26 rfl rfl ft_10_4 (egp) dX11_rota_30 ?_
        refine j_aload_n C 0 0 dX11_rota_33 rfl rfl ?_
        refine y_getC C 10 12 fX11_rota_36 rfl rfl ft_10_6 sm_10_6 rfl hM0 dX11_rota_34 ?_
        refine j_aload_n C 0 0 dX11_rota_37 rfl rfl ?_
        refine y_getC C 10 12 fX11_rota_36 rfl rfl ft_10_6 sm_10_6 rfl hM0 dX11_rota_38 ?_
        refine y_getI C 8 _ _ fX11_rota_153 rfl rfl ft_8_4 sb_8_4 hM0 dX11_rota_41 (fun a111 ea111 la111 ua111 => ?_)
        refine j_callVv C (d := 5) (As := [.ref (ad gp), .ref (ad 12), .int (sI a111)]) (st := []) 88 (s_lt rfl rfl) (s_kc (c := 4) rfl rfl) (by decide) rfl (s2_X5_look hM0 hpr cgp a111 (by omega) (by omega) (by omega) (by omega) (by omega) (by omega)) gX11_rota_X5_look rfl hdX5_look (by decide) (Nat.le_of_ble_eq_true rfl) dX11_rota_44 rfl (fun M115 h116 => ?_)
        obtain ⟨hM115, fM115, h117⟩ := h116
        have u118a := tn_a (M := M115) (p := gp) (f := rwX M0 gp 12) (by omega)
        refine j_aload_n C 0 0 dX11_rota_47 rfl rfl ?_
        refine y_getC C 10 88 fX11_rota_94 rfl rfl ft_10_14 sm_10_14 rfl hM115 dX11_rota_48 ?_
        refine j_callVi C (d := 1) (As := []) (st := []) 88 (s_lt rfl rfl) (s_kc (c := 4) rfl rfl) (by decide) rfl (s1_X5_takersNow hM115) gX11_rota_X5_takersNow rfl hdX5_takersNow (by decide) (Nat.le_of_ble_eq_true rfl) dX11_rota_51 rfl (fun r119 M120 h121 => ?_)
        obtain ⟨a123, rfl, rfl, h122⟩ := h121
        refine j_istore_n C 2 [(2, .int (sI a123)), (0, .ref (ad 0)), (1, .int (sI a1))] dX11_rota_54 rfl (by decide) rfl ?_
        refine y_iconst C dX11_rota_55 ?_
        refine j_istore_n C 3 [(3, .int (sI 0)), (2, .int (sI a123)), (0, .ref (ad 0)), (1, .int (sI a1))] dX11_rota_56 rfl (by decide) rfl ?_
        have L12556 : ∀ (n12554 : Nat), ∀ (a12557 : Int) (M12558 : mm_M), (0 ≤ a12557 ∧ a12557 ≤ 9 ∧ (b01 (APX M12558 gp) = 1) ∧ (9 - a12557) < (n12554 : Int)) → INV pr Kz M12558 → FX [81, 82, 83, 84, 85, 86, 88, 89, 90, 91] M0 M12558 → jj p l e (cn_R 6) s m args below meth c 0 0 Q 5 dC dI ad cA A M12558 57 [(0, .ref (ad 0)), (1, .int (sI a1)), (2, .int (sI a123)), (3, .int (sI a12557))] [] := by
          intro n12554
          induction n12554 with
          | zero =>
            intro a12557 M12558 h12559 hM12558 fM12558
            exfalso; omega
          | succ n12554 ih12555 =>
            intro a12557 M12558 h12559 hM12558 fM12558
            refine j_iload_n C 3 3 dX11_rota_57 rfl rfl ?_
            refine j_aload_n C 0 0 dX11_rota_58 rfl rfl ?_
            refine y_getC C 10 12 fX11_rota_36 rfl rfl ft_10_6 sm_10_6 rfl hM12558 dX11_rota_59 ?_
            refine y_getI C 8 _ _ fX11_rota_160 rfl rfl ft_8_0 sb_8_0 hM12558 dX11_rota_62 (fun a12561 ea12561 la12561 ua12561 => ?_)
            have qa12561 : a12561 = (M0.1 12 0).toInt := s_fX fM12558 (by decide) (ea12561)
            refine y_icmp_gt C 166 dX11_rota_65 (by decide) (by omega) (fun h12563 => ?_) (fun h12563 => ?_)
            · refine y_iconst C dX11_rota_166 ?_
              exact hret _ _ _ _ dX11_rota_167 ⟨(-1), rfl, hM12558, (FX.rf.tr fM12558 (by decide)), by omega⟩
            · refine y_iconst C dX11_rota_68 ?_
              refine j_istore C 4 [(4, .int (sI 0)), (0, .ref (ad 0)), (1, .int (sI a1)), (2, .int (sI a123)), (3, .int (sI a12557))] dX11_rota_69 (by decide) rfl ?_
              have L13755 : ∀ (n13753 : Nat), ∀ (a13756 : Int) (M13757 : mm_M), (0 ≤ a13756 ∧ a13756 ≤ 256 ∧ (b01 (APX M13757 gp) = 1) ∧ (256 - a13756) < (n13753 : Int)) → INV pr Kz M13757 → FX [81, 82, 83, 84, 85, 86, 88, 89, 90, 91] M0 M13757 → jj p l e (cn_R 6) s m args below meth c 0 0 Q 5 dC dI ad cA A M13757 71 [(0, .ref (ad 0)), (1, .int (sI a1)), (2, .int (sI a123)), (3, .int (sI a12557)), (4, .int (sI a13756))] [] := by
                intro n13753
                induction n13753 with
                | zero =>
                  intro a13756 M13757 h13758 hM13757 fM13757
                  exfalso; omega
                | succ n13753 ih13754 =>
                  intro a13756 M13757 h13758 hM13757 fM13757
                  refine j_iload C 4 dX11_rota_71 rfl ?_
                  refine j_aload_n C 0 0 dX11_rota_73 rfl rfl ?_
                  refine y_getC C 10 12 fX11_rota_36 rfl rfl ft_10_6 sm_10_6 rfl hM13757 dX11_rota_74 ?_
                  refine j_callVi C (d := 0) (As := []) (st := [.int (sI a13756)]) 12 (s_lt rfl rfl) (s_kc (c := 8) rfl rfl) (by decide) rfl (s1_X9_everyKind hM13757 rfl) gX11_rota_X9_everyKind rfl hdX9_everyKind (by decide) (Nat.le_of_ble_eq_true rfl) dX11_rota_77 rfl (fun r13760 M13761 h13762 => ?_)
                  obtain ⟨a13764, rfl, rfl, h13763⟩ := h13762
                  refine y_icmp_gt C 160 dX11_rota_80 (by decide) (by omega) (fun h13765 => ?_) (fun h13765 => ?_)
                  · refine y_iinc C 3 [(3, .int (sI (a12557 + 1))), (0, .ref (ad 0)), (1, .int (sI a1)), (2, .int (sI a123)), (4, .int (sI a13756))] dX11_rota_160 rfl (by decide) rfl ?_
                    refine j_goto C 57 dX11_rota_163 (by decide) ?_
                    refine j_lv [1, 2, 3, 0] rfl ?_; exact ih12555 (a12557 + 1) M13757 (by omega) hM13757 (FX.rf.tr fM13757 (by decide))
                  · refine j_aload_n C 0 0 dX11_rota_83 rfl rfl ?_
                    refine j_iload C 4 dX11_rota_84 rfl ?_
                    refine j_iload_n C 3 3 dX11_rota_86 rfl rfl ?_
                    refine j_callVi C (d := 1) (As := [.int (sI a13756), .int (sI a12557)]) (st := []) 0 (s_lt rfl rfl) (s_kc (c := 10) rfl rfl) (by decide) rfl (s1_X11_isHideable hM13757 a13756 (by omega) a12557 (by omega)) gX11_rota_X11_isHideable rfl hdX11_isHideable (by decide) (Nat.le_of_ble_eq_true rfl) dX11_rota_87 rfl (fun r13767 M13768 h13769 => ?_)
                    obtain ⟨a13771, rfl, rfl, h13770⟩ := h13769
                    refine y_if_eq C 154 dX11_rota_90 (by decide) (by omega) (fun h13772 => ?_) (fun h13772 => ?_)
                    · refine y_iinc C 4 [(4, .int (sI (a13756 + 1))), (0, .ref (ad 0)), (1, .int (sI a1)), (2, .int (sI a123)), (3, .int (sI a12557))] dX11_rota_154 rfl (by decide) rfl ?_
                      refine j_goto C 71 dX11_rota_157 (by decide) ?_
                      refine j_lv [1, 2, 3, 4, 0] rfl ?_; exact ih13754 (a13756 + 1) M13757 (by omega) hM13757 (FX.rf.tr fM13757 (by decide))
                    · refine j_aload_n C 0 0 dX11_rota_93 rfl rfl ?_
                      refine y_getC C 10 88 fX11_rota_94 rfl rfl ft_10_14 sm_10_14 rfl hM13757 dX11_rota_94 ?_
                      refine j_aload_n C 0 0 dX11_rota_97 rfl rfl ?_
                      refine y_getV C 10 gp fX11_rota_26 rfl rfl ft_10_4 (s_pX fM13757 (egp)) dX11_rota_98 ?_
                      refine j_aload_n C 0 0 dX11_rota_101 rfl rfl ?_
                      refine y_getC C 10 12 fX11_rota_36 rfl rfl ft_10_6 sm_10_6 rfl hM13757 dX11_rota_102 ?_
                      refine j_aload_n C 0 0 dX11_rota_105 rfl rfl ?_
                      refine y_getC C 10 12 fX11_rota_36 rfl rfl ft_10_6 sm_10_6 rfl hM13757 dX11_rota_106 ?_
                      refine y_getI C 8 _ _ fX11_rota_153 rfl rfl ft_8_4 sb_8_4 hM13757 dX11_rota_109 (fun a13774 ea13774 la13774 ua13774 => ?_)
                      have qa13774 : a13774 = a111 := (s_fX fM13757 (by decide) (ea13774)).trans ea111.symm
                      refine j_iload C 4 dX11_rota_112 rfl ?_
                      refine y_iorN C 8 255 dX11_rota_114 rfl (by decide) (by omega) (fun a13776 la13776 ua13776 => ?_)
                      have u13777L7 := hM0.rd (i := gp) (c := 6) (k := 7) cgp (show s_b 6 7 = (0, 900) from rfl)
                      have u13777L9 := hM0.rd (i := gp) (c := 6) (k := 9) cgp (show s_b 6 9 = (0, 900) from rfl)
                      have u13777L := law_p (M := M0) (N := M13757) (p := gp) (ple_f (p := gp) ((FX.rf.tr fM13757 (by decide)) : FX [81, 82, 83, 84, 85, 86, 88, 89, 90, 91] M0 M13757) cgp (by decide)) u13777L7.1 u13777L9.1 (by omega)
                      have u13777e : rwX M13757 gp 12 = rwX M0 gp 12 := (rx_f (p := gp) (v := 12) (ple_f (p := gp) ((FX.rf.tr fM13757 (by decide)) : FX [81, 82, 83, 84, 85, 86, 88, 89, 90, 91] M0 M13757) cgp (by decide)) (ske_n ((FX.rf.tr fM13757 (by decide)) : FX [81, 82, 83, 84, 85, 86, 88, 89, 90, 91] M0 M13757) ⟨by decide, by decide, by decide⟩))
                      have u13777R : b01 (PRR (rwX M13757 gp 12)) = 1 := by rw [u13777e]; omega
                      have u13777S : (M13757.1 12 3).toInt < pw2 (M13757.1 12 0).toInt := by rw [((FX.rf.tr fM13757 (by decide)) : FX [81, 82, 83, 84, 85, 86, 88, 89, 90, 91] M0 M13757).cell (i := 12) (by decide)]; omega
                      refine j_callVv C (d := 5) (As := [.ref (ad gp), .ref (ad 12), .int (sI a13776)]) (st := []) 88 (s_lt rfl rfl) (s_kc (c := 4) rfl rfl) (by decide) rfl (s2_X5_look hM13757 hpr cgp a13776 (by omega) (by omega) (by omega) (by omega) (by omega) (by omega)) gX11_rota_X5_look rfl hdX5_look (by decide) (Nat.le_of_ble_eq_true rfl) dX11_rota_115 rfl (fun M13779 h13780 => ?_)
                      obtain ⟨hM13779, fM13779, h13781⟩ := h13780
                      have u13782a := tn_a (M := M13779) (p := gp) (f := rwX M13757 gp 12) (by omega)
                      refine j_iload_n C 2 2 dX11_rota_118 rfl rfl ?_
                      refine j_aload_n C 0 0 dX11_rota_119 rfl rfl ?_
                      refine y_getC C 10 88 fX11_rota_94 rfl rfl ft_10_14 sm_10_14 rfl hM13779 dX11_rota_120 ?_
                      refine j_callVi C (d := 1) (As := []) (st := [.int (sI a123)]) 88 (s_lt rfl rfl) (s_kc (c := 4) rfl rfl) (by decide) rfl (s1_X5_takersNow hM13779) gX11_rota_X5_takersNow rfl hdX5_takersNow (by decide) (Nat.le_of_ble_eq_true rfl) dX11_rota_123 rfl (fun r13783 M13784 h13785 => ?_)
                      obtain ⟨a13787, rfl, rfl, h13786⟩ := h13785
                      refine y_iconst C dX11_rota_126 ?_
                      refine y_not C dX11_rota_127 ?_
                      refine y_iandL C dX11_rota_128 (by omega) (fun a13788 la13788 ua13788 => ?_)
                      refine y_if_ne C 154 dX11_rota_129 (by decide) (by omega) (fun h13789 => ?_) (fun h13789 => ?_)
                      · refine y_iinc C 4 [(4, .int (sI (a13756 + 1))), (0, .ref (ad 0)), (1, .int (sI a1)), (2, .int (sI a123)), (3, .int (sI a12557))] dX11_rota_154 rfl (by decide) rfl ?_
                        refine j_goto C 71 dX11_rota_157 (by decide) ?_
                        refine j_lv [1, 2, 3, 4, 0] rfl ?_; exact ih13754 (a13756 + 1) M13779 (by omega) hM13779 ((FX.rf.tr fM13757 (by decide)).tr fM13779 (by decide))
                      · refine j_aload_n C 0 0 dX11_rota_132 rfl rfl ?_
                        refine y_getC C 10 88 fX11_rota_94 rfl rfl ft_10_14 sm_10_14 rfl hM13779 dX11_rota_133 ?_
                        refine j_callVi C (d := 3) (As := []) (st := []) 88 (s_lt rfl rfl) (s_kc (c := 4) rfl rfl) (by decide) rfl (s3_X5_shortest hM13779 hpr) gX11_rota_X5_shortest rfl hdX5_shortest (by decide) (Nat.le_of_ble_eq_true rfl) dX11_rota_136 rfl (fun r13791 M13792 h13793 => ?_)
                        obtain ⟨a13795, rfl, hM13792, fM13792, h13794⟩ := h13793
                        refine y_iconst C dX11_rota_139 ?_
                        refine y_icmp_ne C 154 dX11_rota_140 (by decide) (by omega) (fun h13796 => ?_) (fun h13796 => ?_)
                        · refine y_iinc C 4 [(4, .int (sI (a13756 + 1))), (0, .ref (ad 0)), (1, .int (sI a1)), (2, .int (sI a123)), (3, .int (sI a12557))] dX11_rota_154 rfl (by decide) rfl ?_
                          refine j_goto C 71 dX11_rota_157 (by decide) ?_
                          have u13797A7 := hM13779.rd (i := gp) (c := 6) (k := 7) cgp (show s_b 6 7 = (0, 900) from rfl)
                          have u13797A9 := hM13779.rd (i := gp) (c := 6) (k := 9) cgp (show s_b 6 9 = (0, 900) from rfl)
                          have u13797A := apx_o (M := M13779) (N := M13792) (p := gp) (ple_f (p := gp) ((FX.rf.tr fM13792 (by decide)) : FX [91] M13779 M13792) cgp (by decide)) (((FX.rf.tr fM13792 (by decide)) : FX [91] M13779 M13792).cell (by decide)) (((FX.rf.tr fM13792 (by decide)) : FX [91] M13779 M13792).cell (by decide)) (((FX.rf.tr fM13792 (by decide)) : FX [91] M13779 M13792).cell (by decide)) u13797A7.1 u13797A9.1 (by omega)
                          refine j_lv [1, 2, 3, 4, 0] rfl ?_; exact ih13754 (a13756 + 1) M13792 (by omega) hM13792 (((FX.rf.tr fM13757 (by decide)).tr fM13779 (by decide)).tr fM13792 (by decide))
                        · refine j_iload_n C 1 1 dX11_rota_143 rfl rfl ?_
                          refine y_if_ne C 151 dX11_rota_144 (by decide) (by omega) (fun h13798 => ?_) (fun h13798 => ?_)
                          · refine j_iload C 4 dX11_rota_151 rfl ?_
                            have u13799A7 := hM13779.rd (i := gp) (c := 6) (k := 7) cgp (show s_b 6 7 = (0, 900) from rfl)
                            have u13799A9 := hM13779.rd (i := gp) (c := 6) (k := 9) cgp (show s_b 6 9 = (0, 900) from rfl)
                            have u13799A := apx_o (M := M13779) (N := M13792) (p := gp) (ple_f (p := gp) ((FX.rf.tr fM13792 (by decide)) : FX [91] M13779 M13792) cgp (by decide)) (((FX.rf.tr fM13792 (by decide)) : FX [91] M13779 M13792).cell (by decide)) (((FX.rf.tr fM13792 (by decide)) : FX [91] M13779 M13792).cell (by decide)) (((FX.rf.tr fM13792 (by decide)) : FX [91] M13779 M13792).cell (by decide)) u13799A7.1 u13799A9.1 (by omega)
                            exact hret _ _ _ _ dX11_rota_153 ⟨a13756, rfl, hM13792, (((FX.rf.tr fM13757 (by decide)).tr fM13779 (by decide)).tr fM13792 (by decide)), by omega⟩
                          · refine j_iload_n C 3 3 dX11_rota_147 rfl rfl ?_
                            refine j_goto C 153 dX11_rota_148 (by decide) ?_
                            have u13800A7 := hM13779.rd (i := gp) (c := 6) (k := 7) cgp (show s_b 6 7 = (0, 900) from rfl)
                            have u13800A9 := hM13779.rd (i := gp) (c := 6) (k := 9) cgp (show s_b 6 9 = (0, 900) from rfl)
                            have u13800A := apx_o (M := M13779) (N := M13792) (p := gp) (ple_f (p := gp) ((FX.rf.tr fM13792 (by decide)) : FX [91] M13779 M13792) cgp (by decide)) (((FX.rf.tr fM13792 (by decide)) : FX [91] M13779 M13792).cell (by decide)) (((FX.rf.tr fM13792 (by decide)) : FX [91] M13779 M13792).cell (by decide)) (((FX.rf.tr fM13792 (by decide)) : FX [91] M13779 M13792).cell (by decide)) u13800A7.1 u13800A9.1 (by omega)
                            exact hret _ _ _ _ dX11_rota_153 ⟨a12557, rfl, hM13792, (((FX.rf.tr fM13757 (by decide)).tr fM13779 (by decide)).tr fM13792 (by decide)), by omega⟩
              refine j_lv [1, 2, 3, 4, 0] rfl ?_; exact L13755 2010 0 M12558 (by omega) hM12558 (FX.rf.tr fM12558 (by decide))
        refine j_lv [2, 3, 1, 0] rfl ?_; exact L12556 2010 0 M115 (by omega) hM115 (FX.rf.tr fM115 (by decide))
      · refine y_bipush C dX11_rota_22 rfl ?_
        exact hret _ _ _ _ dX11_rota_24 ⟨(-5), rfl, hM0, FX.rf, by omega⟩
    · refine y_bipush C dX11_rota_9 rfl ?_
      exact hret _ _ _ _ dX11_rota_11 ⟨(-2), rfl, hM0, FX.rf, by omega⟩
